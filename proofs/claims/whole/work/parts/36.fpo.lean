/-! 36: the operations on floats that the program uses -/

theorem i2_f {a : Int} (ha : 0 ≤ a ∧ a < 16777216) : (a = 0 ∧ Zr_f (FP.i2f (J a))) ∨ (0 < a ∧ Nz_f (FP.i2f (J a)) false (a.toNat * 2 ^ (23 - a.toNat.log2)) ((a.toNat.log2 : Int) - 23)) := by
  obtain ⟨f1, f2, f3, f4, f5, f6⟩ := fm_f
  have e : FP.Core.ofInt a = .fin false a.toNat 0 := by unfold FP.Core.ofInt; rw [decide_eq_false (by omega), show a.natAbs = a.toNat by omega]
  have e1 : FP.i2f (J a) = UInt32.ofNat (FP.Core.encode FP.Core.b32 (FP.Core.roundRatio FP.Core.b32 false a.toNat 1 0)) := by
    show UInt32.ofNat (FP.Core.encode FP.Core.b32 (FP.Core.round FP.Core.b32 (FP.Core.ofInt (J a).toInt))) = _
    rw [J_toInt (by omega), e]; rfl
  rw [e1]
  by_cases h0 : a = 0
  · refine Or.inl ⟨h0, false, ?_⟩
    unfold FP.Core.roundRatio
    rw [if_pos (by omega), f2]
    exact dz_f false
  · refine Or.inr ⟨by omega, ?_⟩
    have hl : a.toNat.log2 < 64 := (Nat.log2_lt (by omega)).mpr (Nat.lt_of_lt_of_le (show a.toNat < 16777216 by omega) (by decide))
    obtain ⟨r1, r2, r3⟩ := rx_f false (num := a.toNat) (e := 0) (by omega) (by omega) (by omega) (by omega)
    rw [r2, show (a.toNat.log2 : Int) + 0 - 23 = (a.toNat.log2 : Int) - 23 by omega]
    exact ⟨de_f r3 (by omega), r3, by omega, by omega⟩
section
variable {x y : UInt32} {s t : Bool} {c d : Nat} {q r : Int}
theorem Nz_f.no (h : Nz_f x s c q) : vf_n32 x := no_f h.1
theorem Zr_f.no (h : Zr_f x) : vf_n32 x := by obtain ⟨s, h⟩ := h; exact no_f h
theorem div_f (hx : Nz_f x s c q) (hy : Nz_f y t d r) (h1 : (-149) ≤ q - r - 23 - 1) (h2 : q - r - 23 < 104) : ∃ m k, Nz_f (FP.fdiv x y) (s != t) m k ∧ q - r - 23 - 1 ≤ k ∧ k ≤ q - r - 23 + 1 ∧ (c < d → k ≤ q - r - 23) ∧ (c = d → m = 8388608 ∧ k = q - r - 23) := by
  obtain ⟨m, k, g1, g2, g3, g4, g5, g6⟩ := rd_f (s != t) hx.2.1 hy.2.1 h1 h2
  have e : FP.fdiv x y = UInt32.ofNat (FP.Core.encode FP.Core.b32 (FP.Core.roundRatio FP.Core.b32 (s != t) c d (q - r))) := by
    show UInt32.ofNat (FP.Core.encode FP.Core.b32 (FP.Core.quotient FP.Core.b32 (FP.Core.decode FP.Core.b32 x.toNat) (FP.Core.decode FP.Core.b32 y.toNat))) = _
    rw [hx.1, hy.1]
    show UInt32.ofNat (FP.Core.encode FP.Core.b32 (if d = 0 then _ else _)) = _
    rw [if_neg (by have := hy.2.1; omega)]
  rw [e, g1]
  exact ⟨m, k, ⟨de_f g2 (by omega), g2, by omega, by omega⟩, g3, g4, g5, g6⟩
theorem divz_f (hx : Zr_f x) (hy : Nz_f y t d r) : Zr_f (FP.fdiv x y) := by
  obtain ⟨s, hx⟩ := hx
  obtain ⟨f1, f2, f3, f4, f5, f6⟩ := fm_f
  refine ⟨s != t, ?_⟩
  have e : FP.fdiv x y = UInt32.ofNat (FP.Core.encode FP.Core.b32 (.fin (s != t) 0 (-149))) := by
    show UInt32.ofNat (FP.Core.encode FP.Core.b32 (FP.Core.quotient FP.Core.b32 (FP.Core.decode FP.Core.b32 x.toNat) (FP.Core.decode FP.Core.b32 y.toNat))) = _
    rw [hx, hy.1]
    show UInt32.ofNat (FP.Core.encode FP.Core.b32 (if d = 0 then _ else _)) = _
    rw [if_neg (by have := hy.2.1; omega)]
    unfold FP.Core.roundRatio
    rw [if_pos rfl, f2]
  rw [e]; exact dz_f _
theorem mulE_f (hx : FP.Core.decode FP.Core.b32 x.toNat = .fin s c q) (hy : FP.Core.decode FP.Core.b32 y.toNat = .fin t d r) : FP.fmul x y = UInt32.ofNat (FP.Core.encode FP.Core.b32 (FP.Core.roundRatio FP.Core.b32 (s != t) (c * d) 1 (q + r))) := by
  show UInt32.ofNat (FP.Core.encode FP.Core.b32 (FP.Core.round FP.Core.b32 (FP.Core.exactProduct (FP.Core.decode FP.Core.b32 x.toNat) (FP.Core.decode FP.Core.b32 y.toNat)))) = _
  rw [hx, hy]; rfl
theorem mul_f (hx : Nz_f x s c q) (hy : Nz_f y t d r) (h1 : (-149) ≤ q + r + 23) (h2 : q + r + 23 + 1 < 104) : ∃ m k, Nz_f (FP.fmul x y) (s != t) m k ∧ q + r + 23 ≤ k ∧ k ≤ q + r + 23 + 2 := by
  have a1 : 8388608 * 8388608 ≤ c * d := Nat.mul_le_mul hx.2.1.1 hy.2.1.1
  have a2 : c * d < 16777216 * 16777216 := Nat.mul_lt_mul'' hx.2.1.2 hy.2.1.2
  have l1 : 23 + 23 ≤ (c * d).log2 := (Nat.le_log2 (by omega)).mpr (by rw [show (2 : Nat) ^ (23 + 23) = 8388608 * 8388608 by decide]; exact a1)
  have l2 : (c * d).log2 < 23 + 23 + 2 := (Nat.log2_lt (by omega)).mpr (by rw [show (2 : Nat) ^ (23 + 23 + 2) = 16777216 * 16777216 by decide]; exact a2)
  obtain ⟨m, k, g1, g2, g3, g4⟩ := rr_f (s != t) (num := c * d) (e := q + r) (by omega) (by omega) (by omega)
  rw [mulE_f hx.1 hy.1, g1]
  exact ⟨m, k, ⟨de_f g2 (by omega), g2, by omega, by omega⟩, by omega, by omega⟩
theorem mulz_f (hx : Zr_f x) (hy : FP.Core.decode FP.Core.b32 y.toNat = .fin t d r) : Zr_f (FP.fmul x y) := by
  obtain ⟨s, hx⟩ := hx
  obtain ⟨f1, f2, f3, f4, f5, f6⟩ := fm_f
  refine ⟨s != t, ?_⟩
  rw [mulE_f hx hy, Nat.zero_mul]
  unfold FP.Core.roundRatio
  rw [if_pos rfl, f2]
  exact dz_f _
/-- times a power of two -/
theorem mulp_f (hx : Nz_f x false c q) (hy : FP.Core.decode FP.Core.b32 y.toNat = .fin false 8388608 r) (h1 : (-149) ≤ q + r + 23) (h2 : q + r + 23 ≤ 104) : Nz_f (FP.fmul x y) false c (q + r + 23) := by
  rw [mulE_f hx.1 hy, show (false != false) = false from rfl, rm_f false hx.2.1 h1 h2]
  exact ⟨de_f hx.2.1 ⟨h1, h2⟩, hx.2.1, h1, h2⟩
theorem subE_f (hx : FP.Core.decode FP.Core.b32 x.toNat = .fin s c q) (hy : FP.Core.decode FP.Core.b32 y.toNat = .fin t d r) : FP.fsub x y = UInt32.ofNat (FP.Core.encode FP.Core.b32 (FP.Core.roundRatio FP.Core.b32 (FP.Core.sumSign s (!t) (FP.Core.sumUnits s c q (!t) d r (min q r))) (FP.Core.sumUnits s c q (!t) d r (min q r)).natAbs 1 (min q r))) := by
  show UInt32.ofNat (FP.Core.encode FP.Core.b32 (FP.Core.round FP.Core.b32 (FP.Core.exactSum (FP.Core.decode FP.Core.b32 x.toNat) (FP.Core.negate (FP.Core.decode FP.Core.b32 y.toNat))))) = _
  rw [hx, hy]; rfl
/-- from a number between one and two, one -/
theorem sub1_f (hx : Nz_f x false c (-23)) (hy : FP.Core.decode FP.Core.b32 y.toNat = .fin false 8388608 (-23)) : (c = 8388608 ∧ FP.Core.decode FP.Core.b32 (FP.fsub x y).toNat = .fin false 0 (-149)) ∨ (8388608 < c ∧ Nz_f (FP.fsub x y) false ((c - 8388608) * 2 ^ (23 - (c - 8388608).log2)) (((c - 8388608).log2 : Int) - 46) ∧ (c - 8388608).log2 ≤ 23) := by
  obtain ⟨f1, f2, f3, f4, f5, f6⟩ := fm_f
  have hc := hx.2.1
  have eu : FP.Core.sumUnits false c (-23) (!false) 8388608 (-23) (min (-23) (-23)) = (c : Int) - 8388608 := by
    unfold FP.Core.sumUnits FP.Core.signed FP.Core.inUnits
    rw [show ((-23 : Int) - min (-23) (-23)).toNat = 0 by decide, Nat.pow_zero, Nat.mul_one]
    show (if false = true then -(c : Int) else (c : Int)) + (if (!false) = true then -((8388608 * 1 : Nat) : Int) else ((8388608 * 1 : Nat) : Int)) = _
    rw [if_neg (by decide), if_pos (by decide)]; omega
  have es : FP.Core.sumSign false (!false) ((c : Int) - 8388608) = false := by
    unfold FP.Core.sumSign
    split
    · rfl
    · exact decide_eq_false (by omega)
  rw [subE_f hx.1 hy, eu, es, show ((c : Int) - 8388608).natAbs = c - 8388608 by omega, show min (-23 : Int) (-23) = -23 by decide]
  by_cases h0 : c = 8388608
  · refine Or.inl ⟨h0, ?_⟩
    unfold FP.Core.roundRatio
    rw [if_pos (by omega), f2]
    exact dz_f false
  · have hl : (c - 8388608).log2 < 23 + 1 := (Nat.log2_lt (by omega)).mpr (by rw [show (2 : Nat) ^ (23 + 1) = 16777216 by decide]; omega)
    obtain ⟨r1, r2, r3⟩ := rx_f false (num := c - 8388608) (e := -23) (by omega) (by omega) (by omega) (by omega)
    rw [r2, show (((c - 8388608).log2 : Nat) : Int) + -23 - 23 = (((c - 8388608).log2 : Nat) : Int) - 46 by omega]
    exact Or.inr ⟨by omega, ⟨de_f r3 (by omega), r3, by omega, by omega⟩, r1⟩
/-- the order of two numbers above zero -/
theorem cmp_f (hx : Nz_f x false c q) (hy : Nz_f y false d r) : FP.fcmp x y = some (if q < r then .lt else if r < q then .gt else compare (c : Int) (d : Int)) := by
  have e : FP.fcmp x y = some (compare (FP.Core.signed false (FP.Core.inUnits c q (min q r))) (FP.Core.signed false (FP.Core.inUnits d r (min q r)))) := by
    show FP.Core.order (FP.Core.decode FP.Core.b32 x.toNat) (FP.Core.decode FP.Core.b32 y.toNat) = _
    rw [hx.1, hy.1]; rfl
  have s1 : ∀ n : Nat, FP.Core.signed false n = (n : Int) := fun n => rfl
  rw [e, s1, s1]
  unfold FP.Core.inUnits
  congr 1
  have hc := hx.2.1
  have hd := hy.2.1
  by_cases g : q < r
  · rw [if_pos g, show (q - min q r).toNat = 0 by omega, Nat.pow_zero, Nat.mul_one]
    obtain ⟨j, hj⟩ : ∃ j, (r - min q r).toNat = j + 1 := ⟨(r - min q r).toNat - 1, by omega⟩
    rw [hj, Nat.pow_succ]
    have hp := Nat.two_pow_pos j
    have : d * 2 ≤ d * (2 ^ j * 2) := Nat.mul_le_mul_left _ (by omega)
    exact Int.compare_eq_lt.mpr (by omega)
  · rw [if_neg g]
    by_cases g2 : r < q
    · rw [if_pos g2, show (r - min q r).toNat = 0 by omega, Nat.pow_zero, Nat.mul_one]
      obtain ⟨j, hj⟩ : ∃ j, (q - min q r).toNat = j + 1 := ⟨(q - min q r).toNat - 1, by omega⟩
      rw [hj, Nat.pow_succ]
      have hp := Nat.two_pow_pos j
      have : c * 2 ≤ c * (2 ^ j * 2) := Nat.mul_le_mul_left _ (by omega)
      exact Int.compare_eq_gt.mpr (by omega)
    · rw [if_neg g2, show (q - min q r).toNat = 0 by omega, show (r - min q r).toNat = 0 by omega, Nat.pow_zero, Nat.mul_one, Nat.mul_one]
theorem cmp0_f (hx : Nz_f x false c q) : FP.fcmp x FP.fconst0 = some .gt := by
  have hy : FP.Core.decode FP.Core.b32 (FP.fconst0).toNat = .fin false 0 (-149) := by decide
  have e : FP.fcmp x FP.fconst0 = some (compare (FP.Core.signed false (FP.Core.inUnits c q (min q (-149)))) (FP.Core.signed false (FP.Core.inUnits 0 (-149) (min q (-149))))) := by
    show FP.Core.order (FP.Core.decode FP.Core.b32 x.toNat) (FP.Core.decode FP.Core.b32 (FP.fconst0).toNat) = _
    rw [hx.1, hy]; rfl
  have s1 : ∀ n : Nat, FP.Core.signed false n = (n : Int) := fun n => rfl
  rw [e, s1, s1]
  unfold FP.Core.inUnits
  have hc := hx.2.1
  have hp := Nat.two_pow_pos (q - min q (-149)).toNat
  have : c * 1 ≤ c * 2 ^ (q - min q (-149)).toNat := Nat.mul_le_mul_left _ hp
  rw [Nat.zero_mul]
  congr 1
  exact Int.compare_eq_gt.mpr (by omega)
theorem cmpz_f (hx : Zr_f x) : FP.fcmp x FP.fconst0 = some .eq := by
  obtain ⟨s, hx⟩ := hx
  have hy : FP.Core.decode FP.Core.b32 (FP.fconst0).toNat = .fin false 0 (-149) := by decide
  show FP.Core.order (FP.Core.decode FP.Core.b32 x.toNat) (FP.Core.decode FP.Core.b32 (FP.fconst0).toNat) = _
  rw [hx, hy]
  cases s <;> decide
end

theorem i2_d {a : Int} (ha : 0 ≤ a ∧ a < 2147483648) : (a = 0 ∧ Zr_d (FP.i2d (J a))) ∨ (0 < a ∧ Nz_d (FP.i2d (J a)) false (a.toNat * 2 ^ (52 - a.toNat.log2)) ((a.toNat.log2 : Int) - 52)) := by
  obtain ⟨f1, f2, f3, f4, f5, f6⟩ := fm_d
  have e : FP.Core.ofInt a = .fin false a.toNat 0 := by unfold FP.Core.ofInt; rw [decide_eq_false (by omega), show a.natAbs = a.toNat by omega]
  have e1 : FP.i2d (J a) = UInt64.ofNat (FP.Core.encode FP.Core.b64 (FP.Core.roundRatio FP.Core.b64 false a.toNat 1 0)) := by
    show UInt64.ofNat (FP.Core.encode FP.Core.b64 (FP.Core.round FP.Core.b64 (FP.Core.ofInt (J a).toInt))) = _
    rw [J_toInt (by omega), e]; rfl
  rw [e1]
  by_cases h0 : a = 0
  · refine Or.inl ⟨h0, false, ?_⟩
    unfold FP.Core.roundRatio
    rw [if_pos (by omega), f2]
    exact dz_d false
  · refine Or.inr ⟨by omega, ?_⟩
    have hl : a.toNat.log2 < 64 := (Nat.log2_lt (by omega)).mpr (Nat.lt_of_lt_of_le (show a.toNat < 2147483648 by omega) (by decide))
    obtain ⟨r1, r2, r3⟩ := rx_d false (num := a.toNat) (e := 0) (by omega) (by omega) (by omega) (by omega)
    rw [r2, show (a.toNat.log2 : Int) + 0 - 52 = (a.toNat.log2 : Int) - 52 by omega]
    exact ⟨de_d r3 (by omega), r3, by omega, by omega⟩
section
variable {x y : UInt64} {s t : Bool} {c d : Nat} {q r : Int}
theorem Nz_d.no (h : Nz_d x s c q) : vf_n64 x := no_d h.1
theorem Zr_d.no (h : Zr_d x) : vf_n64 x := by obtain ⟨s, h⟩ := h; exact no_d h
theorem div_d (hx : Nz_d x s c q) (hy : Nz_d y t d r) (h1 : (-1074) ≤ q - r - 52 - 1) (h2 : q - r - 52 < 971) : ∃ m k, Nz_d (FP.ddiv x y) (s != t) m k ∧ q - r - 52 - 1 ≤ k ∧ k ≤ q - r - 52 + 1 ∧ (c < d → k ≤ q - r - 52) ∧ (c = d → m = 4503599627370496 ∧ k = q - r - 52) := by
  obtain ⟨m, k, g1, g2, g3, g4, g5, g6⟩ := rd_d (s != t) hx.2.1 hy.2.1 h1 h2
  have e : FP.ddiv x y = UInt64.ofNat (FP.Core.encode FP.Core.b64 (FP.Core.roundRatio FP.Core.b64 (s != t) c d (q - r))) := by
    show UInt64.ofNat (FP.Core.encode FP.Core.b64 (FP.Core.quotient FP.Core.b64 (FP.Core.decode FP.Core.b64 x.toNat) (FP.Core.decode FP.Core.b64 y.toNat))) = _
    rw [hx.1, hy.1]
    show UInt64.ofNat (FP.Core.encode FP.Core.b64 (if d = 0 then _ else _)) = _
    rw [if_neg (by have := hy.2.1; omega)]
  rw [e, g1]
  exact ⟨m, k, ⟨de_d g2 (by omega), g2, by omega, by omega⟩, g3, g4, g5, g6⟩
theorem divz_d (hx : Zr_d x) (hy : Nz_d y t d r) : Zr_d (FP.ddiv x y) := by
  obtain ⟨s, hx⟩ := hx
  obtain ⟨f1, f2, f3, f4, f5, f6⟩ := fm_d
  refine ⟨s != t, ?_⟩
  have e : FP.ddiv x y = UInt64.ofNat (FP.Core.encode FP.Core.b64 (.fin (s != t) 0 (-1074))) := by
    show UInt64.ofNat (FP.Core.encode FP.Core.b64 (FP.Core.quotient FP.Core.b64 (FP.Core.decode FP.Core.b64 x.toNat) (FP.Core.decode FP.Core.b64 y.toNat))) = _
    rw [hx, hy.1]
    show UInt64.ofNat (FP.Core.encode FP.Core.b64 (if d = 0 then _ else _)) = _
    rw [if_neg (by have := hy.2.1; omega)]
    unfold FP.Core.roundRatio
    rw [if_pos rfl, f2]
  rw [e]; exact dz_d _
theorem mulE_d (hx : FP.Core.decode FP.Core.b64 x.toNat = .fin s c q) (hy : FP.Core.decode FP.Core.b64 y.toNat = .fin t d r) : FP.dmul x y = UInt64.ofNat (FP.Core.encode FP.Core.b64 (FP.Core.roundRatio FP.Core.b64 (s != t) (c * d) 1 (q + r))) := by
  show UInt64.ofNat (FP.Core.encode FP.Core.b64 (FP.Core.round FP.Core.b64 (FP.Core.exactProduct (FP.Core.decode FP.Core.b64 x.toNat) (FP.Core.decode FP.Core.b64 y.toNat)))) = _
  rw [hx, hy]; rfl
theorem mul_d (hx : Nz_d x s c q) (hy : Nz_d y t d r) (h1 : (-1074) ≤ q + r + 52) (h2 : q + r + 52 + 1 < 971) : ∃ m k, Nz_d (FP.dmul x y) (s != t) m k ∧ q + r + 52 ≤ k ∧ k ≤ q + r + 52 + 2 := by
  have a1 : 4503599627370496 * 4503599627370496 ≤ c * d := Nat.mul_le_mul hx.2.1.1 hy.2.1.1
  have a2 : c * d < 9007199254740992 * 9007199254740992 := Nat.mul_lt_mul'' hx.2.1.2 hy.2.1.2
  have l1 : 52 + 52 ≤ (c * d).log2 := (Nat.le_log2 (by omega)).mpr (by rw [show (2 : Nat) ^ (52 + 52) = 4503599627370496 * 4503599627370496 by decide]; exact a1)
  have l2 : (c * d).log2 < 52 + 52 + 2 := (Nat.log2_lt (by omega)).mpr (by rw [show (2 : Nat) ^ (52 + 52 + 2) = 9007199254740992 * 9007199254740992 by decide]; exact a2)
  obtain ⟨m, k, g1, g2, g3, g4⟩ := rr_d (s != t) (num := c * d) (e := q + r) (by omega) (by omega) (by omega)
  rw [mulE_d hx.1 hy.1, g1]
  exact ⟨m, k, ⟨de_d g2 (by omega), g2, by omega, by omega⟩, by omega, by omega⟩
theorem mulz_d (hx : Zr_d x) (hy : FP.Core.decode FP.Core.b64 y.toNat = .fin t d r) : Zr_d (FP.dmul x y) := by
  obtain ⟨s, hx⟩ := hx
  obtain ⟨f1, f2, f3, f4, f5, f6⟩ := fm_d
  refine ⟨s != t, ?_⟩
  rw [mulE_d hx hy, Nat.zero_mul]
  unfold FP.Core.roundRatio
  rw [if_pos rfl, f2]
  exact dz_d _
/-- times a power of two -/
theorem mulp_d (hx : Nz_d x false c q) (hy : FP.Core.decode FP.Core.b64 y.toNat = .fin false 4503599627370496 r) (h1 : (-1074) ≤ q + r + 52) (h2 : q + r + 52 ≤ 971) : Nz_d (FP.dmul x y) false c (q + r + 52) := by
  rw [mulE_d hx.1 hy, show (false != false) = false from rfl, rm_d false hx.2.1 h1 h2]
  exact ⟨de_d hx.2.1 ⟨h1, h2⟩, hx.2.1, h1, h2⟩
theorem subE_d (hx : FP.Core.decode FP.Core.b64 x.toNat = .fin s c q) (hy : FP.Core.decode FP.Core.b64 y.toNat = .fin t d r) : FP.dsub x y = UInt64.ofNat (FP.Core.encode FP.Core.b64 (FP.Core.roundRatio FP.Core.b64 (FP.Core.sumSign s (!t) (FP.Core.sumUnits s c q (!t) d r (min q r))) (FP.Core.sumUnits s c q (!t) d r (min q r)).natAbs 1 (min q r))) := by
  show UInt64.ofNat (FP.Core.encode FP.Core.b64 (FP.Core.round FP.Core.b64 (FP.Core.exactSum (FP.Core.decode FP.Core.b64 x.toNat) (FP.Core.negate (FP.Core.decode FP.Core.b64 y.toNat))))) = _
  rw [hx, hy]; rfl
/-- from a number between one and two, one -/
theorem sub1_d (hx : Nz_d x false c (-52)) (hy : FP.Core.decode FP.Core.b64 y.toNat = .fin false 4503599627370496 (-52)) : (c = 4503599627370496 ∧ FP.Core.decode FP.Core.b64 (FP.dsub x y).toNat = .fin false 0 (-1074)) ∨ (4503599627370496 < c ∧ Nz_d (FP.dsub x y) false ((c - 4503599627370496) * 2 ^ (52 - (c - 4503599627370496).log2)) (((c - 4503599627370496).log2 : Int) - 104) ∧ (c - 4503599627370496).log2 ≤ 52) := by
  obtain ⟨f1, f2, f3, f4, f5, f6⟩ := fm_d
  have hc := hx.2.1
  have eu : FP.Core.sumUnits false c (-52) (!false) 4503599627370496 (-52) (min (-52) (-52)) = (c : Int) - 4503599627370496 := by
    unfold FP.Core.sumUnits FP.Core.signed FP.Core.inUnits
    rw [show ((-52 : Int) - min (-52) (-52)).toNat = 0 by decide, Nat.pow_zero, Nat.mul_one]
    show (if false = true then -(c : Int) else (c : Int)) + (if (!false) = true then -((4503599627370496 * 1 : Nat) : Int) else ((4503599627370496 * 1 : Nat) : Int)) = _
    rw [if_neg (by decide), if_pos (by decide)]; omega
  have es : FP.Core.sumSign false (!false) ((c : Int) - 4503599627370496) = false := by
    unfold FP.Core.sumSign
    split
    · rfl
    · exact decide_eq_false (by omega)
  rw [subE_d hx.1 hy, eu, es, show ((c : Int) - 4503599627370496).natAbs = c - 4503599627370496 by omega, show min (-52 : Int) (-52) = -52 by decide]
  by_cases h0 : c = 4503599627370496
  · refine Or.inl ⟨h0, ?_⟩
    unfold FP.Core.roundRatio
    rw [if_pos (by omega), f2]
    exact dz_d false
  · have hl : (c - 4503599627370496).log2 < 52 + 1 := (Nat.log2_lt (by omega)).mpr (by rw [show (2 : Nat) ^ (52 + 1) = 9007199254740992 by decide]; omega)
    obtain ⟨r1, r2, r3⟩ := rx_d false (num := c - 4503599627370496) (e := -52) (by omega) (by omega) (by omega) (by omega)
    rw [r2, show (((c - 4503599627370496).log2 : Nat) : Int) + -52 - 52 = (((c - 4503599627370496).log2 : Nat) : Int) - 104 by omega]
    exact Or.inr ⟨by omega, ⟨de_d r3 (by omega), r3, by omega, by omega⟩, r1⟩
/-- the order of two numbers above zero -/
theorem cmp_d (hx : Nz_d x false c q) (hy : Nz_d y false d r) : FP.dcmp x y = some (if q < r then .lt else if r < q then .gt else compare (c : Int) (d : Int)) := by
  have e : FP.dcmp x y = some (compare (FP.Core.signed false (FP.Core.inUnits c q (min q r))) (FP.Core.signed false (FP.Core.inUnits d r (min q r)))) := by
    show FP.Core.order (FP.Core.decode FP.Core.b64 x.toNat) (FP.Core.decode FP.Core.b64 y.toNat) = _
    rw [hx.1, hy.1]; rfl
  have s1 : ∀ n : Nat, FP.Core.signed false n = (n : Int) := fun n => rfl
  rw [e, s1, s1]
  unfold FP.Core.inUnits
  congr 1
  have hc := hx.2.1
  have hd := hy.2.1
  by_cases g : q < r
  · rw [if_pos g, show (q - min q r).toNat = 0 by omega, Nat.pow_zero, Nat.mul_one]
    obtain ⟨j, hj⟩ : ∃ j, (r - min q r).toNat = j + 1 := ⟨(r - min q r).toNat - 1, by omega⟩
    rw [hj, Nat.pow_succ]
    have hp := Nat.two_pow_pos j
    have : d * 2 ≤ d * (2 ^ j * 2) := Nat.mul_le_mul_left _ (by omega)
    exact Int.compare_eq_lt.mpr (by omega)
  · rw [if_neg g]
    by_cases g2 : r < q
    · rw [if_pos g2, show (r - min q r).toNat = 0 by omega, Nat.pow_zero, Nat.mul_one]
      obtain ⟨j, hj⟩ : ∃ j, (q - min q r).toNat = j + 1 := ⟨(q - min q r).toNat - 1, by omega⟩
      rw [hj, Nat.pow_succ]
      have hp := Nat.two_pow_pos j
      have : c * 2 ≤ c * (2 ^ j * 2) := Nat.mul_le_mul_left _ (by omega)
      exact Int.compare_eq_gt.mpr (by omega)
    · rw [if_neg g2, show (q - min q r).toNat = 0 by omega, show (r - min q r).toNat = 0 by omega, Nat.pow_zero, Nat.mul_one, Nat.mul_one]
theorem cmp0_d (hx : Nz_d x false c q) : FP.dcmp x FP.dconst0 = some .gt := by
  have hy : FP.Core.decode FP.Core.b64 (FP.dconst0).toNat = .fin false 0 (-1074) := by decide
  have e : FP.dcmp x FP.dconst0 = some (compare (FP.Core.signed false (FP.Core.inUnits c q (min q (-1074)))) (FP.Core.signed false (FP.Core.inUnits 0 (-1074) (min q (-1074))))) := by
    show FP.Core.order (FP.Core.decode FP.Core.b64 x.toNat) (FP.Core.decode FP.Core.b64 (FP.dconst0).toNat) = _
    rw [hx.1, hy]; rfl
  have s1 : ∀ n : Nat, FP.Core.signed false n = (n : Int) := fun n => rfl
  rw [e, s1, s1]
  unfold FP.Core.inUnits
  have hc := hx.2.1
  have hp := Nat.two_pow_pos (q - min q (-1074)).toNat
  have : c * 1 ≤ c * 2 ^ (q - min q (-1074)).toNat := Nat.mul_le_mul_left _ hp
  rw [Nat.zero_mul]
  congr 1
  exact Int.compare_eq_gt.mpr (by omega)
theorem cmpz_d (hx : Zr_d x) : FP.dcmp x FP.dconst0 = some .eq := by
  obtain ⟨s, hx⟩ := hx
  have hy : FP.Core.decode FP.Core.b64 (FP.dconst0).toNat = .fin false 0 (-1074) := by decide
  show FP.Core.order (FP.Core.decode FP.Core.b64 x.toNat) (FP.Core.decode FP.Core.b64 (FP.dconst0).toNat) = _
  rw [hx, hy]
  cases s <;> decide
end
