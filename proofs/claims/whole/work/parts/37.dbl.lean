/-! 37: doubles between bounds -/
theorem zb_f {x : UInt32} (h : FP.Core.decode FP.Core.b32 x.toNat = .fin false 0 (-149)) : x.toNat = 0 := by
  obtain ⟨f1, f2, f3, f4, f5, f6⟩ := fm_f
  have hx : x.toNat < 256 * 2 * 8388608 := x.toNat_lt
  unfold FP.Core.decode FP.Core.fieldE FP.Core.fieldT FP.Core.fieldS at h
  rw [f1, f2, f4] at h
  split at h
  · split at h <;> cases h
  · split at h
    · injection h with a1 a2 a3
      have : x.toNat / 8388608 / 256 % 2 ≠ 1 := fun z => by rw [z] at a1; cases a1
      omega
    · injection h with a1 a2 a3; omega
theorem dive_f {x y : UInt32} {d : Nat} {r : Int} (hx : FP.Core.decode FP.Core.b32 x.toNat = .fin false 0 (-149)) (hy : Nz_f y false d r) : FP.Core.decode FP.Core.b32 (FP.fdiv x y).toNat = .fin false 0 (-149) := by
  have e : FP.fdiv x y = UInt32.ofNat (FP.Core.encode FP.Core.b32 (.fin false 0 (-149))) := by
    show UInt32.ofNat (FP.Core.encode FP.Core.b32 (FP.Core.quotient FP.Core.b32 (FP.Core.decode FP.Core.b32 x.toNat) (FP.Core.decode FP.Core.b32 y.toNat))) = _
    rw [hx, hy.1]
    show UInt32.ofNat (FP.Core.encode FP.Core.b32 (if d = 0 then _ else _)) = _
    rw [if_neg (by have := hy.2.1; omega)]
    unfold FP.Core.roundRatio
    rw [if_pos rfl, fm_f.2.1]
    rfl
  rw [e]; exact dz_f false
theorem zb_d {x : UInt64} (h : FP.Core.decode FP.Core.b64 x.toNat = .fin false 0 (-1074)) : x.toNat = 0 := by
  obtain ⟨f1, f2, f3, f4, f5, f6⟩ := fm_d
  have hx : x.toNat < 2048 * 2 * 4503599627370496 := x.toNat_lt
  unfold FP.Core.decode FP.Core.fieldE FP.Core.fieldT FP.Core.fieldS at h
  rw [f1, f2, f4] at h
  split at h
  · split at h <;> cases h
  · split at h
    · injection h with a1 a2 a3
      have : x.toNat / 4503599627370496 / 2048 % 2 ≠ 1 := fun z => by rw [z] at a1; cases a1
      omega
    · injection h with a1 a2 a3; omega
theorem dive_d {x y : UInt64} {d : Nat} {r : Int} (hx : FP.Core.decode FP.Core.b64 x.toNat = .fin false 0 (-1074)) (hy : Nz_d y false d r) : FP.Core.decode FP.Core.b64 (FP.ddiv x y).toNat = .fin false 0 (-1074) := by
  have e : FP.ddiv x y = UInt64.ofNat (FP.Core.encode FP.Core.b64 (.fin false 0 (-1074))) := by
    show UInt64.ofNat (FP.Core.encode FP.Core.b64 (FP.Core.quotient FP.Core.b64 (FP.Core.decode FP.Core.b64 x.toNat) (FP.Core.decode FP.Core.b64 y.toNat))) = _
    rw [hx, hy.1]
    show UInt64.ofNat (FP.Core.encode FP.Core.b64 (if d = 0 then _ else _)) = _
    rw [if_neg (by have := hy.2.1; omega)]
    unfold FP.Core.roundRatio
    rw [if_pos rfl, fm_d.2.1]
    rfl
  rw [e]; exact dz_d false
section Dbl
variable {x y : UInt64} {s t : Bool} {c d : Nat} {q r e lo hi : Int}
def R64 (x : UInt64) (s : Bool) (lo hi : Int) : Prop := FP.Core.decode FP.Core.b64 x.toNat = .fin s 0 (-1074) ∨ ∃ c q, Nz_d x s c q ∧ lo ≤ q + 52 ∧ q + 52 ≤ hi
theorem R64.no (h : R64 x s lo hi) : vf_n64 x := by
  rcases h with h | ⟨c, q, h, -⟩
  · exact no_d h
  · exact h.no
theorem R64.wd {lo2 hi2 : Int} (h : R64 x s lo hi) (h1 : lo2 ≤ lo) (h2 : hi ≤ hi2) : R64 x s lo2 hi2 := by
  rcases h with h | ⟨c, q, h, h3, h4⟩
  · exact Or.inl h
  · exact Or.inr ⟨c, q, h, by omega, by omega⟩
theorem lg_lo {v : Nat} (hc : 4503599627370496 ≤ c) (he : e ≤ q) (h : c * 2 ^ (q - e).toNat ≤ v) : 52 + q - e ≤ (v.log2 : Int) := by
  have h1 : 2 ^ (52 + (q - e).toNat) ≤ v := by
    rw [Nat.pow_add]
    exact Nat.le_trans (Nat.mul_le_mul_right _ (by rw [show (2 : Nat) ^ 52 = 4503599627370496 by decide]; exact hc)) h
  have hv : v ≠ 0 := by have := Nat.two_pow_pos (52 + (q - e).toNat); omega
  have := (Nat.le_log2 hv).mpr h1
  omega
theorem pt_hi (hc : c < 9007199254740992) (he : e ≤ q) (hq : q + 52 ≤ hi) : c * 2 ^ (q - e).toNat < 2 ^ (hi + 1 - e).toNat := by
  have hp := Nat.two_pow_pos (q - e).toNat
  have h1 : c * 2 ^ (q - e).toNat < 9007199254740992 * 2 ^ (q - e).toNat := Nat.mul_lt_mul_of_pos_right hc hp
  have h2 : 9007199254740992 * 2 ^ (q - e).toNat = 2 ^ (53 + (q - e).toNat) := by rw [Nat.pow_add]
  have h3 : 2 ^ (53 + (q - e).toNat) ≤ 2 ^ (hi + 1 - e).toNat := Nat.pow_le_pow_right (by decide) (by omega)
  omega
theorem lg_hi {v n : Nat} (hv : v ≠ 0) (h : v < 2 ^ n) : v.log2 < n := (Nat.log2_lt hv).mpr h
theorem fin_r (s : Bool) (v : Int) (hb : -900 ≤ lo ∧ hi ≤ 900) (h : v = 0 ∨ (lo ≤ (v.natAbs.log2 : Int) + e ∧ (v.natAbs.log2 : Int) + e ≤ hi)) : R64 (UInt64.ofNat (FP.Core.encode FP.Core.b64 (FP.Core.roundRatio FP.Core.b64 s v.natAbs 1 e))) s lo (hi + 1) := by
  obtain ⟨f1, f2, f3, f4, f5, f6⟩ := fm_d
  by_cases h0 : v = 0
  · refine Or.inl ?_
    unfold FP.Core.roundRatio
    rw [if_pos (by omega), f2]
    exact dz_d s
  · have h := h.resolve_left h0
    obtain ⟨m, k, g1, g2, g3, g4⟩ := rr_d s (num := v.natAbs) (e := e) (by omega) (by omega) (by omega)
    rw [g1]
    exact Or.inr ⟨m, k, ⟨de_d g2 (by omega), g2, by omega, by omega⟩, by omega, by omega⟩
theorem sg0 (s : Bool) (q e : Int) : FP.Core.signed s (FP.Core.inUnits 0 q e) = 0 := by
  unfold FP.Core.signed FP.Core.inUnits; rw [Nat.zero_mul]; cases s <;> rfl
theorem sgp (n : Nat) : FP.Core.signed false n = (n : Int) := rfl
theorem sgm (n : Nat) : FP.Core.signed true n = -(n : Int) := rfl
theorem addE (hx : FP.Core.decode FP.Core.b64 x.toNat = .fin s c q) (hy : FP.Core.decode FP.Core.b64 y.toNat = .fin t d r) : FP.dadd x y = UInt64.ofNat (FP.Core.encode FP.Core.b64 (FP.Core.roundRatio FP.Core.b64 (FP.Core.sumSign s t (FP.Core.sumUnits s c q t d r (min q r))) (FP.Core.sumUnits s c q t d r (min q r)).natAbs 1 (min q r))) := by
  show UInt64.ofNat (FP.Core.encode FP.Core.b64 (FP.Core.round FP.Core.b64 (FP.Core.exactSum (FP.Core.decode FP.Core.b64 x.toNat) (FP.Core.decode FP.Core.b64 y.toNat)))) = _
  rw [hx, hy]; rfl
/-- the sum of two that are not below zero -/
theorem add_r (hx : R64 x false lo hi) (hy : R64 y false lo hi) (hb : -900 ≤ lo ∧ lo ≤ hi ∧ hi ≤ 800) : R64 (FP.dadd x y) false lo (hi + 2) := by
  rcases hx with hx | ⟨c, q, hx, hq⟩
  · rcases hy with hy | ⟨d, r, hy, hr⟩
    · rw [addE hx hy]
      have e0 : FP.Core.sumUnits false 0 (-1074) false 0 (-1074) (min (-1074) (-1074)) = 0 := by unfold FP.Core.sumUnits; rw [sg0]; rfl
      rw [e0]
      exact (fin_r (lo := lo) (hi := hi) (e := min (-1074) (-1074)) false 0 (by omega) (Or.inl rfl)).wd (by omega) (by omega)
    · rw [addE hx hy.1]
      have hd := hy.2
      have e0 : FP.Core.sumUnits false 0 (-1074) false d r (min (-1074) r) = ((d * 2 ^ (r - min (-1074) r).toNat : Nat) : Int) := by unfold FP.Core.sumUnits; rw [sg0, sgp, Int.zero_add]; rfl
      rw [e0]
      have h1 := lg_lo (c := d) (q := r) (e := min (-1074) r) hd.1.1 (by omega) (Nat.le_refl _)
      have h2 := pt_hi (c := d) (q := r) (e := min (-1074) r) (hi := hi) hd.1.2 (by omega) hr.2
      generalize hV : d * 2 ^ (r - min (-1074) r).toNat = v at *
      have hv : v ≠ 0 := by intro z; rw [z] at h1; have : (0 : Nat).log2 = 0 := by decide
                            rw [this] at h1; omega
      have h3 := lg_hi hv h2
      have es : FP.Core.sumSign false false (v : Int) = false := by unfold FP.Core.sumSign; rw [if_neg (by omega)]; exact decide_eq_false (by omega)
      rw [es]
      exact (fin_r (lo := lo) (hi := hi) false (v : Int) (by omega) (Or.inr ⟨by rw [Int.natAbs_natCast]; omega, by rw [Int.natAbs_natCast]; omega⟩)).wd (by omega) (by omega)
  · rcases hy with hy | ⟨d, r, hy, hr⟩
    · rw [addE hx.1 hy]
      have hd := hx.2
      have e0 : FP.Core.sumUnits false c q false 0 (-1074) (min q (-1074)) = ((c * 2 ^ (q - min q (-1074)).toNat : Nat) : Int) := by unfold FP.Core.sumUnits; rw [sg0, sgp, Int.add_zero]; rfl
      rw [e0]
      have h1 := lg_lo (c := c) (q := q) (e := min q (-1074)) hd.1.1 (by omega) (Nat.le_refl _)
      have h2 := pt_hi (c := c) (q := q) (e := min q (-1074)) (hi := hi) hd.1.2 (by omega) hq.2
      generalize hV : c * 2 ^ (q - min q (-1074)).toNat = v at *
      have hv : v ≠ 0 := by intro z; rw [z] at h1; have : (0 : Nat).log2 = 0 := by decide
                            rw [this] at h1; omega
      have h3 := lg_hi hv h2
      have es : FP.Core.sumSign false false (v : Int) = false := by unfold FP.Core.sumSign; rw [if_neg (by omega)]; exact decide_eq_false (by omega)
      rw [es]
      exact (fin_r (lo := lo) (hi := hi) false (v : Int) (by omega) (Or.inr ⟨by rw [Int.natAbs_natCast]; omega, by rw [Int.natAbs_natCast]; omega⟩)).wd (by omega) (by omega)
    · rw [addE hx.1 hy.1]
      have hd := hy.2
      have hc := hx.2
      have e0 : FP.Core.sumUnits false c q false d r (min q r) = ((c * 2 ^ (q - min q r).toNat + d * 2 ^ (r - min q r).toNat : Nat) : Int) := by unfold FP.Core.sumUnits; rw [sgp, sgp, Int.natCast_add]; rfl
      rw [e0]
      have h1 := lg_lo (c := c) (q := q) (e := min q r) (v := c * 2 ^ (q - min q r).toNat + d * 2 ^ (r - min q r).toNat) hc.1.1 (by omega) (Nat.le_add_right _ _)
      have h2 := pt_hi (c := c) (q := q) (e := min q r) (hi := hi) hc.1.2 (by omega) hq.2
      have h4 := pt_hi (c := d) (q := r) (e := min q r) (hi := hi) hd.1.2 (by omega) hr.2
      generalize c * 2 ^ (q - min q r).toNat = v1 at *
      generalize d * 2 ^ (r - min q r).toNat = v2 at *
      have h5 : v1 + v2 < 2 ^ ((hi + 1 - min q r).toNat + 1) := by rw [Nat.pow_succ]; omega
      have hv : v1 + v2 ≠ 0 := by intro z; rw [z] at h1; have : (0 : Nat).log2 = 0 := by decide
                                  rw [this] at h1; omega
      have h3 := lg_hi hv h5
      have es : FP.Core.sumSign false false ((v1 + v2 : Nat) : Int) = false := by unfold FP.Core.sumSign; rw [if_neg (by omega)]; exact decide_eq_false (by omega)
      rw [es]
      exact (fin_r (lo := lo) (hi := hi + 1) false ((v1 + v2 : Nat) : Int) (by omega) (Or.inr ⟨by rw [Int.natAbs_natCast]; omega, by rw [Int.natAbs_natCast]; omega⟩)).wd (by omega) (by omega)
/-- a difference of two that are not below zero -/
theorem sub_r (hx : R64 x false lo hi) (hy : R64 y false lo hi) (hb : -800 ≤ lo ∧ lo ≤ hi ∧ hi ≤ 800) : ∃ s, R64 (FP.dsub x y) s (lo - 52) (hi + 2) := by
  rcases hx with hx | ⟨c, q, hx, hq⟩
  · rcases hy with hy | ⟨d, r, hy, hr⟩
    · refine ⟨false, Or.inl ?_⟩
      rw [subE_d hx hy]
      have e0 : FP.Core.sumUnits false 0 (-1074) (!false) 0 (-1074) (min (-1074) (-1074)) = 0 := by unfold FP.Core.sumUnits; rw [sg0, sg0]; rfl
      rw [e0]
      exact dz_d false
    · rw [subE_d hx hy.1]
      have hd := hy.2
      have e0 : FP.Core.sumUnits false 0 (-1074) (!false) d r (min (-1074) r) = -((d * 2 ^ (r - min (-1074) r).toNat : Nat) : Int) := by unfold FP.Core.sumUnits; rw [sg0, show (!false) = true from rfl, sgm, Int.zero_add]; rfl
      rw [e0]
      have h1 := lg_lo (c := d) (q := r) (e := min (-1074) r) hd.1.1 (by omega) (Nat.le_refl _)
      have h2 := pt_hi (c := d) (q := r) (e := min (-1074) r) (hi := hi) hd.1.2 (by omega) hr.2
      generalize hV : d * 2 ^ (r - min (-1074) r).toNat = v at *
      have hv : v ≠ 0 := by intro z; rw [z] at h1; have : (0 : Nat).log2 = 0 := by decide
                            rw [this] at h1; omega
      have h3 := lg_hi hv h2
      exact ⟨_, (fin_r (lo := lo) (hi := hi) _ (-(v : Int)) (by omega) (Or.inr ⟨by rw [Int.natAbs_neg, Int.natAbs_natCast]; omega, by rw [Int.natAbs_neg, Int.natAbs_natCast]; omega⟩)).wd (by omega) (by omega)⟩
  · rcases hy with hy | ⟨d, r, hy, hr⟩
    · rw [subE_d hx.1 hy]
      have hd := hx.2
      have e0 : FP.Core.sumUnits false c q (!false) 0 (-1074) (min q (-1074)) = ((c * 2 ^ (q - min q (-1074)).toNat : Nat) : Int) := by unfold FP.Core.sumUnits; rw [sg0, sgp, Int.add_zero]; rfl
      rw [e0]
      have h1 := lg_lo (c := c) (q := q) (e := min q (-1074)) hd.1.1 (by omega) (Nat.le_refl _)
      have h2 := pt_hi (c := c) (q := q) (e := min q (-1074)) (hi := hi) hd.1.2 (by omega) hq.2
      generalize hV : c * 2 ^ (q - min q (-1074)).toNat = v at *
      have hv : v ≠ 0 := by intro z; rw [z] at h1; have : (0 : Nat).log2 = 0 := by decide
                            rw [this] at h1; omega
      have h3 := lg_hi hv h2
      exact ⟨_, (fin_r (lo := lo) (hi := hi) _ (v : Int) (by omega) (Or.inr ⟨by rw [Int.natAbs_natCast]; omega, by rw [Int.natAbs_natCast]; omega⟩)).wd (by omega) (by omega)⟩
    · rw [subE_d hx.1 hy.1]
      have hd := hy.2
      have hc := hx.2
      have e0 : FP.Core.sumUnits false c q (!false) d r (min q r) = ((c * 2 ^ (q - min q r).toNat : Nat) : Int) - ((d * 2 ^ (r - min q r).toNat : Nat) : Int) := by unfold FP.Core.sumUnits; rw [show (!false) = true from rfl, sgp, sgm, Int.sub_eq_add_neg]; rfl
      rw [e0]
      have h2 := pt_hi (c := c) (q := q) (e := min q r) (hi := hi) hc.1.2 (by omega) hq.2
      have h4 := pt_hi (c := d) (q := r) (e := min q r) (hi := hi) hd.1.2 (by omega) hr.2
      generalize c * 2 ^ (q - min q r).toNat = v1 at *
      generalize d * 2 ^ (r - min q r).toNat = v2 at *
      by_cases hz : (v1 : Int) - (v2 : Int) = 0
      · exact ⟨_, (fin_r (lo := lo - 52) (hi := hi) (e := min q r) _ ((v1 : Int) - (v2 : Int)) (by omega) (Or.inl hz)).wd (by omega) (by omega)⟩
      · have h5 : ((v1 : Int) - (v2 : Int)).natAbs < 2 ^ (hi + 1 - min q r).toNat := by omega
        have h3 := lg_hi (show ((v1 : Int) - (v2 : Int)).natAbs ≠ 0 by omega) h5
        exact ⟨_, (fin_r (lo := lo - 52) (hi := hi) (e := min q r) _ ((v1 : Int) - (v2 : Int)) (by omega) (Or.inr ⟨by omega, by omega⟩)).wd (by omega) (by omega)⟩
theorem sqr_r (hx : R64 x s lo hi) (hb : -400 ≤ lo ∧ lo ≤ hi ∧ hi ≤ 400) : R64 (FP.dmul x x) false (lo + lo) (hi + hi + 2) := by
  rcases hx with hx | ⟨c, q, hx, hq⟩
  · refine Or.inl ?_
    rw [mulE_d hx hx, Nat.zero_mul, show (s != s) = false by cases s <;> rfl]
    unfold FP.Core.roundRatio
    rw [if_pos rfl, fm_d.2.1]
    exact dz_d false
  · obtain ⟨m, k, g1, g2, g3⟩ := mul_d hx hx (by omega) (by omega)
    rw [show (s != s) = false by cases s <;> rfl] at g1
    exact Or.inr ⟨m, k, g1, by omega, by omega⟩
theorem div_r {l2 h2 : Int} (hx : R64 x false lo hi) (hy : Nz_d y false d r) (hl : l2 ≤ r + 52 ∧ r + 52 ≤ h2) (hb : -400 ≤ lo ∧ hi ≤ 400 ∧ -400 ≤ l2 ∧ h2 ≤ 400) : R64 (FP.ddiv x y) false (lo - h2 - 1) (hi - l2 + 1) := by
  rcases hx with hx | ⟨c, q, hx, hq⟩
  · exact Or.inl (dive_d hx hy)
  · obtain ⟨m, k, g1, g2, g3, -⟩ := div_d hx hy (by omega) (by omega)
    exact Or.inr ⟨m, k, g1, by omega, by omega⟩
theorem i2_r {a : Int} (ha : 0 ≤ a ∧ a < 2147483648) : R64 (FP.i2d (J a)) false 0 31 := by
  rcases i2_d ha with h | h
  · refine Or.inl ?_
    rw [h.1]
    decide
  · have : a.toNat.log2 < 31 := (Nat.log2_lt (by omega)).mpr (by omega)
    exact Or.inr ⟨_, _, h.2, by omega, by omega⟩
end Dbl
