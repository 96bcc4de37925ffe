/-! 35: floats: what is exact, what stays a number -/
theorem nr_b {N D lo hi : Nat} (h1 : lo * D ≤ N) (h2 : N < hi * D) : lo ≤ FP.Core.nearest N D ∧ FP.Core.nearest N D ≤ hi := by
  have hD : 0 < D := by
    rcases Nat.eq_zero_or_pos D with e | e
    · rw [e] at h2; omega
    · exact e
  have a1 : lo ≤ N / D := (Nat.le_div_iff_mul_le hD).mpr h1
  have a2 : N / D < hi := (Nat.div_lt_iff_lt_mul hD).mpr h2
  unfold FP.Core.nearest
  split
  · omega
  · split <;> omega
theorem nr_x (c : Nat) {D : Nat} (hD : 0 < D) : FP.Core.nearest (c * D) D = c := by
  unfold FP.Core.nearest
  rw [Nat.mul_mod_left, if_pos (by omega), Nat.mul_div_cancel _ hD]
theorem lead1 {n : Nat} (h : 0 < n) : FP.Core.leading n 1 = (n.log2 : Int) := by
  have e : (1 : Nat).log2 = 0 := by decide
  have h2 : 2 ^ n.log2 ≤ n := Nat.log2_self_le (by omega)
  unfold FP.Core.leading
  rw [e]
  show (if 1 * 2 ^ ((n.log2 : Int) - ((0 : Nat) : Int)).toNat ≤ n * 2 ^ (-((n.log2 : Int) - ((0 : Nat) : Int))).toNat then _ else _) = _
  rw [if_pos (by
    rw [show ((n.log2 : Int) - ((0 : Nat) : Int)).toNat = n.log2 by omega, show (-((n.log2 : Int) - ((0 : Nat) : Int))).toNat = 0 by omega, Nat.pow_zero, Nat.mul_one, Nat.one_mul]; exact h2)]
  omega
theorem log2_of {n k : Nat} (h1 : 2 ^ k ≤ n) (h2 : n < 2 ^ (k + 1)) : n.log2 = k := by
  have hn : n ≠ 0 := by have : 0 < 2 ^ k := Nat.two_pow_pos k; omega
  have a := (Nat.le_log2 hn).mpr h1
  have b := (Nat.log2_lt hn).mpr h2
  omega
theorem log2_b {n : Nat} (h : 0 < n) : 2 ^ n.log2 ≤ n ∧ n < 2 ^ n.log2 * 2 := by
  refine ⟨Nat.log2_self_le (by omega), ?_⟩
  have := Nat.lt_log2_self (n := n)
  rw [Nat.pow_succ] at this
  exact this

theorem fm_f : (FP.Core.b32).tails = 8388608 ∧ (FP.Core.b32).qmin = (-149) ∧ (FP.Core.b32).qmax = 104 ∧ (FP.Core.b32).exps = 256 ∧ 2 ^ (FP.Core.b32).p = 16777216 ∧ (((FP.Core.b32).p : Nat) : Int) = 23 + 1 := by decide
theorem enc_f {s : Bool} {c : Nat} {q : Int} (hc : 8388608 ≤ c ∧ c < 16777216) (hq : (-149) ≤ q ∧ q ≤ 104) : FP.Core.encode FP.Core.b32 (.fin s c q) = (s.toNat * 256 + ((q + 149).toNat + 1)) * 8388608 + (c - 8388608) := by
  obtain ⟨h1, h2, h3, h4, h5, h6⟩ := fm_f
  show (if c < (FP.Core.b32).tails then _ else FP.Core.assemble FP.Core.b32 s ((q - (FP.Core.b32).qmin).toNat + 1) (c - (FP.Core.b32).tails)) = _
  unfold FP.Core.assemble
  rw [h1, h2, h4, if_neg (by omega), show (q - (-149)).toNat = (q + 149).toNat by omega]
theorem dec_f {s : Bool} {e t : Nat} (he : 1 ≤ e ∧ e ≤ 256 - 2) (ht : t < 8388608) : FP.Core.decode FP.Core.b32 ((s.toNat * 256 + e) * 8388608 + t) = .fin s (8388608 + t) ((-149) + ((e : Int) - 1)) := by
  obtain ⟨h1, h2, h3, h4, h5, h6⟩ := fm_f
  have hs : s.toNat ≤ 1 := by cases s <;> decide
  have e1 : FP.Core.fieldT FP.Core.b32 ((s.toNat * 256 + e) * 8388608 + t) = t := by unfold FP.Core.fieldT; rw [h1]; omega
  have e2 : FP.Core.fieldE FP.Core.b32 ((s.toNat * 256 + e) * 8388608 + t) = e := by unfold FP.Core.fieldE; rw [h1, h4]; omega
  have e3 : FP.Core.fieldS FP.Core.b32 ((s.toNat * 256 + e) * 8388608 + t) = s := by
    unfold FP.Core.fieldS; rw [h1, h4, show ((s.toNat * 256 + e) * 8388608 + t) / 8388608 / 256 % 2 = s.toNat by omega]; cases s <;> rfl
  unfold FP.Core.decode
  rw [e1, e2, e3, h1, h2, h4, if_neg (by omega), if_neg (by omega)]
theorem de_f {s : Bool} {c : Nat} {q : Int} (hc : 8388608 ≤ c ∧ c < 16777216) (hq : (-149) ≤ q ∧ q ≤ 104) : FP.Core.decode FP.Core.b32 (UInt32.ofNat (FP.Core.encode FP.Core.b32 (.fin s c q))).toNat = .fin s c q := by
  have hs : s.toNat ≤ 1 := by cases s <;> decide
  rw [UInt32.toNat_ofNat', enc_f hc hq, Nat.mod_eq_of_lt (by omega), dec_f (by omega) (by omega)]
  rw [show 8388608 + (c - 8388608) = c by omega, show ((-149) : Int) + ((((q + 149).toNat + 1 : Nat) : Int) - 1) = q by omega]
theorem dz_f (s : Bool) : FP.Core.decode FP.Core.b32 (UInt32.ofNat (FP.Core.encode FP.Core.b32 (.fin s 0 (-149)))).toNat = .fin s 0 (-149) := by cases s <;> decide
theorem no_f {x : UInt32} {s : Bool} {c : Nat} {q : Int} (h : FP.Core.decode FP.Core.b32 x.toNat = .fin s c q) : vf_n32 x := by
  obtain ⟨h1, h2, h3, h4, h5, h6⟩ := fm_f
  have e : x.toNat / 8388608 % 256 ≠ 256 - 1 := by
    intro e
    unfold FP.Core.decode FP.Core.fieldE at h
    rw [h1, h4, if_pos e] at h
    split at h <;> cases h
  unfold vf_n32
  have e9 : (2147483647 : UInt32).toNat = 2 ^ 31 - 1 := by decide
  have e8 : (2139095040 : UInt32).toNat = 2139095040 := by decide
  rw [UInt32.le_iff_toNat_le, UInt32.toNat_and]
  refine Nat.le_trans (Nat.le_of_eq (congrArg (fun z => x.toNat &&& z) e9)) (Nat.le_trans ?_ (Nat.le_of_eq e8.symm))
  rw [Nat.and_two_pow_sub_one_eq_mod]
  omega
/-- a number other than zero, rounded: its leading digit's place is kept, or is one more -/
theorem rr_f (s : Bool) {num : Nat} {e : Int} (hn : 0 < num) (h1 : (-149) ≤ (num.log2 : Int) + e - 23) (h2 : (num.log2 : Int) + e - 23 < 104) : ∃ c q, FP.Core.roundRatio FP.Core.b32 s num 1 e = .fin s c q ∧ (8388608 ≤ c ∧ c < 16777216) ∧ (num.log2 : Int) + e - 23 ≤ q ∧ q ≤ (num.log2 : Int) + e - 23 + 1 := by
  obtain ⟨f1, f2, f3, f4, f5, f6⟩ := fm_f
  obtain ⟨l1, l2⟩ := log2_b hn
  have hq : FP.Core.quantum FP.Core.b32 num 1 e = (num.log2 : Int) + e - 23 := by
    unfold FP.Core.quantum; rw [lead1 hn, f2, f6]; omega
  have hb : 8388608 ≤ FP.Core.nearest (FP.Core.unitsNum num e ((num.log2 : Int) + e - 23)) (FP.Core.unitsDen 1 e ((num.log2 : Int) + e - 23)) ∧ FP.Core.nearest (FP.Core.unitsNum num e ((num.log2 : Int) + e - 23)) (FP.Core.unitsDen 1 e ((num.log2 : Int) + e - 23)) ≤ 16777216 := by
    unfold FP.Core.unitsNum FP.Core.unitsDen
    generalize num.log2 = k at *
    by_cases g : k ≤ 23
    · rw [show (e - ((k : Int) + e - 23)).toNat = 23 - k by omega, show ((k : Int) + e - 23 - e).toNat = 0 by omega]
      have hp : 2 ^ k * 2 ^ (23 - k) = 8388608 := by rw [← Nat.pow_add, show k + (23 - k) = 23 by omega]
      have hp0 : 0 < 2 ^ (23 - k) := Nat.two_pow_pos _
      refine nr_b (by rw [Nat.pow_zero, Nat.mul_one, ← hp]; exact Nat.mul_le_mul_right _ l1) ?_
      have := Nat.mul_lt_mul_of_pos_right l2 hp0
      have e3 : 2 ^ k * 2 * 2 ^ (23 - k) = 16777216 := by rw [Nat.mul_right_comm, hp]
      rw [e3] at this
      rw [Nat.pow_zero]; omega
    · rw [show (e - ((k : Int) + e - 23)).toNat = 0 by omega, show ((k : Int) + e - 23 - e).toNat = k - 23 by omega]
      have hp : 2 ^ k = 8388608 * 2 ^ (k - 23) := by rw [show (8388608 : Nat) = 2 ^ 23 by decide, ← Nat.pow_add, show 23 + (k - 23) = k by omega]
      refine nr_b (by rw [Nat.pow_zero, Nat.mul_one, Nat.one_mul, ← hp]; exact l1) ?_
      rw [hp] at l2
      rw [Nat.pow_zero]; omega
  unfold FP.Core.roundRatio FP.Core.roundAt
  rw [if_neg (by omega), hq]
  generalize FP.Core.nearest (FP.Core.unitsNum num e ((num.log2 : Int) + e - 23)) (FP.Core.unitsDen 1 e ((num.log2 : Int) + e - 23)) = m at hb ⊢
  unfold FP.Core.settle FP.Core.bound
  rw [f5, f1, f3]
  by_cases g : m < 16777216
  · rw [if_pos g, if_pos (by omega)]; exact ⟨m, _, rfl, by omega, by omega, by omega⟩
  · rw [if_neg g, if_pos (by omega)]; exact ⟨8388608, _, rfl, by omega, by omega, by omega⟩
/-- small numbers are exact -/
theorem rx_f (s : Bool) {num : Nat} {e : Int} (hn : 0 < num) (hn2 : num < 16777216) (h1 : (-149) ≤ (num.log2 : Int) + e - 23) (h2 : (num.log2 : Int) + e - 23 ≤ 104) : num.log2 ≤ 23 ∧ FP.Core.roundRatio FP.Core.b32 s num 1 e = .fin s (num * 2 ^ (23 - num.log2)) ((num.log2 : Int) + e - 23) ∧ (8388608 ≤ num * 2 ^ (23 - num.log2) ∧ num * 2 ^ (23 - num.log2) < 16777216) := by
  obtain ⟨f1, f2, f3, f4, f5, f6⟩ := fm_f
  obtain ⟨l1, l2⟩ := log2_b hn
  have hk : num.log2 ≤ 23 := by
    have := (Nat.log2_lt (show num ≠ 0 by omega)).mpr (show num < 2 ^ (23 + 1) by rw [show (2 : Nat) ^ (23 + 1) = 16777216 by decide]; exact hn2)
    omega
  have hq : FP.Core.quantum FP.Core.b32 num 1 e = (num.log2 : Int) + e - 23 := by
    unfold FP.Core.quantum; rw [lead1 hn, f2, f6]; omega
  unfold FP.Core.roundRatio FP.Core.roundAt
  rw [if_neg (by omega), hq]
  unfold FP.Core.unitsNum FP.Core.unitsDen
  generalize num.log2 = k at *
  rw [show (e - ((k : Int) + e - 23)).toNat = 23 - k by omega, show ((k : Int) + e - 23 - e).toNat = 0 by omega]
  have hp : 2 ^ k * 2 ^ (23 - k) = 8388608 := by rw [← Nat.pow_add, show k + (23 - k) = 23 by omega]
  have hp0 : 0 < 2 ^ (23 - k) := Nat.two_pow_pos _
  have a1 : 8388608 ≤ num * 2 ^ (23 - k) := by rw [← hp]; exact Nat.mul_le_mul_right _ l1
  have a2 : num * 2 ^ (23 - k) < 16777216 := by
    have := Nat.mul_lt_mul_of_pos_right l2 hp0
    have e3 : 2 ^ k * 2 * 2 ^ (23 - k) = 16777216 := by rw [Nat.mul_right_comm, hp]
    omega
  generalize num * 2 ^ (23 - k) = m at *
  have hx := nr_x m (D := 1) (by decide)
  rw [Nat.mul_one] at hx
  rw [show 1 * 2 ^ 0 = 1 by decide, hx]
  unfold FP.Core.settle FP.Core.bound
  rw [f5, f3, if_pos a2, if_pos h2]
  exact ⟨hk, rfl, a1, a2⟩
/-- times a power of two is exact -/
theorem rm_f (s : Bool) {c : Nat} {e : Int} (hc : 8388608 ≤ c ∧ c < 16777216) (h1 : (-149) ≤ e + 23) (h2 : e + 23 ≤ 104) : FP.Core.roundRatio FP.Core.b32 s (c * 8388608) 1 e = .fin s c (e + 23) := by
  obtain ⟨f1, f2, f3, f4, f5, f6⟩ := fm_f
  have hl : (c * 8388608).log2 = 23 + 23 := log2_of (by rw [show (2 : Nat) ^ (23 + 23) = 8388608 * 8388608 by decide]; omega) (by rw [show (2 : Nat) ^ (23 + 23 + 1) = 8388608 * 16777216 by decide]; omega)
  have hq : FP.Core.quantum FP.Core.b32 (c * 8388608) 1 e = e + 23 := by
    unfold FP.Core.quantum; rw [lead1 (by omega), hl, f2, f6]; omega
  unfold FP.Core.roundRatio FP.Core.roundAt
  rw [if_neg (by omega), hq]
  unfold FP.Core.unitsNum FP.Core.unitsDen
  rw [show (e - (e + 23)).toNat = 0 by omega, show (e + 23 - e).toNat = 23 by omega, show 1 * 2 ^ 23 = 8388608 by decide, Nat.pow_zero, Nat.mul_one, nr_x c (by decide)]
  unfold FP.Core.settle FP.Core.bound
  rw [f5, f3, if_pos hc.2, if_pos h2]
/-- a quotient -/
theorem rd_f (s : Bool) {c d : Nat} {e : Int} (hc : 8388608 ≤ c ∧ c < 16777216) (hd : 8388608 ≤ d ∧ d < 16777216) (h1 : (-149) ≤ e - 23 - 1) (h2 : e - 23 < 104) : ∃ m q, FP.Core.roundRatio FP.Core.b32 s c d e = .fin s m q ∧ (8388608 ≤ m ∧ m < 16777216) ∧ e - 23 - 1 ≤ q ∧ q ≤ e - 23 + 1 ∧ (c < d → q ≤ e - 23) ∧ (c = d → m = 8388608 ∧ q = e - 23) := by
  obtain ⟨f1, f2, f3, f4, f5, f6⟩ := fm_f
  have l1 : c.log2 = 23 := log2_of (by rw [show (2 : Nat) ^ 23 = 8388608 by decide]; omega) (by rw [show (2 : Nat) ^ (23 + 1) = 16777216 by decide]; omega)
  have l2 : d.log2 = 23 := log2_of (by rw [show (2 : Nat) ^ 23 = 8388608 by decide]; omega) (by rw [show (2 : Nat) ^ (23 + 1) = 16777216 by decide]; omega)
  have hle : FP.Core.leading c d = if d ≤ c then 0 else -1 := by
    unfold FP.Core.leading
    rw [l1, l2]
    show (if d * 2 ^ (((23 : Nat) : Int) - ((23 : Nat) : Int)).toNat ≤ c * 2 ^ (-(((23 : Nat) : Int) - ((23 : Nat) : Int))).toNat then _ else _) = _
    rw [show (((23 : Nat) : Int) - ((23 : Nat) : Int)).toNat = 0 by decide, show (-(((23 : Nat) : Int) - ((23 : Nat) : Int))).toNat = 0 by decide, Nat.pow_zero, Nat.mul_one, Nat.mul_one]
    rfl
  unfold FP.Core.roundRatio FP.Core.roundAt
  rw [if_neg (by omega)]
  unfold FP.Core.quantum
  rw [hle, f2, f6]
  by_cases g : d ≤ c
  · rw [if_pos g, show max (-149) (0 + e - ((23 : Int) + 1 - 1)) = e - 23 by omega]
    unfold FP.Core.unitsNum FP.Core.unitsDen
    rw [show (e - (e - 23)).toNat = 23 by omega, show (e - 23 - e).toNat = 0 by omega, Nat.pow_zero, Nat.mul_one, show (2 : Nat) ^ 23 = 8388608 by decide]
    have hb := nr_b (N := c * 8388608) (D := d) (lo := 8388608) (hi := 16777216) (by omega) (by omega)
    have hx : c = d → FP.Core.nearest (c * 8388608) d = 8388608 := fun e => by rw [e, Nat.mul_comm, nr_x _ (by omega)]
    generalize FP.Core.nearest (c * 8388608) d = m at hb hx ⊢
    unfold FP.Core.settle FP.Core.bound
    rw [f5, f1, f3]
    by_cases g2 : m < 16777216
    · rw [if_pos g2, if_pos (by omega)]; exact ⟨m, _, rfl, by omega, by omega, by omega, fun z => by omega, fun z => ⟨hx z, rfl⟩⟩
    · rw [if_neg g2, if_pos (by omega)]; exact ⟨8388608, _, rfl, by omega, by omega, by omega, fun z => by omega, fun z => by have := hx z; omega⟩
  · rw [if_neg g, show max (-149) (-1 + e - ((23 : Int) + 1 - 1)) = e - 23 - 1 by omega]
    unfold FP.Core.unitsNum FP.Core.unitsDen
    rw [show (e - (e - 23 - 1)).toNat = 23 + 1 by omega, show (e - 23 - 1 - e).toNat = 0 by omega, Nat.pow_zero, Nat.mul_one, show (2 : Nat) ^ (23 + 1) = 16777216 by decide]
    have hb := nr_b (N := c * 16777216) (D := d) (lo := 8388608) (hi := 16777216) (by omega) (by omega)
    generalize FP.Core.nearest (c * 16777216) d = m at hb ⊢
    unfold FP.Core.settle FP.Core.bound
    rw [f5, f1, f3]
    by_cases g2 : m < 16777216
    · rw [if_pos g2, if_pos (by omega)]; exact ⟨m, _, rfl, by omega, by omega, by omega, fun z => by omega, fun z => by omega⟩
    · rw [if_neg g2, if_pos (by omega)]; exact ⟨8388608, _, rfl, by omega, by omega, by omega, fun z => by omega, fun z => by omega⟩
/-- x is the number (-1)^s c 2^q with its leading digit -/
def Nz_f (x : UInt32) (s : Bool) (c : Nat) (q : Int) : Prop := FP.Core.decode FP.Core.b32 x.toNat = .fin s c q ∧ (8388608 ≤ c ∧ c < 16777216) ∧ (-149) ≤ q ∧ q ≤ 104
def Zr_f (x : UInt32) : Prop := ∃ s, FP.Core.decode FP.Core.b32 x.toNat = .fin s 0 (-149)
theorem Nz_f.bits {x : UInt32} {c : Nat} {q : Int} (h : Nz_f x false c q) : x.toNat = ((q + 149).toNat + 1) * 8388608 + (c - 8388608) := by
  obtain ⟨f1, f2, f3, f4, f5, f6⟩ := fm_f
  obtain ⟨h1, h2, h3⟩ := h
  have hx : x.toNat < 256 * 2 * 8388608 := x.toNat_lt
  unfold FP.Core.decode FP.Core.fieldE FP.Core.fieldT FP.Core.fieldS at h1
  rw [f1, f2, f4] at h1
  split at h1
  · split at h1 <;> cases h1
  · split at h1
    · injection h1 with a1 a2 a3; omega
    · injection h1 with a1 a2 a3
      have : x.toNat / 8388608 / 256 % 2 ≠ 1 := fun z => by rw [z] at a1; cases a1
      omega

theorem fm_d : (FP.Core.b64).tails = 4503599627370496 ∧ (FP.Core.b64).qmin = (-1074) ∧ (FP.Core.b64).qmax = 971 ∧ (FP.Core.b64).exps = 2048 ∧ 2 ^ (FP.Core.b64).p = 9007199254740992 ∧ (((FP.Core.b64).p : Nat) : Int) = 52 + 1 := by decide
theorem enc_d {s : Bool} {c : Nat} {q : Int} (hc : 4503599627370496 ≤ c ∧ c < 9007199254740992) (hq : (-1074) ≤ q ∧ q ≤ 971) : FP.Core.encode FP.Core.b64 (.fin s c q) = (s.toNat * 2048 + ((q + 1074).toNat + 1)) * 4503599627370496 + (c - 4503599627370496) := by
  obtain ⟨h1, h2, h3, h4, h5, h6⟩ := fm_d
  show (if c < (FP.Core.b64).tails then _ else FP.Core.assemble FP.Core.b64 s ((q - (FP.Core.b64).qmin).toNat + 1) (c - (FP.Core.b64).tails)) = _
  unfold FP.Core.assemble
  rw [h1, h2, h4, if_neg (by omega), show (q - (-1074)).toNat = (q + 1074).toNat by omega]
theorem dec_d {s : Bool} {e t : Nat} (he : 1 ≤ e ∧ e ≤ 2048 - 2) (ht : t < 4503599627370496) : FP.Core.decode FP.Core.b64 ((s.toNat * 2048 + e) * 4503599627370496 + t) = .fin s (4503599627370496 + t) ((-1074) + ((e : Int) - 1)) := by
  obtain ⟨h1, h2, h3, h4, h5, h6⟩ := fm_d
  have hs : s.toNat ≤ 1 := by cases s <;> decide
  have e1 : FP.Core.fieldT FP.Core.b64 ((s.toNat * 2048 + e) * 4503599627370496 + t) = t := by unfold FP.Core.fieldT; rw [h1]; omega
  have e2 : FP.Core.fieldE FP.Core.b64 ((s.toNat * 2048 + e) * 4503599627370496 + t) = e := by unfold FP.Core.fieldE; rw [h1, h4]; omega
  have e3 : FP.Core.fieldS FP.Core.b64 ((s.toNat * 2048 + e) * 4503599627370496 + t) = s := by
    unfold FP.Core.fieldS; rw [h1, h4, show ((s.toNat * 2048 + e) * 4503599627370496 + t) / 4503599627370496 / 2048 % 2 = s.toNat by omega]; cases s <;> rfl
  unfold FP.Core.decode
  rw [e1, e2, e3, h1, h2, h4, if_neg (by omega), if_neg (by omega)]
theorem de_d {s : Bool} {c : Nat} {q : Int} (hc : 4503599627370496 ≤ c ∧ c < 9007199254740992) (hq : (-1074) ≤ q ∧ q ≤ 971) : FP.Core.decode FP.Core.b64 (UInt64.ofNat (FP.Core.encode FP.Core.b64 (.fin s c q))).toNat = .fin s c q := by
  have hs : s.toNat ≤ 1 := by cases s <;> decide
  rw [UInt64.toNat_ofNat', enc_d hc hq, Nat.mod_eq_of_lt (by omega), dec_d (by omega) (by omega)]
  rw [show 4503599627370496 + (c - 4503599627370496) = c by omega, show ((-1074) : Int) + ((((q + 1074).toNat + 1 : Nat) : Int) - 1) = q by omega]
theorem dz_d (s : Bool) : FP.Core.decode FP.Core.b64 (UInt64.ofNat (FP.Core.encode FP.Core.b64 (.fin s 0 (-1074)))).toNat = .fin s 0 (-1074) := by cases s <;> decide
theorem no_d {x : UInt64} {s : Bool} {c : Nat} {q : Int} (h : FP.Core.decode FP.Core.b64 x.toNat = .fin s c q) : vf_n64 x := by
  obtain ⟨h1, h2, h3, h4, h5, h6⟩ := fm_d
  have e : x.toNat / 4503599627370496 % 2048 ≠ 2048 - 1 := by
    intro e
    unfold FP.Core.decode FP.Core.fieldE at h
    rw [h1, h4, if_pos e] at h
    split at h <;> cases h
  unfold vf_n64
  have e9 : (9223372036854775807 : UInt64).toNat = 2 ^ 63 - 1 := by decide
  have e8 : (9218868437227405312 : UInt64).toNat = 9218868437227405312 := by decide
  rw [UInt64.le_iff_toNat_le, UInt64.toNat_and]
  refine Nat.le_trans (Nat.le_of_eq (congrArg (fun z => x.toNat &&& z) e9)) (Nat.le_trans ?_ (Nat.le_of_eq e8.symm))
  rw [Nat.and_two_pow_sub_one_eq_mod]
  omega
/-- a number other than zero, rounded: its leading digit's place is kept, or is one more -/
theorem rr_d (s : Bool) {num : Nat} {e : Int} (hn : 0 < num) (h1 : (-1074) ≤ (num.log2 : Int) + e - 52) (h2 : (num.log2 : Int) + e - 52 < 971) : ∃ c q, FP.Core.roundRatio FP.Core.b64 s num 1 e = .fin s c q ∧ (4503599627370496 ≤ c ∧ c < 9007199254740992) ∧ (num.log2 : Int) + e - 52 ≤ q ∧ q ≤ (num.log2 : Int) + e - 52 + 1 := by
  obtain ⟨f1, f2, f3, f4, f5, f6⟩ := fm_d
  obtain ⟨l1, l2⟩ := log2_b hn
  have hq : FP.Core.quantum FP.Core.b64 num 1 e = (num.log2 : Int) + e - 52 := by
    unfold FP.Core.quantum; rw [lead1 hn, f2, f6]; omega
  have hb : 4503599627370496 ≤ FP.Core.nearest (FP.Core.unitsNum num e ((num.log2 : Int) + e - 52)) (FP.Core.unitsDen 1 e ((num.log2 : Int) + e - 52)) ∧ FP.Core.nearest (FP.Core.unitsNum num e ((num.log2 : Int) + e - 52)) (FP.Core.unitsDen 1 e ((num.log2 : Int) + e - 52)) ≤ 9007199254740992 := by
    unfold FP.Core.unitsNum FP.Core.unitsDen
    generalize num.log2 = k at *
    by_cases g : k ≤ 52
    · rw [show (e - ((k : Int) + e - 52)).toNat = 52 - k by omega, show ((k : Int) + e - 52 - e).toNat = 0 by omega]
      have hp : 2 ^ k * 2 ^ (52 - k) = 4503599627370496 := by rw [← Nat.pow_add, show k + (52 - k) = 52 by omega]
      have hp0 : 0 < 2 ^ (52 - k) := Nat.two_pow_pos _
      refine nr_b (by rw [Nat.pow_zero, Nat.mul_one, ← hp]; exact Nat.mul_le_mul_right _ l1) ?_
      have := Nat.mul_lt_mul_of_pos_right l2 hp0
      have e3 : 2 ^ k * 2 * 2 ^ (52 - k) = 9007199254740992 := by rw [Nat.mul_right_comm, hp]
      rw [e3] at this
      rw [Nat.pow_zero]; omega
    · rw [show (e - ((k : Int) + e - 52)).toNat = 0 by omega, show ((k : Int) + e - 52 - e).toNat = k - 52 by omega]
      have hp : 2 ^ k = 4503599627370496 * 2 ^ (k - 52) := by rw [show (4503599627370496 : Nat) = 2 ^ 52 by decide, ← Nat.pow_add, show 52 + (k - 52) = k by omega]
      refine nr_b (by rw [Nat.pow_zero, Nat.mul_one, Nat.one_mul, ← hp]; exact l1) ?_
      rw [hp] at l2
      rw [Nat.pow_zero]; omega
  unfold FP.Core.roundRatio FP.Core.roundAt
  rw [if_neg (by omega), hq]
  generalize FP.Core.nearest (FP.Core.unitsNum num e ((num.log2 : Int) + e - 52)) (FP.Core.unitsDen 1 e ((num.log2 : Int) + e - 52)) = m at hb ⊢
  unfold FP.Core.settle FP.Core.bound
  rw [f5, f1, f3]
  by_cases g : m < 9007199254740992
  · rw [if_pos g, if_pos (by omega)]; exact ⟨m, _, rfl, by omega, by omega, by omega⟩
  · rw [if_neg g, if_pos (by omega)]; exact ⟨4503599627370496, _, rfl, by omega, by omega, by omega⟩
/-- small numbers are exact -/
theorem rx_d (s : Bool) {num : Nat} {e : Int} (hn : 0 < num) (hn2 : num < 9007199254740992) (h1 : (-1074) ≤ (num.log2 : Int) + e - 52) (h2 : (num.log2 : Int) + e - 52 ≤ 971) : num.log2 ≤ 52 ∧ FP.Core.roundRatio FP.Core.b64 s num 1 e = .fin s (num * 2 ^ (52 - num.log2)) ((num.log2 : Int) + e - 52) ∧ (4503599627370496 ≤ num * 2 ^ (52 - num.log2) ∧ num * 2 ^ (52 - num.log2) < 9007199254740992) := by
  obtain ⟨f1, f2, f3, f4, f5, f6⟩ := fm_d
  obtain ⟨l1, l2⟩ := log2_b hn
  have hk : num.log2 ≤ 52 := by
    have := (Nat.log2_lt (show num ≠ 0 by omega)).mpr (show num < 2 ^ (52 + 1) by rw [show (2 : Nat) ^ (52 + 1) = 9007199254740992 by decide]; exact hn2)
    omega
  have hq : FP.Core.quantum FP.Core.b64 num 1 e = (num.log2 : Int) + e - 52 := by
    unfold FP.Core.quantum; rw [lead1 hn, f2, f6]; omega
  unfold FP.Core.roundRatio FP.Core.roundAt
  rw [if_neg (by omega), hq]
  unfold FP.Core.unitsNum FP.Core.unitsDen
  generalize num.log2 = k at *
  rw [show (e - ((k : Int) + e - 52)).toNat = 52 - k by omega, show ((k : Int) + e - 52 - e).toNat = 0 by omega]
  have hp : 2 ^ k * 2 ^ (52 - k) = 4503599627370496 := by rw [← Nat.pow_add, show k + (52 - k) = 52 by omega]
  have hp0 : 0 < 2 ^ (52 - k) := Nat.two_pow_pos _
  have a1 : 4503599627370496 ≤ num * 2 ^ (52 - k) := by rw [← hp]; exact Nat.mul_le_mul_right _ l1
  have a2 : num * 2 ^ (52 - k) < 9007199254740992 := by
    have := Nat.mul_lt_mul_of_pos_right l2 hp0
    have e3 : 2 ^ k * 2 * 2 ^ (52 - k) = 9007199254740992 := by rw [Nat.mul_right_comm, hp]
    omega
  generalize num * 2 ^ (52 - k) = m at *
  have hx := nr_x m (D := 1) (by decide)
  rw [Nat.mul_one] at hx
  rw [show 1 * 2 ^ 0 = 1 by decide, hx]
  unfold FP.Core.settle FP.Core.bound
  rw [f5, f3, if_pos a2, if_pos h2]
  exact ⟨hk, rfl, a1, a2⟩
/-- times a power of two is exact -/
theorem rm_d (s : Bool) {c : Nat} {e : Int} (hc : 4503599627370496 ≤ c ∧ c < 9007199254740992) (h1 : (-1074) ≤ e + 52) (h2 : e + 52 ≤ 971) : FP.Core.roundRatio FP.Core.b64 s (c * 4503599627370496) 1 e = .fin s c (e + 52) := by
  obtain ⟨f1, f2, f3, f4, f5, f6⟩ := fm_d
  have hl : (c * 4503599627370496).log2 = 52 + 52 := log2_of (by rw [show (2 : Nat) ^ (52 + 52) = 4503599627370496 * 4503599627370496 by decide]; omega) (by rw [show (2 : Nat) ^ (52 + 52 + 1) = 4503599627370496 * 9007199254740992 by decide]; omega)
  have hq : FP.Core.quantum FP.Core.b64 (c * 4503599627370496) 1 e = e + 52 := by
    unfold FP.Core.quantum; rw [lead1 (by omega), hl, f2, f6]; omega
  unfold FP.Core.roundRatio FP.Core.roundAt
  rw [if_neg (by omega), hq]
  unfold FP.Core.unitsNum FP.Core.unitsDen
  rw [show (e - (e + 52)).toNat = 0 by omega, show (e + 52 - e).toNat = 52 by omega, show 1 * 2 ^ 52 = 4503599627370496 by decide, Nat.pow_zero, Nat.mul_one, nr_x c (by decide)]
  unfold FP.Core.settle FP.Core.bound
  rw [f5, f3, if_pos hc.2, if_pos h2]
/-- a quotient -/
theorem rd_d (s : Bool) {c d : Nat} {e : Int} (hc : 4503599627370496 ≤ c ∧ c < 9007199254740992) (hd : 4503599627370496 ≤ d ∧ d < 9007199254740992) (h1 : (-1074) ≤ e - 52 - 1) (h2 : e - 52 < 971) : ∃ m q, FP.Core.roundRatio FP.Core.b64 s c d e = .fin s m q ∧ (4503599627370496 ≤ m ∧ m < 9007199254740992) ∧ e - 52 - 1 ≤ q ∧ q ≤ e - 52 + 1 ∧ (c < d → q ≤ e - 52) ∧ (c = d → m = 4503599627370496 ∧ q = e - 52) := by
  obtain ⟨f1, f2, f3, f4, f5, f6⟩ := fm_d
  have l1 : c.log2 = 52 := log2_of (by rw [show (2 : Nat) ^ 52 = 4503599627370496 by decide]; omega) (by rw [show (2 : Nat) ^ (52 + 1) = 9007199254740992 by decide]; omega)
  have l2 : d.log2 = 52 := log2_of (by rw [show (2 : Nat) ^ 52 = 4503599627370496 by decide]; omega) (by rw [show (2 : Nat) ^ (52 + 1) = 9007199254740992 by decide]; omega)
  have hle : FP.Core.leading c d = if d ≤ c then 0 else -1 := by
    unfold FP.Core.leading
    rw [l1, l2]
    show (if d * 2 ^ (((52 : Nat) : Int) - ((52 : Nat) : Int)).toNat ≤ c * 2 ^ (-(((52 : Nat) : Int) - ((52 : Nat) : Int))).toNat then _ else _) = _
    rw [show (((52 : Nat) : Int) - ((52 : Nat) : Int)).toNat = 0 by decide, show (-(((52 : Nat) : Int) - ((52 : Nat) : Int))).toNat = 0 by decide, Nat.pow_zero, Nat.mul_one, Nat.mul_one]
    rfl
  unfold FP.Core.roundRatio FP.Core.roundAt
  rw [if_neg (by omega)]
  unfold FP.Core.quantum
  rw [hle, f2, f6]
  by_cases g : d ≤ c
  · rw [if_pos g, show max (-1074) (0 + e - ((52 : Int) + 1 - 1)) = e - 52 by omega]
    unfold FP.Core.unitsNum FP.Core.unitsDen
    rw [show (e - (e - 52)).toNat = 52 by omega, show (e - 52 - e).toNat = 0 by omega, Nat.pow_zero, Nat.mul_one, show (2 : Nat) ^ 52 = 4503599627370496 by decide]
    have hb := nr_b (N := c * 4503599627370496) (D := d) (lo := 4503599627370496) (hi := 9007199254740992) (by omega) (by omega)
    have hx : c = d → FP.Core.nearest (c * 4503599627370496) d = 4503599627370496 := fun e => by rw [e, Nat.mul_comm, nr_x _ (by omega)]
    generalize FP.Core.nearest (c * 4503599627370496) d = m at hb hx ⊢
    unfold FP.Core.settle FP.Core.bound
    rw [f5, f1, f3]
    by_cases g2 : m < 9007199254740992
    · rw [if_pos g2, if_pos (by omega)]; exact ⟨m, _, rfl, by omega, by omega, by omega, fun z => by omega, fun z => ⟨hx z, rfl⟩⟩
    · rw [if_neg g2, if_pos (by omega)]; exact ⟨4503599627370496, _, rfl, by omega, by omega, by omega, fun z => by omega, fun z => by have := hx z; omega⟩
  · rw [if_neg g, show max (-1074) (-1 + e - ((52 : Int) + 1 - 1)) = e - 52 - 1 by omega]
    unfold FP.Core.unitsNum FP.Core.unitsDen
    rw [show (e - (e - 52 - 1)).toNat = 52 + 1 by omega, show (e - 52 - 1 - e).toNat = 0 by omega, Nat.pow_zero, Nat.mul_one, show (2 : Nat) ^ (52 + 1) = 9007199254740992 by decide]
    have hb := nr_b (N := c * 9007199254740992) (D := d) (lo := 4503599627370496) (hi := 9007199254740992) (by omega) (by omega)
    generalize FP.Core.nearest (c * 9007199254740992) d = m at hb ⊢
    unfold FP.Core.settle FP.Core.bound
    rw [f5, f1, f3]
    by_cases g2 : m < 9007199254740992
    · rw [if_pos g2, if_pos (by omega)]; exact ⟨m, _, rfl, by omega, by omega, by omega, fun z => by omega, fun z => by omega⟩
    · rw [if_neg g2, if_pos (by omega)]; exact ⟨4503599627370496, _, rfl, by omega, by omega, by omega, fun z => by omega, fun z => by omega⟩
/-- x is the number (-1)^s c 2^q with its leading digit -/
def Nz_d (x : UInt64) (s : Bool) (c : Nat) (q : Int) : Prop := FP.Core.decode FP.Core.b64 x.toNat = .fin s c q ∧ (4503599627370496 ≤ c ∧ c < 9007199254740992) ∧ (-1074) ≤ q ∧ q ≤ 971
def Zr_d (x : UInt64) : Prop := ∃ s, FP.Core.decode FP.Core.b64 x.toNat = .fin s 0 (-1074)
theorem Nz_d.bits {x : UInt64} {c : Nat} {q : Int} (h : Nz_d x false c q) : x.toNat = ((q + 1074).toNat + 1) * 4503599627370496 + (c - 4503599627370496) := by
  obtain ⟨f1, f2, f3, f4, f5, f6⟩ := fm_d
  obtain ⟨h1, h2, h3⟩ := h
  have hx : x.toNat < 2048 * 2 * 4503599627370496 := x.toNat_lt
  unfold FP.Core.decode FP.Core.fieldE FP.Core.fieldT FP.Core.fieldS at h1
  rw [f1, f2, f4] at h1
  split at h1
  · split at h1 <;> cases h1
  · split at h1
    · injection h1 with a1 a2 a3; omega
    · injection h1 with a1 a2 a3
      have : x.toNat / 4503599627370496 / 2048 % 2 ≠ 1 := fun z => by rw [z] at a1; cases a1
      omega
