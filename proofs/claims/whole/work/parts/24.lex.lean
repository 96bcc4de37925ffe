/-! 24: tokens; the class's scanner -/
/-- the first place from p on, below n or n, whose byte isn't of P -/
def rnF (P : Int → Bool) (b : Nat → Int) (n : Nat) : Nat → Nat → Nat
  | 0, p => p
  | f + 1, p => if p < n ∧ P (b p) = true then rnF P b n f (p + 1) else p
def rn (P : Int → Bool) (b : Nat → Int) (n p : Nat) : Nat := rnF P b n (n - p) p
theorem rn_step {P : Int → Bool} {b : Nat → Int} {n p : Nat} (h : p < n ∧ P (b p) = true) : rn P b n p = rn P b n (p + 1) := by
  unfold rn
  obtain ⟨f, hf⟩ : ∃ f, n - p = f + 1 := ⟨n - p - 1, by omega⟩
  rw [hf, show n - (p + 1) = f by omega]
  show (if p < n ∧ P (b p) = true then rnF P b n f (p + 1) else p) = _
  rw [if_pos h]
theorem rn_stop {P : Int → Bool} {b : Nat → Int} {n p : Nat} (h : ¬ (p < n ∧ P (b p) = true)) : rn P b n p = p := by
  unfold rn
  cases hf : n - p with
  | zero => rfl
  | succ f =>
    show (if p < n ∧ P (b p) = true then rnF P b n f (p + 1) else p) = _
    rw [if_neg h]
theorem rn_ge (P : Int → Bool) (b : Nat → Int) (n : Nat) : ∀ m p, n - p = m → p ≤ rn P b n p ∧ (p ≤ n → rn P b n p ≤ n) ∧ (∀ i, p ≤ i → i < rn P b n p → i < n ∧ P (b i) = true) ∧ ¬ (rn P b n p < n ∧ P (b (rn P b n p)) = true) := by
  intro m
  induction m with
  | zero =>
    intro p hp
    have h : ¬ (p < n ∧ P (b p) = true) := by omega
    rw [rn_stop h]
    exact ⟨Nat.le_refl p, fun h => h, fun i h1 h2 => by omega, h⟩
  | succ m ih =>
    intro p hp
    by_cases h : p < n ∧ P (b p) = true
    · rw [rn_step h]
      obtain ⟨h1, h2, h3, h4⟩ := ih (p + 1) (by omega)
      refine ⟨by omega, fun _ => h2 (by omega), fun i q1 q2 => ?_, h4⟩
      by_cases e : i = p
      · rw [e]; exact h
      · exact h3 i (by omega) q2
    · rw [rn_stop h]
      exact ⟨Nat.le_refl p, fun h => h, fun i h1 h2 => by omega, h⟩
def isB (x : Int) : Bool := decide (x = 32 ∨ x = 10)
def isL (x : Int) : Bool := decide (97 ≤ x ∧ x ≤ 122)
def isD (x : Int) : Bool := decide (48 ≤ x ∧ x ≤ 57)
/-- the token that is met from p on: its first place, its kind (0 end, 1 word, 2 number, 3 the sign, 4 none), the place behind it, its letters, its value -/
def pl (b : Nat → Int) (n p : Nat) : Nat := rn isB b n p
def lE (b : Nat → Int) (n p : Nat) : Nat := rn isL b n (pl b n p)
def dE (b : Nat → Int) (n p : Nat) : Nat := rn isD b n (pl b n p)
def kd (b : Nat → Int) (n p : Nat) : Nat :=
  if n ≤ pl b n p then 0 else if isL (b (pl b n p)) = true then (if lE b n p - pl b n p ≤ 7 then 1 else 4)
  else if isD (b (pl b n p)) = true then (if dE b n p - pl b n p ≤ 3 then 2 else 4) else if b (pl b n p) = 59 then 3 else 4
def nx (b : Nat → Int) (n p : Nat) : Nat :=
  if n ≤ pl b n p then pl b n p else if isL (b (pl b n p)) = true then lE b n p else if isD (b (pl b n p)) = true then dE b n p else if b (pl b n p) = 59 then pl b n p + 1 else pl b n p
def ltr (b : Nat → Int) (n p : Nat) : List Int := (List.range (lE b n p - pl b n p)).map (fun i => b (pl b n p + i))
def valD (b : Nat → Int) (q : Nat) : Nat → Int
  | 0 => 0
  | m + 1 => valD b q m * 10 + (b (q + m) - 48)
def vlu (b : Nat → Int) (n p : Nat) : Int := valD b (pl b n p) (dE b n p - pl b n p)
def enc8 (b : Nat → Int) (q : Nat) : Nat → Int
  | 0 => 0
  | m + 1 => enc8 b q m * 256 + b (q + m)
theorem pl_le (b : Nat → Int) {n p : Nat} (h : p ≤ n) : p ≤ pl b n p ∧ pl b n p ≤ n := ⟨(rn_ge isB b n _ p rfl).1, (rn_ge isB b n _ p rfl).2.1 h⟩
theorem lE_le (b : Nat → Int) {n p : Nat} (h : p ≤ n) : pl b n p ≤ lE b n p ∧ lE b n p ≤ n := ⟨(rn_ge isL b n _ _ rfl).1, (rn_ge isL b n _ _ rfl).2.1 (pl_le b h).2⟩
theorem dE_le (b : Nat → Int) {n p : Nat} (h : p ≤ n) : pl b n p ≤ dE b n p ∧ dE b n p ≤ n := ⟨(rn_ge isD b n _ _ rfl).1, (rn_ge isD b n _ _ rfl).2.1 (pl_le b h).2⟩
theorem nx_le (b : Nat → Int) {n p : Nat} (h : p ≤ n) : pl b n p ≤ nx b n p ∧ nx b n p ≤ n := by
  have h1 := pl_le b h
  have h2 := lE_le b h
  have h3 := dE_le b h
  unfold nx
  split
  · omega
  · split
    · omega
    · split
      · omega
      · split <;> omega
theorem nx_lt (b : Nat → Int) {n p : Nat} (h : p ≤ n) (hk : kd b n p ≠ 0 ∧ kd b n p ≠ 4) : pl b n p < nx b n p := by
  unfold kd at hk
  unfold nx
  by_cases e0 : n ≤ pl b n p
  · rw [if_pos e0] at hk; exact absurd rfl hk.1
  · rw [if_neg e0] at hk ⊢
    by_cases e1 : isL (b (pl b n p)) = true
    · rw [if_pos e1]
      unfold lE
      rw [rn_step ⟨by omega, e1⟩]
      have := (rn_ge isL b n _ (pl b n p + 1) rfl).1
      omega
    · rw [if_neg e1] at hk ⊢
      by_cases e2 : isD (b (pl b n p)) = true
      · rw [if_pos e2]
        unfold dE
        rw [rn_step ⟨by omega, e2⟩]
        have := (rn_ge isD b n _ (pl b n p + 1) rfl).1
        omega
      · rw [if_neg e2] at hk ⊢
        by_cases e3 : b (pl b n p) = 59
        · rw [if_pos e3]; omega
        · rw [if_neg e3] at hk; exact absurd rfl hk.2
theorem valD_b {b : Nat → Int} {q m : Nat} (h : ∀ i, i < m → 48 ≤ b (q + i) ∧ b (q + i) ≤ 57) (hm : m ≤ 3) : 0 ≤ valD b q m ∧ valD b q m ≤ 999 := by
  match m, hm, h with
  | 0, _, _ => exact ⟨Int.le_refl _, by show (0 : Int) ≤ 999; omega⟩
  | 1, _, h => have h0 := h 0 (by omega); show 0 ≤ 0 * 10 + (b (q + 0) - 48) ∧ _; constructor <;> (try show (0 : Int) * 10 + (b (q + 0) - 48) ≤ 999) <;> omega
  | 2, _, h =>
    have h0 := h 0 (by omega)
    have h1 := h 1 (by omega)
    constructor
    · show 0 ≤ ((0 : Int) * 10 + (b (q + 0) - 48)) * 10 + (b (q + 1) - 48); omega
    · show ((0 : Int) * 10 + (b (q + 0) - 48)) * 10 + (b (q + 1) - 48) ≤ 999; omega
  | 3, _, h =>
    have h0 := h 0 (by omega)
    have h1 := h 1 (by omega)
    have h2 := h 2 (by omega)
    constructor
    · show 0 ≤ (((0 : Int) * 10 + (b (q + 0) - 48)) * 10 + (b (q + 1) - 48)) * 10 + (b (q + 2) - 48); omega
    · show (((0 : Int) * 10 + (b (q + 0) - 48)) * 10 + (b (q + 1) - 48)) * 10 + (b (q + 2) - 48) ≤ 999; omega
theorem JL_shl8 (w : Nat) : (JL (w : Int) <<< ((J 8).toInt64 &&& 63)).toBitVec = (BitVec.ofNat 64 w) <<< 8 := by
  have e : ((J 8).toInt64 &&& 63 : Int64) = 8 := by decide
  rw [e]
  show (BitVec.ofInt 64 (w : Int)) <<< ((8 : Int64).toBitVec.smod 64) = _
  have e2 : ((8 : Int64).toBitVec.smod 64) = 8#64 := by decide
  rw [e2, BitVec.ofInt_natCast]
  rfl
/-- or with what lies below the shift is a sum -/
theorem JL_or8 {w x : Int} (hw : 0 ≤ w ∧ w < 36028797018963968) (hx : 0 ≤ x ∧ x < 256) : (JL w <<< ((J 8).toInt64 &&& 63)) ||| JL x = JL (w * 256 + x) := by
  obtain ⟨u, rfl⟩ : ∃ u : Nat, w = (u : Int) := ⟨w.toNat, by omega⟩
  obtain ⟨y, rfl⟩ : ∃ y : Nat, x = (y : Int) := ⟨x.toNat, by omega⟩
  apply Int64.toBitVec_inj.mp
  show (JL (u : Int) <<< ((J 8).toInt64 &&& 63)).toBitVec ||| (JL (y : Int)).toBitVec = (JL ((u : Int) * 256 + (y : Int))).toBitVec
  rw [JL_shl8]
  show (BitVec.ofNat 64 u) <<< 8 ||| BitVec.ofInt 64 (y : Int) = BitVec.ofInt 64 ((u : Int) * 256 + (y : Int))
  rw [show (u : Int) * 256 + (y : Int) = ((u * 256 + y : Nat) : Int) by omega, BitVec.ofInt_natCast, BitVec.ofInt_natCast]
  apply BitVec.eq_of_toNat_eq
  rw [BitVec.toNat_or, BitVec.toNat_shiftLeft, BitVec.toNat_ofNat, BitVec.toNat_ofNat, BitVec.toNat_ofNat]
  rw [Nat.mod_eq_of_lt (show u < 2 ^ 64 by omega), Nat.mod_eq_of_lt (show y < 2 ^ 64 by omega), Nat.shiftLeft_eq, Nat.mod_eq_of_lt (show u * 2 ^ 8 < 2 ^ 64 by omega), Nat.mod_eq_of_lt (show u * 256 + y < 2 ^ 64 by omega)]
  have := Nat.shiftLeft_add_eq_or_of_lt (i := 8) (b := y) (by omega) u
  rw [Nat.shiftLeft_eq] at this
  rw [← this]
theorem JL_shl5 (w : Nat) : (JL (w : Int) <<< ((J 5).toInt64 &&& 63)).toBitVec = (BitVec.ofNat 64 w) <<< 5 := by
  have e : ((J 5).toInt64 &&& 63 : Int64) = 5 := by decide
  rw [e]
  show (BitVec.ofInt 64 (w : Int)) <<< ((5 : Int64).toBitVec.smod 64) = _
  have e2 : ((5 : Int64).toBitVec.smod 64) = 5#64 := by decide
  rw [e2, BitVec.ofInt_natCast]
  rfl
/-- or with what lies below the shift is a sum -/
theorem JL_or5 {w x : Int} (hw : 0 ≤ w ∧ w < 36028797018963968) (hx : 0 ≤ x ∧ x < 32) : (JL w <<< ((J 5).toInt64 &&& 63)) ||| JL x = JL (w * 32 + x) := by
  obtain ⟨u, rfl⟩ : ∃ u : Nat, w = (u : Int) := ⟨w.toNat, by omega⟩
  obtain ⟨y, rfl⟩ : ∃ y : Nat, x = (y : Int) := ⟨x.toNat, by omega⟩
  apply Int64.toBitVec_inj.mp
  show (JL (u : Int) <<< ((J 5).toInt64 &&& 63)).toBitVec ||| (JL (y : Int)).toBitVec = (JL ((u : Int) * 32 + (y : Int))).toBitVec
  rw [JL_shl5]
  show (BitVec.ofNat 64 u) <<< 5 ||| BitVec.ofInt 64 (y : Int) = BitVec.ofInt 64 ((u : Int) * 32 + (y : Int))
  rw [show (u : Int) * 32 + (y : Int) = ((u * 32 + y : Nat) : Int) by omega, BitVec.ofInt_natCast, BitVec.ofInt_natCast]
  apply BitVec.eq_of_toNat_eq
  rw [BitVec.toNat_or, BitVec.toNat_shiftLeft, BitVec.toNat_ofNat, BitVec.toNat_ofNat, BitVec.toNat_ofNat]
  rw [Nat.mod_eq_of_lt (show u < 2 ^ 64 by omega), Nat.mod_eq_of_lt (show y < 2 ^ 64 by omega), Nat.shiftLeft_eq, Nat.mod_eq_of_lt (show u * 2 ^ 5 < 2 ^ 64 by omega), Nat.mod_eq_of_lt (show u * 32 + y < 2 ^ 64 by omega)]
  have := Nat.shiftLeft_add_eq_or_of_lt (i := 5) (b := y) (by omega) u
  rw [Nat.shiftLeft_eq] at this
  rw [← this]
theorem enc8_b {b : Nat → Int} {q : Nat} : ∀ m, (∀ i, i < m → 97 ≤ b (q + i) ∧ b (q + i) ≤ 122) → 0 ≤ enc8 b q m ∧ enc8 b q m < 256 ^ m := by
  intro m
  induction m with
  | zero => intro _; exact ⟨Int.le_refl _, by show (0 : Int) < 1; omega⟩
  | succ m ih =>
    intro h
    have h1 := ih (fun i hi => h i (by omega))
    have h2 := h m (by omega)
    have e : (256 : Int) ^ (m + 1) = 256 ^ m * 256 := Int.pow_succ 256 m
    rw [e]
    show 0 ≤ enc8 b q m * 256 + b (q + m) ∧ enc8 b q m * 256 + b (q + m) < 256 ^ m * 256
    omega
theorem enc8_s {b : Nat → Int} {q m : Nat} (hm : m < 7) (h : ∀ i, i < m → 97 ≤ b (q + i) ∧ b (q + i) ≤ 122) : 0 ≤ enc8 b q m ∧ enc8 b q m < 36028797018963968 := by
  have h1 := enc8_b m h
  have h2 : (256 : Int) ^ m ≤ 281474976710656 := by
    rcases (show m = 0 ∨ m = 1 ∨ m = 2 ∨ m = 3 ∨ m = 4 ∨ m = 5 ∨ m = 6 by omega) with e | e | e | e | e | e | e <;> subst e <;> decide
  omega
/-- the scanner stands at the token that is met from p on -/
def AtC (M : Mem) (b : Nat → Int) (n p : Nat) : Prop :=
  (∀ i, i < n → gI M 1 i = b i) ∧ gI M 3 1 = (n : Int) ∧ gI M 3 2 = (nx b n p : Int) ∧ gI M 3 3 = (pl b n p : Int) ∧ gI M 3 4 = (kd b n p : Int) ∧
  (kd b n p = 1 → gL M 3 5 = JL (enc8 b (pl b n p) (lE b n p - pl b n p))) ∧ (kd b n p = 2 → gI M 3 6 = vlu b n p)
/-- nothing but the scanner's own fields has changed -/
def AgS (M N : Mem) : Prop := (∀ q, q ≠ 3 → gI N q = gI M q) ∧ (∀ q, q ≠ 3 → gL N q = gL M q) ∧ gR N = gR M ∧ gI N 3 1 = gI M 3 1
theorem AgS.rfl9 (M : Mem) : AgS M M := ⟨fun _ _ => rfl, fun _ _ => rfl, rfl, rfl⟩
theorem AgS.sI {M N : Mem} (h : AgS M N) {f : Nat} (v : Int) (hf : f ≠ 1) : AgS M (sI N 3 f v) := ⟨fun q hq => by rw [gI_sI_ne hq]; exact h.1 q hq, h.2.1, h.2.2.1, by rw [gI_sI, if_pos rfl, if_neg (Ne.symm hf)]; exact h.2.2.2⟩
theorem AgS.sL {M N : Mem} (h : AgS M N) (f : Nat) (v : Int64) : AgS M (sL N 3 f v) := ⟨h.1, fun q hq => by rw [gL_sL_ne hq]; exact h.2.1 q hq, h.2.2.1, h.2.2.2⟩
theorem g3 (N : Mem) (f i : Nat) (v : Int) : gI (sI N 3 f v) 3 i = if i = f then v else gI N 3 i := by rw [gI_sI, if_pos rfl]
section Lex
variable {G : Gt} {d : Nat} {M : Mem} {b : Nat → Int} {n : Nat}
set_option maxHeartbeats 2000000 in
theorem c_takeWord (hn : n ≤ 800) (hb : ∀ i, i < n → gI M 1 i = b i) (hr : ∀ i, i < n → -128 ≤ b i ∧ b i < 128) (he : gI M 3 1 = (n : Int)) {q : Nat} (hq : q ≤ n) (h2 : gI M 3 2 = (q : Int)) (h3 : gI M 3 3 = (q : Int)) : V G d mX10_takeWord 0 [some (.ref 3)] [] M (fun r N => r = none ∧ AgS M N ∧ gI N 3 2 = (rn isL b n q : Int) ∧ gI N 3 3 = (q : Int) ∧ gI N 3 4 = (if rn isL b n q - q ≤ 7 then 1 else 4) ∧ (rn isL b n q - q ≤ 7 → gL N 3 5 = JL (enc8 b q (rn isL b n q - q)))) := by
  refine v_aload_n (pc := 0) 0 rfl rfl ?_
  refine v_lconst (pc := 1) 1 rfl ?_
  refine v_putL (pc := 2) 2 rfl fl_X10_32 rfl ?_
  have loop : ∀ m p, n - p = m → p ≤ n → q ≤ p → rn isL b n p = rn isL b n q → (∀ i, q ≤ i → i < p → 97 ≤ b i ∧ b i ≤ 122) → ∀ N, AgS M N → gI N 3 2 = (p : Int) → gI N 3 3 = (q : Int) → (p - q ≤ 7 → gL N 3 5 = JL (enc8 b q (p - q))) → V G d mX10_takeWord 5 [some (.ref 3)] [] N (fun r N => r = none ∧ AgS M N ∧ gI N 3 2 = (rn isL b n q : Int) ∧ gI N 3 3 = (q : Int) ∧ gI N 3 4 = (if rn isL b n q - q ≤ 7 then 1 else 4) ∧ (rn isL b n q - q ≤ 7 → gL N 3 5 = JL (enc8 b q (rn isL b n q - q)))) := by
    intro m
    induction m with
    | zero =>
      intro p hp hpn hqp hrn hlet N hA hn2 hn3 hw
      have e1 : gI N 3 1 = (n : Int) := hA.2.2.2.trans he
      rw [rn_stop (by omega)] at hrn
      rw [← hrn]
      refine v_aload_n (pc := 5) 3 rfl rfl ?_
      refine v_getI (pc := 6) 4 rfl fl_X10_26 rfl ?_
      refine v_aload_n (pc := 9) 5 rfl rfl ?_
      refine v_getI (pc := 10) 6 rfl fl_X10_13 rfl ?_
      refine v_ic_geT (pc := 13) 7 79 rfl (by decide) (by omega) (by omega) ?_
      refine v_aload_n (pc := 79) 42 rfl rfl ?_
      refine v_aload_n (pc := 80) 43 rfl rfl ?_
      refine v_getI (pc := 81) 44 rfl fl_X10_26 rfl ?_
      refine v_aload_n (pc := 84) 45 rfl rfl ?_
      refine v_getI (pc := 85) 46 rfl fl_X10_36 rfl ?_
      refine v_isub (pc := 88) 47 rfl ?_
      refine v_bipush (pc := 89) 48 rfl (by decide) ?_
      refine v_ic_gt (pc := 91) 49 98 rfl (by decide) (by omega) (fun c4 => ?_) (fun c4 => ?_)
      · refine v_iconst (pc := 98) 52 rfl ?_
        refine v_putI (pc := 99) 53 rfl fl_X10_17 rfl ?_
        refine v_ret (pc := 102) 54 rfl rfl ⟨rfl, hA.sI _ (by decide), by rw [g3, if_neg (by decide)]; exact hn2, by rw [g3, if_neg (by decide)]; exact hn3, by rw [g3, if_pos rfl, if_neg (by omega)], fun h => by omega⟩
      · refine v_iconst (pc := 94) 50 rfl ?_
        refine v_goto (pc := 95) 51 99 rfl (by decide) ?_
        refine v_putI (pc := 99) 53 rfl fl_X10_17 rfl ?_
        refine v_ret (pc := 102) 54 rfl rfl ⟨rfl, hA.sI _ (by decide), by rw [g3, if_neg (by decide)]; exact hn2, by rw [g3, if_neg (by decide)]; exact hn3, by rw [g3, if_pos rfl, if_pos (by omega)], fun h => hw h⟩
    | succ m ih =>
      intro p hp hpn hqp hrn hlet N hA hn2 hn3 hw
      have e1 : gI N 3 1 = (n : Int) := hA.2.2.2.trans he
      have ex : rn isL b n q = p → V G d mX10_takeWord 79 [some (.ref 3)] [] N (fun r N => r = none ∧ AgS M N ∧ gI N 3 2 = (rn isL b n q : Int) ∧ gI N 3 3 = (q : Int) ∧ gI N 3 4 = (if rn isL b n q - q ≤ 7 then 1 else 4) ∧ (rn isL b n q - q ≤ 7 → gL N 3 5 = JL (enc8 b q (rn isL b n q - q)))) := by
        intro hrn
        rw [hrn]
        refine v_aload_n (pc := 79) 42 rfl rfl ?_
        refine v_aload_n (pc := 80) 43 rfl rfl ?_
        refine v_getI (pc := 81) 44 rfl fl_X10_26 rfl ?_
        refine v_aload_n (pc := 84) 45 rfl rfl ?_
        refine v_getI (pc := 85) 46 rfl fl_X10_36 rfl ?_
        refine v_isub (pc := 88) 47 rfl ?_
        refine v_bipush (pc := 89) 48 rfl (by decide) ?_
        refine v_ic_gt (pc := 91) 49 98 rfl (by decide) (by omega) (fun c4 => ?_) (fun c4 => ?_)
        · refine v_iconst (pc := 98) 52 rfl ?_
          refine v_putI (pc := 99) 53 rfl fl_X10_17 rfl ?_
          refine v_ret (pc := 102) 54 rfl rfl ⟨rfl, hA.sI _ (by decide), by rw [g3, if_neg (by decide)]; exact hn2, by rw [g3, if_neg (by decide)]; exact hn3, by rw [g3, if_pos rfl, if_neg (by omega)], fun h => by omega⟩
        · refine v_iconst (pc := 94) 50 rfl ?_
          refine v_goto (pc := 95) 51 99 rfl (by decide) ?_
          refine v_putI (pc := 99) 53 rfl fl_X10_17 rfl ?_
          refine v_ret (pc := 102) 54 rfl rfl ⟨rfl, hA.sI _ (by decide), by rw [g3, if_neg (by decide)]; exact hn2, by rw [g3, if_neg (by decide)]; exact hn3, by rw [g3, if_pos rfl, if_pos (by omega)], fun h => hw h⟩
      have hpn2 : p < n := by omega
      have hbp : gI N 1 p = b p := by rw [hA.1 1 (by decide)]; exact hb p hpn2
      have hrp := hr p hpn2
      refine v_aload_n (pc := 5) 3 rfl rfl ?_
      refine v_getI (pc := 6) 4 rfl fl_X10_26 rfl ?_
      refine v_aload_n (pc := 9) 5 rfl rfl ?_
      refine v_getI (pc := 10) 6 rfl fl_X10_13 rfl ?_
      refine v_ic_geF (pc := 13) 7 79 rfl (by decide) (by omega) (by omega) ?_
      refine v_aload_n (pc := 16) 8 rfl rfl ?_
      refine v_getC (pc := 17) 9 rfl fl_X10_7 rfl 1 rfl ?_
      refine v_aload_n (pc := 20) 10 rfl rfl ?_
      refine v_getI (pc := 21) 11 rfl fl_X10_26 rfl ?_
      refine v_baldE (pc := 24) 12 rfl rfl p (by omega) ?_
      refine v_bipush (pc := 25) 13 rfl (by decide) ?_
      refine v_ic_lt (pc := 27) 14 79 rfl (by decide) (by omega) (fun c2 => ?_) (fun c2 => ?_)
      · exact ex (by rw [← hrn]; exact rn_stop (fun h => by have := of_decide_eq_true h.2; omega))
      · refine v_aload_n (pc := 30) 15 rfl rfl ?_
        refine v_getC (pc := 31) 16 rfl fl_X10_7 rfl 1 rfl ?_
        refine v_aload_n (pc := 34) 17 rfl rfl ?_
        refine v_getI (pc := 35) 18 rfl fl_X10_26 rfl ?_
        refine v_baldE (pc := 38) 19 rfl rfl p (by omega) ?_
        refine v_bipush (pc := 39) 20 rfl (by decide) ?_
        refine v_ic_gt (pc := 41) 21 79 rfl (by decide) (by omega) (fun c3 => ?_) (fun c3 => ?_)
        · exact ex (by rw [← hrn]; exact rn_stop (fun h => by have := of_decide_eq_true h.2; omega))
        · rw [rn_step ⟨hpn2, decide_eq_true (by omega)⟩] at hrn
          by_cases h7 : p - q < 7
          · have hw7 := hw (by omega)
            have hs := enc8_s (b := b) (q := q) (m := p - q) h7 (fun i hi => hlet (q + i) (by omega) (by omega))
            refine v_aload_n (pc := 44) 22 rfl rfl ?_
            refine v_aload_n (pc := 45) 23 rfl rfl ?_
            refine v_getL (pc := 46) 24 rfl fl_X10_32 rfl ?_
            refine v_bipush (pc := 49) 25 rfl (by decide) ?_
            refine v_lshl (pc := 51) 26 rfl (JL (enc8 b q (p - q)) <<< ((J 8).toInt64 &&& 63)) (by rw [hw7]) ?_
            refine v_aload_n (pc := 52) 27 rfl rfl ?_
            refine v_getC (pc := 53) 28 rfl fl_X10_7 rfl 1 rfl ?_
            refine v_aload_n (pc := 56) 29 rfl rfl ?_
            refine v_getI (pc := 57) 30 rfl fl_X10_26 rfl ?_
            refine v_baldE (pc := 60) 31 rfl rfl p (by omega) ?_
            refine v_i2l (pc := 61) 32 rfl (by omega) ?_
            refine v_lor (pc := 62) 33 rfl (JL (enc8 b q (p - q) * 256 + b p)) (by rw [hbp]; exact JL_or8 hs (by omega)) ?_
            refine v_putL (pc := 63) 34 rfl fl_X10_32 rfl ?_
            refine v_aload_n (pc := 66) 35 rfl rfl ?_
            refine v_dup (pc := 67) 36 rfl rfl ?_
            refine v_getI (pc := 68) 37 rfl fl_X10_26 rfl ?_
            refine v_iconst (pc := 71) 38 rfl ?_
            refine v_iadd (pc := 72) 39 rfl ?_
            refine v_putI (pc := 73) 40 rfl fl_X10_26 rfl ?_
            refine v_goto (pc := 76) 41 5 rfl (by decide) ?_
            refine ih (p + 1) (by omega) (by omega) (by omega) hrn (fun i h1 h2 => ?_) _ ((hA.sL 5 _).sI _ (by decide)) ?_ ?_ (fun _ => ?_)
            · by_cases e : i = p
              · rw [e]; omega
              · exact hlet i h1 (by omega)
            · rw [g3, if_pos rfl]
              show gI N 3 2 + 1 = _
              omega
            · rw [g3, if_neg (by decide)]; exact hn3
            · show gL (sL N 3 5 _) 3 5 = _
              rw [gL_sL, if_pos rfl, if_pos rfl, show p + 1 - q = (p - q) + 1 by omega]
              show _ = JL (enc8 b q (p - q) * 256 + b (q + (p - q)))
              rw [show q + (p - q) = p by omega]
          · obtain ⟨wv, hwv⟩ : ∃ wv, wv = gL N 3 5 <<< ((J 8).toInt64 &&& 63) := ⟨_, rfl⟩
            obtain ⟨wu, hwu⟩ : ∃ wu, wu = wv ||| JL (gI N 1 p) := ⟨_, rfl⟩
            refine v_aload_n (pc := 44) 22 rfl rfl ?_
            refine v_aload_n (pc := 45) 23 rfl rfl ?_
            refine v_getL (pc := 46) 24 rfl fl_X10_32 rfl ?_
            refine v_bipush (pc := 49) 25 rfl (by decide) ?_
            refine v_lshl (pc := 51) 26 rfl (wv) hwv.symm ?_
            refine v_aload_n (pc := 52) 27 rfl rfl ?_
            refine v_getC (pc := 53) 28 rfl fl_X10_7 rfl 1 rfl ?_
            refine v_aload_n (pc := 56) 29 rfl rfl ?_
            refine v_getI (pc := 57) 30 rfl fl_X10_26 rfl ?_
            refine v_baldE (pc := 60) 31 rfl rfl p (by omega) ?_
            refine v_i2l (pc := 61) 32 rfl (by omega) ?_
            refine v_lor (pc := 62) 33 rfl (wu) hwu.symm ?_
            refine v_putL (pc := 63) 34 rfl fl_X10_32 rfl ?_
            refine v_aload_n (pc := 66) 35 rfl rfl ?_
            refine v_dup (pc := 67) 36 rfl rfl ?_
            refine v_getI (pc := 68) 37 rfl fl_X10_26 rfl ?_
            refine v_iconst (pc := 71) 38 rfl ?_
            refine v_iadd (pc := 72) 39 rfl ?_
            refine v_putI (pc := 73) 40 rfl fl_X10_26 rfl ?_
            refine v_goto (pc := 76) 41 5 rfl (by decide) ?_
            refine ih (p + 1) (by omega) (by omega) (by omega) hrn (fun i h1 h2 => ?_) _ ((hA.sL 5 _).sI _ (by decide)) ?_ ?_ (fun h => by omega)
            · by_cases e : i = p
              · rw [e]; omega
              · exact hlet i h1 (by omega)
            · rw [g3, if_pos rfl]
              show gI N 3 2 + 1 = _
              omega
            · rw [g3, if_neg (by decide)]; exact hn3
  exact loop _ q rfl hq (Nat.le_refl q) rfl (fun i h1 h2 => by omega) _ ((AgS.rfl9 M).sL 5 0) h2 h3 (fun _ => by rw [gL_sL, if_pos rfl, if_pos rfl, Nat.sub_self]; rfl)
set_option maxHeartbeats 2000000 in
theorem c_takeNumber (hn : n ≤ 800) (hb : ∀ i, i < n → gI M 1 i = b i) (hr : ∀ i, i < n → -128 ≤ b i ∧ b i < 128) (he : gI M 3 1 = (n : Int)) {q : Nat} (hq : q ≤ n) (h2 : gI M 3 2 = (q : Int)) (h3 : gI M 3 3 = (q : Int)) : V G d mX10_takeNumber 0 [some (.ref 3)] [] M (fun r N => r = none ∧ AgS M N ∧ gL N 3 = gL M 3 ∧ gI N 3 2 = (rn isD b n q : Int) ∧ gI N 3 3 = (q : Int) ∧ gI N 3 4 = (if rn isD b n q - q ≤ 3 then 2 else 4) ∧ gI N 3 6 = valD b q (rn isD b n q - q)) := by
  refine v_aload_n (pc := 0) 0 rfl rfl ?_
  refine v_iconst (pc := 1) 1 rfl ?_
  refine v_putI (pc := 2) 2 rfl fl_X10_45 rfl ?_
  have loop : ∀ m p, n - p = m → p ≤ n → q ≤ p → rn isD b n p = rn isD b n q → ∀ N, AgS M N → gL N 3 = gL M 3 → gI N 3 2 = (p : Int) → gI N 3 3 = (q : Int) → gI N 3 6 = valD b q (p - q) → V G d mX10_takeNumber 5 [some (.ref 3)] [] N (fun r N => r = none ∧ AgS M N ∧ gL N 3 = gL M 3 ∧ gI N 3 2 = (rn isD b n q : Int) ∧ gI N 3 3 = (q : Int) ∧ gI N 3 4 = (if rn isD b n q - q ≤ 3 then 2 else 4) ∧ gI N 3 6 = valD b q (rn isD b n q - q)) := by
    intro m
    induction m with
    | zero =>
      intro p hp hpn hqp hrn N hA hL hn2 hn3 hw
      have e1 : gI N 3 1 = (n : Int) := hA.2.2.2.trans he
      rw [rn_stop (by omega)] at hrn
      rw [← hrn]
      refine v_aload_n (pc := 5) 3 rfl rfl ?_
      refine v_getI (pc := 6) 4 rfl fl_X10_26 rfl ?_
      refine v_aload_n (pc := 9) 5 rfl rfl ?_
      refine v_getI (pc := 10) 6 rfl fl_X10_13 rfl ?_
      refine v_ic_geT (pc := 13) 7 81 rfl (by decide) (by omega) (by omega) ?_
      refine v_aload_n (pc := 81) 43 rfl rfl ?_
      refine v_aload_n (pc := 82) 44 rfl rfl ?_
      refine v_getI (pc := 83) 45 rfl fl_X10_26 rfl ?_
      refine v_aload_n (pc := 86) 46 rfl rfl ?_
      refine v_getI (pc := 87) 47 rfl fl_X10_36 rfl ?_
      refine v_isub (pc := 90) 48 rfl ?_
      refine v_iconst (pc := 91) 49 rfl ?_
      refine v_ic_gt (pc := 92) 50 99 rfl (by decide) (by omega) (fun c4 => ?_) (fun c4 => ?_)
      · refine v_iconst (pc := 99) 53 rfl ?_
        refine v_putI (pc := 100) 54 rfl fl_X10_17 rfl ?_
        refine v_ret (pc := 103) 55 rfl rfl ⟨rfl, hA.sI _ (by decide), hL, by rw [g3, if_neg (by decide)]; exact hn2, by rw [g3, if_neg (by decide)]; exact hn3, by rw [g3, if_pos rfl, if_neg (by omega)], by rw [g3, if_neg (by decide)]; exact hw⟩
      · refine v_iconst (pc := 95) 51 rfl ?_
        refine v_goto (pc := 96) 52 100 rfl (by decide) ?_
        refine v_putI (pc := 100) 54 rfl fl_X10_17 rfl ?_
        refine v_ret (pc := 103) 55 rfl rfl ⟨rfl, hA.sI _ (by decide), hL, by rw [g3, if_neg (by decide)]; exact hn2, by rw [g3, if_neg (by decide)]; exact hn3, by rw [g3, if_pos rfl, if_pos (by omega)], by rw [g3, if_neg (by decide)]; exact hw⟩
    | succ m ih =>
      intro p hp hpn hqp hrn N hA hL hn2 hn3 hw
      have e1 : gI N 3 1 = (n : Int) := hA.2.2.2.trans he
      have ex : rn isD b n q = p → V G d mX10_takeNumber 81 [some (.ref 3)] [] N (fun r N => r = none ∧ AgS M N ∧ gL N 3 = gL M 3 ∧ gI N 3 2 = (rn isD b n q : Int) ∧ gI N 3 3 = (q : Int) ∧ gI N 3 4 = (if rn isD b n q - q ≤ 3 then 2 else 4) ∧ gI N 3 6 = valD b q (rn isD b n q - q)) := by
        intro hrn
        rw [hrn]
        refine v_aload_n (pc := 81) 43 rfl rfl ?_
        refine v_aload_n (pc := 82) 44 rfl rfl ?_
        refine v_getI (pc := 83) 45 rfl fl_X10_26 rfl ?_
        refine v_aload_n (pc := 86) 46 rfl rfl ?_
        refine v_getI (pc := 87) 47 rfl fl_X10_36 rfl ?_
        refine v_isub (pc := 90) 48 rfl ?_
        refine v_iconst (pc := 91) 49 rfl ?_
        refine v_ic_gt (pc := 92) 50 99 rfl (by decide) (by omega) (fun c4 => ?_) (fun c4 => ?_)
        · refine v_iconst (pc := 99) 53 rfl ?_
          refine v_putI (pc := 100) 54 rfl fl_X10_17 rfl ?_
          refine v_ret (pc := 103) 55 rfl rfl ⟨rfl, hA.sI _ (by decide), hL, by rw [g3, if_neg (by decide)]; exact hn2, by rw [g3, if_neg (by decide)]; exact hn3, by rw [g3, if_pos rfl, if_neg (by omega)], by rw [g3, if_neg (by decide)]; exact hw⟩
        · refine v_iconst (pc := 95) 51 rfl ?_
          refine v_goto (pc := 96) 52 100 rfl (by decide) ?_
          refine v_putI (pc := 100) 54 rfl fl_X10_17 rfl ?_
          refine v_ret (pc := 103) 55 rfl rfl ⟨rfl, hA.sI _ (by decide), hL, by rw [g3, if_neg (by decide)]; exact hn2, by rw [g3, if_neg (by decide)]; exact hn3, by rw [g3, if_pos rfl, if_pos (by omega)], by rw [g3, if_neg (by decide)]; exact hw⟩
      have hpn2 : p < n := by omega
      have hbp : gI N 1 p = b p := by rw [hA.1 1 (by decide)]; exact hb p hpn2
      have hrp := hr p hpn2
      refine v_aload_n (pc := 5) 3 rfl rfl ?_
      refine v_getI (pc := 6) 4 rfl fl_X10_26 rfl ?_
      refine v_aload_n (pc := 9) 5 rfl rfl ?_
      refine v_getI (pc := 10) 6 rfl fl_X10_13 rfl ?_
      refine v_ic_geF (pc := 13) 7 81 rfl (by decide) (by omega) (by omega) ?_
      refine v_aload_n (pc := 16) 8 rfl rfl ?_
      refine v_getC (pc := 17) 9 rfl fl_X10_7 rfl 1 rfl ?_
      refine v_aload_n (pc := 20) 10 rfl rfl ?_
      refine v_getI (pc := 21) 11 rfl fl_X10_26 rfl ?_
      refine v_baldE (pc := 24) 12 rfl rfl p (by omega) ?_
      refine v_bipush (pc := 25) 13 rfl (by decide) ?_
      refine v_ic_lt (pc := 27) 14 81 rfl (by decide) (by omega) (fun c2 => ?_) (fun c2 => ?_)
      · exact ex (by rw [← hrn]; exact rn_stop (fun h => by have := of_decide_eq_true h.2; omega))
      · refine v_aload_n (pc := 30) 15 rfl rfl ?_
        refine v_getC (pc := 31) 16 rfl fl_X10_7 rfl 1 rfl ?_
        refine v_aload_n (pc := 34) 17 rfl rfl ?_
        refine v_getI (pc := 35) 18 rfl fl_X10_26 rfl ?_
        refine v_baldE (pc := 38) 19 rfl rfl p (by omega) ?_
        refine v_bipush (pc := 39) 20 rfl (by decide) ?_
        refine v_ic_gt (pc := 41) 21 81 rfl (by decide) (by omega) (fun c3 => ?_) (fun c3 => ?_)
        · exact ex (by rw [← hrn]; exact rn_stop (fun h => by have := of_decide_eq_true h.2; omega))
        · rw [rn_step ⟨hpn2, decide_eq_true (by omega)⟩] at hrn
          refine v_aload_n (pc := 44) 22 rfl rfl ?_
          refine v_aload_n (pc := 45) 23 rfl rfl ?_
          refine v_getI (pc := 46) 24 rfl fl_X10_45 rfl ?_
          refine v_bipush (pc := 49) 25 rfl (by decide) ?_
          refine v_imul (pc := 51) 26 rfl ?_
          refine v_aload_n (pc := 52) 27 rfl rfl ?_
          refine v_getC (pc := 53) 28 rfl fl_X10_7 rfl 1 rfl ?_
          refine v_aload_n (pc := 56) 29 rfl rfl ?_
          refine v_getI (pc := 57) 30 rfl fl_X10_26 rfl ?_
          refine v_baldE (pc := 60) 31 rfl rfl p (by omega) ?_
          refine v_bipush (pc := 61) 32 rfl (by decide) ?_
          refine v_isub (pc := 63) 33 rfl ?_
          refine v_iadd (pc := 64) 34 rfl ?_
          refine v_putI (pc := 65) 35 rfl fl_X10_45 rfl ?_
          refine v_aload_n (pc := 68) 36 rfl rfl ?_
          refine v_dup (pc := 69) 37 rfl rfl ?_
          refine v_getI (pc := 70) 38 rfl fl_X10_26 rfl ?_
          refine v_iconst (pc := 73) 39 rfl ?_
          refine v_iadd (pc := 74) 40 rfl ?_
          refine v_putI (pc := 75) 41 rfl fl_X10_26 rfl ?_
          refine v_goto (pc := 78) 42 5 rfl (by decide) ?_
          refine ih (p + 1) (by omega) (by omega) (by omega) hrn _ ((hA.sI _ (by decide)).sI _ (by decide)) hL ?_ ?_ ?_
          · rw [g3, if_pos rfl, g3, if_neg (by decide)]
            omega
          · rw [g3, if_neg (by decide), g3, if_neg (by decide)]; exact hn3
          · rw [g3, if_neg (by decide), g3, if_pos rfl, hw, hbp, show p + 1 - q = (p - q) + 1 by omega]
            show _ = valD b q (p - q) * 10 + (b (q + (p - q)) - 48)
            rw [show q + (p - q) = p by omega]
  exact loop _ q rfl hq (Nat.le_refl q) rfl _ ((AgS.rfl9 M).sI _ (by decide)) rfl (by rw [g3, if_neg (by decide)]; exact h2) (by rw [g3, if_neg (by decide)]; exact h3) (by rw [g3, if_pos rfl, Nat.sub_self]; rfl)
set_option maxHeartbeats 2000000 in
theorem c_advance (hn : n ≤ 800) (hb : ∀ i, i < n → gI M 1 i = b i) (hr : ∀ i, i < n → -128 ≤ b i ∧ b i < 128) (he : gI M 3 1 = (n : Int)) {p : Nat} (hp : p ≤ n) (h2 : gI M 3 2 = (p : Int)) : V G (d + 1) mX10_advance 0 [some (.ref 3), none] [] M (fun r N => r = none ∧ AgS M N ∧ AtC N b n p) := by
  have atc : ∀ N, AgS M N → ∀ i, i < n → gI N 1 i = b i := fun N hA i hi => by rw [hA.1 1 (by decide)]; exact hb i hi
  have loop : ∀ m q, n - q = m → q ≤ n → pl b n q = pl b n p → ∀ N, AgS M N → gI N 3 2 = (q : Int) → V G (d + 1) mX10_advance 0 [some (.ref 3), none] [] N (fun r N => r = none ∧ AgS M N ∧ AtC N b n p) := by
    intro m
    induction m with
    | zero =>
      intro q hq hqn hrn N hA hn2
      have e1 : gI N 3 1 = (n : Int) := hA.2.2.2.trans he
      have hplq : pl b n q = q := rn_stop (by omega)
      have hpl : pl b n p = n := by rw [← hrn, hplq]; omega
      have e1a : gI (sI N 3 3 (gI N 3 2)) 3 1 = (n : Int) := by rw [g3, if_neg (by decide)]; exact e1
      have e2a : gI (sI N 3 3 (gI N 3 2)) 3 2 = (q : Int) := by rw [g3, if_neg (by decide)]; exact hn2
      have hk : kd b n p = 0 := by unfold kd; rw [if_pos (by omega)]
      have hx : nx b n p = n := by unfold nx; rw [if_pos (by omega)]; exact hpl
      refine v_aload_n (pc := 0) 0 rfl rfl ?_
      refine v_getI (pc := 1) 1 rfl fl_X10_26 rfl ?_
      refine v_aload_n (pc := 4) 2 rfl rfl ?_
      refine v_getI (pc := 5) 3 rfl fl_X10_13 rfl ?_
      refine v_ic_geT (pc := 8) 4 52 rfl (by decide) (by omega) (by omega) ?_
      refine v_aload_n (pc := 52) 26 rfl rfl ?_
      refine v_aload_n (pc := 53) 27 rfl rfl ?_
      refine v_getI (pc := 54) 28 rfl fl_X10_26 rfl ?_
      refine v_putI (pc := 57) 29 rfl fl_X10_36 rfl ?_
      refine v_aload_n (pc := 60) 30 rfl rfl ?_
      refine v_getI (pc := 61) 31 rfl fl_X10_26 rfl ?_
      refine v_aload_n (pc := 64) 32 rfl rfl ?_
      refine v_getI (pc := 65) 33 rfl fl_X10_13 rfl ?_
      refine v_ic_ltF (pc := 68) 34 77 rfl (by decide) (by omega) (by omega) ?_
      refine v_aload_n (pc := 71) 35 rfl rfl ?_
      refine v_iconst (pc := 72) 36 rfl ?_
      refine v_putI (pc := 73) 37 rfl fl_X10_17 rfl ?_
      refine v_ret (pc := 76) 38 rfl rfl ⟨rfl, (hA.sI _ (by decide)).sI _ (by decide), atc _ ((hA.sI _ (by decide)).sI _ (by decide)), ?_, ?_, ?_, ?_, fun h => by omega, fun h => by omega⟩
      · rw [g3, if_neg (by decide)]; exact e1a
      · rw [g3, if_neg (by decide), e2a, hx]; omega
      · rw [g3, if_neg (by decide), g3, if_pos rfl, hn2, hpl]; omega
      · rw [g3, if_pos rfl, hk]; rfl
    | succ m ih =>
      intro q hq hqn hrn N hA hn2
      have e1 : gI N 3 1 = (n : Int) := hA.2.2.2.trans he
      have hqn2 : q < n := by omega
      have hbq : gI N 1 q = b q := by rw [hA.1 1 (by decide)]; exact hb q hqn2
      have hrq := hr q hqn2
      by_cases hB : isB (b q) = true
      · have hB2 := of_decide_eq_true hB
        have hst : pl b n q = pl b n (q + 1) := rn_step ⟨hqn2, hB⟩
        have nxt : V G (d + 1) mX10_advance 39 [some (.ref 3), none] [] N (fun r N => r = none ∧ AgS M N ∧ AtC N b n p) := by
          refine v_aload_n (pc := 39) 19 rfl rfl ?_
          refine v_dup (pc := 40) 20 rfl rfl ?_
          refine v_getI (pc := 41) 21 rfl fl_X10_26 rfl ?_
          refine v_iconst (pc := 44) 22 rfl ?_
          refine v_iadd (pc := 45) 23 rfl ?_
          refine v_putI (pc := 46) 24 rfl fl_X10_26 rfl ?_
          refine v_goto (pc := 49) 25 0 rfl (by decide) ?_
          exact ih (q + 1) (by omega) (by omega) (by rw [← hst]; exact hrn) _ (hA.sI _ (by decide)) (by rw [g3, if_pos rfl, hn2]; rfl)
        by_cases h32 : b q = 32
        · refine v_aload_n (pc := 0) 0 rfl rfl ?_
          refine v_getI (pc := 1) 1 rfl fl_X10_26 rfl ?_
          refine v_aload_n (pc := 4) 2 rfl rfl ?_
          refine v_getI (pc := 5) 3 rfl fl_X10_13 rfl ?_
          refine v_ic_geF (pc := 8) 4 52 rfl (by decide) (by omega) (by omega) ?_
          refine v_aload_n (pc := 11) 5 rfl rfl ?_
          refine v_getC (pc := 12) 6 rfl fl_X10_7 rfl 1 rfl ?_
          refine v_aload_n (pc := 15) 7 rfl rfl ?_
          refine v_getI (pc := 16) 8 rfl fl_X10_26 rfl ?_
          refine v_baldE (pc := 19) 9 rfl rfl q (by omega) ?_
          refine v_bipush (pc := 20) 10 rfl (by decide) ?_
          refine v_ic_eqT (pc := 22) 11 39 rfl (by decide) (by omega) (by omega) ?_
          exact nxt
        · refine v_aload_n (pc := 0) 0 rfl rfl ?_
          refine v_getI (pc := 1) 1 rfl fl_X10_26 rfl ?_
          refine v_aload_n (pc := 4) 2 rfl rfl ?_
          refine v_getI (pc := 5) 3 rfl fl_X10_13 rfl ?_
          refine v_ic_geF (pc := 8) 4 52 rfl (by decide) (by omega) (by omega) ?_
          refine v_aload_n (pc := 11) 5 rfl rfl ?_
          refine v_getC (pc := 12) 6 rfl fl_X10_7 rfl 1 rfl ?_
          refine v_aload_n (pc := 15) 7 rfl rfl ?_
          refine v_getI (pc := 16) 8 rfl fl_X10_26 rfl ?_
          refine v_baldE (pc := 19) 9 rfl rfl q (by omega) ?_
          refine v_bipush (pc := 20) 10 rfl (by decide) ?_
          refine v_ic_eqF (pc := 22) 11 39 rfl (by decide) (by omega) (by omega) ?_
          refine v_aload_n (pc := 25) 12 rfl rfl ?_
          refine v_getC (pc := 26) 13 rfl fl_X10_7 rfl 1 rfl ?_
          refine v_aload_n (pc := 29) 14 rfl rfl ?_
          refine v_getI (pc := 30) 15 rfl fl_X10_26 rfl ?_
          refine v_baldE (pc := 33) 16 rfl rfl q (by omega) ?_
          refine v_bipush (pc := 34) 17 rfl (by decide) ?_
          refine v_ic_neF (pc := 36) 18 52 rfl (by decide) (by omega) (by omega) ?_
          exact nxt
      · have hB2 := of_decide_eq_false (eq_false_of_ne_true hB)
        have hplq : pl b n q = q := rn_stop (fun h => hB h.2)
        have hpl : pl b n p = q := by rw [← hrn, hplq]
        have e1a : gI (sI N 3 3 (gI N 3 2)) 3 1 = (n : Int) := by rw [g3, if_neg (by decide)]; exact e1
        have e2a : gI (sI N 3 3 (gI N 3 2)) 3 2 = (q : Int) := by rw [g3, if_neg (by decide)]; exact hn2
        have e3a : gI (sI N 3 3 (gI N 3 2)) 3 3 = (q : Int) := by rw [g3, if_pos rfl]; exact hn2
        have hA1 := hA.sI (f := 3) (gI N 3 2) (by decide)
        have hbq2 : gI (sI N 3 3 (gI N 3 2)) 1 q = b q := hbq
        refine v_aload_n (pc := 0) 0 rfl rfl ?_
        refine v_getI (pc := 1) 1 rfl fl_X10_26 rfl ?_
        refine v_aload_n (pc := 4) 2 rfl rfl ?_
        refine v_getI (pc := 5) 3 rfl fl_X10_13 rfl ?_
        refine v_ic_geF (pc := 8) 4 52 rfl (by decide) (by omega) (by omega) ?_
        refine v_aload_n (pc := 11) 5 rfl rfl ?_
        refine v_getC (pc := 12) 6 rfl fl_X10_7 rfl 1 rfl ?_
        refine v_aload_n (pc := 15) 7 rfl rfl ?_
        refine v_getI (pc := 16) 8 rfl fl_X10_26 rfl ?_
        refine v_baldE (pc := 19) 9 rfl rfl q (by omega) ?_
        refine v_bipush (pc := 20) 10 rfl (by decide) ?_
        refine v_ic_eqF (pc := 22) 11 39 rfl (by decide) (by omega) (by omega) ?_
        refine v_aload_n (pc := 25) 12 rfl rfl ?_
        refine v_getC (pc := 26) 13 rfl fl_X10_7 rfl 1 rfl ?_
        refine v_aload_n (pc := 29) 14 rfl rfl ?_
        refine v_getI (pc := 30) 15 rfl fl_X10_26 rfl ?_
        refine v_baldE (pc := 33) 16 rfl rfl q (by omega) ?_
        refine v_bipush (pc := 34) 17 rfl (by decide) ?_
        refine v_ic_neT (pc := 36) 18 52 rfl (by decide) (by omega) (by omega) ?_
        refine v_aload_n (pc := 52) 26 rfl rfl ?_
        refine v_aload_n (pc := 53) 27 rfl rfl ?_
        refine v_getI (pc := 54) 28 rfl fl_X10_26 rfl ?_
        refine v_putI (pc := 57) 29 rfl fl_X10_36 rfl ?_
        generalize sI N 3 3 (gI N 3 2) = N1 at e1a e2a e3a hA1 hbq2 ⊢
        refine v_aload_n (pc := 60) 30 rfl rfl ?_
        refine v_getI (pc := 61) 31 rfl fl_X10_26 rfl ?_
        refine v_aload_n (pc := 64) 32 rfl rfl ?_
        refine v_getI (pc := 65) 33 rfl fl_X10_13 rfl ?_
        refine v_ic_ltT (pc := 68) 34 77 rfl (by decide) (by omega) (by omega) ?_
        refine v_aload_n (pc := 77) 39 rfl rfl ?_
        refine v_getC (pc := 78) 40 rfl fl_X10_7 rfl 1 rfl ?_
        refine v_aload_n (pc := 81) 41 rfl rfl ?_
        refine v_getI (pc := 82) 42 rfl fl_X10_26 rfl ?_
        refine v_baldE (pc := 85) 43 rfl rfl q (by omega) ?_
        refine v_istore_n (pc := 86) 44 rfl ⟨Nat.le_of_ble_eq_true rfl, rfl⟩ ?_
        rw [hbq2]
        by_cases hL : isL (b q) = true
        · have hL2 := of_decide_eq_true hL
          refine v_iload_n (pc := 87) 45 rfl rfl ?_
          refine v_bipush (pc := 88) 46 rfl (by decide) ?_
          refine v_ic_ltF (pc := 90) 47 106 rfl (by decide) (by omega) (by omega) ?_
          refine v_iload_n (pc := 93) 48 rfl rfl ?_
          refine v_bipush (pc := 94) 49 rfl (by decide) ?_
          refine v_ic_gtF (pc := 96) 50 106 rfl (by decide) (by omega) (by omega) ?_
          refine v_aload_n (pc := 99) 51 rfl rfl ?_
          refine v_cV0 (pc := 100) 52 rfl cv_X10_39 rfl (Nat.le_of_ble_eq_true rfl) (Nat.le_of_ble_eq_true rfl) (c_takeWord hn (atc _ hA1) hr e1a hqn e2a e3a) (fun r9 N9 hq9 => ?_)
          obtain ⟨rfl, k1, k2, k3, k4, k5⟩ := hq9
          show V G (d + 1) mX10_advance (100 + 3) _ [] _ _
          have hA2 : AgS M N9 := ⟨fun q hq => by rw [k1.1 q hq]; exact hA1.1 q hq, fun q hq => by rw [k1.2.1 q hq]; exact hA1.2.1 q hq, k1.2.2.1.trans hA1.2.2.1, k1.2.2.2.trans hA1.2.2.2⟩
          have hlE : lE b n p = rn isL b n q := by unfold lE; rw [hpl]
          have hk : kd b n p = if rn isL b n q - q ≤ 7 then 1 else 4 := by unfold kd; rw [hlE, hpl, if_neg (by omega), if_pos hL]
          have hx : nx b n p = rn isL b n q := by unfold nx; rw [hlE, hpl, if_neg (by omega), if_pos hL]
          refine v_goto (pc := 103) 53 154 rfl (by decide) ?_
          refine v_ret (pc := 154) 79 rfl rfl ⟨rfl, hA2, atc _ hA2, k1.2.2.2.trans e1a, ?_, ?_, ?_, fun h => ?_, fun h => ?_⟩
          · rw [k2, hx]
          · rw [k3, hpl]
          · rw [k4, hk]; split <;> rfl
          · rw [hk] at h
            rw [hlE, hpl]
            exact k5 (by by_cases e : rn isL b n q - q ≤ 7; exact e; rw [if_neg e] at h; omega)
          · rw [hk] at h
            split at h <;> omega
        · have hL2 := of_decide_eq_false (eq_false_of_ne_true hL)
          have toD : V G (d + 1) mX10_advance 106 [some (.ref 3), some (.int (J (b q)))] [] N1 (fun r N => r = none ∧ AgS M N ∧ AtC N b n p) := by
            by_cases hD : isD (b q) = true
            · have hD2 := of_decide_eq_true hD
              refine v_iload_n (pc := 106) 54 rfl rfl ?_
              refine v_bipush (pc := 107) 55 rfl (by decide) ?_
              refine v_ic_ltF (pc := 109) 56 125 rfl (by decide) (by omega) (by omega) ?_
              refine v_iload_n (pc := 112) 57 rfl rfl ?_
              refine v_bipush (pc := 113) 58 rfl (by decide) ?_
              refine v_ic_gtF (pc := 115) 59 125 rfl (by decide) (by omega) (by omega) ?_
              refine v_aload_n (pc := 118) 60 rfl rfl ?_
              refine v_cV0 (pc := 119) 61 rfl cv_X10_42 rfl (Nat.le_of_ble_eq_true rfl) (Nat.le_of_ble_eq_true rfl) (c_takeNumber hn (atc _ hA1) hr e1a hqn e2a e3a) (fun r9 N9 hq9 => ?_)
              obtain ⟨rfl, k1, kL, k2, k3, k4, k5⟩ := hq9
              show V G (d + 1) mX10_advance (119 + 3) _ [] _ _
              have hA2 : AgS M N9 := ⟨fun q hq => by rw [k1.1 q hq]; exact hA1.1 q hq, fun q hq => by rw [k1.2.1 q hq]; exact hA1.2.1 q hq, k1.2.2.1.trans hA1.2.2.1, k1.2.2.2.trans hA1.2.2.2⟩
              have hdE : dE b n p = rn isD b n q := by unfold dE; rw [hpl]
              have hk : kd b n p = if rn isD b n q - q ≤ 3 then 2 else 4 := by unfold kd; rw [hdE, hpl, if_neg (by omega), if_neg hL, if_pos hD]
              have hx : nx b n p = rn isD b n q := by unfold nx; rw [hdE, hpl, if_neg (by omega), if_neg hL, if_pos hD]
              refine v_goto (pc := 122) 62 154 rfl (by decide) ?_
              refine v_ret (pc := 154) 79 rfl rfl ⟨rfl, hA2, atc _ hA2, k1.2.2.2.trans e1a, ?_, ?_, ?_, fun h => ?_, fun h => ?_⟩
              · rw [k2, hx]
              · rw [k3, hpl]
              · rw [k4, hk]; split <;> rfl
              · rw [hk] at h
                split at h <;> omega
              · rw [k5]; unfold vlu; rw [hdE, hpl]
            · have hD2 := of_decide_eq_false (eq_false_of_ne_true hD)
              have toS : V G (d + 1) mX10_advance 125 [some (.ref 3), some (.int (J (b q)))] [] N1 (fun r N => r = none ∧ AgS M N ∧ AtC N b n p) := by
                refine v_iload_n (pc := 125) 63 rfl rfl ?_
                refine v_bipush (pc := 126) 64 rfl (by decide) ?_
                refine v_ic_ne (pc := 128) 65 149 rfl (by decide) (by omega) (fun c9 => ?_) (fun c9 => ?_)
                · have hk : kd b n p = 4 := by unfold kd; rw [hpl, if_neg (by omega), if_neg hL, if_neg hD, if_neg (by omega)]
                  have hx : nx b n p = q := by unfold nx; rw [hpl, if_neg (by omega), if_neg hL, if_neg hD, if_neg (by omega)]
                  refine v_aload_n (pc := 149) 76 rfl rfl ?_
                  refine v_iconst (pc := 150) 77 rfl ?_
                  refine v_putI (pc := 151) 78 rfl fl_X10_17 rfl ?_
                  refine v_ret (pc := 154) 79 rfl rfl ⟨rfl, hA1.sI _ (by decide), atc _ (hA1.sI _ (by decide)), ?_, ?_, ?_, ?_, fun h => by omega, fun h => by omega⟩
                  · rw [g3, if_neg (by decide)]; exact e1a
                  · rw [g3, if_neg (by decide), e2a, hx]
                  · rw [g3, if_neg (by decide), e3a, hpl]
                  · rw [g3, if_pos rfl, hk]; rfl
                · have hk : kd b n p = 3 := by unfold kd; rw [hpl, if_neg (by omega), if_neg hL, if_neg hD, if_pos (by omega)]
                  have hx : nx b n p = q + 1 := by unfold nx; rw [hpl, if_neg (by omega), if_neg hL, if_neg hD, if_pos (by omega)]
                  refine v_aload_n (pc := 131) 66 rfl rfl ?_
                  refine v_iconst (pc := 132) 67 rfl ?_
                  refine v_putI (pc := 133) 68 rfl fl_X10_17 rfl ?_
                  refine v_aload_n (pc := 136) 69 rfl rfl ?_
                  refine v_dup (pc := 137) 70 rfl rfl ?_
                  refine v_getI (pc := 138) 71 rfl fl_X10_26 rfl ?_
                  refine v_iconst (pc := 141) 72 rfl ?_
                  refine v_iadd (pc := 142) 73 rfl ?_
                  refine v_putI (pc := 143) 74 rfl fl_X10_26 rfl ?_
                  refine v_goto (pc := 146) 75 154 rfl (by decide) ?_
                  refine v_ret (pc := 154) 79 rfl rfl ⟨rfl, (hA1.sI _ (by decide)).sI _ (by decide), atc _ ((hA1.sI _ (by decide)).sI _ (by decide)), ?_, ?_, ?_, ?_, fun h => by omega, fun h => by omega⟩
                  · rw [g3, if_neg (by decide), g3, if_neg (by decide)]; exact e1a
                  · rw [g3, if_pos rfl, g3, if_neg (by decide), e2a, hx]; rfl
                  · rw [g3, if_neg (by decide), g3, if_neg (by decide), e3a, hpl]
                  · rw [g3, if_neg (by decide), g3, if_pos rfl, hk]; rfl
              by_cases h48 : b q < 48
              · refine v_iload_n (pc := 106) 54 rfl rfl ?_
                refine v_bipush (pc := 107) 55 rfl (by decide) ?_
                refine v_ic_ltT (pc := 109) 56 125 rfl (by decide) (by omega) (by omega) ?_
                exact toS
              · refine v_iload_n (pc := 106) 54 rfl rfl ?_
                refine v_bipush (pc := 107) 55 rfl (by decide) ?_
                refine v_ic_ltF (pc := 109) 56 125 rfl (by decide) (by omega) (by omega) ?_
                refine v_iload_n (pc := 112) 57 rfl rfl ?_
                refine v_bipush (pc := 113) 58 rfl (by decide) ?_
                refine v_ic_gtT (pc := 115) 59 125 rfl (by decide) (by omega) (by omega) ?_
                exact toS
          by_cases h97 : b q < 97
          · refine v_iload_n (pc := 87) 45 rfl rfl ?_
            refine v_bipush (pc := 88) 46 rfl (by decide) ?_
            refine v_ic_ltT (pc := 90) 47 106 rfl (by decide) (by omega) (by omega) ?_
            exact toD
          · refine v_iload_n (pc := 87) 45 rfl rfl ?_
            refine v_bipush (pc := 88) 46 rfl (by decide) ?_
            refine v_ic_ltF (pc := 90) 47 106 rfl (by decide) (by omega) (by omega) ?_
            refine v_iload_n (pc := 93) 48 rfl rfl ?_
            refine v_bipush (pc := 94) 49 rfl (by decide) ?_
            refine v_ic_gtT (pc := 96) 50 106 rfl (by decide) (by omega) (by omega) ?_
            exact toD
  exact loop _ p rfl hp rfl M (AgS.rfl9 M) h2
theorem c_scanStart (hn : n ≤ 800) (hb : ∀ i, i < n → gI M 1 i = b i) (hr : ∀ i, i < n → -128 ≤ b i ∧ b i < 128) : V G (d + 2) mX10_start 0 [some (.ref 3), some (.int (J (n : Int)))] [] M (fun r N => r = none ∧ ((∀ q, q ≠ 3 → gI N q = gI M q) ∧ (∀ q, q ≠ 3 → gL N q = gL M q) ∧ gR N = gR M) ∧ AtC N b n 0) := by
  refine v_aload_n (pc := 0) 0 rfl rfl ?_
  refine v_iload_n (pc := 1) 1 rfl rfl ?_
  refine v_aload_n (pc := 2) 2 rfl rfl ?_
  refine v_getC (pc := 3) 3 rfl fl_X10_7 rfl 1 rfl ?_
  refine v_alen (pc := 6) 4 rfl rfl (by decide) ?_
  refine v_mmin (pc := 7) 5 rfl ml_X10_20 (by omega) (Nat.le_of_ble_eq_true rfl) ?_
  rw [show min (n : Int) ((800 : Nat) : Int) = (n : Int) by omega]
  refine v_putI (pc := 10) 6 rfl fl_X10_13 rfl ?_
  refine v_aload_n (pc := 13) 7 rfl rfl ?_
  refine v_iconst (pc := 14) 8 rfl ?_
  refine v_putI (pc := 15) 9 rfl fl_X10_26 rfl ?_
  refine v_aload_n (pc := 18) 10 rfl rfl ?_
  refine v_cV0 (pc := 19) 11 rfl cv_X10_29 rfl (Nat.le_of_ble_eq_true rfl) (Nat.le_of_ble_eq_true rfl) (c_advance (M := sI (sI M 3 1 (n : Int)) 3 2 0) (b := b) (n := n) hn (fun i hi => hb i hi) hr (by rw [g3, if_neg (by decide), g3, if_pos rfl]) (Nat.zero_le n) (by rw [g3, if_pos rfl]; rfl)) (fun r9 N9 hq9 => ?_)
  obtain ⟨rfl, k1, k2⟩ := hq9
  show V G (d + 2) mX10_start (19 + 3) _ [] _ _
  refine v_ret (pc := 22) 12 rfl rfl ⟨rfl, ⟨fun q hq => by rw [k1.1 q hq, gI_sI_ne hq, gI_sI_ne hq], fun q hq => by rw [k1.2.1 q hq]; rfl, k1.2.2.1⟩, k2⟩
end Lex
