/-! 25: names, and what is read of a line: the class's reader, its small methods -/
def lz (a b : Int) : Int := if b < a then 1 else if a = b then 0 else -1
theorem J_lcmp {a b : Int} (h : (-9223372036854775808 ≤ a ∧ a ≤ 9223372036854775807) ∧ (-9223372036854775808 ≤ b ∧ b ≤ 9223372036854775807)) : lg_cmp (JL a) (JL b) = J (lz a b) := by
  unfold lg_cmp lz
  have e1 : (JL a > JL b) ↔ b < a := by
    show JL b < JL a ↔ _
    rw [Int64.lt_iff_toInt_lt, JL_toInt h.1, JL_toInt h.2]
  have e2 : (JL a = JL b) ↔ a = b := by rw [← Int64.toInt_inj, JL_toInt h.1, JL_toInt h.2]
  by_cases q1 : b < a
  · rw [if_pos (e1.mpr q1), if_pos q1]; decide
  · rw [if_neg (fun z => q1 (e1.mp z)), if_neg q1]
    by_cases q2 : a = b
    · rw [if_pos (e2.mpr q2), if_pos q2]; decide
    · rw [if_neg (fun z => q2 (e2.mp z)), if_neg q2]; decide
theorem lz_0 {a b : Int} : lz a b = 0 ↔ a = b := by unfold lz; split <;> (try split) <;> omega
theorem lz_r (a b : Int) : -2147483648 ≤ lz a b ∧ lz a b ≤ 2147483647 := by unfold lz; split <;> (try split) <;> omega
theorem kd_b (b : Nat → Int) (n p : Nat) : kd b n p ≤ 4 := by
  unfold kd
  repeat' split
  all_goals omega
/-- a word's value -/
def wv (b : Nat → Int) (n p : Nat) : Int := enc8 b (pl b n p) (lE b n p - pl b n p)
theorem wv_b {b : Nat → Int} {n p : Nat} (h : kd b n p = 1) : 0 ≤ wv b n p ∧ wv b n p < 72057594037927936 := by
  have hlen : lE b n p - pl b n p ≤ 7 := by
    unfold kd at h
    split at h
    · omega
    · split at h
      · split at h
        · assumption
        · omega
      · split at h
        · split at h <;> omega
        · split at h <;> omega
  have hl : ∀ i, i < lE b n p - pl b n p → 97 ≤ b (pl b n p + i) ∧ b (pl b n p + i) ≤ 122 := fun i hi => by
    have := (rn_ge isL b n _ (pl b n p) rfl).2.2.1 (pl b n p + i) (by omega) (by unfold lE at hi; omega)
    exact of_decide_eq_true this.2
  have h1 := enc8_b _ hl
  have h2 : (256 : Int) ^ (lE b n p - pl b n p) ≤ 72057594037927936 := by
    generalize lE b n p - pl b n p = m at hlen
    rcases (show m = 0 ∨ m = 1 ∨ m = 2 ∨ m = 3 ∨ m = 4 ∨ m = 5 ∨ m = 6 ∨ m = 7 by omega) with e | e | e | e | e | e | e | e <;> subst e <;> decide
  unfold wv
  omega
def isW (b : Nat → Int) (n p : Nat) (w : Int) : Bool := decide (kd b n p = 1 ∧ wv b n p = w)
/-- the sort that is named, or -1 -/
def srt (b : Nat → Int) (n p : Nat) : Int := if kd b n p ≠ 1 then -1 else if wv b n p = 426971130220 then 0 else if wv b n p = 427121274213 then 1 else if wv b n p = 112568633486457 then 2 else if wv b n p = 1818324580 then 3 else -1
def isNm (b : Nat → Int) (n p : Nat) : Bool := decide (kd b n p = 1 ∧ srt b n p < 0 ∧ wv b n p ≠ 1953462126 ∧ wv b n p ≠ 1919902052 ∧ wv b n p ≠ 457236047717 ∧ wv b n p ≠ 31935733760681324 ∧ wv b n p ≠ 1667330917 ∧ wv b n p ≠ 1650553459)
theorem srt_b (b : Nat → Int) (n p : Nat) : -1 ≤ srt b n p ∧ srt b n p < 4 := by
  unfold srt
  repeat' split
  all_goals omega
/-- a name: its value, of what it is (0 town, 1 judge, 2 case), its number -/
abbrev Nm : Type := Int × Nat × Nat
def fnd (L : List Nm) (w : Int) : Int := fst (fun i => decide ((L.getD i (0, 0, 0)).1 = w)) (fun i => (i : Int)) L.length
def hasL (L : List Nm) (w : Int) : Bool := decide (fnd L w ≠ -1)
def numL (L : List Nm) (w : Int) (κ : Nat) : Int := if fnd L w ≠ -1 ∧ (L.getD (fnd L w).toNat (0, 0, 0)).2.1 = κ then ((L.getD (fnd L w).toNat (0, 0, 0)).2.2 : Int) else -1
theorem fst_b {p : Nat → Bool} {n : Nat} : -1 ≤ fst p (fun i => (i : Int)) n ∧ fst p (fun i => (i : Int)) n < n := by
  induction n with
  | zero => exact ⟨Int.le_refl _, by show (-1 : Int) < 0; omega⟩
  | succ n ih =>
    show -1 ≤ (if exB p n = true then fst p (fun i => (i : Int)) n else if p n = true then (n : Int) else -1) ∧ (if exB p n = true then fst p (fun i => (i : Int)) n else if p n = true then (n : Int) else -1) < ((n + 1 : Nat) : Int)
    split
    · omega
    · split <;> omega
theorem fnd_b (L : List Nm) (w : Int) : -1 ≤ fnd L w ∧ fnd L w < L.length := fst_b
/-- the class's table of names -/
def TabR (M : Mem) (L : List Nm) : Prop := gI M 4 3 = (L.length : Int) ∧ L.length ≤ 23 ∧ ∀ i, i < L.length → gL M 5 i = JL (L.getD i (0, 0, 0)).1 ∧ gI M 6 i = ((L.getD i (0, 0, 0)).2.1 : Int) ∧ gI M 7 i = ((L.getD i (0, 0, 0)).2.2 : Int) ∧ (0 ≤ (L.getD i (0, 0, 0)).1 ∧ (L.getD i (0, 0, 0)).1 < 72057594037927936) ∧ (L.getD i (0, 0, 0)).2.1 < 3 ∧ (L.getD i (0, 0, 0)).2.2 < 12
theorem getD_app {L : List Nm} {e : Nm} {i : Nat} : (L ++ [e]).getD i (0, 0, 0) = if i = L.length then e else L.getD i (0, 0, 0) := by
  rw [List.getD_eq_getElem?_getD, List.getD_eq_getElem?_getD]
  by_cases h : i < L.length
  · rw [List.getElem?_append_left h, if_neg (by omega)]
  · rw [List.getElem?_append_right (by omega)]
    by_cases e2 : i = L.length
    · rw [if_pos e2, e2, Nat.sub_self]; rfl
    · rw [if_neg e2, List.getElem?_eq_none (by simp; omega), List.getElem?_eq_none (by omega)]
section Names
variable {G : Gt} {d : Nat} {M : Mem} {b : Nat → Int} {n p : Nat} {L : List Nm}
theorem c_namesForget : V G d mX8_forget 0 [some (.ref 4)] [] M (Ret none (sI M 4 3 0)) := by
  refine v_aload_n (pc := 0) 0 rfl rfl ?_
  refine v_iconst (pc := 1) 1 rfl ?_
  refine v_putI (pc := 2) 2 rfl fl_X8_22 rfl ?_
  refine v_ret (pc := 5) 3 rfl rfl ⟨rfl, rfl⟩
theorem c_namesFind (h : TabR M L) {w : Int} (hw : 0 ≤ w ∧ w < 72057594037927936) : V G d mX8_find 0 [some (.ref 4), some (.long (JL w)), none, none] [] M (Ret (some (.int (J (fnd L w)))) M) := by
  obtain ⟨h1, h2, h3⟩ := h
  refine v_iconst (pc := 0) 0 rfl ?_
  refine v_istore_n (pc := 1) 1 rfl ⟨Nat.le_of_ble_eq_true rfl, rfl⟩ ?_
  refine loopN (N := L.length) (fun i => exB (fun i => decide ((L.getD i (0, 0, 0)).1 = w)) i = false → V G d mX8_find 2 [some (.ref 4), some (.long (JL w)), none, some (.int (J (i : Int)))] [] M (Ret (some (.int (J (fnd L w)))) M)) ?_ ?_ rfl
  · intro e
    unfold fnd
    rw [fst_none e]
    refine v_iload_n (pc := 2) 2 rfl rfl ?_
    refine v_aload_n (pc := 3) 3 rfl rfl ?_
    refine v_getI (pc := 4) 4 rfl fl_X8_22 rfl ?_
    refine v_ic_geT (pc := 7) 5 29 rfl (by decide) (by omega) (by omega) ?_
    refine v_iconst (pc := 29) 17 rfl ?_
    refine v_iret (pc := 30) 18 rfl rfl ⟨rfl, rfl⟩
  · intro i hi ih e
    obtain ⟨k1, k2, k3, k4, k5⟩ := h3 i hi
    have hz := lz_r (L.getD i (0, 0, 0)).1 w
    refine v_iload_n (pc := 2) 2 rfl rfl ?_
    refine v_aload_n (pc := 3) 3 rfl rfl ?_
    refine v_getI (pc := 4) 4 rfl fl_X8_22 rfl ?_
    refine v_ic_geF (pc := 7) 5 29 rfl (by decide) (by omega) (by omega) ?_
    refine v_aload_n (pc := 10) 6 rfl rfl ?_
    refine v_getC (pc := 11) 7 rfl fl_X8_9 rfl 5 rfl ?_
    refine v_iload_n (pc := 14) 8 rfl rfl ?_
    refine v_laldN (pc := 15) 9 rfl rfl (by omega) ?_
    rw [k1]
    refine v_lload_n (pc := 16) 10 rfl rfl ?_
    refine v_lcmp (pc := 17) 11 rfl (lz (L.getD i (0, 0, 0)).1 w) (J_lcmp (by omega)) ?_
    refine v_if_ne (pc := 18) 12 23 rfl (by decide) (by omega) (fun e1 => ?_) (fun e1 => ?_)
    · refine v_iinc (pc := 23) 15 rfl rfl ⟨Nat.le_of_ble_eq_true rfl, rfl⟩ ?_
      refine v_goto (pc := 26) 16 2 rfl (by decide) ?_
      exact ih (exB_succ e (decide_eq_false (fun q => e1 (lz_0.mpr q))))
    · unfold fnd
      rw [fst_at hi e (decide_eq_true (lz_0.mp (Decidable.not_not.mp e1)))]
      refine v_iload_n (pc := 21) 13 rfl rfl ?_
      refine v_iret (pc := 22) 14 rfl rfl ⟨rfl, rfl⟩
theorem c_namesHas (h : TabR M L) {w : Int} (hw : 0 ≤ w ∧ w < 72057594037927936) : V G (d + 1) mX8_has 0 [some (.ref 4), some (.long (JL w)), none] [] M (Ret (some (.int (J (b2i (hasL L w))))) M) := by
  have hf := fnd_b L w
  have h23 := h.2.1
  refine v_aload_n (pc := 0) 0 rfl rfl ?_
  refine v_lload_n (pc := 1) 1 rfl rfl ?_
  refine v_cV1i (pc := 2) 2 rfl cv_X8_26 rfl (Nat.le_of_ble_eq_true rfl) (Nat.le_of_ble_eq_true rfl) (c_namesFind h hw) ?_
  refine v_iconst (pc := 5) 3 rfl ?_
  refine v_ic_eq (pc := 6) 4 13 rfl (by decide) (by omega) (fun e1 => ?_) (fun e1 => ?_)
  · unfold hasL
    rw [decide_eq_false (fun q => q e1)]
    refine v_iconst (pc := 13) 7 rfl ?_
    refine v_zret (pc := 14) 8 rfl rfl (by omega) ⟨rfl, rfl⟩
  · unfold hasL
    rw [decide_eq_true e1]
    refine v_iconst (pc := 9) 5 rfl ?_
    refine v_goto (pc := 10) 6 14 rfl (by decide) ?_
    refine v_zret (pc := 14) 8 rfl rfl (by omega) ⟨rfl, rfl⟩
theorem c_namesNumber (h : TabR M L) {w : Int} (hw : 0 ≤ w ∧ w < 72057594037927936) {κ : Nat} (hk : κ < 3) : V G (d + 1) mX8_numberOf 0 [some (.ref 4), some (.long (JL w)), none, some (.int (J (κ : Int))), none] [] M (Ret (some (.int (J (numL L w κ)))) M) := by
  have hf := fnd_b L w
  have h23 := h.2.1
  refine v_aload_n (pc := 0) 0 rfl rfl ?_
  refine v_lload_n (pc := 1) 1 rfl rfl ?_
  refine v_cV1i (pc := 2) 2 rfl cv_X8_26 rfl (Nat.le_of_ble_eq_true rfl) (Nat.le_of_ble_eq_true rfl) (c_namesFind h hw) ?_
  refine v_istore (pc := 5) 3 rfl ⟨Nat.le_of_ble_eq_true rfl, rfl⟩ ?_
  refine v_iload (pc := 7) 4 rfl rfl ?_
  refine v_iconst (pc := 9) 5 rfl ?_
  refine v_ic_eq (pc := 10) 6 34 rfl (by decide) (by omega) (fun e1 => ?_) (fun e1 => ?_)
  · unfold numL
    rw [if_neg (fun q => q.1 e1)]
    refine v_iconst (pc := 34) 18 rfl ?_
    refine v_iret (pc := 35) 19 rfl rfl ⟨rfl, rfl⟩
  · obtain ⟨k1, k2, k3, k4, k5⟩ := h.2.2 (fnd L w).toNat (by omega)
    refine v_aload_n (pc := 13) 7 rfl rfl ?_
    refine v_getC (pc := 14) 8 rfl fl_X8_15 rfl 6 rfl ?_
    refine v_iload (pc := 17) 9 rfl rfl ?_
    refine v_ialdE (pc := 19) 10 rfl rfl (fnd L w).toNat (by omega) ?_
    refine v_iload_n (pc := 20) 11 rfl rfl ?_
    refine v_ic_ne (pc := 21) 12 34 rfl (by decide) (by omega) (fun e2 => ?_) (fun e2 => ?_)
    · unfold numL
      rw [if_neg (by omega)]
      refine v_iconst (pc := 34) 18 rfl ?_
      refine v_iret (pc := 35) 19 rfl rfl ⟨rfl, rfl⟩
    · unfold numL
      rw [if_pos (by omega)]
      refine v_aload_n (pc := 24) 13 rfl rfl ?_
      refine v_getC (pc := 25) 14 rfl fl_X8_19 rfl 7 rfl ?_
      refine v_iload (pc := 28) 15 rfl rfl ?_
      refine v_ialdE (pc := 30) 16 rfl rfl (fnd L w).toNat (by omega) ?_
      refine v_goto (pc := 31) 17 35 rfl (by decide) ?_
      rw [k3]
      refine v_iret (pc := 35) 19 rfl rfl ⟨rfl, rfl⟩
theorem c_namesAdd (h : TabR M L) (hl : L.length < 23) {w : Int} {κ j : Nat} : V G d mX8_add 0 [some (.ref 4), some (.long (JL w)), none, some (.int (J (κ : Int))), some (.int (J (j : Int)))] [] M (Ret none (sI (sI (sI (sL M 5 L.length (JL w)) 6 L.length (κ : Int)) 7 L.length (j : Int)) 4 3 ((L.length : Int) + 1))) := by
  have h1 := h.1
  have e1 : gI (sL M 5 L.length (JL w)) 4 3 = (L.length : Int) := h1
  have e2 : gI (sI (sL M 5 L.length (JL w)) 6 L.length (κ : Int)) 4 3 = (L.length : Int) := by rw [gI_sI_ne (by decide)]; exact h1
  have e3 : gI (sI (sI (sL M 5 L.length (JL w)) 6 L.length (κ : Int)) 7 L.length (j : Int)) 4 3 = (L.length : Int) := by rw [gI_sI_ne (by decide), gI_sI_ne (by decide)]; exact h1
  refine v_aload_n (pc := 0) 0 rfl rfl ?_
  refine v_getI (pc := 1) 1 rfl fl_X8_22 rfl ?_
  refine v_bipush (pc := 4) 2 rfl (by decide) ?_
  refine v_ic_geF (pc := 6) 3 50 rfl (by decide) (by omega) (by omega) ?_
  refine v_aload_n (pc := 9) 4 rfl rfl ?_
  refine v_getC (pc := 10) 5 rfl fl_X8_9 rfl 5 rfl ?_
  refine v_aload_n (pc := 13) 6 rfl rfl ?_
  refine v_getI (pc := 14) 7 rfl fl_X8_22 rfl ?_
  rw [h1]
  refine v_lload_n (pc := 17) 8 rfl rfl ?_
  refine v_lastN (pc := 18) 9 rfl rfl (by omega) ?_
  refine v_aload_n (pc := 19) 10 rfl rfl ?_
  refine v_getC (pc := 20) 11 rfl fl_X8_15 rfl 6 rfl ?_
  refine v_aload_n (pc := 23) 12 rfl rfl ?_
  refine v_getI (pc := 24) 13 rfl fl_X8_22 rfl ?_
  rw [e1]
  refine v_iload_n (pc := 27) 14 rfl rfl ?_
  refine v_iastN (pc := 28) 15 rfl rfl (by omega) ?_
  refine v_aload_n (pc := 29) 16 rfl rfl ?_
  refine v_getC (pc := 30) 17 rfl fl_X8_19 rfl 7 rfl ?_
  refine v_aload_n (pc := 33) 18 rfl rfl ?_
  refine v_getI (pc := 34) 19 rfl fl_X8_22 rfl ?_
  rw [e2]
  refine v_iload (pc := 37) 20 rfl rfl ?_
  refine v_iastN (pc := 39) 21 rfl rfl (by omega) ?_
  refine v_aload_n (pc := 40) 22 rfl rfl ?_
  refine v_dup (pc := 41) 23 rfl rfl ?_
  refine v_getI (pc := 42) 24 rfl fl_X8_22 rfl ?_
  rw [e3]
  refine v_iconst (pc := 45) 25 rfl ?_
  refine v_iadd (pc := 46) 26 rfl ?_
  refine v_putI (pc := 47) 27 rfl fl_X8_22 rfl ?_
  refine v_ret (pc := 50) 28 rfl rfl ⟨rfl, rfl⟩
theorem TabR.add (h : TabR M L) (hl : L.length < 23) {w : Int} (hw : 0 ≤ w ∧ w < 72057594037927936) {κ j : Nat} (hk : κ < 3) (hj : j < 12) : TabR (sI (sI (sI (sL M 5 L.length (JL w)) 6 L.length (κ : Int)) 7 L.length (j : Int)) 4 3 ((L.length : Int) + 1)) (L ++ [(w, κ, j)]) := by
  obtain ⟨h1, h2, h3⟩ := h
  refine ⟨?_, by rw [List.length_append]; show L.length + 1 ≤ 23; omega, fun i hi => ?_⟩
  · rw [gI_sI, if_pos rfl, if_pos rfl, List.length_append]; rfl
  · rw [List.length_append] at hi
    have hi : i < L.length + 1 := hi
    rw [getD_app]
    have a1 : gL (sI (sI (sI (sL M 5 L.length (JL w)) 6 L.length (κ : Int)) 7 L.length (j : Int)) 4 3 ((L.length : Int) + 1)) 5 i = if i = L.length then JL w else gL M 5 i := by
      show gL (sL M 5 L.length (JL w)) 5 i = _
      rw [gL_sL, if_pos rfl]
    have a2 : gI (sI (sI (sI (sL M 5 L.length (JL w)) 6 L.length (κ : Int)) 7 L.length (j : Int)) 4 3 ((L.length : Int) + 1)) 6 i = if i = L.length then (κ : Int) else gI M 6 i := by
      rw [gI_sI_ne (by decide), gI_sI_ne (by decide), gI_sI, if_pos rfl]; rfl
    have a3 : gI (sI (sI (sI (sL M 5 L.length (JL w)) 6 L.length (κ : Int)) 7 L.length (j : Int)) 4 3 ((L.length : Int) + 1)) 7 i = if i = L.length then (j : Int) else gI M 7 i := by
      rw [gI_sI_ne (by decide), gI_sI, if_pos rfl, gI_sI_ne (by decide)]; rfl
    rw [a1, a2, a3]
    by_cases e : i = L.length
    · rw [if_pos e, if_pos e, if_pos e, if_pos e]
      exact ⟨rfl, rfl, rfl, hw, hk, hj⟩
    · rw [if_neg e, if_neg e, if_neg e, if_neg e]
      exact h3 i (by omega)
theorem c_isWord (h : AtC M b n p) {w : Int} (hw : 0 ≤ w ∧ w < 72057594037927936) : V G d mX10_isWord 0 [some (.ref 3), some (.long (JL w)), none] [] M (Ret (some (.int (J (b2i (isW b n p w))))) M) := by
  obtain ⟨h1, h2, h3, h4, h5, h6, h7⟩ := h
  have hk := kd_b b n p
  refine v_aload_n (pc := 0) 0 rfl rfl ?_
  refine v_getI (pc := 1) 1 rfl fl_X10_17 rfl ?_
  refine v_iconst (pc := 4) 2 rfl ?_
  refine v_ic_ne (pc := 5) 3 21 rfl (by decide) (by omega) (fun e1 => ?_) (fun e1 => ?_)
  · unfold isW
    rw [decide_eq_false (fun q => by omega)]
    refine v_iconst (pc := 21) 11 rfl ?_
    refine v_zret (pc := 22) 12 rfl rfl (by omega) ⟨rfl, rfl⟩
  · have hk1 : kd b n p = 1 := by omega
    have h6 : gL M 3 5 = JL (wv b n p) := h6 hk1
    have hb := wv_b hk1
    have hz := lz_r (wv b n p) w
    refine v_aload_n (pc := 8) 4 rfl rfl ?_
    refine v_getL (pc := 9) 5 rfl fl_X10_32 rfl ?_
    rw [h6]
    refine v_lload_n (pc := 12) 6 rfl rfl ?_
    refine v_lcmp (pc := 13) 7 rfl (lz (wv b n p) w) (J_lcmp (by omega)) ?_
    refine v_if_ne (pc := 14) 8 21 rfl (by decide) (by omega) (fun e2 => ?_) (fun e2 => ?_)
    · unfold isW
      rw [decide_eq_false (fun q => e2 (lz_0.mpr q.2))]
      refine v_iconst (pc := 21) 11 rfl ?_
      refine v_zret (pc := 22) 12 rfl rfl (by omega) ⟨rfl, rfl⟩
    · unfold isW
      rw [decide_eq_true ⟨hk1, lz_0.mp (Decidable.not_not.mp e2)⟩]
      refine v_iconst (pc := 17) 9 rfl ?_
      refine v_goto (pc := 18) 10 22 rfl (by decide) ?_
      refine v_zret (pc := 22) 12 rfl rfl (by omega) ⟨rfl, rfl⟩
theorem c_sortHere (h : AtC M b n p) : V G d mX9_sortHere 0 [some (.ref 2), none, none] [] M (Ret (some (.int (J (srt b n p)))) M) := by
  obtain ⟨h1, h2, h3, h4, h5, h6, h7⟩ := h
  have hk := kd_b b n p
  refine v_aload_n (pc := 0) 0 rfl rfl ?_
  refine v_getC (pc := 1) 1 rfl fl_X9_14 rfl 3 rfl ?_
  refine v_getI (pc := 4) 2 rfl fl_X9_42 rfl ?_
  refine v_iconst (pc := 7) 3 rfl ?_
  refine v_ic_eq (pc := 8) 4 13 rfl (by decide) (by omega) (fun e1 => ?_) (fun e1 => ?_)
  · have hk1 : kd b n p = 1 := by omega
    have h6 : gL M 3 5 = JL (wv b n p) := h6 hk1
    have hb := wv_b hk1
    have z1 := lz_r (wv b n p) 426971130220
    have z2 := lz_r (wv b n p) 427121274213
    have z3 := lz_r (wv b n p) 112568633486457
    have z4 := lz_r (wv b n p) 1818324580
    unfold srt
    rw [if_neg (fun q => q hk1)]
    refine v_aload_n (pc := 13) 7 rfl rfl ?_
    refine v_getC (pc := 14) 8 rfl fl_X9_14 rfl 3 rfl ?_
    refine v_getL (pc := 17) 9 rfl fl_X9_142 rfl ?_
    rw [h6]
    refine v_lstore_n (pc := 20) 10 rfl ⟨Nat.le_of_ble_eq_true rfl, rfl⟩ ?_
    refine v_lload_n (pc := 21) 11 rfl rfl ?_
    refine v_ldc2J (pc := 22) 12 rfl kcLong_X9_168 (426971130220) (by decide) ?_
    refine v_lcmp (pc := 25) 13 rfl (lz (wv b n p) 426971130220) (J_lcmp (by omega)) ?_
    refine v_if_ne (pc := 26) 14 31 rfl (by decide) (by omega) (fun q1 => ?_) (fun q1 => ?_)
    · rw [if_neg (fun q => q1 (lz_0.mpr q))]
      refine v_lload_n (pc := 31) 17 rfl rfl ?_
      refine v_ldc2J (pc := 32) 18 rfl kcLong_X9_170 (427121274213) (by decide) ?_
      refine v_lcmp (pc := 35) 19 rfl (lz (wv b n p) 427121274213) (J_lcmp (by omega)) ?_
      refine v_if_ne (pc := 36) 20 41 rfl (by decide) (by omega) (fun q2 => ?_) (fun q2 => ?_)
      · rw [if_neg (fun q => q2 (lz_0.mpr q))]
        refine v_lload_n (pc := 41) 23 rfl rfl ?_
        refine v_ldc2J (pc := 42) 24 rfl kcLong_X9_172 (112568633486457) (by decide) ?_
        refine v_lcmp (pc := 45) 25 rfl (lz (wv b n p) 112568633486457) (J_lcmp (by omega)) ?_
        refine v_if_ne (pc := 46) 26 51 rfl (by decide) (by omega) (fun q3 => ?_) (fun q3 => ?_)
        · rw [if_neg (fun q => q3 (lz_0.mpr q))]
          refine v_lload_n (pc := 51) 29 rfl rfl ?_
          refine v_ldc2J (pc := 52) 30 rfl kcLong_X9_174 (1818324580) (by decide) ?_
          refine v_lcmp (pc := 55) 31 rfl (lz (wv b n p) 1818324580) (J_lcmp (by omega)) ?_
          refine v_if_ne (pc := 56) 32 63 rfl (by decide) (by omega) (fun q4 => ?_) (fun q4 => ?_)
          · rw [if_neg (fun q => q4 (lz_0.mpr q))]
            refine v_iconst (pc := 63) 35 rfl ?_
            refine v_iret (pc := 64) 36 rfl rfl ⟨rfl, rfl⟩
          · rw [if_pos (lz_0.mp (Decidable.not_not.mp q4))]
            refine v_iconst (pc := 59) 33 rfl ?_
            refine v_goto (pc := 60) 34 64 rfl (by decide) ?_
            refine v_iret (pc := 64) 36 rfl rfl ⟨rfl, rfl⟩
        · rw [if_pos (lz_0.mp (Decidable.not_not.mp q3))]
          refine v_iconst (pc := 49) 27 rfl ?_
          refine v_iret (pc := 50) 28 rfl rfl ⟨rfl, rfl⟩
      · rw [if_pos (lz_0.mp (Decidable.not_not.mp q2))]
        refine v_iconst (pc := 39) 21 rfl ?_
        refine v_iret (pc := 40) 22 rfl rfl ⟨rfl, rfl⟩
    · rw [if_pos (lz_0.mp (Decidable.not_not.mp q1))]
      refine v_iconst (pc := 29) 15 rfl ?_
      refine v_iret (pc := 30) 16 rfl rfl ⟨rfl, rfl⟩
  · unfold srt
    rw [if_pos (by omega)]
    refine v_iconst (pc := 11) 5 rfl ?_
    refine v_iret (pc := 12) 6 rfl rfl ⟨rfl, rfl⟩
theorem c_atName (h : AtC M b n p) : V G (d + 1) mX9_atName 0 [some (.ref 2), none, none] [] M (Ret (some (.int (J (b2i (isNm b n p))))) M) := by
  have hA := h
  obtain ⟨h1, h2, h3, h4, h5, h6, h7⟩ := h
  have hk := kd_b b n p
  have hs := srt_b b n p
  refine v_aload_n (pc := 0) 0 rfl rfl ?_
  refine v_getC (pc := 1) 1 rfl fl_X9_14 rfl 3 rfl ?_
  refine v_getI (pc := 4) 2 rfl fl_X9_42 rfl ?_
  refine v_iconst (pc := 7) 3 rfl ?_
  refine v_ic_ne (pc := 8) 4 18 rfl (by decide) (by omega) (fun e1 => ?_) (fun e1 => ?_)
  · unfold isNm
    rw [decide_eq_false (fun q => by omega)]
    refine v_iconst (pc := 18) 8 rfl ?_
    refine v_zret (pc := 19) 9 rfl rfl (by omega) ⟨rfl, rfl⟩
  · have hk1 : kd b n p = 1 := by omega
    have h6 : gL M 3 5 = JL (wv b n p) := h6 hk1
    have hb := wv_b hk1
    have z1 := lz_r (wv b n p) 1953462126
    have z2 := lz_r (wv b n p) 1919902052
    have z3 := lz_r (wv b n p) 457236047717
    have z4 := lz_r (wv b n p) 31935733760681324
    have z5 := lz_r (wv b n p) 1667330917
    have z6 := lz_r (wv b n p) 1650553459
    refine v_aload_n (pc := 11) 5 rfl rfl ?_
    refine v_cV0i (pc := 12) 6 rfl cv_X9_163 rfl (Nat.le_of_ble_eq_true rfl) (Nat.le_of_ble_eq_true rfl) (c_sortHere hA) ?_
    refine v_if_lt (pc := 15) 7 20 rfl (by decide) (by omega) (fun e2 => ?_) (fun e2 => ?_)
    · unfold isNm
      refine v_aload_n (pc := 20) 10 rfl rfl ?_
      refine v_getC (pc := 21) 11 rfl fl_X9_14 rfl 3 rfl ?_
      refine v_getL (pc := 24) 12 rfl fl_X9_142 rfl ?_
      rw [h6]
      refine v_lstore_n (pc := 27) 13 rfl ⟨Nat.le_of_ble_eq_true rfl, rfl⟩ ?_
      refine v_lload_n (pc := 28) 14 rfl rfl ?_
      refine v_ldc2J (pc := 29) 15 rfl kcLong_X9_52 (1953462126) (by decide) ?_
      refine v_lcmp (pc := 32) 16 rfl (lz (wv b n p) 1953462126) (J_lcmp (by omega)) ?_
      refine v_if_eq (pc := 33) 17 80 rfl (by decide) (by omega) (fun q1 => ?_) (fun q1 => ?_)
      · rw [decide_eq_false (fun q => q.2.2.1 (lz_0.mp q1))]
        refine v_iconst (pc := 80) 40 rfl ?_
        refine v_zret (pc := 81) 41 rfl rfl (by omega) ⟨rfl, rfl⟩
      · refine v_lload_n (pc := 36) 18 rfl rfl ?_
        refine v_ldc2J (pc := 37) 19 rfl kcLong_X9_67 (1919902052) (by decide) ?_
        refine v_lcmp (pc := 40) 20 rfl (lz (wv b n p) 1919902052) (J_lcmp (by omega)) ?_
        refine v_if_eq (pc := 41) 21 80 rfl (by decide) (by omega) (fun q2 => ?_) (fun q2 => ?_)
        · rw [decide_eq_false (fun q => q.2.2.2.1 (lz_0.mp q2))]
          refine v_iconst (pc := 80) 40 rfl ?_
          refine v_zret (pc := 81) 41 rfl rfl (by omega) ⟨rfl, rfl⟩
        · refine v_lload_n (pc := 44) 22 rfl rfl ?_
          refine v_ldc2J (pc := 45) 23 rfl kcLong_X9_72 (457236047717) (by decide) ?_
          refine v_lcmp (pc := 48) 24 rfl (lz (wv b n p) 457236047717) (J_lcmp (by omega)) ?_
          refine v_if_eq (pc := 49) 25 80 rfl (by decide) (by omega) (fun q3 => ?_) (fun q3 => ?_)
          · rw [decide_eq_false (fun q => q.2.2.2.2.1 (lz_0.mp q3))]
            refine v_iconst (pc := 80) 40 rfl ?_
            refine v_zret (pc := 81) 41 rfl rfl (by omega) ⟨rfl, rfl⟩
          · refine v_lload_n (pc := 52) 26 rfl rfl ?_
            refine v_ldc2J (pc := 53) 27 rfl kcLong_X9_80 (31935733760681324) (by decide) ?_
            refine v_lcmp (pc := 56) 28 rfl (lz (wv b n p) 31935733760681324) (J_lcmp (by omega)) ?_
            refine v_if_eq (pc := 57) 29 80 rfl (by decide) (by omega) (fun q4 => ?_) (fun q4 => ?_)
            · rw [decide_eq_false (fun q => q.2.2.2.2.2.1 (lz_0.mp q4))]
              refine v_iconst (pc := 80) 40 rfl ?_
              refine v_zret (pc := 81) 41 rfl rfl (by omega) ⟨rfl, rfl⟩
            · refine v_lload_n (pc := 60) 30 rfl rfl ?_
              refine v_ldc2J (pc := 61) 31 rfl kcLong_X9_85 (1667330917) (by decide) ?_
              refine v_lcmp (pc := 64) 32 rfl (lz (wv b n p) 1667330917) (J_lcmp (by omega)) ?_
              refine v_if_eq (pc := 65) 33 80 rfl (by decide) (by omega) (fun q5 => ?_) (fun q5 => ?_)
              · rw [decide_eq_false (fun q => q.2.2.2.2.2.2.1 (lz_0.mp q5))]
                refine v_iconst (pc := 80) 40 rfl ?_
                refine v_zret (pc := 81) 41 rfl rfl (by omega) ⟨rfl, rfl⟩
              · refine v_lload_n (pc := 68) 34 rfl rfl ?_
                refine v_ldc2J (pc := 69) 35 rfl kcLong_X9_166 (1650553459) (by decide) ?_
                refine v_lcmp (pc := 72) 36 rfl (lz (wv b n p) 1650553459) (J_lcmp (by omega)) ?_
                refine v_if_eq (pc := 73) 37 80 rfl (by decide) (by omega) (fun q6 => ?_) (fun q6 => ?_)
                · rw [decide_eq_false (fun q => q.2.2.2.2.2.2.2 (lz_0.mp q6))]
                  refine v_iconst (pc := 80) 40 rfl ?_
                  refine v_zret (pc := 81) 41 rfl rfl (by omega) ⟨rfl, rfl⟩
                · rw [decide_eq_true ⟨hk1, e2, fun z => q1 (lz_0.mpr z), fun z => q2 (lz_0.mpr z), fun z => q3 (lz_0.mpr z), fun z => q4 (lz_0.mpr z), fun z => q5 (lz_0.mpr z), fun z => q6 (lz_0.mpr z)⟩]
                  refine v_iconst (pc := 76) 38 rfl ?_
                  refine v_goto (pc := 77) 39 81 rfl (by decide) ?_
                  refine v_zret (pc := 81) 41 rfl rfl (by omega) ⟨rfl, rfl⟩
    · unfold isNm
      rw [decide_eq_false (fun q => e2 q.2.1)]
      refine v_iconst (pc := 18) 8 rfl ?_
      refine v_zret (pc := 19) 9 rfl rfl (by omega) ⟨rfl, rfl⟩
/-- the answer that tells a fault of kind k at the token that is met from p on -/
def flt (b : Nat → Int) (n p : Nat) (k : Int) : Int := -2 - (8 * (pl b n p : Int) + k)
theorem c_refuse (h : AtC M b n p) (k : Int) : V G d mX9_refuse 0 [some (.ref 2), some (.int (J k))] [] M (Ret (some (.int (J 0))) (sI M 2 3 (flt b n p k))) := by
  have h4 := h.2.2.2.1
  refine v_aload_n (pc := 0) 0 rfl rfl ?_
  refine v_bipush (pc := 1) 1 rfl (by decide) ?_
  refine v_bipush (pc := 3) 2 rfl (by decide) ?_
  refine v_aload_n (pc := 5) 3 rfl rfl ?_
  refine v_getC (pc := 6) 4 rfl fl_X9_14 rfl 3 rfl ?_
  refine v_getI (pc := 9) 5 rfl fl_X9_45 rfl ?_
  rw [h4]
  refine v_imul (pc := 12) 6 rfl ?_
  refine v_iload_n (pc := 13) 7 rfl rfl ?_
  refine v_iadd (pc := 14) 8 rfl ?_
  refine v_isub (pc := 15) 9 rfl ?_
  refine v_putI (pc := 16) 10 rfl fl_X9_31 rfl ?_
  refine v_iconst (pc := 19) 11 rfl ?_
  refine v_zret (pc := 20) 12 rfl rfl (by omega) ⟨rfl, rfl⟩
theorem c_refuseNumber (h : AtC M b n p) (k : Int) : V G (d + 1) mX9_refuseNumber 0 [some (.ref 2), some (.int (J k))] [] M (Ret (some (.int (J (-1)))) (sI M 2 3 (flt b n p k))) := by
  refine v_aload_n (pc := 0) 0 rfl rfl ?_
  refine v_iload_n (pc := 1) 1 rfl rfl ?_
  refine v_cV1i (pc := 2) 2 rfl cv_X9_48 rfl (Nat.le_of_ble_eq_true rfl) (Nat.le_of_ble_eq_true rfl) (c_refuse h k) ?_
  refine v_pop (pc := 5) 3 rfl rfl ?_
  refine v_iconst (pc := 6) 4 rfl ?_
  refine v_iret (pc := 7) 5 rfl rfl ⟨rfl, rfl⟩
end Names
