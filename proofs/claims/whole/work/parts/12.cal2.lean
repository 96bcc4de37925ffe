/-! 12: the class's calendar: loads, WHY NOT, the least loaded -/
def sl (T : Tx) (S : Sx) (n : Nat) : Int := sumN (fun j => ld T S j (nK T)) n
/-- how many judges stand ahead of j by load -/
def pb (T : Tx) (S : Sx) (j : Nat) (n : Nat) : Int := sumN (fun o => if ld T S j (nK T) < ld T S o (nK T) ∨ (ld T S o (nK T) = ld T S j (nK T) ∧ o < j) then 1 else 0) n
def sits (S : Sx) (n : Nat) : Int := sumN (fun k => if S.1 k = -1 then 0 else 1) n
def ages (T : Tx) (S : Sx) (n : Nat) : Int := sumN (fun k => if S.1 k = -1 then 0 else S.2 k - fi T k) n
/-- j rather than b for case k -/
def rat (T : Tx) (S : Sx) (j b k : Nat) : Bool := if ld T S j (nK T) ≠ ld T S b (nK T) then decide (ld T S j (nK T) < ld T S b (nK T)) else decide (wy T (hm T j) (tw T k) < wy T (hm T b) (tw T k))
def lst (T : Tx) (S : Sx) (k : Nat) (d : Int) : Nat → Int
  | 0 => -1
  | j + 1 => if whyS T S k j d = 0 ∧ (lst T S k d j = -1 ∨ rat T S j (lst T S k d j).toNat k = true) then (j : Int) else lst T S k d j
theorem lst_b (T : Tx) (S : Sx) (k : Nat) (d : Int) (n : Nat) : -1 ≤ lst T S k d n ∧ lst T S k d n < n := by
  induction n with
  | zero => exact ⟨Int.le_refl _, by show (-1 : Int) < 0; omega⟩
  | succ n ih =>
    show -1 ≤ (if _ then (n : Int) else lst T S k d n) ∧ (if _ then (n : Int) else lst T S k d n) < ((n + 1 : Nat) : Int)
    split <;> omega
theorem lst_may {T : Tx} {S : Sx} {k : Nat} {d : Int} {n : Nat} (h : lst T S k d n ≠ -1) : whyS T S k (lst T S k d n).toNat d = 0 := by
  induction n with
  | zero => exact absurd rfl h
  | succ n ih =>
    have e : lst T S k d (n + 1) = if whyS T S k n d = 0 ∧ (lst T S k d n = -1 ∨ rat T S n (lst T S k d n).toNat k = true) then (n : Int) else lst T S k d n := rfl
    rw [e] at h ⊢
    split
    · next q => rw [Int.toNat_natCast]; exact q.1
    · next q => rw [if_neg q] at h; exact ih h
theorem sl_b {T : Tx} (hT : TOk T) (S : Sx) {n : Nat} (hn : n ≤ nJ T) : 0 ≤ sl T S n ∧ sl T S n ≤ 25920 := by
  have h := sumN_b (f := fun j => ld T S j (nK T)) (B := 4320) n (fun j _ => ld_b hT S j)
  have := hT.2.1
  unfold sl
  omega
theorem whyS_b (T : Tx) (S : Sx) (k j : Nat) (d : Int) : 0 ≤ whyS T S k j d ∧ whyS T S k j d ≤ 7 := by
  unfold whyS
  repeat' split
  all_goals omega
theorem sits_b (S : Sx) (n : Nat) : 0 ≤ sits S n ∧ sits S n ≤ n := by
  have h := sumN_b (f := fun k => if S.1 k = -1 then 0 else 1) (B := 1) n (fun k _ => by split <;> omega)
  unfold sits
  omega
section Cal2
variable {G : Gt} {d : Nat} {M : Mem} {c : Nat}
theorem c_isFirst {k : Nat} (hk : k < 12) (hg : ∀ i, i < 12 → (-2147483648 ≤ gI M 9 i ∧ gI M 9 i ≤ 2147483647) ∧ (-2147483648 ≤ gI M 10 i ∧ gI M 10 i ≤ 2147483647)) : V G d mX3_isFirstOfHisDay 0 [some (.ref 8), some (.int (J (k : Int))), none] [] M (Ret (some (.int (J (b2i (fdB (sOf M) k))))) M) := by
  have hk9 := hg k hk
  refine v_iconst (pc := 0) 0 rfl ?_
  refine v_istore_n (pc := 1) 1 rfl ⟨Nat.le_of_ble_eq_true rfl, rfl⟩ ?_
  refine loopN (N := k) (fun i => exB (fun o => decide ((sOf M).1 o = (sOf M).1 k ∧ (sOf M).2 o = (sOf M).2 k)) i = false → V G d mX3_isFirstOfHisDay 2 [some (.ref 8), some (.int (J (k : Int))), some (.int (J (i : Int)))] [] M (Ret (some (.int (J (b2i (fdB (sOf M) k))))) M)) ?_ ?_ rfl
  · intro e
    unfold fdB
    rw [e]
    refine v_iload_n (pc := 2) 2 rfl rfl ?_
    refine v_iload_n (pc := 3) 3 rfl rfl ?_
    refine v_ic_geT (pc := 4) 4 45 rfl (by decide) (by omega) (by omega) ?_
    refine v_iconst (pc := 45) 27 rfl ?_
    exact v_zret (pc := 46) 28 rfl rfl (by omega) ⟨rfl, rfl⟩
  · intro i hi ih e
    have hi9 := hg i (by omega)
    refine v_iload_n (pc := 2) 2 rfl rfl ?_
    refine v_iload_n (pc := 3) 3 rfl rfl ?_
    refine v_ic_geF (pc := 4) 4 45 rfl (by decide) (by omega) (by omega) ?_
    refine v_aload_n (pc := 7) 5 rfl rfl ?_
    refine v_getC (pc := 8) 6 rfl fl_X3_9 rfl 9 rfl ?_
    refine v_iload_n (pc := 11) 7 rfl rfl ?_
    refine v_ialdN (pc := 12) 8 rfl rfl (by omega) ?_
    refine v_aload_n (pc := 13) 9 rfl rfl ?_
    refine v_getC (pc := 14) 10 rfl fl_X3_9 rfl 9 rfl ?_
    refine v_iload_n (pc := 17) 11 rfl rfl ?_
    refine v_ialdN (pc := 18) 12 rfl rfl (by omega) ?_
    refine v_ic_ne (pc := 19) 13 39 rfl (by decide) (by omega) (fun e1 => ?_) (fun e1 => ?_)
    · refine v_iinc (pc := 39) 25 rfl rfl ⟨Nat.le_of_ble_eq_true rfl, rfl⟩ ?_
      refine v_goto (pc := 42) 26 2 rfl (by decide) ?_
      exact ih (exB_succ e (decide_eq_false (fun q => e1 q.1)))
    · refine v_aload_n (pc := 22) 14 rfl rfl ?_
      refine v_getC (pc := 23) 15 rfl fl_X3_15 rfl 10 rfl ?_
      refine v_iload_n (pc := 26) 16 rfl rfl ?_
      refine v_ialdN (pc := 27) 17 rfl rfl (by omega) ?_
      refine v_aload_n (pc := 28) 18 rfl rfl ?_
      refine v_getC (pc := 29) 19 rfl fl_X3_15 rfl 10 rfl ?_
      refine v_iload_n (pc := 32) 20 rfl rfl ?_
      refine v_ialdN (pc := 33) 21 rfl rfl (by omega) ?_
      refine v_ic_ne (pc := 34) 22 39 rfl (by decide) (by omega) (fun e2 => ?_) (fun e2 => ?_)
      · refine v_iinc (pc := 39) 25 rfl rfl ⟨Nat.le_of_ble_eq_true rfl, rfl⟩ ?_
        refine v_goto (pc := 42) 26 2 rfl (by decide) ?_
        exact ih (exB_succ e (decide_eq_false (fun q => e2 q.2)))
      · unfold fdB
        rw [exB_true hi (decide_eq_true ⟨Decidable.not_not.mp e1, Decidable.not_not.mp e2⟩)]
        refine v_iconst (pc := 37) 23 rfl ?_
        exact v_zret (pc := 38) 24 rfl rfl (by omega) ⟨rfl, rfl⟩
theorem c_loadOf (h : CI M c) {j : Nat} (hj : j < nJ (tOf M c)) : V G (d + 1) mX3_loadOf 0 [some (.ref 8), some (.int (J (j : Int))), none, none] [] M (Ret (some (.int (J (ld (tOf M c) (sOf M) j (nK (tOf M c)))))) M) := by
  have hn := h.n
  obtain ⟨hc, hca, h0, h1, h2, hT, hS⟩ := h
  have hh : 0 ≤ gI M (c + 2) j ∧ gI M (c + 2) j < nT (tOf M c) := (hT.2.2.2.1 j hj).1
  have hg : ∀ i, i < 12 → (-2147483648 ≤ gI M 9 i ∧ gI M 9 i ≤ 2147483647) ∧ (-2147483648 ≤ gI M 10 i ∧ gI M 10 i ≤ 2147483647) := fun i hi => by
    have hb : (-1 ≤ gI M 9 i ∧ gI M 9 i < 6) ∧ (-1 ≤ gI M 10 i ∧ gI M 10 i ≤ 60) := hS.b hT hi
    omega
  refine v_iconst (pc := 0) 0 rfl ?_
  refine v_istore_n (pc := 1) 1 rfl ⟨Nat.le_of_ble_eq_true rfl, rfl⟩ ?_
  refine v_iconst (pc := 2) 2 rfl ?_
  refine v_istore_n (pc := 3) 3 rfl ⟨Nat.le_of_ble_eq_true rfl, rfl⟩ ?_
  refine loopN (N := nK (tOf M c)) (fun k => V G (d + 1) mX3_loadOf 4 [some (.ref 8), some (.int (J (j : Int))), some (.int (J (ld (tOf M c) (sOf M) j k))), some (.int (J (k : Int)))] [] M (Ret (some (.int (J (ld (tOf M c) (sOf M) j (nK (tOf M c)))))) M)) ?_ ?_
  · refine v_iload_n (pc := 4) 4 rfl rfl ?_
    refine v_aload_n (pc := 5) 5 rfl rfl ?_
    refine v_getR (pc := 6) 6 rfl fl_X3_25 rfl _ hca ?_
    refine v_getI (pc := 9) 7 rfl fl_X3_75 (shC hc) ?_
    refine v_ic_geT (pc := 12) 8 75 rfl (by decide) (by omega) (by omega) ?_
    refine v_iload_n (pc := 75) 41 rfl rfl ?_
    exact v_iret (pc := 76) 42 rfl rfl ⟨rfl, rfl⟩
  · intro k hk ih
    have hb := hg k (by omega)
    have ht2 : 0 ≤ gI M (c + 6) k ∧ gI M (c + 6) k < nT (tOf M c) := (hT.2.2.2.2.1 k hk).1
    have hm : ld (tOf M c) (sOf M) j (k + 1) = ld (tOf M c) (sOf M) j k + (if gI M 9 k = j then gI M (c + 9) k + (if gI M (c + 6) k ≠ gI M (c + 2) j ∧ fdB (sOf M) k = true then 60 else 0) else 0) := rfl
    refine v_iload_n (pc := 4) 4 rfl rfl ?_
    refine v_aload_n (pc := 5) 5 rfl rfl ?_
    refine v_getR (pc := 6) 6 rfl fl_X3_25 rfl _ hca ?_
    refine v_getI (pc := 9) 7 rfl fl_X3_75 (shC hc) ?_
    refine v_ic_geF (pc := 12) 8 75 rfl (by decide) (by omega) (by omega) ?_
    refine v_aload_n (pc := 15) 9 rfl rfl ?_
    refine v_getC (pc := 16) 10 rfl fl_X3_9 rfl 9 rfl ?_
    refine v_iload_n (pc := 19) 11 rfl rfl ?_
    refine v_ialdN (pc := 20) 12 rfl rfl (by omega) ?_
    refine v_iload_n (pc := 21) 13 rfl rfl ?_
    refine v_ic_ne (pc := 22) 14 69 rfl (by decide) (by omega) (fun e1 => ?_) (fun e1 => ?_)
    · rw [hm, if_neg e1, Int.add_zero] at ih
      refine v_iinc (pc := 69) 39 rfl rfl ⟨Nat.le_of_ble_eq_true rfl, rfl⟩ ?_
      refine v_goto (pc := 72) 40 4 rfl (by decide) ?_
      exact ih
    · rw [hm, if_pos (Decidable.not_not.mp e1)] at ih
      refine v_iload_n (pc := 25) 15 rfl rfl ?_
      refine v_aload_n (pc := 26) 16 rfl rfl ?_
      refine v_getR (pc := 27) 17 rfl fl_X3_25 rfl _ hca ?_
      refine v_getC (pc := 30) 18 rfl fl_X3_69 (shC hc) _ (rtC_11 hc) ?_
      refine v_iload_n (pc := 33) 19 rfl rfl ?_
      refine v_ialdN (pc := 34) 20 rfl (shC_11 hc) (by omega) ?_
      refine v_iadd (pc := 35) 21 rfl ?_
      refine v_istore_n (pc := 36) 22 rfl ⟨Nat.le_of_ble_eq_true rfl, rfl⟩ ?_
      refine v_aload_n (pc := 37) 23 rfl rfl ?_
      refine v_getR (pc := 38) 24 rfl fl_X3_25 rfl _ hca ?_
      refine v_getC (pc := 41) 25 rfl fl_X3_37 (shC hc) _ (rtC_8 hc) ?_
      refine v_iload_n (pc := 44) 26 rfl rfl ?_
      refine v_ialdN (pc := 45) 27 rfl (shC_8 hc) (by omega) ?_
      refine v_aload_n (pc := 46) 28 rfl rfl ?_
      refine v_getR (pc := 47) 29 rfl fl_X3_25 rfl _ hca ?_
      refine v_getC (pc := 50) 30 rfl fl_X3_91 (shC hc) _ (rtC_4 hc) ?_
      refine v_iload_n (pc := 53) 31 rfl rfl ?_
      refine v_ialdN (pc := 54) 32 rfl (shC_4 hc) (by omega) ?_
      refine v_ic_eq (pc := 55) 33 69 rfl (by decide) (by omega) (fun e2 => ?_) (fun e2 => ?_)
      · rw [if_neg (fun q => q.1 e2), Int.add_zero] at ih
        refine v_iinc (pc := 69) 39 rfl rfl ⟨Nat.le_of_ble_eq_true rfl, rfl⟩ ?_
        refine v_goto (pc := 72) 40 4 rfl (by decide) ?_
        exact ih
      · have h9 := b2i_r (fdB (sOf M) k)
        refine v_aload_n (pc := 58) 34 rfl rfl ?_
        refine v_iload_n (pc := 59) 35 rfl rfl ?_
        refine v_cV1i (pc := 60) 36 rfl cv_X3_94 rfl (Nat.le_of_ble_eq_true rfl) (Nat.le_of_ble_eq_true rfl) (c_isFirst (by omega) hg) ?_
        refine v_if_eq (pc := 63) 37 69 rfl (by decide) (by omega) (fun e3 => ?_) (fun e3 => ?_)
        · rw [if_neg (fun q => by rw [q.2] at e3; cases e3), Int.add_zero] at ih
          refine v_iinc (pc := 69) 39 rfl rfl ⟨Nat.le_of_ble_eq_true rfl, rfl⟩ ?_
          refine v_goto (pc := 72) 40 4 rfl (by decide) ?_
          exact ih
        · rw [if_pos ⟨e2, by cases q : fdB (sOf M) k with | true => rfl | false => rw [q] at e3; exact absurd rfl e3⟩, ← Int.add_assoc] at ih
          refine v_iinc (pc := 66) 38 rfl rfl ⟨Nat.le_of_ble_eq_true rfl, rfl⟩ ?_
          refine v_iinc (pc := 69) 39 rfl rfl ⟨Nat.le_of_ble_eq_true rfl, rfl⟩ ?_
          refine v_goto (pc := 72) 40 4 rfl (by decide) ?_
          exact ih
theorem c_whyNot (h : CI M c) {k j : Nat} {dd : Int} (hk : k < nK (tOf M c)) (hj : j < nJ (tOf M c)) (hd : 0 ≤ dd ∧ dd ≤ 60) : V G (d + 2) mX3_whyNot 0 [some (.ref 8), some (.int (J (k : Int))), some (.int (J (j : Int))), some (.int (J dd)), none] [] M (Ret (some (.int (J (whyS (tOf M c) (sOf M) k j dd)))) M) := by
  have hn := h.n
  have hI := h
  obtain ⟨hc, hca, h0, h1, h2, hT, hS⟩ := h
  obtain ⟨p1, p2, p3, p4⟩ : (0 ≤ gI M (c + 2) j ∧ gI M (c + 2) j < nT (tOf M c)) ∧ (60 ≤ gI M (c + 3) j ∧ gI M (c + 3) j ≤ 600) ∧ (0 ≤ gI M (c + 4) j ∧ gI M (c + 4) j < 16) ∧ (0 ≤ gI M (c + 5) j ∧ gI M (c + 5) j < 64) := hT.2.2.2.1 j hj
  obtain ⟨q1, q2, q3, q4, q5⟩ : (0 ≤ gI M (c + 6) k ∧ gI M (c + 6) k < nT (tOf M c)) ∧ (0 ≤ gI M (c + 7) k ∧ gI M (c + 7) k < 4) ∧ (0 ≤ gI M (c + 8) k ∧ gI M (c + 8) k ≤ 60) ∧ (10 ≤ gI M (c + 9) k ∧ gI M (c + 9) k ≤ 300) ∧ (0 ≤ gI M (c + 10) k ∧ gI M (c + 10) k < 64) := hT.2.2.2.2.1 k hk
  have hb : (-1 ≤ gI M 9 k ∧ gI M 9 k < 6) ∧ (-1 ≤ gI M 10 k ∧ gI M 10 k ≤ 60) := hS.b hT (by omega)
  have hm := mi_b hT (sOf M) j dd
  have eW : whyS (tOf M c) (sOf M) k j dd = if gI M 9 k ≠ -1 then 7 else if dd < gI M (c + 8) k then 3 else if bt (gI M (c + 4) j) (gI M (c + 7) k) = 0 then 1 else if bt (gI M (c + 10) k) j ≠ 0 then 2
    else if exB (farB (tOf M c) (sOf M) j (gI M (c + 6) k) dd) (nK (tOf M c)) = true then 5 else if exB (foeB (tOf M c) (sOf M) j (gI M (c + 6) k) dd) (nK (tOf M c)) = true then 6
    else if gI M (c + 3) j < mi (tOf M c) (sOf M) j dd (nK (tOf M c)) + gI M (c + 9) k then 4 else 0 := rfl
  rw [eW]
  have b1 := bt_01 (gI M (c + 4) j) (gI M (c + 7) k)
  have b2 := bt_01 (gI M (c + 10) k) j
  refine v_aload_n (pc := 0) 0 rfl rfl ?_
  refine v_getR (pc := 1) 1 rfl fl_X3_25 rfl _ hca ?_
  refine v_getC (pc := 4) 2 rfl fl_X3_37 (shC hc) _ (rtC_8 hc) ?_
  refine v_iload_n (pc := 7) 3 rfl rfl ?_
  refine v_ialdN (pc := 8) 4 rfl (shC_8 hc) (by omega) ?_
  refine v_istore (pc := 9) 5 rfl ⟨Nat.le_of_ble_eq_true rfl, rfl⟩ ?_
  refine v_aload_n (pc := 11) 6 rfl rfl ?_
  refine v_iload_n (pc := 12) 7 rfl rfl ?_
  refine v_cV1i (pc := 13) 8 rfl cv_X3_42 rfl (Nat.le_of_ble_eq_true rfl) (Nat.le_of_ble_eq_true rfl) (c_hasSitting (by omega) (by omega)) ?_
  refine v_if_eq (pc := 16) 9 22 rfl (by decide) (by omega) (fun e1 => ?_) (fun e1 => ?_)
  · rw [if_neg (by omega)]
    refine v_iload_n (pc := 22) 12 rfl rfl ?_
    refine v_aload_n (pc := 23) 13 rfl rfl ?_
    refine v_getR (pc := 24) 14 rfl fl_X3_25 rfl _ hca ?_
    refine v_getC (pc := 27) 15 rfl fl_X3_46 (shC hc) _ (rtC_10 hc) ?_
    refine v_iload_n (pc := 30) 16 rfl rfl ?_
    refine v_ialdN (pc := 31) 17 rfl (shC_10 hc) (by omega) ?_
    refine v_ic_ge (pc := 32) 18 37 rfl (by decide) (by omega) (fun e2 => ?_) (fun e2 => ?_)
    · rw [if_neg (by omega)]
      refine v_aload_n (pc := 37) 21 rfl rfl ?_
      refine v_getR (pc := 38) 22 rfl fl_X3_25 rfl _ hca ?_
      refine v_getC (pc := 41) 23 rfl fl_X3_49 (shC hc) _ (rtC_6 hc) ?_
      refine v_iload_n (pc := 44) 24 rfl rfl ?_
      refine v_ialdN (pc := 45) 25 rfl (shC_6 hc) (by omega) ?_
      refine v_aload_n (pc := 46) 26 rfl rfl ?_
      refine v_getR (pc := 47) 27 rfl fl_X3_25 rfl _ hca ?_
      refine v_getC (pc := 50) 28 rfl fl_X3_52 (shC hc) _ (rtC_9 hc) ?_
      refine v_iload_n (pc := 53) 29 rfl rfl ?_
      refine v_ialdN (pc := 54) 30 rfl (shC_9 hc) (by omega) ?_
      refine v_ishr (pc := 55) 31 rfl (gI M (c + 4) j / 2 ^ (gI M (c + 7) k).toNat) (J_shr (by omega)) ?_
      refine v_iconst (pc := 56) 32 rfl ?_
      refine v_iand (pc := 57) 33 rfl (bt (gI M (c + 4) j) (gI M (c + 7) k)) (J_bt (by omega)) ?_
      refine v_if_ne (pc := 58) 34 63 rfl (by decide) (by omega) (fun e3 => ?_) (fun e3 => ?_)
      · rw [if_neg e3]
        refine v_aload_n (pc := 63) 37 rfl rfl ?_
        refine v_getR (pc := 64) 38 rfl fl_X3_25 rfl _ hca ?_
        refine v_getC (pc := 67) 39 rfl fl_X3_55 (shC hc) _ (rtC_12 hc) ?_
        refine v_iload_n (pc := 70) 40 rfl rfl ?_
        refine v_ialdN (pc := 71) 41 rfl (shC_12 hc) (by omega) ?_
        refine v_iload_n (pc := 72) 42 rfl rfl ?_
        refine v_ishr (pc := 73) 43 rfl (gI M (c + 10) k / 2 ^ (j : Int).toNat) (J_shr (by omega)) ?_
        refine v_iconst (pc := 74) 44 rfl ?_
        refine v_iand (pc := 75) 45 rfl (bt (gI M (c + 10) k) j) (J_bt (by omega)) ?_
        refine v_if_eq (pc := 76) 46 81 rfl (by decide) (by omega) (fun e4 => ?_) (fun e4 => ?_)
        · rw [if_neg (fun q => q e4)]
          have b3 := b2i_r (exB (farB (tOf M c) (sOf M) j (gI M (c + 6) k) dd) (nK (tOf M c)))
          refine v_aload_n (pc := 81) 49 rfl rfl ?_
          refine v_iload_n (pc := 82) 50 rfl rfl ?_
          refine v_iload (pc := 83) 51 rfl rfl ?_
          refine v_iload_n (pc := 85) 52 rfl rfl ?_
          refine v_cV3i (pc := 86) 53 rfl cv_X3_58 rfl (Nat.le_of_ble_eq_true rfl) (Nat.le_of_ble_eq_true rfl) (c_isTooFar hI (by omega) (by omega) hd) ?_
          refine v_if_eq (pc := 89) 54 94 rfl (by decide) (by omega) (fun e5 => ?_) (fun e5 => ?_)
          · rw [if_neg (fun q => by rw [q] at e5; cases e5)]
            have b4 := b2i_r (exB (foeB (tOf M c) (sOf M) j (gI M (c + 6) k) dd) (nK (tOf M c)))
            refine v_aload_n (pc := 94) 57 rfl rfl ?_
            refine v_iload_n (pc := 95) 58 rfl rfl ?_
            refine v_iload (pc := 96) 59 rfl rfl ?_
            refine v_iload_n (pc := 98) 60 rfl rfl ?_
            refine v_cV3i (pc := 99) 61 rfl cv_X3_62 rfl (Nat.le_of_ble_eq_true rfl) (Nat.le_of_ble_eq_true rfl) (c_meetsQuarrel hI hj (by omega) hd) ?_
            refine v_if_eq (pc := 102) 62 108 rfl (by decide) (by omega) (fun e6 => ?_) (fun e6 => ?_)
            · rw [if_neg (fun q => by rw [q] at e6; cases e6)]
              refine v_aload_n (pc := 108) 65 rfl rfl ?_
              refine v_iload_n (pc := 109) 66 rfl rfl ?_
              refine v_iload_n (pc := 110) 67 rfl rfl ?_
              refine v_cV2i (pc := 111) 68 rfl cv_X3_65 rfl (Nat.le_of_ble_eq_true rfl) (Nat.le_of_ble_eq_true rfl) (c_minutesOn hI (by omega) (by omega)) ?_
              refine v_aload_n (pc := 114) 69 rfl rfl ?_
              refine v_getR (pc := 115) 70 rfl fl_X3_25 rfl _ hca ?_
              refine v_getC (pc := 118) 71 rfl fl_X3_69 (shC hc) _ (rtC_11 hc) ?_
              refine v_iload_n (pc := 121) 72 rfl rfl ?_
              refine v_ialdN (pc := 122) 73 rfl (shC_11 hc) (by omega) ?_
              refine v_iadd (pc := 123) 74 rfl ?_
              refine v_aload_n (pc := 124) 75 rfl rfl ?_
              refine v_getR (pc := 125) 76 rfl fl_X3_25 rfl _ hca ?_
              refine v_getC (pc := 128) 77 rfl fl_X3_72 (shC hc) _ (rtC_5 hc) ?_
              refine v_iload_n (pc := 131) 78 rfl rfl ?_
              refine v_ialdN (pc := 132) 79 rfl (shC_5 hc) (by omega) ?_
              refine v_ic_le (pc := 133) 80 140 rfl (by decide) (by omega) (fun e7 => ?_) (fun e7 => ?_)
              · rw [if_neg (by omega)]
                refine v_iconst (pc := 140) 83 rfl ?_
                exact v_iret (pc := 141) 84 rfl rfl ⟨rfl, rfl⟩
              · rw [if_pos (by omega)]
                refine v_iconst (pc := 136) 81 rfl ?_
                refine v_goto (pc := 137) 82 141 rfl (by decide) ?_
                exact v_iret (pc := 141) 84 rfl rfl ⟨rfl, rfl⟩
            · rw [if_pos (by cases q : exB (foeB (tOf M c) (sOf M) j (gI M (c + 6) k) dd) (nK (tOf M c)) with | true => rfl | false => rw [q] at e6; exact absurd rfl e6)]
              refine v_bipush (pc := 105) 63 rfl (by decide) ?_
              exact v_iret (pc := 107) 64 rfl rfl ⟨rfl, rfl⟩
          · rw [if_pos (by cases q : exB (farB (tOf M c) (sOf M) j (gI M (c + 6) k) dd) (nK (tOf M c)) with | true => rfl | false => rw [q] at e5; exact absurd rfl e5)]
            refine v_iconst (pc := 92) 55 rfl ?_
            exact v_iret (pc := 93) 56 rfl rfl ⟨rfl, rfl⟩
        · rw [if_pos e4]
          refine v_iconst (pc := 79) 47 rfl ?_
          exact v_iret (pc := 80) 48 rfl rfl ⟨rfl, rfl⟩
      · rw [if_pos (Decidable.not_not.mp e3)]
        refine v_iconst (pc := 61) 35 rfl ?_
        exact v_iret (pc := 62) 36 rfl rfl ⟨rfl, rfl⟩
    · rw [if_pos (by omega)]
      refine v_iconst (pc := 35) 19 rfl ?_
      exact v_iret (pc := 36) 20 rfl rfl ⟨rfl, rfl⟩
  · rw [if_pos (by omega)]
    refine v_bipush (pc := 19) 10 rfl (by decide) ?_
    exact v_iret (pc := 21) 11 rfl rfl ⟨rfl, rfl⟩
theorem c_sumOfLoads (h : CI M c) : V G (d + 2) mX3_sumOfLoads 0 [some (.ref 8), none, none] [] M (Ret (some (.int (J (sl (tOf M c) (sOf M) (nJ (tOf M c)))))) M) := by
  have hn := h.n
  have hI := h
  obtain ⟨hc, hca, h0, h1, h2, hT, hS⟩ := h
  refine v_iconst (pc := 0) 0 rfl ?_
  refine v_istore_n (pc := 1) 1 rfl ⟨Nat.le_of_ble_eq_true rfl, rfl⟩ ?_
  refine v_iconst (pc := 2) 2 rfl ?_
  refine v_istore_n (pc := 3) 3 rfl ⟨Nat.le_of_ble_eq_true rfl, rfl⟩ ?_
  refine loopN (N := nJ (tOf M c)) (fun j => V G (d + 2) mX3_sumOfLoads 4 [some (.ref 8), some (.int (J (sl (tOf M c) (sOf M) j))), some (.int (J (j : Int)))] [] M (Ret (some (.int (J (sl (tOf M c) (sOf M) (nJ (tOf M c)))))) M)) ?_ ?_
  · refine v_iload_n (pc := 4) 4 rfl rfl ?_
    refine v_aload_n (pc := 5) 5 rfl rfl ?_
    refine v_getR (pc := 6) 6 rfl fl_X3_25 rfl _ hca ?_
    refine v_getI (pc := 9) 7 rfl fl_X3_97 (shC hc) ?_
    refine v_ic_geT (pc := 12) 8 29 rfl (by decide) (by omega) (by omega) ?_
    refine v_iload_n (pc := 29) 17 rfl rfl ?_
    exact v_iret (pc := 30) 18 rfl rfl ⟨rfl, rfl⟩
  · intro j hj ih
    refine v_iload_n (pc := 4) 4 rfl rfl ?_
    refine v_aload_n (pc := 5) 5 rfl rfl ?_
    refine v_getR (pc := 6) 6 rfl fl_X3_25 rfl _ hca ?_
    refine v_getI (pc := 9) 7 rfl fl_X3_97 (shC hc) ?_
    refine v_ic_geF (pc := 12) 8 29 rfl (by decide) (by omega) (by omega) ?_
    refine v_iload_n (pc := 15) 9 rfl rfl ?_
    refine v_aload_n (pc := 16) 10 rfl rfl ?_
    refine v_iload_n (pc := 17) 11 rfl rfl ?_
    refine v_cV1i (pc := 18) 12 rfl cv_X3_100 rfl (Nat.le_of_ble_eq_true rfl) (Nat.le_of_ble_eq_true rfl) (c_loadOf hI hj) ?_
    refine v_iadd (pc := 21) 13 rfl ?_
    refine v_istore_n (pc := 22) 14 rfl ⟨Nat.le_of_ble_eq_true rfl, rfl⟩ ?_
    refine v_iinc (pc := 23) 15 rfl rfl ⟨Nat.le_of_ble_eq_true rfl, rfl⟩ ?_
    refine v_goto (pc := 26) 16 4 rfl (by decide) ?_
    exact ih
theorem c_placeByLoad (h : CI M c) {j : Nat} (hj : j < nJ (tOf M c)) : V G (d + 2) mX3_placeByLoad 0 [some (.ref 8), some (.int (J (j : Int))), none, none, none, none] [] M (Ret (some (.int (J (pb (tOf M c) (sOf M) j (nJ (tOf M c)))))) M) := by
  have hn := h.n
  have hI := h
  obtain ⟨hc, hca, h0, h1, h2, hT, hS⟩ := h
  have hb := ld_b hT (sOf M) j
  refine v_aload_n (pc := 0) 0 rfl rfl ?_
  refine v_iload_n (pc := 1) 1 rfl rfl ?_
  refine v_cV1i (pc := 2) 2 rfl cv_X3_100 rfl (Nat.le_of_ble_eq_true rfl) (Nat.le_of_ble_eq_true rfl) (c_loadOf hI hj) ?_
  refine v_istore_n (pc := 5) 3 rfl ⟨Nat.le_of_ble_eq_true rfl, rfl⟩ ?_
  refine v_iconst (pc := 6) 4 rfl ?_
  refine v_istore_n (pc := 7) 5 rfl ⟨Nat.le_of_ble_eq_true rfl, rfl⟩ ?_
  refine v_iconst (pc := 8) 6 rfl ?_
  refine v_istore (pc := 9) 7 rfl ⟨Nat.le_of_ble_eq_true rfl, rfl⟩ ?_
  refine loopN (N := nJ (tOf M c)) (fun o => ∀ u, V G (d + 2) mX3_placeByLoad 11 [some (.ref 8), some (.int (J (j : Int))), some (.int (J (ld (tOf M c) (sOf M) j (nK (tOf M c))))), some (.int (J (pb (tOf M c) (sOf M) j o))), some (.int (J (o : Int))), u] [] M (Ret (some (.int (J (pb (tOf M c) (sOf M) j (nJ (tOf M c)))))) M)) ?_ ?_ none
  · intro u
    refine v_iload (pc := 11) 8 rfl rfl ?_
    refine v_aload_n (pc := 13) 9 rfl rfl ?_
    refine v_getR (pc := 14) 10 rfl fl_X3_25 rfl _ hca ?_
    refine v_getI (pc := 17) 11 rfl fl_X3_97 (shC hc) ?_
    refine v_ic_geT (pc := 20) 12 58 rfl (by decide) (by omega) (by omega) ?_
    refine v_iload_n (pc := 58) 29 rfl rfl ?_
    exact v_iret (pc := 59) 30 rfl rfl ⟨rfl, rfl⟩
  · intro o ho ih u
    have hb2 := ld_b hT (sOf M) o
    have hm : pb (tOf M c) (sOf M) j (o + 1) = pb (tOf M c) (sOf M) j o + (if ld (tOf M c) (sOf M) j (nK (tOf M c)) < ld (tOf M c) (sOf M) o (nK (tOf M c)) ∨ (ld (tOf M c) (sOf M) o (nK (tOf M c)) = ld (tOf M c) (sOf M) j (nK (tOf M c)) ∧ o < j) then 1 else 0) := rfl
    refine v_iload (pc := 11) 8 rfl rfl ?_
    refine v_aload_n (pc := 13) 9 rfl rfl ?_
    refine v_getR (pc := 14) 10 rfl fl_X3_25 rfl _ hca ?_
    refine v_getI (pc := 17) 11 rfl fl_X3_97 (shC hc) ?_
    refine v_ic_geF (pc := 20) 12 58 rfl (by decide) (by omega) (by omega) ?_
    refine v_aload_n (pc := 23) 13 rfl rfl ?_
    refine v_iload (pc := 24) 14 rfl rfl ?_
    refine v_cV1i (pc := 26) 15 rfl cv_X3_100 rfl (Nat.le_of_ble_eq_true rfl) (Nat.le_of_ble_eq_true rfl) (c_loadOf hI ho) ?_
    refine v_istore (pc := 29) 16 rfl ⟨Nat.le_of_ble_eq_true rfl, rfl⟩ ?_
    refine v_iload (pc := 31) 17 rfl rfl ?_
    refine v_iload_n (pc := 33) 18 rfl rfl ?_
    refine v_ic_gt (pc := 34) 19 49 rfl (by decide) (by omega) (fun e1 => ?_) (fun e1 => ?_)
    · rw [hm, if_pos (Or.inl e1)] at ih
      refine v_iinc (pc := 49) 26 rfl rfl ⟨Nat.le_of_ble_eq_true rfl, rfl⟩ ?_
      refine v_iinc (pc := 52) 27 rfl rfl ⟨Nat.le_of_ble_eq_true rfl, rfl⟩ ?_
      refine v_goto (pc := 55) 28 11 rfl (by decide) ?_
      exact ih _
    · refine v_iload (pc := 37) 20 rfl rfl ?_
      refine v_iload_n (pc := 39) 21 rfl rfl ?_
      refine v_ic_ne (pc := 40) 22 52 rfl (by decide) (by omega) (fun e2 => ?_) (fun e2 => ?_)
      · rw [hm, if_neg (by omega), Int.add_zero] at ih
        refine v_iinc (pc := 52) 27 rfl rfl ⟨Nat.le_of_ble_eq_true rfl, rfl⟩ ?_
        refine v_goto (pc := 55) 28 11 rfl (by decide) ?_
        exact ih _
      · refine v_iload (pc := 43) 23 rfl rfl ?_
        refine v_iload_n (pc := 45) 24 rfl rfl ?_
        refine v_ic_ge (pc := 46) 25 52 rfl (by decide) (by omega) (fun e3 => ?_) (fun e3 => ?_)
        · rw [hm, if_neg (by omega), Int.add_zero] at ih
          refine v_iinc (pc := 52) 27 rfl rfl ⟨Nat.le_of_ble_eq_true rfl, rfl⟩ ?_
          refine v_goto (pc := 55) 28 11 rfl (by decide) ?_
          exact ih _
        · rw [hm, if_pos (by omega)] at ih
          refine v_iinc (pc := 49) 26 rfl rfl ⟨Nat.le_of_ble_eq_true rfl, rfl⟩ ?_
          refine v_iinc (pc := 52) 27 rfl rfl ⟨Nat.le_of_ble_eq_true rfl, rfl⟩ ?_
          refine v_goto (pc := 55) 28 11 rfl (by decide) ?_
          exact ih _
theorem c_sittings (h : CI M c) : V G (d + 1) mX3_sittings 0 [some (.ref 8), none, none] [] M (Ret (some (.int (J (sits (sOf M) (nK (tOf M c)))))) M) := by
  have hn := h.n
  obtain ⟨hc, hca, h0, h1, h2, hT, hS⟩ := h
  refine v_iconst (pc := 0) 0 rfl ?_
  refine v_istore_n (pc := 1) 1 rfl ⟨Nat.le_of_ble_eq_true rfl, rfl⟩ ?_
  refine v_iconst (pc := 2) 2 rfl ?_
  refine v_istore_n (pc := 3) 3 rfl ⟨Nat.le_of_ble_eq_true rfl, rfl⟩ ?_
  refine loopN (N := nK (tOf M c)) (fun k => V G (d + 1) mX3_sittings 4 [some (.ref 8), some (.int (J (sits (sOf M) k))), some (.int (J (k : Int)))] [] M (Ret (some (.int (J (sits (sOf M) (nK (tOf M c)))))) M)) ?_ ?_
  · refine v_iload_n (pc := 4) 4 rfl rfl ?_
    refine v_aload_n (pc := 5) 5 rfl rfl ?_
    refine v_getR (pc := 6) 6 rfl fl_X3_25 rfl _ hca ?_
    refine v_getI (pc := 9) 7 rfl fl_X3_75 (shC hc) ?_
    refine v_ic_geT (pc := 12) 8 32 rfl (by decide) (by omega) (by omega) ?_
    refine v_iload_n (pc := 32) 16 rfl rfl ?_
    exact v_iret (pc := 33) 17 rfl rfl ⟨rfl, rfl⟩
  · intro k hk ih
    have hb : (-1 ≤ gI M 9 k ∧ gI M 9 k < 6) ∧ (-1 ≤ gI M 10 k ∧ gI M 10 k ≤ 60) := hS.b hT (by omega)
    have hm : sits (sOf M) (k + 1) = sits (sOf M) k + (if gI M 9 k = -1 then 0 else 1) := rfl
    refine v_iload_n (pc := 4) 4 rfl rfl ?_
    refine v_aload_n (pc := 5) 5 rfl rfl ?_
    refine v_getR (pc := 6) 6 rfl fl_X3_25 rfl _ hca ?_
    refine v_getI (pc := 9) 7 rfl fl_X3_75 (shC hc) ?_
    refine v_ic_geF (pc := 12) 8 32 rfl (by decide) (by omega) (by omega) ?_
    refine v_aload_n (pc := 15) 9 rfl rfl ?_
    refine v_iload_n (pc := 16) 10 rfl rfl ?_
    refine v_cV1i (pc := 17) 11 rfl cv_X3_42 rfl (Nat.le_of_ble_eq_true rfl) (Nat.le_of_ble_eq_true rfl) (c_hasSitting (by omega) (by omega)) ?_
    refine v_if_eq (pc := 20) 12 26 rfl (by decide) (by omega) (fun e1 => ?_) (fun e1 => ?_)
    · rw [hm, if_pos (by omega), Int.add_zero] at ih
      refine v_iinc (pc := 26) 14 rfl rfl ⟨Nat.le_of_ble_eq_true rfl, rfl⟩ ?_
      refine v_goto (pc := 29) 15 4 rfl (by decide) ?_
      exact ih
    · rw [hm, if_neg (by omega)] at ih
      refine v_iinc (pc := 23) 13 rfl rfl ⟨Nat.le_of_ble_eq_true rfl, rfl⟩ ?_
      refine v_iinc (pc := 26) 14 rfl rfl ⟨Nat.le_of_ble_eq_true rfl, rfl⟩ ?_
      refine v_goto (pc := 29) 15 4 rfl (by decide) ?_
      exact ih
theorem c_sumOfAges (h : CI M c) : V G (d + 1) mX3_sumOfAges 0 [some (.ref 8), none, none] [] M (Ret (some (.int (J (ages (tOf M c) (sOf M) (nK (tOf M c)))))) M) := by
  have hn := h.n
  obtain ⟨hc, hca, h0, h1, h2, hT, hS⟩ := h
  refine v_iconst (pc := 0) 0 rfl ?_
  refine v_istore_n (pc := 1) 1 rfl ⟨Nat.le_of_ble_eq_true rfl, rfl⟩ ?_
  refine v_iconst (pc := 2) 2 rfl ?_
  refine v_istore_n (pc := 3) 3 rfl ⟨Nat.le_of_ble_eq_true rfl, rfl⟩ ?_
  refine loopN (N := nK (tOf M c)) (fun k => V G (d + 1) mX3_sumOfAges 4 [some (.ref 8), some (.int (J (ages (tOf M c) (sOf M) k))), some (.int (J (k : Int)))] [] M (Ret (some (.int (J (ages (tOf M c) (sOf M) (nK (tOf M c)))))) M)) ?_ ?_
  · refine v_iload_n (pc := 4) 4 rfl rfl ?_
    refine v_aload_n (pc := 5) 5 rfl rfl ?_
    refine v_getR (pc := 6) 6 rfl fl_X3_25 rfl _ hca ?_
    refine v_getI (pc := 9) 7 rfl fl_X3_75 (shC hc) ?_
    refine v_ic_geT (pc := 12) 8 48 rfl (by decide) (by omega) (by omega) ?_
    refine v_iload_n (pc := 48) 28 rfl rfl ?_
    exact v_iret (pc := 49) 29 rfl rfl ⟨rfl, rfl⟩
  · intro k hk ih
    have hb : (-1 ≤ gI M 9 k ∧ gI M 9 k < 6) ∧ (-1 ≤ gI M 10 k ∧ gI M 10 k ≤ 60) := hS.b hT (by omega)
    have hm : ages (tOf M c) (sOf M) (k + 1) = ages (tOf M c) (sOf M) k + (if gI M 9 k = -1 then 0 else gI M 10 k - gI M (c + 8) k) := rfl
    refine v_iload_n (pc := 4) 4 rfl rfl ?_
    refine v_aload_n (pc := 5) 5 rfl rfl ?_
    refine v_getR (pc := 6) 6 rfl fl_X3_25 rfl _ hca ?_
    refine v_getI (pc := 9) 7 rfl fl_X3_75 (shC hc) ?_
    refine v_ic_geF (pc := 12) 8 48 rfl (by decide) (by omega) (by omega) ?_
    refine v_aload_n (pc := 15) 9 rfl rfl ?_
    refine v_iload_n (pc := 16) 10 rfl rfl ?_
    refine v_cV1i (pc := 17) 11 rfl cv_X3_42 rfl (Nat.le_of_ble_eq_true rfl) (Nat.le_of_ble_eq_true rfl) (c_hasSitting (by omega) (by omega)) ?_
    refine v_if_eq (pc := 20) 12 42 rfl (by decide) (by omega) (fun e1 => ?_) (fun e1 => ?_)
    · rw [hm, if_pos (by omega), Int.add_zero] at ih
      refine v_iinc (pc := 42) 26 rfl rfl ⟨Nat.le_of_ble_eq_true rfl, rfl⟩ ?_
      refine v_goto (pc := 45) 27 4 rfl (by decide) ?_
      exact ih
    · rw [hm, if_neg (by omega)] at ih
      refine v_iload_n (pc := 23) 13 rfl rfl ?_
      refine v_aload_n (pc := 24) 14 rfl rfl ?_
      refine v_getC (pc := 25) 15 rfl fl_X3_15 rfl 10 rfl ?_
      refine v_iload_n (pc := 28) 16 rfl rfl ?_
      refine v_ialdN (pc := 29) 17 rfl rfl (by omega) ?_
      refine v_aload_n (pc := 30) 18 rfl rfl ?_
      refine v_getR (pc := 31) 19 rfl fl_X3_25 rfl _ hca ?_
      refine v_getC (pc := 34) 20 rfl fl_X3_46 (shC hc) _ (rtC_10 hc) ?_
      refine v_iload_n (pc := 37) 21 rfl rfl ?_
      refine v_ialdN (pc := 38) 22 rfl (shC_10 hc) (by omega) ?_
      refine v_isub (pc := 39) 23 rfl ?_
      refine v_iadd (pc := 40) 24 rfl ?_
      refine v_istore_n (pc := 41) 25 rfl ⟨Nat.le_of_ble_eq_true rfl, rfl⟩ ?_
      refine v_iinc (pc := 42) 26 rfl rfl ⟨Nat.le_of_ble_eq_true rfl, rfl⟩ ?_
      refine v_goto (pc := 45) 27 4 rfl (by decide) ?_
      exact ih
theorem c_isRather (h : CI M c) {j b k : Nat} (hj : j < nJ (tOf M c)) (hb : b < nJ (tOf M c)) (hk : k < nK (tOf M c)) : V G (d + 2) mX3_isRather 0 [some (.ref 8), some (.int (J (j : Int))), some (.int (J (b : Int))), some (.int (J (k : Int))), none, none, none] [] M (Ret (some (.int (J (b2i (rat (tOf M c) (sOf M) j b k))))) M) := by
  have hn := h.n
  have hI := h
  obtain ⟨hc, hca, h0, h1, h2, hT, hS⟩ := h
  have b1 := ld_b hT (sOf M) j
  have b2 := ld_b hT (sOf M) b
  have p1 : 0 ≤ gI M (c + 2) j ∧ gI M (c + 2) j < nT (tOf M c) := (hT.2.2.2.1 j hj).1
  have p2 : 0 ≤ gI M (c + 2) b ∧ gI M (c + 2) b < nT (tOf M c) := (hT.2.2.2.1 b hb).1
  have q1 : 0 ≤ gI M (c + 6) k ∧ gI M (c + 6) k < nT (tOf M c) := (hT.2.2.2.2.1 k hk).1
  have w1 : 0 ≤ gI M (c + 1) (gI M (c + 2) j * 5 + gI M (c + 6) k).toNat ∧ gI M (c + 1) (gI M (c + 2) j * 5 + gI M (c + 6) k).toNat ≤ 1000 := hT.2.2.2.2.2 _ _ p1.1 p1.2 q1.1 q1.2
  have w2 : 0 ≤ gI M (c + 1) (gI M (c + 2) b * 5 + gI M (c + 6) k).toNat ∧ gI M (c + 1) (gI M (c + 2) b * 5 + gI M (c + 6) k).toNat ≤ 1000 := hT.2.2.2.2.2 _ _ p2.1 p2.2 q1.1 q1.2
  have eR : rat (tOf M c) (sOf M) j b k = if ld (tOf M c) (sOf M) j (nK (tOf M c)) ≠ ld (tOf M c) (sOf M) b (nK (tOf M c)) then decide (ld (tOf M c) (sOf M) j (nK (tOf M c)) < ld (tOf M c) (sOf M) b (nK (tOf M c))) else decide (gI M (c + 1) (gI M (c + 2) j * 5 + gI M (c + 6) k).toNat < gI M (c + 1) (gI M (c + 2) b * 5 + gI M (c + 6) k).toNat) := rfl
  rw [eR]
  refine v_aload_n (pc := 0) 0 rfl rfl ?_
  refine v_iload_n (pc := 1) 1 rfl rfl ?_
  refine v_cV1i (pc := 2) 2 rfl cv_X3_100 rfl (Nat.le_of_ble_eq_true rfl) (Nat.le_of_ble_eq_true rfl) (c_loadOf hI hj) ?_
  refine v_istore (pc := 5) 3 rfl ⟨Nat.le_of_ble_eq_true rfl, rfl⟩ ?_
  refine v_aload_n (pc := 7) 4 rfl rfl ?_
  refine v_iload_n (pc := 8) 5 rfl rfl ?_
  refine v_cV1i (pc := 9) 6 rfl cv_X3_100 rfl (Nat.le_of_ble_eq_true rfl) (Nat.le_of_ble_eq_true rfl) (c_loadOf hI hb) ?_
  refine v_istore (pc := 12) 7 rfl ⟨Nat.le_of_ble_eq_true rfl, rfl⟩ ?_
  refine v_iload (pc := 14) 8 rfl rfl ?_
  refine v_iload (pc := 16) 9 rfl rfl ?_
  refine v_ic_eq (pc := 18) 10 34 rfl (by decide) (by omega) (fun e1 => ?_) (fun e1 => ?_)
  · rw [if_neg (fun q => q e1)]
    refine v_aload_n (pc := 34) 18 rfl rfl ?_
    refine v_getR (pc := 35) 19 rfl fl_X3_25 rfl _ hca ?_
    refine v_getC (pc := 38) 20 rfl fl_X3_37 (shC hc) _ (rtC_8 hc) ?_
    refine v_iload_n (pc := 41) 21 rfl rfl ?_
    refine v_ialdN (pc := 42) 22 rfl (shC_8 hc) (by omega) ?_
    refine v_istore (pc := 43) 23 rfl ⟨Nat.le_of_ble_eq_true rfl, rfl⟩ ?_
    refine v_aload_n (pc := 45) 24 rfl rfl ?_
    refine v_getR (pc := 46) 25 rfl fl_X3_25 rfl _ hca ?_
    refine v_aload_n (pc := 49) 26 rfl rfl ?_
    refine v_getR (pc := 50) 27 rfl fl_X3_25 rfl _ hca ?_
    refine v_getC (pc := 53) 28 rfl fl_X3_91 (shC hc) _ (rtC_4 hc) ?_
    refine v_iload_n (pc := 56) 29 rfl rfl ?_
    refine v_ialdN (pc := 57) 30 rfl (shC_4 hc) (by omega) ?_
    refine v_iload (pc := 58) 31 rfl rfl ?_
    refine v_cV2i (pc := 60) 32 rfl cv_X3_85 (shC hc) (Nat.le_of_ble_eq_true rfl) (Nat.le_of_ble_eq_true rfl) (c_way hc (by omega)) ?_
    refine v_aload_n (pc := 63) 33 rfl rfl ?_
    refine v_getR (pc := 64) 34 rfl fl_X3_25 rfl _ hca ?_
    refine v_aload_n (pc := 67) 35 rfl rfl ?_
    refine v_getR (pc := 68) 36 rfl fl_X3_25 rfl _ hca ?_
    refine v_getC (pc := 71) 37 rfl fl_X3_91 (shC hc) _ (rtC_4 hc) ?_
    refine v_iload_n (pc := 74) 38 rfl rfl ?_
    refine v_ialdN (pc := 75) 39 rfl (shC_4 hc) (by omega) ?_
    refine v_iload (pc := 76) 40 rfl rfl ?_
    refine v_cV2i (pc := 78) 41 rfl cv_X3_85 (shC hc) (Nat.le_of_ble_eq_true rfl) (Nat.le_of_ble_eq_true rfl) (c_way hc (by omega)) ?_
    refine v_ic_ge (pc := 81) 42 88 rfl (by decide) (by omega) (fun e2 => ?_) (fun e2 => ?_)
    · rw [decide_eq_false (by omega)]
      refine v_iconst (pc := 88) 45 rfl ?_
      exact v_zret (pc := 89) 46 rfl rfl (by omega) ⟨rfl, rfl⟩
    · rw [decide_eq_true (by omega)]
      refine v_iconst (pc := 84) 43 rfl ?_
      refine v_goto (pc := 85) 44 89 rfl (by decide) ?_
      exact v_zret (pc := 89) 46 rfl rfl (by omega) ⟨rfl, rfl⟩
  · rw [if_pos e1]
    refine v_iload (pc := 21) 11 rfl rfl ?_
    refine v_iload (pc := 23) 12 rfl rfl ?_
    refine v_ic_ge (pc := 25) 13 32 rfl (by decide) (by omega) (fun e2 => ?_) (fun e2 => ?_)
    · rw [decide_eq_false (by omega)]
      refine v_iconst (pc := 32) 16 rfl ?_
      exact v_zret (pc := 33) 17 rfl rfl (by omega) ⟨rfl, rfl⟩
    · rw [decide_eq_true (by omega)]
      refine v_iconst (pc := 28) 14 rfl ?_
      refine v_goto (pc := 29) 15 33 rfl (by decide) ?_
      exact v_zret (pc := 33) 17 rfl rfl (by omega) ⟨rfl, rfl⟩
theorem c_leastLoaded (h : CI M c) {k : Nat} {dd : Int} (hk : k < nK (tOf M c)) (hd : 0 ≤ dd ∧ dd ≤ 60) : V G (d + 3) mX3_leastLoaded 0 [some (.ref 8), some (.int (J (k : Int))), some (.int (J dd)), none, none] [] M (Ret (some (.int (J (lst (tOf M c) (sOf M) k dd (nJ (tOf M c)))))) M) := by
  have hn := h.n
  have hI := h
  obtain ⟨hc, hca, h0, h1, h2, hT, hS⟩ := h
  refine v_iconst (pc := 0) 0 rfl ?_
  refine v_istore_n (pc := 1) 1 rfl ⟨Nat.le_of_ble_eq_true rfl, rfl⟩ ?_
  refine v_iconst (pc := 2) 2 rfl ?_
  refine v_istore (pc := 3) 3 rfl ⟨Nat.le_of_ble_eq_true rfl, rfl⟩ ?_
  refine loopN (N := nJ (tOf M c)) (fun j => V G (d + 3) mX3_leastLoaded 5 [some (.ref 8), some (.int (J (k : Int))), some (.int (J dd)), some (.int (J (lst (tOf M c) (sOf M) k dd j))), some (.int (J (j : Int)))] [] M (Ret (some (.int (J (lst (tOf M c) (sOf M) k dd (nJ (tOf M c)))))) M)) ?_ ?_
  · refine v_iload (pc := 5) 4 rfl rfl ?_
    refine v_aload_n (pc := 7) 5 rfl rfl ?_
    refine v_getR (pc := 8) 6 rfl fl_X3_25 rfl _ hca ?_
    refine v_getI (pc := 11) 7 rfl fl_X3_97 (shC hc) ?_
    refine v_ic_geT (pc := 14) 8 53 rfl (by decide) (by omega) (by omega) ?_
    refine v_iload_n (pc := 53) 28 rfl rfl ?_
    exact v_iret (pc := 54) 29 rfl rfl ⟨rfl, rfl⟩
  · intro j hj ih
    have hw := whyS_b (tOf M c) (sOf M) k j dd
    have hl := lst_b (tOf M c) (sOf M) k dd j
    have hm : lst (tOf M c) (sOf M) k dd (j + 1) = if whyS (tOf M c) (sOf M) k j dd = 0 ∧ (lst (tOf M c) (sOf M) k dd j = -1 ∨ rat (tOf M c) (sOf M) j (lst (tOf M c) (sOf M) k dd j).toNat k = true) then (j : Int) else lst (tOf M c) (sOf M) k dd j := rfl
    refine v_iload (pc := 5) 4 rfl rfl ?_
    refine v_aload_n (pc := 7) 5 rfl rfl ?_
    refine v_getR (pc := 8) 6 rfl fl_X3_25 rfl _ hca ?_
    refine v_getI (pc := 11) 7 rfl fl_X3_97 (shC hc) ?_
    refine v_ic_geF (pc := 14) 8 53 rfl (by decide) (by omega) (by omega) ?_
    refine v_aload_n (pc := 17) 9 rfl rfl ?_
    refine v_iload_n (pc := 18) 10 rfl rfl ?_
    refine v_iload (pc := 19) 11 rfl rfl ?_
    refine v_iload_n (pc := 21) 12 rfl rfl ?_
    refine v_cV3i (pc := 22) 13 rfl cv_X3_109 rfl (Nat.le_of_ble_eq_true rfl) (Nat.le_of_ble_eq_true rfl) (c_whyNot hI hk hj hd) ?_
    refine v_if_ne (pc := 25) 14 47 rfl (by decide) (by omega) (fun e1 => ?_) (fun e1 => ?_)
    · rw [hm, if_neg (fun q => e1 q.1)] at ih
      refine v_iinc (pc := 47) 26 rfl rfl ⟨Nat.le_of_ble_eq_true rfl, rfl⟩ ?_
      refine v_goto (pc := 50) 27 5 rfl (by decide) ?_
      exact ih
    · refine v_iload_n (pc := 28) 15 rfl rfl ?_
      refine v_iconst (pc := 29) 16 rfl ?_
      refine v_ic_eq (pc := 30) 17 44 rfl (by decide) (by omega) (fun e2 => ?_) (fun e2 => ?_)
      · rw [hm, if_pos ⟨by omega, Or.inl e2⟩] at ih
        refine v_iload (pc := 44) 24 rfl rfl ?_
        refine v_istore_n (pc := 46) 25 rfl ⟨Nat.le_of_ble_eq_true rfl, rfl⟩ ?_
        refine v_iinc (pc := 47) 26 rfl rfl ⟨Nat.le_of_ble_eq_true rfl, rfl⟩ ?_
        refine v_goto (pc := 50) 27 5 rfl (by decide) ?_
        exact ih
      · obtain ⟨b, hb⟩ : ∃ b : Nat, lst (tOf M c) (sOf M) k dd j = (b : Int) := ⟨(lst (tOf M c) (sOf M) k dd j).toNat, by omega⟩
        rw [hb] at hm hl ⊢
        have h9 := b2i_r (rat (tOf M c) (sOf M) j b k)
        refine v_aload_n (pc := 33) 18 rfl rfl ?_
        refine v_iload (pc := 34) 19 rfl rfl ?_
        refine v_iload_n (pc := 36) 20 rfl rfl ?_
        refine v_iload_n (pc := 37) 21 rfl rfl ?_
        refine v_cV3i (pc := 38) 22 rfl cv_X3_113 rfl (Nat.le_of_ble_eq_true rfl) (Nat.le_of_ble_eq_true rfl) (c_isRather hI hj (by omega) hk) ?_
        refine v_if_eq (pc := 41) 23 47 rfl (by decide) (by omega) (fun e3 => ?_) (fun e3 => ?_)
        · rw [hm, if_neg (fun q => by rcases q.2 with q2 | q2; omega; rw [Int.toNat_natCast] at q2; rw [q2] at e3; cases e3)] at ih
          refine v_iinc (pc := 47) 26 rfl rfl ⟨Nat.le_of_ble_eq_true rfl, rfl⟩ ?_
          refine v_goto (pc := 50) 27 5 rfl (by decide) ?_
          exact ih
        · rw [hm, if_pos ⟨by omega, Or.inr (by rw [Int.toNat_natCast]; cases q : rat (tOf M c) (sOf M) j b k with | true => rfl | false => rw [q] at e3; exact absurd rfl e3)⟩] at ih
          refine v_iload (pc := 44) 24 rfl rfl ?_
          refine v_istore_n (pc := 46) 25 rfl ⟨Nat.le_of_ble_eq_true rfl, rfl⟩ ?_
          refine v_iinc (pc := 47) 26 rfl rfl ⟨Nat.le_of_ble_eq_true rfl, rfl⟩ ?_
          refine v_goto (pc := 50) 27 5 rfl (by decide) ?_
          exact ih
end Cal2
