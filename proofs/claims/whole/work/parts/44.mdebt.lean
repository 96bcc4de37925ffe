/-! 44: the reference: debts; what it keeps -/
section MDebt
variable {G : Gt} {d : Nat} {M N : Mem} {T : Tx} {S : Sx}
theorem m_lentBy (h : RI M T S) {a b : Int} (ha : -2147483648 ≤ a ∧ a ≤ 2147483647) (hb : -2147483648 ≤ b ∧ b ≤ 2147483647) : V G d mX12_lentBy 0 [some (.ref 54), some (.int (J a)), some (.int (J b)), none, none] [] M (Ret (some (.int (J (lnt T S a b (nK T))))) M) := by
  have hn := h.n
  obtain ⟨-, -, h3, h4, h5, hT, hS⟩ := h
  refine v_iconst (pc := 0) 0 rfl ?_
  refine v_istore_n (pc := 1) 1 rfl ⟨Nat.le_of_ble_eq_true rfl, rfl⟩ ?_
  refine v_iconst (pc := 2) 2 rfl ?_
  refine v_istore (pc := 3) 3 rfl ⟨Nat.le_of_ble_eq_true rfl, rfl⟩ ?_
  refine loopN (N := nK T) (fun k => V G d mX12_lentBy 5 [some (.ref 54), some (.int (J a)), some (.int (J b)), some (.int (J (lnt T S a b k))), some (.int (J (k : Int)))] [] M (Ret (some (.int (J (lnt T S a b (nK T))))) M)) ?_ ?_
  · refine v_iload (pc := 5) 4 rfl rfl ?_
    refine v_aload_n (pc := 7) 5 rfl rfl ?_
    refine v_getC (pc := 8) 6 rfl fl_X12_20 rfl 58 rfl ?_
    refine v_iconst (pc := 11) 7 rfl ?_
    refine v_ialdN (kk := 0) (pc := 12) 8 rfl rfl (by decide) ?_
    refine v_ic_geT (pc := 13) 9 73 rfl (by decide) (by omega) (by omega) ?_
    refine v_iload_n (pc := 73) 41 rfl rfl ?_
    refine v_iret (pc := 74) 42 rfl rfl ⟨rfl, rfl⟩
  · intro k hk ih
    have e := (h5 k (by omega)).1
    have ek := (h4 k hk)
    have hbk := hS.b hT (k := k) (by omega)
    have hs := hS k (by omega)
    have hTk := (hT.2.2.2.2.1 k hk)
    have hm9 : lnt T S a b (k + 1) = lnt T S a b k + (if S.1 k ≠ -1 ∧ tw T k = b ∧ hm T (S.1 k).toNat = a then le T k else 0) := rfl
    have no : ¬ (S.1 k ≠ -1 ∧ tw T k = b ∧ hm T (S.1 k).toNat = a) → V G d mX12_lentBy 64 [some (.ref 54), some (.int (J a)), some (.int (J b)), some (.int (J (lnt T S a b k))), some (.int (J (k : Int)))] [.int (J (lnt T S a b k))] M (Ret (some (.int (J (lnt T S a b (nK T))))) M) := by
      intro hne
      rw [hm9, if_neg hne] at ih
      refine v_iconst (pc := 64) 36 rfl ?_
      refine v_iadd (pc := 65) 37 rfl ?_
      refine v_istore_n (pc := 66) 38 rfl ⟨Nat.le_of_ble_eq_true rfl, rfl⟩ ?_
      refine v_iinc (pc := 67) 39 rfl rfl ⟨Nat.le_of_ble_eq_true rfl, rfl⟩ ?_
      refine v_goto (pc := 70) 40 5 rfl (by decide) ?_
      exact ih
    refine v_iload (pc := 5) 4 rfl rfl ?_
    refine v_aload_n (pc := 7) 5 rfl rfl ?_
    refine v_getC (pc := 8) 6 rfl fl_X12_20 rfl 58 rfl ?_
    refine v_iconst (pc := 11) 7 rfl ?_
    refine v_ialdN (kk := 0) (pc := 12) 8 rfl rfl (by decide) ?_
    refine v_ic_geF (pc := 13) 9 73 rfl (by decide) (by omega) (by omega) ?_
    refine v_iload_n (pc := 16) 10 rfl rfl ?_
    refine v_aload_n (pc := 17) 11 rfl rfl ?_
    refine v_getC (pc := 18) 12 rfl fl_X12_63 rfl 72 rfl ?_
    refine v_iload (pc := 21) 13 rfl rfl ?_
    refine v_ialdN (pc := 23) 14 rfl rfl (by omega) ?_
    refine v_if_lt (pc := 24) 15 64 rfl (by decide) (by omega) (fun e1 => ?_) (fun e1 => ?_)
    · exact no (by omega)
    · have hs := hs.resolve_left (by omega)
      obtain ⟨j, hj⟩ : ∃ j : Nat, S.1 k = (j : Int) := ⟨(S.1 k).toNat, by omega⟩
      have qj := (h3 j (by omega)).1
      have rj := (hT.2.2.2.1 j (by omega)).1
      have ej : (S.1 k).toNat = j := by omega
      refine v_aload_n (pc := 27) 16 rfl rfl ?_
      refine v_getC (pc := 28) 17 rfl fl_X12_48 rfl 67 rfl ?_
      refine v_iload (pc := 31) 18 rfl rfl ?_
      refine v_ialdN (pc := 33) 19 rfl rfl (by omega) ?_
      refine v_iload_n (pc := 34) 20 rfl rfl ?_
      refine v_ic_ne (pc := 35) 21 64 rfl (by decide) (by omega) (fun e2 => ?_) (fun e2 => ?_)
      · exact no (by omega)
      · refine v_aload_n (pc := 38) 22 rfl rfl ?_
        refine v_getC (pc := 39) 23 rfl fl_X12_36 rfl 63 rfl ?_
        refine v_aload_n (pc := 42) 24 rfl rfl ?_
        refine v_getC (pc := 43) 25 rfl fl_X12_63 rfl 72 rfl ?_
        refine v_iload (pc := 46) 26 rfl rfl ?_
        refine v_ialdN (pc := 48) 27 rfl rfl (by omega) ?_
        rw [e, hj]
        refine v_ialdN (pc := 49) 28 rfl rfl (by omega) ?_
        rw [qj]
        refine v_iload_n (pc := 50) 29 rfl rfl ?_
        refine v_ic_ne (pc := 51) 30 64 rfl (by decide) (by omega) (fun e3 => ?_) (fun e3 => ?_)
        · exact no (fun z => e3 (by rw [← ej]; exact z.2.2))
        · rw [hm9, if_pos ⟨by omega, by omega, by rw [ej]; exact Decidable.not_not.mp e3⟩] at ih
          refine v_aload_n (pc := 54) 31 rfl rfl ?_
          refine v_getC (pc := 55) 32 rfl fl_X12_57 rfl 70 rfl ?_
          refine v_iload (pc := 58) 33 rfl rfl ?_
          refine v_ialdN (pc := 60) 34 rfl rfl (by omega) ?_
          refine v_goto (pc := 61) 35 65 rfl (by decide) ?_
          rw [ek.2.2.2.1]
          refine v_iadd (pc := 65) 37 rfl ?_
          refine v_istore_n (pc := 66) 38 rfl ⟨Nat.le_of_ble_eq_true rfl, rfl⟩ ?_
          refine v_iinc (pc := 67) 39 rfl rfl ⟨Nat.le_of_ble_eq_true rfl, rfl⟩ ?_
          refine v_goto (pc := 70) 40 5 rfl (by decide) ?_
          exact ih
theorem ow_s (T : Tx) (S : Sx) (t n : Nat) : ow T S t (n + 1) = ow T S t n + (lnt T S n t (nK T) - lnt T S t n (nK T)) := by
  have e : ow T S t (n + 1) = ow T S t n + (if n = t then 0 else lnt T S n t (nK T) - lnt T S t n (nK T)) := rfl
  rw [e]
  by_cases g : n = t
  · rw [if_pos g, g]; omega
  · rw [if_neg g]
theorem m_owedBy (h : RI M T S) {t : Nat} (ht : t < nT T) : V G (d + 1) mX12_owedBy 0 [some (.ref 54), some (.int (J (t : Int))), none, none] [] M (Ret (some (.int (J (ow T S t (nT T))))) M) := by
  have hn := h.n
  refine v_iconst (pc := 0) 0 rfl ?_
  refine v_istore_n (pc := 1) 1 rfl ⟨Nat.le_of_ble_eq_true rfl, rfl⟩ ?_
  refine v_iconst (pc := 2) 2 rfl ?_
  refine v_istore_n (pc := 3) 3 rfl ⟨Nat.le_of_ble_eq_true rfl, rfl⟩ ?_
  refine loopN (N := nT T) (fun o => V G (d + 1) mX12_owedBy 4 [some (.ref 54), some (.int (J (t : Int))), some (.int (J (ow T S t o))), some (.int (J (o : Int)))] [] M (Ret (some (.int (J (ow T S t (nT T))))) M)) ?_ ?_
  · refine v_iload_n (pc := 4) 4 rfl rfl ?_
    refine v_aload_n (pc := 5) 5 rfl rfl ?_
    refine v_getC (pc := 6) 6 rfl fl_X12_13 rfl 56 rfl ?_
    refine v_iconst (pc := 9) 7 rfl ?_
    refine v_ialdN (kk := 0) (pc := 10) 8 rfl rfl (by decide) ?_
    refine v_ic_geT (pc := 11) 9 36 rfl (by decide) (by omega) (by omega) ?_
    refine v_iload_n (pc := 36) 24 rfl rfl ?_
    refine v_iret (pc := 37) 25 rfl rfl ⟨rfl, rfl⟩
  · intro o ho ih
    rw [ow_s] at ih
    refine v_iload_n (pc := 4) 4 rfl rfl ?_
    refine v_aload_n (pc := 5) 5 rfl rfl ?_
    refine v_getC (pc := 6) 6 rfl fl_X12_13 rfl 56 rfl ?_
    refine v_iconst (pc := 9) 7 rfl ?_
    refine v_ialdN (kk := 0) (pc := 10) 8 rfl rfl (by decide) ?_
    refine v_ic_geF (pc := 11) 9 36 rfl (by decide) (by omega) (by omega) ?_
    refine v_iload_n (pc := 14) 10 rfl rfl ?_
    refine v_aload_n (pc := 15) 11 rfl rfl ?_
    refine v_iload_n (pc := 16) 12 rfl rfl ?_
    refine v_iload_n (pc := 17) 13 rfl rfl ?_
    refine v_cV2i (pc := 18) 14 rfl cv_X12_357 rfl (Nat.le_of_ble_eq_true rfl) (Nat.le_of_ble_eq_true rfl) (m_lentBy h (by omega) (by omega)) ?_
    refine v_aload_n (pc := 21) 15 rfl rfl ?_
    refine v_iload_n (pc := 22) 16 rfl rfl ?_
    refine v_iload_n (pc := 23) 17 rfl rfl ?_
    refine v_cV2i (pc := 24) 18 rfl cv_X12_357 rfl (Nat.le_of_ble_eq_true rfl) (Nat.le_of_ble_eq_true rfl) (m_lentBy h (by omega) (by omega)) ?_
    refine v_isub (pc := 27) 19 rfl ?_
    refine v_iadd (pc := 28) 20 rfl ?_
    refine v_istore_n (pc := 29) 21 rfl ⟨Nat.le_of_ble_eq_true rfl, rfl⟩ ?_
    refine v_iinc (pc := 30) 22 rfl rfl ⟨Nat.le_of_ble_eq_true rfl, rfl⟩ ?_
    refine v_goto (pc := 33) 23 4 rfl (by decide) ?_
    exact ih
/-- nothing of what is told and of the calendar is another -/
theorem RI.keep (h : RI M T S) (e : ∀ q, q = 56 ∨ q = 57 ∨ q = 58 ∨ (63 ≤ q ∧ q ≤ 72) ∨ q = 76 → gI N q = gI M q) : RI N T S := by
  unfold RI
  rw [e 56 (by omega), e 57 (by omega), e 58 (by omega), e 63 (by omega), e 64 (by omega), e 65 (by omega), e 66 (by omega), e 67 (by omega), e 68 (by omega), e 69 (by omega), e 70 (by omega), e 71 (by omega), e 72 (by omega), e 76 (by omega)]
  exact h
/-- a sitting set in the reference's row -/
def msM (M : Mem) (k : Nat) (j t : Int) : Mem := sI (sI M 72 k j) 72 (12 + k) (if j = -1 then -1 else t)
theorem ms_ne {k : Nat} {j t : Int} {q : Nat} (h : q ≠ 72) : gI (msM M k j t) q = gI M q := by unfold msM; rw [gI_sI_ne h, gI_sI_ne h]
theorem ms_72 {k : Nat} {j t : Int} (i : Nat) : gI (msM M k j t) 72 i = if i = 12 + k then (if j = -1 then -1 else t) else if i = k then j else gI M 72 i := by
  unfold msM; rw [gI_sI, if_pos rfl, gI_sI, if_pos rfl]
theorem RI.ms (h : RI M T S) {k : Nat} {j t : Int} (hk : k < 12) (h2 : SOk T (setS S k j (if j = -1 then -1 else t))) : RI (msM M k j t) T (setS S k j (if j = -1 then -1 else t)) := by
  obtain ⟨h1, h2', h3, h4, h5, hT, hS⟩ := h
  unfold RI
  rw [ms_ne (by decide), ms_ne (by decide), ms_ne (by decide), ms_ne (by decide), ms_ne (by decide), ms_ne (by decide), ms_ne (by decide), ms_ne (by decide), ms_ne (by decide), ms_ne (by decide), ms_ne (by decide), ms_ne (by decide), ms_ne (by decide)]
  refine ⟨h1, h2', h3, h4, fun i hi => ?_, hT, h2⟩
  rw [ms_72, ms_72]
  show _ = (if i = k then j else S.1 i) ∧ _ = (if i = k then (if j = -1 then -1 else t) else S.2 i)
  have := h5 i hi
  by_cases e : i = k
  · rw [if_neg (by omega), if_pos e, if_pos e, if_pos (by omega), if_pos e]; exact ⟨rfl, rfl⟩
  · rw [if_neg (by omega), if_neg e, if_neg e, if_neg (by omega), if_neg (by omega), if_neg e]; exact this
theorem m_sets {k : Nat} {j t : Int} (hk : k < 12) (hj : -2147483648 ≤ j ∧ j ≤ 2147483647) : V G d mX12_sets 0 [some (.ref 54), some (.int (J (k : Int))), some (.int (J j)), some (.int (J t))] [] M (Ret none (msM M k j t)) := by
  unfold msM
  refine v_aload_n (pc := 0) 0 rfl rfl ?_
  refine v_getC (pc := 1) 1 rfl fl_X12_63 rfl 72 rfl ?_
  refine v_iload_n (pc := 4) 2 rfl rfl ?_
  refine v_iload_n (pc := 5) 3 rfl rfl ?_
  refine v_iastN (pc := 6) 4 rfl rfl (by omega) ?_
  refine v_aload_n (pc := 7) 5 rfl rfl ?_
  refine v_getC (pc := 8) 6 rfl fl_X12_63 rfl 72 rfl ?_
  refine v_bipush (pc := 11) 7 rfl (by decide) ?_
  refine v_iload_n (pc := 13) 8 rfl rfl ?_
  refine v_iadd (pc := 14) 9 rfl ?_
  refine v_iload_n (pc := 15) 10 rfl rfl ?_
  refine v_iconst (pc := 16) 11 rfl ?_
  refine v_ic_ne (pc := 17) 12 24 rfl (by decide) (by omega) (fun e1 => ?_) (fun e1 => ?_)
  · rw [if_neg e1]
    refine v_iload_n (pc := 24) 15 rfl rfl ?_
    refine v_iastE (pc := 25) 16 rfl rfl (12 + k) (by omega) ?_
    refine v_ret (pc := 26) 17 rfl rfl ⟨rfl, rfl⟩
  · rw [if_pos (Decidable.not_not.mp e1)]
    refine v_iconst (pc := 20) 13 rfl ?_
    refine v_goto (pc := 21) 14 25 rfl (by decide) ?_
    refine v_iastE (pc := 25) 16 rfl rfl (12 + k) (by omega) ?_
    refine v_ret (pc := 26) 17 rfl rfl ⟨rfl, rfl⟩
end MDebt
