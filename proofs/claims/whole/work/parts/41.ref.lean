/-! 41: the reference: what it holds; reads of its calendar -/
/-- the reference's cells hold T and S, on the ranges -/
def RI (M : Mem) (T : Tx) (S : Sx) : Prop := (gI M 56 0 = (nT T : Int) ∧ gI M 57 0 = (nJ T : Int) ∧ gI M 58 0 = (nK T : Int)) ∧
  (∀ a b : Nat, a < nT T → b < nT T → gI M 76 (5 * a + b) = T.2 1 (a * 5 + b)) ∧
  (∀ j, j < nJ T → gI M 63 j = hm T j ∧ gI M 64 j = da T j ∧ gI M 65 j = ss T j ∧ gI M 66 j = qu T j) ∧
  (∀ k, k < nK T → gI M 67 k = tw T k ∧ gI M 68 k = so T k ∧ gI M 69 k = fi T k ∧ gI M 70 k = le T k ∧ gI M 71 k = ba T k) ∧
  (∀ k, k < 12 → gI M 72 k = S.1 k ∧ gI M 72 (12 + k) = S.2 k) ∧ TOk T ∧ SOk T S
theorem RI.n {M : Mem} {T : Tx} {S : Sx} (h : RI M T S) : gI M 56 0 = (nT T : Int) ∧ gI M 57 0 = (nJ T : Int) ∧ gI M 58 0 = (nK T : Int) ∧ nT T ≤ 5 ∧ nJ T ≤ 6 ∧ nK T ≤ 12 := ⟨h.1.1, h.1.2.1, h.1.2.2, h.2.2.2.2.2.1.1, h.2.2.2.2.2.1.2.1, h.2.2.2.2.2.1.2.2.1⟩
theorem lz_lt {a b : Int} : lz a b < 0 ↔ a < b := by unfold lz; split <;> (try split) <;> omega
theorem lz_gt {a b : Int} : 0 < lz a b ↔ b < a := by unfold lz; split <;> (try split) <;> omega
section Ref
variable {G : Gt} {d : Nat} {M N : Mem} {T : Tx} {S : Sx}
theorem m_within {a lo hi : Int} (ha : -9223372036854775808 ≤ a ∧ a ≤ 9223372036854775807) (hl : -9223372036854775808 ≤ lo ∧ lo ≤ 9223372036854775807) (hh : -9223372036854775808 ≤ hi ∧ hi ≤ 9223372036854775807) : V G d mX12_within 0 [some (.long (JL a)), none, some (.long (JL lo)), none, some (.long (JL hi)), none] [] M (Ret (some (.int (J (if lo ≤ a ∧ a ≤ hi then 1 else 0)))) M) := by
  have b1 := lz_r a lo
  have b2 := lz_r a hi
  refine v_lload_n (pc := 0) 0 rfl rfl ?_
  refine v_lload_n (pc := 1) 1 rfl rfl ?_
  refine v_lcmp (pc := 2) 2 rfl (lz a lo) (J_lcmp (by omega)) ?_
  refine v_if_lt (pc := 3) 3 17 rfl (by decide) (by omega) (fun e1 => ?_) (fun e1 => ?_)
  · have e1 := lz_lt.mp e1
    rw [if_neg (by omega)]
    refine v_iconst (pc := 17) 10 rfl ?_
    refine v_zret (pc := 18) 11 rfl rfl (by omega) ⟨rfl, rfl⟩
  · have e1 : ¬ a < lo := fun q => e1 (lz_lt.mpr q)
    refine v_lload_n (pc := 6) 4 rfl rfl ?_
    refine v_lload (pc := 7) 5 rfl rfl ?_
    refine v_lcmp (pc := 9) 6 rfl (lz a hi) (J_lcmp (by omega)) ?_
    refine v_if_gt (pc := 10) 7 17 rfl (by decide) (by omega) (fun e2 => ?_) (fun e2 => ?_)
    · have e2 := lz_gt.mp e2
      rw [if_neg (by omega)]
      refine v_iconst (pc := 17) 10 rfl ?_
      refine v_zret (pc := 18) 11 rfl rfl (by omega) ⟨rfl, rfl⟩
    · have e2 : ¬ hi < a := fun q => e2 (lz_gt.mpr q)
      rw [if_pos ⟨by omega, by omega⟩]
      refine v_iconst (pc := 13) 8 rfl ?_
      refine v_goto (pc := 14) 9 18 rfl (by decide) ?_
      refine v_zret (pc := 18) 11 rfl rfl (by omega) ⟨rfl, rfl⟩
theorem m_isTown (h : RI M T S) {t : Int} (ht : -2147483648 ≤ t ∧ t ≤ 2147483647) : V G (d + 1) mX12_isTown 0 [some (.ref 54), some (.int (J t))] [] M (Ret (some (.int (J (if 0 ≤ t ∧ t ≤ (nT T : Int) - 1 then 1 else 0)))) M) := by
  have hn := h.n
  refine v_iload_n (pc := 0) 0 rfl rfl ?_
  refine v_i2l (pc := 1) 1 rfl (by omega) ?_
  refine v_lconst (pc := 2) 2 rfl ?_
  refine v_aload_n (pc := 3) 3 rfl rfl ?_
  refine v_getC (pc := 4) 4 rfl fl_X12_13 rfl 56 rfl ?_
  refine v_iconst (pc := 7) 5 rfl ?_
  refine v_ialdN (kk := 0) (pc := 8) 6 rfl rfl (by decide) ?_
  rw [hn.1]
  refine v_iconst (pc := 9) 7 rfl ?_
  refine v_isub (pc := 10) 8 rfl ?_
  refine v_i2l (pc := 11) 9 rfl (by omega) ?_
  refine v_cS3i (pc := 12) 10 rfl cs_X12_135 (Nat.le_of_ble_eq_true rfl) (Nat.le_of_ble_eq_true rfl) (m_within (by omega) (by decide) (by omega)) ?_
  refine v_zret (pc := 15) 11 rfl rfl (by split <;> decide) ⟨rfl, rfl⟩
theorem m_isJudge (h : RI M T S) {t : Int} (ht : -2147483648 ≤ t ∧ t ≤ 2147483647) : V G (d + 1) mX12_isJudge 0 [some (.ref 54), some (.int (J t))] [] M (Ret (some (.int (J (if 0 ≤ t ∧ t ≤ (nJ T : Int) - 1 then 1 else 0)))) M) := by
  have hn := h.n
  refine v_iload_n (pc := 0) 0 rfl rfl ?_
  refine v_i2l (pc := 1) 1 rfl (by omega) ?_
  refine v_lconst (pc := 2) 2 rfl ?_
  refine v_aload_n (pc := 3) 3 rfl rfl ?_
  refine v_getC (pc := 4) 4 rfl fl_X12_17 rfl 57 rfl ?_
  refine v_iconst (pc := 7) 5 rfl ?_
  refine v_ialdN (kk := 0) (pc := 8) 6 rfl rfl (by decide) ?_
  rw [hn.2.1]
  refine v_iconst (pc := 9) 7 rfl ?_
  refine v_isub (pc := 10) 8 rfl ?_
  refine v_i2l (pc := 11) 9 rfl (by omega) ?_
  refine v_cS3i (pc := 12) 10 rfl cs_X12_135 (Nat.le_of_ble_eq_true rfl) (Nat.le_of_ble_eq_true rfl) (m_within (by omega) (by decide) (by omega)) ?_
  refine v_zret (pc := 15) 11 rfl rfl (by split <;> decide) ⟨rfl, rfl⟩
theorem m_isCase (h : RI M T S) {t : Int} (ht : -2147483648 ≤ t ∧ t ≤ 2147483647) : V G (d + 1) mX12_isCase 0 [some (.ref 54), some (.int (J t))] [] M (Ret (some (.int (J (if 0 ≤ t ∧ t ≤ (nK T : Int) - 1 then 1 else 0)))) M) := by
  have hn := h.n
  refine v_iload_n (pc := 0) 0 rfl rfl ?_
  refine v_i2l (pc := 1) 1 rfl (by omega) ?_
  refine v_lconst (pc := 2) 2 rfl ?_
  refine v_aload_n (pc := 3) 3 rfl rfl ?_
  refine v_getC (pc := 4) 4 rfl fl_X12_20 rfl 58 rfl ?_
  refine v_iconst (pc := 7) 5 rfl ?_
  refine v_ialdN (kk := 0) (pc := 8) 6 rfl rfl (by decide) ?_
  rw [hn.2.2.1]
  refine v_iconst (pc := 9) 7 rfl ?_
  refine v_isub (pc := 10) 8 rfl ?_
  refine v_i2l (pc := 11) 9 rfl (by omega) ?_
  refine v_cS3i (pc := 12) 10 rfl cs_X12_135 (Nat.le_of_ble_eq_true rfl) (Nat.le_of_ble_eq_true rfl) (m_within (by omega) (by decide) (by omega)) ?_
  refine v_zret (pc := 15) 11 rfl rfl (by split <;> decide) ⟨rfl, rfl⟩
theorem m_isDay {t : Int} (ht : -2147483648 ≤ t ∧ t ≤ 2147483647) : V G (d + 1) mX12_isDay 0 [some (.int (J t))] [] M (Ret (some (.int (J (if 0 ≤ t ∧ t ≤ 60 then 1 else 0)))) M) := by
  refine v_iload_n (pc := 0) 0 rfl rfl ?_
  refine v_i2l (pc := 1) 1 rfl (by omega) ?_
  refine v_lconst (pc := 2) 2 rfl ?_
  refine v_ldc2J (pc := 3) 3 rfl kcLong_X12_264 (60) (by decide) ?_
  refine v_cS3i (pc := 6) 4 rfl cs_X12_135 (Nat.le_of_ble_eq_true rfl) (Nat.le_of_ble_eq_true rfl) (m_within (by omega) (by decide) (by decide)) ?_
  refine v_zret (pc := 9) 5 rfl rfl (by split <;> decide) ⟨rfl, rfl⟩
theorem m_minutesOn (h : RI M T S) {j t : Int} (hj : -2147483648 ≤ j ∧ j ≤ 2147483647) (ht : -2147483648 ≤ t ∧ t ≤ 2147483647) : V G d mX12_minutesOn 0 [some (.ref 54), some (.int (J j)), some (.int (J t)), none, none] [] M (Ret (some (.int (J (mi T S j t (nK T))))) M) := by
  have hn := h.n
  obtain ⟨-, -, -, h4, h5, hT, hS⟩ := h
  refine v_iconst (pc := 0) 0 rfl ?_
  refine v_istore_n (pc := 1) 1 rfl ⟨Nat.le_of_ble_eq_true rfl, rfl⟩ ?_
  refine v_iconst (pc := 2) 2 rfl ?_
  refine v_istore (pc := 3) 3 rfl ⟨Nat.le_of_ble_eq_true rfl, rfl⟩ ?_
  refine loopN (N := nK T) (fun k => V G d mX12_minutesOn 5 [some (.ref 54), some (.int (J j)), some (.int (J t)), some (.int (J (mi T S j t k))), some (.int (J (k : Int)))] [] M (Ret (some (.int (J (mi T S j t (nK T))))) M)) ?_ ?_
  · refine v_iload (pc := 5) 4 rfl rfl ?_
    refine v_aload_n (pc := 7) 5 rfl rfl ?_
    refine v_getC (pc := 8) 6 rfl fl_X12_20 rfl 58 rfl ?_
    refine v_iconst (pc := 11) 7 rfl ?_
    refine v_ialdN (kk := 0) (pc := 12) 8 rfl rfl (by decide) ?_
    refine v_ic_geT (pc := 13) 9 61 rfl (by decide) (by omega) (by omega) ?_
    refine v_iload_n (pc := 61) 35 rfl rfl ?_
    refine v_iret (pc := 62) 36 rfl rfl ⟨rfl, rfl⟩
  · intro k hk ih
    have e := (h5 k (by omega))
    have el := (h4 k hk).2.2.2.1
    have hb := hS.b hT (k := k) (by omega)
    have hm : mi T S j t (k + 1) = mi T S j t k + (if S.1 k = j ∧ S.2 k = t then le T k else 0) := rfl
    refine v_iload (pc := 5) 4 rfl rfl ?_
    refine v_aload_n (pc := 7) 5 rfl rfl ?_
    refine v_getC (pc := 8) 6 rfl fl_X12_20 rfl 58 rfl ?_
    refine v_iconst (pc := 11) 7 rfl ?_
    refine v_ialdN (kk := 0) (pc := 12) 8 rfl rfl (by decide) ?_
    refine v_ic_geF (pc := 13) 9 61 rfl (by decide) (by omega) (by omega) ?_
    refine v_iload_n (pc := 16) 10 rfl rfl ?_
    refine v_aload_n (pc := 17) 11 rfl rfl ?_
    refine v_getC (pc := 18) 12 rfl fl_X12_63 rfl 72 rfl ?_
    refine v_iload (pc := 21) 13 rfl rfl ?_
    refine v_ialdN (pc := 23) 14 rfl rfl (by omega) ?_
    refine v_iload_n (pc := 24) 15 rfl rfl ?_
    refine v_ic_ne (pc := 25) 16 52 rfl (by decide) (by omega) (fun e1 => ?_) (fun e1 => ?_)
    · rw [hm, if_neg (by omega), Int.add_zero] at ih
      refine v_iconst (pc := 52) 30 rfl ?_
      refine v_iadd (pc := 53) 31 rfl ?_
      refine v_istore_n (pc := 54) 32 rfl ⟨Nat.le_of_ble_eq_true rfl, rfl⟩ ?_
      refine v_iinc (pc := 55) 33 rfl rfl ⟨Nat.le_of_ble_eq_true rfl, rfl⟩ ?_
      refine v_goto (pc := 58) 34 5 rfl (by decide) ?_
      rw [Int.add_zero]
      exact ih
    · refine v_aload_n (pc := 28) 17 rfl rfl ?_
      refine v_getC (pc := 29) 18 rfl fl_X12_63 rfl 72 rfl ?_
      refine v_bipush (pc := 32) 19 rfl (by decide) ?_
      refine v_iload (pc := 34) 20 rfl rfl ?_
      refine v_iadd (pc := 36) 21 rfl ?_
      refine v_ialdE (pc := 37) 22 rfl rfl (12 + k) (by omega) ?_
      refine v_iload_n (pc := 38) 23 rfl rfl ?_
      refine v_ic_ne (pc := 39) 24 52 rfl (by decide) (by omega) (fun e2 => ?_) (fun e2 => ?_)
      · rw [hm, if_neg (by omega), Int.add_zero] at ih
        refine v_iconst (pc := 52) 30 rfl ?_
        refine v_iadd (pc := 53) 31 rfl ?_
        refine v_istore_n (pc := 54) 32 rfl ⟨Nat.le_of_ble_eq_true rfl, rfl⟩ ?_
        refine v_iinc (pc := 55) 33 rfl rfl ⟨Nat.le_of_ble_eq_true rfl, rfl⟩ ?_
        refine v_goto (pc := 58) 34 5 rfl (by decide) ?_
        rw [Int.add_zero]
        exact ih
      · rw [hm, if_pos (by omega)] at ih
        refine v_aload_n (pc := 42) 25 rfl rfl ?_
        refine v_getC (pc := 43) 26 rfl fl_X12_57 rfl 70 rfl ?_
        refine v_iload (pc := 46) 27 rfl rfl ?_
        refine v_ialdN (pc := 48) 28 rfl rfl (by omega) ?_
        refine v_goto (pc := 49) 29 53 rfl (by decide) ?_
        rw [el]
        refine v_iadd (pc := 53) 31 rfl ?_
        refine v_istore_n (pc := 54) 32 rfl ⟨Nat.le_of_ble_eq_true rfl, rfl⟩ ?_
        refine v_iinc (pc := 55) 33 rfl rfl ⟨Nat.le_of_ble_eq_true rfl, rfl⟩ ?_
        refine v_goto (pc := 58) 34 5 rfl (by decide) ?_
        exact ih
theorem RI.way (h : RI M T S) {a b : Int} (ha : 0 ≤ a ∧ a < nT T) (hb : 0 ≤ b ∧ b < nT T) : ∃ i : Nat, 5 * a + b = (i : Int) ∧ i < 25 ∧ gI M 76 i = wy T a b ∧ 0 ≤ wy T a b ∧ wy T a b ≤ 1000 := by
  have hn := h.n
  refine ⟨5 * a.toNat + b.toNat, by omega, by omega, ?_, h.2.2.2.2.2.1.2.2.2.2.2 a b (by omega) (by omega) (by omega) (by omega)⟩
  rw [h.2.1 a.toNat b.toNat (by omega) (by omega)]
  show T.2 1 (a.toNat * 5 + b.toNat) = T.2 1 (a * 5 + b).toNat
  rw [show (a * 5 + b).toNat = a.toNat * 5 + b.toNat by omega]
theorem m_isElse (h : RI M T S) {j t dd : Int} (hj : -2147483648 ≤ j ∧ j ≤ 2147483647) (ht : 0 ≤ t ∧ t < nT T) (hd : 0 ≤ dd ∧ dd ≤ 60) : V G d mX12_isElsewhere 0 [some (.ref 54), some (.int (J j)), some (.int (J t)), some (.int (J dd)), none, none, none] [] M (Ret (some (.int (J (b2i (exB (farB T S j t dd) (nK T)))))) M) := by
  have hn := h.n
  have hI := h
  obtain ⟨-, -, -, h4, h5, hT, hS⟩ := h
  refine v_iconst (pc := 0) 0 rfl ?_
  refine v_istore (pc := 1) 1 rfl ⟨Nat.le_of_ble_eq_true rfl, rfl⟩ ?_
  refine loopN (N := nK T) (fun k => exB (farB T S j t dd) k = false → ∀ u v, V G d mX12_isElsewhere 3 [some (.ref 54), some (.int (J j)), some (.int (J t)), some (.int (J dd)), some (.int (J (k : Int))), u, v] [] M (Ret (some (.int (J (b2i (exB (farB T S j t dd) (nK T)))))) M)) ?_ ?_ rfl none none
  · intro hx u v
    rw [hx]
    refine v_iload (pc := 3) 2 rfl rfl ?_
    refine v_aload_n (pc := 5) 3 rfl rfl ?_
    refine v_getC (pc := 6) 4 rfl fl_X12_20 rfl 58 rfl ?_
    refine v_iconst (pc := 9) 5 rfl ?_
    refine v_ialdN (kk := 0) (pc := 10) 6 rfl rfl (by decide) ?_
    refine v_ic_geT (pc := 11) 7 125 rfl (by decide) (by omega) (by omega) ?_
    refine v_iconst (pc := 125) 71 rfl ?_
    refine v_zret (pc := 126) 72 rfl rfl (by decide) ⟨rfl, rfl⟩
  · intro k hk ih hx u v
    have e := (h5 k (by omega))
    have et := (h4 k hk).1
    have hb := hS.b hT (k := k) (by omega)
    have htw := (hT.2.2.2.2.1 k hk).1
    obtain ⟨i, hi, hi2, hw, hw2⟩ := hI.way htw ht
    have no : farB T S j t dd k = false → V G d mX12_isElsewhere 119 [some (.ref 54), some (.int (J j)), some (.int (J t)), some (.int (J dd)), some (.int (J (k : Int))), u, v] [] M (Ret (some (.int (J (b2i (exB (farB T S j t dd) (nK T)))))) M) := by
      intro hf
      refine v_iinc (pc := 119) 69 rfl rfl ⟨Nat.le_of_ble_eq_true rfl, rfl⟩ ?_
      refine v_goto (pc := 122) 70 3 rfl (by decide) ?_
      exact ih (exB_succ hx hf) u v
    refine v_iload (pc := 3) 2 rfl rfl ?_
    refine v_aload_n (pc := 5) 3 rfl rfl ?_
    refine v_getC (pc := 6) 4 rfl fl_X12_20 rfl 58 rfl ?_
    refine v_iconst (pc := 9) 5 rfl ?_
    refine v_ialdN (kk := 0) (pc := 10) 6 rfl rfl (by decide) ?_
    refine v_ic_geF (pc := 11) 7 125 rfl (by decide) (by omega) (by omega) ?_
    refine v_aload_n (pc := 14) 8 rfl rfl ?_
    refine v_getC (pc := 15) 9 rfl fl_X12_63 rfl 72 rfl ?_
    refine v_iload (pc := 18) 10 rfl rfl ?_
    refine v_ialdN (pc := 20) 11 rfl rfl (by omega) ?_
    refine v_iload_n (pc := 21) 12 rfl rfl ?_
    refine v_ic_ne (pc := 22) 13 119 rfl (by decide) (by omega) (fun e1 => ?_) (fun e1 => ?_)
    · exact no (decide_eq_false (by omega))
    · refine v_aload_n (pc := 25) 14 rfl rfl ?_
      refine v_getC (pc := 26) 15 rfl fl_X12_48 rfl 67 rfl ?_
      refine v_iload (pc := 29) 16 rfl rfl ?_
      refine v_ialdN (pc := 31) 17 rfl rfl (by omega) ?_
      refine v_iload_n (pc := 32) 18 rfl rfl ?_
      refine v_ic_ne (pc := 33) 19 39 rfl (by decide) (by omega) (fun e2 => ?_) (fun e2 => ?_)
      · have tl : ∀ ap : Int, (ap = dd - S.2 k ∨ ap = S.2 k - dd) → 0 ≤ ap → V G d mX12_isElsewhere 80 [some (.ref 54), some (.int (J j)), some (.int (J t)), some (.int (J dd)), some (.int (J (k : Int))), u, v] [.int (J ap)] M (Ret (some (.int (J (b2i (exB (farB T S j t dd) (nK T)))))) M) := by
          intro ap hap hap0
          have no2 : farB T S j t dd k = false → ∀ u v, V G d mX12_isElsewhere 119 [some (.ref 54), some (.int (J j)), some (.int (J t)), some (.int (J dd)), some (.int (J (k : Int))), u, v] [] M (Ret (some (.int (J (b2i (exB (farB T S j t dd) (nK T)))))) M) := by
            intro hf u v
            refine v_iinc (pc := 119) 69 rfl rfl ⟨Nat.le_of_ble_eq_true rfl, rfl⟩ ?_
            refine v_goto (pc := 122) 70 3 rfl (by decide) ?_
            exact ih (exB_succ hx hf) u v
          have yes : farB T S j t dd k = true → ∀ u v, V G d mX12_isElsewhere 117 [some (.ref 54), some (.int (J j)), some (.int (J t)), some (.int (J dd)), some (.int (J (k : Int))), u, v] [] M (Ret (some (.int (J (b2i (exB (farB T S j t dd) (nK T)))))) M) := by
            intro hf u v
            rw [exB_true hk hf]
            refine v_iconst (pc := 117) 67 rfl ?_
            refine v_zret (pc := 118) 68 rfl rfl (by decide) ⟨rfl, rfl⟩
          refine v_istore (pc := 80) 46 rfl ⟨Nat.le_of_ble_eq_true rfl, rfl⟩ ?_
          refine v_aload_n (pc := 82) 47 rfl rfl ?_
          refine v_getC (pc := 83) 48 rfl fl_X12_76 rfl 76 rfl ?_
          refine v_iconst (pc := 86) 49 rfl ?_
          refine v_aload_n (pc := 87) 50 rfl rfl ?_
          refine v_getC (pc := 88) 51 rfl fl_X12_48 rfl 67 rfl ?_
          refine v_iload (pc := 91) 52 rfl rfl ?_
          refine v_ialdN (pc := 93) 53 rfl rfl (by omega) ?_
          rw [et]
          refine v_imul (pc := 94) 54 rfl ?_
          refine v_iload_n (pc := 95) 55 rfl rfl ?_
          refine v_iadd (pc := 96) 56 rfl ?_
          refine v_ialdE (pc := 97) 57 rfl rfl i (by omega) ?_
          rw [hw]
          refine v_istore (pc := 98) 58 rfl ⟨Nat.le_of_ble_eq_true rfl, rfl⟩ ?_
          refine v_iload (pc := 100) 59 rfl rfl ?_
          refine v_sipush (pc := 102) 60 rfl (by decide) ?_
          refine v_ic_ge (pc := 105) 61 117 rfl (by decide) (by omega) (fun e3 => ?_) (fun e3 => ?_)
          · exact yes (decide_eq_true (by omega)) _ _
          · refine v_iload (pc := 108) 62 rfl rfl ?_
            refine v_iconst (pc := 110) 63 rfl ?_
            refine v_iload (pc := 111) 64 rfl rfl ?_
            refine v_iadd (pc := 113) 65 rfl ?_
            refine v_ic_ge (pc := 114) 66 119 rfl (by decide) (by omega) (fun e4 => ?_) (fun e4 => ?_)
            · exact no2 (decide_eq_false (by omega)) _ _
            · exact yes (decide_eq_true (by omega)) _ _
        refine v_aload_n (pc := 39) 21 rfl rfl ?_
        refine v_getC (pc := 40) 22 rfl fl_X12_63 rfl 72 rfl ?_
        refine v_bipush (pc := 43) 23 rfl (by decide) ?_
        refine v_iload (pc := 45) 24 rfl rfl ?_
        refine v_iadd (pc := 47) 25 rfl ?_
        refine v_ialdE (pc := 48) 26 rfl rfl (12 + k) (by omega) ?_
        refine v_iload_n (pc := 49) 27 rfl rfl ?_
        refine v_ic_ge (pc := 50) 28 68 rfl (by decide) (by omega) (fun e3 => ?_) (fun e3 => ?_)
        · refine v_aload_n (pc := 68) 38 rfl rfl ?_
          refine v_getC (pc := 69) 39 rfl fl_X12_63 rfl 72 rfl ?_
          refine v_bipush (pc := 72) 40 rfl (by decide) ?_
          refine v_iload (pc := 74) 41 rfl rfl ?_
          refine v_iadd (pc := 76) 42 rfl ?_
          refine v_ialdE (pc := 77) 43 rfl rfl (12 + k) (by omega) ?_
          refine v_iload_n (pc := 78) 44 rfl rfl ?_
          refine v_isub (pc := 79) 45 rfl ?_
          rw [e.2]
          exact tl _ (Or.inr rfl) (by omega)
        · refine v_iload_n (pc := 53) 29 rfl rfl ?_
          refine v_aload_n (pc := 54) 30 rfl rfl ?_
          refine v_getC (pc := 55) 31 rfl fl_X12_63 rfl 72 rfl ?_
          refine v_bipush (pc := 58) 32 rfl (by decide) ?_
          refine v_iload (pc := 60) 33 rfl rfl ?_
          refine v_iadd (pc := 62) 34 rfl ?_
          refine v_ialdE (pc := 63) 35 rfl rfl (12 + k) (by omega) ?_
          refine v_isub (pc := 64) 36 rfl ?_
          refine v_goto (pc := 65) 37 80 rfl (by decide) ?_
          rw [e.2]
          exact tl _ (Or.inl rfl) (by omega)
      · refine v_goto (pc := 36) 20 119 rfl (by decide) ?_
        exact no (decide_eq_false (by omega))
end Ref
