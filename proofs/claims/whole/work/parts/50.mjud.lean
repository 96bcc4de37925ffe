/-! 50: the reference: judge, file -/
section MJud
variable {G : Gt} {d : Nat} {M N : Mem} {A : Ax}
theorem m_judge (h : MR M A) {j w : Int} (hj : -2147483648 ≤ j ∧ j ≤ 2147483647) (hw : -2147483648 ≤ w ∧ w ≤ 2147483647) (hq : judOk A j w) : V G (d + 2) mX12_judge 0 [some (.ref 54), some (.int (J j)), some (.int (J w))] [] M (Ret (some (.int (J (sJud A j w)))) (sI M 54 0 0)) := by
  have hI := h.1
  have hI2 := h.t
  have hn := hI.n
  unfold judOk at hq
  obtain ⟨j1, rfl⟩ : ∃ j1 : Nat, j = (j1 : Int) := ⟨j.toNat, by omega⟩
  have e := th_g M 0
  have ej := hI2.2.2.1 j1 (by omega)
  unfold sJud
  rw [Int.toNat_natCast]
  refine v_aload_n (pc := 0) 0 rfl rfl ?_
  refine v_aload_n (pc := 1) 1 rfl rfl ?_
  refine v_iload_n (pc := 2) 2 rfl rfl ?_
  refine v_cV1i (pc := 3) 3 rfl cv_X12_270 rfl (Nat.le_of_ble_eq_true rfl) (Nat.le_of_ble_eq_true rfl) (m_isJudge hI hj) ?_
  refine v_if_eqF (pc := 6) 4 25 rfl (by decide) (by omega) (by rw [if_pos (by omega)]; decide) ?_
  refine v_iload_n (pc := 9) 5 rfl rfl ?_
  refine v_i2l (pc := 10) 6 rfl (by omega) ?_
  refine v_lconst (pc := 11) 7 rfl ?_
  refine v_ldc2J (pc := 12) 8 rfl kcLong_X12_273 (3) (by decide) ?_
  refine v_cS3i (pc := 15) 9 rfl cs_X12_135 (Nat.le_of_ble_eq_true rfl) (Nat.le_of_ble_eq_true rfl) (m_within (by omega) (by decide) (by decide)) ?_
  refine v_if_eqF (pc := 18) 10 25 rfl (by decide) (by omega) (by rw [if_pos (by omega)]; decide) ?_
  refine v_iconst (pc := 21) 11 rfl ?_
  refine v_goto (pc := 22) 12 26 rfl (by decide) ?_
  refine v_putI (pc := 26) 14 rfl fl_X12_97 rfl ?_
  refine v_aload_n (pc := 29) 15 rfl rfl ?_
  refine v_getI (pc := 30) 16 rfl fl_X12_97 rfl ?_
  refine v_iconst (pc := 33) 17 rfl ?_
  refine v_ic_neT (pc := 34) 18 39 rfl (by decide) (by omega) (by omega) ?_
  refine v_iload_n (pc := 39) 21 rfl rfl ?_
  refine v_if_ne (pc := 40) 22 52 rfl (by decide) (by omega) (fun e1 => ?_) (fun e1 => ?_)
  · rw [if_neg e1]
    refine v_iload_n (pc := 52) 28 rfl rfl ?_
    refine v_iconst (pc := 53) 29 rfl ?_
    refine v_ic_ne (pc := 54) 30 66 rfl (by decide) (by omega) (fun e2 => ?_) (fun e2 => ?_)
    · rw [if_neg e2]
      refine v_iload_n (pc := 66) 36 rfl rfl ?_
      refine v_iconst (pc := 67) 37 rfl ?_
      refine v_ic_ne (pc := 68) 38 80 rfl (by decide) (by omega) (fun e3 => ?_) (fun e3 => ?_)
      · rw [if_neg e3]
        refine v_aload_n (pc := 80) 44 rfl rfl ?_
        refine v_getC (pc := 81) 45 rfl fl_X12_45 rfl 66 rfl ?_
        refine v_iload_n (pc := 84) 46 rfl rfl ?_
        refine v_ialdN (pc := 85) 47 rfl rfl (by omega) ?_
        rw [ej.2.2.2]
        refine v_iret (pc := 86) 48 rfl rfl ⟨rfl, rfl⟩
      · rw [if_pos (Decidable.not_not.mp e3)]
        refine v_aload_n (pc := 71) 39 rfl rfl ?_
        refine v_getC (pc := 72) 40 rfl fl_X12_42 rfl 65 rfl ?_
        refine v_iload_n (pc := 75) 41 rfl rfl ?_
        refine v_ialdN (pc := 76) 42 rfl rfl (by omega) ?_
        rw [ej.2.2.1]
        refine v_goto (pc := 77) 43 86 rfl (by decide) ?_
        refine v_iret (pc := 86) 48 rfl rfl ⟨rfl, rfl⟩
    · rw [if_pos (Decidable.not_not.mp e2)]
      refine v_aload_n (pc := 57) 31 rfl rfl ?_
      refine v_getC (pc := 58) 32 rfl fl_X12_39 rfl 64 rfl ?_
      refine v_iload_n (pc := 61) 33 rfl rfl ?_
      refine v_ialdN (pc := 62) 34 rfl rfl (by omega) ?_
      rw [ej.2.1]
      refine v_goto (pc := 63) 35 86 rfl (by decide) ?_
      refine v_iret (pc := 86) 48 rfl rfl ⟨rfl, rfl⟩
  · rw [if_pos (Decidable.not_not.mp e1)]
    refine v_aload_n (pc := 43) 23 rfl rfl ?_
    refine v_getC (pc := 44) 24 rfl fl_X12_36 rfl 63 rfl ?_
    refine v_iload_n (pc := 47) 25 rfl rfl ?_
    refine v_ialdN (pc := 48) 26 rfl rfl (by omega) ?_
    rw [ej.1]
    refine v_goto (pc := 49) 27 86 rfl (by decide) ?_
    refine v_iret (pc := 86) 48 rfl rfl ⟨rfl, rfl⟩
theorem m_judgeN (h : MR M A) {j w : Int} (hj : -2147483648 ≤ j ∧ j ≤ 2147483647) (hw : -2147483648 ≤ w ∧ w ≤ 2147483647) (hq : ¬ judOk A j w) : V G (d + 2) mX12_judge 0 [some (.ref 54), some (.int (J j)), some (.int (J w))] [] M (Ret (some (.int (J 0))) (sI M 54 0 1)) := by
  have hI := h.1
  have hn := hI.n
  unfold judOk at hq
  have e := th_g M 1
  refine v_aload_n (pc := 0) 0 rfl rfl ?_
  refine v_aload_n (pc := 1) 1 rfl rfl ?_
  refine v_iload_n (pc := 2) 2 rfl rfl ?_
  refine v_cV1i (pc := 3) 3 rfl cv_X12_270 rfl (Nat.le_of_ble_eq_true rfl) (Nat.le_of_ble_eq_true rfl) (m_isJudge hI hj) ?_
  refine v_if_eq (pc := 6) 4 25 rfl (by decide) (by omega) (fun e1 => ?_) (fun e1 => ?_)
  · refine v_iconst (pc := 25) 13 rfl ?_
    refine v_putI (pc := 26) 14 rfl fl_X12_97 rfl ?_
    refine v_aload_n (pc := 29) 15 rfl rfl ?_
    refine v_getI (pc := 30) 16 rfl fl_X12_97 rfl ?_
    refine v_iconst (pc := 33) 17 rfl ?_
    refine v_ic_neF (pc := 34) 18 39 rfl (by decide) (by omega) (by omega) ?_
    refine v_iconst (pc := 37) 19 rfl ?_
    refine v_iret (pc := 38) 20 rfl rfl ⟨rfl, rfl⟩
  · refine v_iload_n (pc := 9) 5 rfl rfl ?_
    refine v_i2l (pc := 10) 6 rfl (by omega) ?_
    refine v_lconst (pc := 11) 7 rfl ?_
    refine v_ldc2J (pc := 12) 8 rfl kcLong_X12_273 (3) (by decide) ?_
    refine v_cS3i (pc := 15) 9 rfl cs_X12_135 (Nat.le_of_ble_eq_true rfl) (Nat.le_of_ble_eq_true rfl) (m_within (by omega) (by decide) (by decide)) ?_
    refine v_if_eqT (pc := 18) 10 25 rfl (by decide) (by omega) (by rw [if_neg (by omega)]) ?_
    refine v_iconst (pc := 25) 13 rfl ?_
    refine v_putI (pc := 26) 14 rfl fl_X12_97 rfl ?_
    refine v_aload_n (pc := 29) 15 rfl rfl ?_
    refine v_getI (pc := 30) 16 rfl fl_X12_97 rfl ?_
    refine v_iconst (pc := 33) 17 rfl ?_
    refine v_ic_neF (pc := 34) 18 39 rfl (by decide) (by omega) (by omega) ?_
    refine v_iconst (pc := 37) 19 rfl ?_
    refine v_iret (pc := 38) 20 rfl rfl ⟨rfl, rfl⟩
theorem m_file (h : MR M A) {k w : Int} (hk : -2147483648 ≤ k ∧ k ≤ 2147483647) (hw : -2147483648 ≤ w ∧ w ≤ 2147483647) (hq : filOk A k w) : V G (d + 2) mX12_file 0 [some (.ref 54), some (.int (J k)), some (.int (J w))] [] M (Ret (some (.int (J (sFil A k w)))) (sI M 54 0 0)) := by
  have hI := h.1
  have hI2 := h.t
  have hn := hI.n
  unfold filOk at hq
  obtain ⟨k1, rfl⟩ : ∃ k1 : Nat, k = (k1 : Int) := ⟨k.toNat, by omega⟩
  have e := th_g M 0
  have ek := hI2.2.2.2.1 k1 (by omega)
  have es := hI2.2.2.2.2.1 k1 (by omega)
  unfold sFil
  rw [Int.toNat_natCast]
  refine v_aload_n (pc := 0) 0 rfl rfl ?_
  refine v_aload_n (pc := 1) 1 rfl rfl ?_
  refine v_iload_n (pc := 2) 2 rfl rfl ?_
  refine v_cV1i (pc := 3) 3 rfl cv_X12_275 rfl (Nat.le_of_ble_eq_true rfl) (Nat.le_of_ble_eq_true rfl) (m_isCase hI hk) ?_
  refine v_if_eqF (pc := 6) 4 25 rfl (by decide) (by omega) (by rw [if_pos (by omega)]; decide) ?_
  refine v_iload_n (pc := 9) 5 rfl rfl ?_
  refine v_i2l (pc := 10) 6 rfl (by omega) ?_
  refine v_lconst (pc := 11) 7 rfl ?_
  refine v_ldc2J (pc := 12) 8 rfl kcLong_X12_278 (6) (by decide) ?_
  refine v_cS3i (pc := 15) 9 rfl cs_X12_135 (Nat.le_of_ble_eq_true rfl) (Nat.le_of_ble_eq_true rfl) (m_within (by omega) (by decide) (by decide)) ?_
  refine v_if_eqF (pc := 18) 10 25 rfl (by decide) (by omega) (by rw [if_pos (by omega)]; decide) ?_
  refine v_iconst (pc := 21) 11 rfl ?_
  refine v_goto (pc := 22) 12 26 rfl (by decide) ?_
  refine v_putI (pc := 26) 14 rfl fl_X12_97 rfl ?_
  refine v_aload_n (pc := 29) 15 rfl rfl ?_
  refine v_getI (pc := 30) 16 rfl fl_X12_97 rfl ?_
  refine v_iconst (pc := 33) 17 rfl ?_
  refine v_ic_neT (pc := 34) 18 39 rfl (by decide) (by omega) (by omega) ?_
  rcases (by omega : w = 0 ∨ w = 1 ∨ w = 2 ∨ w = 3 ∨ w = 4 ∨ w = 5 ∨ w = 6) with rfl | rfl | rfl | rfl | rfl | rfl | rfl
  · refine v_iload_n (pc := 39) 21 rfl rfl ?_
    refine v_tswIn (pc := 40) 22 80 rfl (by decide) rfl (by decide) ?_
    refine v_aload_n (pc := 80) 23 rfl rfl ?_
    refine v_getC (pc := 81) 24 rfl fl_X12_48 rfl 67 rfl ?_
    refine v_iload_n (pc := 84) 25 rfl rfl ?_
    refine v_ialdN (pc := 85) 26 rfl rfl (by omega) ?_
    rw [ek.1]
    refine v_iret (pc := 86) 27 rfl rfl ⟨rfl, rfl⟩
  · refine v_iload_n (pc := 39) 21 rfl rfl ?_
    refine v_tswIn (pc := 40) 22 87 rfl (by decide) rfl (by decide) ?_
    refine v_aload_n (pc := 87) 28 rfl rfl ?_
    refine v_getC (pc := 88) 29 rfl fl_X12_51 rfl 68 rfl ?_
    refine v_iload_n (pc := 91) 30 rfl rfl ?_
    refine v_ialdN (pc := 92) 31 rfl rfl (by omega) ?_
    rw [ek.2.1]
    refine v_iret (pc := 93) 32 rfl rfl ⟨rfl, rfl⟩
  · refine v_iload_n (pc := 39) 21 rfl rfl ?_
    refine v_tswIn (pc := 40) 22 94 rfl (by decide) rfl (by decide) ?_
    refine v_aload_n (pc := 94) 33 rfl rfl ?_
    refine v_getC (pc := 95) 34 rfl fl_X12_54 rfl 69 rfl ?_
    refine v_iload_n (pc := 98) 35 rfl rfl ?_
    refine v_ialdN (pc := 99) 36 rfl rfl (by omega) ?_
    rw [ek.2.2.1]
    refine v_iret (pc := 100) 37 rfl rfl ⟨rfl, rfl⟩
  · refine v_iload_n (pc := 39) 21 rfl rfl ?_
    refine v_tswIn (pc := 40) 22 101 rfl (by decide) rfl (by decide) ?_
    refine v_aload_n (pc := 101) 38 rfl rfl ?_
    refine v_getC (pc := 102) 39 rfl fl_X12_57 rfl 70 rfl ?_
    refine v_iload_n (pc := 105) 40 rfl rfl ?_
    refine v_ialdN (pc := 106) 41 rfl rfl (by omega) ?_
    rw [ek.2.2.2.1]
    refine v_iret (pc := 107) 42 rfl rfl ⟨rfl, rfl⟩
  · refine v_iload_n (pc := 39) 21 rfl rfl ?_
    refine v_tswIn (pc := 40) 22 108 rfl (by decide) rfl (by decide) ?_
    refine v_aload_n (pc := 108) 43 rfl rfl ?_
    refine v_getC (pc := 109) 44 rfl fl_X12_60 rfl 71 rfl ?_
    refine v_iload_n (pc := 112) 45 rfl rfl ?_
    refine v_ialdN (pc := 113) 46 rfl rfl (by omega) ?_
    rw [ek.2.2.2.2]
    refine v_iret (pc := 114) 47 rfl rfl ⟨rfl, rfl⟩
  · refine v_iload_n (pc := 39) 21 rfl rfl ?_
    refine v_tswIn (pc := 40) 22 115 rfl (by decide) rfl (by decide) ?_
    refine v_aload_n (pc := 115) 48 rfl rfl ?_
    refine v_getC (pc := 116) 49 rfl fl_X12_63 rfl 72 rfl ?_
    refine v_iload_n (pc := 119) 50 rfl rfl ?_
    refine v_ialdN (pc := 120) 51 rfl rfl (by omega) ?_
    rw [es.1]
    refine v_iret (pc := 121) 52 rfl rfl ⟨rfl, rfl⟩
  · refine v_iload_n (pc := 39) 21 rfl rfl ?_
    refine v_tswOut (pc := 40) 22 122 rfl ⟨by decide, by decide⟩ (by decide) ?_
    refine v_aload_n (pc := 122) 53 rfl rfl ?_
    refine v_getC (pc := 123) 54 rfl fl_X12_63 rfl 72 rfl ?_
    refine v_bipush (pc := 126) 55 rfl (by decide) ?_
    refine v_iload_n (pc := 128) 56 rfl rfl ?_
    refine v_iadd (pc := 129) 57 rfl ?_
    refine v_ialdE (pc := 130) 58 rfl rfl (12 + k1) (by omega) ?_
    rw [es.2]
    refine v_iret (pc := 131) 59 rfl rfl ⟨rfl, rfl⟩
theorem m_fileN (h : MR M A) {k w : Int} (hk : -2147483648 ≤ k ∧ k ≤ 2147483647) (hw : -2147483648 ≤ w ∧ w ≤ 2147483647) (hq : ¬ filOk A k w) : V G (d + 2) mX12_file 0 [some (.ref 54), some (.int (J k)), some (.int (J w))] [] M (Ret (some (.int (J 0))) (sI M 54 0 1)) := by
  have hI := h.1
  have hn := hI.n
  unfold filOk at hq
  have e := th_g M 1
  refine v_aload_n (pc := 0) 0 rfl rfl ?_
  refine v_aload_n (pc := 1) 1 rfl rfl ?_
  refine v_iload_n (pc := 2) 2 rfl rfl ?_
  refine v_cV1i (pc := 3) 3 rfl cv_X12_275 rfl (Nat.le_of_ble_eq_true rfl) (Nat.le_of_ble_eq_true rfl) (m_isCase hI hk) ?_
  refine v_if_eq (pc := 6) 4 25 rfl (by decide) (by omega) (fun e1 => ?_) (fun e1 => ?_)
  · refine v_iconst (pc := 25) 13 rfl ?_
    refine v_putI (pc := 26) 14 rfl fl_X12_97 rfl ?_
    refine v_aload_n (pc := 29) 15 rfl rfl ?_
    refine v_getI (pc := 30) 16 rfl fl_X12_97 rfl ?_
    refine v_iconst (pc := 33) 17 rfl ?_
    refine v_ic_neF (pc := 34) 18 39 rfl (by decide) (by omega) (by omega) ?_
    refine v_iconst (pc := 37) 19 rfl ?_
    refine v_iret (pc := 38) 20 rfl rfl ⟨rfl, rfl⟩
  · refine v_iload_n (pc := 9) 5 rfl rfl ?_
    refine v_i2l (pc := 10) 6 rfl (by omega) ?_
    refine v_lconst (pc := 11) 7 rfl ?_
    refine v_ldc2J (pc := 12) 8 rfl kcLong_X12_278 (6) (by decide) ?_
    refine v_cS3i (pc := 15) 9 rfl cs_X12_135 (Nat.le_of_ble_eq_true rfl) (Nat.le_of_ble_eq_true rfl) (m_within (by omega) (by decide) (by decide)) ?_
    refine v_if_eqT (pc := 18) 10 25 rfl (by decide) (by omega) (by rw [if_neg (by omega)]) ?_
    refine v_iconst (pc := 25) 13 rfl ?_
    refine v_putI (pc := 26) 14 rfl fl_X12_97 rfl ?_
    refine v_aload_n (pc := 29) 15 rfl rfl ?_
    refine v_getI (pc := 30) 16 rfl fl_X12_97 rfl ?_
    refine v_iconst (pc := 33) 17 rfl ?_
    refine v_ic_neF (pc := 34) 18 39 rfl (by decide) (by omega) (by omega) ?_
    refine v_iconst (pc := 37) 19 rfl ?_
    refine v_iret (pc := 38) 20 rfl rfl ⟨rfl, rfl⟩
end MJud
