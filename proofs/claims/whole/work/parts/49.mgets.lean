/-! 49: the reference: owed -/
section MGets
variable {G : Gt} {d : Nat} {M N : Mem} {A : Ax}
theorem th_g (M : Mem) (v : Int) : gI (sI M 54 0 v) 54 0 = v := by rw [gI_sI, if_pos rfl, if_pos rfl]
theorem m_owed (h : MR M A) {t : Int} (ht : -2147483648 ≤ t ∧ t ≤ 2147483647) (hq : owOk A t) : V G (d + 2) mX12_owed 0 [some (.ref 54), some (.int (J t))] [] M (Ret (some (.int (J (sOw A t)))) (sI M 54 0 0)) := by
  have hI := h.1
  have hI2 := h.t
  have hn := hI.n
  unfold owOk at hq
  obtain ⟨t1, rfl⟩ : ∃ t1 : Nat, t = (t1 : Int) := ⟨t.toNat, by omega⟩
  have e := th_g M 0
  unfold sOw
  rw [Int.toNat_natCast]
  refine v_aload_n (pc := 0) 0 rfl rfl ?_
  refine v_aload_n (pc := 1) 1 rfl rfl ?_
  refine v_iload_n (pc := 2) 2 rfl rfl ?_
  refine v_cV1i (pc := 3) 3 rfl cv_X12_266 rfl (Nat.le_of_ble_eq_true rfl) (Nat.le_of_ble_eq_true rfl) (m_isTown hI ht) ?_
  refine v_if_eqF (pc := 6) 4 13 rfl (by decide) (by omega) (by rw [if_pos (by omega)]; decide) ?_
  refine v_iconst (pc := 9) 5 rfl ?_
  refine v_goto (pc := 10) 6 14 rfl (by decide) ?_
  refine v_putI (pc := 14) 8 rfl fl_X12_97 rfl ?_
  refine v_aload_n (pc := 17) 9 rfl rfl ?_
  refine v_getI (pc := 18) 10 rfl fl_X12_97 rfl ?_
  refine v_iconst (pc := 21) 11 rfl ?_
  refine v_ic_neT (pc := 22) 12 29 rfl (by decide) (by omega) (by omega) ?_
  refine v_aload_n (pc := 29) 15 rfl rfl ?_
  refine v_iload_n (pc := 30) 16 rfl rfl ?_
  refine v_cV1i (pc := 31) 17 rfl cv_X12_360 rfl (Nat.le_of_ble_eq_true rfl) (Nat.le_of_ble_eq_true rfl) (m_owedBy hI2 (by omega)) ?_
  refine v_iret (pc := 34) 18 rfl rfl ⟨rfl, rfl⟩
theorem m_owedN (h : MR M A) {t : Int} (ht : -2147483648 ≤ t ∧ t ≤ 2147483647) (hq : ¬ owOk A t) : V G (d + 2) mX12_owed 0 [some (.ref 54), some (.int (J t))] [] M (Ret (some (.int (J 0))) (sI M 54 0 1)) := by
  have hI := h.1
  have hn := hI.n
  unfold owOk at hq
  have e := th_g M 1
  refine v_aload_n (pc := 0) 0 rfl rfl ?_
  refine v_aload_n (pc := 1) 1 rfl rfl ?_
  refine v_iload_n (pc := 2) 2 rfl rfl ?_
  refine v_cV1i (pc := 3) 3 rfl cv_X12_266 rfl (Nat.le_of_ble_eq_true rfl) (Nat.le_of_ble_eq_true rfl) (m_isTown hI ht) ?_
  refine v_if_eqT (pc := 6) 4 13 rfl (by decide) (by omega) (by rw [if_neg (by omega)]) ?_
  refine v_iconst (pc := 13) 7 rfl ?_
  refine v_putI (pc := 14) 8 rfl fl_X12_97 rfl ?_
  refine v_aload_n (pc := 17) 9 rfl rfl ?_
  refine v_getI (pc := 18) 10 rfl fl_X12_97 rfl ?_
  refine v_iconst (pc := 21) 11 rfl ?_
  refine v_ic_neF (pc := 22) 12 29 rfl (by decide) (by omega) (by omega) ?_
  refine v_iconst (pc := 25) 13 rfl ?_
  refine v_goto (pc := 26) 14 34 rfl (by decide) ?_
  refine v_iret (pc := 34) 18 rfl rfl ⟨rfl, rfl⟩
end MGets
