/-! 47: the reference: set, clear -/
theorem MR.ms {M : Mem} {A : Ax} (h : MR M A) {k : Nat} {j t : Int} (hk : k < 12) (h2 : SOk (aT A) (setS (aS A) k j (if j = -1 then -1 else t))) : MR (msM M k j t) (A.1, aT A, setS (aS A) k j (if j = -1 then -1 else t), aU A, aK A) := by
  obtain ⟨h1, h2', h3, h4, h5, h6⟩ := h
  refine ⟨h1.ms hk h2, ?_, ?_, ?_, ?_, ⟨h6.1, ⟨h2, h6.2.1.2.set hk _ _⟩, h6.2.2⟩⟩
  · rw [ms_ne (by decide), ms_ne (by decide)]; exact h2'
  · rw [ms_ne (by decide), ms_ne (by decide)]; exact h3
  · rw [ms_ne (by decide), ms_ne (by decide)]; exact h4
  · rw [ms_ne (by decide)]; exact h5
theorem ms_mf (M : Mem) (k : Nat) (j t : Int) : MF M (msM M k j t) := ⟨fun q hq => ⟨ms_ne (by omega), rfl⟩, rfl⟩
section MSet
variable {G : Gt} {d : Nat} {M N : Mem} {A : Ax}
theorem m_set (h : MR M A) {k j t : Int} (hk : -2147483648 ≤ k ∧ k ≤ 2147483647) (hj : -2147483648 ≤ j ∧ j ≤ 2147483647) (ht : -2147483648 ≤ t ∧ t ≤ 2147483647) : V G (d + 2) mX12_set 0 [some (.ref 54), some (.int (J k)), some (.int (J j)), some (.int (J t))] [] M (fun r N => r = some (.int (J (sSet A k j t).1)) ∧ MR N (sSet A k j t).2 ∧ MF M N) := by
  have hI := h.t
  have hn := hI.n
  have h0 := h.fld (f := 0) 0 (by decide)
  have no : sWhy A k j t ≠ 0 → V G (d + 2) mX12_set 38 [some (.ref 54), some (.int (J k)), some (.int (J j)), some (.int (J t))] [] (sI M 54 0 0) (fun r N => r = some (.int (J (sSet A k j t).1)) ∧ MR N (sSet A k j t).2 ∧ MF M N) := by
    intro hw
    unfold sSet
    rw [if_neg hw]
    refine v_iconst (pc := 38) 20 rfl ?_
    refine v_zret (pc := 39) 21 rfl rfl (by decide) ⟨rfl, h0, mf_fld _ _ _⟩
  have bad : ¬ ((0 ≤ k ∧ k < nK (aT A)) ∧ (0 ≤ j ∧ j < nJ (aT A)) ∧ (0 ≤ t ∧ t ≤ 60)) → sWhy A k j t ≠ 0 := fun z => by unfold sWhy; rw [if_neg z]; decide
  refine v_aload_n (pc := 0) 0 rfl rfl ?_
  refine v_iconst (pc := 1) 1 rfl ?_
  refine v_putI (pc := 2) 2 rfl fl_X12_97 rfl ?_
  refine v_aload_n (pc := 5) 3 rfl rfl ?_
  refine v_iload_n (pc := 6) 4 rfl rfl ?_
  refine v_cV1i (pc := 7) 5 rfl cv_X12_275 rfl (Nat.le_of_ble_eq_true rfl) (Nat.le_of_ble_eq_true rfl) (m_isCase hI hk) ?_
  refine v_if_eq (pc := 10) 6 38 rfl (by decide) (by omega) (fun e1 => ?_) (fun e1 => ?_)
  · exact no (bad (by omega))
  · refine v_aload_n (pc := 13) 7 rfl rfl ?_
    refine v_iload_n (pc := 14) 8 rfl rfl ?_
    refine v_cV1i (pc := 15) 9 rfl cv_X12_270 rfl (Nat.le_of_ble_eq_true rfl) (Nat.le_of_ble_eq_true rfl) (m_isJudge hI hj) ?_
    refine v_if_eq (pc := 18) 10 38 rfl (by decide) (by omega) (fun e2 => ?_) (fun e2 => ?_)
    · exact no (bad (by omega))
    · refine v_iload_n (pc := 21) 11 rfl rfl ?_
      refine v_cS1i (pc := 22) 12 rfl cs_X12_290 (Nat.le_of_ble_eq_true rfl) (Nat.le_of_ble_eq_true rfl) (m_isDay ht) ?_
      refine v_if_eq (pc := 25) 13 38 rfl (by decide) (by omega) (fun e3 => ?_) (fun e3 => ?_)
      · exact no (bad (by omega))
      · obtain ⟨k1, rfl⟩ : ∃ k1 : Nat, k = (k1 : Int) := ⟨k.toNat, by omega⟩
        obtain ⟨j1, rfl⟩ : ∃ j1 : Nat, j = (j1 : Int) := ⟨j.toNat, by omega⟩
        have ew : sWhy A k1 j1 t = whyS (aT A) (aS A) k1 j1 t := by
          unfold sWhy
          rw [if_pos (by omega), Int.toNat_natCast, Int.toNat_natCast]
        have hb := sWhy_b A k1 j1 t
        have cl := m_whyOf (G := G) (d := d) hI (k := k1) (j := j1) (dd := t) (by omega) (by omega) (by omega)
        rw [← ew] at cl
        refine v_aload_n (pc := 28) 14 rfl rfl ?_
        refine v_iload_n (pc := 29) 15 rfl rfl ?_
        refine v_iload_n (pc := 30) 16 rfl rfl ?_
        refine v_iload_n (pc := 31) 17 rfl rfl ?_
        refine v_cV3i (pc := 32) 18 rfl cv_X12_293 rfl (Nat.le_of_ble_eq_true rfl) (Nat.le_of_ble_eq_true rfl) (cl) ?_
        refine v_if_eq (pc := 35) 19 40 rfl (by decide) (by omega) (fun e4 => ?_) (fun e4 => ?_)
        · unfold sSet
          rw [if_pos e4, Int.toNat_natCast]
          refine v_aload_n (pc := 40) 22 rfl rfl ?_
          refine v_cV0 (pc := 41) 23 rfl cv_X12_297 rfl (Nat.le_of_ble_eq_true rfl) (Nat.le_of_ble_eq_true rfl) (m_keeps h0) (fun r9 N9 hq9 => ?_)
          obtain ⟨rfl, hN, hF⟩ := hq9
          have hj1 : ¬ ((j1 : Int) = -1) := by omega
          have hM := hN.ms (k := k1) (j := (j1 : Int)) (t := t) (by omega) (hN.2.2.2.2.2.2.1.1.set (Or.inr ⟨by show k1 < nK (aT A); omega, by show (0 : Int) ≤ j1 ∧ (j1 : Int) < nJ (aT A); omega, by rw [if_neg hj1]; omega⟩))
          rw [if_neg hj1] at hM
          show V G (d + 2) mX12_set (41 + 3) _ [] _ _
          refine v_aload_n (pc := 44) 24 rfl rfl ?_
          refine v_iload_n (pc := 45) 25 rfl rfl ?_
          refine v_iload_n (pc := 46) 26 rfl rfl ?_
          refine v_iload_n (pc := 47) 27 rfl rfl ?_
          refine v_cV3v (pc := 48) 28 rfl cv_X12_300 rfl (Nat.le_of_ble_eq_true rfl) (Nat.le_of_ble_eq_true rfl) (m_sets (by omega) (by omega)) ?_
          refine v_iconst (pc := 51) 29 rfl ?_
          refine v_zret (pc := 52) 30 rfl rfl (by decide) ⟨rfl, hM, ((mf_fld _ _ _).trans hF).trans (ms_mf _ _ _ _)⟩
        · exact no e4
theorem m_clear (h : MR M A) {k : Int} (hk : -2147483648 ≤ k ∧ k ≤ 2147483647) : V G (d + 2) mX12_clear 0 [some (.ref 54), some (.int (J k)), none] [] M (fun r N => r = some (.int (J (sClear A k).1)) ∧ MR N (sClear A k).2 ∧ MF M N) := by
  have hI := h.t
  have hn := hI.n
  have h0 := h.fld (f := 0) 0 (by decide)
  have no : ¬ ((0 ≤ k ∧ k < nK (aT A)) ∧ (aS A).1 k.toNat ≠ -1) → V G (d + 2) mX12_clear 22 [some (.ref 54), some (.int (J k)), none] [] (sI M 54 0 0) (fun r N => r = some (.int (J (sClear A k).1)) ∧ MR N (sClear A k).2 ∧ MF M N) := by
    intro hw
    unfold sClear
    rw [if_neg hw]
    refine v_iconst (pc := 22) 12 rfl ?_
    refine v_iret (pc := 23) 13 rfl rfl ⟨rfl, h0, mf_fld _ _ _⟩
  refine v_aload_n (pc := 0) 0 rfl rfl ?_
  refine v_iconst (pc := 1) 1 rfl ?_
  refine v_putI (pc := 2) 2 rfl fl_X12_97 rfl ?_
  refine v_aload_n (pc := 5) 3 rfl rfl ?_
  refine v_iload_n (pc := 6) 4 rfl rfl ?_
  refine v_cV1i (pc := 7) 5 rfl cv_X12_275 rfl (Nat.le_of_ble_eq_true rfl) (Nat.le_of_ble_eq_true rfl) (m_isCase hI hk) ?_
  refine v_if_eq (pc := 10) 6 22 rfl (by decide) (by omega) (fun e1 => ?_) (fun e1 => ?_)
  · exact no (by omega)
  · obtain ⟨k1, rfl⟩ : ∃ k1 : Nat, k = (k1 : Int) := ⟨k.toNat, by omega⟩
    rw [Int.toNat_natCast] at no
    have e := hI.2.2.2.2.1 k1 (by omega)
    have hb := hI.2.2.2.2.2.2.b hI.2.2.2.2.2.1 (k := k1) (by omega)
    refine v_aload_n (pc := 13) 7 rfl rfl ?_
    refine v_getC (pc := 14) 8 rfl fl_X12_63 rfl 72 rfl ?_
    refine v_iload_n (pc := 17) 9 rfl rfl ?_
    refine v_ialdN (pc := 18) 10 rfl rfl (by omega) ?_
    refine v_if_ge (pc := 19) 11 24 rfl (by decide) (by omega) (fun e2 => ?_) (fun e2 => ?_)
    · unfold sClear
      rw [Int.toNat_natCast, if_pos ⟨by omega, by omega⟩]
      refine v_aload_n (pc := 24) 14 rfl rfl ?_
      refine v_cV0 (pc := 25) 15 rfl cv_X12_297 rfl (Nat.le_of_ble_eq_true rfl) (Nat.le_of_ble_eq_true rfl) (m_keeps h0) (fun r9 N9 hq9 => ?_)
      obtain ⟨rfl, hN, hF⟩ := hq9
      have eN := (hN.1.2.2.2.2.1 k1 (by omega)).2
      have hM := hN.ms (k := k1) (j := -1) (t := -1) (by omega) (hN.2.2.2.2.2.2.1.1.set (Or.inl ⟨rfl, rfl⟩))
      show V G (d + 2) mX12_clear (25 + 3) _ [] _ _
      refine v_aload_n (pc := 28) 16 rfl rfl ?_
      refine v_getC (pc := 29) 17 rfl fl_X12_63 rfl 72 rfl ?_
      refine v_bipush (pc := 32) 18 rfl (by decide) ?_
      refine v_iload_n (pc := 34) 19 rfl rfl ?_
      refine v_iadd (pc := 35) 20 rfl ?_
      refine v_ialdE (pc := 36) 21 rfl rfl (12 + k1) (by omega) ?_
      rw [eN]
      refine v_istore_n (pc := 37) 22 rfl ⟨Nat.le_of_ble_eq_true rfl, rfl⟩ ?_
      refine v_aload_n (pc := 38) 23 rfl rfl ?_
      refine v_iload_n (pc := 39) 24 rfl rfl ?_
      refine v_iconst (pc := 40) 25 rfl ?_
      refine v_iconst (pc := 41) 26 rfl ?_
      refine v_cV3v (pc := 42) 27 rfl cv_X12_300 rfl (Nat.le_of_ble_eq_true rfl) (Nat.le_of_ble_eq_true rfl) (m_sets (by omega) (by omega)) ?_
      refine v_iload_n (pc := 45) 28 rfl rfl ?_
      refine v_iret (pc := 46) 29 rfl rfl ⟨rfl, hM, ((mf_fld _ _ _).trans hF).trans (ms_mf _ _ _ _)⟩
    · exact no (by omega)
end MSet
