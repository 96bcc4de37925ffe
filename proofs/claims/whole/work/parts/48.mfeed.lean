/-! 48: the reference: feed -/
section MFeed
variable {G : Gt} {d : Nat} {M N : Mem} {A : Ax}
theorem MR.put (h : MR M A) (x : Int) (h8 : aN A + 4 ≤ 800) : MR (tpM M 54 2 55 (aN A) x 4) (puA A x) := by
  have e : ∀ q, q ≠ 54 → q ≠ 55 → gI (tpM M 54 2 55 (aN A) x 4) q = gI M q := fun q q1 q2 => by unfold tpM; rw [gI_sI_ne q1, gI_aI_ne q2]
  have e54 : ∀ i, gI (tpM M 54 2 55 (aN A) x 4) 54 i = if i = 2 then ((aN A + 4 : Nat) : Int) else gI M 54 i := fun i => by unfold tpM; rw [gI_sI, if_pos rfl, gI_aI_ne (by decide)]
  obtain ⟨h1, h2, h3, h4, h5, h6⟩ := h
  refine ⟨h1.keep (fun q hq => e q (by omega) (by omega)), ⟨?_, h8, fun i hi => ?_⟩, ?_, ?_, ?_, h6⟩
  · rw [e54, if_pos rfl]; rfl
  · have hi : i < aN A + 4 := hi
    have e1 : gI (tpM M 54 2 55 (aN A) x 4) 55 i = putF (aN A) x 4 (gI M 55) i := by unfold tpM; rw [gI_sI_ne (by decide), gI_aI, if_pos rfl]
    rw [e1]
    show putF (aN A) x 4 (gI M 55) i = putF (aN A) x 4 (aB A) i
    unfold putF
    by_cases q : aN A ≤ i ∧ i < aN A + 4
    · rw [if_pos q, if_pos q]
    · rw [if_neg q, if_neg q]; exact h2.2.2 i (by omega)
  · rw [e54, if_neg (by decide), e 73 (by decide) (by decide)]; exact h3
  · rw [e 74 (by decide) (by decide), e 75 (by decide) (by decide)]; exact h4
  · rw [e54, if_neg (by decide)]; exact h5
theorem tp_mf (M : Mem) (n : Nat) (x : Int) (k : Nat) : MF M (tpM M 54 2 55 n x k) := ⟨fun q hq => ⟨by unfold tpM; rw [gI_sI_ne (by omega), gI_aI_ne (by omega)], rfl⟩, rfl⟩
theorem m_put {x : Int} {n : Nat} (hx : -2147483648 ≤ x ∧ x ≤ 2147483647) (hn : gI M 54 2 = (n : Int)) (h8 : n + 4 ≤ 800) : V G d mX12_puts 0 [some (.ref 54), some (.int (J x)), none] [] M (Ret none (tpM M 54 2 55 n x 4)) := by
  refine v_bipush (pc := 0) 0 rfl (by decide) ?_
  refine v_istore_n (pc := 2) 1 rfl ⟨Nat.le_of_ble_eq_true rfl, rfl⟩ ?_
  have loop := loopN (N := 4) (fun k => V G d mX12_puts 3 [some (.ref 54), some (.int (J x)), some (.int (J (24 - 8 * (k : Int))))] [] (tpM M 54 2 55 n x k) (Ret none (tpM M 54 2 55 n x 4))) ?_ ?_
  · rw [tpM_0 hn] at loop
    exact loop
  · refine v_iload_n (pc := 3) 2 rfl rfl ?_
    refine v_if_ltT (pc := 4) 3 36 rfl (by decide) (by omega) (by omega) ?_
    refine v_ret (pc := 36) 21 rfl rfl ⟨rfl, rfl⟩
  · intro k hk ih
    have e1 : gI (tpM M 54 2 55 n x k) 54 2 = ((n + k : Nat) : Int) := by unfold tpM; rw [gI_sI, if_pos rfl, if_pos rfl]
    have e2 : gI (sI (tpM M 54 2 55 n x k) 55 (n + k) (byt x (24 - 8 * k))) 54 2 = ((n + k : Nat) : Int) := by rw [gI_sI_ne (by decide)]; exact e1
    have es : (24 - 8 * (k : Int)) = ((24 - 8 * k : Nat) : Int) := by omega
    rw [← tpM_s (by decide)] at ih
    rw [show (24 - 8 * ((k + 1 : Nat) : Int)) = ((24 - 8 * k : Nat) : Int) - 8 by omega] at ih
    rw [es]
    refine v_iload_n (pc := 3) 2 rfl rfl ?_
    refine v_if_ltF (pc := 4) 3 36 rfl (by decide) (by omega) (by omega) ?_
    refine v_aload_n (pc := 7) 4 rfl rfl ?_
    refine v_getC (pc := 8) 5 rfl fl_X12_7 rfl 55 rfl ?_
    refine v_aload_n (pc := 11) 6 rfl rfl ?_
    refine v_getI (pc := 12) 7 rfl fl_X12_101 rfl ?_
    rw [e1]
    refine v_iload_n (pc := 15) 8 rfl rfl ?_
    refine v_iload_n (pc := 16) 9 rfl rfl ?_
    refine v_ishr (pc := 17) 10 rfl (x / 2 ^ (24 - 8 * k)) (J_shrN hx (by omega)) ?_
    refine v_i2b (pc := 18) 11 rfl (byt x (24 - 8 * k)) (J_i2b _) ?_
    refine v_bastE (pc := 19) 12 rfl rfl (n + k) (by omega) (byt_b _ _) ?_
    refine v_aload_n (pc := 20) 13 rfl rfl ?_
    refine v_dup (pc := 21) 14 rfl rfl ?_
    refine v_getI (pc := 22) 15 rfl fl_X12_101 rfl ?_
    rw [e2]
    refine v_iconst (pc := 25) 16 rfl ?_
    refine v_iadd (pc := 26) 17 rfl ?_
    refine v_putI (pc := 27) 18 rfl fl_X12_101 rfl ?_
    refine v_iinc (pc := 30) 19 rfl rfl ⟨Nat.le_of_ble_eq_true rfl, rfl⟩ ?_
    refine v_goto (pc := 33) 20 3 rfl (by decide) ?_
    exact ih
theorem m_feed (h : MR M A) {x1 x2 x3 x4 x5 : Int} (g1 : -2147483648 ≤ x1 ∧ x1 ≤ 2147483647) (g2 : -2147483648 ≤ x2 ∧ x2 ≤ 2147483647) (g3 : -2147483648 ≤ x3 ∧ x3 ≤ 2147483647) (g4 : -2147483648 ≤ x4 ∧ x4 ≤ 2147483647) (g5 : -2147483648 ≤ x5 ∧ x5 ≤ 2147483647) : V G (d + 1) mX12_feed 0 [some (.ref 54), some (.int (J x1)), some (.int (J x2)), some (.int (J x3)), some (.int (J x4)), some (.int (J x5))] [] M (fun r N => r = some (.int (J (sFeed A x1 x2 x3 x4 x5).1)) ∧ MR N (sFeed A x1 x2 x3 x4 x5).2 ∧ MF M N) := by
  have h0 := h.fld (f := 0) 0 (by decide)
  have ht := h0.2.1
  unfold sFeed
  refine v_aload_n (pc := 0) 0 rfl rfl ?_
  refine v_iconst (pc := 1) 1 rfl ?_
  refine v_putI (pc := 2) 2 rfl fl_X12_97 rfl ?_
  refine v_aload_n (pc := 5) 3 rfl rfl ?_
  refine v_getI (pc := 6) 4 rfl fl_X12_101 rfl ?_
  refine v_bipush (pc := 9) 5 rfl (by decide) ?_
  refine v_iadd (pc := 11) 6 rfl ?_
  refine v_sipush (pc := 12) 7 rfl (by decide) ?_
  refine v_ic_le (pc := 15) 8 20 rfl (by decide) (by omega) (fun e1 => ?_) (fun e1 => ?_)
  · rw [if_pos (by omega)]
    have hA1 := h0.put x1 (by omega)
    have hA2 := hA1.put x2 (by show aN A + 4 + 4 ≤ 800; omega)
    have hA3 := hA2.put x3 (by show aN A + 4 + 4 + 4 ≤ 800; omega)
    have hA4 := hA3.put x4 (by show aN A + 4 + 4 + 4 + 4 ≤ 800; omega)
    have hA5 := hA4.put x5 (by show aN A + 4 + 4 + 4 + 4 + 4 ≤ 800; omega)
    have e5 := hA5.2.1.1
    refine v_aload_n (pc := 20) 11 rfl rfl ?_
    refine v_iload_n (pc := 21) 12 rfl rfl ?_
    refine v_cV1v (pc := 22) 13 rfl cv_X12_104 rfl (Nat.le_of_ble_eq_true rfl) (Nat.le_of_ble_eq_true rfl) (m_put g1 ht.1 (by omega)) ?_
    refine v_aload_n (pc := 25) 14 rfl rfl ?_
    refine v_iload_n (pc := 26) 15 rfl rfl ?_
    refine v_cV1v (pc := 27) 16 rfl cv_X12_104 rfl (Nat.le_of_ble_eq_true rfl) (Nat.le_of_ble_eq_true rfl) (m_put g2 hA1.2.1.1 (by show aN A + 4 + 4 ≤ 800; omega)) ?_
    refine v_aload_n (pc := 30) 17 rfl rfl ?_
    refine v_iload_n (pc := 31) 18 rfl rfl ?_
    refine v_cV1v (pc := 32) 19 rfl cv_X12_104 rfl (Nat.le_of_ble_eq_true rfl) (Nat.le_of_ble_eq_true rfl) (m_put g3 hA2.2.1.1 (by show aN A + 4 + 4 + 4 ≤ 800; omega)) ?_
    refine v_aload_n (pc := 35) 20 rfl rfl ?_
    refine v_iload (pc := 36) 21 rfl rfl ?_
    refine v_cV1v (pc := 38) 22 rfl cv_X12_104 rfl (Nat.le_of_ble_eq_true rfl) (Nat.le_of_ble_eq_true rfl) (m_put g4 hA3.2.1.1 (by show aN A + 4 + 4 + 4 + 4 ≤ 800; omega)) ?_
    refine v_aload_n (pc := 41) 23 rfl rfl ?_
    refine v_iload (pc := 42) 24 rfl rfl ?_
    refine v_cV1v (pc := 44) 25 rfl cv_X12_104 rfl (Nat.le_of_ble_eq_true rfl) (Nat.le_of_ble_eq_true rfl) (m_put g5 hA4.2.1.1 (by show aN A + 4 + 4 + 4 + 4 + 4 ≤ 800; omega)) ?_
    refine v_aload_n (pc := 47) 26 rfl rfl ?_
    refine v_getI (pc := 48) 27 rfl fl_X12_101 rfl ?_
    rw [e5]
    refine v_iret (pc := 51) 28 rfl rfl ⟨rfl, hA5, (((((mf_fld _ _ _).trans (tp_mf _ _ _ _)).trans (tp_mf _ _ _ _)).trans (tp_mf _ _ _ _)).trans (tp_mf _ _ _ _)).trans (tp_mf _ _ _ _)⟩
  · rw [if_neg (by omega)]
    refine v_iconst (pc := 18) 9 rfl ?_
    refine v_iret (pc := 19) 10 rfl rfl ⟨rfl, h0, mf_fld _ _ _⟩
end MFeed
