/-! 60: the reference: undo, keep -/
section MUndo
variable {G : Gt} {d : Nat} {M N : Mem} {A : Ax}
/-- the row 72 is that of a calendar S -/
theorem RI.row {M N : Mem} {T : Tx} {S S2 : Sx} (h : RI M T S) (e : ∀ q, q = 56 ∨ q = 57 ∨ q = 58 ∨ (63 ≤ q ∧ q ≤ 71) ∨ q = 76 → gI N q = gI M q) (h5 : ∀ k, k < 12 → gI N 72 k = S2.1 k ∧ gI N 72 (12 + k) = S2.2 k) (hS : SOk T S2) : RI N T S2 := by
  obtain ⟨h1, h2, h3, h4, -, hT, -⟩ := h
  unfold RI
  rw [e 56 (by omega), e 57 (by omega), e 58 (by omega), e 63 (by omega), e 64 (by omega), e 65 (by omega), e 66 (by omega), e 67 (by omega), e 68 (by omega), e 69 (by omega), e 70 (by omega), e 71 (by omega), e 76 (by omega)]
  exact ⟨h1, h2, h3, h4, h5, hT, hS⟩
theorem m_undo (h : MR M A) : V G (d + 2) mX12_undo 0 [some (.ref 54), none] [] M (fun r N => r = some (.int (J (sUndo A).1)) ∧ MR N (sUndo A).2 ∧ MF M N) := by
  have h0 := h.fld (f := 0) 0 (by decide)
  have hF0 := mf_fld M 0 0
  unfold sUndo
  obtain ⟨h1, h2, ⟨u1, u2, u3⟩, h4, h5, h6⟩ := id h0
  by_cases e : aU A = []
  · rw [if_pos e]
    rw [e] at u1
    have u1 : gI (sI M 54 0 0) 54 33 = 0 := u1
    refine v_aload_n (pc := 0) 0 rfl rfl ?_
    refine v_iconst (pc := 1) 1 rfl ?_
    refine v_putI (pc := 2) 2 rfl fl_X12_97 rfl ?_
    refine v_aload_n (pc := 5) 3 rfl rfl ?_
    refine v_getI (pc := 6) 4 rfl fl_X12_261 rfl ?_
    refine v_if_neF (pc := 9) 5 14 rfl (by decide) (by omega) (by omega) ?_
    refine v_iconst (pc := 12) 6 rfl ?_
    refine v_iret (pc := 13) 7 rfl rfl ⟨rfl, h0, hF0⟩
  · rw [if_neg e]
    have hl : 0 < (aU A).length := List.length_pos_iff.mpr e
    obtain ⟨u, hu⟩ : ∃ u, (aU A).length = u + 1 := ⟨(aU A).length - 1, by omega⟩
    have hmem := h6.2.2.1 _ (getD_mem (U := aU A) (i := u) (by omega))
    have hrow := u3 u (by omega)
    rw [hu] at u1 ⊢
    rw [show u + 1 - 1 = u by omega]
    have hdl : (aU A).dropLast.length = u := by rw [List.length_dropLast]; omega
    refine v_aload_n (pc := 0) 0 rfl rfl ?_
    refine v_iconst (pc := 1) 1 rfl ?_
    refine v_putI (pc := 2) 2 rfl fl_X12_97 rfl ?_
    generalize sI M 54 0 0 = M1 at *
    generalize hQ : (fun (r : Option Value) (N : Mem) => r = some (.int (J (((u + 1 : Nat) : Int) - 1))) ∧ MR N (A.1, aT A, (aU A).getD u s0, (aU A).dropLast, aK A) ∧ MF M N) = Q
    refine v_aload_n (pc := 5) 3 rfl rfl ?_
    refine v_getI (pc := 6) 4 rfl fl_X12_261 rfl ?_
    refine v_if_neT (pc := 9) 5 14 rfl (by decide) (by omega) (by omega) ?_
    refine v_aload_n (pc := 14) 8 rfl rfl ?_
    refine v_dup (pc := 15) 9 rfl rfl ?_
    refine v_getI (pc := 16) 10 rfl fl_X12_261 rfl ?_
    rw [u1]
    refine v_iconst (pc := 19) 11 rfl ?_
    refine v_isub (pc := 20) 12 rfl ?_
    refine v_putI (pc := 21) 13 rfl fl_X12_261 rfl ?_
    refine v_iconst (pc := 24) 14 rfl ?_
    refine v_istore_n (pc := 25) 15 rfl ⟨Nat.le_of_ble_eq_true rfl, rfl⟩ ?_
    rw [show ((u + 1 : Nat) : Int) - 1 = (u : Int) by omega] at hQ ⊢
    generalize hN : sI M1 54 33 (u : Int) = N0
    have n1 : ∀ q, q ≠ 54 → gI N0 q = gI M1 q := fun q q1 => by rw [← hN, gI_sI_ne q1]
    have n3 : ∀ i, gI N0 54 i = if i = 33 then (u : Int) else gI M1 54 i := fun i => by rw [← hN, gI_sI, if_pos rfl]
    have loop := loopN (N := 24) (fun k => V G (d + 2) mX12_undo 26 [some (.ref 54), some (.int (J (k : Int)))] [] (aI N0 72 (cpF (fun k => gI M1 73 (24 * u + k)) (gI M1 72) k)) Q) ?_ ?_
    · have e0 : cpF (fun k => gI M1 73 (24 * u + k)) (gI M1 72) 0 = gI N0 72 := by rw [cpF_0, n1 72 (by decide)]
      rw [e0, aI_self] at loop
      exact loop
    · have e33 : gI (aI N0 72 (cpF (fun k => gI M1 73 (24 * u + k)) (gI M1 72) 24)) 54 33 = (u : Int) := by rw [gI_aI_ne (by decide), n3, if_pos rfl]
      refine v_iload_n (pc := 26) 16 rfl rfl ?_
      refine v_bipush (pc := 27) 17 rfl (by decide) ?_
      refine v_ic_geT (pc := 29) 18 58 rfl (by decide) (by omega) (by omega) ?_
      refine v_aload_n (pc := 58) 34 rfl rfl ?_
      refine v_getI (pc := 59) 35 rfl fl_X12_261 rfl ?_
      rw [e33]
      refine v_iret (pc := 62) 36 rfl rfl (by
        rw [← hQ]
        have g1 : ∀ q, q ≠ 54 → q ≠ 72 → gI (aI N0 72 (cpF (fun k => gI M1 73 (24 * u + k)) (gI M1 72) 24)) q = gI M1 q := fun q q1 q2 => by rw [gI_aI_ne q2, n1 q q1]
        refine ⟨rfl, ⟨h1.row (fun q hq => g1 q (by omega) (by omega)) (fun k hk => ?_) hmem.1, ?_, ⟨?_, by show (aU A).dropLast.length ≤ 12; omega, fun i hi k hk => ?_⟩, ?_, ?_, ⟨h6.1, hmem, fun S hS => h6.2.2.1 S (List.dropLast_subset _ hS), h6.2.2.2⟩⟩, hF0.trans ⟨fun q hq => ⟨g1 q (by omega) (by omega), by rw [← hN]; rfl⟩, by rw [← hN]; rfl⟩⟩
        · rw [gI_aI, if_pos rfl, gI_aI, if_pos rfl, cpF_lt (by omega), cpF_lt (by omega)]
          have := hrow k hk
          rw [Nat.add_assoc] at this
          exact this
        · rw [gI_aI_ne (by decide), n3, if_neg (by decide), g1 55 (by decide) (by decide)]; exact h2
        · rw [e33]; show (u : Int) = (((aU A).dropLast.length : Nat) : Int); rw [hdl]
        · change i < (aU A).dropLast.length at hi
          rw [g1 73 (by decide) (by decide)]
          show _ = ((aU A).dropLast.getD i s0).1 k ∧ _ = ((aU A).dropLast.getD i s0).2 k
          rw [dropL_at (by omega)]
          exact u3 i (by omega) k hk
        · rw [g1 74 (by decide) (by decide), g1 75 (by decide) (by decide)]; exact h4
        · rw [gI_aI_ne (by decide), n3, if_neg (by decide)]; exact h5)
    · intro k hk ih
      have e33 : gI (aI N0 72 (cpF (fun k => gI M1 73 (24 * u + k)) (gI M1 72) k)) 54 33 = (u : Int) := by rw [gI_aI_ne (by decide), n3, if_pos rfl]
      have e73 : gI (aI N0 72 (cpF (fun k => gI M1 73 (24 * u + k)) (gI M1 72) k)) 73 (24 * u + k) = gI M1 73 (24 * u + k) := by rw [gI_aI_ne (by decide), n1 73 (by decide)]
      have es := cpF_s (fun k => gI M1 73 (24 * u + k)) (gI M1 72) k
      refine v_iload_n (pc := 26) 16 rfl rfl ?_
      refine v_bipush (pc := 27) 17 rfl (by decide) ?_
      refine v_ic_geF (pc := 29) 18 58 rfl (by decide) (by omega) (by omega) ?_
      refine v_aload_n (pc := 32) 19 rfl rfl ?_
      refine v_getC (pc := 33) 20 rfl fl_X12_63 rfl 72 rfl ?_
      refine v_iload_n (pc := 36) 21 rfl rfl ?_
      refine v_aload_n (pc := 37) 22 rfl rfl ?_
      refine v_getC (pc := 38) 23 rfl fl_X12_66 rfl 73 rfl ?_
      refine v_bipush (pc := 41) 24 rfl (by decide) ?_
      refine v_aload_n (pc := 43) 25 rfl rfl ?_
      refine v_getI (pc := 44) 26 rfl fl_X12_261 rfl ?_
      refine v_imul (pc := 47) 27 rfl ?_
      refine v_iload_n (pc := 48) 28 rfl rfl ?_
      refine v_iadd (pc := 49) 29 rfl ?_
      refine v_ialdE (pc := 50) 30 rfl rfl (24 * u + k) (by omega) ?_
      rw [e73]
      refine v_iastN (pc := 51) 31 rfl rfl (by omega) ?_
      refine v_iinc (pc := 52) 32 rfl rfl ⟨Nat.le_of_ble_eq_true rfl, rfl⟩ ?_
      refine v_goto (pc := 55) 33 26 rfl (by decide) ?_
      rw [sI_aI, es]
      exact ih
theorem m_keep (h : MR M A) {k : Int} {b : Bool} (hk : -2147483648 ≤ k ∧ k ≤ 2147483647) : V G (d + 2) mX12_keep 0 [some (.ref 54), some (.int (J k)), some (.int (J (b2i b))), none] [] M (fun r N => r = some (.int (J (sKeep A k b).1)) ∧ MR N (sKeep A k b).2 ∧ MF M N) := by
  have h0 := h.fld (f := 0) 0 (by decide)
  have hF0 := mf_fld M 0 0
  have hbr := b2i_r b
  obtain ⟨h1, h2, h3, h4, h5, h6⟩ := id h0
  unfold sKeep
  refine v_aload_n (pc := 0) 0 rfl rfl ?_
  refine v_iconst (pc := 1) 1 rfl ?_
  refine v_putI (pc := 2) 2 rfl fl_X12_97 rfl ?_
  refine v_iload_n (pc := 5) 3 rfl rfl ?_
  refine v_i2l (pc := 6) 4 rfl (by omega) ?_
  refine v_lconst (pc := 7) 5 rfl ?_
  refine v_lconst (pc := 8) 6 rfl ?_
  refine v_cS3i (pc := 9) 7 rfl cs_X12_135 (Nat.le_of_ble_eq_true rfl) (Nat.le_of_ble_eq_true rfl) (m_within (by omega) (by decide) (by decide)) ?_
  refine v_if_eq (pc := 12) 8 28 rfl (by decide) (by omega) (fun e1 => ?_) (fun e1 => ?_)
  · rw [if_neg (by omega)]
    refine v_iconst (pc := 28) 16 rfl ?_
    refine v_zret (pc := 29) 17 rfl rfl (by decide) ⟨rfl, h0, hF0⟩
  · rw [if_pos (by omega)]
    obtain ⟨k1, rfl⟩ : ∃ k1 : Nat, k = (k1 : Int) := ⟨k.toNat, by omega⟩
    rw [Int.toNat_natCast]
    have hk4 := h4 k1 (by omega)
    generalize sI M 54 0 0 = M1 at *
    cases b with
    | true =>
      rw [if_pos rfl]
      rcases hk4 with ⟨q1, q2⟩ | ⟨S, q1, q2, q3⟩
      · rw [q1]
        refine v_iload_n (pc := 15) 9 rfl rfl ?_
        refine v_if_eqF (pc := 16) 10 30 rfl (by decide) (by omega) (by decide) ?_
        refine v_aload_n (pc := 19) 11 rfl rfl ?_
        refine v_getC (pc := 20) 12 rfl fl_X12_72 rfl 75 rfl ?_
        refine v_iload_n (pc := 23) 13 rfl rfl ?_
        refine v_zaldN (pc := 24) 14 rfl rfl (by omega) ?_
        refine v_if_neF (pc := 25) 15 30 rfl (by decide) (by omega) (by omega) ?_
        refine v_iconst (pc := 28) 16 rfl ?_
        refine v_zret (pc := 29) 17 rfl rfl (by decide) ⟨rfl, h0, hF0⟩
      · rw [q1]
        have hmem := h6.2.2.2 k1 (by omega) S q1
        generalize hQ : (fun (r : Option Value) (N : Mem) => r = some (.int (J 1)) ∧ MR N (A.1, aT A, S, [], aK A) ∧ MF M N) = Q
        show V G (d + 2) mX12_keep 15 _ _ _ Q
        refine v_iload_n (pc := 15) 9 rfl rfl ?_
        refine v_if_eqF (pc := 16) 10 30 rfl (by decide) (by omega) (by decide) ?_
        refine v_aload_n (pc := 19) 11 rfl rfl ?_
        refine v_getC (pc := 20) 12 rfl fl_X12_72 rfl 75 rfl ?_
        refine v_iload_n (pc := 23) 13 rfl rfl ?_
        refine v_zaldN (pc := 24) 14 rfl rfl (by omega) ?_
        refine v_if_neT (pc := 25) 15 30 rfl (by decide) (by omega) (by omega) ?_
        refine v_iconst (pc := 30) 18 rfl ?_
        refine v_istore_n (pc := 31) 19 rfl ⟨Nat.le_of_ble_eq_true rfl, rfl⟩ ?_
        have loop := loopN (N := 24) (fun i => V G (d + 2) mX12_keep 32 [some (.ref 54), some (.int (J (k1 : Int))), some (.int (J (b2i true))), some (.int (J (i : Int)))] [] (aI M1 72 (cpF (fun i => gI M1 74 (24 * k1 + i)) (gI M1 72) i)) Q) ?_ ?_
        · rw [cpF_0, aI_self] at loop
          exact loop
        · generalize hN2 : sI (aI M1 72 (cpF (fun i => gI M1 74 (24 * k1 + i)) (gI M1 72) 24)) 54 33 0 = N2
          have g1 : ∀ q, q ≠ 54 → q ≠ 72 → gI N2 q = gI M1 q := fun q z1 z2 => by rw [← hN2, gI_sI_ne z1, gI_aI_ne z2]
          have g3 : ∀ i, gI N2 54 i = if i = 33 then 0 else gI M1 54 i := fun i => by rw [← hN2, gI_sI, if_pos rfl, gI_aI_ne (by decide)]
          have g2 : gI N2 72 = cpF (fun i => gI M1 74 (24 * k1 + i)) (gI M1 72) 24 := by funext i; rw [← hN2, gI_sI_ne (by decide), gI_aI, if_pos rfl]
          have hR : MR N2 (A.1, aT A, S, [], aK A) := by
            refine ⟨h1.row (fun q hq => g1 q (by omega) (by omega)) (fun j hj => ?_) hmem.1, ?_, ⟨?_, Nat.zero_le _, fun i hi => absurd hi (Nat.not_lt_zero i)⟩, ?_, ?_, ⟨h6.1, hmem, fun S hS => absurd hS List.not_mem_nil, h6.2.2.2⟩⟩
            · rw [g2, cpF_lt (by omega), cpF_lt (by omega)]
              have := q3 j hj
              rw [Nat.add_assoc] at this
              exact this
            · rw [g3, if_neg (by decide), g1 55 (by decide) (by decide)]; exact h2
            · rw [g3, if_pos rfl]; rfl
            · rw [g1 74 (by decide) (by decide), g1 75 (by decide) (by decide)]; exact h4
            · rw [g3, if_neg (by decide)]; exact h5
          have hF : MF M N2 := hF0.trans ⟨fun q hq => ⟨g1 q (by omega) (by omega), by rw [← hN2]; rfl⟩, by rw [← hN2]; rfl⟩
          refine v_iload_n (pc := 32) 20 rfl rfl ?_
          refine v_bipush (pc := 33) 21 rfl (by decide) ?_
          refine v_ic_geT (pc := 35) 22 85 rfl (by decide) (by omega) (by omega) ?_
          refine v_iload_n (pc := 85) 52 rfl rfl ?_
          refine v_if_eqF (pc := 86) 53 97 rfl (by decide) (by omega) (by decide) ?_
          refine v_aload_n (pc := 89) 54 rfl rfl ?_
          refine v_iconst (pc := 90) 55 rfl ?_
          refine v_putI (pc := 91) 56 rfl fl_X12_261 rfl ?_
          rw [hN2]
          refine v_goto (pc := 94) 57 104 rfl (by decide) ?_
          refine v_iconst (pc := 104) 63 rfl ?_
          refine v_zret (pc := 105) 64 rfl rfl (by decide) (by rw [← hQ]; exact ⟨rfl, hR, hF⟩)
        · intro i hi ih
          have e74 : gI (aI M1 72 (cpF (fun i => gI M1 74 (24 * k1 + i)) (gI M1 72) i)) 74 (24 * k1 + i) = gI M1 74 (24 * k1 + i) := by rw [gI_aI_ne (by decide)]
          have es := cpF_s (fun i => gI M1 74 (24 * k1 + i)) (gI M1 72) i
          refine v_iload_n (pc := 32) 20 rfl rfl ?_
          refine v_bipush (pc := 33) 21 rfl (by decide) ?_
          refine v_ic_geF (pc := 35) 22 85 rfl (by decide) (by omega) (by omega) ?_
          refine v_iload_n (pc := 38) 23 rfl rfl ?_
          refine v_if_eqF (pc := 39) 24 62 rfl (by decide) (by omega) (by decide) ?_
          refine v_aload_n (pc := 42) 25 rfl rfl ?_
          refine v_getC (pc := 43) 26 rfl fl_X12_63 rfl 72 rfl ?_
          refine v_iload_n (pc := 46) 27 rfl rfl ?_
          refine v_aload_n (pc := 47) 28 rfl rfl ?_
          refine v_getC (pc := 48) 29 rfl fl_X12_69 rfl 74 rfl ?_
          refine v_bipush (pc := 51) 30 rfl (by decide) ?_
          refine v_iload_n (pc := 53) 31 rfl rfl ?_
          refine v_imul (pc := 54) 32 rfl ?_
          refine v_iload_n (pc := 55) 33 rfl rfl ?_
          refine v_iadd (pc := 56) 34 rfl ?_
          refine v_ialdE (pc := 57) 35 rfl rfl (24 * k1 + i) (by omega) ?_
          rw [e74]
          refine v_iastN (pc := 58) 36 rfl rfl (by omega) ?_
          refine v_goto (pc := 59) 37 79 rfl (by decide) ?_
          refine v_iinc (pc := 79) 50 rfl rfl ⟨Nat.le_of_ble_eq_true rfl, rfl⟩ ?_
          refine v_goto (pc := 82) 51 32 rfl (by decide) ?_
          rw [sI_aI, es]
          exact ih
    | false =>
      rw [if_neg (by decide)]
      generalize hQ : (fun (r : Option Value) (N : Mem) => r = some (.int (J 1)) ∧ MR N (A.1, aT A, aS A, aU A, upK (aK A) k1 (some (aS A))) ∧ MF M N) = Q
      show V G (d + 2) mX12_keep 15 _ _ _ Q
      refine v_iload_n (pc := 15) 9 rfl rfl ?_
      refine v_if_eqT (pc := 16) 10 30 rfl (by decide) (by omega) (by decide) ?_
      refine v_iconst (pc := 30) 18 rfl ?_
      refine v_istore_n (pc := 31) 19 rfl ⟨Nat.le_of_ble_eq_true rfl, rfl⟩ ?_
      have loop := loopN (N := 24) (fun i => V G (d + 2) mX12_keep 32 [some (.ref 54), some (.int (J (k1 : Int))), some (.int (J (b2i false))), some (.int (J (i : Int)))] [] (aI M1 74 (rwF (gI M1 74) (gI M1 72) k1 i)) Q) ?_ ?_
      · have e0 : rwF (gI M1 74) (gI M1 72) k1 0 = gI M1 74 := by funext i; unfold rwF; rw [if_neg (by omega)]
        rw [e0, aI_self] at loop
        exact loop
      · generalize hN2 : sI (aI M1 74 (rwF (gI M1 74) (gI M1 72) k1 24)) 75 k1 1 = N2
        have g1 : ∀ q, q ≠ 74 → q ≠ 75 → gI N2 q = gI M1 q := fun q z1 z2 => by rw [← hN2, gI_sI_ne z2, gI_aI_ne z1]
        have g2 : gI N2 74 = rwF (gI M1 74) (gI M1 72) k1 24 := by funext i; rw [← hN2, gI_sI_ne (by decide), gI_aI, if_pos rfl]
        have g3 : ∀ i, gI N2 75 i = if i = k1 then 1 else gI M1 75 i := fun i => by rw [← hN2, gI_sI, if_pos rfl, gI_aI_ne (by decide)]
        have hR : MR N2 (A.1, aT A, aS A, aU A, upK (aK A) k1 (some (aS A))) := by
          refine ⟨h1.keep (fun q hq => g1 q (by omega) (by omega)), ?_, ?_, fun j hj => ?_, ?_, ⟨h6.1, h6.2.1, h6.2.2.1, fun j hj S hS => ?_⟩⟩
          · rw [g1 54 (by decide) (by decide), g1 55 (by decide) (by decide)]; exact h2
          · rw [g1 54 (by decide) (by decide), g1 73 (by decide) (by decide)]; exact h3
          · rw [g2, g3]
            show (upK (aK A) k1 (some (aS A)) j = none ∧ _) ∨ ∃ S, upK (aK A) k1 (some (aS A)) j = some S ∧ _
            unfold upK
            by_cases e : j = k1
            · rw [if_pos e, if_pos e]
              refine Or.inr ⟨aS A, rfl, rfl, fun i hi => ?_⟩
              subst e
              unfold rwF
              rw [if_pos (by omega), if_pos (by omega), show 24 * j + i - 24 * j = i by omega, show 24 * j + 12 + i - 24 * j = 12 + i by omega]
              exact h1.2.2.2.2.1 i hi
            · rw [if_neg e, if_neg e]
              rcases h4 j hj with q | ⟨S, z1, z2, z3⟩
              · exact Or.inl q
              · refine Or.inr ⟨S, z1, z2, fun i hi => ?_⟩
                have n1 : ¬ (24 * k1 ≤ 24 * j + i ∧ 24 * j + i < 24 * k1 + 24) := by omega
                have n2 : ¬ (24 * k1 ≤ 24 * j + 12 + i ∧ 24 * j + 12 + i < 24 * k1 + 24) := by omega
                unfold rwF
                rw [if_neg n1, if_neg n2]
                exact z3 i hi
          · rw [g1 54 (by decide) (by decide)]; exact h5
          · change upK (aK A) k1 (some (aS A)) j = some S at hS
            unfold upK at hS
            by_cases e : j = k1
            · rw [if_pos e] at hS; cases hS; exact h6.2.1
            · rw [if_neg e] at hS; exact h6.2.2.2 j hj S hS
        have hF : MF M N2 := hF0.trans ⟨fun q hq => ⟨g1 q (by omega) (by omega), by rw [← hN2]; rfl⟩, by rw [← hN2]; rfl⟩
        refine v_iload_n (pc := 32) 20 rfl rfl ?_
        refine v_bipush (pc := 33) 21 rfl (by decide) ?_
        refine v_ic_geT (pc := 35) 22 85 rfl (by decide) (by omega) (by omega) ?_
        refine v_iload_n (pc := 85) 52 rfl rfl ?_
        refine v_if_eqT (pc := 86) 53 97 rfl (by decide) (by omega) (by decide) ?_
        refine v_aload_n (pc := 97) 58 rfl rfl ?_
        refine v_getC (pc := 98) 59 rfl fl_X12_72 rfl 75 rfl ?_
        refine v_iload_n (pc := 101) 60 rfl rfl ?_
        refine v_iconst (pc := 102) 61 rfl ?_
        refine v_zastN (pc := 103) 62 rfl rfl (by omega) (by decide) ?_
        rw [hN2]
        refine v_iconst (pc := 104) 63 rfl ?_
        refine v_zret (pc := 105) 64 rfl rfl (by decide) (by rw [← hQ]; exact ⟨rfl, hR, hF⟩)
      · intro i hi ih
        have e72 : gI (aI M1 74 (rwF (gI M1 74) (gI M1 72) k1 i)) 72 i = gI M1 72 i := by rw [gI_aI_ne (by decide)]
        have er : (fun j => if j = 24 * k1 + i then gI M1 72 i else rwF (gI M1 74) (gI M1 72) k1 i j) = rwF (gI M1 74) (gI M1 72) k1 (i + 1) := by
          funext j
          unfold rwF
          by_cases e : j = 24 * k1 + i
          · rw [if_pos e, if_pos (by omega), e, show 24 * k1 + i - 24 * k1 = i by omega]
          · rw [if_neg e]
            by_cases e2 : 24 * k1 ≤ j ∧ j < 24 * k1 + i
            · rw [if_pos e2, if_pos (by omega)]
            · rw [if_neg e2, if_neg (by omega)]
        refine v_iload_n (pc := 32) 20 rfl rfl ?_
        refine v_bipush (pc := 33) 21 rfl (by decide) ?_
        refine v_ic_geF (pc := 35) 22 85 rfl (by decide) (by omega) (by omega) ?_
        refine v_iload_n (pc := 38) 23 rfl rfl ?_
        refine v_if_eqT (pc := 39) 24 62 rfl (by decide) (by omega) (by decide) ?_
        refine v_aload_n (pc := 62) 38 rfl rfl ?_
        refine v_getC (pc := 63) 39 rfl fl_X12_69 rfl 74 rfl ?_
        refine v_bipush (pc := 66) 40 rfl (by decide) ?_
        refine v_iload_n (pc := 68) 41 rfl rfl ?_
        refine v_imul (pc := 69) 42 rfl ?_
        refine v_iload_n (pc := 70) 43 rfl rfl ?_
        refine v_iadd (pc := 71) 44 rfl ?_
        refine v_aload_n (pc := 72) 45 rfl rfl ?_
        refine v_getC (pc := 73) 46 rfl fl_X12_63 rfl 72 rfl ?_
        refine v_iload_n (pc := 76) 47 rfl rfl ?_
        refine v_ialdN (pc := 77) 48 rfl rfl (by omega) ?_
        rw [e72]
        refine v_iastE (pc := 78) 49 rfl rfl (24 * k1 + i) (by omega) ?_
        refine v_iinc (pc := 79) 50 rfl rfl ⟨Nat.le_of_ble_eq_true rfl, rfl⟩ ?_
        refine v_goto (pc := 82) 51 32 rfl (by decide) ?_
        rw [sI_aI, er]
        exact ih
end MUndo
