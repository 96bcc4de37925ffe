/-! 55: the reference: best, bestOf, take -/
theorem plA_un {l : List Nat} (hnd : l.Nodup) (g : Nat → Int) (d : Int) (S : Sx) : ∀ (i j : Nat), i ≤ j → j < l.length → (plA l g d S i).1 (l.getD j 0) = S.1 (l.getD j 0) ∧ (plA l g d S i).2 (l.getD j 0) = S.2 (l.getD j 0) := by
  intro i
  induction i with
  | zero => intro j _ _; exact ⟨rfl, rfl⟩
  | succ i ih =>
    intro j hij hj
    have e : plA l g d S (i + 1) = if g i = -1 then plA l g d S i else setS (plA l g d S i) (l.getD i 0) (g i) d := rfl
    rw [e]
    by_cases q : g i = -1
    · rw [if_pos q]; exact ih j (by omega) hj
    · rw [if_neg q]
      have hne := nodup_get hnd (i := j) (k := i) hj (by omega) (by omega)
      unfold setS
      dsimp only
      rw [if_neg hne, if_neg hne]
      exact ih j (by omega) hj
section MBest2
variable {G : Gt} {d : Nat} {M N : Mem} {T : Tx} {S : Sx} {A : Ax}
theorem m_laysBest (h : RI M T S) {t k : Int} (ht : -2147483648 ≤ t ∧ t ≤ 2147483647) (hk : -2147483648 ≤ k ∧ k ≤ 2147483647) : V G (d + 8) mX12_laysBest 0 [some (.ref 54), some (.int (J t)), some (.int (J k))] [] M (fun r N => (((0 ≤ t ∧ t ≤ 60) ∧ (0 ≤ k ∧ k ≤ 5)) ∧ r = some (.int (J 1)) ∧ ∃ f, rep f (opN T S t (nK T)) ∧ GS M N T S (askN T S t k.toNat) f (bestC T S t k.toNat)) ∨ (¬ ((0 ≤ t ∧ t ≤ 60) ∧ (0 ≤ k ∧ k ≤ 5)) ∧ r = some (.int (J 0)) ∧ N = M)) := by
  have hT := h.2.2.2.2.2.1
  have hS := h.2.2.2.2.2.2
  generalize hQ : (fun (r : Option Value) (N : Mem) => (((0 ≤ t ∧ t ≤ 60) ∧ (0 ≤ k ∧ k ≤ 5)) ∧ r = some (.int (J 1)) ∧ ∃ f, rep f (opN T S t (nK T)) ∧ GS M N T S (askN T S t k.toNat) f (bestC T S t k.toNat)) ∨ (¬ ((0 ≤ t ∧ t ≤ 60) ∧ (0 ≤ k ∧ k ≤ 5)) ∧ r = some (.int (J 0)) ∧ N = M)) = Q
  have no : ¬ ((0 ≤ t ∧ t ≤ 60) ∧ (0 ≤ k ∧ k ≤ 5)) → V G (d + 8) mX12_laysBest 19 [some (.ref 54), some (.int (J t)), some (.int (J k))] [] M Q := by
    intro z
    refine v_iconst (pc := 19) 9 rfl ?_
    refine v_zret (pc := 20) 10 rfl rfl (by decide) (by rw [← hQ]; exact Or.inr ⟨z, rfl, rfl⟩)
  refine v_iload_n (pc := 0) 0 rfl rfl ?_
  refine v_cS1i (pc := 1) 1 rfl cs_X12_290 (Nat.le_of_ble_eq_true rfl) (Nat.le_of_ble_eq_true rfl) (m_isDay ht) ?_
  refine v_if_eq (pc := 4) 2 19 rfl (by decide) (by omega) (fun e1 => ?_) (fun e1 => ?_)
  · exact no (by omega)
  · refine v_iload_n (pc := 7) 3 rfl rfl ?_
    refine v_i2l (pc := 8) 4 rfl (by omega) ?_
    refine v_lconst (pc := 9) 5 rfl ?_
    refine v_ldc2J (pc := 10) 6 rfl kcLong_X12_337 (5) (by decide) ?_
    refine v_cS3i (pc := 13) 7 rfl cs_X12_135 (Nat.le_of_ble_eq_true rfl) (Nat.le_of_ble_eq_true rfl) (m_within (by omega) (by decide) (by decide)) ?_
    refine v_if_ne (pc := 16) 8 21 rfl (by decide) (by omega) (fun e2 => ?_) (fun e2 => ?_)
    · obtain ⟨n, rfl⟩ : ∃ n : Nat, k = (n : Int) := ⟨k.toNat, by omega⟩
      rw [Int.toNat_natCast] at hQ
      have hol := op_len hT S (d := t) (by omega)
      have h12 := hT.2.2.1
      refine v_aload_n (pc := 21) 11 rfl rfl ?_
      refine v_iload_n (pc := 22) 12 rfl rfl ?_
      refine v_cV1 (pc := 23) 13 rfl cv_X12_307 rfl (Nat.le_of_ble_eq_true rfl) (Nat.le_of_ble_eq_true rfl) (m_laysOpen h (by omega)) (fun r9 N9 hq9 => ?_)
      obtain ⟨f, rfl, rfl, hf⟩ := hq9
      show V G (d + 8) mX12_laysBest (23 + 3) _ [] _ _
      have hR := h.sc (lo_sc M f (opN T S t (nK T)).length) (lo_ne (by decide))
      have hC := lo_sc M f (opN T S t (nK T)).length
      have e38 := lo_38 M f (opN T S t (nK T)).length
      have e77 := lo_77 M f (opN T S t (nK T)).length
      generalize loM M f (opN T S t (nK T)).length = N0 at hR hC e38 e77 ⊢
      have ea : min (n : Int) ((opN T S t (nK T)).length : Int) = ((askN T S t n : Nat) : Int) := by unfold askN; omega
      have hal : askN T S t n ≤ 5 ∧ askN T S t n ≤ (opN T S t (nK T)).length := by unfold askN; omega
      have hmem : ∀ x ∈ opN T S t (nK T), x < nK T := fun x hx => op_lt hx
      have hop : ∀ i, 0 ≤ i → i < askN T S t n → S.1 ((opN T S t (nK T)).getD i 0) = -1 ∧ S.2 ((opN T S t (nK T)).getD i 0) = -1 := by
        intro i _ hi
        have hm : (opN T S t (nK T)).getD i 0 ∈ opN T S t (nK T) := by rw [List.getD_eq_getElem?_getD, List.getElem?_eq_getElem (by omega)]; exact List.getElem_mem _
        have h1 := opN_mem hm
        rcases hS ((opN T S t (nK T)).getD i 0) (by omega) with q | q
        · exact q
        · omega
      have hnd : (opN T S t (nK T)).Nodup := opN_nodup (by omega) _ (fun k hk => (hT.2.2.2.2.1 k hk).2.2.1.1)
      have hB : bestC T S t n = fs T t (opN T S t (nK T)) (askN T S t n) 0 0 S g0 B0 := (fs_cs hT hmem _ _ _ _ _ _ (by omega)).symm
      rw [hB] at hQ
      generalize hl : opN T S t (nK T) = l at *
      generalize askN T S t n = a at *
      refine v_aload_n (pc := 26) 14 rfl rfl ?_
      refine v_iload_n (pc := 27) 15 rfl rfl ?_
      refine v_aload_n (pc := 28) 16 rfl rfl ?_
      refine v_getI (pc := 29) 17 rfl fl_X12_304 rfl ?_
      rw [e38]
      refine v_mmin (pc := 32) 18 rfl ml_X12_246 (by omega) (Nat.le_of_ble_eq_true rfl) ?_
      rw [ea]
      refine v_putI (pc := 35) 19 rfl fl_X12_319 rfl ?_
      refine v_aload_n (pc := 38) 20 rfl rfl ?_
      refine v_iconst (pc := 39) 21 rfl ?_
      refine v_putI (pc := 40) 22 rfl fl_X12_322 rfl ?_
      have hG : GS M (sI (sI N0 54 44 (a : Int)) 54 43 (-1)) T S a f B0 := by
        refine ⟨(hR.sc (sc_f _ (by decide)) (gI_sI_ne (by decide))).sc (sc_f _ (by decide)) (gI_sI_ne (by decide)), (hC.trans (sc_f _ (by decide))).trans (sc_f _ (by decide)), ?_, ?_, ?_, Or.inl rfl⟩
        · rw [gI_sI_ne (by decide), gI_sI_ne (by decide)]; exact e77
        · rw [gI_sI, if_pos rfl, if_neg (by decide), gI_sI, if_pos rfl, if_pos rfl]
        · rw [gI_sI, if_pos rfl, if_pos rfl]; rfl
      refine v_aload_n (pc := 43) 23 rfl rfl ?_
      refine v_iconst (pc := 44) 24 rfl ?_
      refine v_iconst (pc := 45) 25 rfl ?_
      refine v_iload_n (pc := 46) 26 rfl rfl ?_
      refine v_cV3 (pc := 47) 27 rfl cv_X12_334 rfl (Nat.le_of_ble_eq_true rfl) (Nat.le_of_ble_eq_true rfl) (m_goes hT hf hnd hmem hal (by omega) a 0 0 S g0 B0 _ (d + 7) (by omega) (by omega) hG ⟨⟨by show (-1 : Int) ≤ -1; omega, by show (-1 : Int) ≤ _; omega⟩, Or.inl rfl⟩ (by omega) (fun i hi => by omega) (fun i hi => by omega) hop) (fun r9 N9 hq9 => ?_)
      obtain ⟨rfl, hG2, -⟩ := hq9
      show V G (d + 8) mX12_laysBest (47 + 3) _ [] _ _
      refine v_iconst (pc := 50) 28 rfl ?_
      refine v_zret (pc := 51) 29 rfl rfl (by decide) (by rw [← hQ]; exact Or.inl ⟨by omega, rfl, f, hf, hG2⟩)
    · exact no (by omega)
theorem m_best (h : MR M A) {t k w : Int} (ht : -2147483648 ≤ t ∧ t ≤ 2147483647) (hk : -2147483648 ≤ k ∧ k ≤ 2147483647) (hw : -2147483648 ≤ w ∧ w ≤ 2147483647) : V G (d + 9) mX12_best 0 [some (.ref 54), some (.int (J t)), some (.int (J k)), some (.int (J w)), none, none, none] [] M (fun r N => r = some (.long (JL (sBest A t k w))) ∧ MR N A ∧ MF M N) := by
  have h0 := h.fld (f := 0) 0 (by decide)
  have hT := h.2.2.2.2.2.1
  have h6 := hT.2.1
  have no : ∀ N, ¬ (((0 ≤ t ∧ t ≤ 60) ∧ (0 ≤ k ∧ k ≤ 5)) ∧ (0 ≤ w ∧ w ≤ 2)) → MR N A → MF M N → V G (d + 9) mX12_best 26 [some (.ref 54), some (.int (J t)), some (.int (J k)), some (.int (J w)), none, none, none] [] N (fun r N => r = some (.long (JL (sBest A t k w))) ∧ MR N A ∧ MF M N) := by
    intro N hz hN hF
    unfold sBest
    rw [if_neg hz]
    refine v_ldc2J (pc := 26) 14 rfl kcLong_X12_344 (-1) (by decide) ?_
    refine v_lret (pc := 29) 15 rfl rfl ⟨rfl, hN, hF⟩
  refine v_aload_n (pc := 0) 0 rfl rfl ?_
  refine v_iconst (pc := 1) 1 rfl ?_
  refine v_putI (pc := 2) 2 rfl fl_X12_97 rfl ?_
  refine v_iload_n (pc := 5) 3 rfl rfl ?_
  refine v_i2l (pc := 6) 4 rfl (by omega) ?_
  refine v_lconst (pc := 7) 5 rfl ?_
  refine v_ldc2J (pc := 8) 6 rfl kcLong_X12_339 (2) (by decide) ?_
  refine v_cS3i (pc := 11) 7 rfl cs_X12_135 (Nat.le_of_ble_eq_true rfl) (Nat.le_of_ble_eq_true rfl) (m_within (by omega) (by decide) (by decide)) ?_
  refine v_if_eq (pc := 14) 8 26 rfl (by decide) (by omega) (fun e1 => ?_) (fun e1 => ?_)
  · exact no _ (by omega) h0 (mf_fld _ _ _)
  · refine v_aload_n (pc := 17) 9 rfl rfl ?_
    refine v_iload_n (pc := 18) 10 rfl rfl ?_
    refine v_iload_n (pc := 19) 11 rfl rfl ?_
    refine v_cV2 (pc := 20) 12 rfl cv_X12_341 rfl (Nat.le_of_ble_eq_true rfl) (Nat.le_of_ble_eq_true rfl) (m_laysBest h0.1 ht hk) (fun r9 N9 hq9 => ?_)
    rcases hq9 with ⟨z, rfl, f, hf, hG⟩ | ⟨z, rfl, rfl⟩
    · show V G (d + 9) mX12_best (20 + 3) _ [.int (J 1)] _ _
      have hN := h0.sc hG.2.1 hG.1 h.2.2.2.2.2.2.1.2
      have hF := (mf_fld M 0 0).trans hG.2.1.mf
      unfold sBest
      rw [if_pos ⟨z, by omega⟩]
      obtain ⟨n, rfl⟩ : ∃ n : Nat, k = (n : Int) := ⟨k.toNat, by omega⟩
      rw [Int.toNat_natCast] at hG ⊢
      obtain ⟨b1, b2, b3, b4⟩ := best_f hT (aS A) t (n := n) (by omega)
      have hn := hG.1.n
      obtain ⟨k1, k2⟩ : repI (gI N9 79) (bestC (aT A) (aS A) t n).2.1 ∧ ∀ i, i < askN (aT A) (aS A) t n → gI N9 81 i = (bestC (aT A) (aS A) t n).2.2 i := by
        rcases hG.2.2.2.2.2 with q | q
        · omega
        · exact q
      have e43 := hG.2.2.2.2.1
      generalize bestC (aT A) (aS A) t n = B at *
      have v1 : ∀ j, j < nJ (aT A) → gI N9 79 j = gd B.2.1 j := fun j hj => repI_get k1 (by rw [b2]; exact hj)
      refine v_if_neT (pc := 23) 13 30 rfl (by decide) (by omega) (by decide) ?_
      refine v_iload_n (pc := 30) 16 rfl rfl ?_
      refine v_if_ne (pc := 31) 17 40 rfl (by decide) (by omega) (fun e2 => ?_) (fun e2 => ?_)
      · rw [if_neg e2]
        refine v_iload_n (pc := 40) 22 rfl rfl ?_
        refine v_iconst (pc := 41) 23 rfl ?_
        refine v_ic_ne (pc := 42) 24 66 rfl (by decide) (by omega) (fun e3 => ?_) (fun e3 => ?_)
        · rw [if_neg e3]
          refine v_lconst (pc := 66) 38 rfl ?_
          refine v_lstore (pc := 67) 39 rfl ⟨Nat.le_of_ble_eq_true rfl, rfl⟩ ?_
          refine v_iconst (pc := 69) 40 rfl ?_
          refine v_istore (pc := 70) 41 rfl ⟨Nat.le_of_ble_eq_true rfl, rfl⟩ ?_
          refine loopN (N := nJ (aT A)) (fun i => V G (d + 9) mX12_best 72 [some (.ref 54), some (.int (J t)), some (.int (J (n : Int))), some (.int (J w)), some (.long (JL (sq (gd B.2.1) i))), none, some (.int (J (i : Int)))] [] N9 (fun r N => r = some (.long (JL (sq (gd B.2.1) (nJ (aT A))))) ∧ MR N A ∧ MF M N)) ?_ ?_
          · refine v_iload (pc := 72) 42 rfl rfl ?_
            refine v_aload_n (pc := 74) 43 rfl rfl ?_
            refine v_getC (pc := 75) 44 rfl fl_X12_17 rfl 57 rfl ?_
            refine v_iconst (pc := 78) 45 rfl ?_
            refine v_ialdN (kk := 0) (pc := 79) 46 rfl rfl (by decide) ?_
            refine v_ic_geT (pc := 80) 47 111 rfl (by decide) (by omega) (by omega) ?_
            refine v_lload (pc := 111) 64 rfl rfl ?_
            refine v_lret (pc := 113) 65 rfl rfl ⟨rfl, hN, hF⟩
          · intro i hi ih
            have v := v1 i hi
            have b := b3 i
            refine v_iload (pc := 72) 42 rfl rfl ?_
            refine v_aload_n (pc := 74) 43 rfl rfl ?_
            refine v_getC (pc := 75) 44 rfl fl_X12_17 rfl 57 rfl ?_
            refine v_iconst (pc := 78) 45 rfl ?_
            refine v_ialdN (kk := 0) (pc := 79) 46 rfl rfl (by decide) ?_
            refine v_ic_geF (pc := 80) 47 111 rfl (by decide) (by omega) (by omega) ?_
            refine v_lload (pc := 83) 48 rfl rfl ?_
            refine v_aload_n (pc := 85) 49 rfl rfl ?_
            refine v_getC (pc := 86) 50 rfl fl_X12_85 rfl 79 rfl ?_
            refine v_iload (pc := 89) 51 rfl rfl ?_
            refine v_ialdN (pc := 91) 52 rfl rfl (by omega) ?_
            refine v_i2l (pc := 92) 53 rfl (by omega) ?_
            refine v_aload_n (pc := 93) 54 rfl rfl ?_
            refine v_getC (pc := 94) 55 rfl fl_X12_85 rfl 79 rfl ?_
            refine v_iload (pc := 97) 56 rfl rfl ?_
            refine v_ialdN (pc := 99) 57 rfl rfl (by omega) ?_
            refine v_i2l (pc := 100) 58 rfl (by omega) ?_
            refine v_lmul (pc := 101) 59 rfl ?_
            refine v_ladd (pc := 102) 60 rfl ?_
            refine v_lstore (pc := 103) 61 rfl ⟨Nat.le_of_ble_eq_true rfl, rfl⟩ ?_
            refine v_iinc (pc := 105) 62 rfl rfl ⟨Nat.le_of_ble_eq_true rfl, rfl⟩ ?_
            refine v_goto (pc := 108) 63 72 rfl (by decide) ?_
            rw [v]
            exact ih
        · rw [if_pos (Decidable.not_not.mp e3)]
          refine v_aload_n (pc := 45) 25 rfl rfl ?_
          refine v_getC (pc := 46) 26 rfl fl_X12_17 rfl 57 rfl ?_
          refine v_iconst (pc := 49) 27 rfl ?_
          refine v_ialdN (kk := 0) (pc := 50) 28 rfl rfl (by decide) ?_
          refine v_if_ne (pc := 51) 29 58 rfl (by decide) (by omega) (fun e4 => ?_) (fun e4 => ?_)
          · have v := v1 0 (by omega)
            have b := b3 0
            refine v_aload_n (pc := 58) 32 rfl rfl ?_
            refine v_getC (pc := 59) 33 rfl fl_X12_85 rfl 79 rfl ?_
            refine v_iconst (pc := 62) 34 rfl ?_
            refine v_ialdN (kk := 0) (pc := 63) 35 rfl rfl (by decide) ?_
            rw [v]
            refine v_i2l (pc := 64) 36 rfl (by omega) ?_
            refine v_lret (pc := 65) 37 rfl rfl ⟨rfl, hN, hF⟩
          · have hz : gd B.2.1 0 = 0 := by
              have : B.2.1 = [] := List.length_eq_zero_iff.mp (by omega)
              rw [this]; rfl
            rw [hz]
            refine v_lconst (pc := 54) 30 rfl ?_
            refine v_goto (pc := 55) 31 65 rfl (by decide) ?_
            refine v_lret (pc := 65) 37 rfl rfl ⟨rfl, hN, hF⟩
      · rw [if_pos (Decidable.not_not.mp e2)]
        refine v_aload_n (pc := 34) 18 rfl rfl ?_
        refine v_getI (pc := 35) 19 rfl fl_X12_322 rfl ?_
        rw [e43]
        refine v_i2l (pc := 38) 20 rfl (by omega) ?_
        refine v_lret (pc := 39) 21 rfl rfl ⟨rfl, hN, hF⟩
    · show V G (d + 9) mX12_best (20 + 3) _ [.int (J 0)] _ _
      refine v_if_neF (pc := 23) 13 30 rfl (by decide) (by omega) (by decide) ?_
      exact no _ (fun q => z q.1) h0 (mf_fld _ _ _)
theorem m_bestOf (h : MR M A) {t k i : Int} (ht : -2147483648 ≤ t ∧ t ≤ 2147483647) (hk : -2147483648 ≤ k ∧ k ≤ 2147483647) (hi : -2147483648 ≤ i ∧ i ≤ 2147483647) : V G (d + 9) mX12_bestOf 0 [some (.ref 54), some (.int (J t)), some (.int (J k)), some (.int (J i))] [] M (fun r N => r = some (.int (J (sBestOf A t k i))) ∧ MR N A ∧ MF M N) := by
  have h0 := h.fld (f := 0) 0 (by decide)
  have hT := h.2.2.2.2.2.1
  unfold sBestOf
  refine v_aload_n (pc := 0) 0 rfl rfl ?_
  refine v_iconst (pc := 1) 1 rfl ?_
  refine v_putI (pc := 2) 2 rfl fl_X12_97 rfl ?_
  refine v_aload_n (pc := 5) 3 rfl rfl ?_
  refine v_iload_n (pc := 6) 4 rfl rfl ?_
  refine v_iload_n (pc := 7) 5 rfl rfl ?_
  refine v_cV2 (pc := 8) 6 rfl cv_X12_341 rfl (Nat.le_of_ble_eq_true rfl) (Nat.le_of_ble_eq_true rfl) (m_laysBest h0.1 ht hk) (fun r9 N9 hq9 => ?_)
  rcases hq9 with ⟨z, rfl, f, hf, hG⟩ | ⟨z, rfl, rfl⟩
  · show V G (d + 9) mX12_bestOf (8 + 3) _ [.int (J 1)] _ _
    have hN := h0.sc hG.2.1 hG.1 h.2.2.2.2.2.2.1.2
    have hF := (mf_fld M 0 0).trans hG.2.1.mf
    rw [if_pos z]
    obtain ⟨n, rfl⟩ : ∃ n : Nat, k = (n : Int) := ⟨k.toNat, by omega⟩
    rw [Int.toNat_natCast] at hG ⊢
    obtain ⟨b1, b2, b3, b4⟩ := best_f hT (aS A) t (n := n) (by omega)
    obtain ⟨k1, k2⟩ : repI (gI N9 79) (bestC (aT A) (aS A) t n).2.1 ∧ ∀ i, i < askN (aT A) (aS A) t n → gI N9 81 i = (bestC (aT A) (aS A) t n).2.2 i := by
      rcases hG.2.2.2.2.2 with q | q
      · omega
      · exact q
    have e44 := hG.2.2.2.1
    have ha5 : askN (aT A) (aS A) t n ≤ 5 := by unfold askN; omega
    generalize bestC (aT A) (aS A) t n = B at *
    generalize askN (aT A) (aS A) t n = a at *
    refine v_if_eqF (pc := 11) 7 39 rfl (by decide) (by omega) (by decide) ?_
    refine v_iload_n (pc := 14) 8 rfl rfl ?_
    refine v_i2l (pc := 15) 9 rfl (by omega) ?_
    refine v_lconst (pc := 16) 10 rfl ?_
    refine v_aload_n (pc := 17) 11 rfl rfl ?_
    refine v_getI (pc := 18) 12 rfl fl_X12_319 rfl ?_
    refine v_iconst (pc := 21) 13 rfl ?_
    refine v_isub (pc := 22) 14 rfl ?_
    refine v_i2l (pc := 23) 15 rfl (by omega) ?_
    refine v_cS3i (pc := 24) 16 rfl cs_X12_135 (Nat.le_of_ble_eq_true rfl) (Nat.le_of_ble_eq_true rfl) (m_within (by omega) (by decide) (by omega)) ?_
    refine v_if_eq (pc := 27) 17 39 rfl (by decide) (by omega) (fun e1 => ?_) (fun e1 => ?_)
    · rw [if_neg (by omega)]
      refine v_bipush (pc := 39) 23 rfl (by decide) ?_
      refine v_iret (pc := 41) 24 rfl rfl ⟨rfl, hN, hF⟩
    · rw [if_pos (by omega)]
      obtain ⟨i1, rfl⟩ : ∃ i1 : Nat, i = (i1 : Int) := ⟨i.toNat, by omega⟩
      rw [Int.toNat_natCast]
      have v := k2 i1 (by omega)
      refine v_aload_n (pc := 30) 18 rfl rfl ?_
      refine v_getC (pc := 31) 19 rfl fl_X12_91 rfl 81 rfl ?_
      refine v_iload_n (pc := 34) 20 rfl rfl ?_
      refine v_ialdN (pc := 35) 21 rfl rfl (by omega) ?_
      rw [v]
      refine v_goto (pc := 36) 22 41 rfl (by decide) ?_
      refine v_iret (pc := 41) 24 rfl rfl ⟨rfl, hN, hF⟩
  · show V G (d + 9) mX12_bestOf (8 + 3) _ [.int (J 0)] _ _
    rw [if_neg z]
    refine v_if_eqT (pc := 11) 7 39 rfl (by decide) (by omega) (by decide) ?_
    refine v_bipush (pc := 39) 23 rfl (by decide) ?_
    refine v_iret (pc := 41) 24 rfl rfl ⟨rfl, h0, mf_fld _ _ _⟩
theorem m_take (h : MR M A) {t k : Int} (ht : -2147483648 ≤ t ∧ t ≤ 2147483647) (hk : -2147483648 ≤ k ∧ k ≤ 2147483647) : V G (d + 9) mX12_take 0 [some (.ref 54), some (.int (J t)), some (.int (J k)), none] [] M (fun r N => r = some (.int (J (sTake A t k).1)) ∧ MR N (sTake A t k).2 ∧ MF M N) := by
  have h0 := h.fld (f := 0) 0 (by decide)
  have hT := h.2.2.2.2.2.1
  have hS := h.2.2.2.2.2.2.1.1
  unfold sTake
  refine v_aload_n (pc := 0) 0 rfl rfl ?_
  refine v_iconst (pc := 1) 1 rfl ?_
  refine v_putI (pc := 2) 2 rfl fl_X12_97 rfl ?_
  refine v_aload_n (pc := 5) 3 rfl rfl ?_
  refine v_iload_n (pc := 6) 4 rfl rfl ?_
  refine v_iload_n (pc := 7) 5 rfl rfl ?_
  refine v_cV2 (pc := 8) 6 rfl cv_X12_341 rfl (Nat.le_of_ble_eq_true rfl) (Nat.le_of_ble_eq_true rfl) (m_laysBest h0.1 ht hk) (fun r9 N9 hq9 => ?_)
  rcases hq9 with ⟨z, rfl, f, hf, hG⟩ | ⟨z, rfl, rfl⟩
  · show V G (d + 9) mX12_take (8 + 3) _ [.int (J 1)] _ _
    have hN := h0.sc hG.2.1 hG.1 h.2.2.2.2.2.2.1.2
    have hF := (mf_fld M 0 0).trans hG.2.1.mf
    rw [if_pos z]
    obtain ⟨n, rfl⟩ : ∃ n : Nat, k = (n : Int) := ⟨k.toNat, by omega⟩
    rw [Int.toNat_natCast] at hG ⊢
    obtain ⟨b1, b2, b3, b4⟩ := best_f hT (aS A) t (n := n) (by omega)
    obtain ⟨k1, k2⟩ : repI (gI N9 79) (bestC (aT A) (aS A) t n).2.1 ∧ ∀ i, i < askN (aT A) (aS A) t n → gI N9 81 i = (bestC (aT A) (aS A) t n).2.2 i := by
      rcases hG.2.2.2.2.2 with q | q
      · omega
      · exact q
    obtain ⟨-, -, e77, e44, e43, -⟩ := id hG
    have hol := op_len hT (aS A) (d := t) (by omega)
    have h12 := hT.2.2.1
    have h6 := hT.2.1
    have ha5 : askN (aT A) (aS A) t n ≤ 5 ∧ askN (aT A) (aS A) t n ≤ (opN (aT A) (aS A) t (nK (aT A))).length := by unfold askN; omega
    have hmem : ∀ x ∈ opN (aT A) (aS A) t (nK (aT A)), x < nK (aT A) := fun x hx => op_lt hx
    have hopn : ∀ x ∈ opN (aT A) (aS A) t (nK (aT A)), (aS A).1 x = -1 ∧ (aS A).2 x = -1 := by
      intro x hx
      have h1 := opN_mem hx
      rcases hS x (by omega) with q | q
      · exact q
      · omega
    have hnd : (opN (aT A) (aS A) t (nK (aT A))).Nodup := opN_nodup (by omega) _ (fun k hk => (hT.2.2.2.2.1 k hk).2.2.1.1)
    generalize bestC (aT A) (aS A) t n = B at *
    generalize askN (aT A) (aS A) t n = a at *
    generalize hl : opN (aT A) (aS A) t (nK (aT A)) = l at *
    refine v_if_neT (pc := 11) 7 16 rfl (by decide) (by omega) (by decide) ?_
    refine v_aload_n (pc := 16) 10 rfl rfl ?_
    refine v_cV0 (pc := 17) 11 rfl cv_X12_297 rfl (Nat.le_of_ble_eq_true rfl) (Nat.le_of_ble_eq_true rfl) (m_keeps2 hN) (fun r9 N9 hq9 => ?_)
    obtain ⟨rfl, hP, hF2, fr, fi9⟩ := hq9
    show V G (d + 9) mX12_take (17 + 3) _ [] _ _
    have hF := hF.trans hF2
    have e77 := (fr 77 (by decide) (by decide)).trans e77
    have e81 : ∀ i, i < a → gI N9 81 i = B.2.2 i := fun i hi => by rw [fr 81 (by decide) (by decide)]; exact k2 i hi
    have e44 := (fi9 44 (by decide)).trans e44
    have e43 := (fi9 43 (by decide)).trans e43
    have hP : MR N9 (A.1, aT A, plA l B.2.2 t (aS A) 0, push (aU A) (aS A), aK A) := hP
    generalize hQ : (fun (r : Option Value) (N : Mem) => r = some (.int (J B.1)) ∧ MR N (A.1, aT A, plA l B.2.2 t (aS A) a, push (aU A) (aS A), aK A) ∧ MF M N) = Q
    refine v_iconst (pc := 20) 12 rfl ?_
    refine v_istore_n (pc := 21) 13 rfl ⟨Nat.le_of_ble_eq_true rfl, rfl⟩ ?_
    refine loopN (N := a) (fun i => ∀ N, MR N (A.1, aT A, plA l B.2.2 t (aS A) i, push (aU A) (aS A), aK A) → MF M N → gI N 77 = f → (∀ i, i < a → gI N 81 i = B.2.2 i) → gI N 54 44 = (a : Int) → gI N 54 43 = B.1 → V G (d + 9) mX12_take 22 [some (.ref 54), some (.int (J t)), some (.int (J (n : Int))), some (.int (J (i : Int)))] [] N Q) ?_ ?_ N9 hP hF e77 e81 e44 e43
    · intro N hN hF e77 e81 e44 e43
      refine v_iload_n (pc := 22) 14 rfl rfl ?_
      refine v_aload_n (pc := 23) 15 rfl rfl ?_
      refine v_getI (pc := 24) 16 rfl fl_X12_319 rfl ?_
      refine v_ic_geT (pc := 27) 17 53 rfl (by decide) (by omega) (by omega) ?_
      refine v_aload_n (pc := 53) 31 rfl rfl ?_
      refine v_getI (pc := 54) 32 rfl fl_X12_322 rfl ?_
      rw [e43]
      refine v_iret (pc := 57) 33 rfl rfl (by rw [← hQ]; exact ⟨rfl, hN, hF⟩)
    · intro i hi ih N hN hF e77 e81 e44 e43
      have hm : l.getD i 0 ∈ l := by rw [List.getD_eq_getElem?_getD, List.getElem?_eq_getElem (by omega)]; exact List.getElem_mem _
      have hx := hmem _ hm
      have v77 : gI N 77 i = ((l.getD i 0 : Nat) : Int) := by rw [e77]; exact rep_get hf (by omega)
      have v81 := e81 i hi
      have hgi := b4 i hi
      have un := plA_un hnd B.2.2 t (aS A) i i (Nat.le_refl _) (by omega)
      rw [(hopn _ hm).1, (hopn _ hm).2] at un
      have ok := plA_ok (d := t) hS hmem ha5.2 b4 (by omega) i (by omega)
      have ok1 := plA_ok (d := t) hS hmem ha5.2 b4 (by omega) (i + 1) (by omega)
      have eP : plA l B.2.2 t (aS A) (i + 1) = setS (plA l B.2.2 t (aS A) i) (l.getD i 0) (B.2.2 i) (if B.2.2 i = -1 then -1 else t) := by
        show (if B.2.2 i = -1 then plA l B.2.2 t (aS A) i else setS (plA l B.2.2 t (aS A) i) (l.getD i 0) (B.2.2 i) t) = _
        by_cases q : B.2.2 i = -1
        · rw [if_pos q, if_pos q, q]
          have := set_self (plA l B.2.2 t (aS A) i) (l.getD i 0)
          rw [un.1, un.2] at this
          exact this.symm
        · rw [if_neg q, if_neg q]
      rw [eP] at ih ok1
      have hM := hN.ms (k := l.getD i 0) (j := B.2.2 i) (t := t) (by omega) ok1
      have := ih _ hM (hF.trans (ms_mf _ _ _ _)) (by rw [ms_ne (by decide)]; exact e77) (fun i hi => by rw [ms_ne (by decide)]; exact e81 i hi) (by rw [ms_ne (by decide)]; exact e44) (by rw [ms_ne (by decide)]; exact e43)
      generalize l.getD i 0 = x at *
      refine v_iload_n (pc := 22) 14 rfl rfl ?_
      refine v_aload_n (pc := 23) 15 rfl rfl ?_
      refine v_getI (pc := 24) 16 rfl fl_X12_319 rfl ?_
      refine v_ic_geF (pc := 27) 17 53 rfl (by decide) (by omega) (by omega) ?_
      refine v_aload_n (pc := 30) 18 rfl rfl ?_
      refine v_aload_n (pc := 31) 19 rfl rfl ?_
      refine v_getC (pc := 32) 20 rfl fl_X12_79 rfl 77 rfl ?_
      refine v_iload_n (pc := 35) 21 rfl rfl ?_
      refine v_ialdN (pc := 36) 22 rfl rfl (by omega) ?_
      rw [v77]
      refine v_aload_n (pc := 37) 23 rfl rfl ?_
      refine v_getC (pc := 38) 24 rfl fl_X12_91 rfl 81 rfl ?_
      refine v_iload_n (pc := 41) 25 rfl rfl ?_
      refine v_ialdN (pc := 42) 26 rfl rfl (by omega) ?_
      rw [v81]
      refine v_iload_n (pc := 43) 27 rfl rfl ?_
      refine v_cV3v (pc := 44) 28 rfl cv_X12_300 rfl (Nat.le_of_ble_eq_true rfl) (Nat.le_of_ble_eq_true rfl) (m_sets (by omega) (by omega)) ?_
      refine v_iinc (pc := 47) 29 rfl rfl ⟨Nat.le_of_ble_eq_true rfl, rfl⟩ ?_
      refine v_goto (pc := 50) 30 22 rfl (by decide) ?_
      exact this
  · show V G (d + 9) mX12_take (8 + 3) _ [.int (J 0)] _ _
    rw [if_neg z]
    refine v_if_neF (pc := 11) 7 16 rfl (by decide) (by omega) (by decide) ?_
    refine v_iconst (pc := 14) 8 rfl ?_
    refine v_iret (pc := 15) 9 rfl rfl ⟨rfl, h0, mf_fld _ _ _⟩
end MBest2
