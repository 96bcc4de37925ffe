/-! 52: the reference: a day gone through; go -/
section MGo
variable {G : Gt} {d : Nat} {M N : Mem} {T : Tx} {S : Sx} {A : Ax}
theorem m_passes (h : RI M T S) {dd : Int} (hd : 0 ≤ dd ∧ dd ≤ 60) : V G (d + 2) mX12_passes 0 [some (.ref 54), some (.int (J dd)), none, none, none, none] [] M (fun r N => r = some (.int (J (goD T S dd).1)) ∧ RI N T (goD T S dd).2 ∧ SC M N) := by
  have hT := h.2.2.2.2.2.1
  have hS := h.2.2.2.2.2.2
  have hol := op_len hT S hd.1
  have h12 := hT.2.2.1
  unfold goD
  refine v_aload_n (pc := 0) 0 rfl rfl ?_
  refine v_iload_n (pc := 1) 1 rfl rfl ?_
  refine v_cV1 (pc := 2) 2 rfl cv_X12_307 rfl (Nat.le_of_ble_eq_true rfl) (Nat.le_of_ble_eq_true rfl) (m_laysOpen h hd) (fun r9 N9 hq9 => ?_)
  obtain ⟨f, rfl, rfl, hf⟩ := hq9
  have hmem : ∀ x ∈ opN T S dd (nK T), x < nK T := fun x hx => op_lt hx
  show V G (d + 2) mX12_passes (2 + 3) _ [] _ _
  have hN := h.sc (lo_sc M f (opN T S dd (nK T)).length) (lo_ne (by decide))
  have hF := lo_sc M f (opN T S dd (nK T)).length
  have e38 := lo_38 M f (opN T S dd (nK T)).length
  have e77 := lo_77 M f (opN T S dd (nK T)).length
  generalize loM M f (opN T S dd (nK T)).length = N0 at hN hF e38 e77 ⊢
  generalize hl : opN T S dd (nK T) = l at hol hf hmem e38 e77 ⊢
  generalize hQ : (fun (r : Option Value) (N : Mem) => r = some (.int (J (gt T dd l S l.length).1)) ∧ RI N T (gt T dd l S l.length).2 ∧ SC M N) = Q
  refine v_iconst (pc := 5) 3 rfl ?_
  refine v_istore_n (pc := 6) 4 rfl ⟨Nat.le_of_ble_eq_true rfl, rfl⟩ ?_
  refine v_iconst (pc := 7) 5 rfl ?_
  refine v_istore_n (pc := 8) 6 rfl ⟨Nat.le_of_ble_eq_true rfl, rfl⟩ ?_
  refine loopN (N := l.length) (fun i => ∀ N u v, RI N T (gt T dd l S i).2 → SC M N → gI N 54 38 = (l.length : Int) → gI N 77 = f → V G (d + 2) mX12_passes 9 [some (.ref 54), some (.int (J dd)), some (.int (J (gt T dd l S i).1)), some (.int (J (i : Int))), u, v] [] N Q) ?_ ?_ N0 none none hN hF e38 e77
  · intro N u v hN hF e38 e77
    refine v_iload_n (pc := 9) 7 rfl rfl ?_
    refine v_aload_n (pc := 10) 8 rfl rfl ?_
    refine v_getI (pc := 11) 9 rfl fl_X12_304 rfl ?_
    refine v_ic_geT (pc := 14) 10 112 rfl (by decide) (by omega) (by omega) ?_
    refine v_iload_n (pc := 112) 59 rfl rfl ?_
    refine v_iret (pc := 113) 60 rfl rfl (by rw [← hQ]; exact ⟨rfl, hN, hF⟩)
  · intro i hi ih N u v hN hF e38 e77
    obtain ⟨o1, o2, o3⟩ := gt_ok hd hmem hS i (by omega)
    have hx : l.getD i 0 < nK T := hmem _ (by rw [List.getD_eq_getElem?_getD, List.getElem?_eq_getElem hi]; exact List.getElem_mem _)
    have eG : gt T dd l S (i + 1) = if lst T (gt T dd l S i).2 (l.getD i 0) dd (nJ T) = -1 then gt T dd l S i else ((gt T dd l S i).1 + 1, setS (gt T dd l S i).2 (l.getD i 0) (lst T (gt T dd l S i).2 (l.getD i 0) dd (nJ T)) dd) := rfl
    have hfx : gI N 77 i = ((l.getD i 0 : Nat) : Int) := by rw [e77]; exact rep_get hf hi
    generalize hg : gt T dd l S i = g at hN o1 o2 o3 eG ⊢
    generalize hk9 : l.getD i 0 = k at hx eG hfx
    have hn := hN.n
    refine v_iload_n (pc := 9) 7 rfl rfl ?_
    refine v_aload_n (pc := 10) 8 rfl rfl ?_
    refine v_getI (pc := 11) 9 rfl fl_X12_304 rfl ?_
    refine v_ic_geF (pc := 14) 10 112 rfl (by decide) (by omega) (by omega) ?_
    refine v_iconst (pc := 17) 11 rfl ?_
    refine v_istore (pc := 18) 12 rfl ⟨Nat.le_of_ble_eq_true rfl, rfl⟩ ?_
    refine v_iconst (pc := 20) 13 rfl ?_
    refine v_istore (pc := 21) 14 rfl ⟨Nat.le_of_ble_eq_true rfl, rfl⟩ ?_
    refine loopN (N := nJ T) (fun j => V G (d + 2) mX12_passes 23 [some (.ref 54), some (.int (J dd)), some (.int (J g.1)), some (.int (J (i : Int))), some (.int (J (lst T g.2 k dd j))), some (.int (J (j : Int)))] [] N Q) ?_ ?_
    · have hb := lst_b T g.2 k dd (nJ T)
      generalize hw : lst T g.2 k dd (nJ T) = w at hb eG ⊢
      refine v_iload (pc := 23) 15 rfl rfl ?_
      refine v_aload_n (pc := 25) 16 rfl rfl ?_
      refine v_getC (pc := 26) 17 rfl fl_X12_17 rfl 57 rfl ?_
      refine v_iconst (pc := 29) 18 rfl ?_
      refine v_ialdN (kk := 0) (pc := 30) 19 rfl rfl (by decide) ?_
      refine v_ic_geT (pc := 31) 20 82 rfl (by decide) (by omega) (by omega) ?_
      refine v_iload (pc := 82) 45 rfl rfl ?_
      refine v_if_ge (pc := 84) 46 90 rfl (by decide) (by omega) (fun e1 => ?_) (fun e1 => ?_)
      · rw [if_neg (by omega)] at eG
        have hw1 : ¬ (w = -1) := by omega
        have hM := hN.ms (k := k) (j := w) (t := dd) (by omega) (o1.set (Or.inr ⟨hx, by omega, by rw [if_neg hw1]; exact hd⟩))
        rw [if_neg hw1] at hM
        rw [eG] at ih
        refine v_aload_n (pc := 90) 48 rfl rfl ?_
        refine v_aload_n (pc := 91) 49 rfl rfl ?_
        refine v_getC (pc := 92) 50 rfl fl_X12_79 rfl 77 rfl ?_
        refine v_iload_n (pc := 95) 51 rfl rfl ?_
        refine v_ialdN (pc := 96) 52 rfl rfl (by omega) ?_
        rw [hfx]
        refine v_iload (pc := 97) 53 rfl rfl ?_
        refine v_iload_n (pc := 99) 54 rfl rfl ?_
        refine v_cV3v (pc := 100) 55 rfl cv_X12_300 rfl (Nat.le_of_ble_eq_true rfl) (Nat.le_of_ble_eq_true rfl) (m_sets (by omega) (by omega)) ?_
        refine v_iinc (pc := 103) 56 rfl rfl ⟨Nat.le_of_ble_eq_true rfl, rfl⟩ ?_
        refine v_iinc (pc := 106) 57 rfl rfl ⟨Nat.le_of_ble_eq_true rfl, rfl⟩ ?_
        refine v_goto (pc := 109) 58 9 rfl (by decide) ?_
        exact ih _ _ _ hM (hF.trans (sc_ms _ _ _ _)) (by rw [ms_ne (by decide)]; exact e38) (by rw [ms_ne (by decide)]; exact e77)
      · rw [if_pos (by omega)] at eG
        rw [eG] at ih
        refine v_goto (pc := 87) 47 106 rfl (by decide) ?_
        refine v_iinc (pc := 106) 57 rfl rfl ⟨Nat.le_of_ble_eq_true rfl, rfl⟩ ?_
        refine v_goto (pc := 109) 58 9 rfl (by decide) ?_
        exact ih _ _ _ hN hF e38 e77
    · intro j hj ihj
      have hb := lst_b T g.2 k dd j
      have hm : lst T g.2 k dd (j + 1) = if whyS T g.2 k j dd = 0 ∧ (lst T g.2 k dd j = -1 ∨ rat T g.2 j (lst T g.2 k dd j).toNat k = true) then (j : Int) else lst T g.2 k dd j := rfl
      have hwb := whyS_b T g.2 k j dd
      have cw := m_whyOf (G := G) (d := d) hN hx hj hd
      refine v_iload (pc := 23) 15 rfl rfl ?_
      refine v_aload_n (pc := 25) 16 rfl rfl ?_
      refine v_getC (pc := 26) 17 rfl fl_X12_17 rfl 57 rfl ?_
      refine v_iconst (pc := 29) 18 rfl ?_
      refine v_ialdN (kk := 0) (pc := 30) 19 rfl rfl (by decide) ?_
      refine v_ic_geF (pc := 31) 20 82 rfl (by decide) (by omega) (by omega) ?_
      refine v_aload_n (pc := 34) 21 rfl rfl ?_
      refine v_aload_n (pc := 35) 22 rfl rfl ?_
      refine v_getC (pc := 36) 23 rfl fl_X12_79 rfl 77 rfl ?_
      refine v_iload_n (pc := 39) 24 rfl rfl ?_
      refine v_ialdN (pc := 40) 25 rfl rfl (by omega) ?_
      rw [hfx]
      refine v_iload (pc := 41) 26 rfl rfl ?_
      refine v_iload_n (pc := 43) 27 rfl rfl ?_
      refine v_cV3i (pc := 44) 28 rfl cv_X12_293 rfl (Nat.le_of_ble_eq_true rfl) (Nat.le_of_ble_eq_true rfl) (cw) ?_
      refine v_if_ne (pc := 47) 29 76 rfl (by decide) (by omega) (fun e1 => ?_) (fun e1 => ?_)
      · rw [hm, if_neg (fun z => e1 z.1)] at ihj
        refine v_iinc (pc := 76) 43 rfl rfl ⟨Nat.le_of_ble_eq_true rfl, rfl⟩ ?_
        refine v_goto (pc := 79) 44 23 rfl (by decide) ?_
        exact ihj
      · have e1 := Decidable.not_not.mp e1
        refine v_iload (pc := 50) 30 rfl rfl ?_
        refine v_if_lt (pc := 52) 31 72 rfl (by decide) (by omega) (fun e2 => ?_) (fun e2 => ?_)
        · rw [hm, if_pos ⟨e1, Or.inl (by omega)⟩] at ihj
          refine v_iload (pc := 72) 41 rfl rfl ?_
          refine v_istore (pc := 74) 42 rfl ⟨Nat.le_of_ble_eq_true rfl, rfl⟩ ?_
          refine v_iinc (pc := 76) 43 rfl rfl ⟨Nat.le_of_ble_eq_true rfl, rfl⟩ ?_
          refine v_goto (pc := 79) 44 23 rfl (by decide) ?_
          exact ihj
        · obtain ⟨b, hb9⟩ : ∃ b : Nat, lst T g.2 k dd j = (b : Int) := ⟨(lst T g.2 k dd j).toNat, by omega⟩
          rw [hb9] at hm ⊢
          rw [Int.toNat_natCast] at hm
          have cb := m_isBetter (G := G) (d := d) hN (k := k) (j := j) (b := b) hx hj (by omega)
          have hbr := b2i_r (rat T g.2 j b k)
          refine v_aload_n (pc := 55) 32 rfl rfl ?_
          refine v_aload_n (pc := 56) 33 rfl rfl ?_
          refine v_getC (pc := 57) 34 rfl fl_X12_79 rfl 77 rfl ?_
          refine v_iload_n (pc := 60) 35 rfl rfl ?_
          refine v_ialdN (pc := 61) 36 rfl rfl (by omega) ?_
          rw [hfx]
          refine v_iload (pc := 62) 37 rfl rfl ?_
          refine v_iload (pc := 64) 38 rfl rfl ?_
          refine v_cV3i (pc := 66) 39 rfl cv_X12_313 rfl (Nat.le_of_ble_eq_true rfl) (Nat.le_of_ble_eq_true rfl) (cb) ?_
          refine v_if_eq (pc := 69) 40 76 rfl (by decide) (by omega) (fun e3 => ?_) (fun e3 => ?_)
          · rw [hm, if_neg (by intro z; rcases z.2 with z | z; omega; rw [z] at e3; exact absurd e3 (by decide))] at ihj
            refine v_iinc (pc := 76) 43 rfl rfl ⟨Nat.le_of_ble_eq_true rfl, rfl⟩ ?_
            refine v_goto (pc := 79) 44 23 rfl (by decide) ?_
            exact ihj
          · have e3 : rat T g.2 j b k = true := by
              cases q : rat T g.2 j b k with
              | true => rfl
              | false => rw [q] at e3; exact absurd rfl e3
            rw [hm, if_pos ⟨e1, Or.inr e3⟩] at ihj
            refine v_iload (pc := 72) 41 rfl rfl ?_
            refine v_istore (pc := 74) 42 rfl ⟨Nat.le_of_ble_eq_true rfl, rfl⟩ ?_
            refine v_iinc (pc := 76) 43 rfl rfl ⟨Nat.le_of_ble_eq_true rfl, rfl⟩ ?_
            refine v_goto (pc := 79) 44 23 rfl (by decide) ?_
            exact ihj
theorem m_go (h : MR M A) {a b : Int} (ha : -2147483648 ≤ a ∧ a ≤ 2147483647) (hb : -2147483648 ≤ b ∧ b ≤ 2147483647) : V G (d + 3) mX12_go 0 [some (.ref 54), some (.int (J a)), some (.int (J b)), none, none] [] M (fun r N => r = some (.int (J (sGo A a b).1)) ∧ MR N (sGo A a b).2 ∧ MF M N) := by
  have h0 := h.fld (f := 0) 0 (by decide)
  have no : ¬ ((0 ≤ a ∧ a ≤ 60) ∧ (0 ≤ b ∧ b ≤ 60) ∧ a ≤ b) → V G (d + 3) mX12_go 24 [some (.ref 54), some (.int (J a)), some (.int (J b)), none, none] [] (sI M 54 0 0) (fun r N => r = some (.int (J (sGo A a b).1)) ∧ MR N (sGo A a b).2 ∧ MF M N) := by
    intro hz
    unfold sGo
    rw [if_neg hz]
    refine v_iconst (pc := 24) 12 rfl ?_
    refine v_iret (pc := 25) 13 rfl rfl ⟨rfl, h0, mf_fld _ _ _⟩
  refine v_aload_n (pc := 0) 0 rfl rfl ?_
  refine v_iconst (pc := 1) 1 rfl ?_
  refine v_putI (pc := 2) 2 rfl fl_X12_97 rfl ?_
  refine v_iload_n (pc := 5) 3 rfl rfl ?_
  refine v_cS1i (pc := 6) 4 rfl cs_X12_290 (Nat.le_of_ble_eq_true rfl) (Nat.le_of_ble_eq_true rfl) (m_isDay ha) ?_
  refine v_if_eq (pc := 9) 5 24 rfl (by decide) (by omega) (fun e1 => ?_) (fun e1 => ?_)
  · exact no (by omega)
  · refine v_iload_n (pc := 12) 6 rfl rfl ?_
    refine v_cS1i (pc := 13) 7 rfl cs_X12_290 (Nat.le_of_ble_eq_true rfl) (Nat.le_of_ble_eq_true rfl) (m_isDay hb) ?_
    refine v_if_eq (pc := 16) 8 24 rfl (by decide) (by omega) (fun e2 => ?_) (fun e2 => ?_)
    · exact no (by omega)
    · refine v_iload_n (pc := 19) 9 rfl rfl ?_
      refine v_iload_n (pc := 20) 10 rfl rfl ?_
      refine v_ic_ge (pc := 21) 11 26 rfl (by decide) (by omega) (fun e3 => ?_) (fun e3 => ?_)
      · unfold sGo
        rw [if_pos (by omega)]
        refine v_aload_n (pc := 26) 14 rfl rfl ?_
        refine v_cV0 (pc := 27) 15 rfl cv_X12_297 rfl (Nat.le_of_ble_eq_true rfl) (Nat.le_of_ble_eq_true rfl) (m_keeps h0) (fun r9 N9 hq9 => ?_)
        obtain ⟨rfl, hN, hF⟩ := hq9
        show V G (d + 3) mX12_go (27 + 3) _ [] _ _
        have hF := (mf_fld M 0 0).trans hF
        obtain ⟨n, hn⟩ : ∃ n : Nat, (b - a + 1).toNat = n := ⟨_, rfl⟩
        rw [hn]
        generalize hQ : (fun (r : Option Value) (N : Mem) => r = some (.int (J (goR (aT A) (aS A) a n).1)) ∧ MR N (A.1, aT A, (goR (aT A) (aS A) a n).2, push (aU A) (aS A), aK A) ∧ MF M N) = Q
        refine v_iconst (pc := 30) 16 rfl ?_
        refine v_istore_n (pc := 31) 17 rfl ⟨Nat.le_of_ble_eq_true rfl, rfl⟩ ?_
        refine v_iload_n (pc := 32) 18 rfl rfl ?_
        refine v_istore (pc := 33) 19 rfl ⟨Nat.le_of_ble_eq_true rfl, rfl⟩ ?_
        have loop := loopN (N := n) (fun i => ∀ N, MR N (A.1, aT A, (goR (aT A) (aS A) a i).2, push (aU A) (aS A), aK A) → MF M N → V G (d + 3) mX12_go 35 [some (.ref 54), some (.int (J a)), some (.int (J b)), some (.int (J (goR (aT A) (aS A) a i).1)), some (.int (J (a + (i : Int))))] [] N Q) ?_ ?_ _ hN hF
        · rw [show a + ((0 : Nat) : Int) = a by omega] at loop
          exact loop
        · intro N hN hF
          refine v_iload (pc := 35) 20 rfl rfl ?_
          refine v_iload_n (pc := 37) 21 rfl rfl ?_
          refine v_ic_gtT (pc := 38) 22 56 rfl (by decide) (by omega) (by omega) ?_
          refine v_iload_n (pc := 56) 31 rfl rfl ?_
          refine v_iret (pc := 57) 32 rfl rfl (by rw [← hQ]; exact ⟨rfl, hN, hF⟩)
        · intro i hi ih N hN hF
          obtain ⟨g1, g2, g3, g4⟩ := goR_ok (a := a) h.2.2.2.2.2.1 h.2.2.2.2.2.2.1.1 h.2.2.2.2.2.2.1.2 (by omega) i (by omega)
          obtain ⟨k1, k2, k3, k4⟩ := goD_ok (d := a + i) h.2.2.2.2.2.1 (by omega) g1 g2
          have eS : goR (aT A) (aS A) a (i + 1) = ((goR (aT A) (aS A) a i).1 + (goD (aT A) (goR (aT A) (aS A) a i).2 (a + i)).1, (goD (aT A) (goR (aT A) (aS A) a i).2 (a + i)).2) := rfl
          rw [eS] at ih
          refine v_iload (pc := 35) 20 rfl rfl ?_
          refine v_iload_n (pc := 37) 21 rfl rfl ?_
          refine v_ic_gtF (pc := 38) 22 56 rfl (by decide) (by omega) (by omega) ?_
          refine v_iload_n (pc := 41) 23 rfl rfl ?_
          refine v_aload_n (pc := 42) 24 rfl rfl ?_
          refine v_iload (pc := 43) 25 rfl rfl ?_
          refine v_cV1 (pc := 45) 26 rfl cv_X12_316 rfl (Nat.le_of_ble_eq_true rfl) (Nat.le_of_ble_eq_true rfl) (m_passes hN.1 (by omega)) (fun r9 N9 hq9 => ?_)
          obtain ⟨rfl, hR, hC⟩ := hq9
          have hN2 := hN.sc hC hR k2
          have := ih _ hN2 (hF.trans hC.mf)
          rw [show a + ((i + 1 : Nat) : Int) = a + (i : Int) + 1 by omega] at this
          show V G (d + 3) mX12_go (45 + 3) _ [_, _] _ _
          refine v_iadd (pc := 48) 27 rfl ?_
          refine v_istore_n (pc := 49) 28 rfl ⟨Nat.le_of_ble_eq_true rfl, rfl⟩ ?_
          refine v_iinc (pc := 50) 29 rfl rfl ⟨Nat.le_of_ble_eq_true rfl, rfl⟩ ?_
          refine v_goto (pc := 53) 30 35 rfl (by decide) ?_
          exact this
      · exact no (by omega)
end MGo
