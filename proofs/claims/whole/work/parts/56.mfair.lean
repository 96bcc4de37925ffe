/-! 56: the reference: fairer, even -/
def FM (M0 N : Mem) (T : Tx) (S : Sx) (F : Fx) : Prop := RI N T S ∧ SC M0 N ∧ gI N 54 45 = F.1 ∧ (F.1 = -1 ∨ gI N 54 46 = F.2.1) ∧ repI (gI N 79) F.2.2
theorem FM.ms {M0 N : Mem} {T : Tx} {S : Sx} {F : Fx} (h : FM M0 N T S F) {k : Nat} {j t : Int} (hk : k < 12) (h2 : SOk T (setS S k j (if j = -1 then -1 else t))) : FM M0 (msM N k j t) T (setS S k j (if j = -1 then -1 else t)) F := by
  obtain ⟨g1, g2, g3, g4, g5⟩ := h
  refine ⟨g1.ms hk h2, g2.trans (sc_ms _ _ _ _), ?_, ?_, ?_⟩
  · rw [ms_ne (by decide)]; exact g3
  · rw [ms_ne (by decide)]; exact g4
  · rw [ms_ne (by decide)]; exact g5
theorem FM.irr {M0 N : Mem} {T : Tx} {S : Sx} {F : Fx} (h : FM M0 N T S F) (g : Nat → Int) : FM M0 (aI N 78 g) T S F := by
  obtain ⟨g1, g2, g3, g4, g5⟩ := h
  refine ⟨g1.a9 g (by decide), g2.trans (sc_a g (by decide)), ?_, ?_, ?_⟩
  · rw [gI_aI_ne (by decide)]; exact g3
  · rw [gI_aI_ne (by decide)]; exact g4
  · rw [gI_aI_ne (by decide)]; exact g5
theorem repI_cp {f g : Nat → Int} {l : List Int} {n : Nat} (h : repI f l) (hn : l.length = n) : repI (cpF f g n) l := by
  intro i x hx
  have := (List.getElem?_eq_some_iff.mp hx).1
  rw [cpF_lt (by omega)]
  exact h i x hx
section MFair
variable {G : Gt} {d : Nat} {M N : Mem} {T : Tx} {S : Sx} {A : Ax}
set_option maxHeartbeats 4000000 in
theorem m_laysFairer (h : RI M T S) : V G (d + 2) mX12_laysFairer 0 [some (.ref 54), none, none, none, none, none] [] M (fun r N => r = some (.int (J (if (fair T S).1 = -1 then 0 else 1))) ∧ FM M N T S (fair T S)) := by
  have hT := h.2.2.2.2.2.1
  have hS := h.2.2.2.2.2.2
  have h12 := hT.2.2.1
  have h6 := hT.2.1
  have h0 : RI (sI M 54 45 (-1)) T S := h.sc (sc_f _ (by decide)) (gI_sI_ne (by decide))
  refine v_aload_n (pc := 0) 0 rfl rfl ?_
  refine v_iconst (pc := 1) 1 rfl ?_
  refine v_putI (pc := 2) 2 rfl fl_X12_346 rfl ?_
  refine v_aload_n (pc := 5) 3 rfl rfl ?_
  refine v_cV0 (pc := 6) 4 rfl cv_X12_325 rfl (Nat.le_of_ble_eq_true rfl) (Nat.le_of_ble_eq_true rfl) (m_laysLoads h0) (fun r9 N9 hq9 => ?_)
  obtain ⟨f, rfl, rfl, hf⟩ := hq9
  show V G (d + 2) mX12_laysFairer (6 + 3) _ [] _ _
  have h1 := h0.a9 (k := 78) f (by decide)
  have cn := m_notes (G := G) (d := d + 1) h1
  have z78 : gI (aI (sI M 54 45 (-1)) 78 f) 78 = f := by funext i; rw [gI_aI, if_pos rfl]
  rw [z78] at cn
  have hF0 : FM M (aI (aI (sI M 54 45 (-1)) 78 f) 79 (cpF f (gI (aI (sI M 54 45 (-1)) 78 f) 79) (nJ T))) T S (frK T S 0) := by
    refine ⟨h1.a9 _ (by decide), ((sc_f _ (by decide)).trans (sc_a _ (by decide))).trans (sc_a _ (by decide)), ?_, Or.inl rfl, ?_⟩
    · rw [gI_aI_ne (by decide), gI_aI_ne (by decide), gI_sI, if_pos rfl, if_pos rfl]; rfl
    · have e : gI (aI (aI (sI M 54 45 (-1)) 78 f) 79 (cpF f (gI (aI (sI M 54 45 (-1)) 78 f) 79) (nJ T))) 79 = cpF f (gI (aI (sI M 54 45 (-1)) 78 f) 79) (nJ T) := by funext i; rw [gI_aI, if_pos rfl]
      rw [e]
      exact repI_cp hf (sdl_len T S)
  have hfo : ∀ k, k ≤ nK T → FOk T (frK T S k) := fun k hk => frK_ok T S k hk
  unfold fair
  generalize hQ : (fun (r : Option Value) (N : Mem) => r = some (.int (J (if (frK T S (nK T)).1 = -1 then 0 else 1))) ∧ FM M N T S (frK T S (nK T))) = Q
  refine v_aload_n (pc := 9) 5 rfl rfl ?_
  refine v_cV0v (pc := 10) 6 rfl cv_X12_331 rfl (Nat.le_of_ble_eq_true rfl) (Nat.le_of_ble_eq_true rfl) (cn) ?_
  refine v_iconst (pc := 13) 7 rfl ?_
  refine v_istore_n (pc := 14) 8 rfl ⟨Nat.le_of_ble_eq_true rfl, rfl⟩ ?_
  refine loopN (N := nK T) (fun k => ∀ N u2 u3 u4 u5, FM M N T S (frK T S k) → V G (d + 2) mX12_laysFairer 15 [some (.ref 54), some (.int (J (k : Int))), u2, u3, u4, u5] [] N Q) ?_ ?_ _ none none none none hF0
  · intro N u2 u3 u4 u5 hF
    have hn := hF.1.n
    have e45 := hF.2.2.1
    have ho := (hfo (nK T) (Nat.le_refl _)).2
    refine v_iload_n (pc := 15) 9 rfl rfl ?_
    refine v_aload_n (pc := 16) 10 rfl rfl ?_
    refine v_getC (pc := 17) 11 rfl fl_X12_20 rfl 58 rfl ?_
    refine v_iconst (pc := 20) 12 rfl ?_
    refine v_ialdN (kk := 0) (pc := 21) 13 rfl rfl (by decide) ?_
    refine v_ic_geT (pc := 22) 14 152 rfl (by decide) (by omega) (by omega) ?_
    refine v_aload_n (pc := 152) 85 rfl rfl ?_
    refine v_getI (pc := 153) 86 rfl fl_X12_346 rfl ?_
    refine v_if_lt (pc := 156) 87 163 rfl (by decide) (by omega) (fun e1 => ?_) (fun e1 => ?_)
    · refine v_iconst (pc := 163) 90 rfl ?_
      refine v_zret (pc := 164) 91 rfl rfl (by decide) (by rw [← hQ]; exact ⟨by rw [if_pos (by omega)], hF⟩)
    · refine v_iconst (pc := 159) 88 rfl ?_
      refine v_goto (pc := 160) 89 164 rfl (by decide) ?_
      refine v_zret (pc := 164) 91 rfl rfl (by decide) (by rw [← hQ]; exact ⟨by rw [if_neg (by omega)], hF⟩)
  · intro k hk ih N u2 u3 u4 u5 hF
    have hn := hF.1.n
    have hs := hF.1.2.2.2.2.1 k (by omega)
    have hSk := hS k (by omega)
    have hb := hS.b hT (k := k) (by omega)
    have eK : frK T S (k + 1) = if S.1 k = -1 then frK T S k else frJ T S k (nJ T) (frK T S k) := rfl
    have hfk := hfo k (by omega)
    generalize frK T S k = F at *
    rw [eK] at ih
    refine v_iload_n (pc := 15) 9 rfl rfl ?_
    refine v_aload_n (pc := 16) 10 rfl rfl ?_
    refine v_getC (pc := 17) 11 rfl fl_X12_20 rfl 58 rfl ?_
    refine v_iconst (pc := 20) 12 rfl ?_
    refine v_ialdN (kk := 0) (pc := 21) 13 rfl rfl (by decide) ?_
    refine v_ic_geF (pc := 22) 14 152 rfl (by decide) (by omega) (by omega) ?_
    refine v_aload_n (pc := 25) 15 rfl rfl ?_
    refine v_getC (pc := 26) 16 rfl fl_X12_63 rfl 72 rfl ?_
    refine v_iload_n (pc := 29) 17 rfl rfl ?_
    refine v_ialdN (pc := 30) 18 rfl rfl (by omega) ?_
    rw [hs.1]
    refine v_istore_n (pc := 31) 19 rfl ⟨Nat.le_of_ble_eq_true rfl, rfl⟩ ?_
    refine v_aload_n (pc := 32) 20 rfl rfl ?_
    refine v_getC (pc := 33) 21 rfl fl_X12_63 rfl 72 rfl ?_
    refine v_bipush (pc := 36) 22 rfl (by decide) ?_
    refine v_iload_n (pc := 38) 23 rfl rfl ?_
    refine v_iadd (pc := 39) 24 rfl ?_
    refine v_ialdE (pc := 40) 25 rfl rfl (12 + k) (by omega) ?_
    rw [hs.2]
    refine v_istore_n (pc := 41) 26 rfl ⟨Nat.le_of_ble_eq_true rfl, rfl⟩ ?_
    refine v_iconst (pc := 42) 27 rfl ?_
    refine v_istore (pc := 43) 28 rfl ⟨Nat.le_of_ble_eq_true rfl, rfl⟩ ?_
    by_cases e1 : S.1 k = -1
    · rw [if_pos e1] at ih
      refine v_iload (pc := 45) 29 rfl rfl ?_
      refine v_aload_n (pc := 47) 30 rfl rfl ?_
      refine v_getC (pc := 48) 31 rfl fl_X12_17 rfl 57 rfl ?_
      refine v_iconst (pc := 51) 32 rfl ?_
      refine v_ialdN (kk := 0) (pc := 52) 33 rfl rfl (by decide) ?_
      refine v_ic_ge (pc := 53) 34 146 rfl (by decide) (by omega) (fun e2 => ?_) (fun e2 => ?_)
      · refine v_iinc (pc := 146) 83 rfl rfl ⟨Nat.le_of_ble_eq_true rfl, rfl⟩ ?_
        refine v_goto (pc := 149) 84 15 rfl (by decide) ?_
        exact ih _ _ _ _ _ hF
      · refine v_iload_n (pc := 56) 35 rfl rfl ?_
        refine v_if_ltT (pc := 57) 36 146 rfl (by decide) (by omega) (by omega) ?_
        refine v_iinc (pc := 146) 83 rfl rfl ⟨Nat.le_of_ble_eq_true rfl, rfl⟩ ?_
        refine v_goto (pc := 149) 84 15 rfl (by decide) ?_
        exact ih _ _ _ _ _ hF
    · rw [if_neg e1] at ih
      have hSk := hSk.resolve_left (fun z => e1 z.1)
      refine loopN (N := nJ T) (fun j => ∀ N u5, FM M N T S (frJ T S k j F) → V G (d + 2) mX12_laysFairer 45 [some (.ref 54), some (.int (J (k : Int))), some (.int (J (S.1 k))), some (.int (J (S.2 k))), some (.int (J (j : Int))), u5] [] N Q) ?_ ?_ N _ hF
      · intro N u5 hF
        have hn := hF.1.n
        refine v_iload (pc := 45) 29 rfl rfl ?_
        refine v_aload_n (pc := 47) 30 rfl rfl ?_
        refine v_getC (pc := 48) 31 rfl fl_X12_17 rfl 57 rfl ?_
        refine v_iconst (pc := 51) 32 rfl ?_
        refine v_ialdN (kk := 0) (pc := 52) 33 rfl rfl (by decide) ?_
        refine v_ic_geT (pc := 53) 34 146 rfl (by decide) (by omega) (by omega) ?_
        refine v_iinc (pc := 146) 83 rfl rfl ⟨Nat.le_of_ble_eq_true rfl, rfl⟩ ?_
        refine v_goto (pc := 149) 84 15 rfl (by decide) ?_
        exact ih _ _ _ _ _ hF
      · intro j hj ihj N u5 hF
        have hn := hF.1.n
        have eJ : frJ T S k (j + 1) F = if (j : Int) ≠ S.1 k ∧ whyS T (setS S k (-1) (-1)) k j (S.2 k) = 0 ∧ ltA (gd (sdl T (setS S k j (S.2 k)))) (gd (frJ T S k j F).2.2) (nJ T) = true then ((k : Int), (j : Int), sdl T (setS S k j (S.2 k))) else frJ T S k j F := rfl
        have hfj := frJ_ok (S := S) hk hfk j (by omega)
        generalize frJ T S k j F = Fj at *
        have back : ∀ N u5 S', FM M N T S' (frJ T S k (j + 1) F) → setS S' k (S.1 k) (S.2 k) = S → V G (d + 2) mX12_laysFairer 133 [some (.ref 54), some (.int (J (k : Int))), some (.int (J (S.1 k))), some (.int (J (S.2 k))), some (.int (J (j : Int))), u5] [] N Q := by
          intro N u5 S' hF' hS'
          have := hF'.ms (k := k) (j := S.1 k) (t := S.2 k) (by omega) (by rw [if_neg e1, hS']; exact hS)
          rw [if_neg e1, hS'] at this
          refine v_aload_n (pc := 133) 76 rfl rfl ?_
          refine v_iload_n (pc := 134) 77 rfl rfl ?_
          refine v_iload_n (pc := 135) 78 rfl rfl ?_
          refine v_iload_n (pc := 136) 79 rfl rfl ?_
          refine v_cV3v (pc := 137) 80 rfl cv_X12_300 rfl (Nat.le_of_ble_eq_true rfl) (Nat.le_of_ble_eq_true rfl) (m_sets (by omega) (by omega)) ?_
          refine v_iinc (pc := 140) 81 rfl rfl ⟨Nat.le_of_ble_eq_true rfl, rfl⟩ ?_
          refine v_goto (pc := 143) 82 45 rfl (by decide) ?_
          exact ihj _ _ this
        rw [eJ] at ihj back
        refine v_iload (pc := 45) 29 rfl rfl ?_
        refine v_aload_n (pc := 47) 30 rfl rfl ?_
        refine v_getC (pc := 48) 31 rfl fl_X12_17 rfl 57 rfl ?_
        refine v_iconst (pc := 51) 32 rfl ?_
        refine v_ialdN (kk := 0) (pc := 52) 33 rfl rfl (by decide) ?_
        refine v_ic_geF (pc := 53) 34 146 rfl (by decide) (by omega) (by omega) ?_
        refine v_iload_n (pc := 56) 35 rfl rfl ?_
        refine v_if_ltF (pc := 57) 36 146 rfl (by decide) (by omega) (by omega) ?_
        refine v_iload (pc := 60) 37 rfl rfl ?_
        refine v_iload_n (pc := 62) 38 rfl rfl ?_
        refine v_ic_ne (pc := 63) 39 69 rfl (by decide) (by omega) (fun e2 => ?_) (fun e2 => ?_)
        · have hm1 := hF.ms (k := k) (j := -1) (t := -1) (by omega) (hS.set (Or.inl ⟨rfl, rfl⟩))
          rw [if_pos rfl] at hm1
          have cw := m_whyOf (G := G) (d := d) hm1.1 hk hj (dd := S.2 k) (by omega)
          have hw := whyS_b T (setS S k (-1) (-1)) k j (S.2 k)
          refine v_aload_n (pc := 69) 41 rfl rfl ?_
          refine v_iload_n (pc := 70) 42 rfl rfl ?_
          refine v_iconst (pc := 71) 43 rfl ?_
          refine v_iconst (pc := 72) 44 rfl ?_
          refine v_cV3v (pc := 73) 45 rfl cv_X12_300 rfl (Nat.le_of_ble_eq_true rfl) (Nat.le_of_ble_eq_true rfl) (m_sets (by omega) (by decide)) ?_
          refine v_aload_n (pc := 76) 46 rfl rfl ?_
          refine v_iload_n (pc := 77) 47 rfl rfl ?_
          refine v_iload (pc := 78) 48 rfl rfl ?_
          refine v_iload_n (pc := 80) 49 rfl rfl ?_
          refine v_cV3i (pc := 81) 50 rfl cv_X12_293 rfl (Nat.le_of_ble_eq_true rfl) (Nat.le_of_ble_eq_true rfl) (cw) ?_
          refine v_if_ne (pc := 84) 51 91 rfl (by decide) (by omega) (fun e3 => ?_) (fun e3 => ?_)
          · rw [if_neg (fun z => e3 z.2.1)] at back
            refine v_iconst (pc := 91) 54 rfl ?_
            refine v_istore (pc := 92) 55 rfl ⟨Nat.le_of_ble_eq_true rfl, rfl⟩ ?_
            refine v_iload (pc := 94) 56 rfl rfl ?_
            refine v_if_eqT (pc := 96) 57 133 rfl (by decide) (by omega) (by decide) ?_
            exact back _ _ _ hm1 (by rw [set_set, set_self])
          · have e3 := Decidable.not_not.mp e3
            have hj1 : ¬ ((j : Int) = -1) := by omega
            have hm2 := hm1.ms (k := k) (j := (j : Int)) (t := S.2 k) (by omega) (by rw [if_neg hj1, set_set]; exact hS.set (Or.inr ⟨hk, by omega, by omega⟩))
            rw [if_neg hj1, set_set] at hm2
            refine v_iconst (pc := 87) 52 rfl ?_
            refine v_goto (pc := 88) 53 92 rfl (by decide) ?_
            refine v_istore (pc := 92) 55 rfl ⟨Nat.le_of_ble_eq_true rfl, rfl⟩ ?_
            refine v_iload (pc := 94) 56 rfl rfl ?_
            refine v_if_eqF (pc := 96) 57 133 rfl (by decide) (by omega) (by decide) ?_
            refine v_aload_n (pc := 99) 58 rfl rfl ?_
            refine v_iload_n (pc := 100) 59 rfl rfl ?_
            refine v_iload (pc := 101) 60 rfl rfl ?_
            refine v_iload_n (pc := 103) 61 rfl rfl ?_
            refine v_cV3v (pc := 104) 62 rfl cv_X12_300 rfl (Nat.le_of_ble_eq_true rfl) (Nat.le_of_ble_eq_true rfl) (m_sets (by omega) (by omega)) ?_
            generalize msM (msM N k (-1) (-1)) k (j : Int) (S.2 k) = N2 at hm2 ⊢
            refine v_aload_n (pc := 107) 63 rfl rfl ?_
            refine v_cV0 (pc := 108) 64 rfl cv_X12_325 rfl (Nat.le_of_ble_eq_true rfl) (Nat.le_of_ble_eq_true rfl) (m_laysLoads hm2.1) (fun r9 N9 hq9 => ?_)
            obtain ⟨f8, rfl, rfl, hf8⟩ := hq9
            show V G (d + 2) mX12_laysFairer (108 + 3) _ [] _ _
            have hm3 := hm2.irr f8
            have e78 : gI (aI N2 78 f8) 78 = f8 := by funext i; rw [gI_aI, if_pos rfl]
            generalize aI N2 78 f8 = N8 at hm3 e78 ⊢
            obtain ⟨S2, hS2⟩ := hfj.1
            have v1 : ∀ q, q < nJ T → gI N8 78 q = gd (sdl T (setS S k j (S.2 k))) q := fun q hq => by rw [e78]; exact repI_get hf8 (by rw [sdl_len]; exact hq)
            have v2 : ∀ q, q < nJ T → gI N8 79 q = gd Fj.2.2 q := fun q hq => repI_get hm3.2.2.2.2 (by rw [hS2, sdl_len]; exact hq)
            have cl := m_areLess (G := G) (d := d + 1) hm3.1 (fun q hq => by
              rw [v1 q hq, v2 q hq, hS2]
              have a1 := sdl_b hT (setS S k j (S.2 k)) hq
              have a2 := sdl_b hT S2 hq
              omega)
            rw [ltA_congr v1 v2] at cl
            have hbr := b2i_r (ltA (gd (sdl T (setS S k j (S.2 k)))) (gd Fj.2.2) (nJ T))
            refine v_aload_n (pc := 111) 65 rfl rfl ?_
            refine v_cV0i (pc := 112) 66 rfl cv_X12_328 rfl (Nat.le_of_ble_eq_true rfl) (Nat.le_of_ble_eq_true rfl) (cl) ?_
            refine v_if_eq (pc := 115) 67 133 rfl (by decide) (by omega) (fun e4 => ?_) (fun e4 => ?_)
            · rw [if_neg (fun z => by rw [z.2.2] at e4; exact absurd e4 (by decide))] at back
              exact back _ _ _ hm3 (by rw [set_set, set_self])
            · have e4 : ltA (gd (sdl T (setS S k j (S.2 k)))) (gd Fj.2.2) (nJ T) = true := by
                cases q : ltA (gd (sdl T (setS S k j (S.2 k)))) (gd Fj.2.2) (nJ T) with
                | true => rfl
                | false => rw [q] at e4; exact absurd rfl e4
              rw [if_pos ⟨e2, e3, e4⟩] at back
              have cn2 := m_notes (G := G) (d := d + 1) hm3.1
              rw [e78] at cn2
              refine v_aload_n (pc := 118) 68 rfl rfl ?_
              refine v_cV0v (pc := 119) 69 rfl cv_X12_331 rfl (Nat.le_of_ble_eq_true rfl) (Nat.le_of_ble_eq_true rfl) (cn2) ?_
              refine v_aload_n (pc := 122) 70 rfl rfl ?_
              refine v_iload_n (pc := 123) 71 rfl rfl ?_
              refine v_putI (pc := 124) 72 rfl fl_X12_346 rfl ?_
              refine v_aload_n (pc := 127) 73 rfl rfl ?_
              refine v_iload (pc := 128) 74 rfl rfl ?_
              refine v_putI (pc := 130) 75 rfl fl_X12_349 rfl ?_
              refine back _ _ (setS S k j (S.2 k)) ⟨((hm3.1.a9 _ (by decide)).sc (sc_f _ (by decide)) (gI_sI_ne (by decide))).sc (sc_f _ (by decide)) (gI_sI_ne (by decide)), ((hm3.2.1.trans (sc_a _ (by decide))).trans (sc_f _ (by decide))).trans (sc_f _ (by decide)), ?_, Or.inr ?_, ?_⟩ (by rw [set_set, set_self])
              · rw [gI_sI, if_pos rfl, if_neg (by decide), gI_sI, if_pos rfl, if_pos rfl]
              · rw [gI_sI, if_pos rfl, if_pos rfl]
              · have e9 : ∀ x y, gI (sI (sI (aI N8 79 (cpF f8 (gI N8 79) (nJ T))) 54 45 x) 54 46 y) 79 = cpF f8 (gI N8 79) (nJ T) := fun x y => by funext i; rw [gI_sI_ne (by decide), gI_sI_ne (by decide), gI_aI, if_pos rfl]
                rw [e9]
                exact repI_cp hf8 (sdl_len _ _)
        · rw [if_neg (fun z => e2 z.1)] at ihj
          refine v_goto (pc := 66) 40 140 rfl (by decide) ?_
          refine v_iinc (pc := 140) 81 rfl rfl ⟨Nat.le_of_ble_eq_true rfl, rfl⟩ ?_
          refine v_goto (pc := 143) 82 45 rfl (by decide) ?_
          exact ihj _ _ hF
theorem m_fairer (h : MR M A) {w : Int} (hw : -2147483648 ≤ w ∧ w ≤ 2147483647) : V G (d + 3) mX12_fairer 0 [some (.ref 54), some (.int (J w))] [] M (fun r N => r = some (.int (J (sFair A w))) ∧ MR N A ∧ MF M N) := by
  have h0 := h.fld (f := 0) 0 (by decide)
  have hfo : FOk (aT A) (fair (aT A) (aS A)) := frK_ok _ _ _ (Nat.le_refl _)
  unfold sFair
  have h12 := h.2.2.2.2.2.1.2.2.1
  have h6 := h.2.2.2.2.2.1.2.1
  have hfb := hfo.2
  refine v_aload_n (pc := 0) 0 rfl rfl ?_
  refine v_iconst (pc := 1) 1 rfl ?_
  refine v_putI (pc := 2) 2 rfl fl_X12_97 rfl ?_
  refine v_iload_n (pc := 5) 3 rfl rfl ?_
  refine v_i2l (pc := 6) 4 rfl (by omega) ?_
  refine v_lconst (pc := 7) 5 rfl ?_
  refine v_lconst (pc := 8) 6 rfl ?_
  refine v_cS3i (pc := 9) 7 rfl cs_X12_135 (Nat.le_of_ble_eq_true rfl) (Nat.le_of_ble_eq_true rfl) (m_within (by omega) (by decide) (by decide)) ?_
  refine v_if_eq (pc := 12) 8 22 rfl (by decide) (by omega) (fun e1 => ?_) (fun e1 => ?_)
  · rw [if_neg (by omega), if_neg (by omega)]
    refine v_iconst (pc := 22) 12 rfl ?_
    refine v_iret (pc := 23) 13 rfl rfl ⟨rfl, h0, mf_fld _ _ _⟩
  · refine v_aload_n (pc := 15) 9 rfl rfl ?_
    refine v_cV0 (pc := 16) 10 rfl cv_X12_352 rfl (Nat.le_of_ble_eq_true rfl) (Nat.le_of_ble_eq_true rfl) (m_laysFairer h0.1) (fun r9 N9 hq9 => ?_)
    obtain ⟨rfl, hFM⟩ := hq9
    have hN := h0.sc hFM.2.1 hFM.1 h.2.2.2.2.2.2.1.2
    have hF := (mf_fld M 0 0).trans hFM.2.1.mf
    obtain ⟨-, -, f1, f2, -⟩ := hFM
    generalize fair (aT A) (aS A) = F at *
    show V G (d + 3) mX12_fairer (16 + 3) _ [_] _ _
    by_cases q : F.1 = -1
    · rw [if_pos q]
      have e : (if w = 0 then F.1 else if w = 1 then F.2.1 else -1) = -1 := by split; omega; split <;> omega
      rw [e]
      refine v_if_neF (pc := 19) 11 24 rfl (by decide) (by omega) (by decide) ?_
      refine v_iconst (pc := 22) 12 rfl ?_
      refine v_iret (pc := 23) 13 rfl rfl ⟨rfl, hN, hF⟩
    · rw [if_neg q]
      refine v_if_neT (pc := 19) 11 24 rfl (by decide) (by omega) (by decide) ?_
      refine v_iload_n (pc := 24) 14 rfl rfl ?_
      refine v_if_ne (pc := 25) 15 35 rfl (by decide) (by omega) (fun e2 => ?_) (fun e2 => ?_)
      · rw [if_neg e2, if_pos (by omega)]
        refine v_aload_n (pc := 35) 19 rfl rfl ?_
        refine v_getI (pc := 36) 20 rfl fl_X12_349 rfl ?_
        rw [f2.resolve_left q]
        refine v_iret (pc := 39) 21 rfl rfl ⟨rfl, hN, hF⟩
      · rw [if_pos (by omega)]
        refine v_aload_n (pc := 28) 16 rfl rfl ?_
        refine v_getI (pc := 29) 17 rfl fl_X12_346 rfl ?_
        rw [f1]
        refine v_goto (pc := 32) 18 39 rfl (by decide) ?_
        refine v_iret (pc := 39) 21 rfl rfl ⟨rfl, hN, hF⟩
theorem m_evenL (r : Nat) : ∀ (M N : Mem) (A : Ax) (i n : Nat), MR N A → MF M N → n = i + r → n ≤ 50 → V G (d + 3) mX12_even 25 [some (.ref 54), some (.int (J (n : Int))), some (.int (J (i : Int)))] [] N (fun x P => x = some (.int (J (evR (aT A) r i (aS A)).1)) ∧ MR P (A.1, aT A, (evR (aT A) r i (aS A)).2, aU A, aK A) ∧ MF M P) := by
  induction r with
  | zero =>
    intro M N A i n h hcf hn h50
    subst hn
    refine v_iload_n (pc := 25) 15 rfl rfl ?_
    refine v_iload_n (pc := 26) 16 rfl rfl ?_
    refine v_ic_geT (pc := 27) 17 67 rfl (by decide) (by omega) (by omega) ?_
    refine v_iload_n (pc := 67) 36 rfl rfl ?_
    refine v_iret (pc := 68) 37 rfl rfl ⟨rfl, h, hcf⟩
  | succ r ih =>
    intro M N A i n h hcf hn h50
    have hfo : FOk (aT A) (fair (aT A) (aS A)) := frK_ok _ _ _ (Nat.le_refl _)
    have hsit : (fair (aT A) (aS A)).1 = -1 ∨ ∃ i, i < nK (aT A) ∧ (fair (aT A) (aS A)).1 = (i : Int) ∧ (aS A).1 i ≠ -1 := fair_sit (nK (aT A))
    have h12 := h.2.2.2.2.2.1.2.2.1
    have h6 := h.2.2.2.2.2.1.2.1
    have e : evR (aT A) (r + 1) i (aS A) = if (fair (aT A) (aS A)).1 = -1 then ((i : Int), aS A) else evR (aT A) r ((i : Int) + 1) (setS (aS A) (fair (aT A) (aS A)).1.toNat (fair (aT A) (aS A)).2.1 ((aS A).2 (fair (aT A) (aS A)).1.toNat)) := rfl
    rw [e]
    refine v_iload_n (pc := 25) 15 rfl rfl ?_
    refine v_iload_n (pc := 26) 16 rfl rfl ?_
    refine v_ic_geF (pc := 27) 17 67 rfl (by decide) (by omega) (by omega) ?_
    refine v_aload_n (pc := 30) 18 rfl rfl ?_
    refine v_cV0 (pc := 31) 19 rfl cv_X12_352 rfl (Nat.le_of_ble_eq_true rfl) (Nat.le_of_ble_eq_true rfl) (m_laysFairer h.1) (fun r9 N9 hq9 => ?_)
    obtain ⟨rfl, hFM⟩ := hq9
    have hN := h.sc hFM.2.1 hFM.1 h.2.2.2.2.2.2.1.2
    have hF := hcf.trans hFM.2.1.mf
    obtain ⟨-, -, f1, f2, -⟩ := hFM
    generalize fair (aT A) (aS A) = F at *
    have hfb := hfo.2
    show V G (d + 3) mX12_even (31 + 3) _ [_] _ _
    by_cases q : F.1 = -1
    · rw [if_pos q, if_pos q]
      refine v_if_eqT (pc := 34) 20 67 rfl (by decide) (by omega) (by decide) ?_
      refine v_iload_n (pc := 67) 36 rfl rfl ?_
      refine v_iret (pc := 68) 37 rfl rfl ⟨rfl, hN, hF⟩
    · rw [if_neg q, if_neg q]
      have f2 := f2.resolve_left q
      obtain ⟨k, hk, ek, hs⟩ := hsit.resolve_left q
      rw [ek, Int.toNat_natCast]
      have hSk := (h.2.2.2.2.2.2.1.1 k (by omega)).resolve_left (fun q => hs q.1)
      have es := (hN.1.2.2.2.2.1 k (by omega)).2
      change gI N9 72 (12 + k) = (aS A).2 k at es
      have hj1 : ¬ (F.2.1 = -1) := by omega
      have hM := hN.ms (k := k) (j := F.2.1) (t := (aS A).2 k) (by omega) (by rw [if_neg hj1]; exact h.2.2.2.2.2.2.1.1.set (Or.inr ⟨hk, by omega, by omega⟩))
      rw [if_neg hj1] at hM
      have ih2 := ih M _ _ (i + 1) n hM (hF.trans (ms_mf _ _ _ _)) (by omega) h50
      have f1k : gI N9 54 45 = (k : Int) := by omega
      refine v_if_eqF (pc := 34) 20 67 rfl (by decide) (by omega) (by decide) ?_
      refine v_aload_n (pc := 37) 21 rfl rfl ?_
      refine v_aload_n (pc := 38) 22 rfl rfl ?_
      refine v_getI (pc := 39) 23 rfl fl_X12_346 rfl ?_
      rw [f1k]
      refine v_aload_n (pc := 42) 24 rfl rfl ?_
      refine v_getI (pc := 43) 25 rfl fl_X12_349 rfl ?_
      rw [f2]
      refine v_aload_n (pc := 46) 26 rfl rfl ?_
      refine v_getC (pc := 47) 27 rfl fl_X12_63 rfl 72 rfl ?_
      refine v_bipush (pc := 50) 28 rfl (by decide) ?_
      refine v_aload_n (pc := 52) 29 rfl rfl ?_
      refine v_getI (pc := 53) 30 rfl fl_X12_346 rfl ?_
      rw [f1k]
      refine v_iadd (pc := 56) 31 rfl ?_
      refine v_ialdE (pc := 57) 32 rfl rfl (12 + k) (by omega) ?_
      rw [es]
      refine v_cV3v (pc := 58) 33 rfl cv_X12_300 rfl (Nat.le_of_ble_eq_true rfl) (Nat.le_of_ble_eq_true rfl) (m_sets (by omega) (by omega)) ?_
      refine v_iinc (pc := 61) 34 rfl rfl ⟨Nat.le_of_ble_eq_true rfl, rfl⟩ ?_
      refine v_goto (pc := 64) 35 25 rfl (by decide) ?_
      exact ih2
theorem m_even (h : MR M A) {n : Int} (hn : -2147483648 ≤ n ∧ n ≤ 2147483647) : V G (d + 3) mX12_even 0 [some (.ref 54), some (.int (J n)), none] [] M (fun r N => r = some (.int (J (sEven A n).1)) ∧ MR N (sEven A n).2 ∧ MF M N) := by
  have h0 := h.fld (f := 0) 0 (by decide)
  unfold sEven
  refine v_aload_n (pc := 0) 0 rfl rfl ?_
  refine v_iconst (pc := 1) 1 rfl ?_
  refine v_putI (pc := 2) 2 rfl fl_X12_97 rfl ?_
  refine v_iload_n (pc := 5) 3 rfl rfl ?_
  refine v_i2l (pc := 6) 4 rfl (by omega) ?_
  refine v_lconst (pc := 7) 5 rfl ?_
  refine v_ldc2J (pc := 8) 6 rfl kcLong_X12_355 (50) (by decide) ?_
  refine v_cS3i (pc := 11) 7 rfl cs_X12_135 (Nat.le_of_ble_eq_true rfl) (Nat.le_of_ble_eq_true rfl) (m_within (by omega) (by decide) (by decide)) ?_
  refine v_if_ne (pc := 14) 8 19 rfl (by decide) (by omega) (fun e1 => ?_) (fun e1 => ?_)
  · rw [if_pos (by omega)]
    obtain ⟨n1, rfl⟩ : ∃ n1 : Nat, n = (n1 : Int) := ⟨n.toNat, by omega⟩
    rw [Int.toNat_natCast]
    refine v_aload_n (pc := 19) 11 rfl rfl ?_
    refine v_cV0 (pc := 20) 12 rfl cv_X12_297 rfl (Nat.le_of_ble_eq_true rfl) (Nat.le_of_ble_eq_true rfl) (m_keeps h0) (fun r9 N9 hq9 => ?_)
    obtain ⟨rfl, hN, hF⟩ := hq9
    show V G (d + 3) mX12_even (20 + 3) _ [] _ _
    refine v_iconst (pc := 23) 13 rfl ?_
    refine v_istore_n (pc := 24) 14 rfl ⟨Nat.le_of_ble_eq_true rfl, rfl⟩ ?_
    exact m_evenL n1 M _ _ 0 n1 hN ((mf_fld M 0 0).trans hF) (by omega) (by omega)
  · rw [if_neg (by omega)]
    refine v_iconst (pc := 17) 9 rfl ?_
    refine v_iret (pc := 18) 10 rfl rfl ⟨rfl, h0, mf_fld _ _ _⟩
end MFair
