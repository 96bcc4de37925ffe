/-! 65: the reference: a judge's line, a case's line -/
section MLine2
variable {G : Gt} {d : Nat} {M0 N : Mem} {k0 : Nat} {b : Nat → Int} {n p : Nat} {L : List Nm} {T : Tx}
theorem srt_kd (h : 0 ≤ srt b n p) : kd b n p = 1 := by
  unfold srt at h
  by_cases q : kd b n p = 1
  · exact q
  · rw [if_pos q] at h; omega
theorem sg (N : Mem) (q i : Nat) (v : Int) (x j : Nat) (h : x ≠ q ∨ j ≠ i) : gI (sI N q i v) x j = gI N x j := by
  rw [gI_sI]
  by_cases g : x = q
  · rw [if_pos g, if_neg (by omega), g]
  · rw [if_neg g]
/-- the sorts of a judge -/
theorem m_sortsL {w h9 m9 : Int} (hw : vd 7 w = true) (hno : hasL L w = false) (hc : nJ T < 6) (hh : 0 ≤ h9 ∧ h9 < nT T) (hm9 : 60 ≤ m9 ∧ m9 ≤ 600) : ∀ (f : Nat) (u : Int) (p : Nat) (N : Mem) (x : Option Value), PMs M0 k0 N b n p L T → gI N 63 (6 + nJ T) = h9 → gI N 64 (6 + nJ T) = m9 → gI N 65 (6 + nJ T) = u → gI N 66 (6 + nJ T) = 0 → (0 ≤ u ∧ u < 16) → pcn u + f = 5 →
    V G (d + 9) mX12_judgeLine 91 [some (.ref 54), some (.long (JL (e5 w))), none, some (.int (J ((6 + nJ T : Nat) : Int))), x] [] N (RM M0 k0 b n (pbd (rSorts b n f u p) (fun t => .inr (L ++ [(w, 1, nJ T)], tJudge T h9 m9 t.1, t.2)))) := by
  intro f
  induction f with
  | zero =>
    intro u p N x hP g63 g64 g65 g66 hu hf
    have := (setb16 hu (s := 0) (by decide)).1
    omega
  | succ f ih =>
    intro u p N x hP g63 g64 g65 g66 hu hf
    have hS : rSorts b n (f + 1) u p = pbd (rSort b n u p) (fun q => if kd b n q.2 = 1 then rSorts b n f (setb u q.1.toNat) q.2 else .inr (setb u q.1.toNat, q.2)) := rfl
    rw [hS]
    obtain ⟨h1, h2, h3, h4, h5, h6, h7, h8, h99⟩ := id hP
    have cs := m_sortHere (G := G) (d := d + 2) h2
    have sb := srt_b b n p
    have bt9 := b2i_r true
    have bf9 := b2i_r false
    unfold rSort
    by_cases e1 : srt b n p < 0
    · rw [if_pos e1]
      refine v_aload_n (pc := 91) 55 rfl rfl ?_
      refine v_cV0i (pc := 92) 56 rfl cv_X12_176 rfl (Nat.le_of_ble_eq_true rfl) (Nat.le_of_ble_eq_true rfl) (cs) ?_
      refine v_istore (pc := 95) 57 rfl ⟨Nat.le_of_ble_eq_true rfl, rfl⟩ ?_
      refine v_aload_n (pc := 97) 58 rfl rfl ?_
      refine v_iload (pc := 98) 59 rfl rfl ?_
      refine v_if_ltT (pc := 100) 60 107 rfl (by decide) (by omega) (by omega) ?_
      refine v_iconst (pc := 107) 63 rfl ?_
      refine v_iconst (pc := 108) 64 rfl ?_
      refine v_cV2i (pc := 109) 65 rfl cv_X12_189 rfl (Nat.le_of_ble_eq_true rfl) (Nat.le_of_ble_eq_true rfl) (must_f (by decide) h3.1) ?_
      refine v_if_eqT (pc := 112) 66 142 rfl (by decide) (by omega) (by decide) ?_
      refine v_iconst (pc := 142) 83 rfl ?_
      refine v_zret (pc := 143) 84 rfl rfl (by decide) ⟨rfl, hP.no (by decide)⟩
    · rw [if_neg e1]
      obtain ⟨s, hs⟩ : ∃ s : Nat, srt b n p = (s : Int) := ⟨(srt b n p).toNat, by omega⟩
      have k1 := srt_kd (b := b) (n := n) (p := p) (by omega)
      rw [hs] at cs ⊢
      have h01 := bt_01 u (s : Int)
      refine v_aload_n (pc := 91) 55 rfl rfl ?_
      refine v_cV0i (pc := 92) 56 rfl cv_X12_176 rfl (Nat.le_of_ble_eq_true rfl) (Nat.le_of_ble_eq_true rfl) (cs) ?_
      refine v_istore (pc := 95) 57 rfl ⟨Nat.le_of_ble_eq_true rfl, rfl⟩ ?_
      refine v_aload_n (pc := 97) 58 rfl rfl ?_
      refine v_iload (pc := 98) 59 rfl rfl ?_
      refine v_if_ltF (pc := 100) 60 107 rfl (by decide) (by omega) (by omega) ?_
      refine v_iconst (pc := 103) 61 rfl ?_
      refine v_goto (pc := 104) 62 108 rfl (by decide) ?_
      refine v_iconst (pc := 108) 64 rfl ?_
      refine v_cV2i (pc := 109) 65 rfl cv_X12_189 rfl (Nat.le_of_ble_eq_true rfl) (Nat.le_of_ble_eq_true rfl) (must_t (by decide) h3.1) ?_
      refine v_if_eqF (pc := 112) 66 142 rfl (by decide) (by omega) (by decide) ?_
      refine v_aload_n (pc := 115) 67 rfl rfl ?_
      refine v_aload_n (pc := 116) 68 rfl rfl ?_
      refine v_getC (pc := 117) 69 rfl fl_X12_42 rfl 65 rfl ?_
      refine v_iload_n (pc := 120) 70 rfl rfl ?_
      refine v_ialdE (pc := 121) 71 rfl rfl (6 + nJ T) (by omega) ?_
      rw [g65]
      by_cases e2 : bt u (s : Int) ≠ 0
      · rw [if_pos e2]
        refine v_iload (pc := 122) 72 rfl rfl ?_
        refine v_ishr (pc := 124) 73 rfl (u / 2 ^ (s : Int).toNat) (J_shr (by omega)) ?_
        refine v_iconst (pc := 125) 74 rfl ?_
        refine v_iand (pc := 126) 75 rfl (bt u s) (J_bt (by omega)) ?_
        refine v_if_neT (pc := 127) 76 134 rfl (by decide) (by omega) (by omega) ?_
        refine v_iconst (pc := 134) 79 rfl ?_
        refine v_iconst (pc := 135) 80 rfl ?_
        refine v_cV2i (pc := 136) 81 rfl cv_X12_189 rfl (Nat.le_of_ble_eq_true rfl) (Nat.le_of_ble_eq_true rfl) (must_f (by decide) h3.1) ?_
        refine v_if_neF (pc := 139) 82 144 rfl (by decide) (by omega) (by decide) ?_
        refine v_iconst (pc := 142) 83 rfl ?_
        refine v_zret (pc := 143) 84 rfl rfl (by decide) ⟨rfl, hP.no (by decide)⟩
      · rw [if_neg e2]
        have e2 := Decidable.not_not.mp e2
        have su := setb16 hu (s := s) (by omega)
        have ps := pcn_s (u := u) (by omega) (s := s) (by omega) e2
        have hP2 := hP.gar (q := 65) (i := 6 + nJ T) (setb u s) (Or.inl ⟨by decide, rfl⟩)
        refine v_iload (pc := 122) 72 rfl rfl ?_
        refine v_ishr (pc := 124) 73 rfl (u / 2 ^ (s : Int).toNat) (J_shr (by omega)) ?_
        refine v_iconst (pc := 125) 74 rfl ?_
        refine v_iand (pc := 126) 75 rfl (bt u s) (J_bt (by omega)) ?_
        refine v_if_neF (pc := 127) 76 134 rfl (by decide) (by omega) (by omega) ?_
        refine v_iconst (pc := 130) 77 rfl ?_
        refine v_goto (pc := 131) 78 135 rfl (by decide) ?_
        refine v_iconst (pc := 135) 80 rfl ?_
        refine v_cV2i (pc := 136) 81 rfl cv_X12_189 rfl (Nat.le_of_ble_eq_true rfl) (Nat.le_of_ble_eq_true rfl) (must_t (by decide) h3.1) ?_
        refine v_if_neT (pc := 139) 82 144 rfl (by decide) (by omega) (by decide) ?_
        refine v_aload_n (pc := 144) 85 rfl rfl ?_
        refine v_getC (pc := 145) 86 rfl fl_X12_42 rfl 65 rfl ?_
        refine v_iload_n (pc := 148) 87 rfl rfl ?_
        refine v_dup2 (pc := 149) 88 rfl ⟨rfl, rfl⟩ ?_
        refine v_ialdE (pc := 150) 89 rfl rfl (6 + nJ T) (by omega) ?_
        rw [g65]
        refine v_iconst (pc := 151) 90 rfl ?_
        refine v_iload (pc := 152) 91 rfl rfl ?_
        refine v_ishl (pc := 154) 92 rfl (((2 ^ s : Nat) : Int)) (J_shl1 (by omega)) ?_
        refine v_ior (pc := 155) 93 rfl (setb u s) (J_or64 (by omega) (by omega)) ?_
        refine v_iastE (pc := 156) 94 rfl rfl (6 + nJ T) (by omega) ?_
        refine v_aload_n (pc := 157) 95 rfl rfl ?_
        refine v_cV0 (pc := 158) 96 rfl cv_X12_196 rfl (Nat.le_of_ble_eq_true rfl) (Nat.le_of_ble_eq_true rfl) (m_adv hP2 (by omega)) (fun r9 N9 hq9 => ?_)
        obtain ⟨rfl, hA, hP3⟩ := hq9
        have q63 : gI N9 63 (6 + nJ T) = h9 := by rw [hA.1 63 (by decide), sg _ _ _ _ _ _ (by omega)]; exact g63
        have q64 : gI N9 64 (6 + nJ T) = m9 := by rw [hA.1 64 (by decide), sg _ _ _ _ _ _ (by omega)]; exact g64
        have q65 : gI N9 65 (6 + nJ T) = setb u s := by rw [hA.1 65 (by decide), gI_sI, if_pos rfl, if_pos rfl]
        have q66 : gI N9 66 (6 + nJ T) = 0 := by rw [hA.1 66 (by decide), sg _ _ _ _ _ _ (by omega)]; exact g66
        have q6 := hP3.2.1.2.2.2.2.1
        have kk := kd_le b n (nx b n p)
        show V G (d + 9) mX12_judgeLine (158 + 3) _ [] _ (RM M0 k0 b n (pbd (if kd b n (nx b n p) = 1 then rSorts b n f (setb u ((s : Int)).toNat) (nx b n p) else .inr (setb u ((s : Int)).toNat, nx b n p)) (fun t => .inr (L ++ [(w, 1, nJ T)], tJudge T h9 m9 t.1, t.2))))
        rw [Int.toNat_natCast]
        by_cases e3 : kd b n (nx b n p) = 1
        · rw [if_pos e3]
          refine v_aload_n (pc := 161) 97 rfl rfl ?_
          refine v_getI (pc := 162) 98 rfl fl_X12_121 rfl ?_
          refine v_iconst (pc := 165) 99 rfl ?_
          refine v_ic_eqT (pc := 166) 100 91 rfl (by decide) (by omega) (by omega) ?_
          exact ih _ _ _ _ hP3 q63 q64 q65 q66 (by omega) (by omega)
        · rw [if_neg e3]
          have hb := hP3.2.2.1.2
          obtain ⟨t1, t2, t3, t4⟩ := hP3.2.2.2.2.1
          have hAdd := hP3.add (κ := 1) (by decide) hw hno (T2 := tJudge T h9 m9 (setb u s)) (fun x hx => by
            rcases (show x = 0 ∨ x = 1 ∨ x = 2 by omega) with e | e | e <;> subst e <;> rfl) (by
            refine ⟨⟨?_, ?_, ?_⟩, t2, fun j hj => ?_, t4⟩
            · rw [gI_sI_ne (by decide)]; exact t1.1
            · rw [gI_sI, if_pos rfl, if_pos rfl]; rfl
            · rw [gI_sI_ne (by decide)]; exact t1.2.2
            · change j < nJ T + 1 at hj
              rw [gI_sI_ne (by decide), gI_sI_ne (by decide), gI_sI_ne (by decide), gI_sI_ne (by decide)]
              show gI N9 63 (6 + j) = upT (upT (upT (upT T.2 2 (nJ T) h9) 3 (nJ T) m9) 4 (nJ T) (setb u s)) 5 (nJ T) 0 2 j ∧ gI N9 64 (6 + j) = upT (upT (upT (upT T.2 2 (nJ T) h9) 3 (nJ T) m9) 4 (nJ T) (setb u s)) 5 (nJ T) 0 3 j ∧ gI N9 65 (6 + j) = upT (upT (upT (upT T.2 2 (nJ T) h9) 3 (nJ T) m9) 4 (nJ T) (setb u s)) 5 (nJ T) 0 4 j ∧ gI N9 66 (6 + j) = upT (upT (upT (upT T.2 2 (nJ T) h9) 3 (nJ T) m9) 4 (nJ T) (setb u s)) 5 (nJ T) 0 5 j
              simp only [upT_at]
              by_cases g : j = nJ T
              · subst g; simp only [if_true]; exact ⟨q63, q64, q65, q66⟩
              · simp [g]; exact t3 j (by omega)) (li_judge hP3.2.2.2.1.2.2 hc w hh hm9 (by omega))
          have e12 : gI (sL N9 60 (6 + nJ T) (JL (e5 w))) 54 12 = 1 := hb
          have e57 : gI (sL N9 60 (6 + nJ T) (JL (e5 w))) 57 1 = (nJ T : Int) := t1.2.1
          refine v_aload_n (pc := 161) 97 rfl rfl ?_
          refine v_getI (pc := 162) 98 rfl fl_X12_121 rfl ?_
          refine v_iconst (pc := 165) 99 rfl ?_
          refine v_ic_eqF (pc := 166) 100 91 rfl (by decide) (by omega) (by omega) ?_
          refine v_aload_n (pc := 169) 101 rfl rfl ?_
          refine v_getC (pc := 170) 102 rfl fl_X12_27 rfl 60 rfl ?_
          refine v_iload_n (pc := 173) 103 rfl rfl ?_
          refine v_lload_n (pc := 174) 104 rfl rfl ?_
          refine v_lastE (pc := 175) 105 rfl rfl (6 + nJ T) (by omega) ?_
          refine v_aload_n (pc := 176) 106 rfl rfl ?_
          refine v_getC (pc := 177) 107 rfl fl_X12_17 rfl 57 rfl ?_
          refine v_aload_n (pc := 180) 108 rfl rfl ?_
          refine v_getI (pc := 181) 109 rfl fl_X12_199 rfl ?_
          rw [e12]
          refine v_dup2 (pc := 184) 110 rfl ⟨rfl, rfl⟩ ?_
          refine v_ialdE (pc := 185) 111 rfl rfl 1 (by omega) ?_
          rw [e57]
          refine v_iconst (pc := 186) 112 rfl ?_
          refine v_iadd (pc := 187) 113 rfl ?_
          refine v_iastE (pc := 188) 114 rfl rfl 1 (by omega) ?_
          refine v_iconst (pc := 189) 115 rfl ?_
          refine v_zret (pc := 190) 116 rfl rfl (by decide) ⟨rfl, hAdd⟩
theorem m_judgeLine (h : PMs M0 k0 N b n p L T) (hc : nJ T < 6) : V G (d + 9) mX12_judgeLine 0 [some (.ref 54), none, none, none, none] [] N (RM M0 k0 b n (zJudge b n L T p)) := by
  unfold zJudge rNew
  have c0 := m_newName (G := G) (d := d) h
  cases q : isNm b n p with
  | false =>
    rw [if_pos rfl]
    rw [q] at c0
    refine v_aload_n (pc := 0) 0 rfl rfl ?_
    refine v_cV0 (pc := 1) 1 rfl cv_X12_221 rfl (Nat.le_of_ble_eq_true rfl) (Nat.le_of_ble_eq_true rfl) (c0) (fun r9 N9 hq9 => ?_)
    obtain ⟨rfl, hF⟩ := hq9
    show V G (d + 9) mX12_judgeLine (1 + 3) _ [.int (J 0)] _ _
    refine v_if_neF (pc := 4) 2 9 rfl (by decide) (by omega) (by decide) ?_
    refine v_iconst (pc := 7) 3 rfl ?_
    refine v_zret (pc := 8) 4 rfl rfl (by decide) ⟨rfl, hF⟩
  | true =>
    rw [if_neg (by decide)]
    rw [q] at c0
    cases q2 : hasL L (wv b n p) with
    | true =>
      rw [if_pos rfl]
      rw [q2] at c0
      refine v_aload_n (pc := 0) 0 rfl rfl ?_
      refine v_cV0 (pc := 1) 1 rfl cv_X12_221 rfl (Nat.le_of_ble_eq_true rfl) (Nat.le_of_ble_eq_true rfl) (c0) (fun r9 N9 hq9 => ?_)
      obtain ⟨rfl, hF⟩ := hq9
      show V G (d + 9) mX12_judgeLine (1 + 3) _ [.int (J 0)] _ _
      refine v_if_neF (pc := 4) 2 9 rfl (by decide) (by omega) (by decide) ?_
      refine v_iconst (pc := 7) 3 rfl ?_
      refine v_zret (pc := 8) 4 rfl rfl (by decide) ⟨rfl, hF⟩
    | false =>
      rw [if_neg (by decide)]
      rw [q2] at c0
      refine v_aload_n (pc := 0) 0 rfl rfl ?_
      refine v_cV0 (pc := 1) 1 rfl cv_X12_221 rfl (Nat.le_of_ble_eq_true rfl) (Nat.le_of_ble_eq_true rfl) (c0) (fun r9 N9 hq9 => ?_)
      obtain ⟨rfl, h29, hv, hP⟩ := hq9
      have hb := hP.2.2.1.2
      have hn := hP.2.2.2.2.1.1.2.1
      have hLI := hP.2.2.2.1.2.2
      generalize wv b n p = w at *
      show V G (d + 9) mX12_judgeLine (1 + 3) _ [.int (J 1)] _ (RM M0 k0 b n (pbd (rTold b n (L ++ [(w, 1, nJ T)]) 0 0 (nx b n p)) (fun r => pbd (rNum b n 60 600 r.2) (fun s => pbd (rSorts b n 5 0 s.2) (fun t => .inr (L ++ [(w, 1, nJ T)], tJudge T r.1 s.1 t.1, t.2))))))
      rw [told_app (by decide)]
      refine v_if_neT (pc := 4) 2 9 rfl (by decide) (by omega) (by decide) ?_
      refine v_aload_n (pc := 9) 5 rfl rfl ?_
      refine v_getL (pc := 10) 6 rfl fl_X12_215 rfl ?_
      rw [h29]
      refine v_lstore_n (pc := 13) 7 rfl ⟨Nat.le_of_ble_eq_true rfl, rfl⟩ ?_
      refine v_bipush (pc := 14) 8 rfl (by decide) ?_
      refine v_aload_n (pc := 16) 9 rfl rfl ?_
      refine v_getI (pc := 17) 10 rfl fl_X12_199 rfl ?_
      rw [hb]
      refine v_imul (pc := 20) 11 rfl ?_
      refine v_aload_n (pc := 21) 12 rfl rfl ?_
      refine v_getC (pc := 22) 13 rfl fl_X12_17 rfl 57 rfl ?_
      refine v_aload_n (pc := 25) 14 rfl rfl ?_
      refine v_getI (pc := 26) 15 rfl fl_X12_199 rfl ?_
      rw [hb]
      refine v_ialdE (pc := 29) 16 rfl rfl 1 (by omega) ?_
      rw [hn]
      refine v_iadd (pc := 30) 17 rfl ?_
      refine v_istore_n (pc := 31) 18 rfl ⟨Nat.le_of_ble_eq_true rfl, rfl⟩ ?_
      have ej : (6 : Int) * 1 + (nJ T : Int) = ((6 + nJ T : Nat) : Int) := by omega
      rw [ej]
      have c1 := m_takesTold (G := G) (d := d) hP (x := true) (κ := 0) rfl (bu := -1) (u := 0) (Or.inl ⟨rfl, rfl⟩)
      cases hR : rTold b n L 0 0 (nx b n p) with
      | inl e =>
        rw [hR] at c1
        refine v_aload_n (pc := 32) 19 rfl rfl ?_
        refine v_iconst (pc := 33) 20 rfl ?_
        refine v_iconst (pc := 34) 21 rfl ?_
        refine v_cV2 (pc := 35) 22 rfl cv_X12_224 rfl (Nat.le_of_ble_eq_true rfl) (Nat.le_of_ble_eq_true rfl) (c1) (fun r9 N9 hq9 => ?_)
        obtain ⟨rfl, hF⟩ := hq9
        show V G (d + 9) mX12_judgeLine (35 + 3) _ [.int (J 0)] _ _
        refine v_if_neF (pc := 38) 23 43 rfl (by decide) (by omega) (by decide) ?_
        refine v_iconst (pc := 41) 24 rfl ?_
        refine v_zret (pc := 42) 25 rfl rfl (by decide) ⟨rfl, hF⟩
      | inr r1 =>
        rw [hR] at c1
        obtain ⟨qb, -, i1, i2, i3, i4⟩ := told_b (by decide) hLI.nm hR
        have qT := (hLI.2.1 i1 i2).1 i3
        refine v_aload_n (pc := 32) 19 rfl rfl ?_
        refine v_iconst (pc := 33) 20 rfl ?_
        refine v_iconst (pc := 34) 21 rfl ?_
        refine v_cV2 (pc := 35) 22 rfl cv_X12_224 rfl (Nat.le_of_ble_eq_true rfl) (Nat.le_of_ble_eq_true rfl) (c1) (fun r9 N9 hq9 => ?_)
        obtain ⟨rfl, f30, ag1, hP1⟩ := hq9
        show V G (d + 9) mX12_judgeLine (35 + 3) _ [.int (J 1)] _ (RM M0 k0 b n (pbd (rNum b n 60 600 r1.2) (fun s => pbd (rSorts b n 5 0 s.2) (fun t => .inr (L ++ [(w, 1, nJ T)], tJudge T r1.1 s.1 t.1, t.2)))))
        have hP2 := hP1.gar (q := 63) (i := 6 + nJ T) r1.1 (Or.inl ⟨by decide, rfl⟩)
        have c2 := m_takesNumber (G := G) (d := d + 6) hP2 (lo := 60) (hi := 600) (by decide) (by decide)
        refine v_if_neT (pc := 38) 23 43 rfl (by decide) (by omega) (by decide) ?_
        refine v_aload_n (pc := 43) 26 rfl rfl ?_
        refine v_getC (pc := 44) 27 rfl fl_X12_36 rfl 63 rfl ?_
        refine v_iload_n (pc := 47) 28 rfl rfl ?_
        refine v_aload_n (pc := 48) 29 rfl rfl ?_
        refine v_getI (pc := 49) 30 rfl fl_X12_218 rfl ?_
        rw [f30]
        refine v_iastE (pc := 52) 31 rfl rfl (6 + nJ T) (by omega) ?_
        cases hR2 : rNum b n 60 600 r1.2 with
        | inl e =>
          rw [hR2] at c2
          refine v_aload_n (pc := 53) 32 rfl rfl ?_
          refine v_bipush (pc := 54) 33 rfl (by decide) ?_
          refine v_sipush (pc := 56) 34 rfl (by decide) ?_
          refine v_cV2 (pc := 59) 35 rfl cv_X12_227 rfl (Nat.le_of_ble_eq_true rfl) (Nat.le_of_ble_eq_true rfl) (c2) (fun r9 N9 hq9 => ?_)
          obtain ⟨rfl, hF⟩ := hq9
          show V G (d + 9) mX12_judgeLine (59 + 3) _ [.int (J 0)] _ _
          refine v_if_neF (pc := 62) 36 67 rfl (by decide) (by omega) (by decide) ?_
          refine v_iconst (pc := 65) 37 rfl ?_
          refine v_zret (pc := 66) 38 rfl rfl (by decide) ⟨rfl, hF⟩
        | inr s1 =>
          rw [hR2] at c2
          have nb := num_b hR2
          refine v_aload_n (pc := 53) 32 rfl rfl ?_
          refine v_bipush (pc := 54) 33 rfl (by decide) ?_
          refine v_sipush (pc := 56) 34 rfl (by decide) ?_
          refine v_cV2 (pc := 59) 35 rfl cv_X12_227 rfl (Nat.le_of_ble_eq_true rfl) (Nat.le_of_ble_eq_true rfl) (c2) (fun r9 N9 hq9 => ?_)
          obtain ⟨rfl, f11, ag2, hP3⟩ := hq9
          show V G (d + 9) mX12_judgeLine (59 + 3) _ [.int (J 1)] _ (RM M0 k0 b n (pbd (rSorts b n 5 0 s1.2) (fun t => .inr (L ++ [(w, 1, nJ T)], tJudge T r1.1 s1.1 t.1, t.2))))
          have hP4 := ((hP3.gar (q := 64) (i := 6 + nJ T) s1.1 (Or.inl ⟨by decide, rfl⟩)).gar (q := 65) (i := 6 + nJ T) 0 (Or.inl ⟨by decide, rfl⟩)).gar (q := 66) (i := 6 + nJ T) 0 (Or.inl ⟨by decide, rfl⟩)
          have z63 : gI (sI (sI (sI N9 64 (6 + nJ T) s1.1) 65 (6 + nJ T) 0) 66 (6 + nJ T) 0) 63 (6 + nJ T) = r1.1 := by rw [gI_sI_ne (by decide), gI_sI_ne (by decide), gI_sI_ne (by decide), ag2 63 (by decide), gI_sI, if_pos rfl, if_pos rfl]
          have z64 : gI (sI (sI (sI N9 64 (6 + nJ T) s1.1) 65 (6 + nJ T) 0) 66 (6 + nJ T) 0) 64 (6 + nJ T) = s1.1 := by rw [gI_sI_ne (by decide), gI_sI_ne (by decide), gI_sI, if_pos rfl, if_pos rfl]
          have z65 : gI (sI (sI (sI N9 64 (6 + nJ T) s1.1) 65 (6 + nJ T) 0) 66 (6 + nJ T) 0) 65 (6 + nJ T) = 0 := by rw [gI_sI_ne (by decide), gI_sI, if_pos rfl, if_pos rfl]
          have z66 : gI (sI (sI (sI N9 64 (6 + nJ T) s1.1) 65 (6 + nJ T) 0) 66 (6 + nJ T) 0) 66 (6 + nJ T) = 0 := by rw [gI_sI, if_pos rfl, if_pos rfl]
          refine v_if_neT (pc := 62) 36 67 rfl (by decide) (by omega) (by decide) ?_
          refine v_aload_n (pc := 67) 39 rfl rfl ?_
          refine v_getC (pc := 68) 40 rfl fl_X12_39 rfl 64 rfl ?_
          refine v_iload_n (pc := 71) 41 rfl rfl ?_
          refine v_aload_n (pc := 72) 42 rfl rfl ?_
          refine v_getI (pc := 73) 43 rfl fl_X12_193 rfl ?_
          rw [f11]
          refine v_iastE (pc := 76) 44 rfl rfl (6 + nJ T) (by omega) ?_
          refine v_aload_n (pc := 77) 45 rfl rfl ?_
          refine v_getC (pc := 78) 46 rfl fl_X12_42 rfl 65 rfl ?_
          refine v_iload_n (pc := 81) 47 rfl rfl ?_
          refine v_iconst (pc := 82) 48 rfl ?_
          refine v_iastE (pc := 83) 49 rfl rfl (6 + nJ T) (by omega) ?_
          refine v_aload_n (pc := 84) 50 rfl rfl ?_
          refine v_getC (pc := 85) 51 rfl fl_X12_45 rfl 66 rfl ?_
          refine v_iload_n (pc := 88) 52 rfl rfl ?_
          refine v_iconst (pc := 89) 53 rfl ?_
          refine v_iastE (pc := 90) 54 rfl rfl (6 + nJ T) (by omega) ?_
          exact m_sortsL hv q2 hc (by omega) nb 5 0 s1.2 _ _ hP4 z63 z64 z65 z66 (by decide) (by decide)
/-- those who may not hear a case -/
theorem m_barsL {w r9 s9 f9 l9 : Int} (hw : vd 7 w = true) (hno : hasL L w = false) (hc : nK T < 12) (hr : 0 ≤ r9 ∧ r9 < nT T) (hs : 0 ≤ s9 ∧ s9 < 4) (hf9 : 0 ≤ f9 ∧ f9 ≤ 60) (hl9 : 10 ≤ l9 ∧ l9 ≤ 300) : ∀ (f : Nat) (u : Int) (p : Nat) (N : Mem) (x : Option Value), PMs M0 k0 N b n p L T → gI N 67 (12 + nK T) = r9 → gI N 68 (12 + nK T) = s9 → gI N 69 (12 + nK T) = f9 → gI N 70 (12 + nK T) = l9 → gI N 71 (12 + nK T) = u → (0 ≤ u ∧ u < 64) → pcn u + f = 7 →
    V G (d + 9) mX12_caseLine 144 [some (.ref 54), some (.long (JL (e5 w))), none, some (.int (J ((12 + nK T : Nat) : Int))), x] [] N (RM M0 k0 b n (pbd (rBars b n L f u p) (fun t => .inr (L ++ [(w, 2, nK T)], tCase T r9 s9 f9 l9 t.1, t.2)))) := by
  intro f
  induction f with
  | zero =>
    intro u p N x hP g67 g68 g69 g70 g71 hu hf
    have := pcn_6 u
    omega
  | succ f ih =>
    intro u p N x hP g67 g68 g69 g70 g71 hu hf
    have hS : rBars b n L (f + 1) u p = if isW b n p 1650553459 = true then pbd (rTold b n L 1 u (nx b n p)) (fun q => rBars b n L f (setb u q.1.toNat) q.2) else .inr (u, p) := rfl
    rw [hS]
    obtain ⟨h1, h2, h3, h4, h5, h6, h7, h8, h99⟩ := id hP
    have ci := m_is (G := G) (d := d + 3) h2 (j := 9) (by decide)
    have bt9 := b2i_r true
    have bf9 := b2i_r false
    change V G (d + 3 + 5) mX12_is 0 [some (.ref 54), some (.ref (100 + 9))] [] N (Ret (some (.int (J (b2i (isW b n p 1650553459))))) N) at ci
    cases q0 : isW b n p 1650553459 with
    | false =>
      rw [q0] at ci
      rw [if_neg (by decide)]
      have hb := h3.2
      obtain ⟨t1, t2, t3, t4⟩ := h5
      have hAdd := hP.add (κ := 2) (by decide) hw hno (T2 := tCase T r9 s9 f9 l9 u) (fun x hx => by
        rcases (show x = 0 ∨ x = 1 ∨ x = 2 by omega) with e | e | e <;> subst e <;> rfl) (by
        refine ⟨⟨?_, ?_, ?_⟩, t2, t3, fun k hk => ?_⟩
        · rw [gI_sI_ne (by decide)]; exact t1.1
        · rw [gI_sI_ne (by decide)]; exact t1.2.1
        · rw [gI_sI, if_pos rfl, if_pos rfl]; rfl
        · change k < nK T + 1 at hk
          rw [gI_sI_ne (by decide), gI_sI_ne (by decide), gI_sI_ne (by decide), gI_sI_ne (by decide), gI_sI_ne (by decide)]
          show gI N 67 (12 + k) = (tCase T r9 s9 f9 l9 u).2 6 k ∧ gI N 68 (12 + k) = (tCase T r9 s9 f9 l9 u).2 7 k ∧ gI N 69 (12 + k) = (tCase T r9 s9 f9 l9 u).2 8 k ∧ gI N 70 (12 + k) = (tCase T r9 s9 f9 l9 u).2 9 k ∧ gI N 71 (12 + k) = (tCase T r9 s9 f9 l9 u).2 10 k
          unfold tCase
          simp only [upT_at]
          by_cases g : k = nK T
          · subst g; simp only [if_true]; exact ⟨g67, g68, g69, g70, g71⟩
          · simp [g]; exact t4 k (by omega)) (li_case h4.2.2 hc w hr hs hf9 hl9 hu)
      have e12 : gI (sL N 61 (12 + nK T) (JL (e5 w))) 54 12 = 1 := hb
      have e58 : gI (sL N 61 (12 + nK T) (JL (e5 w))) 58 1 = (nK T : Int) := t1.2.2
      refine v_aload_n (pc := 144) 85 rfl rfl ?_
      refine v_ldcs (pc := 145) 86 rfl 9 rfl rfl ?_
      refine v_cV1i (pc := 147) 87 rfl cv_X12_166 rfl (Nat.le_of_ble_eq_true rfl) (Nat.le_of_ble_eq_true rfl) (ci) ?_
      refine v_if_eqT (pc := 150) 88 249 rfl (by decide) (by omega) (by decide) ?_
      refine v_aload_n (pc := 249) 144 rfl rfl ?_
      refine v_getC (pc := 250) 145 rfl fl_X12_30 rfl 61 rfl ?_
      refine v_iload_n (pc := 253) 146 rfl rfl ?_
      refine v_lload_n (pc := 254) 147 rfl rfl ?_
      refine v_lastE (pc := 255) 148 rfl rfl (12 + nK T) (by omega) ?_
      refine v_aload_n (pc := 256) 149 rfl rfl ?_
      refine v_getC (pc := 257) 150 rfl fl_X12_20 rfl 58 rfl ?_
      refine v_aload_n (pc := 260) 151 rfl rfl ?_
      refine v_getI (pc := 261) 152 rfl fl_X12_199 rfl ?_
      rw [e12]
      refine v_dup2 (pc := 264) 153 rfl ⟨rfl, rfl⟩ ?_
      refine v_ialdE (pc := 265) 154 rfl rfl 1 (by omega) ?_
      rw [e58]
      refine v_iconst (pc := 266) 155 rfl ?_
      refine v_iadd (pc := 267) 156 rfl ?_
      refine v_iastE (pc := 268) 157 rfl rfl 1 (by omega) ?_
      refine v_iconst (pc := 269) 158 rfl ?_
      refine v_zret (pc := 270) 159 rfl rfl (by decide) ⟨rfl, hAdd⟩
    | true =>
      rw [q0] at ci
      rw [if_pos rfl]
      have k1 := (isW_t.mp q0).1
      refine v_aload_n (pc := 144) 85 rfl rfl ?_
      refine v_ldcs (pc := 145) 86 rfl 9 rfl rfl ?_
      refine v_cV1i (pc := 147) 87 rfl cv_X12_166 rfl (Nat.le_of_ble_eq_true rfl) (Nat.le_of_ble_eq_true rfl) (ci) ?_
      refine v_if_eqF (pc := 150) 88 249 rfl (by decide) (by omega) (by decide) ?_
      refine v_aload_n (pc := 153) 89 rfl rfl ?_
      refine v_cV0 (pc := 154) 90 rfl cv_X12_196 rfl (Nat.le_of_ble_eq_true rfl) (Nat.le_of_ble_eq_true rfl) (m_adv hP (by omega)) (fun r9 N9 hq9 => ?_)
      obtain ⟨rfl, hA, hP1⟩ := hq9
      show V G (d + 9) mX12_caseLine (154 + 3) _ [] _ _
      have q67 : gI N9 67 (12 + nK T) = r9 := by rw [hA.1 67 (by decide)]; exact g67
      have q68 : gI N9 68 (12 + nK T) = s9 := by rw [hA.1 68 (by decide)]; exact g68
      have q69 : gI N9 69 (12 + nK T) = f9 := by rw [hA.1 69 (by decide)]; exact g69
      have q70 : gI N9 70 (12 + nK T) = l9 := by rw [hA.1 70 (by decide)]; exact g70
      have q71 : gI N9 71 (12 + nK T) = u := by rw [hA.1 71 (by decide)]; exact g71
      have r3 := hP1.2.2.1
      have cn := m_isName (G := G) (d := d + 1) hP1.2.1
      unfold rTold
      cases q1 : isNm b n (nx b n p) with
      | false =>
        rw [q1] at cn
        rw [if_pos rfl]
        refine v_aload_n (pc := 157) 91 rfl rfl ?_
        refine v_aload_n (pc := 158) 92 rfl rfl ?_
        refine v_cV0i (pc := 159) 93 rfl cv_X12_202 rfl (Nat.le_of_ble_eq_true rfl) (Nat.le_of_ble_eq_true rfl) (cn) ?_
        refine v_iconst (pc := 162) 94 rfl ?_
        refine v_cV2i (pc := 163) 95 rfl cv_X12_189 rfl (Nat.le_of_ble_eq_true rfl) (Nat.le_of_ble_eq_true rfl) (must_f (by decide) r3.1) ?_
        refine v_if_neF (pc := 166) 96 171 rfl (by decide) (by omega) (by decide) ?_
        refine v_iconst (pc := 169) 97 rfl ?_
        refine v_zret (pc := 170) 98 rfl rfl (by decide) ⟨rfl, hP1.no (by decide)⟩
      | true =>
        rw [q1] at cn
        rw [if_neg (by decide)]
        have k2 := nm_kd q1
        have cj := m_judgeNamed (G := G) (d := d + 8) hP1 k2
        have nr := num_r h4.2.1 (wv b n (nx b n p)) 1
        have t0 := cnt_t T
        have hLI := h4.2.2.1
        generalize hj : numL L (wv b n (nx b n p)) 1 = j at *
        refine v_aload_n (pc := 157) 91 rfl rfl ?_
        refine v_aload_n (pc := 158) 92 rfl rfl ?_
        refine v_cV0i (pc := 159) 93 rfl cv_X12_202 rfl (Nat.le_of_ble_eq_true rfl) (Nat.le_of_ble_eq_true rfl) (cn) ?_
        refine v_iconst (pc := 162) 94 rfl ?_
        refine v_cV2i (pc := 163) 95 rfl cv_X12_189 rfl (Nat.le_of_ble_eq_true rfl) (Nat.le_of_ble_eq_true rfl) (must_t (by decide) r3.1) ?_
        refine v_if_neT (pc := 166) 96 171 rfl (by decide) (by omega) (by decide) ?_
        refine v_aload_n (pc := 171) 99 rfl rfl ?_
        refine v_cV0i (pc := 172) 100 rfl cv_X12_209 rfl (Nat.le_of_ble_eq_true rfl) (Nat.le_of_ble_eq_true rfl) (cj) ?_
        refine v_istore (pc := 175) 101 rfl ⟨Nat.le_of_ble_eq_true rfl, rfl⟩ ?_
        refine v_aload_n (pc := 177) 102 rfl rfl ?_
        refine v_iload (pc := 178) 103 rfl rfl ?_
        refine v_if_lt (pc := 180) 104 197 rfl (by decide) (by omega) (fun e1 => ?_) (fun e1 => ?_)
        · rw [if_pos (by omega)]
          refine v_iconst (pc := 197) 114 rfl ?_
          refine v_goto (pc := 198) 115 202 rfl (by decide) ?_
          refine v_iconst (pc := 202) 117 rfl ?_
          refine v_cV2i (pc := 203) 118 rfl cv_X12_189 rfl (Nat.le_of_ble_eq_true rfl) (Nat.le_of_ble_eq_true rfl) (must_t (by decide) r3.1) ?_
          refine v_if_eqF (pc := 206) 119 227 rfl (by decide) (by omega) (by decide) ?_
          refine v_aload_n (pc := 209) 120 rfl rfl ?_
          refine v_iload (pc := 210) 121 rfl rfl ?_
          refine v_if_ltT (pc := 212) 122 219 rfl (by decide) (by omega) (by omega) ?_
          refine v_iconst (pc := 219) 125 rfl ?_
          refine v_iconst (pc := 220) 126 rfl ?_
          refine v_cV2i (pc := 221) 127 rfl cv_X12_189 rfl (Nat.le_of_ble_eq_true rfl) (Nat.le_of_ble_eq_true rfl) (must_f (by decide) r3.1) ?_
          refine v_if_neF (pc := 224) 128 229 rfl (by decide) (by omega) (by decide) ?_
          refine v_iconst (pc := 227) 129 rfl ?_
          refine v_zret (pc := 228) 130 rfl rfl (by decide) ⟨rfl, hP1.no (by decide)⟩
        · rw [if_neg (by omega)]
          obtain ⟨s, rfl⟩ : ∃ s : Nat, j = (s : Int) := ⟨j.toNat, by omega⟩
          have h01 := bt_01 u (s : Int)
          refine v_aload_n (pc := 183) 105 rfl rfl ?_
          refine v_getC (pc := 184) 106 rfl fl_X12_60 rfl 71 rfl ?_
          refine v_iload_n (pc := 187) 107 rfl rfl ?_
          refine v_ialdE (pc := 188) 108 rfl rfl (12 + nK T) (by omega) ?_
          rw [q71]
          by_cases e2 : bt u (s : Int) ≠ 0
          · rw [if_pos e2]
            refine v_iload (pc := 189) 109 rfl rfl ?_
            refine v_ishr (pc := 191) 110 rfl (u / 2 ^ (s : Int).toNat) (J_shr (by omega)) ?_
            refine v_iconst (pc := 192) 111 rfl ?_
            refine v_iand (pc := 193) 112 rfl (bt u s) (J_bt (by omega)) ?_
            refine v_if_neT (pc := 194) 113 201 rfl (by decide) (by omega) (by omega) ?_
            refine v_iconst (pc := 201) 116 rfl ?_
            refine v_iconst (pc := 202) 117 rfl ?_
            refine v_cV2i (pc := 203) 118 rfl cv_X12_189 rfl (Nat.le_of_ble_eq_true rfl) (Nat.le_of_ble_eq_true rfl) (must_f (by decide) r3.1) ?_
            refine v_if_eqT (pc := 206) 119 227 rfl (by decide) (by omega) (by decide) ?_
            refine v_iconst (pc := 227) 129 rfl ?_
            refine v_zret (pc := 228) 130 rfl rfl (by decide) ⟨rfl, hP1.no (by decide)⟩
          · rw [if_neg e2]
            have e2 := Decidable.not_not.mp e2
            have su := setb_b hu (b := s) (by omega)
            have ps := pcn_s hu (s := s) (by omega) e2
            have hP2 := hP1.gar (q := 71) (i := 12 + nK T) (setb u s) (Or.inr ⟨by decide, rfl⟩)
            refine v_iload (pc := 189) 109 rfl rfl ?_
            refine v_ishr (pc := 191) 110 rfl (u / 2 ^ (s : Int).toNat) (J_shr (by omega)) ?_
            refine v_iconst (pc := 192) 111 rfl ?_
            refine v_iand (pc := 193) 112 rfl (bt u s) (J_bt (by omega)) ?_
            refine v_if_neF (pc := 194) 113 201 rfl (by decide) (by omega) (by omega) ?_
            refine v_iconst (pc := 197) 114 rfl ?_
            refine v_goto (pc := 198) 115 202 rfl (by decide) ?_
            refine v_iconst (pc := 202) 117 rfl ?_
            refine v_cV2i (pc := 203) 118 rfl cv_X12_189 rfl (Nat.le_of_ble_eq_true rfl) (Nat.le_of_ble_eq_true rfl) (must_t (by decide) r3.1) ?_
            refine v_if_eqF (pc := 206) 119 227 rfl (by decide) (by omega) (by decide) ?_
            refine v_aload_n (pc := 209) 120 rfl rfl ?_
            refine v_iload (pc := 210) 121 rfl rfl ?_
            refine v_if_ltF (pc := 212) 122 219 rfl (by decide) (by omega) (by omega) ?_
            refine v_iconst (pc := 215) 123 rfl ?_
            refine v_goto (pc := 216) 124 220 rfl (by decide) ?_
            refine v_iconst (pc := 220) 126 rfl ?_
            refine v_cV2i (pc := 221) 127 rfl cv_X12_189 rfl (Nat.le_of_ble_eq_true rfl) (Nat.le_of_ble_eq_true rfl) (must_t (by decide) r3.1) ?_
            refine v_if_neT (pc := 224) 128 229 rfl (by decide) (by omega) (by decide) ?_
            refine v_aload_n (pc := 229) 131 rfl rfl ?_
            refine v_getC (pc := 230) 132 rfl fl_X12_60 rfl 71 rfl ?_
            refine v_iload_n (pc := 233) 133 rfl rfl ?_
            refine v_dup2 (pc := 234) 134 rfl ⟨rfl, rfl⟩ ?_
            refine v_ialdE (pc := 235) 135 rfl rfl (12 + nK T) (by omega) ?_
            rw [q71]
            refine v_iconst (pc := 236) 136 rfl ?_
            refine v_iload (pc := 237) 137 rfl rfl ?_
            refine v_ishl (pc := 239) 138 rfl (((2 ^ s : Nat) : Int)) (J_shl1 (by omega)) ?_
            refine v_ior (pc := 240) 139 rfl (setb u s) (J_or64 hu (by omega)) ?_
            refine v_iastE (pc := 241) 140 rfl rfl (12 + nK T) (by omega) ?_
            refine v_aload_n (pc := 242) 141 rfl rfl ?_
            refine v_cV0 (pc := 243) 142 rfl cv_X12_196 rfl (Nat.le_of_ble_eq_true rfl) (Nat.le_of_ble_eq_true rfl) (m_adv hP2 (by omega)) (fun r9 N9 hq9 => ?_)
            obtain ⟨rfl, hA2, hP3⟩ := hq9
            show V G (d + 9) mX12_caseLine (243 + 3) _ [] _ (RM M0 k0 b n (pbd (rBars b n L f (setb u ((s : Int)).toNat) (nx b n (nx b n p))) (fun t => .inr (L ++ [(w, 2, nK T)], tCase T r9 s9 f9 l9 t.1, t.2))))
            rw [Int.toNat_natCast]
            refine v_goto (pc := 246) 143 144 rfl (by decide) ?_
            exact ih _ _ _ _ hP3 (by rw [hA2.1 67 (by decide), sg _ _ _ _ _ _ (by omega)]; exact q67) (by rw [hA2.1 68 (by decide), sg _ _ _ _ _ _ (by omega)]; exact q68) (by rw [hA2.1 69 (by decide), sg _ _ _ _ _ _ (by omega)]; exact q69) (by rw [hA2.1 70 (by decide), sg _ _ _ _ _ _ (by omega)]; exact q70) (by rw [hA2.1 71 (by decide), gI_sI, if_pos rfl, if_pos rfl]) (by omega) (by omega)
theorem m_caseLine (h : PMs M0 k0 N b n p L T) (hc : nK T < 12) : V G (d + 9) mX12_caseLine 0 [some (.ref 54), none, none, none, none] [] N (RM M0 k0 b n (zCase b n L T p)) := by
  unfold zCase rNew
  have c0 := m_newName (G := G) (d := d) h
  cases q : isNm b n p with
  | false =>
    rw [if_pos rfl]
    rw [q] at c0
    refine v_aload_n (pc := 0) 0 rfl rfl ?_
    refine v_cV0 (pc := 1) 1 rfl cv_X12_221 rfl (Nat.le_of_ble_eq_true rfl) (Nat.le_of_ble_eq_true rfl) (c0) (fun r9 N9 hq9 => ?_)
    obtain ⟨rfl, hF⟩ := hq9
    show V G (d + 9) mX12_caseLine (1 + 3) _ [.int (J 0)] _ _
    refine v_if_neF (pc := 4) 2 9 rfl (by decide) (by omega) (by decide) ?_
    refine v_iconst (pc := 7) 3 rfl ?_
    refine v_zret (pc := 8) 4 rfl rfl (by decide) ⟨rfl, hF⟩
  | true =>
    rw [if_neg (by decide)]
    rw [q] at c0
    cases q2 : hasL L (wv b n p) with
    | true =>
      rw [if_pos rfl]
      rw [q2] at c0
      refine v_aload_n (pc := 0) 0 rfl rfl ?_
      refine v_cV0 (pc := 1) 1 rfl cv_X12_221 rfl (Nat.le_of_ble_eq_true rfl) (Nat.le_of_ble_eq_true rfl) (c0) (fun r9 N9 hq9 => ?_)
      obtain ⟨rfl, hF⟩ := hq9
      show V G (d + 9) mX12_caseLine (1 + 3) _ [.int (J 0)] _ _
      refine v_if_neF (pc := 4) 2 9 rfl (by decide) (by omega) (by decide) ?_
      refine v_iconst (pc := 7) 3 rfl ?_
      refine v_zret (pc := 8) 4 rfl rfl (by decide) ⟨rfl, hF⟩
    | false =>
      rw [if_neg (by decide)]
      rw [q2] at c0
      refine v_aload_n (pc := 0) 0 rfl rfl ?_
      refine v_cV0 (pc := 1) 1 rfl cv_X12_221 rfl (Nat.le_of_ble_eq_true rfl) (Nat.le_of_ble_eq_true rfl) (c0) (fun r9 N9 hq9 => ?_)
      obtain ⟨rfl, h29, hv, hP⟩ := hq9
      have hb := hP.2.2.1.2
      have hn := hP.2.2.2.2.1.1.2.2
      have hLI := hP.2.2.2.1.2.2
      generalize wv b n p = w at *
      show V G (d + 9) mX12_caseLine (1 + 3) _ [.int (J 1)] _ (RM M0 k0 b n (pbd (rTold b n (L ++ [(w, 2, nK T)]) 0 0 (nx b n p)) (fun r => pbd (rSort b n 0 r.2) (fun s => pbd (rNum b n 0 60 s.2) (fun f => pbd (rNum b n 10 300 f.2) (fun l => pbd (rBars b n (L ++ [(w, 2, nK T)]) 7 0 l.2) (fun u => .inr (L ++ [(w, 2, nK T)], tCase T r.1 s.1 f.1 l.1 u.1, u.2))))))))
      rw [told_app (by decide)]
      simp only [bars_app (L := L) (w0 := w) (κ0 := 2) (j0 := nK T) (show 1 ≠ 2 by decide)]
      refine v_if_neT (pc := 4) 2 9 rfl (by decide) (by omega) (by decide) ?_
      refine v_aload_n (pc := 9) 5 rfl rfl ?_
      refine v_getL (pc := 10) 6 rfl fl_X12_215 rfl ?_
      rw [h29]
      refine v_lstore_n (pc := 13) 7 rfl ⟨Nat.le_of_ble_eq_true rfl, rfl⟩ ?_
      refine v_bipush (pc := 14) 8 rfl (by decide) ?_
      refine v_aload_n (pc := 16) 9 rfl rfl ?_
      refine v_getI (pc := 17) 10 rfl fl_X12_199 rfl ?_
      rw [hb]
      refine v_imul (pc := 20) 11 rfl ?_
      refine v_aload_n (pc := 21) 12 rfl rfl ?_
      refine v_getC (pc := 22) 13 rfl fl_X12_20 rfl 58 rfl ?_
      refine v_aload_n (pc := 25) 14 rfl rfl ?_
      refine v_getI (pc := 26) 15 rfl fl_X12_199 rfl ?_
      rw [hb]
      refine v_ialdE (pc := 29) 16 rfl rfl 1 (by omega) ?_
      rw [hn]
      refine v_iadd (pc := 30) 17 rfl ?_
      refine v_istore_n (pc := 31) 18 rfl ⟨Nat.le_of_ble_eq_true rfl, rfl⟩ ?_
      have ej : (12 : Int) * 1 + (nK T : Int) = ((12 + nK T : Nat) : Int) := by omega
      rw [ej]
      have c1 := m_takesTold (G := G) (d := d) hP (x := true) (κ := 0) rfl (bu := -1) (u := 0) (Or.inl ⟨rfl, rfl⟩)
      cases hR : rTold b n L 0 0 (nx b n p) with
      | inl e =>
        rw [hR] at c1
        refine v_aload_n (pc := 32) 19 rfl rfl ?_
        refine v_iconst (pc := 33) 20 rfl ?_
        refine v_iconst (pc := 34) 21 rfl ?_
        refine v_cV2 (pc := 35) 22 rfl cv_X12_224 rfl (Nat.le_of_ble_eq_true rfl) (Nat.le_of_ble_eq_true rfl) (c1) (fun r9 N9 hq9 => ?_)
        obtain ⟨rfl, hF⟩ := hq9
        show V G (d + 9) mX12_caseLine (35 + 3) _ [.int (J 0)] _ _
        refine v_if_neF (pc := 38) 23 43 rfl (by decide) (by omega) (by decide) ?_
        refine v_iconst (pc := 41) 24 rfl ?_
        refine v_zret (pc := 42) 25 rfl rfl (by decide) ⟨rfl, hF⟩
      | inr r1 =>
        rw [hR] at c1
        obtain ⟨qb, -, i1, i2, i3, i4⟩ := told_b (by decide) hLI.nm hR
        have qT := (hLI.2.1 i1 i2).1 i3
        refine v_aload_n (pc := 32) 19 rfl rfl ?_
        refine v_iconst (pc := 33) 20 rfl ?_
        refine v_iconst (pc := 34) 21 rfl ?_
        refine v_cV2 (pc := 35) 22 rfl cv_X12_224 rfl (Nat.le_of_ble_eq_true rfl) (Nat.le_of_ble_eq_true rfl) (c1) (fun r9 N9 hq9 => ?_)
        obtain ⟨rfl, f30, ag1, hP1⟩ := hq9
        show V G (d + 9) mX12_caseLine (35 + 3) _ [.int (J 1)] _ (RM M0 k0 b n (pbd (rSort b n 0 r1.2) (fun s => pbd (rNum b n 0 60 s.2) (fun f => pbd (rNum b n 10 300 f.2) (fun l => pbd (rBars b n L 7 0 l.2) (fun u => .inr (L ++ [(w, 2, nK T)], tCase T r1.1 s.1 f.1 l.1 u.1, u.2)))))))
        have hP2 := hP1.gar (q := 67) (i := 12 + nK T) r1.1 (Or.inr ⟨by decide, rfl⟩)
        have cs := m_sortHere (G := G) (d := d + 2) hP2.2.1
        have sb := srt_b b n r1.2
        have hP3 := hP2.gar (q := 68) (i := 12 + nK T) (srt b n r1.2) (Or.inr ⟨by decide, rfl⟩)
        have r3 := hP3.2.2.1
        have z68 : gI (sI (sI N9 67 (12 + nK T) r1.1) 68 (12 + nK T) (srt b n r1.2)) 68 (12 + nK T) = srt b n r1.2 := by rw [gI_sI, if_pos rfl, if_pos rfl]
        have z67 : gI (sI (sI N9 67 (12 + nK T) r1.1) 68 (12 + nK T) (srt b n r1.2)) 67 (12 + nK T) = r1.1 := by rw [gI_sI_ne (by decide), gI_sI, if_pos rfl, if_pos rfl]
        refine v_if_neT (pc := 38) 23 43 rfl (by decide) (by omega) (by decide) ?_
        refine v_aload_n (pc := 43) 26 rfl rfl ?_
        refine v_getC (pc := 44) 27 rfl fl_X12_48 rfl 67 rfl ?_
        refine v_iload_n (pc := 47) 28 rfl rfl ?_
        refine v_aload_n (pc := 48) 29 rfl rfl ?_
        refine v_getI (pc := 49) 30 rfl fl_X12_218 rfl ?_
        rw [f30]
        refine v_iastE (pc := 52) 31 rfl rfl (12 + nK T) (by omega) ?_
        refine v_aload_n (pc := 53) 32 rfl rfl ?_
        refine v_getC (pc := 54) 33 rfl fl_X12_51 rfl 68 rfl ?_
        refine v_iload_n (pc := 57) 34 rfl rfl ?_
        refine v_aload_n (pc := 58) 35 rfl rfl ?_
        refine v_cV0i (pc := 59) 36 rfl cv_X12_176 rfl (Nat.le_of_ble_eq_true rfl) (Nat.le_of_ble_eq_true rfl) (cs) ?_
        refine v_iastE (pc := 62) 37 rfl rfl (12 + nK T) (by omega) ?_
        generalize sI (sI N9 67 (12 + nK T) r1.1) 68 (12 + nK T) (srt b n r1.2) = N3 at *
        refine v_aload_n (pc := 63) 38 rfl rfl ?_
        refine v_aload_n (pc := 64) 39 rfl rfl ?_
        refine v_getC (pc := 65) 40 rfl fl_X12_51 rfl 68 rfl ?_
        refine v_iload_n (pc := 68) 41 rfl rfl ?_
        refine v_ialdE (pc := 69) 42 rfl rfl (12 + nK T) (by omega) ?_
        rw [z68]
        unfold rSort
        by_cases e1 : srt b n r1.2 < 0
        · rw [if_pos e1]
          refine v_if_ltT (pc := 70) 43 77 rfl (by decide) (by omega) (by omega) ?_
          refine v_iconst (pc := 77) 46 rfl ?_
          refine v_iconst (pc := 78) 47 rfl ?_
          refine v_cV2i (pc := 79) 48 rfl cv_X12_189 rfl (Nat.le_of_ble_eq_true rfl) (Nat.le_of_ble_eq_true rfl) (must_f (by decide) r3.1) ?_
          refine v_if_neF (pc := 82) 49 87 rfl (by decide) (by omega) (by decide) ?_
          refine v_iconst (pc := 85) 50 rfl ?_
          refine v_zret (pc := 86) 51 rfl rfl (by decide) ⟨rfl, hP3.no (by decide)⟩
        · rw [if_neg e1, if_neg (show ¬ bt 0 (srt b n r1.2) ≠ 0 from fun z => z (by unfold bt; simp))]
          have k1 := srt_kd (b := b) (n := n) (p := r1.2) (by omega)
          refine v_if_ltF (pc := 70) 43 77 rfl (by decide) (by omega) (by omega) ?_
          refine v_iconst (pc := 73) 44 rfl ?_
          refine v_goto (pc := 74) 45 78 rfl (by decide) ?_
          refine v_iconst (pc := 78) 47 rfl ?_
          refine v_cV2i (pc := 79) 48 rfl cv_X12_189 rfl (Nat.le_of_ble_eq_true rfl) (Nat.le_of_ble_eq_true rfl) (must_t (by decide) r3.1) ?_
          refine v_if_neT (pc := 82) 49 87 rfl (by decide) (by omega) (by decide) ?_
          refine v_aload_n (pc := 87) 52 rfl rfl ?_
          refine v_cV0 (pc := 88) 53 rfl cv_X12_196 rfl (Nat.le_of_ble_eq_true rfl) (Nat.le_of_ble_eq_true rfl) (m_adv hP3 (by omega)) (fun r9 N9 hq9 => ?_)
          obtain ⟨rfl, hA4, hP4⟩ := hq9
          have y67 : gI N9 67 (12 + nK T) = r1.1 := by rw [hA4.1 67 (by decide)]; exact z67
          have y68 : gI N9 68 (12 + nK T) = srt b n r1.2 := by rw [hA4.1 68 (by decide)]; exact z68
          show V G (d + 9) mX12_caseLine (88 + 3) _ [] _ (RM M0 k0 b n (pbd (rNum b n 0 60 (nx b n r1.2)) (fun f => pbd (rNum b n 10 300 f.2) (fun l => pbd (rBars b n L 7 0 l.2) (fun u => .inr (L ++ [(w, 2, nK T)], tCase T r1.1 (srt b n r1.2) f.1 l.1 u.1, u.2))))))
          generalize hs9 : srt b n r1.2 = s9 at *
          have c2 := m_takesNumber (G := G) (d := d + 6) hP4 (lo := 0) (hi := 60) (by decide) (by decide)
          cases hR2 : rNum b n 0 60 (nx b n r1.2) with
          | inl e =>
            rw [hR2] at c2
            refine v_aload_n (pc := 91) 54 rfl rfl ?_
            refine v_iconst (pc := 92) 55 rfl ?_
            refine v_bipush (pc := 93) 56 rfl (by decide) ?_
            refine v_cV2 (pc := 95) 57 rfl cv_X12_227 rfl (Nat.le_of_ble_eq_true rfl) (Nat.le_of_ble_eq_true rfl) (c2) (fun r9 N9 hq9 => ?_)
            obtain ⟨rfl, hF⟩ := hq9
            show V G (d + 9) mX12_caseLine (95 + 3) _ [.int (J 0)] _ _
            refine v_if_neF (pc := 98) 58 103 rfl (by decide) (by omega) (by decide) ?_
            refine v_iconst (pc := 101) 59 rfl ?_
            refine v_zret (pc := 102) 60 rfl rfl (by decide) ⟨rfl, hF⟩
          | inr f1 =>
            rw [hR2] at c2
            have nb := num_b hR2
            refine v_aload_n (pc := 91) 54 rfl rfl ?_
            refine v_iconst (pc := 92) 55 rfl ?_
            refine v_bipush (pc := 93) 56 rfl (by decide) ?_
            refine v_cV2 (pc := 95) 57 rfl cv_X12_227 rfl (Nat.le_of_ble_eq_true rfl) (Nat.le_of_ble_eq_true rfl) (c2) (fun r9 N9 hq9 => ?_)
            obtain ⟨rfl, f11, ag5, hP5⟩ := hq9
            show V G (d + 9) mX12_caseLine (95 + 3) _ [.int (J 1)] _ (RM M0 k0 b n (pbd (rNum b n 10 300 f1.2) (fun l => pbd (rBars b n L 7 0 l.2) (fun u => .inr (L ++ [(w, 2, nK T)], tCase T r1.1 s9 f1.1 l.1 u.1, u.2)))))
            have hP6 := hP5.gar (q := 69) (i := 12 + nK T) f1.1 (Or.inr ⟨by decide, rfl⟩)
            have x67 : gI (sI N9 69 (12 + nK T) f1.1) 67 (12 + nK T) = r1.1 := by rw [gI_sI_ne (by decide), ag5 67 (by decide)]; exact y67
            have x68 : gI (sI N9 69 (12 + nK T) f1.1) 68 (12 + nK T) = s9 := by rw [gI_sI_ne (by decide), ag5 68 (by decide)]; exact y68
            have x69 : gI (sI N9 69 (12 + nK T) f1.1) 69 (12 + nK T) = f1.1 := by rw [gI_sI, if_pos rfl, if_pos rfl]
            refine v_if_neT (pc := 98) 58 103 rfl (by decide) (by omega) (by decide) ?_
            refine v_aload_n (pc := 103) 61 rfl rfl ?_
            refine v_getC (pc := 104) 62 rfl fl_X12_54 rfl 69 rfl ?_
            refine v_iload_n (pc := 107) 63 rfl rfl ?_
            refine v_aload_n (pc := 108) 64 rfl rfl ?_
            refine v_getI (pc := 109) 65 rfl fl_X12_193 rfl ?_
            rw [f11]
            refine v_iastE (pc := 112) 66 rfl rfl (12 + nK T) (by omega) ?_
            generalize sI N9 69 (12 + nK T) f1.1 = N6 at *
            have c3 := m_takesNumber (G := G) (d := d + 6) hP6 (lo := 10) (hi := 300) (by decide) (by decide)
            cases hR3 : rNum b n 10 300 f1.2 with
            | inl e =>
              rw [hR3] at c3
              refine v_aload_n (pc := 113) 67 rfl rfl ?_
              refine v_bipush (pc := 114) 68 rfl (by decide) ?_
              refine v_sipush (pc := 116) 69 rfl (by decide) ?_
              refine v_cV2 (pc := 119) 70 rfl cv_X12_227 rfl (Nat.le_of_ble_eq_true rfl) (Nat.le_of_ble_eq_true rfl) (c3) (fun r9 N9 hq9 => ?_)
              obtain ⟨rfl, hF⟩ := hq9
              show V G (d + 9) mX12_caseLine (119 + 3) _ [.int (J 0)] _ _
              refine v_if_neF (pc := 122) 71 127 rfl (by decide) (by omega) (by decide) ?_
              refine v_iconst (pc := 125) 72 rfl ?_
              refine v_zret (pc := 126) 73 rfl rfl (by decide) ⟨rfl, hF⟩
            | inr l1 =>
              rw [hR3] at c3
              have nb3 := num_b hR3
              refine v_aload_n (pc := 113) 67 rfl rfl ?_
              refine v_bipush (pc := 114) 68 rfl (by decide) ?_
              refine v_sipush (pc := 116) 69 rfl (by decide) ?_
              refine v_cV2 (pc := 119) 70 rfl cv_X12_227 rfl (Nat.le_of_ble_eq_true rfl) (Nat.le_of_ble_eq_true rfl) (c3) (fun r9 N9 hq9 => ?_)
              obtain ⟨rfl, f11, ag7, hP7⟩ := hq9
              show V G (d + 9) mX12_caseLine (119 + 3) _ [.int (J 1)] _ (RM M0 k0 b n (pbd (rBars b n L 7 0 l1.2) (fun u => .inr (L ++ [(w, 2, nK T)], tCase T r1.1 s9 f1.1 l1.1 u.1, u.2))))
              have hP8 := (hP7.gar (q := 70) (i := 12 + nK T) l1.1 (Or.inr ⟨by decide, rfl⟩)).gar (q := 71) (i := 12 + nK T) 0 (Or.inr ⟨by decide, rfl⟩)
              refine v_if_neT (pc := 122) 71 127 rfl (by decide) (by omega) (by decide) ?_
              refine v_aload_n (pc := 127) 74 rfl rfl ?_
              refine v_getC (pc := 128) 75 rfl fl_X12_57 rfl 70 rfl ?_
              refine v_iload_n (pc := 131) 76 rfl rfl ?_
              refine v_aload_n (pc := 132) 77 rfl rfl ?_
              refine v_getI (pc := 133) 78 rfl fl_X12_193 rfl ?_
              rw [f11]
              refine v_iastE (pc := 136) 79 rfl rfl (12 + nK T) (by omega) ?_
              refine v_aload_n (pc := 137) 80 rfl rfl ?_
              refine v_getC (pc := 138) 81 rfl fl_X12_60 rfl 71 rfl ?_
              refine v_iload_n (pc := 141) 82 rfl rfl ?_
              refine v_iconst (pc := 142) 83 rfl ?_
              refine v_iastE (pc := 143) 84 rfl rfl (12 + nK T) (by omega) ?_
              exact m_barsL hv q2 hc (by omega) (by omega) nb nb3 7 0 l1.2 _ _ hP8 (by rw [gI_sI_ne (by decide), gI_sI_ne (by decide), ag7 67 (by decide)]; exact x67) (by rw [gI_sI_ne (by decide), gI_sI_ne (by decide), ag7 68 (by decide)]; exact x68) (by rw [gI_sI_ne (by decide), gI_sI_ne (by decide), ag7 69 (by decide)]; exact x69) (by rw [gI_sI_ne (by decide), gI_sI, if_pos rfl, if_pos rfl]) (by rw [gI_sI, if_pos rfl, if_pos rfl]) (by decide) (by decide)
end MLine2
