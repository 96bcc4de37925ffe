/-! 66: the reference: a line; what is told taken over; ways -/
section MCop
variable {G : Gt} {d : Nat} {M0 M N : Mem} {k0 : Nat} {b : Nat → Int} {n p : Nat} {L : List Nm} {T : Tx}
theorem PMs.up {k1 : Nat} (h : PMs M0 k0 N b n p L T) (hk : k1 ≤ p) : PMs M0 k1 N b n p L T := ⟨h.1, h.2.1, h.2.2.1, h.2.2.2.1, h.2.2.2.2.1, hk, h.2.2.2.2.2.2⟩
theorem rm_val {R : LR} {r : Option Value} (h : RM M0 k0 b n R r N) : ∃ y : Int, (y = 0 ∨ y = 1) ∧ r = some (.int (J y)) := by
  cases R with
  | inl e => exact ⟨0, Or.inl rfl, h.1⟩
  | inr q => exact ⟨1, Or.inr rfl, h.1⟩
theorem m_lineTail {R : LR} {y : Int} {x1 x2 : Int32} (h : RM M0 k0 b n R (some (.int (J y))) N) (hy : y = 0 ∨ y = 1) : V G (d + 10) mX12_lineHere 229 [some (.ref 54), some (.int x1), some (.int x2), none] [.int (J y)] N (RM M0 (k0 + 1) b n (zEnd b n R)) := by
  cases R with
  | inl e =>
    have hz : y = 0 := by
      have := h.1
      injection this with this; injection this with this
      exact (J_inj (by omega)).mp this
    subst hz
    refine v_istore_n (pc := 229) 118 rfl ⟨Nat.le_of_ble_eq_true rfl, rfl⟩ ?_
    refine v_iload_n (pc := 230) 119 rfl rfl ?_
    refine v_if_eqT (pc := 231) 120 255 rfl (by decide) (by omega) (by decide) ?_
    refine v_iconst (pc := 255) 132 rfl ?_
    refine v_zret (pc := 256) 133 rfl rfl (by decide) ⟨rfl, h.2⟩
  | inr q =>
    have hz : y = 1 := by
      have := h.1
      injection this with this; injection this with this
      exact (J_inj (by omega)).mp this
    subst hz
    have hP := h.2
    obtain ⟨h1, h2, h3, h4, h5, h6, h7, h8, h9⟩ := id hP
    have hk := kd_le b n q.2.2
    have hkd := h2.2.2.2.2.1
    show V G (d + 10) mX12_lineHere 229 _ _ N (RM M0 (k0 + 1) b n (pbd (rEnd b n q.2.2) (fun p2 => .inr (q.1, q.2.1, p2))))
    unfold rEnd
    by_cases e3 : kd b n q.2.2 = 3
    · rw [if_pos e3]
      have hp := pl_le b h7
      have hx := nx_lt b h7 (by omega)
      refine v_istore_n (pc := 229) 118 rfl ⟨Nat.le_of_ble_eq_true rfl, rfl⟩ ?_
      refine v_iload_n (pc := 230) 119 rfl rfl ?_
      refine v_if_eqF (pc := 231) 120 255 rfl (by decide) (by omega) (by decide) ?_
      refine v_aload_n (pc := 234) 121 rfl rfl ?_
      refine v_aload_n (pc := 235) 122 rfl rfl ?_
      refine v_getI (pc := 236) 123 rfl fl_X12_121 rfl ?_
      refine v_iconst (pc := 239) 124 rfl ?_
      refine v_ic_neF (pc := 240) 125 247 rfl (by decide) (by omega) (by omega) ?_
      refine v_iconst (pc := 243) 126 rfl ?_
      refine v_goto (pc := 244) 127 248 rfl (by decide) ?_
      refine v_iconst (pc := 248) 129 rfl ?_
      refine v_cV2i (pc := 249) 130 rfl cv_X12_189 rfl (Nat.le_of_ble_eq_true rfl) (Nat.le_of_ble_eq_true rfl) (must_t (by decide) h3.1) ?_
      refine v_if_neT (pc := 252) 131 257 rfl (by decide) (by omega) (by decide) ?_
      refine v_aload_n (pc := 257) 134 rfl rfl ?_
      refine v_cV0 (pc := 258) 135 rfl cv_X12_196 rfl (Nat.le_of_ble_eq_true rfl) (Nat.le_of_ble_eq_true rfl) (m_adv hP (by omega)) (fun r9 N9 hq9 => ?_)
      obtain ⟨rfl, hA, hP2⟩ := hq9
      show V G (d + 10) mX12_lineHere (258 + 3) _ [] _ _
      refine v_iconst (pc := 261) 136 rfl ?_
      refine v_zret (pc := 262) 137 rfl rfl (by decide) ⟨rfl, hP2.up (by omega)⟩
    · rw [if_neg e3]
      refine v_istore_n (pc := 229) 118 rfl ⟨Nat.le_of_ble_eq_true rfl, rfl⟩ ?_
      refine v_iload_n (pc := 230) 119 rfl rfl ?_
      refine v_if_eqF (pc := 231) 120 255 rfl (by decide) (by omega) (by decide) ?_
      refine v_aload_n (pc := 234) 121 rfl rfl ?_
      refine v_aload_n (pc := 235) 122 rfl rfl ?_
      refine v_getI (pc := 236) 123 rfl fl_X12_121 rfl ?_
      refine v_iconst (pc := 239) 124 rfl ?_
      refine v_ic_neT (pc := 240) 125 247 rfl (by decide) (by omega) (by omega) ?_
      refine v_iconst (pc := 247) 128 rfl ?_
      refine v_iconst (pc := 248) 129 rfl ?_
      refine v_cV2i (pc := 249) 130 rfl cv_X12_189 rfl (Nat.le_of_ble_eq_true rfl) (Nat.le_of_ble_eq_true rfl) (must_f (by decide) h3.1) ?_
      refine v_if_neF (pc := 252) 131 257 rfl (by decide) (by omega) (by decide) ?_
      refine v_iconst (pc := 255) 132 rfl ?_
      refine v_zret (pc := 256) 133 rfl rfl (by decide) ⟨rfl, hP.no (by decide)⟩
theorem m_lineHere (h : PMs M0 k0 N b n p L T) : V G (d + 10) mX12_lineHere 0 [some (.ref 54), none, none, none] [] N (RM M0 (k0 + 1) b n (lnS b n L T p)) := by
  obtain ⟨h1, h2, h3, h4, h5, h6, h7, h8, h99⟩ := id h
  have hb := h3.2
  have hn := h5.1
  have hLI := h4.2.2.1
  have bt9 := b2i_r true
  have bf9 := b2i_r false
  have c0 := m_is (G := G) (d := d + 4) h2 (j := 0) (by decide)
  have c1 := m_is (G := G) (d := d + 4) h2 (j := 1) (by decide)
  have c2 := m_is (G := G) (d := d + 4) h2 (j := 2) (by decide)
  have c3 := m_is (G := G) (d := d + 4) h2 (j := 3) (by decide)
  have c4 := m_is (G := G) (d := d + 4) h2 (j := 4) (by decide)
  change V G (d + 4 + 5) mX12_is 0 [some (.ref 54), some (.ref (100 + 0))] [] N (Ret (some (.int (J (b2i (isW b n p 1953462126))))) N) at c0
  change V G (d + 4 + 5) mX12_is 0 [some (.ref 54), some (.ref (100 + 1))] [] N (Ret (some (.int (J (b2i (isW b n p 1919902052))))) N) at c1
  change V G (d + 4 + 5) mX12_is 0 [some (.ref 54), some (.ref (100 + 2))] [] N (Ret (some (.int (J (b2i (isW b n p 457236047717))))) N) at c2
  change V G (d + 4 + 5) mX12_is 0 [some (.ref 54), some (.ref (100 + 3))] [] N (Ret (some (.int (J (b2i (isW b n p 31935733760681324))))) N) at c3
  change V G (d + 4 + 5) mX12_is 0 [some (.ref 54), some (.ref (100 + 4))] [] N (Ret (some (.int (J (b2i (isW b n p 1667330917))))) N) at c4
  unfold lnS
  cases q0 : isW b n p 1953462126 with
  | true =>
    rw [q0] at c0
    have k1 := (isW_t.mp q0).1
    rw [if_pos rfl]
    refine v_aload_n (pc := 0) 0 rfl rfl ?_
    refine v_ldcs (pc := 1) 1 rfl 0 rfl rfl ?_
    refine v_cV1i (pc := 3) 2 rfl cv_X12_166 rfl (Nat.le_of_ble_eq_true rfl) (Nat.le_of_ble_eq_true rfl) (c0) ?_
    refine v_if_eqF (pc := 6) 3 13 rfl (by decide) (by omega) (by decide) ?_
    refine v_iconst (pc := 9) 4 rfl ?_
    refine v_goto (pc := 10) 5 66 rfl (by decide) ?_
    refine v_istore_n (pc := 66) 31 rfl ⟨Nat.le_of_ble_eq_true rfl, rfl⟩ ?_
    refine v_aload_n (pc := 67) 32 rfl rfl ?_
    refine v_iload_n (pc := 68) 33 rfl rfl ?_
    refine v_if_ltF (pc := 69) 34 76 rfl (by decide) (by omega) (by decide) ?_
    refine v_iconst (pc := 72) 35 rfl ?_
    refine v_goto (pc := 73) 36 77 rfl (by decide) ?_
    refine v_iconst (pc := 77) 38 rfl ?_
    refine v_cV2i (pc := 78) 39 rfl cv_X12_189 rfl (Nat.le_of_ble_eq_true rfl) (Nat.le_of_ble_eq_true rfl) (must_t (by decide) h3.1) ?_
    refine v_if_neT (pc := 81) 40 86 rfl (by decide) (by omega) (by decide) ?_
    refine v_iload_n (pc := 86) 43 rfl rfl ?_
    refine v_if_neF (pc := 87) 44 111 rfl (by decide) (by omega) (by decide) ?_
    refine v_aload_n (pc := 90) 45 rfl rfl ?_
    refine v_getC (pc := 91) 46 rfl fl_X12_13 rfl 56 rfl ?_
    refine v_aload_n (pc := 94) 47 rfl rfl ?_
    refine v_getI (pc := 95) 48 rfl fl_X12_199 rfl ?_
    rw [hb]
    refine v_ialdE (pc := 98) 49 rfl rfl 1 (by omega) ?_
    rw [hn.1]
    by_cases g : nT T < 5
    · rw [if_pos g, z_town]
      refine v_iconst (pc := 99) 50 rfl ?_
      refine v_ic_geF (pc := 100) 51 107 rfl (by decide) (by omega) (by omega) ?_
      refine v_iconst (pc := 103) 52 rfl ?_
      refine v_goto (pc := 104) 53 162 rfl (by decide) ?_
      refine v_istore_n (pc := 162) 83 rfl ⟨Nat.le_of_ble_eq_true rfl, rfl⟩ ?_
      refine v_aload_n (pc := 163) 84 rfl rfl ?_
      refine v_iload_n (pc := 164) 85 rfl rfl ?_
      refine v_iconst (pc := 165) 86 rfl ?_
      refine v_cV2i (pc := 166) 87 rfl cv_X12_189 rfl (Nat.le_of_ble_eq_true rfl) (Nat.le_of_ble_eq_true rfl) (must_t (by decide) h3.1) ?_
      refine v_if_neT (pc := 169) 88 174 rfl (by decide) (by omega) (by decide) ?_
      refine v_aload_n (pc := 174) 91 rfl rfl ?_
      refine v_cV0 (pc := 175) 92 rfl cv_X12_196 rfl (Nat.le_of_ble_eq_true rfl) (Nat.le_of_ble_eq_true rfl) (m_adv h (by omega)) (fun r9 N9 hq9 => ?_)
      obtain ⟨rfl, hA, hP⟩ := hq9
      show V G (d + 10) mX12_lineHere (175 + 3) _ [] _ _
      refine v_iload_n (pc := 178) 93 rfl rfl ?_
      refine v_if_neF (pc := 179) 94 189 rfl (by decide) (by omega) (by decide) ?_
      refine v_aload_n (pc := 182) 95 rfl rfl ?_
      refine v_cV0 (pc := 183) 96 rfl cv_X12_231 rfl (Nat.le_of_ble_eq_true rfl) (Nat.le_of_ble_eq_true rfl) (m_townLine hP g) (fun r9 N9 hq9 => ?_)
      obtain ⟨y, hy, rfl⟩ := rm_val hq9
      show V G (d + 10) mX12_lineHere (183 + 3) _ [.int (J y)] _ _
      refine v_goto (pc := 186) 97 229 rfl (by decide) ?_
      exact m_lineTail hq9 hy
    · rw [if_neg g]
      refine v_iconst (pc := 99) 50 rfl ?_
      refine v_ic_geT (pc := 100) 51 107 rfl (by decide) (by omega) (by omega) ?_
      refine v_iconst (pc := 107) 54 rfl ?_
      refine v_goto (pc := 108) 55 162 rfl (by decide) ?_
      refine v_istore_n (pc := 162) 83 rfl ⟨Nat.le_of_ble_eq_true rfl, rfl⟩ ?_
      refine v_aload_n (pc := 163) 84 rfl rfl ?_
      refine v_iload_n (pc := 164) 85 rfl rfl ?_
      refine v_iconst (pc := 165) 86 rfl ?_
      refine v_cV2i (pc := 166) 87 rfl cv_X12_189 rfl (Nat.le_of_ble_eq_true rfl) (Nat.le_of_ble_eq_true rfl) (must_f (by decide) h3.1) ?_
      refine v_if_neF (pc := 169) 88 174 rfl (by decide) (by omega) (by decide) ?_
      refine v_iconst (pc := 172) 89 rfl ?_
      refine v_zret (pc := 173) 90 rfl rfl (by decide) ⟨rfl, h.no (by decide)⟩
  | false =>
    rw [q0] at c0
    rw [if_neg (by decide)]
    cases q1 : isW b n p 1919902052 with
    | true =>
      rw [q1] at c1
      have k1 := (isW_t.mp q1).1
      rw [if_pos rfl, z_road]
      refine v_aload_n (pc := 0) 0 rfl rfl ?_
      refine v_ldcs (pc := 1) 1 rfl 0 rfl rfl ?_
      refine v_cV1i (pc := 3) 2 rfl cv_X12_166 rfl (Nat.le_of_ble_eq_true rfl) (Nat.le_of_ble_eq_true rfl) (c0) ?_
      refine v_if_eqT (pc := 6) 3 13 rfl (by decide) (by omega) (by decide) ?_
      refine v_aload_n (pc := 13) 6 rfl rfl ?_
      refine v_ldcs (pc := 14) 7 rfl 1 rfl rfl ?_
      refine v_cV1i (pc := 16) 8 rfl cv_X12_166 rfl (Nat.le_of_ble_eq_true rfl) (Nat.le_of_ble_eq_true rfl) (c1) ?_
      refine v_if_eqF (pc := 19) 9 26 rfl (by decide) (by omega) (by decide) ?_
      refine v_iconst (pc := 22) 10 rfl ?_
      refine v_goto (pc := 23) 11 66 rfl (by decide) ?_
      refine v_istore_n (pc := 66) 31 rfl ⟨Nat.le_of_ble_eq_true rfl, rfl⟩ ?_
      refine v_aload_n (pc := 67) 32 rfl rfl ?_
      refine v_iload_n (pc := 68) 33 rfl rfl ?_
      refine v_if_ltF (pc := 69) 34 76 rfl (by decide) (by omega) (by decide) ?_
      refine v_iconst (pc := 72) 35 rfl ?_
      refine v_goto (pc := 73) 36 77 rfl (by decide) ?_
      refine v_iconst (pc := 77) 38 rfl ?_
      refine v_cV2i (pc := 78) 39 rfl cv_X12_189 rfl (Nat.le_of_ble_eq_true rfl) (Nat.le_of_ble_eq_true rfl) (must_t (by decide) h3.1) ?_
      refine v_if_neT (pc := 81) 40 86 rfl (by decide) (by omega) (by decide) ?_
      refine v_iload_n (pc := 86) 43 rfl rfl ?_
      refine v_if_neT (pc := 87) 44 111 rfl (by decide) (by omega) (by decide) ?_
      refine v_iload_n (pc := 111) 56 rfl rfl ?_
      refine v_iconst (pc := 112) 57 rfl ?_
      refine v_ic_neT (pc := 113) 58 138 rfl (by decide) (by omega) (by decide) ?_
      refine v_iload_n (pc := 138) 70 rfl rfl ?_
      refine v_iconst (pc := 139) 71 rfl ?_
      refine v_ic_neT (pc := 140) 72 157 rfl (by decide) (by omega) (by decide) ?_
      refine v_iconst (pc := 157) 80 rfl ?_
      refine v_goto (pc := 158) 81 162 rfl (by decide) ?_
      refine v_istore_n (pc := 162) 83 rfl ⟨Nat.le_of_ble_eq_true rfl, rfl⟩ ?_
      refine v_aload_n (pc := 163) 84 rfl rfl ?_
      refine v_iload_n (pc := 164) 85 rfl rfl ?_
      refine v_iconst (pc := 165) 86 rfl ?_
      refine v_cV2i (pc := 166) 87 rfl cv_X12_189 rfl (Nat.le_of_ble_eq_true rfl) (Nat.le_of_ble_eq_true rfl) (must_t (by decide) h3.1) ?_
      refine v_if_neT (pc := 169) 88 174 rfl (by decide) (by omega) (by decide) ?_
      refine v_aload_n (pc := 174) 91 rfl rfl ?_
      refine v_cV0 (pc := 175) 92 rfl cv_X12_196 rfl (Nat.le_of_ble_eq_true rfl) (Nat.le_of_ble_eq_true rfl) (m_adv h (by omega)) (fun r9 N9 hq9 => ?_)
      obtain ⟨rfl, hA, hP⟩ := hq9
      show V G (d + 10) mX12_lineHere (175 + 3) _ [] _ _
      refine v_iload_n (pc := 178) 93 rfl rfl ?_
      refine v_if_neT (pc := 179) 94 189 rfl (by decide) (by omega) (by decide) ?_
      refine v_iload_n (pc := 189) 98 rfl rfl ?_
      refine v_iconst (pc := 190) 99 rfl ?_
      refine v_ic_neF (pc := 191) 100 201 rfl (by decide) (by omega) (by decide) ?_
      refine v_aload_n (pc := 194) 101 rfl rfl ?_
      refine v_cV0 (pc := 195) 102 rfl cv_X12_234 rfl (Nat.le_of_ble_eq_true rfl) (Nat.le_of_ble_eq_true rfl) (m_roadLine hP) (fun r9 N9 hq9 => ?_)
      obtain ⟨y, hy, rfl⟩ := rm_val hq9
      show V G (d + 10) mX12_lineHere (195 + 3) _ [.int (J y)] _ _
      refine v_goto (pc := 198) 103 229 rfl (by decide) ?_
      exact m_lineTail hq9 hy
    | false =>
      rw [q1] at c1
      rw [if_neg (by decide)]
      cases q2 : isW b n p 457236047717 with
      | true =>
        rw [q2] at c2
        have k1 := (isW_t.mp q2).1
        rw [if_pos rfl]
        refine v_aload_n (pc := 0) 0 rfl rfl ?_
        refine v_ldcs (pc := 1) 1 rfl 0 rfl rfl ?_
        refine v_cV1i (pc := 3) 2 rfl cv_X12_166 rfl (Nat.le_of_ble_eq_true rfl) (Nat.le_of_ble_eq_true rfl) (c0) ?_
        refine v_if_eqT (pc := 6) 3 13 rfl (by decide) (by omega) (by decide) ?_
        refine v_aload_n (pc := 13) 6 rfl rfl ?_
        refine v_ldcs (pc := 14) 7 rfl 1 rfl rfl ?_
        refine v_cV1i (pc := 16) 8 rfl cv_X12_166 rfl (Nat.le_of_ble_eq_true rfl) (Nat.le_of_ble_eq_true rfl) (c1) ?_
        refine v_if_eqT (pc := 19) 9 26 rfl (by decide) (by omega) (by decide) ?_
        refine v_aload_n (pc := 26) 12 rfl rfl ?_
        refine v_ldcs (pc := 27) 13 rfl 2 rfl rfl ?_
        refine v_cV1i (pc := 29) 14 rfl cv_X12_166 rfl (Nat.le_of_ble_eq_true rfl) (Nat.le_of_ble_eq_true rfl) (c2) ?_
        refine v_if_eqF (pc := 32) 15 39 rfl (by decide) (by omega) (by decide) ?_
        refine v_iconst (pc := 35) 16 rfl ?_
        refine v_goto (pc := 36) 17 66 rfl (by decide) ?_
        refine v_istore_n (pc := 66) 31 rfl ⟨Nat.le_of_ble_eq_true rfl, rfl⟩ ?_
        refine v_aload_n (pc := 67) 32 rfl rfl ?_
        refine v_iload_n (pc := 68) 33 rfl rfl ?_
        refine v_if_ltF (pc := 69) 34 76 rfl (by decide) (by omega) (by decide) ?_
        refine v_iconst (pc := 72) 35 rfl ?_
        refine v_goto (pc := 73) 36 77 rfl (by decide) ?_
        refine v_iconst (pc := 77) 38 rfl ?_
        refine v_cV2i (pc := 78) 39 rfl cv_X12_189 rfl (Nat.le_of_ble_eq_true rfl) (Nat.le_of_ble_eq_true rfl) (must_t (by decide) h3.1) ?_
        refine v_if_neT (pc := 81) 40 86 rfl (by decide) (by omega) (by decide) ?_
        refine v_iload_n (pc := 86) 43 rfl rfl ?_
        refine v_if_neT (pc := 87) 44 111 rfl (by decide) (by omega) (by decide) ?_
        refine v_iload_n (pc := 111) 56 rfl rfl ?_
        refine v_iconst (pc := 112) 57 rfl ?_
        refine v_ic_neF (pc := 113) 58 138 rfl (by decide) (by omega) (by decide) ?_
        refine v_aload_n (pc := 116) 59 rfl rfl ?_
        refine v_getC (pc := 117) 60 rfl fl_X12_17 rfl 57 rfl ?_
        refine v_aload_n (pc := 120) 61 rfl rfl ?_
        refine v_getI (pc := 121) 62 rfl fl_X12_199 rfl ?_
        rw [hb]
        refine v_ialdE (pc := 124) 63 rfl rfl 1 (by omega) ?_
        rw [hn.2.1]
        by_cases g : nJ T < 6
        · rw [if_pos g, z_judge]
          refine v_bipush (pc := 125) 64 rfl (by decide) ?_
          refine v_ic_geF (pc := 127) 65 134 rfl (by decide) (by omega) (by omega) ?_
          refine v_iconst (pc := 130) 66 rfl ?_
          refine v_goto (pc := 131) 67 162 rfl (by decide) ?_
          refine v_istore_n (pc := 162) 83 rfl ⟨Nat.le_of_ble_eq_true rfl, rfl⟩ ?_
          refine v_aload_n (pc := 163) 84 rfl rfl ?_
          refine v_iload_n (pc := 164) 85 rfl rfl ?_
          refine v_iconst (pc := 165) 86 rfl ?_
          refine v_cV2i (pc := 166) 87 rfl cv_X12_189 rfl (Nat.le_of_ble_eq_true rfl) (Nat.le_of_ble_eq_true rfl) (must_t (by decide) h3.1) ?_
          refine v_if_neT (pc := 169) 88 174 rfl (by decide) (by omega) (by decide) ?_
          refine v_aload_n (pc := 174) 91 rfl rfl ?_
          refine v_cV0 (pc := 175) 92 rfl cv_X12_196 rfl (Nat.le_of_ble_eq_true rfl) (Nat.le_of_ble_eq_true rfl) (m_adv h (by omega)) (fun r9 N9 hq9 => ?_)
          obtain ⟨rfl, hA, hP⟩ := hq9
          show V G (d + 10) mX12_lineHere (175 + 3) _ [] _ _
          refine v_iload_n (pc := 178) 93 rfl rfl ?_
          refine v_if_neT (pc := 179) 94 189 rfl (by decide) (by omega) (by decide) ?_
          refine v_iload_n (pc := 189) 98 rfl rfl ?_
          refine v_iconst (pc := 190) 99 rfl ?_
          refine v_ic_neT (pc := 191) 100 201 rfl (by decide) (by omega) (by decide) ?_
          refine v_iload_n (pc := 201) 104 rfl rfl ?_
          refine v_iconst (pc := 202) 105 rfl ?_
          refine v_ic_neF (pc := 203) 106 213 rfl (by decide) (by omega) (by decide) ?_
          refine v_aload_n (pc := 206) 107 rfl rfl ?_
          refine v_cV0 (pc := 207) 108 rfl cv_X12_237 rfl (Nat.le_of_ble_eq_true rfl) (Nat.le_of_ble_eq_true rfl) (m_judgeLine hP g) (fun r9 N9 hq9 => ?_)
          obtain ⟨y, hy, rfl⟩ := rm_val hq9
          show V G (d + 10) mX12_lineHere (207 + 3) _ [.int (J y)] _ _
          refine v_goto (pc := 210) 109 229 rfl (by decide) ?_
          exact m_lineTail hq9 hy
        · rw [if_neg g]
          refine v_bipush (pc := 125) 64 rfl (by decide) ?_
          refine v_ic_geT (pc := 127) 65 134 rfl (by decide) (by omega) (by omega) ?_
          refine v_iconst (pc := 134) 68 rfl ?_
          refine v_goto (pc := 135) 69 162 rfl (by decide) ?_
          refine v_istore_n (pc := 162) 83 rfl ⟨Nat.le_of_ble_eq_true rfl, rfl⟩ ?_
          refine v_aload_n (pc := 163) 84 rfl rfl ?_
          refine v_iload_n (pc := 164) 85 rfl rfl ?_
          refine v_iconst (pc := 165) 86 rfl ?_
          refine v_cV2i (pc := 166) 87 rfl cv_X12_189 rfl (Nat.le_of_ble_eq_true rfl) (Nat.le_of_ble_eq_true rfl) (must_f (by decide) h3.1) ?_
          refine v_if_neF (pc := 169) 88 174 rfl (by decide) (by omega) (by decide) ?_
          refine v_iconst (pc := 172) 89 rfl ?_
          refine v_zret (pc := 173) 90 rfl rfl (by decide) ⟨rfl, h.no (by decide)⟩
      | false =>
        rw [q2] at c2
        rw [if_neg (by decide)]
        cases q3 : isW b n p 31935733760681324 with
        | true =>
          rw [q3] at c3
          have k1 := (isW_t.mp q3).1
          rw [if_pos rfl, z_quar]
          refine v_aload_n (pc := 0) 0 rfl rfl ?_
          refine v_ldcs (pc := 1) 1 rfl 0 rfl rfl ?_
          refine v_cV1i (pc := 3) 2 rfl cv_X12_166 rfl (Nat.le_of_ble_eq_true rfl) (Nat.le_of_ble_eq_true rfl) (c0) ?_
          refine v_if_eqT (pc := 6) 3 13 rfl (by decide) (by omega) (by decide) ?_
          refine v_aload_n (pc := 13) 6 rfl rfl ?_
          refine v_ldcs (pc := 14) 7 rfl 1 rfl rfl ?_
          refine v_cV1i (pc := 16) 8 rfl cv_X12_166 rfl (Nat.le_of_ble_eq_true rfl) (Nat.le_of_ble_eq_true rfl) (c1) ?_
          refine v_if_eqT (pc := 19) 9 26 rfl (by decide) (by omega) (by decide) ?_
          refine v_aload_n (pc := 26) 12 rfl rfl ?_
          refine v_ldcs (pc := 27) 13 rfl 2 rfl rfl ?_
          refine v_cV1i (pc := 29) 14 rfl cv_X12_166 rfl (Nat.le_of_ble_eq_true rfl) (Nat.le_of_ble_eq_true rfl) (c2) ?_
          refine v_if_eqT (pc := 32) 15 39 rfl (by decide) (by omega) (by decide) ?_
          refine v_aload_n (pc := 39) 18 rfl rfl ?_
          refine v_ldcs (pc := 40) 19 rfl 3 rfl rfl ?_
          refine v_cV1i (pc := 42) 20 rfl cv_X12_166 rfl (Nat.le_of_ble_eq_true rfl) (Nat.le_of_ble_eq_true rfl) (c3) ?_
          refine v_if_eqF (pc := 45) 21 52 rfl (by decide) (by omega) (by decide) ?_
          refine v_iconst (pc := 48) 22 rfl ?_
          refine v_goto (pc := 49) 23 66 rfl (by decide) ?_
          refine v_istore_n (pc := 66) 31 rfl ⟨Nat.le_of_ble_eq_true rfl, rfl⟩ ?_
          refine v_aload_n (pc := 67) 32 rfl rfl ?_
          refine v_iload_n (pc := 68) 33 rfl rfl ?_
          refine v_if_ltF (pc := 69) 34 76 rfl (by decide) (by omega) (by decide) ?_
          refine v_iconst (pc := 72) 35 rfl ?_
          refine v_goto (pc := 73) 36 77 rfl (by decide) ?_
          refine v_iconst (pc := 77) 38 rfl ?_
          refine v_cV2i (pc := 78) 39 rfl cv_X12_189 rfl (Nat.le_of_ble_eq_true rfl) (Nat.le_of_ble_eq_true rfl) (must_t (by decide) h3.1) ?_
          refine v_if_neT (pc := 81) 40 86 rfl (by decide) (by omega) (by decide) ?_
          refine v_iload_n (pc := 86) 43 rfl rfl ?_
          refine v_if_neT (pc := 87) 44 111 rfl (by decide) (by omega) (by decide) ?_
          refine v_iload_n (pc := 111) 56 rfl rfl ?_
          refine v_iconst (pc := 112) 57 rfl ?_
          refine v_ic_neT (pc := 113) 58 138 rfl (by decide) (by omega) (by decide) ?_
          refine v_iload_n (pc := 138) 70 rfl rfl ?_
          refine v_iconst (pc := 139) 71 rfl ?_
          refine v_ic_neT (pc := 140) 72 157 rfl (by decide) (by omega) (by decide) ?_
          refine v_iconst (pc := 157) 80 rfl ?_
          refine v_goto (pc := 158) 81 162 rfl (by decide) ?_
          refine v_istore_n (pc := 162) 83 rfl ⟨Nat.le_of_ble_eq_true rfl, rfl⟩ ?_
          refine v_aload_n (pc := 163) 84 rfl rfl ?_
          refine v_iload_n (pc := 164) 85 rfl rfl ?_
          refine v_iconst (pc := 165) 86 rfl ?_
          refine v_cV2i (pc := 166) 87 rfl cv_X12_189 rfl (Nat.le_of_ble_eq_true rfl) (Nat.le_of_ble_eq_true rfl) (must_t (by decide) h3.1) ?_
          refine v_if_neT (pc := 169) 88 174 rfl (by decide) (by omega) (by decide) ?_
          refine v_aload_n (pc := 174) 91 rfl rfl ?_
          refine v_cV0 (pc := 175) 92 rfl cv_X12_196 rfl (Nat.le_of_ble_eq_true rfl) (Nat.le_of_ble_eq_true rfl) (m_adv h (by omega)) (fun r9 N9 hq9 => ?_)
          obtain ⟨rfl, hA, hP⟩ := hq9
          show V G (d + 10) mX12_lineHere (175 + 3) _ [] _ _
          refine v_iload_n (pc := 178) 93 rfl rfl ?_
          refine v_if_neT (pc := 179) 94 189 rfl (by decide) (by omega) (by decide) ?_
          refine v_iload_n (pc := 189) 98 rfl rfl ?_
          refine v_iconst (pc := 190) 99 rfl ?_
          refine v_ic_neT (pc := 191) 100 201 rfl (by decide) (by omega) (by decide) ?_
          refine v_iload_n (pc := 201) 104 rfl rfl ?_
          refine v_iconst (pc := 202) 105 rfl ?_
          refine v_ic_neT (pc := 203) 106 213 rfl (by decide) (by omega) (by decide) ?_
          refine v_iload_n (pc := 213) 110 rfl rfl ?_
          refine v_iconst (pc := 214) 111 rfl ?_
          refine v_ic_neF (pc := 215) 112 225 rfl (by decide) (by omega) (by decide) ?_
          refine v_aload_n (pc := 218) 113 rfl rfl ?_
          refine v_cV0 (pc := 219) 114 rfl cv_X12_240 rfl (Nat.le_of_ble_eq_true rfl) (Nat.le_of_ble_eq_true rfl) (m_quarrelLine hP) (fun r9 N9 hq9 => ?_)
          obtain ⟨y, hy, rfl⟩ := rm_val hq9
          show V G (d + 10) mX12_lineHere (219 + 3) _ [.int (J y)] _ _
          refine v_goto (pc := 222) 115 229 rfl (by decide) ?_
          exact m_lineTail hq9 hy
        | false =>
          rw [q3] at c3
          rw [if_neg (by decide)]
          cases q4 : isW b n p 1667330917 with
          | true =>
            rw [q4] at c4
            have k1 := (isW_t.mp q4).1
            rw [if_pos rfl]
            refine v_aload_n (pc := 0) 0 rfl rfl ?_
            refine v_ldcs (pc := 1) 1 rfl 0 rfl rfl ?_
            refine v_cV1i (pc := 3) 2 rfl cv_X12_166 rfl (Nat.le_of_ble_eq_true rfl) (Nat.le_of_ble_eq_true rfl) (c0) ?_
            refine v_if_eqT (pc := 6) 3 13 rfl (by decide) (by omega) (by decide) ?_
            refine v_aload_n (pc := 13) 6 rfl rfl ?_
            refine v_ldcs (pc := 14) 7 rfl 1 rfl rfl ?_
            refine v_cV1i (pc := 16) 8 rfl cv_X12_166 rfl (Nat.le_of_ble_eq_true rfl) (Nat.le_of_ble_eq_true rfl) (c1) ?_
            refine v_if_eqT (pc := 19) 9 26 rfl (by decide) (by omega) (by decide) ?_
            refine v_aload_n (pc := 26) 12 rfl rfl ?_
            refine v_ldcs (pc := 27) 13 rfl 2 rfl rfl ?_
            refine v_cV1i (pc := 29) 14 rfl cv_X12_166 rfl (Nat.le_of_ble_eq_true rfl) (Nat.le_of_ble_eq_true rfl) (c2) ?_
            refine v_if_eqT (pc := 32) 15 39 rfl (by decide) (by omega) (by decide) ?_
            refine v_aload_n (pc := 39) 18 rfl rfl ?_
            refine v_ldcs (pc := 40) 19 rfl 3 rfl rfl ?_
            refine v_cV1i (pc := 42) 20 rfl cv_X12_166 rfl (Nat.le_of_ble_eq_true rfl) (Nat.le_of_ble_eq_true rfl) (c3) ?_
            refine v_if_eqT (pc := 45) 21 52 rfl (by decide) (by omega) (by decide) ?_
            refine v_aload_n (pc := 52) 24 rfl rfl ?_
            refine v_ldcs (pc := 53) 25 rfl 4 rfl rfl ?_
            refine v_cV1i (pc := 55) 26 rfl cv_X12_166 rfl (Nat.le_of_ble_eq_true rfl) (Nat.le_of_ble_eq_true rfl) (c4) ?_
            refine v_if_eqF (pc := 58) 27 65 rfl (by decide) (by omega) (by decide) ?_
            refine v_iconst (pc := 61) 28 rfl ?_
            refine v_goto (pc := 62) 29 66 rfl (by decide) ?_
            refine v_istore_n (pc := 66) 31 rfl ⟨Nat.le_of_ble_eq_true rfl, rfl⟩ ?_
            refine v_aload_n (pc := 67) 32 rfl rfl ?_
            refine v_iload_n (pc := 68) 33 rfl rfl ?_
            refine v_if_ltF (pc := 69) 34 76 rfl (by decide) (by omega) (by decide) ?_
            refine v_iconst (pc := 72) 35 rfl ?_
            refine v_goto (pc := 73) 36 77 rfl (by decide) ?_
            refine v_iconst (pc := 77) 38 rfl ?_
            refine v_cV2i (pc := 78) 39 rfl cv_X12_189 rfl (Nat.le_of_ble_eq_true rfl) (Nat.le_of_ble_eq_true rfl) (must_t (by decide) h3.1) ?_
            refine v_if_neT (pc := 81) 40 86 rfl (by decide) (by omega) (by decide) ?_
            refine v_iload_n (pc := 86) 43 rfl rfl ?_
            refine v_if_neT (pc := 87) 44 111 rfl (by decide) (by omega) (by decide) ?_
            refine v_iload_n (pc := 111) 56 rfl rfl ?_
            refine v_iconst (pc := 112) 57 rfl ?_
            refine v_ic_neT (pc := 113) 58 138 rfl (by decide) (by omega) (by decide) ?_
            refine v_iload_n (pc := 138) 70 rfl rfl ?_
            refine v_iconst (pc := 139) 71 rfl ?_
            refine v_ic_neF (pc := 140) 72 157 rfl (by decide) (by omega) (by decide) ?_
            refine v_aload_n (pc := 143) 73 rfl rfl ?_
            refine v_getC (pc := 144) 74 rfl fl_X12_20 rfl 58 rfl ?_
            refine v_aload_n (pc := 147) 75 rfl rfl ?_
            refine v_getI (pc := 148) 76 rfl fl_X12_199 rfl ?_
            rw [hb]
            refine v_ialdE (pc := 151) 77 rfl rfl 1 (by omega) ?_
            rw [hn.2.2]
            by_cases g : nK T < 12
            · rw [if_pos g, z_case]
              refine v_bipush (pc := 152) 78 rfl (by decide) ?_
              refine v_ic_geF (pc := 154) 79 161 rfl (by decide) (by omega) (by omega) ?_
              refine v_iconst (pc := 157) 80 rfl ?_
              refine v_goto (pc := 158) 81 162 rfl (by decide) ?_
              refine v_istore_n (pc := 162) 83 rfl ⟨Nat.le_of_ble_eq_true rfl, rfl⟩ ?_
              refine v_aload_n (pc := 163) 84 rfl rfl ?_
              refine v_iload_n (pc := 164) 85 rfl rfl ?_
              refine v_iconst (pc := 165) 86 rfl ?_
              refine v_cV2i (pc := 166) 87 rfl cv_X12_189 rfl (Nat.le_of_ble_eq_true rfl) (Nat.le_of_ble_eq_true rfl) (must_t (by decide) h3.1) ?_
              refine v_if_neT (pc := 169) 88 174 rfl (by decide) (by omega) (by decide) ?_
              refine v_aload_n (pc := 174) 91 rfl rfl ?_
              refine v_cV0 (pc := 175) 92 rfl cv_X12_196 rfl (Nat.le_of_ble_eq_true rfl) (Nat.le_of_ble_eq_true rfl) (m_adv h (by omega)) (fun r9 N9 hq9 => ?_)
              obtain ⟨rfl, hA, hP⟩ := hq9
              show V G (d + 10) mX12_lineHere (175 + 3) _ [] _ _
              refine v_iload_n (pc := 178) 93 rfl rfl ?_
              refine v_if_neT (pc := 179) 94 189 rfl (by decide) (by omega) (by decide) ?_
              refine v_iload_n (pc := 189) 98 rfl rfl ?_
              refine v_iconst (pc := 190) 99 rfl ?_
              refine v_ic_neT (pc := 191) 100 201 rfl (by decide) (by omega) (by decide) ?_
              refine v_iload_n (pc := 201) 104 rfl rfl ?_
              refine v_iconst (pc := 202) 105 rfl ?_
              refine v_ic_neT (pc := 203) 106 213 rfl (by decide) (by omega) (by decide) ?_
              refine v_iload_n (pc := 213) 110 rfl rfl ?_
              refine v_iconst (pc := 214) 111 rfl ?_
              refine v_ic_neT (pc := 215) 112 225 rfl (by decide) (by omega) (by decide) ?_
              refine v_aload_n (pc := 225) 116 rfl rfl ?_
              refine v_cV0 (pc := 226) 117 rfl cv_X12_243 rfl (Nat.le_of_ble_eq_true rfl) (Nat.le_of_ble_eq_true rfl) (m_caseLine hP g) (fun r9 N9 hq9 => ?_)
              obtain ⟨y, hy, rfl⟩ := rm_val hq9
              show V G (d + 10) mX12_lineHere (226 + 3) _ [.int (J y)] _ _
              exact m_lineTail hq9 hy
            · rw [if_neg g]
              refine v_bipush (pc := 152) 78 rfl (by decide) ?_
              refine v_ic_geT (pc := 154) 79 161 rfl (by decide) (by omega) (by omega) ?_
              refine v_iconst (pc := 161) 82 rfl ?_
              refine v_istore_n (pc := 162) 83 rfl ⟨Nat.le_of_ble_eq_true rfl, rfl⟩ ?_
              refine v_aload_n (pc := 163) 84 rfl rfl ?_
              refine v_iload_n (pc := 164) 85 rfl rfl ?_
              refine v_iconst (pc := 165) 86 rfl ?_
              refine v_cV2i (pc := 166) 87 rfl cv_X12_189 rfl (Nat.le_of_ble_eq_true rfl) (Nat.le_of_ble_eq_true rfl) (must_f (by decide) h3.1) ?_
              refine v_if_neF (pc := 169) 88 174 rfl (by decide) (by omega) (by decide) ?_
              refine v_iconst (pc := 172) 89 rfl ?_
              refine v_zret (pc := 173) 90 rfl rfl (by decide) ⟨rfl, h.no (by decide)⟩
          | false =>
            rw [q4] at c4
            rw [if_neg (by decide)]
            refine v_aload_n (pc := 0) 0 rfl rfl ?_
            refine v_ldcs (pc := 1) 1 rfl 0 rfl rfl ?_
            refine v_cV1i (pc := 3) 2 rfl cv_X12_166 rfl (Nat.le_of_ble_eq_true rfl) (Nat.le_of_ble_eq_true rfl) (c0) ?_
            refine v_if_eqT (pc := 6) 3 13 rfl (by decide) (by omega) (by decide) ?_
            refine v_aload_n (pc := 13) 6 rfl rfl ?_
            refine v_ldcs (pc := 14) 7 rfl 1 rfl rfl ?_
            refine v_cV1i (pc := 16) 8 rfl cv_X12_166 rfl (Nat.le_of_ble_eq_true rfl) (Nat.le_of_ble_eq_true rfl) (c1) ?_
            refine v_if_eqT (pc := 19) 9 26 rfl (by decide) (by omega) (by decide) ?_
            refine v_aload_n (pc := 26) 12 rfl rfl ?_
            refine v_ldcs (pc := 27) 13 rfl 2 rfl rfl ?_
            refine v_cV1i (pc := 29) 14 rfl cv_X12_166 rfl (Nat.le_of_ble_eq_true rfl) (Nat.le_of_ble_eq_true rfl) (c2) ?_
            refine v_if_eqT (pc := 32) 15 39 rfl (by decide) (by omega) (by decide) ?_
            refine v_aload_n (pc := 39) 18 rfl rfl ?_
            refine v_ldcs (pc := 40) 19 rfl 3 rfl rfl ?_
            refine v_cV1i (pc := 42) 20 rfl cv_X12_166 rfl (Nat.le_of_ble_eq_true rfl) (Nat.le_of_ble_eq_true rfl) (c3) ?_
            refine v_if_eqT (pc := 45) 21 52 rfl (by decide) (by omega) (by decide) ?_
            refine v_aload_n (pc := 52) 24 rfl rfl ?_
            refine v_ldcs (pc := 53) 25 rfl 4 rfl rfl ?_
            refine v_cV1i (pc := 55) 26 rfl cv_X12_166 rfl (Nat.le_of_ble_eq_true rfl) (Nat.le_of_ble_eq_true rfl) (c4) ?_
            refine v_if_eqT (pc := 58) 27 65 rfl (by decide) (by omega) (by decide) ?_
            refine v_iconst (pc := 65) 30 rfl ?_
            refine v_istore_n (pc := 66) 31 rfl ⟨Nat.le_of_ble_eq_true rfl, rfl⟩ ?_
            refine v_aload_n (pc := 67) 32 rfl rfl ?_
            refine v_iload_n (pc := 68) 33 rfl rfl ?_
            refine v_if_ltT (pc := 69) 34 76 rfl (by decide) (by omega) (by decide) ?_
            refine v_iconst (pc := 76) 37 rfl ?_
            refine v_iconst (pc := 77) 38 rfl ?_
            refine v_cV2i (pc := 78) 39 rfl cv_X12_189 rfl (Nat.le_of_ble_eq_true rfl) (Nat.le_of_ble_eq_true rfl) (must_f (by decide) h3.1) ?_
            refine v_if_neF (pc := 81) 40 86 rfl (by decide) (by omega) (by decide) ?_
            refine v_iconst (pc := 84) 41 rfl ?_
            refine v_zret (pc := 85) 42 rfl rfl (by decide) ⟨rfl, h.no (by decide)⟩
/-- what is taken over so far: a of the roads, c of the judges, e of the cases -/
def CP (N N2 : Mem) (a c e : Nat) : Prop := (∀ q, q < 56 ∨ 72 ≤ q → gI N2 q = gI N q) ∧ (gI N2 56 0 = gI N 56 1 ∧ gI N2 57 0 = gI N 57 1 ∧ gI N2 58 0 = gI N 58 1) ∧
  (∀ i, gI N2 62 i = if i < a then gI N 62 (25 + i) else gI N 62 i) ∧ (∀ q, 63 ≤ q ∧ q ≤ 66 → ∀ i, gI N2 q i = if i < c then gI N q (6 + i) else gI N q i) ∧
  (∀ q, 67 ≤ q ∧ q ≤ 71 → ∀ i, gI N2 q i = if i < e then gI N q (12 + i) else gI N q i) ∧ (∀ q, q < 54 → gL N2 q = gL N q) ∧ gR N2 = gR N
theorem CP.lng {N2 : Mem} {a c e k i : Nat} (h : CP N N2 a c e) (v : Int64) (hk : 54 ≤ k) : CP N (sL N2 k i v) a c e := ⟨h.1, h.2.1, h.2.2.1, h.2.2.2.1, h.2.2.2.2.1, fun q hq => by rw [gL_sL_ne (by omega)]; exact h.2.2.2.2.2.1 q hq, h.2.2.2.2.2.2⟩
theorem CP.road {N2 : Mem} {a c e : Nat} (h : CP N N2 a c e) : CP N (sI N2 62 a (gI N 62 (25 + a))) (a + 1) c e := by
  have e1 : ∀ q, q ≠ 62 → gI (sI N2 62 a (gI N 62 (25 + a))) q = gI N2 q := fun q hq => gI_sI_ne hq
  obtain ⟨h1, h2, h3, h4, h5, h6⟩ := h
  refine ⟨fun q hq => by rw [e1 q (by omega)]; exact h1 q hq, by rw [e1 56 (by decide), e1 57 (by decide), e1 58 (by decide)]; exact h2, fun i => ?_, fun q hq i => by rw [e1 q (by omega)]; exact h4 q hq i, fun q hq i => by rw [e1 q (by omega)]; exact h5 q hq i, h6⟩
  rw [gI_sI, if_pos rfl]
  by_cases g : i = a
  · rw [if_pos g, if_pos (by omega), g]
  · rw [if_neg g, h3]
    by_cases g2 : i < a
    · rw [if_pos g2, if_pos (by omega)]
    · rw [if_neg g2, if_neg (by omega)]
theorem CP.jud {N2 : Mem} {a c e : Nat} (h : CP N N2 a c e) : CP N (sI (sI (sI (sI N2 63 c (gI N 63 (6 + c))) 64 c (gI N 64 (6 + c))) 65 c (gI N 65 (6 + c))) 66 c (gI N 66 (6 + c))) a (c + 1) e := by
  have e1 : ∀ q, ¬ (63 ≤ q ∧ q ≤ 66) → gI (sI (sI (sI (sI N2 63 c (gI N 63 (6 + c))) 64 c (gI N 64 (6 + c))) 65 c (gI N 65 (6 + c))) 66 c (gI N 66 (6 + c))) q = gI N2 q := fun q hq => by rw [gI_sI_ne (by omega), gI_sI_ne (by omega), gI_sI_ne (by omega), gI_sI_ne (by omega)]
  obtain ⟨h1, h2, h3, h4, h5, h6⟩ := h
  refine ⟨fun q hq => by rw [e1 q (by omega)]; exact h1 q hq, by rw [e1 56 (by decide), e1 57 (by decide), e1 58 (by decide)]; exact h2, fun i => by rw [e1 62 (by decide)]; exact h3 i, fun q hq i => ?_, fun q hq i => by rw [e1 q (by omega)]; exact h5 q hq i, h6⟩
  have h4q := h4 q hq i
  by_cases g : i = c
  · subst g
    rw [if_pos (by omega)]
    rcases (show q = 63 ∨ q = 64 ∨ q = 65 ∨ q = 66 by omega) with z | z | z | z <;> subst z <;> simp [gI_sI]
  · have e2 : gI (sI (sI (sI (sI N2 63 c (gI N 63 (6 + c))) 64 c (gI N 64 (6 + c))) 65 c (gI N 65 (6 + c))) 66 c (gI N 66 (6 + c))) q i = gI N2 q i := by rw [sg _ _ _ _ _ _ (Or.inr g), sg _ _ _ _ _ _ (Or.inr g), sg _ _ _ _ _ _ (Or.inr g), sg _ _ _ _ _ _ (Or.inr g)]
    rw [e2, h4q]
    by_cases g2 : i < c
    · rw [if_pos g2, if_pos (by omega)]
    · rw [if_neg g2, if_neg (by omega)]
theorem CP.cas {N2 : Mem} {a c e : Nat} (h : CP N N2 a c e) : CP N (sI (sI (sI (sI (sI N2 67 e (gI N 67 (12 + e))) 68 e (gI N 68 (12 + e))) 69 e (gI N 69 (12 + e))) 70 e (gI N 70 (12 + e))) 71 e (gI N 71 (12 + e))) a c (e + 1) := by
  have e1 : ∀ q, ¬ (67 ≤ q ∧ q ≤ 71) → gI (sI (sI (sI (sI (sI N2 67 e (gI N 67 (12 + e))) 68 e (gI N 68 (12 + e))) 69 e (gI N 69 (12 + e))) 70 e (gI N 70 (12 + e))) 71 e (gI N 71 (12 + e))) q = gI N2 q := fun q hq => by rw [gI_sI_ne (by omega), gI_sI_ne (by omega), gI_sI_ne (by omega), gI_sI_ne (by omega), gI_sI_ne (by omega)]
  obtain ⟨h1, h2, h3, h4, h5, h6⟩ := h
  refine ⟨fun q hq => by rw [e1 q (by omega)]; exact h1 q hq, by rw [e1 56 (by decide), e1 57 (by decide), e1 58 (by decide)]; exact h2, fun i => by rw [e1 62 (by decide)]; exact h3 i, fun q hq i => by rw [e1 q (by omega)]; exact h4 q hq i, fun q hq i => ?_, h6⟩
  have h5q := h5 q hq i
  by_cases g : i = e
  · subst g
    rw [if_pos (by omega)]
    rcases (show q = 67 ∨ q = 68 ∨ q = 69 ∨ q = 70 ∨ q = 71 by omega) with z | z | z | z | z <;> subst z <;> simp [gI_sI]
  · have e2 : gI (sI (sI (sI (sI (sI N2 67 e (gI N 67 (12 + e))) 68 e (gI N 68 (12 + e))) 69 e (gI N 69 (12 + e))) 70 e (gI N 70 (12 + e))) 71 e (gI N 71 (12 + e))) q i = gI N2 q i := by rw [sg _ _ _ _ _ _ (Or.inr g), sg _ _ _ _ _ _ (Or.inr g), sg _ _ _ _ _ _ (Or.inr g), sg _ _ _ _ _ _ (Or.inr g), sg _ _ _ _ _ _ (Or.inr g)]
    rw [e2, h5q]
    by_cases g2 : i < e
    · rw [if_pos g2, if_pos (by omega)]
    · rw [if_neg g2, if_neg (by omega)]
theorem m_copies : V G d mX12_copies 0 [some (.ref 54), none] [] N (fun r N2 => r = none ∧ CP N N2 25 6 12) := by
  generalize hQ : (fun (r : Option Value) (N2 : Mem) => r = none ∧ CP N N2 25 6 12) = Q
  have s0 : CP N (sI (sI (sI N 56 0 (gI N 56 1)) 57 0 (gI N 57 1)) 58 0 (gI N 58 1)) 0 0 0 := by
    refine ⟨fun q hq => by rw [gI_sI_ne (by omega), gI_sI_ne (by omega), gI_sI_ne (by omega)], ⟨?_, ?_, ?_⟩, fun i => by rw [if_neg (by omega), gI_sI_ne (by decide), gI_sI_ne (by decide), gI_sI_ne (by decide)], fun q hq i => by rw [if_neg (by omega), gI_sI_ne (by omega), gI_sI_ne (by omega), gI_sI_ne (by omega)], fun q hq i => by rw [if_neg (by omega), gI_sI_ne (by omega), gI_sI_ne (by omega), gI_sI_ne (by omega)], fun q _ => rfl, rfl⟩
    · rw [gI_sI_ne (by decide), gI_sI_ne (by decide), gI_sI, if_pos rfl, if_pos rfl]
    · rw [gI_sI_ne (by decide), gI_sI, if_pos rfl, if_pos rfl]
    · rw [gI_sI, if_pos rfl, if_pos rfl]
  have f57 : gI (sI N 56 0 (gI N 56 1)) 57 1 = gI N 57 1 := by rw [gI_sI_ne (by decide)]
  have f58 : gI (sI (sI N 56 0 (gI N 56 1)) 57 0 (gI N 57 1)) 58 1 = gI N 58 1 := by rw [gI_sI_ne (by decide), gI_sI_ne (by decide)]
  have l4 : ∀ N2, CP N N2 25 6 0 → V G d mX12_copies 183 [some (.ref 54), some (.int (J 0))] [] N2 Q := by
    intro N2 h2
    refine loopN (N := 12) (fun k => ∀ N2, CP N N2 25 6 k → V G d mX12_copies 183 [some (.ref 54), some (.int (J (k : Int)))] [] N2 Q) ?_ ?_ N2 h2
    · intro N2 h2
      refine v_iload_n (pc := 183) 117 rfl rfl ?_
      refine v_bipush (pc := 184) 118 rfl (by decide) ?_
      refine v_ic_geT (pc := 186) 119 285 rfl (by decide) (by omega) (by omega) ?_
      refine v_ret (pc := 285) 182 rfl rfl (by rw [← hQ]; exact ⟨rfl, h2⟩)
    · intro k hk ih N2 h2
      have hL := h2.lng (k := 61) (i := k) (gL N2 61 (12 + k)) (by decide)
      refine v_iload_n (pc := 183) 117 rfl rfl ?_
      refine v_bipush (pc := 184) 118 rfl (by decide) ?_
      refine v_ic_geF (pc := 186) 119 285 rfl (by decide) (by omega) (by omega) ?_
      refine v_aload_n (pc := 189) 120 rfl rfl ?_
      refine v_getC (pc := 190) 121 rfl fl_X12_30 rfl 61 rfl ?_
      refine v_iload_n (pc := 193) 122 rfl rfl ?_
      refine v_aload_n (pc := 194) 123 rfl rfl ?_
      refine v_getC (pc := 195) 124 rfl fl_X12_30 rfl 61 rfl ?_
      refine v_bipush (pc := 198) 125 rfl (by decide) ?_
      refine v_iload_n (pc := 200) 126 rfl rfl ?_
      refine v_iadd (pc := 201) 127 rfl ?_
      refine v_laldE (pc := 202) 128 rfl rfl (12 + k) (by omega) ?_
      refine v_lastN (pc := 203) 129 rfl rfl (by omega) ?_
      generalize sL N2 61 k (gL N2 61 (12 + k)) = P0 at hL ⊢
      have v : ∀ (P : Mem) q, 67 ≤ q ∧ q ≤ 71 → gI P q = gI P0 q → gI P q (12 + k) = gI N q (12 + k) := fun P q hq hP => by rw [hP, hL.2.2.2.2.1 q hq, if_neg (by omega)]
      refine v_aload_n (pc := 204) 130 rfl rfl ?_
      refine v_getC (pc := 205) 131 rfl fl_X12_48 rfl 67 rfl ?_
      refine v_iload_n (pc := 208) 132 rfl rfl ?_
      refine v_aload_n (pc := 209) 133 rfl rfl ?_
      refine v_getC (pc := 210) 134 rfl fl_X12_48 rfl 67 rfl ?_
      refine v_bipush (pc := 213) 135 rfl (by decide) ?_
      refine v_iload_n (pc := 215) 136 rfl rfl ?_
      refine v_iadd (pc := 216) 137 rfl ?_
      refine v_ialdE (pc := 217) 138 rfl rfl (12 + k) (by omega) ?_
      rw [v P0 67 (by decide) rfl]
      refine v_iastN (pc := 218) 139 rfl rfl (by omega) ?_
      refine v_aload_n (pc := 219) 140 rfl rfl ?_
      refine v_getC (pc := 220) 141 rfl fl_X12_51 rfl 68 rfl ?_
      refine v_iload_n (pc := 223) 142 rfl rfl ?_
      refine v_aload_n (pc := 224) 143 rfl rfl ?_
      refine v_getC (pc := 225) 144 rfl fl_X12_51 rfl 68 rfl ?_
      refine v_bipush (pc := 228) 145 rfl (by decide) ?_
      refine v_iload_n (pc := 230) 146 rfl rfl ?_
      refine v_iadd (pc := 231) 147 rfl ?_
      refine v_ialdE (pc := 232) 148 rfl rfl (12 + k) (by omega) ?_
      rw [v (sI P0 67 k (gI N 67 (12 + k))) 68 (by decide) (by rw [gI_sI_ne (by decide)])]
      refine v_iastN (pc := 233) 149 rfl rfl (by omega) ?_
      refine v_aload_n (pc := 234) 150 rfl rfl ?_
      refine v_getC (pc := 235) 151 rfl fl_X12_54 rfl 69 rfl ?_
      refine v_iload_n (pc := 238) 152 rfl rfl ?_
      refine v_aload_n (pc := 239) 153 rfl rfl ?_
      refine v_getC (pc := 240) 154 rfl fl_X12_54 rfl 69 rfl ?_
      refine v_bipush (pc := 243) 155 rfl (by decide) ?_
      refine v_iload_n (pc := 245) 156 rfl rfl ?_
      refine v_iadd (pc := 246) 157 rfl ?_
      refine v_ialdE (pc := 247) 158 rfl rfl (12 + k) (by omega) ?_
      rw [v (sI (sI P0 67 k (gI N 67 (12 + k))) 68 k (gI N 68 (12 + k))) 69 (by decide) (by rw [gI_sI_ne (by decide), gI_sI_ne (by decide)])]
      refine v_iastN (pc := 248) 159 rfl rfl (by omega) ?_
      refine v_aload_n (pc := 249) 160 rfl rfl ?_
      refine v_getC (pc := 250) 161 rfl fl_X12_57 rfl 70 rfl ?_
      refine v_iload_n (pc := 253) 162 rfl rfl ?_
      refine v_aload_n (pc := 254) 163 rfl rfl ?_
      refine v_getC (pc := 255) 164 rfl fl_X12_57 rfl 70 rfl ?_
      refine v_bipush (pc := 258) 165 rfl (by decide) ?_
      refine v_iload_n (pc := 260) 166 rfl rfl ?_
      refine v_iadd (pc := 261) 167 rfl ?_
      refine v_ialdE (pc := 262) 168 rfl rfl (12 + k) (by omega) ?_
      rw [v (sI (sI (sI P0 67 k (gI N 67 (12 + k))) 68 k (gI N 68 (12 + k))) 69 k (gI N 69 (12 + k))) 70 (by decide) (by rw [gI_sI_ne (by decide), gI_sI_ne (by decide), gI_sI_ne (by decide)])]
      refine v_iastN (pc := 263) 169 rfl rfl (by omega) ?_
      refine v_aload_n (pc := 264) 170 rfl rfl ?_
      refine v_getC (pc := 265) 171 rfl fl_X12_60 rfl 71 rfl ?_
      refine v_iload_n (pc := 268) 172 rfl rfl ?_
      refine v_aload_n (pc := 269) 173 rfl rfl ?_
      refine v_getC (pc := 270) 174 rfl fl_X12_60 rfl 71 rfl ?_
      refine v_bipush (pc := 273) 175 rfl (by decide) ?_
      refine v_iload_n (pc := 275) 176 rfl rfl ?_
      refine v_iadd (pc := 276) 177 rfl ?_
      refine v_ialdE (pc := 277) 178 rfl rfl (12 + k) (by omega) ?_
      rw [v (sI (sI (sI (sI P0 67 k (gI N 67 (12 + k))) 68 k (gI N 68 (12 + k))) 69 k (gI N 69 (12 + k))) 70 k (gI N 70 (12 + k))) 71 (by decide) (by rw [gI_sI_ne (by decide), gI_sI_ne (by decide), gI_sI_ne (by decide), gI_sI_ne (by decide)])]
      refine v_iastN (pc := 278) 179 rfl rfl (by omega) ?_
      refine v_iinc (pc := 279) 180 rfl rfl ⟨Nat.le_of_ble_eq_true rfl, rfl⟩ ?_
      refine v_goto (pc := 282) 181 183 rfl (by decide) ?_
      exact ih _ hL.cas
  have l3 : ∀ N2, CP N N2 25 0 0 → V G d mX12_copies 94 [some (.ref 54), some (.int (J 0))] [] N2 Q := by
    intro N2 h2
    refine loopN (N := 6) (fun k => ∀ N2, CP N N2 25 k 0 → V G d mX12_copies 94 [some (.ref 54), some (.int (J (k : Int)))] [] N2 Q) ?_ ?_ N2 h2
    · intro N2 h2
      refine v_iload_n (pc := 94) 60 rfl rfl ?_
      refine v_bipush (pc := 95) 61 rfl (by decide) ?_
      refine v_ic_geT (pc := 97) 62 181 rfl (by decide) (by omega) (by omega) ?_
      refine v_iconst (pc := 181) 115 rfl ?_
      refine v_istore_n (pc := 182) 116 rfl ⟨Nat.le_of_ble_eq_true rfl, rfl⟩ ?_
      exact l4 N2 h2
    · intro k hk ih N2 h2
      have hL := h2.lng (k := 60) (i := k) (gL N2 60 (6 + k)) (by decide)
      refine v_iload_n (pc := 94) 60 rfl rfl ?_
      refine v_bipush (pc := 95) 61 rfl (by decide) ?_
      refine v_ic_geF (pc := 97) 62 181 rfl (by decide) (by omega) (by omega) ?_
      refine v_aload_n (pc := 100) 63 rfl rfl ?_
      refine v_getC (pc := 101) 64 rfl fl_X12_27 rfl 60 rfl ?_
      refine v_iload_n (pc := 104) 65 rfl rfl ?_
      refine v_aload_n (pc := 105) 66 rfl rfl ?_
      refine v_getC (pc := 106) 67 rfl fl_X12_27 rfl 60 rfl ?_
      refine v_bipush (pc := 109) 68 rfl (by decide) ?_
      refine v_iload_n (pc := 111) 69 rfl rfl ?_
      refine v_iadd (pc := 112) 70 rfl ?_
      refine v_laldE (pc := 113) 71 rfl rfl (6 + k) (by omega) ?_
      refine v_lastN (pc := 114) 72 rfl rfl (by omega) ?_
      generalize sL N2 60 k (gL N2 60 (6 + k)) = P0 at hL ⊢
      have v : ∀ (P : Mem) q, 63 ≤ q ∧ q ≤ 66 → gI P q = gI P0 q → gI P q (6 + k) = gI N q (6 + k) := fun P q hq hP => by rw [hP, hL.2.2.2.1 q hq, if_neg (by omega)]
      refine v_aload_n (pc := 115) 73 rfl rfl ?_
      refine v_getC (pc := 116) 74 rfl fl_X12_36 rfl 63 rfl ?_
      refine v_iload_n (pc := 119) 75 rfl rfl ?_
      refine v_aload_n (pc := 120) 76 rfl rfl ?_
      refine v_getC (pc := 121) 77 rfl fl_X12_36 rfl 63 rfl ?_
      refine v_bipush (pc := 124) 78 rfl (by decide) ?_
      refine v_iload_n (pc := 126) 79 rfl rfl ?_
      refine v_iadd (pc := 127) 80 rfl ?_
      refine v_ialdE (pc := 128) 81 rfl rfl (6 + k) (by omega) ?_
      rw [v P0 63 (by decide) rfl]
      refine v_iastN (pc := 129) 82 rfl rfl (by omega) ?_
      refine v_aload_n (pc := 130) 83 rfl rfl ?_
      refine v_getC (pc := 131) 84 rfl fl_X12_39 rfl 64 rfl ?_
      refine v_iload_n (pc := 134) 85 rfl rfl ?_
      refine v_aload_n (pc := 135) 86 rfl rfl ?_
      refine v_getC (pc := 136) 87 rfl fl_X12_39 rfl 64 rfl ?_
      refine v_bipush (pc := 139) 88 rfl (by decide) ?_
      refine v_iload_n (pc := 141) 89 rfl rfl ?_
      refine v_iadd (pc := 142) 90 rfl ?_
      refine v_ialdE (pc := 143) 91 rfl rfl (6 + k) (by omega) ?_
      rw [v (sI P0 63 k (gI N 63 (6 + k))) 64 (by decide) (by rw [gI_sI_ne (by decide)])]
      refine v_iastN (pc := 144) 92 rfl rfl (by omega) ?_
      refine v_aload_n (pc := 145) 93 rfl rfl ?_
      refine v_getC (pc := 146) 94 rfl fl_X12_42 rfl 65 rfl ?_
      refine v_iload_n (pc := 149) 95 rfl rfl ?_
      refine v_aload_n (pc := 150) 96 rfl rfl ?_
      refine v_getC (pc := 151) 97 rfl fl_X12_42 rfl 65 rfl ?_
      refine v_bipush (pc := 154) 98 rfl (by decide) ?_
      refine v_iload_n (pc := 156) 99 rfl rfl ?_
      refine v_iadd (pc := 157) 100 rfl ?_
      refine v_ialdE (pc := 158) 101 rfl rfl (6 + k) (by omega) ?_
      rw [v (sI (sI P0 63 k (gI N 63 (6 + k))) 64 k (gI N 64 (6 + k))) 65 (by decide) (by rw [gI_sI_ne (by decide), gI_sI_ne (by decide)])]
      refine v_iastN (pc := 159) 102 rfl rfl (by omega) ?_
      refine v_aload_n (pc := 160) 103 rfl rfl ?_
      refine v_getC (pc := 161) 104 rfl fl_X12_45 rfl 66 rfl ?_
      refine v_iload_n (pc := 164) 105 rfl rfl ?_
      refine v_aload_n (pc := 165) 106 rfl rfl ?_
      refine v_getC (pc := 166) 107 rfl fl_X12_45 rfl 66 rfl ?_
      refine v_bipush (pc := 169) 108 rfl (by decide) ?_
      refine v_iload_n (pc := 171) 109 rfl rfl ?_
      refine v_iadd (pc := 172) 110 rfl ?_
      refine v_ialdE (pc := 173) 111 rfl rfl (6 + k) (by omega) ?_
      rw [v (sI (sI (sI P0 63 k (gI N 63 (6 + k))) 64 k (gI N 64 (6 + k))) 65 k (gI N 65 (6 + k))) 66 (by decide) (by rw [gI_sI_ne (by decide), gI_sI_ne (by decide), gI_sI_ne (by decide)])]
      refine v_iastN (pc := 174) 112 rfl rfl (by omega) ?_
      refine v_iinc (pc := 175) 113 rfl rfl ⟨Nat.le_of_ble_eq_true rfl, rfl⟩ ?_
      refine v_goto (pc := 178) 114 94 rfl (by decide) ?_
      exact ih _ hL.jud
  have l2 : ∀ N2, CP N N2 0 0 0 → V G d mX12_copies 65 [some (.ref 54), some (.int (J 0))] [] N2 Q := by
    intro N2 h2
    refine loopN (N := 25) (fun k => ∀ N2, CP N N2 k 0 0 → V G d mX12_copies 65 [some (.ref 54), some (.int (J (k : Int)))] [] N2 Q) ?_ ?_ N2 h2
    · intro N2 h2
      refine v_iload_n (pc := 65) 43 rfl rfl ?_
      refine v_bipush (pc := 66) 44 rfl (by decide) ?_
      refine v_ic_geT (pc := 68) 45 92 rfl (by decide) (by omega) (by omega) ?_
      refine v_iconst (pc := 92) 58 rfl ?_
      refine v_istore_n (pc := 93) 59 rfl ⟨Nat.le_of_ble_eq_true rfl, rfl⟩ ?_
      exact l3 N2 h2
    · intro k hk ih N2 h2
      have v : gI N2 62 (25 + k) = gI N 62 (25 + k) := by rw [h2.2.2.1, if_neg (by omega)]
      refine v_iload_n (pc := 65) 43 rfl rfl ?_
      refine v_bipush (pc := 66) 44 rfl (by decide) ?_
      refine v_ic_geF (pc := 68) 45 92 rfl (by decide) (by omega) (by omega) ?_
      refine v_aload_n (pc := 71) 46 rfl rfl ?_
      refine v_getC (pc := 72) 47 rfl fl_X12_33 rfl 62 rfl ?_
      refine v_iload_n (pc := 75) 48 rfl rfl ?_
      refine v_aload_n (pc := 76) 49 rfl rfl ?_
      refine v_getC (pc := 77) 50 rfl fl_X12_33 rfl 62 rfl ?_
      refine v_bipush (pc := 80) 51 rfl (by decide) ?_
      refine v_iload_n (pc := 82) 52 rfl rfl ?_
      refine v_iadd (pc := 83) 53 rfl ?_
      refine v_ialdE (pc := 84) 54 rfl rfl (25 + k) (by omega) ?_
      rw [v]
      refine v_iastN (pc := 85) 55 rfl rfl (by omega) ?_
      refine v_iinc (pc := 86) 56 rfl rfl ⟨Nat.le_of_ble_eq_true rfl, rfl⟩ ?_
      refine v_goto (pc := 89) 57 65 rfl (by decide) ?_
      exact ih _ h2.road
  refine v_aload_n (pc := 0) 0 rfl rfl ?_
  refine v_getC (pc := 1) 1 rfl fl_X12_13 rfl 56 rfl ?_
  refine v_iconst (pc := 4) 2 rfl ?_
  refine v_aload_n (pc := 5) 3 rfl rfl ?_
  refine v_getC (pc := 6) 4 rfl fl_X12_13 rfl 56 rfl ?_
  refine v_iconst (pc := 9) 5 rfl ?_
  refine v_ialdN (kk := 1) (pc := 10) 6 rfl rfl (by decide) ?_
  refine v_iastN (kk := 0) (pc := 11) 7 rfl rfl (by decide) ?_
  refine v_aload_n (pc := 12) 8 rfl rfl ?_
  refine v_getC (pc := 13) 9 rfl fl_X12_17 rfl 57 rfl ?_
  refine v_iconst (pc := 16) 10 rfl ?_
  refine v_aload_n (pc := 17) 11 rfl rfl ?_
  refine v_getC (pc := 18) 12 rfl fl_X12_17 rfl 57 rfl ?_
  refine v_iconst (pc := 21) 13 rfl ?_
  refine v_ialdN (kk := 1) (pc := 22) 14 rfl rfl (by decide) ?_
  rw [f57]
  refine v_iastE (pc := 23) 15 rfl rfl 0 (by decide) ?_
  refine v_aload_n (pc := 24) 16 rfl rfl ?_
  refine v_getC (pc := 25) 17 rfl fl_X12_20 rfl 58 rfl ?_
  refine v_iconst (pc := 28) 18 rfl ?_
  refine v_aload_n (pc := 29) 19 rfl rfl ?_
  refine v_getC (pc := 30) 20 rfl fl_X12_20 rfl 58 rfl ?_
  refine v_iconst (pc := 33) 21 rfl ?_
  refine v_ialdN (kk := 1) (pc := 34) 22 rfl rfl (by decide) ?_
  rw [f58]
  refine v_iastE (pc := 35) 23 rfl rfl 0 (by decide) ?_
  refine v_iconst (pc := 36) 24 rfl ?_
  refine v_istore_n (pc := 37) 25 rfl ⟨Nat.le_of_ble_eq_true rfl, rfl⟩ ?_
  refine loopN (N := 5) (fun k => ∀ N2, CP N N2 0 0 0 → V G d mX12_copies 38 [some (.ref 54), some (.int (J (k : Int)))] [] N2 Q) ?_ ?_ _ s0
  · intro N2 h2
    refine v_iload_n (pc := 38) 26 rfl rfl ?_
    refine v_iconst (pc := 39) 27 rfl ?_
    refine v_ic_geT (pc := 40) 28 63 rfl (by decide) (by omega) (by omega) ?_
    refine v_iconst (pc := 63) 41 rfl ?_
    refine v_istore_n (pc := 64) 42 rfl ⟨Nat.le_of_ble_eq_true rfl, rfl⟩ ?_
    exact l2 N2 h2
  · intro k hk ih N2 h2
    refine v_iload_n (pc := 38) 26 rfl rfl ?_
    refine v_iconst (pc := 39) 27 rfl ?_
    refine v_ic_geF (pc := 40) 28 63 rfl (by decide) (by omega) (by omega) ?_
    refine v_aload_n (pc := 43) 29 rfl rfl ?_
    refine v_getC (pc := 44) 30 rfl fl_X12_23 rfl 59 rfl ?_
    refine v_iload_n (pc := 47) 31 rfl rfl ?_
    refine v_aload_n (pc := 48) 32 rfl rfl ?_
    refine v_getC (pc := 49) 33 rfl fl_X12_23 rfl 59 rfl ?_
    refine v_iconst (pc := 52) 34 rfl ?_
    refine v_iload_n (pc := 53) 35 rfl rfl ?_
    refine v_iadd (pc := 54) 36 rfl ?_
    refine v_laldE (pc := 55) 37 rfl rfl (5 + k) (by omega) ?_
    refine v_lastN (pc := 56) 38 rfl rfl (by omega) ?_
    refine v_iinc (pc := 57) 39 rfl rfl ⟨Nat.le_of_ble_eq_true rfl, rfl⟩ ?_
    refine v_goto (pc := 60) 40 38 rfl (by decide) ?_
    exact ih _ (h2.lng _ (by decide))
end MCop
