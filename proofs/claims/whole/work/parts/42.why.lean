/-! 42: the reference: why not; loads -/
section Why
variable {G : Gt} {d : Nat} {M N : Mem} {T : Tx} {S : Sx}
theorem m_meets (h : RI M T S) {j : Nat} {t dd : Int} (hj : j < nJ T) (ht : 0 ≤ t ∧ t < nT T) (hd : 0 ≤ dd ∧ dd ≤ 60) : V G d mX12_meetsFoe 0 [some (.ref 54), some (.int (J (j : Int))), some (.int (J t)), some (.int (J dd)), none] [] M (Ret (some (.int (J (b2i (exB (foeB T S j t dd) (nK T)))))) M) := by
  have hn := h.n
  obtain ⟨-, -, h3, h4, h5, hT, hS⟩ := h
  have hq := (h3 j hj).2.2.2
  have hqb := (hT.2.2.2.1 j hj).2.2.2
  refine v_iconst (pc := 0) 0 rfl ?_
  refine v_istore (pc := 1) 1 rfl ⟨Nat.le_of_ble_eq_true rfl, rfl⟩ ?_
  refine loopN (N := nK T) (fun k => exB (foeB T S j t dd) k = false → V G d mX12_meetsFoe 3 [some (.ref 54), some (.int (J (j : Int))), some (.int (J t)), some (.int (J dd)), some (.int (J (k : Int)))] [] M (Ret (some (.int (J (b2i (exB (foeB T S j t dd) (nK T)))))) M)) ?_ ?_ rfl
  · intro hx
    rw [hx]
    refine v_iload (pc := 3) 2 rfl rfl ?_
    refine v_aload_n (pc := 5) 3 rfl rfl ?_
    refine v_getC (pc := 6) 4 rfl fl_X12_20 rfl 58 rfl ?_
    refine v_iconst (pc := 9) 5 rfl ?_
    refine v_ialdN (kk := 0) (pc := 10) 6 rfl rfl (by decide) ?_
    refine v_ic_geT (pc := 11) 7 77 rfl (by decide) (by omega) (by omega) ?_
    refine v_iconst (pc := 77) 44 rfl ?_
    refine v_zret (pc := 78) 45 rfl rfl (by decide) ⟨rfl, rfl⟩
  · intro k hk ih hx
    have e := (h5 k (by omega))
    have et := (h4 k hk).1
    have hb := hS.b hT (k := k) (by omega)
    have hs := hS k (by omega)
    have htw := (hT.2.2.2.2.1 k hk).1
    have no : foeB T S j t dd k = false → V G d mX12_meetsFoe 71 [some (.ref 54), some (.int (J (j : Int))), some (.int (J t)), some (.int (J dd)), some (.int (J (k : Int)))] [] M (Ret (some (.int (J (b2i (exB (foeB T S j t dd) (nK T)))))) M) := by
      intro hf
      refine v_iinc (pc := 71) 42 rfl rfl ⟨Nat.le_of_ble_eq_true rfl, rfl⟩ ?_
      refine v_goto (pc := 74) 43 3 rfl (by decide) ?_
      exact ih (exB_succ hx hf)
    refine v_iload (pc := 3) 2 rfl rfl ?_
    refine v_aload_n (pc := 5) 3 rfl rfl ?_
    refine v_getC (pc := 6) 4 rfl fl_X12_20 rfl 58 rfl ?_
    refine v_iconst (pc := 9) 5 rfl ?_
    refine v_ialdN (kk := 0) (pc := 10) 6 rfl rfl (by decide) ?_
    refine v_ic_geF (pc := 11) 7 77 rfl (by decide) (by omega) (by omega) ?_
    refine v_aload_n (pc := 14) 8 rfl rfl ?_
    refine v_getC (pc := 15) 9 rfl fl_X12_63 rfl 72 rfl ?_
    refine v_iload (pc := 18) 10 rfl rfl ?_
    refine v_ialdN (pc := 20) 11 rfl rfl (by omega) ?_
    refine v_if_lt (pc := 21) 12 71 rfl (by decide) (by omega) (fun e1 => ?_) (fun e1 => ?_)
    · exact no (decide_eq_false (fun z => by omega))
    · refine v_aload_n (pc := 24) 13 rfl rfl ?_
      refine v_getC (pc := 25) 14 rfl fl_X12_63 rfl 72 rfl ?_
      refine v_bipush (pc := 28) 15 rfl (by decide) ?_
      refine v_iload (pc := 30) 16 rfl rfl ?_
      refine v_iadd (pc := 32) 17 rfl ?_
      refine v_ialdE (pc := 33) 18 rfl rfl (12 + k) (by omega) ?_
      refine v_iload_n (pc := 34) 19 rfl rfl ?_
      refine v_ic_ne (pc := 35) 20 71 rfl (by decide) (by omega) (fun e2 => ?_) (fun e2 => ?_)
      · exact no (decide_eq_false (fun z => by omega))
      · refine v_aload_n (pc := 38) 21 rfl rfl ?_
        refine v_getC (pc := 39) 22 rfl fl_X12_48 rfl 67 rfl ?_
        refine v_iload (pc := 42) 23 rfl rfl ?_
        refine v_ialdN (pc := 44) 24 rfl rfl (by omega) ?_
        refine v_iload_n (pc := 45) 25 rfl rfl ?_
        refine v_ic_ne (pc := 46) 26 71 rfl (by decide) (by omega) (fun e3 => ?_) (fun e3 => ?_)
        · exact no (decide_eq_false (fun z => by omega))
        · refine v_aload_n (pc := 49) 27 rfl rfl ?_
          refine v_getC (pc := 50) 28 rfl fl_X12_45 rfl 66 rfl ?_
          refine v_iload_n (pc := 53) 29 rfl rfl ?_
          refine v_ialdN (pc := 54) 30 rfl rfl (by omega) ?_
          refine v_aload_n (pc := 55) 31 rfl rfl ?_
          refine v_getC (pc := 56) 32 rfl fl_X12_63 rfl 72 rfl ?_
          refine v_iload (pc := 59) 33 rfl rfl ?_
          refine v_ialdN (pc := 61) 34 rfl rfl (by omega) ?_
          rw [hq, e.1]
          have b01 := bt_01 (qu T j) (S.1 k)
          refine v_ishr (pc := 62) 35 rfl (qu T j / 2 ^ (S.1 k).toNat) (J_shr (by omega)) ?_
          refine v_iconst (pc := 63) 36 rfl ?_
          refine v_iand (pc := 64) 37 rfl (bt (qu T j) (S.1 k)) (J_bt (by omega)) ?_
          refine v_iconst (pc := 65) 38 rfl ?_
          refine v_ic_ne (pc := 66) 39 71 rfl (by decide) (by omega) (fun e4 => ?_) (fun e4 => ?_)
          · exact no (decide_eq_false (fun z => z.2.2 (by omega)))
          · rw [exB_true (p := foeB T S j t dd) hk (decide_eq_true ⟨by omega, by omega, by omega⟩)]
            refine v_iconst (pc := 69) 40 rfl ?_
            refine v_zret (pc := 70) 41 rfl rfl (by decide) ⟨rfl, rfl⟩
theorem m_whyOf (h : RI M T S) {k j : Nat} {dd : Int} (hk : k < nK T) (hj : j < nJ T) (hd : 0 ≤ dd ∧ dd ≤ 60) : V G (d + 1) mX12_whyOf 0 [some (.ref 54), some (.int (J (k : Int))), some (.int (J (j : Int))), some (.int (J dd))] [] M (Ret (some (.int (J (whyS T S k j dd)))) M) := by
  have hn := h.n
  have hI := h
  obtain ⟨-, -, h3, h4, h5, hT, hS⟩ := h
  have hq := (h3 j hj)
  have e := (h5 k (by omega))
  have ek := (h4 k hk)
  have hb := hS.b hT (k := k) (by omega)
  have hTk := (hT.2.2.2.2.1 k hk)
  have hTj := (hT.2.2.2.1 j hj)
  have hmb := mi_b hT S j dd
  have ex1 := b2i_01 (exB (farB T S j (tw T k) dd) (nK T))
  have ex2 := b2i_01 (exB (foeB T S j (tw T k) dd) (nK T))
  have b01 := bt_01 (ss T j) (so T k)
  have b02 := bt_01 (ba T k) (j : Int)
  have c1 := m_isElse (G := G) (d := d) hI (j := (j : Int)) (t := tw T k) (dd := dd) (by omega) hTk.1 hd
  have c2 := m_meets (G := G) (d := d) hI (j := j) (t := tw T k) (dd := dd) hj hTk.1 hd
  have c3 := m_minutesOn (G := G) (d := d) hI (j := (j : Int)) (t := dd) (by omega) (by omega)
  unfold whyS
  refine v_aload_n (pc := 0) 0 rfl rfl ?_
  refine v_getC (pc := 1) 1 rfl fl_X12_63 rfl 72 rfl ?_
  refine v_iload_n (pc := 4) 2 rfl rfl ?_
  refine v_ialdN (pc := 5) 3 rfl rfl (by omega) ?_
  refine v_if_lt (pc := 6) 4 12 rfl (by decide) (by omega) (fun e1 => ?_) (fun e1 => ?_)
  · rw [if_neg (by omega)]
    refine v_iload_n (pc := 12) 7 rfl rfl ?_
    refine v_aload_n (pc := 13) 8 rfl rfl ?_
    refine v_getC (pc := 14) 9 rfl fl_X12_54 rfl 69 rfl ?_
    refine v_iload_n (pc := 17) 10 rfl rfl ?_
    refine v_ialdN (pc := 18) 11 rfl rfl (by omega) ?_
    refine v_ic_ge (pc := 19) 12 24 rfl (by decide) (by omega) (fun e2 => ?_) (fun e2 => ?_)
    · rw [if_neg (by omega)]
      refine v_aload_n (pc := 24) 15 rfl rfl ?_
      refine v_getC (pc := 25) 16 rfl fl_X12_42 rfl 65 rfl ?_
      refine v_iload_n (pc := 28) 17 rfl rfl ?_
      refine v_ialdN (pc := 29) 18 rfl rfl (by omega) ?_
      refine v_aload_n (pc := 30) 19 rfl rfl ?_
      refine v_getC (pc := 31) 20 rfl fl_X12_51 rfl 68 rfl ?_
      refine v_iload_n (pc := 34) 21 rfl rfl ?_
      refine v_ialdN (pc := 35) 22 rfl rfl (by omega) ?_
      rw [hq.2.2.1, ek.2.1]
      refine v_ishr (pc := 36) 23 rfl (ss T j / 2 ^ (so T k).toNat) (J_shr (by omega)) ?_
      refine v_iconst (pc := 37) 24 rfl ?_
      refine v_iand (pc := 38) 25 rfl (bt (ss T j) (so T k)) (J_bt (by omega)) ?_
      refine v_if_ne (pc := 39) 26 44 rfl (by decide) (by omega) (fun e3 => ?_) (fun e3 => ?_)
      · rw [if_neg e3]
        refine v_aload_n (pc := 44) 29 rfl rfl ?_
        refine v_getC (pc := 45) 30 rfl fl_X12_60 rfl 71 rfl ?_
        refine v_iload_n (pc := 48) 31 rfl rfl ?_
        refine v_ialdN (pc := 49) 32 rfl rfl (by omega) ?_
        rw [ek.2.2.2.2]
        refine v_iload_n (pc := 50) 33 rfl rfl ?_
        refine v_ishr (pc := 51) 34 rfl (ba T k / 2 ^ ((j : Int)).toNat) (J_shr (by omega)) ?_
        refine v_iconst (pc := 52) 35 rfl ?_
        refine v_iand (pc := 53) 36 rfl (bt (ba T k) (j : Int)) (J_bt (by omega)) ?_
        refine v_iconst (pc := 54) 37 rfl ?_
        refine v_ic_ne (pc := 55) 38 60 rfl (by decide) (by omega) (fun e4 => ?_) (fun e4 => ?_)
        · rw [if_neg (by omega)]
          refine v_aload_n (pc := 60) 41 rfl rfl ?_
          refine v_iload_n (pc := 61) 42 rfl rfl ?_
          refine v_aload_n (pc := 62) 43 rfl rfl ?_
          refine v_getC (pc := 63) 44 rfl fl_X12_48 rfl 67 rfl ?_
          refine v_iload_n (pc := 66) 45 rfl rfl ?_
          refine v_ialdN (pc := 67) 46 rfl rfl (by omega) ?_
          rw [ek.1]
          refine v_iload_n (pc := 68) 47 rfl rfl ?_
          refine v_cV3i (pc := 69) 48 rfl cv_X12_280 rfl (Nat.le_of_ble_eq_true rfl) (Nat.le_of_ble_eq_true rfl) (c1) ?_
          refine v_if_eq (pc := 72) 49 77 rfl (by decide) (by omega) (fun e5 => ?_) (fun e5 => ?_)
          · rw [if_neg (fun z => by rw [z] at e5; exact absurd e5 (by decide))]
            refine v_aload_n (pc := 77) 52 rfl rfl ?_
            refine v_iload_n (pc := 78) 53 rfl rfl ?_
            refine v_aload_n (pc := 79) 54 rfl rfl ?_
            refine v_getC (pc := 80) 55 rfl fl_X12_48 rfl 67 rfl ?_
            refine v_iload_n (pc := 83) 56 rfl rfl ?_
            refine v_ialdN (pc := 84) 57 rfl rfl (by omega) ?_
            rw [ek.1]
            refine v_iload_n (pc := 85) 58 rfl rfl ?_
            refine v_cV3i (pc := 86) 59 rfl cv_X12_284 rfl (Nat.le_of_ble_eq_true rfl) (Nat.le_of_ble_eq_true rfl) (c2) ?_
            refine v_if_eq (pc := 89) 60 95 rfl (by decide) (by omega) (fun e6 => ?_) (fun e6 => ?_)
            · rw [if_neg (fun z => by rw [z] at e6; exact absurd e6 (by decide))]
              refine v_aload_n (pc := 95) 63 rfl rfl ?_
              refine v_iload_n (pc := 96) 64 rfl rfl ?_
              refine v_iload_n (pc := 97) 65 rfl rfl ?_
              refine v_cV2i (pc := 98) 66 rfl cv_X12_287 rfl (Nat.le_of_ble_eq_true rfl) (Nat.le_of_ble_eq_true rfl) (c3) ?_
              refine v_aload_n (pc := 101) 67 rfl rfl ?_
              refine v_getC (pc := 102) 68 rfl fl_X12_57 rfl 70 rfl ?_
              refine v_iload_n (pc := 105) 69 rfl rfl ?_
              refine v_ialdN (pc := 106) 70 rfl rfl (by omega) ?_
              rw [ek.2.2.2.1]
              refine v_iadd (pc := 107) 71 rfl ?_
              refine v_aload_n (pc := 108) 72 rfl rfl ?_
              refine v_getC (pc := 109) 73 rfl fl_X12_39 rfl 64 rfl ?_
              refine v_iload_n (pc := 112) 74 rfl rfl ?_
              refine v_ialdN (pc := 113) 75 rfl rfl (by omega) ?_
              rw [hq.2.1]
              refine v_ic_le (pc := 114) 76 121 rfl (by decide) (by omega) (fun e7 => ?_) (fun e7 => ?_)
              · rw [if_neg (by omega)]
                refine v_iconst (pc := 121) 79 rfl ?_
                refine v_iret (pc := 122) 80 rfl rfl ⟨rfl, rfl⟩
              · rw [if_pos (by omega)]
                refine v_iconst (pc := 117) 77 rfl ?_
                refine v_goto (pc := 118) 78 122 rfl (by decide) ?_
                refine v_iret (pc := 122) 80 rfl rfl ⟨rfl, rfl⟩
            · rw [if_pos (by cases z : exB (foeB T S j (tw T k) dd) (nK T) with | true => rfl | false => rw [z] at e6; exact absurd rfl e6)]
              refine v_bipush (pc := 92) 61 rfl (by decide) ?_
              refine v_iret (pc := 94) 62 rfl rfl ⟨rfl, rfl⟩
          · rw [if_pos (by cases z : exB (farB T S j (tw T k) dd) (nK T) with | true => rfl | false => rw [z] at e5; exact absurd rfl e5)]
            refine v_iconst (pc := 75) 50 rfl ?_
            refine v_iret (pc := 76) 51 rfl rfl ⟨rfl, rfl⟩
        · rw [if_pos (by omega)]
          refine v_iconst (pc := 58) 39 rfl ?_
          refine v_iret (pc := 59) 40 rfl rfl ⟨rfl, rfl⟩
      · rw [if_pos (by omega)]
        refine v_iconst (pc := 42) 27 rfl ?_
        refine v_iret (pc := 43) 28 rfl rfl ⟨rfl, rfl⟩
    · rw [if_pos (by omega)]
      refine v_iconst (pc := 22) 13 rfl ?_
      refine v_iret (pc := 23) 14 rfl rfl ⟨rfl, rfl⟩
  · rw [if_pos (by omega)]
    refine v_bipush (pc := 9) 5 rfl (by decide) ?_
    refine v_iret (pc := 11) 6 rfl rfl ⟨rfl, rfl⟩
end Why
