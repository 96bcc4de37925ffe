/-! 43: the reference: loads, debts -/
theorem J_andb (a b : Bool) : J (b2i a) &&& J (b2i b) = J (b2i (a && b)) := by cases a <;> cases b <;> decide
def fsE (S : Sx) (k o : Nat) : Bool := exB (fun o => decide (S.1 o = S.1 k ∧ S.2 o = S.2 k)) o
section MLoad
variable {G : Gt} {d : Nat} {M N : Mem} {T : Tx} {S : Sx}
theorem m_loadOf (h : RI M T S) {j : Nat} (hj : j < nJ T) : V G d mX12_loadOf 0 [some (.ref 54), some (.int (J (j : Int))), none, none, none, none] [] M (Ret (some (.int (J (ld T S j (nK T))))) M) := by
  have hn := h.n
  obtain ⟨-, -, h3, h4, h5, hT, hS⟩ := h
  have hq := (h3 j hj).1
  have hqb := (hT.2.2.2.1 j hj).1
  refine v_iconst (pc := 0) 0 rfl ?_
  refine v_istore_n (pc := 1) 1 rfl ⟨Nat.le_of_ble_eq_true rfl, rfl⟩ ?_
  refine v_iconst (pc := 2) 2 rfl ?_
  refine v_istore_n (pc := 3) 3 rfl ⟨Nat.le_of_ble_eq_true rfl, rfl⟩ ?_
  refine loopN (N := nK T) (fun k => ∀ u v, V G d mX12_loadOf 4 [some (.ref 54), some (.int (J (j : Int))), some (.int (J (ld T S j k))), some (.int (J (k : Int))), u, v] [] M (Ret (some (.int (J (ld T S j (nK T))))) M)) ?_ ?_ none none
  · intro u v
    refine v_iload_n (pc := 4) 4 rfl rfl ?_
    refine v_aload_n (pc := 5) 5 rfl rfl ?_
    refine v_getC (pc := 6) 6 rfl fl_X12_20 rfl 58 rfl ?_
    refine v_iconst (pc := 9) 7 rfl ?_
    refine v_ialdN (kk := 0) (pc := 10) 8 rfl rfl (by decide) ?_
    refine v_ic_geT (pc := 11) 9 136 rfl (by decide) (by omega) (by omega) ?_
    refine v_iload_n (pc := 136) 79 rfl rfl ?_
    refine v_iret (pc := 137) 80 rfl rfl ⟨rfl, rfl⟩
  · intro k hk ih u v
    have e := (h5 k (by omega))
    have ek := (h4 k hk)
    have hb := hS.b hT (k := k) (by omega)
    have hTk := (hT.2.2.2.2.1 k hk)
    have hm9 : ld T S j (k + 1) = ld T S j k + (if S.1 k = j then le T k + (if tw T k ≠ hm T j ∧ fdB S k = true then 60 else 0) else 0) := rfl
    refine v_iload_n (pc := 4) 4 rfl rfl ?_
    refine v_aload_n (pc := 5) 5 rfl rfl ?_
    refine v_getC (pc := 6) 6 rfl fl_X12_20 rfl 58 rfl ?_
    refine v_iconst (pc := 9) 7 rfl ?_
    refine v_ialdN (kk := 0) (pc := 10) 8 rfl rfl (by decide) ?_
    refine v_ic_geF (pc := 11) 9 136 rfl (by decide) (by omega) (by omega) ?_
    refine v_aload_n (pc := 14) 10 rfl rfl ?_
    refine v_getC (pc := 15) 11 rfl fl_X12_63 rfl 72 rfl ?_
    refine v_iload_n (pc := 18) 12 rfl rfl ?_
    refine v_ialdN (pc := 19) 13 rfl rfl (by omega) ?_
    refine v_iload_n (pc := 20) 14 rfl rfl ?_
    refine v_ic_eq (pc := 21) 15 27 rfl (by decide) (by omega) (fun e1 => ?_) (fun e1 => ?_)
    · have e1' : S.1 k = j := by omega
      rw [hm9, if_pos e1'] at ih
      have inner : ∀ (c0 : Bool), c0 = decide (tw T k ≠ hm T j) → V G d mX12_loadOf 61 [some (.ref 54), some (.int (J (j : Int))), some (.int (J (ld T S j k + le T k))), some (.int (J (k : Int))), some (.int (J (b2i c0))), some (.int (J 0))] [] M (Ret (some (.int (J (ld T S j (nK T))))) M) := by
        intro c0 hc0
        have lp := loopN (N := k) (fun o => V G d mX12_loadOf 61 [some (.ref 54), some (.int (J (j : Int))), some (.int (J (ld T S j k + le T k))), some (.int (J (k : Int))), some (.int (J (b2i (c0 && !fsE S k o)))), some (.int (J (o : Int)))] [] M (Ret (some (.int (J (ld T S j (nK T))))) M)) ?_ ?_
        · have e0 : (c0 && !fsE S k 0) = c0 := by cases c0 <;> rfl
          rw [e0] at lp
          exact lp
        · have b1 := b2i_01 (c0 && !fsE S k k)
          have tl : ∀ x : Int, x = (if tw T k ≠ hm T j ∧ fdB S k = true then 60 else 0) → V G d mX12_loadOf 128 [some (.ref 54), some (.int (J (j : Int))), some (.int (J (ld T S j k + le T k))), some (.int (J (k : Int))), some (.int (J (b2i (c0 && !fsE S k k)))), some (.int (J (k : Int)))] [.int (J x), .int (J (ld T S j k + le T k))] M (Ret (some (.int (J (ld T S j (nK T))))) M) := by
            intro x hx
            refine v_iadd (pc := 128) 75 rfl ?_
            refine v_istore_n (pc := 129) 76 rfl ⟨Nat.le_of_ble_eq_true rfl, rfl⟩ ?_
            refine v_iinc (pc := 130) 77 rfl rfl ⟨Nat.le_of_ble_eq_true rfl, rfl⟩ ?_
            refine v_goto (pc := 133) 78 4 rfl (by decide) ?_
            rw [hx, Int.add_assoc]
            exact ih _ _
          refine v_iload (pc := 61) 39 rfl rfl ?_
          refine v_iload_n (pc := 63) 40 rfl rfl ?_
          refine v_ic_geT (pc := 64) 41 116 rfl (by decide) (by omega) (by omega) ?_
          refine v_iload_n (pc := 116) 69 rfl rfl ?_
          refine v_iload (pc := 117) 70 rfl rfl ?_
          refine v_if_eq (pc := 119) 71 127 rfl (by decide) (by omega) (fun e2 => ?_) (fun e2 => ?_)
          · refine v_iconst (pc := 127) 74 rfl ?_
            refine tl 0 ?_
            rw [if_neg (fun z => ?_)]
            have z2 : (!fsE S k k) = true := z.2
            rw [hc0, decide_eq_true z.1, z2] at e2
            exact absurd e2 (by decide)
          · refine v_bipush (pc := 122) 72 rfl (by decide) ?_
            refine v_goto (pc := 124) 73 128 rfl (by decide) ?_
            refine tl 60 ?_
            have e3 : (c0 && !fsE S k k) = true := by
              cases z : (c0 && !fsE S k k) with
              | true => rfl
              | false => rw [z] at e2; exact absurd rfl e2
            rw [Bool.and_eq_true] at e3
            rw [if_pos ⟨of_decide_eq_true (hc0 ▸ e3.1), e3.2⟩]
        · intro o ho iho
          have eo := (h5 o (by omega))
          have hbo := hS.b hT (k := o) (by omega)
          have es : fsE S k (o + 1) = (fsE S k o || decide (S.1 o = S.1 k ∧ S.2 o = S.2 k)) := rfl
          rw [es] at iho
          have yes : ¬ (S.1 o = S.1 k ∧ S.2 o = S.2 k) → V G d mX12_loadOf 102 [some (.ref 54), some (.int (J (j : Int))), some (.int (J (ld T S j k + le T k))), some (.int (J (k : Int))), some (.int (J (b2i (c0 && !fsE S k o)))), some (.int (J (o : Int)))] [.int (J (b2i (c0 && !fsE S k o)))] M (Ret (some (.int (J (ld T S j (nK T))))) M) := by
            intro hne
            rw [decide_eq_false hne, Bool.or_false] at iho
            refine v_iconst (pc := 102) 62 rfl ?_
            refine v_goto (pc := 103) 63 107 rfl (by decide) ?_
            refine v_iand (pc := 107) 65 rfl (b2i (c0 && !fsE S k o)) (by have := J_andb (c0 && !fsE S k o) true; rw [Bool.and_true] at this; exact this) ?_
            refine v_istore (pc := 108) 66 rfl ⟨Nat.le_of_ble_eq_true rfl, rfl⟩ ?_
            refine v_iinc (pc := 110) 67 rfl rfl ⟨Nat.le_of_ble_eq_true rfl, rfl⟩ ?_
            refine v_goto (pc := 113) 68 61 rfl (by decide) ?_
            exact iho
          refine v_iload (pc := 61) 39 rfl rfl ?_
          refine v_iload_n (pc := 63) 40 rfl rfl ?_
          refine v_ic_geF (pc := 64) 41 116 rfl (by decide) (by omega) (by omega) ?_
          refine v_iload (pc := 67) 42 rfl rfl ?_
          refine v_aload_n (pc := 69) 43 rfl rfl ?_
          refine v_getC (pc := 70) 44 rfl fl_X12_63 rfl 72 rfl ?_
          refine v_iload (pc := 73) 45 rfl rfl ?_
          refine v_ialdN (pc := 75) 46 rfl rfl (by omega) ?_
          refine v_iload_n (pc := 76) 47 rfl rfl ?_
          refine v_ic_ne (pc := 77) 48 102 rfl (by decide) (by omega) (fun e2 => ?_) (fun e2 => ?_)
          · exact yes (by omega)
          · refine v_aload_n (pc := 80) 49 rfl rfl ?_
            refine v_getC (pc := 81) 50 rfl fl_X12_63 rfl 72 rfl ?_
            refine v_bipush (pc := 84) 51 rfl (by decide) ?_
            refine v_iload (pc := 86) 52 rfl rfl ?_
            refine v_iadd (pc := 88) 53 rfl ?_
            refine v_ialdE (pc := 89) 54 rfl rfl (12 + o) (by omega) ?_
            refine v_aload_n (pc := 90) 55 rfl rfl ?_
            refine v_getC (pc := 91) 56 rfl fl_X12_63 rfl 72 rfl ?_
            refine v_bipush (pc := 94) 57 rfl (by decide) ?_
            refine v_iload_n (pc := 96) 58 rfl rfl ?_
            refine v_iadd (pc := 97) 59 rfl ?_
            refine v_ialdE (pc := 98) 60 rfl rfl (12 + k) (by omega) ?_
            refine v_ic_eq (pc := 99) 61 106 rfl (by decide) (by omega) (fun e3 => ?_) (fun e3 => ?_)
            · rw [decide_eq_true (⟨by omega, by omega⟩ : S.1 o = S.1 k ∧ S.2 o = S.2 k), Bool.or_true, Bool.not_true, Bool.and_false] at iho
              refine v_iconst (pc := 106) 64 rfl ?_
              refine v_iand (pc := 107) 65 rfl (b2i false) (by have := J_andb (c0 && !fsE S k o) false; rw [Bool.and_false] at this; exact this) ?_
              refine v_istore (pc := 108) 66 rfl ⟨Nat.le_of_ble_eq_true rfl, rfl⟩ ?_
              refine v_iinc (pc := 110) 67 rfl rfl ⟨Nat.le_of_ble_eq_true rfl, rfl⟩ ?_
              refine v_goto (pc := 113) 68 61 rfl (by decide) ?_
              exact iho
            · exact yes (by omega)
      refine v_iload_n (pc := 27) 17 rfl rfl ?_
      refine v_aload_n (pc := 28) 18 rfl rfl ?_
      refine v_getC (pc := 29) 19 rfl fl_X12_57 rfl 70 rfl ?_
      refine v_iload_n (pc := 32) 20 rfl rfl ?_
      refine v_ialdN (pc := 33) 21 rfl rfl (by omega) ?_
      rw [ek.2.2.2.1]
      refine v_iadd (pc := 34) 22 rfl ?_
      refine v_istore_n (pc := 35) 23 rfl ⟨Nat.le_of_ble_eq_true rfl, rfl⟩ ?_
      refine v_aload_n (pc := 36) 24 rfl rfl ?_
      refine v_getC (pc := 37) 25 rfl fl_X12_48 rfl 67 rfl ?_
      refine v_iload_n (pc := 40) 26 rfl rfl ?_
      refine v_ialdN (pc := 41) 27 rfl rfl (by omega) ?_
      rw [ek.1]
      refine v_aload_n (pc := 42) 28 rfl rfl ?_
      refine v_getC (pc := 43) 29 rfl fl_X12_36 rfl 63 rfl ?_
      refine v_iload_n (pc := 46) 30 rfl rfl ?_
      refine v_ialdN (pc := 47) 31 rfl rfl (by omega) ?_
      rw [hq]
      refine v_ic_eq (pc := 48) 32 55 rfl (by decide) (by omega) (fun e2 => ?_) (fun e2 => ?_)
      · refine v_iconst (pc := 55) 35 rfl ?_
        refine v_istore (pc := 56) 36 rfl ⟨Nat.le_of_ble_eq_true rfl, rfl⟩ ?_
        refine v_iconst (pc := 58) 37 rfl ?_
        refine v_istore (pc := 59) 38 rfl ⟨Nat.le_of_ble_eq_true rfl, rfl⟩ ?_
        exact inner false (decide_eq_false (fun z => z e2)).symm
      · refine v_iconst (pc := 51) 33 rfl ?_
        refine v_goto (pc := 52) 34 56 rfl (by decide) ?_
        refine v_istore (pc := 56) 36 rfl ⟨Nat.le_of_ble_eq_true rfl, rfl⟩ ?_
        refine v_iconst (pc := 58) 37 rfl ?_
        refine v_istore (pc := 59) 38 rfl ⟨Nat.le_of_ble_eq_true rfl, rfl⟩ ?_
        exact inner true (decide_eq_true e2).symm
    · rw [hm9, if_neg (by omega), Int.add_zero] at ih
      refine v_goto (pc := 24) 16 130 rfl (by decide) ?_
      refine v_iinc (pc := 130) 77 rfl rfl ⟨Nat.le_of_ble_eq_true rfl, rfl⟩ ?_
      refine v_goto (pc := 133) 78 4 rfl (by decide) ?_
      exact ih _ _
theorem m_isBetter (h : RI M T S) {k j b : Nat} (hk : k < nK T) (hj : j < nJ T) (hb : b < nJ T) : V G (d + 1) mX12_isBetter 0 [some (.ref 54), some (.int (J (k : Int))), some (.int (J (j : Int))), some (.int (J (b : Int)))] [] M (Ret (some (.int (J (b2i (rat T S j b k))))) M) := by
  have hn := h.n
  have hI := h
  obtain ⟨-, -, h3, h4, h5, hT, hS⟩ := h
  have l1 := ld_b hT S j
  have l2 := ld_b hT S b
  have c1 := m_loadOf (G := G) (d := d) hI hj
  have c2 := m_loadOf (G := G) (d := d) hI hb
  have q1 := (h3 j hj).1
  have q2 := (h3 b hb).1
  have q3 := (h4 k hk).1
  have r1 := (hT.2.2.2.1 j hj).1
  have r2 := (hT.2.2.2.1 b hb).1
  have r3 := (hT.2.2.2.2.1 k hk).1
  obtain ⟨i1, a1, a2, a3, a4⟩ := hI.way r1 r3
  obtain ⟨i2, b1, b2, b3, b4⟩ := hI.way r2 r3
  unfold rat
  refine v_aload_n (pc := 0) 0 rfl rfl ?_
  refine v_iload_n (pc := 1) 1 rfl rfl ?_
  refine v_cV1i (pc := 2) 2 rfl cv_X12_310 rfl (Nat.le_of_ble_eq_true rfl) (Nat.le_of_ble_eq_true rfl) (c1) ?_
  refine v_aload_n (pc := 5) 3 rfl rfl ?_
  refine v_iload_n (pc := 6) 4 rfl rfl ?_
  refine v_cV1i (pc := 7) 5 rfl cv_X12_310 rfl (Nat.le_of_ble_eq_true rfl) (Nat.le_of_ble_eq_true rfl) (c2) ?_
  refine v_ic_eq (pc := 10) 6 32 rfl (by decide) (by omega) (fun e1 => ?_) (fun e1 => ?_)
  · rw [if_neg (fun z => z e1)]
    refine v_aload_n (pc := 32) 18 rfl rfl ?_
    refine v_getC (pc := 33) 19 rfl fl_X12_76 rfl 76 rfl ?_
    refine v_iconst (pc := 36) 20 rfl ?_
    refine v_aload_n (pc := 37) 21 rfl rfl ?_
    refine v_getC (pc := 38) 22 rfl fl_X12_36 rfl 63 rfl ?_
    refine v_iload_n (pc := 41) 23 rfl rfl ?_
    refine v_ialdN (pc := 42) 24 rfl rfl (by omega) ?_
    rw [q1]
    refine v_imul (pc := 43) 25 rfl ?_
    refine v_aload_n (pc := 44) 26 rfl rfl ?_
    refine v_getC (pc := 45) 27 rfl fl_X12_48 rfl 67 rfl ?_
    refine v_iload_n (pc := 48) 28 rfl rfl ?_
    refine v_ialdN (pc := 49) 29 rfl rfl (by omega) ?_
    rw [q3]
    refine v_iadd (pc := 50) 30 rfl ?_
    refine v_ialdE (pc := 51) 31 rfl rfl i1 (by omega) ?_
    refine v_aload_n (pc := 52) 32 rfl rfl ?_
    refine v_getC (pc := 53) 33 rfl fl_X12_76 rfl 76 rfl ?_
    refine v_iconst (pc := 56) 34 rfl ?_
    refine v_aload_n (pc := 57) 35 rfl rfl ?_
    refine v_getC (pc := 58) 36 rfl fl_X12_36 rfl 63 rfl ?_
    refine v_iload_n (pc := 61) 37 rfl rfl ?_
    refine v_ialdN (pc := 62) 38 rfl rfl (by omega) ?_
    rw [a3, q2]
    refine v_imul (pc := 63) 39 rfl ?_
    refine v_aload_n (pc := 64) 40 rfl rfl ?_
    refine v_getC (pc := 65) 41 rfl fl_X12_48 rfl 67 rfl ?_
    refine v_iload_n (pc := 68) 42 rfl rfl ?_
    refine v_ialdN (pc := 69) 43 rfl rfl (by omega) ?_
    rw [q3]
    refine v_iadd (pc := 70) 44 rfl ?_
    refine v_ialdE (pc := 71) 45 rfl rfl i2 (by omega) ?_
    rw [b3]
    refine v_ic_ge (pc := 72) 46 79 rfl (by decide) (by omega) (fun e2 => ?_) (fun e2 => ?_)
    · rw [decide_eq_false (by omega)]
      refine v_iconst (pc := 79) 49 rfl ?_
      refine v_zret (pc := 80) 50 rfl rfl (by decide) ⟨rfl, rfl⟩
    · rw [decide_eq_true (by omega)]
      refine v_iconst (pc := 75) 47 rfl ?_
      refine v_goto (pc := 76) 48 80 rfl (by decide) ?_
      refine v_zret (pc := 80) 50 rfl rfl (by decide) ⟨rfl, rfl⟩
  · rw [if_pos e1]
    refine v_aload_n (pc := 13) 7 rfl rfl ?_
    refine v_iload_n (pc := 14) 8 rfl rfl ?_
    refine v_cV1i (pc := 15) 9 rfl cv_X12_310 rfl (Nat.le_of_ble_eq_true rfl) (Nat.le_of_ble_eq_true rfl) (c1) ?_
    refine v_aload_n (pc := 18) 10 rfl rfl ?_
    refine v_iload_n (pc := 19) 11 rfl rfl ?_
    refine v_cV1i (pc := 20) 12 rfl cv_X12_310 rfl (Nat.le_of_ble_eq_true rfl) (Nat.le_of_ble_eq_true rfl) (c2) ?_
    refine v_ic_ge (pc := 23) 13 30 rfl (by decide) (by omega) (fun e2 => ?_) (fun e2 => ?_)
    · rw [decide_eq_false (by omega)]
      refine v_iconst (pc := 30) 16 rfl ?_
      refine v_zret (pc := 31) 17 rfl rfl (by decide) ⟨rfl, rfl⟩
    · rw [decide_eq_true (by omega)]
      refine v_iconst (pc := 26) 14 rfl ?_
      refine v_goto (pc := 27) 15 31 rfl (by decide) ?_
      refine v_zret (pc := 31) 17 rfl rfl (by decide) ⟨rfl, rfl⟩
theorem m_sittings (h : RI M T S) : V G d mX12_sittings 0 [some (.ref 54), none, none] [] M (Ret (some (.int (J (sits S (nK T))))) M) := by
  have hn := h.n
  obtain ⟨-, -, h3, h4, h5, hT, hS⟩ := h
  refine v_iconst (pc := 0) 0 rfl ?_
  refine v_istore_n (pc := 1) 1 rfl ⟨Nat.le_of_ble_eq_true rfl, rfl⟩ ?_
  refine v_iconst (pc := 2) 2 rfl ?_
  refine v_istore_n (pc := 3) 3 rfl ⟨Nat.le_of_ble_eq_true rfl, rfl⟩ ?_
  refine loopN (N := nK T) (fun k => V G d mX12_sittings 4 [some (.ref 54), some (.int (J (sits S k))), some (.int (J (k : Int)))] [] M (Ret (some (.int (J (sits S (nK T))))) M)) ?_ ?_
  · refine v_iload_n (pc := 4) 4 rfl rfl ?_
    refine v_aload_n (pc := 5) 5 rfl rfl ?_
    refine v_getC (pc := 6) 6 rfl fl_X12_20 rfl 58 rfl ?_
    refine v_iconst (pc := 9) 7 rfl ?_
    refine v_ialdN (kk := 0) (pc := 10) 8 rfl rfl (by decide) ?_
    refine v_ic_geT (pc := 11) 9 37 rfl (by decide) (by omega) (by omega) ?_
    refine v_iload_n (pc := 37) 23 rfl rfl ?_
    refine v_iret (pc := 38) 24 rfl rfl ⟨rfl, rfl⟩
  · intro k hk ih
    have e := (h5 k (by omega)).1
    have hb := hS.b hT (k := k) (by omega)
    have hm9 : sits S (k + 1) = sits S k + (if S.1 k = -1 then 0 else 1) := rfl
    refine v_iload_n (pc := 4) 4 rfl rfl ?_
    refine v_aload_n (pc := 5) 5 rfl rfl ?_
    refine v_getC (pc := 6) 6 rfl fl_X12_20 rfl 58 rfl ?_
    refine v_iconst (pc := 9) 7 rfl ?_
    refine v_ialdN (kk := 0) (pc := 10) 8 rfl rfl (by decide) ?_
    refine v_ic_geF (pc := 11) 9 37 rfl (by decide) (by omega) (by omega) ?_
    refine v_iload_n (pc := 14) 10 rfl rfl ?_
    refine v_aload_n (pc := 15) 11 rfl rfl ?_
    refine v_getC (pc := 16) 12 rfl fl_X12_63 rfl 72 rfl ?_
    refine v_iload_n (pc := 19) 13 rfl rfl ?_
    refine v_ialdN (pc := 20) 14 rfl rfl (by omega) ?_
    refine v_if_lt (pc := 21) 15 28 rfl (by decide) (by omega) (fun e1 => ?_) (fun e1 => ?_)
    · rw [hm9, if_pos (by omega)] at ih
      refine v_iconst (pc := 28) 18 rfl ?_
      refine v_iadd (pc := 29) 19 rfl ?_
      refine v_istore_n (pc := 30) 20 rfl ⟨Nat.le_of_ble_eq_true rfl, rfl⟩ ?_
      refine v_iinc (pc := 31) 21 rfl rfl ⟨Nat.le_of_ble_eq_true rfl, rfl⟩ ?_
      refine v_goto (pc := 34) 22 4 rfl (by decide) ?_
      exact ih
    · rw [hm9, if_neg (by omega)] at ih
      refine v_iconst (pc := 24) 16 rfl ?_
      refine v_goto (pc := 25) 17 29 rfl (by decide) ?_
      refine v_iadd (pc := 29) 19 rfl ?_
      refine v_istore_n (pc := 30) 20 rfl ⟨Nat.le_of_ble_eq_true rfl, rfl⟩ ?_
      refine v_iinc (pc := 31) 21 rfl rfl ⟨Nat.le_of_ble_eq_true rfl, rfl⟩ ?_
      refine v_goto (pc := 34) 22 4 rfl (by decide) ?_
      exact ih
theorem m_allLoads (h : RI M T S) : V G (d + 1) mX12_allLoads 0 [some (.ref 54), none, none] [] M (Ret (some (.int (J (sl T S (nJ T))))) M) := by
  have hn := h.n
  refine v_iconst (pc := 0) 0 rfl ?_
  refine v_istore_n (pc := 1) 1 rfl ⟨Nat.le_of_ble_eq_true rfl, rfl⟩ ?_
  refine v_iconst (pc := 2) 2 rfl ?_
  refine v_istore_n (pc := 3) 3 rfl ⟨Nat.le_of_ble_eq_true rfl, rfl⟩ ?_
  refine loopN (N := nJ T) (fun j => V G (d + 1) mX12_allLoads 4 [some (.ref 54), some (.int (J (sl T S j))), some (.int (J (j : Int)))] [] M (Ret (some (.int (J (sl T S (nJ T))))) M)) ?_ ?_
  · refine v_iload_n (pc := 4) 4 rfl rfl ?_
    refine v_aload_n (pc := 5) 5 rfl rfl ?_
    refine v_getC (pc := 6) 6 rfl fl_X12_17 rfl 57 rfl ?_
    refine v_iconst (pc := 9) 7 rfl ?_
    refine v_ialdN (kk := 0) (pc := 10) 8 rfl rfl (by decide) ?_
    refine v_ic_geT (pc := 11) 9 28 rfl (by decide) (by omega) (by omega) ?_
    refine v_iload_n (pc := 28) 18 rfl rfl ?_
    refine v_iret (pc := 29) 19 rfl rfl ⟨rfl, rfl⟩
  · intro j hj ih
    refine v_iload_n (pc := 4) 4 rfl rfl ?_
    refine v_aload_n (pc := 5) 5 rfl rfl ?_
    refine v_getC (pc := 6) 6 rfl fl_X12_17 rfl 57 rfl ?_
    refine v_iconst (pc := 9) 7 rfl ?_
    refine v_ialdN (kk := 0) (pc := 10) 8 rfl rfl (by decide) ?_
    refine v_ic_geF (pc := 11) 9 28 rfl (by decide) (by omega) (by omega) ?_
    refine v_iload_n (pc := 14) 10 rfl rfl ?_
    refine v_aload_n (pc := 15) 11 rfl rfl ?_
    refine v_iload_n (pc := 16) 12 rfl rfl ?_
    refine v_cV1i (pc := 17) 13 rfl cv_X12_310 rfl (Nat.le_of_ble_eq_true rfl) (Nat.le_of_ble_eq_true rfl) (m_loadOf h hj) ?_
    refine v_iadd (pc := 20) 14 rfl ?_
    refine v_istore_n (pc := 21) 15 rfl ⟨Nat.le_of_ble_eq_true rfl, rfl⟩ ?_
    refine v_iinc (pc := 22) 16 rfl rfl ⟨Nat.le_of_ble_eq_true rfl, rfl⟩ ?_
    refine v_goto (pc := 25) 17 4 rfl (by decide) ?_
    exact ih
end MLoad
