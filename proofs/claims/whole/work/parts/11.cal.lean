/-! 11: the class's calendar, what it reads -/
section Cal
variable {G : Gt} {d : Nat} {M : Mem} {c : Nat}
set_option maxRecDepth 100000 in
theorem c_minutesOn (h : CI M c) {j dd : Int} (hj : -2147483648 ≤ j ∧ j ≤ 2147483647) (hd : -2147483648 ≤ dd ∧ dd ≤ 2147483647) : V G d mX3_minutesOn 0 [some (.ref 8), some (.int (J j)), some (.int (J dd)), none, none] [] M (Ret (some (.int (J (mi (tOf M c) (sOf M) j dd (nK (tOf M c)))))) M) := by
  obtain ⟨hc, hca, h0, h1, h2, hT, hS⟩ := h
  have hN : gI M c 2 = ((gI M c 2).toNat : Int) := by omega
  have hN12 : (gI M c 2).toNat ≤ 12 := hT.2.2.1
  refine v_iconst (pc := 0) 0 rfl ?_
  refine v_istore_n (pc := 1) 1 rfl ⟨Nat.le_of_ble_eq_true rfl, rfl⟩ ?_
  refine v_iconst (pc := 2) 2 rfl ?_
  refine v_istore (pc := 3) 3 rfl ⟨Nat.le_of_ble_eq_true rfl, rfl⟩ ?_
  refine loopN (N := (gI M c 2).toNat) (fun k => V G d mX3_minutesOn 5 [some (.ref 8), some (.int (J j)), some (.int (J dd)), some (.int (J (mi (tOf M c) (sOf M) j dd k))), some (.int (J (k : Int)))] [] M (Ret (some (.int (J (mi (tOf M c) (sOf M) j dd (nK (tOf M c)))))) M)) ?_ ?_
  · refine v_iload (pc := 5) 4 rfl rfl ?_
    refine v_aload_n (pc := 7) 5 rfl rfl ?_
    refine v_getR (pc := 8) 6 rfl fl_X3_25 rfl _ hca ?_
    refine v_getI (pc := 11) 7 rfl fl_X3_75 (shC hc) ?_
    refine v_ic_geT (pc := 14) 8 58 rfl (by decide) (by omega) (by omega) ?_
    refine v_iload_n (pc := 58) 31 rfl rfl ?_
    exact v_iret (pc := 59) 32 rfl rfl ⟨rfl, rfl⟩
  · intro k hk ih
    have hb := hS.b hT (k := k) (by omega)
    have hm : mi (tOf M c) (sOf M) j dd (k + 1) = mi (tOf M c) (sOf M) j dd k + (if gI M 9 k = j ∧ gI M 10 k = dd then gI M (c + 9) k else 0) := rfl
    have hb : (-1 ≤ gI M 9 k ∧ gI M 9 k < 6) ∧ (-1 ≤ gI M 10 k ∧ gI M 10 k ≤ 60) := hb
    refine v_iload (pc := 5) 4 rfl rfl ?_
    refine v_aload_n (pc := 7) 5 rfl rfl ?_
    refine v_getR (pc := 8) 6 rfl fl_X3_25 rfl _ hca ?_
    refine v_getI (pc := 11) 7 rfl fl_X3_75 (shC hc) ?_
    refine v_ic_geF (pc := 14) 8 58 rfl (by decide) (by omega) (by omega) ?_
    refine v_aload_n (pc := 17) 9 rfl rfl ?_
    refine v_getC (pc := 18) 10 rfl fl_X3_9 rfl 9 rfl ?_
    refine v_iload (pc := 21) 11 rfl rfl ?_
    refine v_ialdN (pc := 23) 12 rfl rfl (by omega) ?_
    refine v_iload_n (pc := 24) 13 rfl rfl ?_
    refine v_ic_ne (pc := 25) 14 52 rfl (by decide) (by omega) (fun e1 => ?_) (fun e1 => ?_)
    · rw [hm, if_neg (fun q => e1 q.1), Int.add_zero] at ih
      refine v_iinc (pc := 52) 29 rfl rfl ⟨Nat.le_of_ble_eq_true rfl, rfl⟩ ?_
      refine v_goto (pc := 55) 30 5 rfl (by decide) ?_
      exact ih
    · refine v_aload_n (pc := 28) 15 rfl rfl ?_
      refine v_getC (pc := 29) 16 rfl fl_X3_15 rfl 10 rfl ?_
      refine v_iload (pc := 32) 17 rfl rfl ?_
      refine v_ialdN (pc := 34) 18 rfl rfl (by omega) ?_
      refine v_iload_n (pc := 35) 19 rfl rfl ?_
      refine v_ic_ne (pc := 36) 20 52 rfl (by decide) (by omega) (fun e2 => ?_) (fun e2 => ?_)
      · rw [hm, if_neg (fun q => e2 q.2), Int.add_zero] at ih
        refine v_iinc (pc := 52) 29 rfl rfl ⟨Nat.le_of_ble_eq_true rfl, rfl⟩ ?_
        refine v_goto (pc := 55) 30 5 rfl (by decide) ?_
        exact ih
      · rw [hm, if_pos ⟨by omega, by omega⟩] at ih
        refine v_iload_n (pc := 39) 21 rfl rfl ?_
        refine v_aload_n (pc := 40) 22 rfl rfl ?_
        refine v_getR (pc := 41) 23 rfl fl_X3_25 rfl _ hca ?_
        refine v_getC (pc := 44) 24 rfl fl_X3_69 (shC hc) _ (rtC_11 hc) ?_
        refine v_iload (pc := 47) 25 rfl rfl ?_
        refine v_ialdN (pc := 49) 26 rfl (shC_11 hc) (by omega) ?_
        refine v_iadd (pc := 50) 27 rfl ?_
        refine v_istore_n (pc := 51) 28 rfl ⟨Nat.le_of_ble_eq_true rfl, rfl⟩ ?_
        refine v_iinc (pc := 52) 29 rfl rfl ⟨Nat.le_of_ble_eq_true rfl, rfl⟩ ?_
        refine v_goto (pc := 55) 30 5 rfl (by decide) ?_
        exact ih
theorem c_hasSitting {k : Nat} (hk : k < 12) (hg : -2147483648 ≤ gI M 9 k ∧ gI M 9 k ≤ 2147483647) : V G d mX3_hasSitting 0 [some (.ref 8), some (.int (J (k : Int)))] [] M (Ret (some (.int (J (if gI M 9 k = -1 then 0 else 1)))) M) := by
  refine v_aload_n (pc := 0) 0 rfl rfl ?_
  refine v_getC (pc := 1) 1 rfl fl_X3_9 rfl 9 rfl ?_
  refine v_iload_n (pc := 4) 2 rfl rfl ?_
  refine v_ialdN (pc := 5) 3 rfl rfl (by omega) ?_
  refine v_iconst (pc := 6) 4 rfl ?_
  refine v_ic_eq (pc := 7) 5 14 rfl (by decide) (by omega) (fun e => ?_) (fun e => ?_)
  · rw [if_pos e]
    refine v_iconst (pc := 14) 8 rfl ?_
    exact v_zret (pc := 15) 9 rfl rfl (by omega) ⟨rfl, rfl⟩
  · rw [if_neg e]
    refine v_iconst (pc := 10) 6 rfl ?_
    refine v_goto (pc := 11) 7 15 rfl (by decide) ?_
    exact v_zret (pc := 15) 9 rfl rfl (by omega) ⟨rfl, rfl⟩
theorem c_place {k : Nat} (hk : k < 12) (j dd : Int) : V G d mX3_place 0 [some (.ref 8), some (.int (J (k : Int))), some (.int (J j)), some (.int (J dd))] [] M (Ret none (plM M k j dd)) := by
  refine v_aload_n (pc := 0) 0 rfl rfl ?_
  refine v_getC (pc := 1) 1 rfl fl_X3_9 rfl 9 rfl ?_
  refine v_iload_n (pc := 4) 2 rfl rfl ?_
  refine v_iload_n (pc := 5) 3 rfl rfl ?_
  refine v_iastN (pc := 6) 4 rfl rfl (by omega) ?_
  refine v_aload_n (pc := 7) 5 rfl rfl ?_
  refine v_getC (pc := 8) 6 rfl fl_X3_15 rfl 10 rfl ?_
  refine v_iload_n (pc := 11) 7 rfl rfl ?_
  refine v_iload_n (pc := 12) 8 rfl rfl ?_
  refine v_iastN (pc := 13) 9 rfl rfl (by omega) ?_
  exact v_ret (pc := 14) 10 rfl rfl ⟨rfl, rfl⟩
theorem c_remove {k : Nat} (hk : k < 12) : V G (d + 1) mX3_remove 0 [some (.ref 8), some (.int (J (k : Int)))] [] M (Ret none (plM M k (-1) (-1))) := by
  refine v_aload_n (pc := 0) 0 rfl rfl ?_
  refine v_iload_n (pc := 1) 1 rfl rfl ?_
  refine v_iconst (pc := 2) 2 rfl ?_
  refine v_iconst (pc := 3) 3 rfl ?_
  refine v_cV3v (pc := 4) 4 rfl cv_X3_33 rfl (Nat.le_of_ble_eq_true rfl) (Nat.le_of_ble_eq_true rfl) (c_place hk _ _) ?_
  exact v_ret (pc := 7) 5 rfl rfl ⟨rfl, rfl⟩
theorem c_way (hc : c = 32 ∨ c = 43) {a b : Int} (h : 0 ≤ a * 5 + b ∧ a * 5 + b < 25) : V G d mX4_way 0 [some (.ref c), some (.int (J a)), some (.int (J b))] [] M (Ret (some (.int (J (gI M (c + 1) (a * 5 + b).toNat)))) M) := by
  refine v_aload_n (pc := 0) 0 rfl rfl ?_
  refine v_getC (pc := 1) 1 rfl fl_X4_9 (shC hc) _ (rtC_3 hc) ?_
  refine v_iload_n (pc := 4) 2 rfl rfl ?_
  refine v_iconst (pc := 5) 3 rfl ?_
  refine v_imul (pc := 6) 4 rfl ?_
  refine v_iload_n (pc := 7) 5 rfl rfl ?_
  refine v_iadd (pc := 8) 6 rfl ?_
  refine v_ialdE (pc := 9) 7 rfl (shC_3 hc) (a * 5 + b).toNat (by omega) ?_
  exact v_iret (pc := 10) 8 rfl rfl ⟨rfl, rfl⟩
theorem c_isTooFar (h : CI M c) {j t dd : Int} (hj : -2147483648 ≤ j ∧ j ≤ 2147483647) (ht : 0 ≤ t ∧ t < nT (tOf M c)) (hd : 0 ≤ dd ∧ dd ≤ 60) : V G (d + 1) mX3_isTooFar 0 [some (.ref 8), some (.int (J j)), some (.int (J t)), some (.int (J dd)), none, none] [] M (Ret (some (.int (J (b2i (exB (farB (tOf M c) (sOf M) j t dd) (nK (tOf M c))))))) M) := by
  have hn := h.n
  obtain ⟨hc, hca, h0, h1, h2, hT, hS⟩ := h
  refine v_iconst (pc := 0) 0 rfl ?_
  refine v_istore (pc := 1) 1 rfl ⟨Nat.le_of_ble_eq_true rfl, rfl⟩ ?_
  refine loopN (N := nK (tOf M c)) (fun k => ∀ u, exB (farB (tOf M c) (sOf M) j t dd) k = false → V G (d + 1) mX3_isTooFar 3 [some (.ref 8), some (.int (J j)), some (.int (J t)), some (.int (J dd)), some (.int (J (k : Int))), u] [] M (Ret (some (.int (J (b2i (exB (farB (tOf M c) (sOf M) j t dd) (nK (tOf M c))))))) M)) ?_ ?_ none rfl
  · intro u e
    rw [e]
    refine v_iload (pc := 3) 2 rfl rfl ?_
    refine v_aload_n (pc := 5) 3 rfl rfl ?_
    refine v_getR (pc := 6) 4 rfl fl_X3_25 rfl _ hca ?_
    refine v_getI (pc := 9) 5 rfl fl_X3_75 (shC hc) ?_
    refine v_ic_geT (pc := 12) 6 79 rfl (by decide) (by omega) (by omega) ?_
    refine v_iconst (pc := 79) 41 rfl ?_
    exact v_zret (pc := 80) 42 rfl rfl (by omega) ⟨rfl, rfl⟩
  · intro k hk ih u e
    have hb : (-1 ≤ gI M 9 k ∧ gI M 9 k < 6) ∧ (-1 ≤ gI M 10 k ∧ gI M 10 k ≤ 60) := hS.b hT (k := k) (by omega)
    have ht2 : 0 ≤ gI M (c + 6) k ∧ gI M (c + 6) k < nT (tOf M c) := (hT.2.2.2.2.1 k hk).1
    have hw : 0 ≤ gI M (c + 1) (gI M (c + 6) k * 5 + t).toNat ∧ gI M (c + 1) (gI M (c + 6) k * 5 + t).toNat ≤ 1000 := hT.2.2.2.2.2 _ t ht2.1 ht2.2 ht.1 ht.2
    refine v_iload (pc := 3) 2 rfl rfl ?_
    refine v_aload_n (pc := 5) 3 rfl rfl ?_
    refine v_getR (pc := 6) 4 rfl fl_X3_25 rfl _ hca ?_
    refine v_getI (pc := 9) 5 rfl fl_X3_75 (shC hc) ?_
    refine v_ic_geF (pc := 12) 6 79 rfl (by decide) (by omega) (by omega) ?_
    refine v_aload_n (pc := 15) 7 rfl rfl ?_
    refine v_getR (pc := 16) 8 rfl fl_X3_25 rfl _ hca ?_
    refine v_getC (pc := 19) 9 rfl fl_X3_37 (shC hc) _ (rtC_8 hc) ?_
    refine v_iload (pc := 22) 10 rfl rfl ?_
    refine v_ialdN (pc := 24) 11 rfl (shC_8 hc) (by omega) ?_
    refine v_istore (pc := 25) 12 rfl ⟨Nat.le_of_ble_eq_true rfl, rfl⟩ ?_
    refine v_aload_n (pc := 27) 13 rfl rfl ?_
    refine v_getC (pc := 28) 14 rfl fl_X3_9 rfl 9 rfl ?_
    refine v_iload (pc := 31) 15 rfl rfl ?_
    refine v_ialdN (pc := 33) 16 rfl rfl (by omega) ?_
    refine v_iload_n (pc := 34) 17 rfl rfl ?_
    refine v_ic_ne (pc := 35) 18 73 rfl (by decide) (by omega) (fun e1 => ?_) (fun e1 => ?_)
    · refine v_iinc (pc := 73) 39 rfl rfl ⟨Nat.le_of_ble_eq_true rfl, rfl⟩ ?_
      refine v_goto (pc := 76) 40 3 rfl (by decide) ?_
      exact ih _ (exB_succ e (decide_eq_false (fun q => e1 q.1)))
    · refine v_iload (pc := 38) 19 rfl rfl ?_
      refine v_iload_n (pc := 40) 20 rfl rfl ?_
      refine v_ic_eq (pc := 41) 21 73 rfl (by decide) (by omega) (fun e2 => ?_) (fun e2 => ?_)
      · refine v_iinc (pc := 73) 39 rfl rfl ⟨Nat.le_of_ble_eq_true rfl, rfl⟩ ?_
        refine v_goto (pc := 76) 40 3 rfl (by decide) ?_
        exact ih _ (exB_succ e (decide_eq_false (fun q => q.2.1 e2)))
      · obtain ⟨z, hz⟩ : ∃ z : Int, (0 ≤ gI M 10 k - dd ∧ z = gI M 10 k - dd) ∨ (gI M 10 k - dd < 0 ∧ z = -(gI M 10 k - dd)) := by
          by_cases q : 0 ≤ gI M 10 k - dd
          · exact ⟨_, Or.inl ⟨q, rfl⟩⟩
          · exact ⟨_, Or.inr ⟨by omega, rfl⟩⟩
        refine v_aload_n (pc := 44) 22 rfl rfl ?_
        refine v_getC (pc := 45) 23 rfl fl_X3_15 rfl 10 rfl ?_
        refine v_iload (pc := 48) 24 rfl rfl ?_
        refine v_ialdN (pc := 50) 25 rfl rfl (by omega) ?_
        refine v_iload_n (pc := 51) 26 rfl rfl ?_
        refine v_isub (pc := 52) 27 rfl ?_
        refine v_mabs (pc := 53) 28 rfl ml_X3_79 (by omega) (Nat.le_of_ble_eq_true rfl) (z) hz ?_
        refine v_iconst (pc := 56) 29 rfl ?_
        refine v_aload_n (pc := 57) 30 rfl rfl ?_
        refine v_getR (pc := 58) 31 rfl fl_X3_25 rfl _ hca ?_
        refine v_iload (pc := 61) 32 rfl rfl ?_
        refine v_iload_n (pc := 63) 33 rfl rfl ?_
        refine v_cV2i (pc := 64) 34 rfl cv_X3_85 (shC hc) (Nat.le_of_ble_eq_true rfl) (Nat.le_of_ble_eq_true rfl) (c_way hc (by omega)) ?_
        refine v_iadd (pc := 67) 35 rfl ?_
        refine v_ic_ge (pc := 68) 36 73 rfl (by decide) (by omega) (fun e3 => ?_) (fun e3 => ?_)
        · refine v_iinc (pc := 73) 39 rfl rfl ⟨Nat.le_of_ble_eq_true rfl, rfl⟩ ?_
          refine v_goto (pc := 76) 40 3 rfl (by decide) ?_
          exact ih _ (exB_succ e (decide_eq_false (fun q => by have q3 : gI M 10 k - dd < 1 + gI M (c + 1) (gI M (c + 6) k * 5 + t).toNat := q.2.2.1; have q4 : dd - gI M 10 k < 1 + gI M (c + 1) (gI M (c + 6) k * 5 + t).toNat := q.2.2.2; omega)))
        · rw [exB_true hk (decide_eq_true ⟨Decidable.not_not.mp e1, e2, show gI M 10 k - dd < 1 + gI M (c + 1) (gI M (c + 6) k * 5 + t).toNat by omega, show dd - gI M 10 k < 1 + gI M (c + 1) (gI M (c + 6) k * 5 + t).toNat by omega⟩)]
          refine v_iconst (pc := 71) 37 rfl ?_
          exact v_zret (pc := 72) 38 rfl rfl (by omega) ⟨rfl, rfl⟩
theorem c_meetsQuarrel (h : CI M c) {j : Nat} {t dd : Int} (hj : j < nJ (tOf M c)) (ht : 0 ≤ t ∧ t < nT (tOf M c)) (hd : 0 ≤ dd ∧ dd ≤ 60) : V G d mX3_meetsQuarrel 0 [some (.ref 8), some (.int (J (j : Int))), some (.int (J t)), some (.int (J dd)), none] [] M (Ret (some (.int (J (b2i (exB (foeB (tOf M c) (sOf M) j t dd) (nK (tOf M c))))))) M) := by
  have hn := h.n
  obtain ⟨hc, hca, h0, h1, h2, hT, hS⟩ := h
  have hq : 0 ≤ gI M (c + 5) j ∧ gI M (c + 5) j < 64 := (hT.2.2.2.1 j hj).2.2.2
  refine v_iconst (pc := 0) 0 rfl ?_
  refine v_istore (pc := 1) 1 rfl ⟨Nat.le_of_ble_eq_true rfl, rfl⟩ ?_
  refine loopN (N := nK (tOf M c)) (fun k => exB (foeB (tOf M c) (sOf M) j t dd) k = false → V G d mX3_meetsQuarrel 3 [some (.ref 8), some (.int (J (j : Int))), some (.int (J t)), some (.int (J dd)), some (.int (J (k : Int)))] [] M (Ret (some (.int (J (b2i (exB (foeB (tOf M c) (sOf M) j t dd) (nK (tOf M c))))))) M)) ?_ ?_ rfl
  · intro e
    rw [e]
    refine v_iload (pc := 3) 2 rfl rfl ?_
    refine v_aload_n (pc := 5) 3 rfl rfl ?_
    refine v_getR (pc := 6) 4 rfl fl_X3_25 rfl _ hca ?_
    refine v_getI (pc := 9) 5 rfl fl_X3_75 (shC hc) ?_
    refine v_ic_geT (pc := 12) 6 70 rfl (by decide) (by omega) (by omega) ?_
    refine v_iconst (pc := 70) 37 rfl ?_
    exact v_zret (pc := 71) 38 rfl rfl (by omega) ⟨rfl, rfl⟩
  · intro k hk ih e
    have hb : (-1 ≤ gI M 9 k ∧ gI M 9 k < 6) ∧ (-1 ≤ gI M 10 k ∧ gI M 10 k ≤ 60) := hS.b hT (k := k) (by omega)
    have ht2 : 0 ≤ gI M (c + 6) k ∧ gI M (c + 6) k < nT (tOf M c) := (hT.2.2.2.2.1 k hk).1
    refine v_iload (pc := 3) 2 rfl rfl ?_
    refine v_aload_n (pc := 5) 3 rfl rfl ?_
    refine v_getR (pc := 6) 4 rfl fl_X3_25 rfl _ hca ?_
    refine v_getI (pc := 9) 5 rfl fl_X3_75 (shC hc) ?_
    refine v_ic_geF (pc := 12) 6 70 rfl (by decide) (by omega) (by omega) ?_
    refine v_aload_n (pc := 15) 7 rfl rfl ?_
    refine v_getC (pc := 16) 8 rfl fl_X3_15 rfl 10 rfl ?_
    refine v_iload (pc := 19) 9 rfl rfl ?_
    refine v_ialdN (pc := 21) 10 rfl rfl (by omega) ?_
    refine v_iload_n (pc := 22) 11 rfl rfl ?_
    refine v_ic_ne (pc := 23) 12 64 rfl (by decide) (by omega) (fun e1 => ?_) (fun e1 => ?_)
    · refine v_iinc (pc := 64) 35 rfl rfl ⟨Nat.le_of_ble_eq_true rfl, rfl⟩ ?_
      refine v_goto (pc := 67) 36 3 rfl (by decide) ?_
      exact ih (exB_succ e (decide_eq_false (fun q => e1 q.1)))
    · refine v_aload_n (pc := 26) 13 rfl rfl ?_
      refine v_getR (pc := 27) 14 rfl fl_X3_25 rfl _ hca ?_
      refine v_getC (pc := 30) 15 rfl fl_X3_37 (shC hc) _ (rtC_8 hc) ?_
      refine v_iload (pc := 33) 16 rfl rfl ?_
      refine v_ialdN (pc := 35) 17 rfl (shC_8 hc) (by omega) ?_
      refine v_iload_n (pc := 36) 18 rfl rfl ?_
      refine v_ic_ne (pc := 37) 19 64 rfl (by decide) (by omega) (fun e2 => ?_) (fun e2 => ?_)
      · refine v_iinc (pc := 64) 35 rfl rfl ⟨Nat.le_of_ble_eq_true rfl, rfl⟩ ?_
        refine v_goto (pc := 67) 36 3 rfl (by decide) ?_
        exact ih (exB_succ e (decide_eq_false (fun q => e2 q.2.1)))
      · have hs : 0 ≤ gI M 9 k := by
          rcases hS k (by omega) with q | q
          · have : gI M 10 k = -1 := q.2
            omega
          · exact q.2.1.1
        have hz := bt_01 (gI M (c + 5) j) (gI M 9 k)
        refine v_aload_n (pc := 40) 20 rfl rfl ?_
        refine v_getR (pc := 41) 21 rfl fl_X3_25 rfl _ hca ?_
        refine v_getC (pc := 44) 22 rfl fl_X3_88 (shC hc) _ (rtC_7 hc) ?_
        refine v_iload_n (pc := 47) 23 rfl rfl ?_
        refine v_ialdN (pc := 48) 24 rfl (shC_7 hc) (by omega) ?_
        refine v_aload_n (pc := 49) 25 rfl rfl ?_
        refine v_getC (pc := 50) 26 rfl fl_X3_9 rfl 9 rfl ?_
        refine v_iload (pc := 53) 27 rfl rfl ?_
        refine v_ialdN (pc := 55) 28 rfl rfl (by omega) ?_
        refine v_ishr (pc := 56) 29 rfl (gI M (c + 5) j / 2 ^ (gI M 9 k).toNat) (J_shr (by omega)) ?_
        refine v_iconst (pc := 57) 30 rfl ?_
        refine v_iand (pc := 58) 31 rfl (bt (gI M (c + 5) j) (gI M 9 k)) (J_bt (by omega)) ?_
        refine v_if_eq (pc := 59) 32 64 rfl (by decide) (by omega) (fun e3 => ?_) (fun e3 => ?_)
        · refine v_iinc (pc := 64) 35 rfl rfl ⟨Nat.le_of_ble_eq_true rfl, rfl⟩ ?_
          refine v_goto (pc := 67) 36 3 rfl (by decide) ?_
          exact ih (exB_succ e (decide_eq_false (fun q => q.2.2 e3)))
        · rw [exB_true hk (decide_eq_true ⟨Decidable.not_not.mp e1, Decidable.not_not.mp e2, e3⟩)]
          refine v_iconst (pc := 62) 33 rfl ?_
          exact v_zret (pc := 63) 34 rfl rfl (by omega) ⟨rfl, rfl⟩
theorem c_townOn (h : CI M c) {j dd : Int} (hj : -2147483648 ≤ j ∧ j ≤ 2147483647) (hd : -2147483648 ≤ dd ∧ dd ≤ 2147483647) : V G d mX3_townOn 0 [some (.ref 8), some (.int (J j)), some (.int (J dd)), none] [] M (Ret (some (.int (J (fst (fun k => decide ((sOf M).1 k = j ∧ (sOf M).2 k = dd)) (tw (tOf M c)) (nK (tOf M c)))))) M) := by
  have hn := h.n
  obtain ⟨hc, hca, h0, h1, h2, hT, hS⟩ := h
  refine v_iconst (pc := 0) 0 rfl ?_
  refine v_istore_n (pc := 1) 1 rfl ⟨Nat.le_of_ble_eq_true rfl, rfl⟩ ?_
  refine loopN (N := nK (tOf M c)) (fun k => exB (fun k => decide ((sOf M).1 k = j ∧ (sOf M).2 k = dd)) k = false → V G d mX3_townOn 2 [some (.ref 8), some (.int (J j)), some (.int (J dd)), some (.int (J (k : Int)))] [] M (Ret (some (.int (J (fst (fun k => decide ((sOf M).1 k = j ∧ (sOf M).2 k = dd)) (tw (tOf M c)) (nK (tOf M c)))))) M)) ?_ ?_ rfl
  · intro e
    rw [fst_none e]
    refine v_iload_n (pc := 2) 2 rfl rfl ?_
    refine v_aload_n (pc := 3) 3 rfl rfl ?_
    refine v_getR (pc := 4) 4 rfl fl_X3_25 rfl _ hca ?_
    refine v_getI (pc := 7) 5 rfl fl_X3_75 (shC hc) ?_
    refine v_ic_geT (pc := 10) 6 49 rfl (by decide) (by omega) (by omega) ?_
    refine v_iconst (pc := 49) 27 rfl ?_
    exact v_iret (pc := 50) 28 rfl rfl ⟨rfl, rfl⟩
  · intro k hk ih e
    have hb : (-1 ≤ gI M 9 k ∧ gI M 9 k < 6) ∧ (-1 ≤ gI M 10 k ∧ gI M 10 k ≤ 60) := hS.b hT (k := k) (by omega)
    refine v_iload_n (pc := 2) 2 rfl rfl ?_
    refine v_aload_n (pc := 3) 3 rfl rfl ?_
    refine v_getR (pc := 4) 4 rfl fl_X3_25 rfl _ hca ?_
    refine v_getI (pc := 7) 5 rfl fl_X3_75 (shC hc) ?_
    refine v_ic_geF (pc := 10) 6 49 rfl (by decide) (by omega) (by omega) ?_
    refine v_aload_n (pc := 13) 7 rfl rfl ?_
    refine v_getC (pc := 14) 8 rfl fl_X3_9 rfl 9 rfl ?_
    refine v_iload_n (pc := 17) 9 rfl rfl ?_
    refine v_ialdN (pc := 18) 10 rfl rfl (by omega) ?_
    refine v_iload_n (pc := 19) 11 rfl rfl ?_
    refine v_ic_ne (pc := 20) 12 43 rfl (by decide) (by omega) (fun e1 => ?_) (fun e1 => ?_)
    · refine v_iinc (pc := 43) 25 rfl rfl ⟨Nat.le_of_ble_eq_true rfl, rfl⟩ ?_
      refine v_goto (pc := 46) 26 2 rfl (by decide) ?_
      exact ih (exB_succ e (decide_eq_false (fun q => e1 q.1)))
    · refine v_aload_n (pc := 23) 13 rfl rfl ?_
      refine v_getC (pc := 24) 14 rfl fl_X3_15 rfl 10 rfl ?_
      refine v_iload_n (pc := 27) 15 rfl rfl ?_
      refine v_ialdN (pc := 28) 16 rfl rfl (by omega) ?_
      refine v_iload_n (pc := 29) 17 rfl rfl ?_
      refine v_ic_ne (pc := 30) 18 43 rfl (by decide) (by omega) (fun e2 => ?_) (fun e2 => ?_)
      · refine v_iinc (pc := 43) 25 rfl rfl ⟨Nat.le_of_ble_eq_true rfl, rfl⟩ ?_
        refine v_goto (pc := 46) 26 2 rfl (by decide) ?_
        exact ih (exB_succ e (decide_eq_false (fun q => e2 q.2)))
      · rw [fst_at hk e (decide_eq_true ⟨Decidable.not_not.mp e1, Decidable.not_not.mp e2⟩)]
        refine v_aload_n (pc := 33) 19 rfl rfl ?_
        refine v_getR (pc := 34) 20 rfl fl_X3_25 rfl _ hca ?_
        refine v_getC (pc := 37) 21 rfl fl_X3_37 (shC hc) _ (rtC_8 hc) ?_
        refine v_iload_n (pc := 40) 22 rfl rfl ?_
        refine v_ialdN (pc := 41) 23 rfl (shC_8 hc) (by omega) ?_
        exact v_iret (pc := 42) 24 rfl rfl ⟨rfl, rfl⟩
end Cal
