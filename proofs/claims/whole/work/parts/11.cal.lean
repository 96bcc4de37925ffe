/-! 11: the class's calendar, what it reads -/
section Cal
variable {G : Gt} {d : Nat} {M : Mem} {c : Nat}
set_option maxRecDepth 100000 in
theorem c_minutesOn (h : CI M c) {j dd : Int} (hj : -2147483648 ≤ j ∧ j ≤ 2147483647) (hd : -2147483648 ≤ dd ∧ dd ≤ 2147483647) : V G d mX3_minutesOn 0 [some (.ref 8), some (.int (J j)), some (.int (J dd)), none, none] [] M (Ret (some (.int (J (mi (tOf M c) (sOf M) j dd (nK (tOf M c)))))) M) := by
  obtain ⟨hc, hca, h0, h1, h2, hT, hS⟩ := h
  have hN : gI M c 2 = ((gI M c 2).toNat : Int) := by omega
  have hN12 : (gI M c 2).toNat ≤ 12 := hT.2.2.1
  refine v_iconst (pc := 0) 0 rfl ?_
  refine v_istore_n (pc := 1) 1 rfl ⟨Nat.le_of_ble_eq_true rfl, rfl⟩ ?_
  refine v_iconst (pc := 2) 2 rfl ?_
  refine v_istore (pc := 3) 3 rfl ⟨Nat.le_of_ble_eq_true rfl, rfl⟩ ?_
  refine loopN (N := (gI M c 2).toNat) (fun k => V G d mX3_minutesOn 5 [some (.ref 8), some (.int (J j)), some (.int (J dd)), some (.int (J (mi (tOf M c) (sOf M) j dd k))), some (.int (J (k : Int)))] [] M (Ret (some (.int (J (mi (tOf M c) (sOf M) j dd (nK (tOf M c)))))) M)) ?_ ?_
  · refine v_iload (pc := 5) 4 rfl rfl ?_
    refine v_aload_n (pc := 7) 5 rfl rfl ?_
    refine v_getR (pc := 8) 6 rfl fl_X3_25 rfl _ hca ?_
    refine v_getI (pc := 11) 7 rfl fl_X3_75 (shC hc) ?_
    refine v_ic_geT (pc := 14) 8 58 rfl (by decide) (by omega) (by omega) ?_
    refine v_iload_n (pc := 58) 31 rfl rfl ?_
    exact v_iret (pc := 59) 32 rfl rfl ⟨rfl, rfl⟩
  · intro k hk ih
    have hb := hS.b hT (k := k) (by omega)
    have hm : mi (tOf M c) (sOf M) j dd (k + 1) = mi (tOf M c) (sOf M) j dd k + (if gI M 9 k = j ∧ gI M 10 k = dd then gI M (c + 9) k else 0) := rfl
    have hb : (-1 ≤ gI M 9 k ∧ gI M 9 k < 6) ∧ (-1 ≤ gI M 10 k ∧ gI M 10 k ≤ 60) := hb
    refine v_iload (pc := 5) 4 rfl rfl ?_
    refine v_aload_n (pc := 7) 5 rfl rfl ?_
    refine v_getR (pc := 8) 6 rfl fl_X3_25 rfl _ hca ?_
    refine v_getI (pc := 11) 7 rfl fl_X3_75 (shC hc) ?_
    refine v_ic_geF (pc := 14) 8 58 rfl (by decide) (by omega) (by omega) ?_
    refine v_aload_n (pc := 17) 9 rfl rfl ?_
    refine v_getC (pc := 18) 10 rfl fl_X3_9 rfl 9 rfl ?_
    refine v_iload (pc := 21) 11 rfl rfl ?_
    refine v_ialdN (pc := 23) 12 rfl rfl (by omega) ?_
    refine v_iload_n (pc := 24) 13 rfl rfl ?_
    refine v_ic_ne (pc := 25) 14 52 rfl (by decide) (by omega) (fun e1 => ?_) (fun e1 => ?_)
    · rw [hm, if_neg (fun q => e1 q.1), Int.add_zero] at ih
      refine v_iinc (pc := 52) 29 rfl rfl ⟨Nat.le_of_ble_eq_true rfl, rfl⟩ ?_
      refine v_goto (pc := 55) 30 5 rfl (by decide) ?_
      exact ih
    · refine v_aload_n (pc := 28) 15 rfl rfl ?_
      refine v_getC (pc := 29) 16 rfl fl_X3_15 rfl 10 rfl ?_
      refine v_iload (pc := 32) 17 rfl rfl ?_
      refine v_ialdN (pc := 34) 18 rfl rfl (by omega) ?_
      refine v_iload_n (pc := 35) 19 rfl rfl ?_
      refine v_ic_ne (pc := 36) 20 52 rfl (by decide) (by omega) (fun e2 => ?_) (fun e2 => ?_)
      · rw [hm, if_neg (fun q => e2 q.2), Int.add_zero] at ih
        refine v_iinc (pc := 52) 29 rfl rfl ⟨Nat.le_of_ble_eq_true rfl, rfl⟩ ?_
        refine v_goto (pc := 55) 30 5 rfl (by decide) ?_
        exact ih
      · rw [hm, if_pos ⟨by omega, by omega⟩] at ih
        refine v_iload_n (pc := 39) 21 rfl rfl ?_
        refine v_aload_n (pc := 40) 22 rfl rfl ?_
        refine v_getR (pc := 41) 23 rfl fl_X3_25 rfl _ hca ?_
        refine v_getC (pc := 44) 24 rfl fl_X3_69 (shC hc) _ (rtC_11 hc) ?_
        refine v_iload (pc := 47) 25 rfl rfl ?_
        refine v_ialdN (pc := 49) 26 rfl (shC_11 hc) (by omega) ?_
        refine v_iadd (pc := 50) 27 rfl ?_
        refine v_istore_n (pc := 51) 28 rfl ⟨Nat.le_of_ble_eq_true rfl, rfl⟩ ?_
        refine v_iinc (pc := 52) 29 rfl rfl ⟨Nat.le_of_ble_eq_true rfl, rfl⟩ ?_
        refine v_goto (pc := 55) 30 5 rfl (by decide) ?_
        exact ih
end Cal
