/-! 59: the reference: share, spread, waited -/
section MShare
variable {G : Gt} {d : Nat} {M N : Mem} {A : Ax}
theorem shr_fin {a b : Int} (ha : 0 ≤ a ∧ a ≤ b) (hb : 0 < b ∧ b < 16777216) : ∃ s c q, FP.Core.decode FP.Core.b32 (FP.fdiv (FP.i2f (J a)) (FP.i2f (J b))).toNat = .fin s c q := by
  rcases shr_ok ha hb with h | ⟨c, q, h, -⟩
  · exact ⟨_, _, _, h⟩
  · exact ⟨_, _, _, h.1⟩
theorem R64.fin {x : UInt64} {s : Bool} {lo hi : Int} (h : R64 x s lo hi) : ∃ s c q, FP.Core.decode FP.Core.b64 x.toNat = .fin s c q := by
  rcases h with h | ⟨c, q, h, -⟩
  · exact ⟨_, _, _, h⟩
  · exact ⟨_, _, _, h.1⟩
theorem m_waited (h : MR M A) : V G (d + 2) mX12_waited 0 [some (.ref 54), none, none, none] [] M (Ret (some (.int (J (sWait A)))) (sI M 54 0 0)) := by
  have hI := h.t
  have hn := hI.n
  have hT := h.2.2.2.2.2.1
  have hS := h.2.2.2.2.2.2.1.1
  have hk := hT.2.2.1
  have b1 : ∀ n : Nat, 0 ≤ sits (aS A) n ∧ sits (aS A) n ≤ n := fun n => by
    have := sumN_b (f := fun k => if (aS A).1 k = -1 then 0 else 1) (B := 1) n (fun k hk => by split <;> omega)
    unfold sits; omega
  have b2 : ∀ n : Nat, n ≤ nK (aT A) → -60 * (n : Int) ≤ ages (aT A) (aS A) n ∧ ages (aT A) (aS A) n ≤ 60 * (n : Int) := by
    intro n
    induction n with
    | zero => intro _; exact ⟨by show (_ : Int) ≤ 0; omega, by show (0 : Int) ≤ _; omega⟩
    | succ n ih =>
      intro hn2
      have ih := ih (by omega)
      have e : ages (aT A) (aS A) (n + 1) = ages (aT A) (aS A) n + (if (aS A).1 n = -1 then 0 else (aS A).2 n - fi (aT A) n) := rfl
      have hf := (hT.2.2.2.2.1 n (by omega)).2.2.1
      have hS := hS n (by omega)
      rw [e]
      split <;> omega
  obtain ⟨-, -, -, h4, h5, -, -⟩ := id hI
  unfold sWait
  refine v_aload_n (pc := 0) 0 rfl rfl ?_
  refine v_iconst (pc := 1) 1 rfl ?_
  refine v_putI (pc := 2) 2 rfl fl_X12_97 rfl ?_
  refine v_iconst (pc := 5) 3 rfl ?_
  refine v_istore_n (pc := 6) 4 rfl ⟨Nat.le_of_ble_eq_true rfl, rfl⟩ ?_
  refine v_iconst (pc := 7) 5 rfl ?_
  refine v_istore_n (pc := 8) 6 rfl ⟨Nat.le_of_ble_eq_true rfl, rfl⟩ ?_
  refine v_iconst (pc := 9) 7 rfl ?_
  refine v_istore_n (pc := 10) 8 rfl ⟨Nat.le_of_ble_eq_true rfl, rfl⟩ ?_
  refine loopN (N := nK (aT A)) (fun k => V G (d + 2) mX12_waited 11 [some (.ref 54), some (.int (J (ages (aT A) (aS A) k))), some (.int (J (sits (aS A) k))), some (.int (J (k : Int)))] [] (sI M 54 0 0) (Ret (some (.int (J (if sits (aS A) (nK (aT A)) = 0 then -1 else (FP.f2i (FP.fmul (FP.fdiv (FP.i2f (J (ages (aT A) (aS A) (nK (aT A))))) (FP.i2f (J (sits (aS A) (nK (aT A)))))) 1120403456)).toInt)))) (sI M 54 0 0))) ?_ ?_
  · have c1 := b1 (nK (aT A))
    have c2 := b2 (nK (aT A)) (Nat.le_refl _)
    refine v_iload_n (pc := 11) 9 rfl rfl ?_
    refine v_aload_n (pc := 12) 10 rfl rfl ?_
    refine v_getC (pc := 13) 11 rfl fl_X12_20 rfl 58 rfl ?_
    refine v_iconst (pc := 16) 12 rfl ?_
    refine v_ialdN (kk := 0) (pc := 17) 13 rfl rfl (by decide) ?_
    refine v_ic_geT (pc := 18) 14 61 rfl (by decide) (by omega) (by omega) ?_
    refine v_iload_n (pc := 61) 38 rfl rfl ?_
    refine v_if_ne (pc := 62) 39 69 rfl (by decide) (by omega) (fun e1 => ?_) (fun e1 => ?_)
    · rw [if_neg (by omega)]
      have hw := wai_ok (a := ages (aT A) (aS A) (nK (aT A))) (b := sits (aS A) (nK (aT A))) (by omega) (by omega)
      refine v_iload_n (pc := 69) 42 rfl rfl ?_
      refine v_i2f (pc := 70) 43 rfl ?_
      refine v_iload_n (pc := 71) 44 rfl rfl ?_
      refine v_i2f (pc := 72) 45 rfl ?_
      refine v_fdiv (pc := 73) 46 rfl hw.1 ?_
      refine v_ldcfw (pc := 74) 47 rfl kcFloat_X12_387 ?_
      refine v_fmul (pc := 77) 48 rfl hw.2 ?_
      refine v_f2i (pc := 78) 49 rfl ((FP.f2i (FP.fmul (FP.fdiv (FP.i2f (J (ages (aT A) (aS A) (nK (aT A))))) (FP.i2f (J (sits (aS A) (nK (aT A)))))) 1120403456)).toInt) (J_of _).symm ?_
      refine v_iret (pc := 79) 50 rfl rfl ⟨rfl, rfl⟩
    · rw [if_pos (by omega)]
      refine v_iconst (pc := 65) 40 rfl ?_
      refine v_goto (pc := 66) 41 79 rfl (by decide) ?_
      refine v_iret (pc := 79) 50 rfl rfl ⟨rfl, rfl⟩
  · intro k hk' ih
    have c1 := b1 k
    have c2 := b2 k (by omega)
    have e := h5 k (by omega)
    have ef := (h4 k hk').2.2.1
    have hb := hS.b hT (k := k) (by omega)
    have hfi := (hT.2.2.2.2.1 k hk').2.2.1
    have e1 : ages (aT A) (aS A) (k + 1) = ages (aT A) (aS A) k + (if (aS A).1 k = -1 then 0 else (aS A).2 k - fi (aT A) k) := rfl
    have e2 : sits (aS A) (k + 1) = sits (aS A) k + (if (aS A).1 k = -1 then 0 else 1) := rfl
    rw [e1, e2] at ih
    refine v_iload_n (pc := 11) 9 rfl rfl ?_
    refine v_aload_n (pc := 12) 10 rfl rfl ?_
    refine v_getC (pc := 13) 11 rfl fl_X12_20 rfl 58 rfl ?_
    refine v_iconst (pc := 16) 12 rfl ?_
    refine v_ialdN (kk := 0) (pc := 17) 13 rfl rfl (by decide) ?_
    refine v_ic_geF (pc := 18) 14 61 rfl (by decide) (by omega) (by omega) ?_
    refine v_aload_n (pc := 21) 15 rfl rfl ?_
    refine v_getC (pc := 22) 16 rfl fl_X12_63 rfl 72 rfl ?_
    refine v_iload_n (pc := 25) 17 rfl rfl ?_
    refine v_ialdN (pc := 26) 18 rfl rfl (by omega) ?_
    refine v_if_ge (pc := 27) 19 33 rfl (by decide) (by omega) (fun e3 => ?_) (fun e3 => ?_)
    · rw [if_neg (by omega), if_neg (by omega)] at ih
      refine v_iload_n (pc := 33) 21 rfl rfl ?_
      refine v_aload_n (pc := 34) 22 rfl rfl ?_
      refine v_getC (pc := 35) 23 rfl fl_X12_63 rfl 72 rfl ?_
      refine v_bipush (pc := 38) 24 rfl (by decide) ?_
      refine v_iload_n (pc := 40) 25 rfl rfl ?_
      refine v_iadd (pc := 41) 26 rfl ?_
      refine v_ialdE (pc := 42) 27 rfl rfl (12 + k) (by omega) ?_
      refine v_aload_n (pc := 43) 28 rfl rfl ?_
      refine v_getC (pc := 44) 29 rfl fl_X12_54 rfl 69 rfl ?_
      refine v_iload_n (pc := 47) 30 rfl rfl ?_
      refine v_ialdN (pc := 48) 31 rfl rfl (by omega) ?_
      rw [e.2, ef]
      refine v_isub (pc := 49) 32 rfl ?_
      refine v_iadd (pc := 50) 33 rfl ?_
      refine v_istore_n (pc := 51) 34 rfl ⟨Nat.le_of_ble_eq_true rfl, rfl⟩ ?_
      refine v_iinc (pc := 52) 35 rfl rfl ⟨Nat.le_of_ble_eq_true rfl, rfl⟩ ?_
      refine v_iinc (pc := 55) 36 rfl rfl ⟨Nat.le_of_ble_eq_true rfl, rfl⟩ ?_
      refine v_goto (pc := 58) 37 11 rfl (by decide) ?_
      exact ih
    · rw [if_pos (by omega), if_pos (by omega), Int.add_zero, Int.add_zero] at ih
      refine v_goto (pc := 30) 20 55 rfl (by decide) ?_
      refine v_iinc (pc := 55) 36 rfl rfl ⟨Nat.le_of_ble_eq_true rfl, rfl⟩ ?_
      refine v_goto (pc := 58) 37 11 rfl (by decide) ?_
      exact ih
theorem m_spread (h : MR M A) : V G (d + 2) mX12_spread 0 [some (.ref 54), none, none, none, none, none] [] M (Ret (some (.long (JL (sSpread A)))) (sI M 54 0 0)) := by
  have hI := h.t
  have hn := hI.n
  have hT := h.2.2.2.2.2.1
  unfold sSpread
  refine v_aload_n (pc := 0) 0 rfl rfl ?_
  refine v_iconst (pc := 1) 1 rfl ?_
  refine v_putI (pc := 2) 2 rfl fl_X12_97 rfl ?_
  refine v_aload_n (pc := 5) 3 rfl rfl ?_
  refine v_getC (pc := 6) 4 rfl fl_X12_17 rfl 57 rfl ?_
  refine v_iconst (pc := 9) 5 rfl ?_
  refine v_ialdN (kk := 0) (pc := 10) 6 rfl rfl (by decide) ?_
  refine v_if_ne (pc := 11) 7 18 rfl (by decide) (by omega) (fun e1 => ?_) (fun e1 => ?_)
  · rw [if_neg (by omega)]
    have hp : 0 < nJ (aT A) := by omega
    have r1 := spM_r hT (aS A) hp
    refine v_aload_n (pc := 18) 10 rfl rfl ?_
    refine v_cV0i (pc := 19) 11 rfl cv_X12_369 rfl (Nat.le_of_ble_eq_true rfl) (Nat.le_of_ble_eq_true rfl) (m_allLoads hI) ?_
    refine v_i2d (pc := 22) 12 rfl ?_
    refine v_aload_n (pc := 23) 13 rfl rfl ?_
    refine v_getC (pc := 24) 14 rfl fl_X12_17 rfl 57 rfl ?_
    refine v_iconst (pc := 27) 15 rfl ?_
    refine v_ialdN (kk := 0) (pc := 28) 16 rfl rfl (by decide) ?_
    rw [hn.2.1]
    refine v_i2d (pc := 29) 17 rfl ?_
    refine v_ddiv (pc := 30) 18 rfl r1.no ?_
    refine v_dstore_n (pc := 31) 19 rfl ⟨Nat.le_of_ble_eq_true rfl, rfl⟩ ?_
    refine v_dconst0 (pc := 32) 20 rfl ?_
    refine v_dstore_n (pc := 33) 21 rfl ⟨Nat.le_of_ble_eq_true rfl, rfl⟩ ?_
    refine v_iconst (pc := 34) 22 rfl ?_
    refine v_istore (pc := 35) 23 rfl ⟨Nat.le_of_ble_eq_true rfl, rfl⟩ ?_
    refine loopN (N := nJ (aT A)) (fun j => V G (d + 2) mX12_spread 37 [some (.ref 54), some (.double (spM (aT A) (aS A))), none, some (.double (spR (aT A) (aS A) j)), none, some (.int (J (j : Int)))] [] (sI M 54 0 0) (Ret (some (.long (JL ((FP.ddiv (spR (aT A) (aS A) (nJ (aT A))) (FP.i2d (J (nJ (aT A) : Int)))).toNat : Int)))) (sI M 54 0 0))) ?_ ?_
    · have rf := spF_r hT (aS A) hp
      obtain ⟨s9, c9, q9, hfin⟩ := rf.fin
      refine v_iload (pc := 37) 24 rfl rfl ?_
      refine v_aload_n (pc := 39) 25 rfl rfl ?_
      refine v_getC (pc := 40) 26 rfl fl_X12_17 rfl 57 rfl ?_
      refine v_iconst (pc := 43) 27 rfl ?_
      refine v_ialdN (kk := 0) (pc := 44) 28 rfl rfl (by decide) ?_
      refine v_ic_geT (pc := 45) 29 76 rfl (by decide) (by omega) (by omega) ?_
      refine v_dload_n (pc := 76) 48 rfl rfl ?_
      refine v_aload_n (pc := 77) 49 rfl rfl ?_
      refine v_getC (pc := 78) 50 rfl fl_X12_17 rfl 57 rfl ?_
      refine v_iconst (pc := 81) 51 rfl ?_
      refine v_ialdN (kk := 0) (pc := 82) 52 rfl rfl (by decide) ?_
      rw [hn.2.1]
      refine v_i2d (pc := 83) 53 rfl ?_
      refine v_ddiv (pc := 84) 54 rfl rf.no ?_
      refine v_cS1l (pc := 85) 55 rfl cs_X12_381 (Nat.le_of_ble_eq_true rfl) (Nat.le_of_ble_eq_true rfl) (j_d2l hfin) ?_
      refine v_lret (pc := 88) 56 rfl rfl ⟨rfl, rfl⟩
    · intro j hj ih
      have cl : V G (d + 1) mX12_loadOf 0 [some (.ref 54), some (.int (J (j : Int))), none, none, none, none] [] (sI M 54 0 0) (Ret (some (.int (J (lds (aT A) (aS A) j)))) (sI M 54 0 0)) := m_loadOf hI hj
      obtain ⟨s, rd⟩ := spD_r hT (aS A) hp j
      refine v_iload (pc := 37) 24 rfl rfl ?_
      refine v_aload_n (pc := 39) 25 rfl rfl ?_
      refine v_getC (pc := 40) 26 rfl fl_X12_17 rfl 57 rfl ?_
      refine v_iconst (pc := 43) 27 rfl ?_
      refine v_ialdN (kk := 0) (pc := 44) 28 rfl rfl (by decide) ?_
      refine v_ic_geF (pc := 45) 29 76 rfl (by decide) (by omega) (by omega) ?_
      refine v_dload_n (pc := 48) 30 rfl rfl ?_
      refine v_aload_n (pc := 49) 31 rfl rfl ?_
      refine v_iload (pc := 50) 32 rfl rfl ?_
      refine v_cV1i (pc := 52) 33 rfl cv_X12_310 rfl (Nat.le_of_ble_eq_true rfl) (Nat.le_of_ble_eq_true rfl) (cl) ?_
      refine v_i2d (pc := 55) 34 rfl ?_
      refine v_dload_n (pc := 56) 35 rfl rfl ?_
      refine v_dsub (pc := 57) 36 rfl rd.no ?_
      refine v_aload_n (pc := 58) 37 rfl rfl ?_
      refine v_iload (pc := 59) 38 rfl rfl ?_
      refine v_cV1i (pc := 61) 39 rfl cv_X12_310 rfl (Nat.le_of_ble_eq_true rfl) (Nat.le_of_ble_eq_true rfl) (cl) ?_
      refine v_i2d (pc := 64) 40 rfl ?_
      refine v_dload_n (pc := 65) 41 rfl rfl ?_
      refine v_dsub (pc := 66) 42 rfl rd.no ?_
      refine v_dmul (pc := 67) 43 rfl (spQ_r hT (aS A) hp j).no ?_
      refine v_dadd (pc := 68) 44 rfl (spR_r hT (aS A) hp (j + 1) (by omega)).no ?_
      refine v_dstore_n (pc := 69) 45 rfl ⟨Nat.le_of_ble_eq_true rfl, rfl⟩ ?_
      refine v_iinc (pc := 70) 46 rfl rfl ⟨Nat.le_of_ble_eq_true rfl, rfl⟩ ?_
      refine v_goto (pc := 73) 47 37 rfl (by decide) ?_
      exact ih
  · rw [if_pos (by omega)]
    refine v_ldc2J (pc := 14) 8 rfl kcLong_X12_379 (9221120237041090560) (by decide) ?_
    refine v_lret (pc := 17) 9 rfl rfl ⟨rfl, rfl⟩
end MShare
