/-! 73: the reference: share -/
section MShare2
variable {G : Gt} {d : Nat} {M N : Mem} {A : Ax}
theorem m_share (h : MR M A) {j : Int} (hj : -2147483648 ≤ j ∧ j ≤ 2147483647) : V G (d + 2) mX12_share 0 [some (.ref 54), some (.int (J j)), none] [] M (Ret (some (.int (J (sShare A j)))) (sI M 54 0 0)) := by
  have hI := h.t
  have hn := hI.n
  have hT := h.2.2.2.2.2.1
  have hs := sl_r hT (aS A)
  unfold sShare
  refine v_aload_n (pc := 0) 0 rfl rfl ?_
  refine v_iconst (pc := 1) 1 rfl ?_
  refine v_putI (pc := 2) 2 rfl fl_X12_97 rfl ?_
  refine v_aload_n (pc := 5) 3 rfl rfl ?_
  refine v_iload_n (pc := 6) 4 rfl rfl ?_
  refine v_cV1i (pc := 7) 5 rfl cv_X12_270 rfl (Nat.le_of_ble_eq_true rfl) (Nat.le_of_ble_eq_true rfl) (m_isJudge hI hj) ?_
  refine v_if_ne (pc := 10) 6 17 rfl (by decide) (by omega) (fun e1 => ?_) (fun e1 => ?_)
  · rw [if_pos (by omega)]
    refine v_aload_n (pc := 17) 9 rfl rfl ?_
    refine v_cV0i (pc := 18) 10 rfl cv_X12_369 rfl (Nat.le_of_ble_eq_true rfl) (Nat.le_of_ble_eq_true rfl) (m_allLoads hI) ?_
    refine v_istore_n (pc := 21) 11 rfl ⟨Nat.le_of_ble_eq_true rfl, rfl⟩ ?_
    refine v_iload_n (pc := 22) 12 rfl rfl ?_
    refine v_if_ne (pc := 23) 13 32 rfl (by decide) (by omega) (fun e2 => ?_) (fun e2 => ?_)
    · rw [if_neg (by omega)]
      obtain ⟨j1, rfl⟩ : ∃ j1 : Nat, j = (j1 : Int) := ⟨j.toNat, by omega⟩
      rw [Int.toNat_natCast]
      have hl : 0 ≤ lds (aT A) (aS A) j1 ∧ lds (aT A) (aS A) j1 ≤ sl (aT A) (aS A) (nJ (aT A)) := ⟨(lds_b hT _ _).1, sumN_ge (f := fun j => ld (aT A) (aS A) j (nK (aT A))) (fun j _ => (ld_b hT _ _).1) (by omega)⟩
      obtain ⟨s9, c9, q9, hfin⟩ := shr_fin hl (by omega)
      have cl : V G (d + 1) mX12_loadOf 0 [some (.ref 54), some (.int (J (j1 : Int))), none, none, none, none] [] (sI M 54 0 0) (Ret (some (.int (J (lds (aT A) (aS A) j1)))) (sI M 54 0 0)) := m_loadOf hI (by omega)
      refine v_aload_n (pc := 32) 16 rfl rfl ?_
      refine v_iload_n (pc := 33) 17 rfl rfl ?_
      refine v_cV1i (pc := 34) 18 rfl cv_X12_310 rfl (Nat.le_of_ble_eq_true rfl) (Nat.le_of_ble_eq_true rfl) (cl) ?_
      refine v_i2f (pc := 37) 19 rfl ?_
      refine v_iload_n (pc := 38) 20 rfl rfl ?_
      refine v_i2f (pc := 39) 21 rfl ?_
      refine v_fdiv (pc := 40) 22 rfl (shr_no hl (by omega)) ?_
      refine v_fbits hfin (pc := 41) 23 rfl ml_X12_373 (Nat.le_of_ble_eq_true rfl) ?_
      rw [u32J]
      refine v_iret (pc := 44) 24 rfl rfl ⟨rfl, rfl⟩
    · rw [if_pos (by omega)]
      refine v_ldcw (pc := 26) 14 rfl kc_X12_372 (2143289344) (by decide) ?_
      refine v_goto (pc := 29) 15 44 rfl (by decide) ?_
      refine v_iret (pc := 44) 24 rfl rfl ⟨rfl, rfl⟩
  · rw [if_neg (by omega)]
    refine v_ldcw (pc := 13) 7 rfl kc_X12_368 (-2147483648) (by decide) ?_
    refine v_iret (pc := 16) 8 rfl rfl ⟨rfl, rfl⟩
end MShare2
