/-! 20: acts and keeps, the class's rows -/
def stM (M : Mem) (s : Nat) : Mem := aI (aI M 30 (fun j => if s * 12 ≤ j ∧ j < s * 12 + 12 then gI M 9 (0 + (j - s * 12)) else gI M 30 j)) 31 (fun j => if s * 12 ≤ j ∧ j < s * 12 + 12 then gI M 10 (0 + (j - s * 12)) else gI M 31 j)
def feM (M : Mem) (s : Nat) : Mem := aI (aI M 9 (fun j => if 0 ≤ j ∧ j < 0 + 12 then gI M 30 (s * 12 + (j - 0)) else gI M 9 j)) 10 (fun j => if 0 ≤ j ∧ j < 0 + 12 then gI M 31 (s * 12 + (j - 0)) else gI M 10 j)
section Acts
variable {G : Gt} {d : Nat} {M : Mem}
theorem c_store {s : Nat} (hs : s < 14) : V G (d + 1) mX0_store 0 [some (.ref 29), some (.int (J (s : Int)))] [] M (Ret none (stM M s)) := by
  refine v_aload_n (pc := 0) 0 rfl rfl ?_
  refine v_getC (pc := 1) 1 rfl fl_X0_18 rfl 8 rfl ?_
  refine v_getC (pc := 4) 2 rfl fl_X0_45 rfl 9 rfl ?_
  refine v_iconst (pc := 7) 3 rfl ?_
  refine v_aload_n (pc := 8) 4 rfl rfl ?_
  refine v_getC (pc := 9) 5 rfl fl_X0_9 rfl 30 rfl ?_
  refine v_iload_n (pc := 12) 6 rfl rfl ?_
  refine v_bipush (pc := 13) 7 rfl (by decide) ?_
  refine v_imul (pc := 15) 8 rfl ?_
  refine v_bipush (pc := 16) 9 rfl (by decide) ?_
  refine v_copyi (sp := 0) (dp := s * 12) (m0 := 12) (pc := 18) 10 rfl ml_X0_50 rfl rfl (by omega) (Nat.le_of_ble_eq_true rfl) ?_
  have e1 : gI (aI M 30 (fun j => if s * 12 ≤ j ∧ j < s * 12 + 12 then gI M 9 (0 + (j - s * 12)) else gI M 30 j)) 10 = gI M 10 := gI_aI_ne (by decide)
  have e2 : gI (aI M 30 (fun j => if s * 12 ≤ j ∧ j < s * 12 + 12 then gI M 9 (0 + (j - s * 12)) else gI M 30 j)) 31 = gI M 31 := gI_aI_ne (by decide)
  refine v_aload_n (pc := 21) 11 rfl rfl ?_
  refine v_getC (pc := 22) 12 rfl fl_X0_18 rfl 8 rfl ?_
  refine v_getC (pc := 25) 13 rfl fl_X0_56 rfl 10 rfl ?_
  refine v_iconst (pc := 28) 14 rfl ?_
  refine v_aload_n (pc := 29) 15 rfl rfl ?_
  refine v_getC (pc := 30) 16 rfl fl_X0_15 rfl 31 rfl ?_
  refine v_iload_n (pc := 33) 17 rfl rfl ?_
  refine v_bipush (pc := 34) 18 rfl (by decide) ?_
  refine v_imul (pc := 36) 19 rfl ?_
  refine v_bipush (pc := 37) 20 rfl (by decide) ?_
  refine v_copyi (sp := 0) (dp := s * 12) (m0 := 12) (pc := 39) 21 rfl ml_X0_50 rfl rfl (by omega) (Nat.le_of_ble_eq_true rfl) ?_
  rw [e1, e2]
  refine v_ret (pc := 42) 22 rfl rfl ⟨rfl, rfl⟩
theorem c_fetch {s : Nat} (hs : s < 14) : V G (d + 1) mX0_fetch 0 [some (.ref 29), some (.int (J (s : Int)))] [] M (Ret none (feM M s)) := by
  refine v_aload_n (pc := 0) 0 rfl rfl ?_
  refine v_getC (pc := 1) 1 rfl fl_X0_9 rfl 30 rfl ?_
  refine v_iload_n (pc := 4) 2 rfl rfl ?_
  refine v_bipush (pc := 5) 3 rfl (by decide) ?_
  refine v_imul (pc := 7) 4 rfl ?_
  refine v_aload_n (pc := 8) 5 rfl rfl ?_
  refine v_getC (pc := 9) 6 rfl fl_X0_18 rfl 8 rfl ?_
  refine v_getC (pc := 12) 7 rfl fl_X0_45 rfl 9 rfl ?_
  refine v_iconst (pc := 15) 8 rfl ?_
  refine v_bipush (pc := 16) 9 rfl (by decide) ?_
  refine v_copyi (sp := s * 12) (dp := 0) (m0 := 12) (pc := 18) 10 rfl ml_X0_50 rfl rfl (by omega) (Nat.le_of_ble_eq_true rfl) ?_
  have e1 : gI (aI M 9 (fun j => if 0 ≤ j ∧ j < 0 + 12 then gI M 30 (s * 12 + (j - 0)) else gI M 9 j)) 31 = gI M 31 := gI_aI_ne (by decide)
  have e2 : gI (aI M 9 (fun j => if 0 ≤ j ∧ j < 0 + 12 then gI M 30 (s * 12 + (j - 0)) else gI M 9 j)) 10 = gI M 10 := gI_aI_ne (by decide)
  refine v_aload_n (pc := 21) 11 rfl rfl ?_
  refine v_getC (pc := 22) 12 rfl fl_X0_15 rfl 31 rfl ?_
  refine v_iload_n (pc := 25) 13 rfl rfl ?_
  refine v_bipush (pc := 26) 14 rfl (by decide) ?_
  refine v_imul (pc := 28) 15 rfl ?_
  refine v_aload_n (pc := 29) 16 rfl rfl ?_
  refine v_getC (pc := 30) 17 rfl fl_X0_18 rfl 8 rfl ?_
  refine v_getC (pc := 33) 18 rfl fl_X0_56 rfl 10 rfl ?_
  refine v_iconst (pc := 36) 19 rfl ?_
  refine v_bipush (pc := 37) 20 rfl (by decide) ?_
  refine v_copyi (sp := s * 12) (dp := 0) (m0 := 12) (pc := 39) 21 rfl ml_X0_50 rfl rfl (by omega) (Nat.le_of_ble_eq_true rfl) ?_
  rw [e1, e2]
  refine v_ret (pc := 42) 22 rfl rfl ⟨rfl, rfl⟩
theorem st_ne {s a : Nat} (h : a ≠ 30 ∧ a ≠ 31) : gI (stM M s) a = gI M a := by unfold stM; rw [gI_aI_ne h.2, gI_aI_ne h.1]
theorem fe_ne {s a : Nat} (h : a ≠ 9 ∧ a ≠ 10) : gI (feM M s) a = gI M a := by unfold feM; rw [gI_aI_ne h.2, gI_aI_ne h.1]
theorem st_30 (s j : Nat) : gI (stM M s) 30 j = if s * 12 ≤ j ∧ j < s * 12 + 12 then gI M 9 (j - s * 12) else gI M 30 j := by
  unfold stM; rw [gI_aI_ne (by decide), gI_aI, if_pos rfl, Nat.zero_add]
theorem st_31 (s j : Nat) : gI (stM M s) 31 j = if s * 12 ≤ j ∧ j < s * 12 + 12 then gI M 10 (j - s * 12) else gI M 31 j := by
  unfold stM; rw [gI_aI, if_pos rfl, Nat.zero_add]
theorem fe_9 (s j : Nat) : gI (feM M s) 9 j = if j < 12 then gI M 30 (s * 12 + j) else gI M 9 j := by
  unfold feM; rw [gI_aI_ne (by decide), gI_aI, if_pos rfl]
  by_cases e : j < 12
  · rw [if_pos (by omega), if_pos e]; rfl
  · rw [if_neg (by omega), if_neg e]
theorem fe_10 (s j : Nat) : gI (feM M s) 10 j = if j < 12 then gI M 31 (s * 12 + j) else gI M 10 j := by
  unfold feM; rw [gI_aI, if_pos rfl]
  by_cases e : j < 12
  · rw [if_pos (by omega), if_pos e]; rfl
  · rw [if_neg (by omega), if_neg e]
theorem c_forgetAll : V G d mX0_forgetAll 0 [some (.ref 29)] [] M (Ret none (sI (sI M 29 5 0) 29 3 0)) := by
  refine v_aload_n (pc := 0) 0 rfl rfl ?_
  refine v_iconst (pc := 1) 1 rfl ?_
  refine v_putI (pc := 2) 2 rfl fl_X0_22 rfl ?_
  refine v_aload_n (pc := 5) 3 rfl rfl ?_
  refine v_iconst (pc := 6) 4 rfl ?_
  refine v_putI (pc := 7) 5 rfl fl_X0_26 rfl ?_
  refine v_ret (pc := 10) 6 rfl rfl ⟨rfl, rfl⟩
theorem c_begin (hn : 0 ≤ gI M 29 4 ∧ gI M 29 4 < 12) (hh : 0 ≤ gI M 29 5 ∧ gI M 29 5 ≤ 12) : V G (d + 2) mX0_begin 0 [some (.ref 29)] [] M (Ret none (sI (sI (stM M (gI M 29 4).toNat) 29 4 (if gI M 29 4 < 11 then gI M 29 4 + 1 else 0)) 29 5 (min (gI M 29 5 + 1) 12))) := by
  obtain ⟨n, hn9⟩ : ∃ n : Nat, gI M 29 4 = (n : Int) := ⟨(gI M 29 4).toNat, by omega⟩
  have e4 : gI (stM M n) 29 4 = (n : Int) := by rw [st_ne (by decide)]; exact hn9
  rw [hn9, Int.toNat_natCast]
  rw [hn9] at hn
  refine v_aload_n (pc := 0) 0 rfl rfl ?_
  refine v_aload_n (pc := 1) 1 rfl rfl ?_
  refine v_getI (pc := 2) 2 rfl fl_X0_29 rfl ?_
  rw [hn9]
  refine v_cV1v (pc := 5) 3 rfl cv_X0_32 rfl (Nat.le_of_ble_eq_true rfl) (Nat.le_of_ble_eq_true rfl) (c_store (by omega)) ?_
  refine v_aload_n (pc := 8) 4 rfl rfl ?_
  refine v_aload_n (pc := 9) 5 rfl rfl ?_
  refine v_getI (pc := 10) 6 rfl fl_X0_29 rfl ?_
  rw [e4]
  refine v_bipush (pc := 13) 7 rfl (by decide) ?_
  refine v_ic_ge (pc := 15) 8 27 rfl (by decide) (by omega) (fun e1 => ?_) (fun e1 => ?_)
  · rw [if_neg (by omega)]
    have e5 : gI (sI (stM M n) 29 4 0) 29 5 = gI M 29 5 := by rw [gI_sI, if_pos rfl, if_neg (by decide), st_ne (by decide)]
    refine v_iconst (pc := 27) 14 rfl ?_
    refine v_putI (pc := 28) 15 rfl fl_X0_29 rfl ?_
    refine v_aload_n (pc := 31) 16 rfl rfl ?_
    refine v_aload_n (pc := 32) 17 rfl rfl ?_
    refine v_getI (pc := 33) 18 rfl fl_X0_22 rfl ?_
    rw [e5]
    refine v_iconst (pc := 36) 19 rfl ?_
    refine v_iadd (pc := 37) 20 rfl ?_
    refine v_bipush (pc := 38) 21 rfl (by decide) ?_
    refine v_mmin (pc := 40) 22 rfl ml_X0_36 (by omega) (Nat.le_of_ble_eq_true rfl) ?_
    refine v_putI (pc := 43) 23 rfl fl_X0_22 rfl ?_
    refine v_ret (pc := 46) 24 rfl rfl ⟨rfl, rfl⟩
  · rw [if_pos (by omega)]
    have e5 : gI (sI (stM M n) 29 4 ((n : Int) + 1)) 29 5 = gI M 29 5 := by rw [gI_sI, if_pos rfl, if_neg (by decide), st_ne (by decide)]
    refine v_aload_n (pc := 18) 9 rfl rfl ?_
    refine v_getI (pc := 19) 10 rfl fl_X0_29 rfl ?_
    rw [e4]
    refine v_iconst (pc := 22) 11 rfl ?_
    refine v_iadd (pc := 23) 12 rfl ?_
    refine v_goto (pc := 24) 13 28 rfl (by decide) ?_
    refine v_putI (pc := 28) 15 rfl fl_X0_29 rfl ?_
    refine v_aload_n (pc := 31) 16 rfl rfl ?_
    refine v_aload_n (pc := 32) 17 rfl rfl ?_
    refine v_getI (pc := 33) 18 rfl fl_X0_22 rfl ?_
    rw [e5]
    refine v_iconst (pc := 36) 19 rfl ?_
    refine v_iadd (pc := 37) 20 rfl ?_
    refine v_bipush (pc := 38) 21 rfl (by decide) ?_
    refine v_mmin (pc := 40) 22 rfl ml_X0_36 (by omega) (Nat.le_of_ble_eq_true rfl) ?_
    refine v_putI (pc := 43) 23 rfl fl_X0_22 rfl ?_
    refine v_ret (pc := 46) 24 rfl rfl ⟨rfl, rfl⟩
theorem c_takeBack0 (hh : gI M 29 5 = 0) : V G (d + 2) mX0_takeBack 0 [some (.ref 29)] [] M (Ret (some (.int (J (-1)))) M) := by
  refine v_aload_n (pc := 0) 0 rfl rfl ?_
  refine v_getI (pc := 1) 1 rfl fl_X0_22 rfl ?_
  refine v_if_gtF (pc := 4) 2 9 rfl (by decide) (by omega) (by omega) ?_
  refine v_iconst (pc := 7) 3 rfl ?_
  refine v_iret (pc := 8) 4 rfl rfl ⟨rfl, rfl⟩
theorem c_takeBack (hn : 0 ≤ gI M 29 4 ∧ gI M 29 4 < 12) (hh : 0 < gI M 29 5 ∧ gI M 29 5 ≤ 12) {n : Nat} (hn2 : (n : Int) = if 0 < gI M 29 4 then gI M 29 4 - 1 else 11) : V G (d + 2) mX0_takeBack 0 [some (.ref 29)] [] M (Ret (some (.int (J (gI M 29 5 - 1)))) (sI (feM (sI M 29 4 (n : Int)) n) 29 5 (gI M 29 5 - 1))) := by
  have hn3 : n < 12 := by split at hn2 <;> omega
  have e4 : gI (sI M 29 4 (n : Int)) 29 4 = (n : Int) := by rw [gI_sI, if_pos rfl, if_pos rfl]
  have e5 : gI (feM (sI M 29 4 (n : Int)) n) 29 5 = gI M 29 5 := by rw [fe_ne (by decide), gI_sI, if_pos rfl, if_neg (by decide)]
  have e6 : gI (sI (feM (sI M 29 4 (n : Int)) n) 29 5 (gI M 29 5 - 1)) 29 5 = gI M 29 5 - 1 := by rw [gI_sI, if_pos rfl, if_pos rfl]
  have tl : V G (d + 2) mX0_takeBack 28 [some (.ref 29)] [.int (J (n : Int)), .ref 29] M (Ret (some (.int (J (gI M 29 5 - 1)))) (sI (feM (sI M 29 4 (n : Int)) n) 29 5 (gI M 29 5 - 1))) := by
    refine v_putI (pc := 28) 15 rfl fl_X0_29 rfl ?_
    refine v_aload_n (pc := 31) 16 rfl rfl ?_
    refine v_aload_n (pc := 32) 17 rfl rfl ?_
    refine v_getI (pc := 33) 18 rfl fl_X0_29 rfl ?_
    rw [e4]
    refine v_cV1v (pc := 36) 19 rfl cv_X0_42 rfl (Nat.le_of_ble_eq_true rfl) (Nat.le_of_ble_eq_true rfl) (c_fetch (by omega)) ?_
    refine v_aload_n (pc := 39) 20 rfl rfl ?_
    refine v_dup (pc := 40) 21 rfl rfl ?_
    refine v_getI (pc := 41) 22 rfl fl_X0_22 rfl ?_
    rw [e5]
    refine v_iconst (pc := 44) 23 rfl ?_
    refine v_isub (pc := 45) 24 rfl ?_
    refine v_putI (pc := 46) 25 rfl fl_X0_22 rfl ?_
    refine v_aload_n (pc := 49) 26 rfl rfl ?_
    refine v_getI (pc := 50) 27 rfl fl_X0_22 rfl ?_
    rw [e6]
    refine v_iret (pc := 53) 28 rfl rfl ⟨rfl, rfl⟩
  refine v_aload_n (pc := 0) 0 rfl rfl ?_
  refine v_getI (pc := 1) 1 rfl fl_X0_22 rfl ?_
  refine v_if_gtT (pc := 4) 2 9 rfl (by decide) (by omega) (by omega) ?_
  refine v_aload_n (pc := 9) 5 rfl rfl ?_
  refine v_aload_n (pc := 10) 6 rfl rfl ?_
  refine v_getI (pc := 11) 7 rfl fl_X0_29 rfl ?_
  refine v_if_le (pc := 14) 8 26 rfl (by decide) (by omega) (fun e1 => ?_) (fun e1 => ?_)
  · rw [if_neg (by omega)] at hn2
    refine v_bipush (pc := 26) 14 rfl (by decide) ?_
    rw [← hn2]
    exact tl
  · rw [if_pos (by omega)] at hn2
    refine v_aload_n (pc := 17) 9 rfl rfl ?_
    refine v_getI (pc := 18) 10 rfl fl_X0_29 rfl ?_
    refine v_iconst (pc := 21) 11 rfl ?_
    refine v_isub (pc := 22) 12 rfl ?_
    refine v_goto (pc := 23) 13 28 rfl (by decide) ?_
    rw [← hn2]
    exact tl
theorem or4 : ∀ a : Fin 4, ∀ b : Fin 2, J ((a : Nat) : Int) ||| J ((2 ^ (b : Nat) : Nat) : Int) = J (if ((a : Nat) : Int) / 2 ^ (b : Nat) % 2 = 1 then ((a : Nat) : Int) else ((a : Nat) : Int) + ((2 ^ (b : Nat) : Nat) : Int)) := by decide +kernel
theorem shl5 : ∀ b : Fin 6, J 1 <<< (J ((b : Nat) : Int) &&& 31) = J ((2 ^ (b : Nat) : Nat) : Int) := by decide +kernel
def setb (a : Int) (b : Nat) : Int := if bt a b = 1 then a else a + 2 ^ b
theorem J_shl1 {b : Nat} (h : b < 6) : J 1 <<< (J (b : Int) &&& 31) = J ((2 ^ b : Nat) : Int) := shl5 ⟨b, h⟩
theorem J_or4 {a : Int} {b : Nat} (ha : 0 ≤ a ∧ a < 4) (hb : b < 2) : J a ||| J ((2 ^ b : Nat) : Int) = J (setb a b) := by
  have h1 := or4 ⟨a.toNat, by omega⟩ ⟨b, hb⟩
  have e1 : ((a.toNat : Nat) : Int) = a := by omega
  simp only [e1] at h1
  rw [h1]
  unfold setb bt
  rw [Int.toNat_natCast, Int.natCast_pow]
  rfl
theorem c_layKeep {k : Nat} (hk : k < 2) (hp : 0 ≤ gI M 29 3 ∧ gI M 29 3 < 4) : V G (d + 2) mX0_layKeep 0 [some (.ref 29), some (.int (J (k : Int)))] [] M (Ret (some (.int (J 1))) (sI (stM M (12 + k)) 29 3 (setb (gI M 29 3) k))) := by
  have e3 : gI (stM M (12 + k)) 29 3 = gI M 29 3 := by rw [st_ne (by decide)]
  refine v_aload_n (pc := 0) 0 rfl rfl ?_
  refine v_bipush (pc := 1) 1 rfl (by decide) ?_
  refine v_iload_n (pc := 3) 2 rfl rfl ?_
  refine v_iadd (pc := 4) 3 rfl ?_
  rw [show (12 : Int) + (k : Int) = ((12 + k : Nat) : Int) by omega]
  refine v_cV1v (pc := 5) 4 rfl cv_X0_32 rfl (Nat.le_of_ble_eq_true rfl) (Nat.le_of_ble_eq_true rfl) (c_store (by omega)) ?_
  refine v_aload_n (pc := 8) 5 rfl rfl ?_
  refine v_dup (pc := 9) 6 rfl rfl ?_
  refine v_getI (pc := 10) 7 rfl fl_X0_26 rfl ?_
  rw [e3]
  refine v_iconst (pc := 13) 8 rfl ?_
  refine v_iload_n (pc := 14) 9 rfl rfl ?_
  refine v_ishl (pc := 15) 10 rfl (((2 ^ k : Nat) : Int)) (J_shl1 (by omega)) ?_
  refine v_ior (pc := 16) 11 rfl (setb (gI M 29 3) k) (J_or4 hp hk) ?_
  refine v_putI (pc := 17) 12 rfl fl_X0_26 rfl ?_
  refine v_iconst (pc := 20) 13 rfl ?_
  refine v_zret (pc := 21) 14 rfl rfl (by omega) ⟨rfl, rfl⟩
theorem c_backToKeep0 {k : Nat} (hk : k < 2) (hp : 0 ≤ gI M 29 3 ∧ gI M 29 3 < 4) (hb : bt (gI M 29 3) k = 0) : V G (d + 2) mX0_backToKeep 0 [some (.ref 29), some (.int (J (k : Int)))] [] M (Ret (some (.int (J 0))) M) := by
  refine v_aload_n (pc := 0) 0 rfl rfl ?_
  refine v_getI (pc := 1) 1 rfl fl_X0_26 rfl ?_
  refine v_iload_n (pc := 4) 2 rfl rfl ?_
  refine v_ishr (pc := 5) 3 rfl (gI M 29 3 / 2 ^ (k : Int).toNat) (J_shr (by omega)) ?_
  refine v_iconst (pc := 6) 4 rfl ?_
  refine v_iand (pc := 7) 5 rfl (bt (gI M 29 3) k) (J_bt (by omega)) ?_
  refine v_if_neF (pc := 8) 6 13 rfl (by decide) (by omega) (fun q => q hb) ?_
  refine v_iconst (pc := 11) 7 rfl ?_
  refine v_zret (pc := 12) 8 rfl rfl (by omega) ⟨rfl, rfl⟩
theorem c_backToKeep {k : Nat} (hk : k < 2) (hp : 0 ≤ gI M 29 3 ∧ gI M 29 3 < 4) (hb : bt (gI M 29 3) k = 1) : V G (d + 2) mX0_backToKeep 0 [some (.ref 29), some (.int (J (k : Int)))] [] M (Ret (some (.int (J 1))) (sI (feM M (12 + k)) 29 5 0)) := by
  refine v_aload_n (pc := 0) 0 rfl rfl ?_
  refine v_getI (pc := 1) 1 rfl fl_X0_26 rfl ?_
  refine v_iload_n (pc := 4) 2 rfl rfl ?_
  refine v_ishr (pc := 5) 3 rfl (gI M 29 3 / 2 ^ (k : Int).toNat) (J_shr (by omega)) ?_
  refine v_iconst (pc := 6) 4 rfl ?_
  refine v_iand (pc := 7) 5 rfl (bt (gI M 29 3) k) (J_bt (by omega)) ?_
  refine v_if_neT (pc := 8) 6 13 rfl (by decide) (by omega) (by omega) ?_
  refine v_aload_n (pc := 13) 9 rfl rfl ?_
  refine v_bipush (pc := 14) 10 rfl (by decide) ?_
  refine v_iload_n (pc := 16) 11 rfl rfl ?_
  refine v_iadd (pc := 17) 12 rfl ?_
  rw [show (12 : Int) + (k : Int) = ((12 + k : Nat) : Int) by omega]
  refine v_cV1v (pc := 18) 13 rfl cv_X0_42 rfl (Nat.le_of_ble_eq_true rfl) (Nat.le_of_ble_eq_true rfl) (c_fetch (by omega)) ?_
  refine v_aload_n (pc := 21) 14 rfl rfl ?_
  refine v_iconst (pc := 22) 15 rfl ?_
  refine v_putI (pc := 23) 16 rfl fl_X0_22 rfl ?_
  refine v_iconst (pc := 26) 17 rfl ?_
  refine v_zret (pc := 27) 18 rfl rfl (by omega) ⟨rfl, rfl⟩
end Acts
