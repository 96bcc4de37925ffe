/-! 21: what is told: the class's rows -/
theorem or64 : ∀ a : Fin 64, ∀ b : Fin 6, J ((a : Nat) : Int) ||| J ((2 ^ (b : Nat) : Nat) : Int) = J (if ((a : Nat) : Int) / 2 ^ (b : Nat) % 2 = 1 then ((a : Nat) : Int) else ((a : Nat) : Int) + ((2 ^ (b : Nat) : Nat) : Int)) := by decide +kernel
theorem J_or64 {a : Int} {b : Nat} (ha : 0 ≤ a ∧ a < 64) (hb : b < 6) : J a ||| J ((2 ^ b : Nat) : Int) = J (setb a b) := by
  have h1 := or64 ⟨a.toNat, by omega⟩ ⟨b, hb⟩
  have e1 : ((a.toNat : Nat) : Int) = a := by omega
  simp only [e1] at h1
  rw [h1]
  unfold setb bt
  rw [Int.toNat_natCast, Int.natCast_pow]
  rfl
theorem setb64 : ∀ a : Fin 64, ∀ b : Fin 6, setb ((a : Nat) : Int) (b : Nat) < 64 ∧ 0 ≤ setb ((a : Nat) : Int) (b : Nat) := by decide +kernel
theorem setb_b {a : Int} {b : Nat} (ha : 0 ≤ a ∧ a < 64) (hb : b < 6) : 0 ≤ setb a b ∧ setb a b < 64 := by
  have h1 := setb64 ⟨a.toNat, by omega⟩ ⟨b, hb⟩
  have e1 : ((a.toNat : Nat) : Int) = a := by omega
  simp only [e1] at h1
  omega
section Courts
variable {G : Gt} {d : Nat} {M : Mem} {c : Nat}
theorem c_hasTown (hc : c = 32 ∨ c = 43) (hg : 0 ≤ gI M c 0 ∧ gI M c 0 ≤ 100) {t : Int} (ht : -2147483648 ≤ t ∧ t ≤ 2147483647) : V G d mX4_hasTown 0 [some (.ref c), some (.int (J t))] [] M (Ret (some (.int (J (if 0 ≤ t ∧ t < gI M c 0 then 1 else 0)))) M) := by
  refine v_iload_n (pc := 0) 0 rfl rfl ?_
  refine v_if_lt (pc := 1) 1 16 rfl (by decide) (by omega) (fun e1 => ?_) (fun e1 => ?_)
  · rw [if_neg (by omega)]
    refine v_iconst (pc := 16) 8 rfl ?_
    refine v_zret (pc := 17) 9 rfl rfl (by omega) ⟨rfl, rfl⟩
  · refine v_iload_n (pc := 4) 2 rfl rfl ?_
    refine v_aload_n (pc := 5) 3 rfl rfl ?_
    refine v_getI (pc := 6) 4 rfl fl_X4_45 (shC hc) ?_
    refine v_ic_ge (pc := 9) 5 16 rfl (by decide) (by omega) (fun e2 => ?_) (fun e2 => ?_)
    · rw [if_neg (by omega)]
      refine v_iconst (pc := 16) 8 rfl ?_
      refine v_zret (pc := 17) 9 rfl rfl (by omega) ⟨rfl, rfl⟩
    · rw [if_pos (by omega)]
      refine v_iconst (pc := 12) 6 rfl ?_
      refine v_goto (pc := 13) 7 17 rfl (by decide) ?_
      refine v_zret (pc := 17) 9 rfl rfl (by omega) ⟨rfl, rfl⟩
theorem c_hasJudge (hc : c = 32 ∨ c = 43) (hg : 0 ≤ gI M c 1 ∧ gI M c 1 ≤ 100) {t : Int} (ht : -2147483648 ≤ t ∧ t ≤ 2147483647) : V G d mX4_hasJudge 0 [some (.ref c), some (.int (J t))] [] M (Ret (some (.int (J (if 0 ≤ t ∧ t < gI M c 1 then 1 else 0)))) M) := by
  refine v_iload_n (pc := 0) 0 rfl rfl ?_
  refine v_if_lt (pc := 1) 1 16 rfl (by decide) (by omega) (fun e1 => ?_) (fun e1 => ?_)
  · rw [if_neg (by omega)]
    refine v_iconst (pc := 16) 8 rfl ?_
    refine v_zret (pc := 17) 9 rfl rfl (by omega) ⟨rfl, rfl⟩
  · refine v_iload_n (pc := 4) 2 rfl rfl ?_
    refine v_aload_n (pc := 5) 3 rfl rfl ?_
    refine v_getI (pc := 6) 4 rfl fl_X4_49 (shC hc) ?_
    refine v_ic_ge (pc := 9) 5 16 rfl (by decide) (by omega) (fun e2 => ?_) (fun e2 => ?_)
    · rw [if_neg (by omega)]
      refine v_iconst (pc := 16) 8 rfl ?_
      refine v_zret (pc := 17) 9 rfl rfl (by omega) ⟨rfl, rfl⟩
    · rw [if_pos (by omega)]
      refine v_iconst (pc := 12) 6 rfl ?_
      refine v_goto (pc := 13) 7 17 rfl (by decide) ?_
      refine v_zret (pc := 17) 9 rfl rfl (by omega) ⟨rfl, rfl⟩
theorem c_hasCase (hc : c = 32 ∨ c = 43) (hg : 0 ≤ gI M c 2 ∧ gI M c 2 ≤ 100) {t : Int} (ht : -2147483648 ≤ t ∧ t ≤ 2147483647) : V G d mX4_hasCase 0 [some (.ref c), some (.int (J t))] [] M (Ret (some (.int (J (if 0 ≤ t ∧ t < gI M c 2 then 1 else 0)))) M) := by
  refine v_iload_n (pc := 0) 0 rfl rfl ?_
  refine v_if_lt (pc := 1) 1 16 rfl (by decide) (by omega) (fun e1 => ?_) (fun e1 => ?_)
  · rw [if_neg (by omega)]
    refine v_iconst (pc := 16) 8 rfl ?_
    refine v_zret (pc := 17) 9 rfl rfl (by omega) ⟨rfl, rfl⟩
  · refine v_iload_n (pc := 4) 2 rfl rfl ?_
    refine v_aload_n (pc := 5) 3 rfl rfl ?_
    refine v_getI (pc := 6) 4 rfl fl_X4_52 (shC hc) ?_
    refine v_ic_ge (pc := 9) 5 16 rfl (by decide) (by omega) (fun e2 => ?_) (fun e2 => ?_)
    · rw [if_neg (by omega)]
      refine v_iconst (pc := 16) 8 rfl ?_
      refine v_zret (pc := 17) 9 rfl rfl (by omega) ⟨rfl, rfl⟩
    · rw [if_pos (by omega)]
      refine v_iconst (pc := 12) 6 rfl ?_
      refine v_goto (pc := 13) 7 17 rfl (by decide) ?_
      refine v_zret (pc := 17) 9 rfl rfl (by omega) ⟨rfl, rfl⟩
theorem c_addTown (hc : c = 32 ∨ c = 43) (hg : 0 ≤ gI M c 0 ∧ gI M c 0 < 5) : V G d mX4_addTown 0 [some (.ref c)] [] M (Ret none (sI M c 0 (gI M c 0 + 1))) := by
  refine v_aload_n (pc := 0) 0 rfl rfl ?_
  refine v_getI (pc := 1) 1 rfl fl_X4_45 (shC hc) ?_
  refine v_iconst (pc := 4) 2 rfl ?_
  refine v_ic_geF (pc := 5) 3 18 rfl (by decide) (by omega) (by omega) ?_
  refine v_aload_n (pc := 8) 4 rfl rfl ?_
  refine v_dup (pc := 9) 5 rfl rfl ?_
  refine v_getI (pc := 10) 6 rfl fl_X4_45 (shC hc) ?_
  refine v_iconst (pc := 13) 7 rfl ?_
  refine v_iadd (pc := 14) 8 rfl ?_
  refine v_putI (pc := 15) 9 rfl fl_X4_45 (shC hc) ?_
  refine v_ret (pc := 18) 10 rfl rfl ⟨rfl, rfl⟩
theorem c_layRoad (hc : c = 32 ∨ c = 43) {a b : Nat} {x : Int} (ha : a < 5) (hb : b < 5) : V G d mX4_layRoad 0 [some (.ref c), some (.int (J (a : Int))), some (.int (J (b : Int))), some (.int (J x))] [] M (Ret none (sI (sI M (c + 1) (a * 5 + b) x) (c + 1) (b * 5 + a) x)) := by
  refine v_aload_n (pc := 0) 0 rfl rfl ?_
  refine v_getC (pc := 1) 1 rfl fl_X4_9 (shC hc) _ (rtC_3 hc) ?_
  refine v_iload_n (pc := 4) 2 rfl rfl ?_
  refine v_iconst (pc := 5) 3 rfl ?_
  refine v_imul (pc := 6) 4 rfl ?_
  refine v_iload_n (pc := 7) 5 rfl rfl ?_
  refine v_iadd (pc := 8) 6 rfl ?_
  refine v_iload_n (pc := 9) 7 rfl rfl ?_
  refine v_iastE (pc := 10) 8 rfl (shC_3 hc) (a * 5 + b) (by omega) ?_
  refine v_aload_n (pc := 11) 9 rfl rfl ?_
  refine v_getC (pc := 12) 10 rfl fl_X4_9 (shC hc) _ (rtC_3 hc) ?_
  refine v_iload_n (pc := 15) 11 rfl rfl ?_
  refine v_iconst (pc := 16) 12 rfl ?_
  refine v_imul (pc := 17) 13 rfl ?_
  refine v_iload_n (pc := 18) 14 rfl rfl ?_
  refine v_iadd (pc := 19) 15 rfl ?_
  refine v_iload_n (pc := 20) 16 rfl rfl ?_
  refine v_iastE (pc := 21) 17 rfl (shC_3 hc) (b * 5 + a) (by omega) ?_
  refine v_ret (pc := 22) 18 rfl rfl ⟨rfl, rfl⟩
theorem c_addJudge (hc : c = 32 ∨ c = 43) {n : Nat} (hn : gI M c 1 = (n : Int)) (hn6 : n < 6) (a b x : Int) : V G d mX4_addJudge 0 [some (.ref c), some (.int (J a)), some (.int (J b)), some (.int (J x))] [] M (Ret none (sI (sI (sI (sI (sI M (c + 2) n a) (c + 3) n b) (c + 4) n x) (c + 5) n 0) c 1 ((n : Int) + 1))) := by
  refine v_aload_n (pc := 0) 0 rfl rfl ?_
  refine v_getI (pc := 1) 1 rfl fl_X4_49 (shC hc) ?_
  refine v_bipush (pc := 4) 2 rfl (by decide) ?_
  refine v_ic_geF (pc := 6) 3 59 rfl (by decide) (by omega) (by omega) ?_
  refine v_aload_n (pc := 9) 4 rfl rfl ?_
  refine v_getC (pc := 10) 5 rfl fl_X4_15 (shC hc) _ (rtC_4 hc) ?_
  refine v_aload_n (pc := 13) 6 rfl rfl ?_
  refine v_getI (pc := 14) 7 rfl fl_X4_49 (shC hc) ?_
  rw [hn]
  refine v_iload_n (pc := 17) 8 rfl rfl ?_
  refine v_iastN (pc := 18) 9 rfl (shC_4 hc) (by omega) ?_
  refine v_aload_n (pc := 19) 10 rfl rfl ?_
  refine v_getC (pc := 20) 11 rfl fl_X4_18 (shC hc) _ (rtC_5 hc) ?_
  refine v_aload_n (pc := 23) 12 rfl rfl ?_
  refine v_getI (pc := 24) 13 rfl fl_X4_49 (shC hc) ?_
  rw [gI_sI_ne (by omega), hn]
  refine v_iload_n (pc := 27) 14 rfl rfl ?_
  refine v_iastN (pc := 28) 15 rfl (shC_5 hc) (by omega) ?_
  refine v_aload_n (pc := 29) 16 rfl rfl ?_
  refine v_getC (pc := 30) 17 rfl fl_X4_21 (shC hc) _ (rtC_6 hc) ?_
  refine v_aload_n (pc := 33) 18 rfl rfl ?_
  refine v_getI (pc := 34) 19 rfl fl_X4_49 (shC hc) ?_
  rw [gI_sI_ne (by omega), gI_sI_ne (by omega), hn]
  refine v_iload_n (pc := 37) 20 rfl rfl ?_
  refine v_iastN (pc := 38) 21 rfl (shC_6 hc) (by omega) ?_
  refine v_aload_n (pc := 39) 22 rfl rfl ?_
  refine v_getC (pc := 40) 23 rfl fl_X4_24 (shC hc) _ (rtC_7 hc) ?_
  refine v_aload_n (pc := 43) 24 rfl rfl ?_
  refine v_getI (pc := 44) 25 rfl fl_X4_49 (shC hc) ?_
  rw [gI_sI_ne (by omega), gI_sI_ne (by omega), gI_sI_ne (by omega), hn]
  refine v_iconst (pc := 47) 26 rfl ?_
  refine v_iastN (pc := 48) 27 rfl (shC_7 hc) (by omega) ?_
  refine v_aload_n (pc := 49) 28 rfl rfl ?_
  refine v_dup (pc := 50) 29 rfl rfl ?_
  refine v_getI (pc := 51) 30 rfl fl_X4_49 (shC hc) ?_
  rw [gI_sI_ne (by omega), gI_sI_ne (by omega), gI_sI_ne (by omega), gI_sI_ne (by omega), hn]
  refine v_iconst (pc := 54) 31 rfl ?_
  refine v_iadd (pc := 55) 32 rfl ?_
  refine v_putI (pc := 56) 33 rfl fl_X4_49 (shC hc) ?_
  refine v_ret (pc := 59) 34 rfl rfl ⟨rfl, rfl⟩
theorem c_addQuarrel (hc : c = 32 ∨ c = 43) {a b : Nat} (hab : a ≠ b) (ha : a < 6) (hb : b < 6) (h1 : 0 ≤ gI M (c + 5) a ∧ gI M (c + 5) a < 64) (h2 : 0 ≤ gI M (c + 5) b ∧ gI M (c + 5) b < 64) : V G d mX4_addQuarrel 0 [some (.ref c), some (.int (J (a : Int))), some (.int (J (b : Int)))] [] M (Ret none (sI (sI M (c + 5) a (setb (gI M (c + 5) a) b)) (c + 5) b (setb (gI M (c + 5) b) a))) := by
  have e1 : gI (sI M (c + 5) a (setb (gI M (c + 5) a) b)) (c + 5) b = gI M (c + 5) b := by rw [gI_sI, if_pos rfl, if_neg (Ne.symm hab)]
  refine v_aload_n (pc := 0) 0 rfl rfl ?_
  refine v_getC (pc := 1) 1 rfl fl_X4_24 (shC hc) _ (rtC_7 hc) ?_
  refine v_iload_n (pc := 4) 2 rfl rfl ?_
  refine v_dup2 (pc := 5) 3 rfl ⟨rfl, rfl⟩ ?_
  refine v_ialdN (pc := 6) 4 rfl (shC_7 hc) (by omega) ?_
  refine v_iconst (pc := 7) 5 rfl ?_
  refine v_iload_n (pc := 8) 6 rfl rfl ?_
  refine v_ishl (pc := 9) 7 rfl (((2 ^ b : Nat) : Int)) (J_shl1 hb) ?_
  refine v_ior (pc := 10) 8 rfl (setb (gI M (c + 5) a) b) (J_or64 h1 hb) ?_
  refine v_iastN (pc := 11) 9 rfl (shC_7 hc) (by omega) ?_
  refine v_aload_n (pc := 12) 10 rfl rfl ?_
  refine v_getC (pc := 13) 11 rfl fl_X4_24 (shC hc) _ (rtC_7 hc) ?_
  refine v_iload_n (pc := 16) 12 rfl rfl ?_
  refine v_dup2 (pc := 17) 13 rfl ⟨rfl, rfl⟩ ?_
  refine v_ialdN (pc := 18) 14 rfl (shC_7 hc) (by omega) ?_
  rw [e1]
  refine v_iconst (pc := 19) 15 rfl ?_
  refine v_iload_n (pc := 20) 16 rfl rfl ?_
  refine v_ishl (pc := 21) 17 rfl (((2 ^ a : Nat) : Int)) (J_shl1 ha) ?_
  refine v_ior (pc := 22) 18 rfl (setb (gI M (c + 5) b) a) (J_or64 h2 ha) ?_
  refine v_iastN (pc := 23) 19 rfl (shC_7 hc) (by omega) ?_
  refine v_ret (pc := 24) 20 rfl rfl ⟨rfl, rfl⟩
theorem c_addCase (hc : c = 32 ∨ c = 43) {n : Nat} (hn : gI M c 2 = (n : Int)) (hn6 : n < 12) (a b x y z : Int) : V G d mX4_addCase 0 [some (.ref c), some (.int (J a)), some (.int (J b)), some (.int (J x)), some (.int (J y)), some (.int (J z))] [] M (Ret none (sI (sI (sI (sI (sI (sI M (c + 6) n a) (c + 7) n b) (c + 8) n x) (c + 9) n y) (c + 10) n z) c 2 ((n : Int) + 1))) := by
  refine v_aload_n (pc := 0) 0 rfl rfl ?_
  refine v_getI (pc := 1) 1 rfl fl_X4_52 (shC hc) ?_
  refine v_bipush (pc := 4) 2 rfl (by decide) ?_
  refine v_ic_geF (pc := 6) 3 71 rfl (by decide) (by omega) (by omega) ?_
  refine v_aload_n (pc := 9) 4 rfl rfl ?_
  refine v_getC (pc := 10) 5 rfl fl_X4_27 (shC hc) _ (rtC_8 hc) ?_
  refine v_aload_n (pc := 13) 6 rfl rfl ?_
  refine v_getI (pc := 14) 7 rfl fl_X4_52 (shC hc) ?_
  rw [hn]
  refine v_iload_n (pc := 17) 8 rfl rfl ?_
  refine v_iastN (pc := 18) 9 rfl (shC_8 hc) (by omega) ?_
  refine v_aload_n (pc := 19) 10 rfl rfl ?_
  refine v_getC (pc := 20) 11 rfl fl_X4_30 (shC hc) _ (rtC_9 hc) ?_
  refine v_aload_n (pc := 23) 12 rfl rfl ?_
  refine v_getI (pc := 24) 13 rfl fl_X4_52 (shC hc) ?_
  rw [gI_sI_ne (by omega), hn]
  refine v_iload_n (pc := 27) 14 rfl rfl ?_
  refine v_iastN (pc := 28) 15 rfl (shC_9 hc) (by omega) ?_
  refine v_aload_n (pc := 29) 16 rfl rfl ?_
  refine v_getC (pc := 30) 17 rfl fl_X4_33 (shC hc) _ (rtC_10 hc) ?_
  refine v_aload_n (pc := 33) 18 rfl rfl ?_
  refine v_getI (pc := 34) 19 rfl fl_X4_52 (shC hc) ?_
  rw [gI_sI_ne (by omega), gI_sI_ne (by omega), hn]
  refine v_iload_n (pc := 37) 20 rfl rfl ?_
  refine v_iastN (pc := 38) 21 rfl (shC_10 hc) (by omega) ?_
  refine v_aload_n (pc := 39) 22 rfl rfl ?_
  refine v_getC (pc := 40) 23 rfl fl_X4_36 (shC hc) _ (rtC_11 hc) ?_
  refine v_aload_n (pc := 43) 24 rfl rfl ?_
  refine v_getI (pc := 44) 25 rfl fl_X4_52 (shC hc) ?_
  rw [gI_sI_ne (by omega), gI_sI_ne (by omega), gI_sI_ne (by omega), hn]
  refine v_iload (pc := 47) 26 rfl rfl ?_
  refine v_iastN (pc := 49) 27 rfl (shC_11 hc) (by omega) ?_
  refine v_aload_n (pc := 50) 28 rfl rfl ?_
  refine v_getC (pc := 51) 29 rfl fl_X4_39 (shC hc) _ (rtC_12 hc) ?_
  refine v_aload_n (pc := 54) 30 rfl rfl ?_
  refine v_getI (pc := 55) 31 rfl fl_X4_52 (shC hc) ?_
  rw [gI_sI_ne (by omega), gI_sI_ne (by omega), gI_sI_ne (by omega), gI_sI_ne (by omega), hn]
  refine v_iload (pc := 58) 32 rfl rfl ?_
  refine v_iastN (pc := 60) 33 rfl (shC_12 hc) (by omega) ?_
  refine v_aload_n (pc := 61) 34 rfl rfl ?_
  refine v_dup (pc := 62) 35 rfl rfl ?_
  refine v_getI (pc := 63) 36 rfl fl_X4_52 (shC hc) ?_
  rw [gI_sI_ne (by omega), gI_sI_ne (by omega), gI_sI_ne (by omega), gI_sI_ne (by omega), gI_sI_ne (by omega), hn]
  refine v_iconst (pc := 66) 37 rfl ?_
  refine v_iadd (pc := 67) 38 rfl ?_
  refine v_putI (pc := 68) 39 rfl fl_X4_52 (shC hc) ?_
  refine v_ret (pc := 71) 40 rfl rfl ⟨rfl, rfl⟩
theorem c_forget (hc : c = 32 ∨ c = 43) : V G d mX4_forget 0 [some (.ref c), none, none] [] M (fun r N => r = none ∧ ∃ f, N = aI (sI (sI (sI M c 0 0) c 1 0) c 2 0) (c + 1) f ∧ ∀ a b, a < 5 → b < 5 → f (a * 5 + b) = if a = b then 0 else 1000) := by
  generalize hQ : (fun (r : Option Value) (N : Mem) => r = none ∧ ∃ f, N = aI (sI (sI (sI M c 0 0) c 1 0) c 2 0) (c + 1) f ∧ ∀ a b, a < 5 → b < 5 → f (a * 5 + b) = if a = b then 0 else 1000) = Q
  refine v_aload_n (pc := 0) 0 rfl rfl ?_
  refine v_iconst (pc := 1) 1 rfl ?_
  refine v_putI (pc := 2) 2 rfl fl_X4_45 (shC hc) ?_
  refine v_aload_n (pc := 5) 3 rfl rfl ?_
  refine v_iconst (pc := 6) 4 rfl ?_
  refine v_putI (pc := 7) 5 rfl fl_X4_49 (shC hc) ?_
  refine v_aload_n (pc := 10) 6 rfl rfl ?_
  refine v_iconst (pc := 11) 7 rfl ?_
  refine v_putI (pc := 12) 8 rfl fl_X4_52 (shC hc) ?_
  refine v_iconst (pc := 15) 9 rfl ?_
  refine v_istore_n (pc := 16) 10 rfl ⟨Nat.le_of_ble_eq_true rfl, rfl⟩ ?_
  generalize hN : sI (sI (sI M c 0 0) c 1 0) c 2 0 = N at hQ ⊢
  have loop := loopN (N := 5) (fun a => ∀ f u, (∀ x y, x < a → y < 5 → f (x * 5 + y) = if x = y then 0 else 1000) → V G d mX4_forget 17 [some (.ref c), some (.int (J (a : Int))), u] [] (aI N (c + 1) f) Q) ?_ ?_
  · have := loop (gI N (c + 1)) none (fun x y h => by omega)
    rw [aI_self] at this
    exact this
  · intro f u hf
    refine v_iload_n (pc := 17) 11 rfl rfl ?_
    refine v_iconst (pc := 18) 12 rfl ?_
    refine v_ic_geT (pc := 19) 13 63 rfl (by decide) (by omega) (by omega) ?_
    refine v_ret (pc := 63) 37 rfl rfl (by rw [← hQ]; exact ⟨rfl, f, rfl, fun a b ha hb => hf a b ha hb⟩)
  · intro a ha ih f u hf
    refine v_iload_n (pc := 17) 11 rfl rfl ?_
    refine v_iconst (pc := 18) 12 rfl ?_
    refine v_ic_geF (pc := 19) 13 63 rfl (by decide) (by omega) (by omega) ?_
    refine v_iconst (pc := 22) 14 rfl ?_
    refine v_istore_n (pc := 23) 15 rfl ⟨Nat.le_of_ble_eq_true rfl, rfl⟩ ?_
    have inner := loopN (N := 5) (fun b => ∀ f, (∀ x y, x < a → y < 5 → f (x * 5 + y) = if x = y then 0 else 1000) → (∀ y, y < b → f (a * 5 + y) = if a = y then 0 else 1000) → V G d mX4_forget 24 [some (.ref c), some (.int (J (a : Int))), some (.int (J (b : Int)))] [] (aI N (c + 1) f) Q) ?_ ?_
    · exact inner f hf (fun y hy => by omega)
    · intro f hf hf2
      refine v_iload_n (pc := 24) 16 rfl rfl ?_
      refine v_iconst (pc := 25) 17 rfl ?_
      refine v_ic_geT (pc := 26) 18 57 rfl (by decide) (by omega) (by omega) ?_
      refine v_iinc (pc := 57) 35 rfl rfl ⟨Nat.le_of_ble_eq_true rfl, rfl⟩ ?_
      refine v_goto (pc := 60) 36 17 rfl (by decide) ?_
      exact ih f _ (fun x y hx hy => by
        by_cases e : x = a
        · rw [e]; exact hf2 y hy
        · exact hf x y (by omega) hy)
    · intro b hb ih2 f hf hf2
      have stp : ∀ v, v = (if a = b then (0 : Int) else 1000) → V G d mX4_forget 50 [some (.ref c), some (.int (J (a : Int))), some (.int (J (b : Int)))] [.int (J v), .int (J ((a : Int) * 5 + (b : Int))), .ref (c + 1)] (aI N (c + 1) f) Q := by
        intro v hv
        refine v_iastE (pc := 50) 32 rfl (shC_3 hc) (a * 5 + b) (by omega) ?_
        refine v_iinc (pc := 51) 33 rfl rfl ⟨Nat.le_of_ble_eq_true rfl, rfl⟩ ?_
        refine v_goto (pc := 54) 34 24 rfl (by decide) ?_
        rw [sI_aI]
        refine ih2 _ (fun x y hx hy => ?_) (fun y hy => ?_)
        · rw [if_neg (by omega)]; exact hf x y hx hy
        · by_cases e : y = b
          · rw [if_pos (by omega), hv, e]
          · rw [if_neg (by omega)]; exact hf2 y (by omega)
      refine v_iload_n (pc := 24) 16 rfl rfl ?_
      refine v_iconst (pc := 25) 17 rfl ?_
      refine v_ic_geF (pc := 26) 18 57 rfl (by decide) (by omega) (by omega) ?_
      refine v_aload_n (pc := 29) 19 rfl rfl ?_
      refine v_getC (pc := 30) 20 rfl fl_X4_9 (shC hc) _ (rtC_3 hc) ?_
      refine v_iload_n (pc := 33) 21 rfl rfl ?_
      refine v_iconst (pc := 34) 22 rfl ?_
      refine v_imul (pc := 35) 23 rfl ?_
      refine v_iload_n (pc := 36) 24 rfl rfl ?_
      refine v_iadd (pc := 37) 25 rfl ?_
      refine v_iload_n (pc := 38) 26 rfl rfl ?_
      refine v_iload_n (pc := 39) 27 rfl rfl ?_
      refine v_ic_ne (pc := 40) 28 47 rfl (by decide) (by omega) (fun e1 => ?_) (fun e1 => ?_)
      · refine v_sipush (pc := 47) 31 rfl (by decide) ?_
        exact stp 1000 (by rw [if_neg (by omega)])
      · refine v_iconst (pc := 43) 29 rfl ?_
        refine v_goto (pc := 44) 30 50 rfl (by decide) ?_
        exact stp 0 (by rw [if_pos (by omega)])
end Courts
