/-! 45: the reference: its public reads -/
def MR (M : Mem) (A : Ax) : Prop := RI M (aT A) (aS A) ∧ (gI M 54 2 = (aN A : Int) ∧ aN A ≤ 800 ∧ ∀ i, i < aN A → gI M 55 i = aB A i) ∧
  (gI M 54 33 = ((aU A).length : Int) ∧ (aU A).length ≤ 12 ∧ ∀ i, i < (aU A).length → ∀ k, k < 12 → gI M 73 (24 * i + k) = ((aU A).getD i s0).1 k ∧ gI M 73 (24 * i + 12 + k) = ((aU A).getD i s0).2 k) ∧
  (∀ k, k < 2 → (aK A k = none ∧ gI M 75 k = 0) ∨ ∃ S, aK A k = some S ∧ gI M 75 k = 1 ∧ ∀ j, j < 12 → gI M 74 (24 * k + j) = S.1 j ∧ gI M 74 (24 * k + 12 + j) = S.2 j) ∧ gI M 54 12 = 0 ∧ AOk A
/-- the class's cells are as they were -/
def MF (M N : Mem) : Prop := (∀ q, q < 54 → gI N q = gI M q ∧ gL N q = gL M q) ∧ gR N = gR M
theorem MF.rfl9 (M : Mem) : MF M M := ⟨fun _ _ => ⟨rfl, rfl⟩, rfl⟩
theorem MF.trans {M N P : Mem} (h1 : MF M N) (h2 : MF N P) : MF M P := ⟨fun q hq => ⟨(h2.1 q hq).1.trans (h1.1 q hq).1, (h2.1 q hq).2.trans (h1.1 q hq).2⟩, h2.2.trans h1.2⟩
theorem CRc.mf {M N : Mem} {A : Ax} {c c2 : Nat} (h : CRc M A c c2) (hf : MF M N) : CRc N A c c2 := h.same (fun q hq => (hf.1 q (by omega)).1) hf.2
theorem MR.cf {M N : Mem} {A : Ax} (h : MR M A) (hf : CF M N) : MR N A := by
  have e : ∀ q, 54 ≤ q → gI N q = gI M q := fun q hq => (hf q hq).1
  obtain ⟨h1, h2, h3, h4, h5, h6⟩ := h
  refine ⟨h1.keep (fun q hq => e q (by omega)), ?_, ?_, ?_, ?_, h6⟩
  · rw [e 54 (by decide), e 55 (by decide)]; exact h2
  · rw [e 54 (by decide), e 73 (by decide)]; exact h3
  · rw [e 74 (by decide), e 75 (by decide)]; exact h4
  · rw [e 54 (by decide)]; exact h5
/-- fields of the object that MR does not speak of -/
theorem MR.fld {M : Mem} {A : Ax} (h : MR M A) {f : Nat} (v : Int) (hf : f ≠ 2 ∧ f ≠ 12 ∧ f ≠ 33) : MR (sI M 54 f v) A := by
  have e : ∀ q, q ≠ 54 → gI (sI M 54 f v) q = gI M q := fun q hq => gI_sI_ne hq
  have e54 : ∀ i, i ≠ f → gI (sI M 54 f v) 54 i = gI M 54 i := fun i hi => by rw [gI_sI, if_pos rfl, if_neg hi]
  obtain ⟨h1, h2, h3, h4, h5, h6⟩ := h
  refine ⟨h1.keep (fun q hq => e q (by omega)), ?_, ?_, ?_, ?_, h6⟩
  · rw [e54 2 (by omega), e 55 (by decide)]; exact h2
  · rw [e54 33 (by omega), e 73 (by decide)]; exact h3
  · rw [e 74 (by decide), e 75 (by decide)]; exact h4
  · rw [e54 12 (by omega)]; exact h5
theorem mf_fld (M : Mem) (f : Nat) (v : Int) : MF M (sI M 54 f v) := ⟨fun q hq => ⟨gI_sI_ne (by omega), rfl⟩, rfl⟩
section MPub
variable {G : Gt} {d : Nat} {M N : Mem} {A : Ax}
theorem MR.t (h : MR M A) : RI (sI M 54 0 0) (aT A) (aS A) := (h.fld 0 (by decide)).1
theorem m_travel (h : MR M A) {a b : Int} (ha : -2147483648 ≤ a ∧ a ≤ 2147483647) (hb : -2147483648 ≤ b ∧ b ≤ 2147483647) : V G (d + 2) mX12_travel 0 [some (.ref 54), some (.int (J a)), some (.int (J b))] [] M (Ret (some (.int (J (sTravel A a b)))) (sI M 54 0 0)) := by
  have hI := h.t
  have hn := hI.n
  unfold sTravel
  refine v_aload_n (pc := 0) 0 rfl rfl ?_
  refine v_iconst (pc := 1) 1 rfl ?_
  refine v_putI (pc := 2) 2 rfl fl_X12_97 rfl ?_
  refine v_aload_n (pc := 5) 3 rfl rfl ?_
  refine v_iload_n (pc := 6) 4 rfl rfl ?_
  refine v_cV1i (pc := 7) 5 rfl cv_X12_266 rfl (Nat.le_of_ble_eq_true rfl) (Nat.le_of_ble_eq_true rfl) (m_isTown hI ha) ?_
  refine v_if_eq (pc := 10) 6 21 rfl (by decide) (by omega) (fun e1 => ?_) (fun e1 => ?_)
  · rw [if_neg (by omega)]
    refine v_iconst (pc := 21) 11 rfl ?_
    refine v_iret (pc := 22) 12 rfl rfl ⟨rfl, rfl⟩
  · refine v_aload_n (pc := 13) 7 rfl rfl ?_
    refine v_iload_n (pc := 14) 8 rfl rfl ?_
    refine v_cV1i (pc := 15) 9 rfl cv_X12_266 rfl (Nat.le_of_ble_eq_true rfl) (Nat.le_of_ble_eq_true rfl) (m_isTown hI hb) ?_
    refine v_if_ne (pc := 18) 10 23 rfl (by decide) (by omega) (fun e2 => ?_) (fun e2 => ?_)
    · rw [if_pos (by omega)]
      obtain ⟨i, hi, hi2, hw, hw2⟩ := hI.way (a := a) (b := b) (by omega) (by omega)
      refine v_aload_n (pc := 23) 13 rfl rfl ?_
      refine v_getC (pc := 24) 14 rfl fl_X12_76 rfl 76 rfl ?_
      refine v_iconst (pc := 27) 15 rfl ?_
      refine v_iload_n (pc := 28) 16 rfl rfl ?_
      refine v_imul (pc := 29) 17 rfl ?_
      refine v_iload_n (pc := 30) 18 rfl rfl ?_
      refine v_iadd (pc := 31) 19 rfl ?_
      refine v_ialdE (pc := 32) 20 rfl rfl i (by omega) ?_
      rw [hw]
      refine v_sipush (pc := 33) 21 rfl (by decide) ?_
      refine v_ic_lt (pc := 36) 22 44 rfl (by decide) (by omega) (fun e3 => ?_) (fun e3 => ?_)
      · rw [if_neg (by omega)]
        refine v_aload_n (pc := 44) 25 rfl rfl ?_
        refine v_getC (pc := 45) 26 rfl fl_X12_76 rfl 76 rfl ?_
        refine v_iconst (pc := 48) 27 rfl ?_
        refine v_iload_n (pc := 49) 28 rfl rfl ?_
        refine v_imul (pc := 50) 29 rfl ?_
        refine v_iload_n (pc := 51) 30 rfl rfl ?_
        refine v_iadd (pc := 52) 31 rfl ?_
        refine v_ialdE (pc := 53) 32 rfl rfl i (by omega) ?_
        rw [hw]
        refine v_iret (pc := 54) 33 rfl rfl ⟨rfl, rfl⟩
      · rw [if_pos (by omega)]
        refine v_bipush (pc := 39) 23 rfl (by decide) ?_
        refine v_goto (pc := 41) 24 54 rfl (by decide) ?_
        refine v_iret (pc := 54) 33 rfl rfl ⟨rfl, rfl⟩
    · rw [if_neg (by omega)]
      refine v_iconst (pc := 21) 11 rfl ?_
      refine v_iret (pc := 22) 12 rfl rfl ⟨rfl, rfl⟩
theorem m_why (h : MR M A) {k j t : Int} (hk : -2147483648 ≤ k ∧ k ≤ 2147483647) (hj : -2147483648 ≤ j ∧ j ≤ 2147483647) (ht : -2147483648 ≤ t ∧ t ≤ 2147483647) : V G (d + 2) mX12_why 0 [some (.ref 54), some (.int (J k)), some (.int (J j)), some (.int (J t))] [] M (Ret (some (.int (J (sWhy A k j t)))) (sI M 54 0 0)) := by
  have hI := h.t
  have hn := hI.n
  unfold sWhy
  refine v_aload_n (pc := 0) 0 rfl rfl ?_
  refine v_iconst (pc := 1) 1 rfl ?_
  refine v_putI (pc := 2) 2 rfl fl_X12_97 rfl ?_
  refine v_aload_n (pc := 5) 3 rfl rfl ?_
  refine v_iload_n (pc := 6) 4 rfl rfl ?_
  refine v_cV1i (pc := 7) 5 rfl cv_X12_275 rfl (Nat.le_of_ble_eq_true rfl) (Nat.le_of_ble_eq_true rfl) (m_isCase hI hk) ?_
  refine v_if_eq (pc := 10) 6 38 rfl (by decide) (by omega) (fun e1 => ?_) (fun e1 => ?_)
  · rw [if_neg (by omega)]
    refine v_iconst (pc := 38) 20 rfl ?_
    refine v_iret (pc := 39) 21 rfl rfl ⟨rfl, rfl⟩
  · refine v_aload_n (pc := 13) 7 rfl rfl ?_
    refine v_iload_n (pc := 14) 8 rfl rfl ?_
    refine v_cV1i (pc := 15) 9 rfl cv_X12_270 rfl (Nat.le_of_ble_eq_true rfl) (Nat.le_of_ble_eq_true rfl) (m_isJudge hI hj) ?_
    refine v_if_eq (pc := 18) 10 38 rfl (by decide) (by omega) (fun e2 => ?_) (fun e2 => ?_)
    · rw [if_neg (by omega)]
      refine v_iconst (pc := 38) 20 rfl ?_
      refine v_iret (pc := 39) 21 rfl rfl ⟨rfl, rfl⟩
    · refine v_iload_n (pc := 21) 11 rfl rfl ?_
      refine v_cS1i (pc := 22) 12 rfl cs_X12_290 (Nat.le_of_ble_eq_true rfl) (Nat.le_of_ble_eq_true rfl) (m_isDay ht) ?_
      refine v_if_eq (pc := 25) 13 38 rfl (by decide) (by omega) (fun e3 => ?_) (fun e3 => ?_)
      · rw [if_neg (by omega)]
        refine v_iconst (pc := 38) 20 rfl ?_
        refine v_iret (pc := 39) 21 rfl rfl ⟨rfl, rfl⟩
      · rw [if_pos (by omega)]
        obtain ⟨k1, rfl⟩ : ∃ k1 : Nat, k = (k1 : Int) := ⟨k.toNat, by omega⟩
        obtain ⟨j1, rfl⟩ : ∃ j1 : Nat, j = (j1 : Int) := ⟨j.toNat, by omega⟩
        rw [Int.toNat_natCast, Int.toNat_natCast]
        refine v_aload_n (pc := 28) 14 rfl rfl ?_
        refine v_iload_n (pc := 29) 15 rfl rfl ?_
        refine v_iload_n (pc := 30) 16 rfl rfl ?_
        refine v_iload_n (pc := 31) 17 rfl rfl ?_
        refine v_cV3i (pc := 32) 18 rfl cv_X12_293 rfl (Nat.le_of_ble_eq_true rfl) (Nat.le_of_ble_eq_true rfl) (m_whyOf hI (by omega) (by omega) (by omega)) ?_
        refine v_goto (pc := 35) 19 39 rfl (by decide) ?_
        refine v_iret (pc := 39) 21 rfl rfl ⟨rfl, rfl⟩
theorem m_minutes (h : MR M A) {j t : Int} (hj : -2147483648 ≤ j ∧ j ≤ 2147483647) (ht : -2147483648 ≤ t ∧ t ≤ 2147483647) : V G (d + 2) mX12_minutes 0 [some (.ref 54), some (.int (J j)), some (.int (J t))] [] M (Ret (some (.int (J (sMin A j t)))) (sI M 54 0 0)) := by
  have hI := h.t
  have hn := hI.n
  unfold sMin
  refine v_aload_n (pc := 0) 0 rfl rfl ?_
  refine v_iconst (pc := 1) 1 rfl ?_
  refine v_putI (pc := 2) 2 rfl fl_X12_97 rfl ?_
  refine v_aload_n (pc := 5) 3 rfl rfl ?_
  refine v_iload_n (pc := 6) 4 rfl rfl ?_
  refine v_cV1i (pc := 7) 5 rfl cv_X12_270 rfl (Nat.le_of_ble_eq_true rfl) (Nat.le_of_ble_eq_true rfl) (m_isJudge hI hj) ?_
  refine v_if_eq (pc := 10) 6 29 rfl (by decide) (by omega) (fun e1 => ?_) (fun e1 => ?_)
  · rw [if_neg (by omega)]
    refine v_iconst (pc := 29) 15 rfl ?_
    refine v_iret (pc := 30) 16 rfl rfl ⟨rfl, rfl⟩
  · refine v_iload_n (pc := 13) 7 rfl rfl ?_
    refine v_cS1i (pc := 14) 8 rfl cs_X12_290 (Nat.le_of_ble_eq_true rfl) (Nat.le_of_ble_eq_true rfl) (m_isDay ht) ?_
    refine v_if_eq (pc := 17) 9 29 rfl (by decide) (by omega) (fun e2 => ?_) (fun e2 => ?_)
    · rw [if_neg (by omega)]
      refine v_iconst (pc := 29) 15 rfl ?_
      refine v_iret (pc := 30) 16 rfl rfl ⟨rfl, rfl⟩
    · rw [if_pos (by omega)]
      refine v_aload_n (pc := 20) 10 rfl rfl ?_
      refine v_iload_n (pc := 21) 11 rfl rfl ?_
      refine v_iload_n (pc := 22) 12 rfl rfl ?_
      refine v_cV2i (pc := 23) 13 rfl cv_X12_287 rfl (Nat.le_of_ble_eq_true rfl) (Nat.le_of_ble_eq_true rfl) (m_minutesOn hI hj ht) ?_
      refine v_goto (pc := 26) 14 30 rfl (by decide) ?_
      refine v_iret (pc := 30) 16 rfl rfl ⟨rfl, rfl⟩
theorem m_load (h : MR M A) {j : Int} (hj : -2147483648 ≤ j ∧ j ≤ 2147483647) : V G (d + 2) mX12_load 0 [some (.ref 54), some (.int (J j))] [] M (Ret (some (.int (J (sLoad A j)))) (sI M 54 0 0)) := by
  have hI := h.t
  have hn := hI.n
  unfold sLoad
  refine v_aload_n (pc := 0) 0 rfl rfl ?_
  refine v_iconst (pc := 1) 1 rfl ?_
  refine v_putI (pc := 2) 2 rfl fl_X12_97 rfl ?_
  refine v_aload_n (pc := 5) 3 rfl rfl ?_
  refine v_iload_n (pc := 6) 4 rfl rfl ?_
  refine v_cV1i (pc := 7) 5 rfl cv_X12_270 rfl (Nat.le_of_ble_eq_true rfl) (Nat.le_of_ble_eq_true rfl) (m_isJudge hI hj) ?_
  refine v_if_eq (pc := 10) 6 21 rfl (by decide) (by omega) (fun e1 => ?_) (fun e1 => ?_)
  · rw [if_neg (by omega)]
    refine v_iconst (pc := 21) 11 rfl ?_
    refine v_iret (pc := 22) 12 rfl rfl ⟨rfl, rfl⟩
  · rw [if_pos (by omega)]
    obtain ⟨j1, rfl⟩ : ∃ j1 : Nat, j = (j1 : Int) := ⟨j.toNat, by omega⟩
    rw [Int.toNat_natCast]
    refine v_aload_n (pc := 13) 7 rfl rfl ?_
    refine v_iload_n (pc := 14) 8 rfl rfl ?_
    refine v_cV1i (pc := 15) 9 rfl cv_X12_310 rfl (Nat.le_of_ble_eq_true rfl) (Nat.le_of_ble_eq_true rfl) (m_loadOf hI (by omega)) ?_
    refine v_goto (pc := 18) 10 22 rfl (by decide) ?_
    refine v_iret (pc := 22) 12 rfl rfl ⟨rfl, rfl⟩
theorem m_ranked (h : MR M A) {k : Int} (hk : -2147483648 ≤ k ∧ k ≤ 2147483647) : V G (d + 1) mX12_ranked 0 [some (.ref 54), some (.int (J k)), none, none, none] [] M (Ret (some (.int (J (sRank A k)))) (sI M 54 0 0)) := by
  have hI := h.t
  have hn := hI.n
  have hT := h.2.2.2.2.2.1
  unfold sRank
  generalize hP : (fun j => decide (pb (aT A) (aS A) j (nJ (aT A)) = k)) = P
  refine v_aload_n (pc := 0) 0 rfl rfl ?_
  refine v_iconst (pc := 1) 1 rfl ?_
  refine v_putI (pc := 2) 2 rfl fl_X12_97 rfl ?_
  refine v_iconst (pc := 5) 3 rfl ?_
  refine v_istore_n (pc := 6) 4 rfl ⟨Nat.le_of_ble_eq_true rfl, rfl⟩ ?_
  refine loopN (N := nJ (aT A)) (fun j => exB P j = false → ∀ u v, V G (d + 1) mX12_ranked 7 [some (.ref 54), some (.int (J k)), some (.int (J (j : Int))), u, v] [] (sI M 54 0 0) (Ret (some (.int (J (fst P (fun j => (j : Int)) (nJ (aT A)))))) (sI M 54 0 0))) ?_ ?_ rfl none none
  · intro hx u v
    rw [fst_none hx]
    refine v_iload_n (pc := 7) 5 rfl rfl ?_
    refine v_aload_n (pc := 8) 6 rfl rfl ?_
    refine v_getC (pc := 9) 7 rfl fl_X12_17 rfl 57 rfl ?_
    refine v_iconst (pc := 12) 8 rfl ?_
    refine v_ialdN (kk := 0) (pc := 13) 9 rfl rfl (by decide) ?_
    refine v_ic_geT (pc := 14) 10 94 rfl (by decide) (by omega) (by omega) ?_
    refine v_iconst (pc := 94) 53 rfl ?_
    refine v_iret (pc := 95) 54 rfl rfl ⟨rfl, rfl⟩
  · intro j hj ih hx u v
    have hb : 0 ≤ pb (aT A) (aS A) j (nJ (aT A)) ∧ pb (aT A) (aS A) j (nJ (aT A)) ≤ 6 := by
      have := sumN_b (f := fun o => if ld (aT A) (aS A) j (nK (aT A)) < ld (aT A) (aS A) o (nK (aT A)) ∨ (ld (aT A) (aS A) o (nK (aT A)) = ld (aT A) (aS A) j (nK (aT A)) ∧ o < j) then 1 else 0) (B := 1) (nJ (aT A)) (fun k hk => by split <;> omega)
      unfold pb
      omega
    have l1 := ld_b hT (aS A) j
    have c1 := m_loadOf (G := G) (d := d) hI hj
    refine v_iload_n (pc := 7) 5 rfl rfl ?_
    refine v_aload_n (pc := 8) 6 rfl rfl ?_
    refine v_getC (pc := 9) 7 rfl fl_X12_17 rfl 57 rfl ?_
    refine v_iconst (pc := 12) 8 rfl ?_
    refine v_ialdN (kk := 0) (pc := 13) 9 rfl rfl (by decide) ?_
    refine v_ic_geF (pc := 14) 10 94 rfl (by decide) (by omega) (by omega) ?_
    refine v_iconst (pc := 17) 11 rfl ?_
    refine v_istore_n (pc := 18) 12 rfl ⟨Nat.le_of_ble_eq_true rfl, rfl⟩ ?_
    refine v_iconst (pc := 19) 13 rfl ?_
    refine v_istore (pc := 20) 14 rfl ⟨Nat.le_of_ble_eq_true rfl, rfl⟩ ?_
    refine loopN (N := nJ (aT A)) (fun o => V G (d + 1) mX12_ranked 22 [some (.ref 54), some (.int (J k)), some (.int (J (j : Int))), some (.int (J (pb (aT A) (aS A) j o))), some (.int (J (o : Int)))] [] (sI M 54 0 0) (Ret (some (.int (J (fst P (fun j => (j : Int)) (nJ (aT A)))))) (sI M 54 0 0))) ?_ ?_
    · refine v_iload (pc := 22) 15 rfl rfl ?_
      refine v_aload_n (pc := 24) 16 rfl rfl ?_
      refine v_getC (pc := 25) 17 rfl fl_X12_17 rfl 57 rfl ?_
      refine v_iconst (pc := 28) 18 rfl ?_
      refine v_ialdN (kk := 0) (pc := 29) 19 rfl rfl (by decide) ?_
      refine v_ic_geT (pc := 30) 20 81 rfl (by decide) (by omega) (by omega) ?_
      refine v_iload_n (pc := 81) 46 rfl rfl ?_
      refine v_iload_n (pc := 82) 47 rfl rfl ?_
      refine v_ic_ne (pc := 83) 48 88 rfl (by decide) (by omega) (fun e1 => ?_) (fun e1 => ?_)
      · refine v_iinc (pc := 88) 51 rfl rfl ⟨Nat.le_of_ble_eq_true rfl, rfl⟩ ?_
        refine v_goto (pc := 91) 52 7 rfl (by decide) ?_
        exact ih (exB_succ hx (by rw [← hP]; exact decide_eq_false e1)) _ _
      · rw [fst_at hj hx (by rw [← hP]; exact decide_eq_true (Decidable.not_not.mp e1))]
        refine v_iload_n (pc := 86) 49 rfl rfl ?_
        refine v_iret (pc := 87) 50 rfl rfl ⟨rfl, rfl⟩
    · intro o ho iho
      have l2 := ld_b hT (aS A) o
      have c2 := m_loadOf (G := G) (d := d) hI ho
      have hm : pb (aT A) (aS A) j (o + 1) = pb (aT A) (aS A) j o + (if ld (aT A) (aS A) j (nK (aT A)) < ld (aT A) (aS A) o (nK (aT A)) ∨ (ld (aT A) (aS A) o (nK (aT A)) = ld (aT A) (aS A) j (nK (aT A)) ∧ o < j) then 1 else 0) := rfl
      rw [hm] at iho
      refine v_iload (pc := 22) 15 rfl rfl ?_
      refine v_aload_n (pc := 24) 16 rfl rfl ?_
      refine v_getC (pc := 25) 17 rfl fl_X12_17 rfl 57 rfl ?_
      refine v_iconst (pc := 28) 18 rfl ?_
      refine v_ialdN (kk := 0) (pc := 29) 19 rfl rfl (by decide) ?_
      refine v_ic_geF (pc := 30) 20 81 rfl (by decide) (by omega) (by omega) ?_
      refine v_iload_n (pc := 33) 21 rfl rfl ?_
      refine v_aload_n (pc := 34) 22 rfl rfl ?_
      refine v_iload (pc := 35) 23 rfl rfl ?_
      refine v_cV1i (pc := 37) 24 rfl cv_X12_310 rfl (Nat.le_of_ble_eq_true rfl) (Nat.le_of_ble_eq_true rfl) (c2) ?_
      refine v_aload_n (pc := 40) 25 rfl rfl ?_
      refine v_iload_n (pc := 41) 26 rfl rfl ?_
      refine v_cV1i (pc := 42) 27 rfl cv_X12_310 rfl (Nat.le_of_ble_eq_true rfl) (Nat.le_of_ble_eq_true rfl) (c1) ?_
      refine v_ic_gt (pc := 45) 28 68 rfl (by decide) (by omega) (fun e1 => ?_) (fun e1 => ?_)
      · rw [if_pos (Or.inl e1)] at iho
        refine v_iconst (pc := 68) 39 rfl ?_
        refine v_goto (pc := 69) 40 73 rfl (by decide) ?_
        refine v_iadd (pc := 73) 42 rfl ?_
        refine v_istore_n (pc := 74) 43 rfl ⟨Nat.le_of_ble_eq_true rfl, rfl⟩ ?_
        refine v_iinc (pc := 75) 44 rfl rfl ⟨Nat.le_of_ble_eq_true rfl, rfl⟩ ?_
        refine v_goto (pc := 78) 45 22 rfl (by decide) ?_
        exact iho
      · refine v_aload_n (pc := 48) 29 rfl rfl ?_
        refine v_iload (pc := 49) 30 rfl rfl ?_
        refine v_cV1i (pc := 51) 31 rfl cv_X12_310 rfl (Nat.le_of_ble_eq_true rfl) (Nat.le_of_ble_eq_true rfl) (c2) ?_
        refine v_aload_n (pc := 54) 32 rfl rfl ?_
        refine v_iload_n (pc := 55) 33 rfl rfl ?_
        refine v_cV1i (pc := 56) 34 rfl cv_X12_310 rfl (Nat.le_of_ble_eq_true rfl) (Nat.le_of_ble_eq_true rfl) (c1) ?_
        refine v_ic_ne (pc := 59) 35 72 rfl (by decide) (by omega) (fun e2 => ?_) (fun e2 => ?_)
        · rw [if_neg (by omega)] at iho
          refine v_iconst (pc := 72) 41 rfl ?_
          refine v_iadd (pc := 73) 42 rfl ?_
          refine v_istore_n (pc := 74) 43 rfl ⟨Nat.le_of_ble_eq_true rfl, rfl⟩ ?_
          refine v_iinc (pc := 75) 44 rfl rfl ⟨Nat.le_of_ble_eq_true rfl, rfl⟩ ?_
          refine v_goto (pc := 78) 45 22 rfl (by decide) ?_
          exact iho
        · refine v_iload (pc := 62) 36 rfl rfl ?_
          refine v_iload_n (pc := 64) 37 rfl rfl ?_
          refine v_ic_ge (pc := 65) 38 72 rfl (by decide) (by omega) (fun e3 => ?_) (fun e3 => ?_)
          · rw [if_neg (by omega)] at iho
            refine v_iconst (pc := 72) 41 rfl ?_
            refine v_iadd (pc := 73) 42 rfl ?_
            refine v_istore_n (pc := 74) 43 rfl ⟨Nat.le_of_ble_eq_true rfl, rfl⟩ ?_
            refine v_iinc (pc := 75) 44 rfl rfl ⟨Nat.le_of_ble_eq_true rfl, rfl⟩ ?_
            refine v_goto (pc := 78) 45 22 rfl (by decide) ?_
            exact iho
          · rw [if_pos (by omega)] at iho
            refine v_iconst (pc := 68) 39 rfl ?_
            refine v_goto (pc := 69) 40 73 rfl (by decide) ?_
            refine v_iadd (pc := 73) 42 rfl ?_
            refine v_istore_n (pc := 74) 43 rfl ⟨Nat.le_of_ble_eq_true rfl, rfl⟩ ?_
            refine v_iinc (pc := 75) 44 rfl rfl ⟨Nat.le_of_ble_eq_true rfl, rfl⟩ ?_
            refine v_goto (pc := 78) 45 22 rfl (by decide) ?_
            exact iho
theorem m_lent (h : MR M A) {a b : Int} (ha : -2147483648 ≤ a ∧ a ≤ 2147483647) (hb : -2147483648 ≤ b ∧ b ≤ 2147483647) : V G (d + 2) mX12_lent 0 [some (.ref 54), some (.int (J a)), some (.int (J b))] [] M (Ret (some (.int (J (sLent A a b)))) (sI M 54 0 0)) := by
  have hI := h.t
  have hn := hI.n
  unfold sLent
  refine v_aload_n (pc := 0) 0 rfl rfl ?_
  refine v_iconst (pc := 1) 1 rfl ?_
  refine v_putI (pc := 2) 2 rfl fl_X12_97 rfl ?_
  refine v_aload_n (pc := 5) 3 rfl rfl ?_
  refine v_iload_n (pc := 6) 4 rfl rfl ?_
  refine v_cV1i (pc := 7) 5 rfl cv_X12_266 rfl (Nat.le_of_ble_eq_true rfl) (Nat.le_of_ble_eq_true rfl) (m_isTown hI ha) ?_
  refine v_if_eq (pc := 10) 6 35 rfl (by decide) (by omega) (fun e1 => ?_) (fun e1 => ?_)
  · rw [if_neg (by omega)]
    refine v_iconst (pc := 35) 19 rfl ?_
    refine v_iret (pc := 36) 20 rfl rfl ⟨rfl, rfl⟩
  · refine v_aload_n (pc := 13) 7 rfl rfl ?_
    refine v_iload_n (pc := 14) 8 rfl rfl ?_
    refine v_cV1i (pc := 15) 9 rfl cv_X12_266 rfl (Nat.le_of_ble_eq_true rfl) (Nat.le_of_ble_eq_true rfl) (m_isTown hI hb) ?_
    refine v_if_eq (pc := 18) 10 35 rfl (by decide) (by omega) (fun e2 => ?_) (fun e2 => ?_)
    · rw [if_neg (by omega)]
      refine v_iconst (pc := 35) 19 rfl ?_
      refine v_iret (pc := 36) 20 rfl rfl ⟨rfl, rfl⟩
    · refine v_iload_n (pc := 21) 11 rfl rfl ?_
      refine v_iload_n (pc := 22) 12 rfl rfl ?_
      refine v_ic_eq (pc := 23) 13 35 rfl (by decide) (by omega) (fun e3 => ?_) (fun e3 => ?_)
      · rw [if_neg (by omega)]
        refine v_iconst (pc := 35) 19 rfl ?_
        refine v_iret (pc := 36) 20 rfl rfl ⟨rfl, rfl⟩
      · rw [if_pos (by omega)]
        refine v_aload_n (pc := 26) 14 rfl rfl ?_
        refine v_iload_n (pc := 27) 15 rfl rfl ?_
        refine v_iload_n (pc := 28) 16 rfl rfl ?_
        refine v_cV2i (pc := 29) 17 rfl cv_X12_357 rfl (Nat.le_of_ble_eq_true rfl) (Nat.le_of_ble_eq_true rfl) (m_lentBy hI ha hb) ?_
        refine v_goto (pc := 32) 18 36 rfl (by decide) ?_
        refine v_iret (pc := 36) 20 rfl rfl ⟨rfl, rfl⟩
theorem m_sits (h : MR M A) {j t : Int} (hj : -2147483648 ≤ j ∧ j ≤ 2147483647) (ht : -2147483648 ≤ t ∧ t ≤ 2147483647) : V G (d + 2) mX12_sits 0 [some (.ref 54), some (.int (J j)), some (.int (J t)), none] [] M (Ret (some (.int (J (sSits A j t)))) (sI M 54 0 0)) := by
  have hI := h.t
  have hn := hI.n
  obtain ⟨-, -, h3, h4, h5, hT, hS⟩ := id hI
  unfold sSits
  generalize hP : (fun k => decide ((aS A).1 k = j ∧ (aS A).2 k = t)) = P
  refine v_aload_n (pc := 0) 0 rfl rfl ?_
  refine v_iconst (pc := 1) 1 rfl ?_
  refine v_putI (pc := 2) 2 rfl fl_X12_97 rfl ?_
  refine v_aload_n (pc := 5) 3 rfl rfl ?_
  refine v_iload_n (pc := 6) 4 rfl rfl ?_
  refine v_cV1i (pc := 7) 5 rfl cv_X12_270 rfl (Nat.le_of_ble_eq_true rfl) (Nat.le_of_ble_eq_true rfl) (m_isJudge hI hj) ?_
  refine v_if_eq (pc := 10) 6 20 rfl (by decide) (by omega) (fun e1 => ?_) (fun e1 => ?_)
  · rw [if_neg (by omega)]
    refine v_bipush (pc := 20) 10 rfl (by decide) ?_
    refine v_iret (pc := 22) 11 rfl rfl ⟨rfl, rfl⟩
  · refine v_iload_n (pc := 13) 7 rfl rfl ?_
    refine v_cS1i (pc := 14) 8 rfl cs_X12_290 (Nat.le_of_ble_eq_true rfl) (Nat.le_of_ble_eq_true rfl) (m_isDay ht) ?_
    refine v_if_ne (pc := 17) 9 23 rfl (by decide) (by omega) (fun e2 => ?_) (fun e2 => ?_)
    · rw [if_pos (by omega)]
      refine v_iconst (pc := 23) 12 rfl ?_
      refine v_istore_n (pc := 24) 13 rfl ⟨Nat.le_of_ble_eq_true rfl, rfl⟩ ?_
      refine loopN (N := nK (aT A)) (fun k => exB P k = false → V G (d + 2) mX12_sits 25 [some (.ref 54), some (.int (J j)), some (.int (J t)), some (.int (J (k : Int)))] [] (sI M 54 0 0) (Ret (some (.int (J (fst P (tw (aT A)) (nK (aT A)))))) (sI M 54 0 0))) ?_ ?_ rfl
      · intro hx
        rw [fst_none hx]
        refine v_iload_n (pc := 25) 14 rfl rfl ?_
        refine v_aload_n (pc := 26) 15 rfl rfl ?_
        refine v_getC (pc := 27) 16 rfl fl_X12_20 rfl 58 rfl ?_
        refine v_iconst (pc := 30) 17 rfl ?_
        refine v_ialdN (kk := 0) (pc := 31) 18 rfl rfl (by decide) ?_
        refine v_ic_geT (pc := 32) 19 71 rfl (by decide) (by omega) (by omega) ?_
        refine v_iconst (pc := 71) 41 rfl ?_
        refine v_iret (pc := 72) 42 rfl rfl ⟨rfl, rfl⟩
      · intro k hk ih hx
        have e := (h5 k (by omega))
        have ek := (h4 k hk).1
        have hb := hS.b hT (k := k) (by omega)
        refine v_iload_n (pc := 25) 14 rfl rfl ?_
        refine v_aload_n (pc := 26) 15 rfl rfl ?_
        refine v_getC (pc := 27) 16 rfl fl_X12_20 rfl 58 rfl ?_
        refine v_iconst (pc := 30) 17 rfl ?_
        refine v_ialdN (kk := 0) (pc := 31) 18 rfl rfl (by decide) ?_
        refine v_ic_geF (pc := 32) 19 71 rfl (by decide) (by omega) (by omega) ?_
        refine v_aload_n (pc := 35) 20 rfl rfl ?_
        refine v_getC (pc := 36) 21 rfl fl_X12_63 rfl 72 rfl ?_
        refine v_iload_n (pc := 39) 22 rfl rfl ?_
        refine v_ialdN (pc := 40) 23 rfl rfl (by omega) ?_
        refine v_iload_n (pc := 41) 24 rfl rfl ?_
        refine v_ic_ne (pc := 42) 25 65 rfl (by decide) (by omega) (fun e3 => ?_) (fun e3 => ?_)
        · refine v_iinc (pc := 65) 39 rfl rfl ⟨Nat.le_of_ble_eq_true rfl, rfl⟩ ?_
          refine v_goto (pc := 68) 40 25 rfl (by decide) ?_
          exact ih (exB_succ hx (by rw [← hP]; exact decide_eq_false (fun z => by omega)))
        · refine v_aload_n (pc := 45) 26 rfl rfl ?_
          refine v_getC (pc := 46) 27 rfl fl_X12_63 rfl 72 rfl ?_
          refine v_bipush (pc := 49) 28 rfl (by decide) ?_
          refine v_iload_n (pc := 51) 29 rfl rfl ?_
          refine v_iadd (pc := 52) 30 rfl ?_
          refine v_ialdE (pc := 53) 31 rfl rfl (12 + k) (by omega) ?_
          refine v_iload_n (pc := 54) 32 rfl rfl ?_
          refine v_ic_ne (pc := 55) 33 65 rfl (by decide) (by omega) (fun e4 => ?_) (fun e4 => ?_)
          · refine v_iinc (pc := 65) 39 rfl rfl ⟨Nat.le_of_ble_eq_true rfl, rfl⟩ ?_
            refine v_goto (pc := 68) 40 25 rfl (by decide) ?_
            exact ih (exB_succ hx (by rw [← hP]; exact decide_eq_false (fun z => by omega)))
          · rw [fst_at hk hx (by rw [← hP]; exact decide_eq_true ⟨by omega, by omega⟩)]
            refine v_aload_n (pc := 58) 34 rfl rfl ?_
            refine v_getC (pc := 59) 35 rfl fl_X12_48 rfl 67 rfl ?_
            refine v_iload_n (pc := 62) 36 rfl rfl ?_
            refine v_ialdN (pc := 63) 37 rfl rfl (by omega) ?_
            rw [ek]
            refine v_iret (pc := 64) 38 rfl rfl ⟨rfl, rfl⟩
    · rw [if_neg (by omega)]
      refine v_bipush (pc := 20) 10 rfl (by decide) ?_
      refine v_iret (pc := 22) 11 rfl rfl ⟨rfl, rfl⟩
theorem m_count (h : MR M A) {w : Int} (hw : -2147483648 ≤ w ∧ w ≤ 2147483647) : V G (d + 2) mX12_count 0 [some (.ref 54), some (.int (J w))] [] M (Ret (some (.int (J (sCount A w)))) (sI M 54 0 0)) := by
  have hI := h.t
  have hn := hI.n
  have hM := h.fld (f := 0) 0 (by decide)
  have hu := hM.2.2.1.1
  have ht := hM.2.1.1
  unfold sCount
  by_cases q : w < 0 ∨ 5 < w
  · rw [if_neg (by omega), if_neg (by omega), if_neg (by omega), if_neg (by omega), if_neg (by omega), if_neg (by omega)]
    refine v_aload_n (pc := 0) 0 rfl rfl ?_
    refine v_iconst (pc := 1) 1 rfl ?_
    refine v_putI (pc := 2) 2 rfl fl_X12_97 rfl ?_
    refine v_iload_n (pc := 5) 3 rfl rfl ?_
    refine v_tswOut (pc := 6) 4 80 rfl ⟨hw, q⟩ (by decide) ?_
    refine v_iconst (pc := 80) 29 rfl ?_
    refine v_iret (pc := 81) 30 rfl rfl ⟨rfl, rfl⟩
  · rcases (by omega : w = 0 ∨ w = 1 ∨ w = 2 ∨ w = 3 ∨ w = 4 ∨ w = 5) with rfl | rfl | rfl | rfl | rfl | rfl
    · refine v_aload_n (pc := 0) 0 rfl rfl ?_
      refine v_iconst (pc := 1) 1 rfl ?_
      refine v_putI (pc := 2) 2 rfl fl_X12_97 rfl ?_
      refine v_iload_n (pc := 5) 3 rfl rfl ?_
      refine v_tswIn (pc := 6) 4 44 rfl (by decide) rfl (by decide) ?_
      refine v_aload_n (pc := 44) 5 rfl rfl ?_
      refine v_getC (pc := 45) 6 rfl fl_X12_13 rfl 56 rfl ?_
      refine v_iconst (pc := 48) 7 rfl ?_
      refine v_ialdN (kk := 0) (pc := 49) 8 rfl rfl (by decide) ?_
      rw [hn.1]
      refine v_iret (pc := 50) 9 rfl rfl ⟨rfl, rfl⟩
    · refine v_aload_n (pc := 0) 0 rfl rfl ?_
      refine v_iconst (pc := 1) 1 rfl ?_
      refine v_putI (pc := 2) 2 rfl fl_X12_97 rfl ?_
      refine v_iload_n (pc := 5) 3 rfl rfl ?_
      refine v_tswIn (pc := 6) 4 51 rfl (by decide) rfl (by decide) ?_
      refine v_aload_n (pc := 51) 10 rfl rfl ?_
      refine v_getC (pc := 52) 11 rfl fl_X12_17 rfl 57 rfl ?_
      refine v_iconst (pc := 55) 12 rfl ?_
      refine v_ialdN (kk := 0) (pc := 56) 13 rfl rfl (by decide) ?_
      rw [hn.2.1]
      refine v_iret (pc := 57) 14 rfl rfl ⟨rfl, rfl⟩
    · refine v_aload_n (pc := 0) 0 rfl rfl ?_
      refine v_iconst (pc := 1) 1 rfl ?_
      refine v_putI (pc := 2) 2 rfl fl_X12_97 rfl ?_
      refine v_iload_n (pc := 5) 3 rfl rfl ?_
      refine v_tswIn (pc := 6) 4 58 rfl (by decide) rfl (by decide) ?_
      refine v_aload_n (pc := 58) 15 rfl rfl ?_
      refine v_getC (pc := 59) 16 rfl fl_X12_20 rfl 58 rfl ?_
      refine v_iconst (pc := 62) 17 rfl ?_
      refine v_ialdN (kk := 0) (pc := 63) 18 rfl rfl (by decide) ?_
      rw [hn.2.2.1]
      refine v_iret (pc := 64) 19 rfl rfl ⟨rfl, rfl⟩
    · refine v_aload_n (pc := 0) 0 rfl rfl ?_
      refine v_iconst (pc := 1) 1 rfl ?_
      refine v_putI (pc := 2) 2 rfl fl_X12_97 rfl ?_
      refine v_iload_n (pc := 5) 3 rfl rfl ?_
      refine v_tswIn (pc := 6) 4 65 rfl (by decide) rfl (by decide) ?_
      refine v_aload_n (pc := 65) 20 rfl rfl ?_
      refine v_cV0i (pc := 66) 21 rfl cv_X12_388 rfl (Nat.le_of_ble_eq_true rfl) (Nat.le_of_ble_eq_true rfl) (m_sittings hI) ?_
      refine v_iret (pc := 69) 22 rfl rfl ⟨rfl, rfl⟩
    · refine v_aload_n (pc := 0) 0 rfl rfl ?_
      refine v_iconst (pc := 1) 1 rfl ?_
      refine v_putI (pc := 2) 2 rfl fl_X12_97 rfl ?_
      refine v_iload_n (pc := 5) 3 rfl rfl ?_
      refine v_tswIn (pc := 6) 4 70 rfl (by decide) rfl (by decide) ?_
      refine v_aload_n (pc := 70) 23 rfl rfl ?_
      refine v_getI (pc := 71) 24 rfl fl_X12_261 rfl ?_
      rw [hu]
      refine v_iret (pc := 74) 25 rfl rfl ⟨rfl, rfl⟩
    · refine v_aload_n (pc := 0) 0 rfl rfl ?_
      refine v_iconst (pc := 1) 1 rfl ?_
      refine v_putI (pc := 2) 2 rfl fl_X12_97 rfl ?_
      refine v_iload_n (pc := 5) 3 rfl rfl ?_
      refine v_tswIn (pc := 6) 4 75 rfl (by decide) rfl (by decide) ?_
      refine v_aload_n (pc := 75) 26 rfl rfl ?_
      refine v_getI (pc := 76) 27 rfl fl_X12_101 rfl ?_
      rw [ht]
      refine v_iret (pc := 79) 28 rfl rfl ⟨rfl, rfl⟩
end MPub
