/-! 45: the reference: its public reads -/
def MR (M : Mem) (A : Ax) : Prop := RI M (aT A) (aS A) ∧ (gI M 54 2 = (aN A : Int) ∧ aN A ≤ 800 ∧ ∀ i, i < aN A → gI M 55 i = aB A i) ∧
  (gI M 54 33 = ((aU A).length : Int) ∧ (aU A).length ≤ 12 ∧ ∀ i, i < (aU A).length → ∀ k, k < 12 → gI M 73 (24 * i + k) = ((aU A).getD i s0).1 k ∧ gI M 73 (24 * i + 12 + k) = ((aU A).getD i s0).2 k) ∧
  (∀ k, k < 2 → (aK A k = none ∧ gI M 75 k = 0) ∨ ∃ S, aK A k = some S ∧ gI M 75 k = 1 ∧ ∀ j, j < 12 → gI M 74 (24 * k + j) = S.1 j ∧ gI M 74 (24 * k + 12 + j) = S.2 j) ∧ gI M 54 12 = 0 ∧ AOk A
/-- the class's cells are as they were -/
def MF (M N : Mem) : Prop := (∀ q, q < 54 → gI N q = gI M q ∧ gL N q = gL M q) ∧ gR N = gR M
theorem MF.rfl9 (M : Mem) : MF M M := ⟨fun _ _ => ⟨rfl, rfl⟩, rfl⟩
theorem MF.trans {M N P : Mem} (h1 : MF M N) (h2 : MF N P) : MF M P := ⟨fun q hq => ⟨(h2.1 q hq).1.trans (h1.1 q hq).1, (h2.1 q hq).2.trans (h1.1 q hq).2⟩, h2.2.trans h1.2⟩
theorem CRc.mf {M N : Mem} {A : Ax} {c c2 : Nat} (h : CRc M A c c2) (hf : MF M N) : CRc N A c c2 := h.same (fun q hq => (hf.1 q (by omega)).1) hf.2
theorem MR.cf {M N : Mem} {A : Ax} (h : MR M A) (hf : CF M N) : MR N A := by
  have e : ∀ q, 54 ≤ q → gI N q = gI M q := fun q hq => (hf q hq).1
  obtain ⟨h1, h2, h3, h4, h5, h6⟩ := h
  refine ⟨h1.keep (fun q hq => e q (by omega)), ?_, ?_, ?_, ?_, h6⟩
  · rw [e 54 (by decide), e 55 (by decide)]; exact h2
  · rw [e 54 (by decide), e 73 (by decide)]; exact h3
  · rw [e 74 (by decide), e 75 (by decide)]; exact h4
  · rw [e 54 (by decide)]; exact h5
/-- fields of the object that MR does not speak of -/
theorem MR.fld {M : Mem} {A : Ax} (h : MR M A) {f : Nat} (v : Int) (hf : f ≠ 2 ∧ f ≠ 12 ∧ f ≠ 33) : MR (sI M 54 f v) A := by
  have e : ∀ q, q ≠ 54 → gI (sI M 54 f v) q = gI M q := fun q hq => gI_sI_ne hq
  have e54 : ∀ i, i ≠ f → gI (sI M 54 f v) 54 i = gI M 54 i := fun i hi => by rw [gI_sI, if_pos rfl, if_neg hi]
  obtain ⟨h1, h2, h3, h4, h5, h6⟩ := h
  refine ⟨h1.keep (fun q hq => e q (by omega)), ?_, ?_, ?_, ?_, h6⟩
  · rw [e54 2 (by omega), e 55 (by decide)]; exact h2
  · rw [e54 33 (by omega), e 73 (by decide)]; exact h3
  · rw [e 74 (by decide), e 75 (by decide)]; exact h4
  · rw [e54 12 (by omega)]; exact h5
theorem mf_fld (M : Mem) (f : Nat) (v : Int) : MF M (sI M 54 f v) := ⟨fun q hq => ⟨gI_sI_ne (by omega), rfl⟩, rfl⟩
section MPub
variable {G : Gt} {d : Nat} {M N : Mem} {A : Ax}
theorem MR.t (h : MR M A) : RI (sI M 54 0 0) (aT A) (aS A) := (h.fld 0 (by decide)).1
theorem m_travel (h : MR M A) {a b : Int} (ha : -2147483648 ≤ a ∧ a ≤ 2147483647) (hb : -2147483648 ≤ b ∧ b ≤ 2147483647) : V G (d + 2) mX12_travel 0 [some (.ref 54), some (.int (J a)), some (.int (J b))] [] M (Ret (some (.int (J (sTravel A a b)))) (sI M 54 0 0)) := by
  have hI := h.t
  have hn := hI.n
  unfold sTravel
  refine v_aload_n (pc := 0) 0 rfl rfl ?_
  refine v_iconst (pc := 1) 1 rfl ?_
  refine v_putI (pc := 2) 2 rfl fl_X12_97 rfl ?_
  refine v_aload_n (pc := 5) 3 rfl rfl ?_
  refine v_iload_n (pc := 6) 4 rfl rfl ?_
  refine v_cV1i (pc := 7) 5 rfl cv_X12_266 rfl (Nat.le_of_ble_eq_true rfl) (Nat.le_of_ble_eq_true rfl) (m_isTown hI ha) ?_
  refine v_if_eq (pc := 10) 6 21 rfl (by decide) (by omega) (fun e1 => ?_) (fun e1 => ?_)
  · rw [if_neg (by omega)]
    refine v_iconst (pc := 21) 11 rfl ?_
    refine v_iret (pc := 22) 12 rfl rfl ⟨rfl, rfl⟩
  · refine v_aload_n (pc := 13) 7 rfl rfl ?_
    refine v_iload_n (pc := 14) 8 rfl rfl ?_
    refine v_cV1i (pc := 15) 9 rfl cv_X12_266 rfl (Nat.le_of_ble_eq_true rfl) (Nat.le_of_ble_eq_true rfl) (m_isTown hI hb) ?_
    refine v_if_ne (pc := 18) 10 23 rfl (by decide) (by omega) (fun e2 => ?_) (fun e2 => ?_)
    · rw [if_pos (by omega)]
      obtain ⟨i, hi, hi2, hw, hw2⟩ := hI.way (a := a) (b := b) (by omega) (by omega)
      refine v_aload_n (pc := 23) 13 rfl rfl ?_
      refine v_getC (pc := 24) 14 rfl fl_X12_76 rfl 76 rfl ?_
      refine v_iconst (pc := 27) 15 rfl ?_
      refine v_iload_n (pc := 28) 16 rfl rfl ?_
      refine v_imul (pc := 29) 17 rfl ?_
      refine v_iload_n (pc := 30) 18 rfl rfl ?_
      refine v_iadd (pc := 31) 19 rfl ?_
      refine v_ialdE (pc := 32) 20 rfl rfl i (by omega) ?_
      rw [hw]
      refine v_sipush (pc := 33) 21 rfl (by decide) ?_
      refine v_ic_lt (pc := 36) 22 44 rfl (by decide) (by omega) (fun e3 => ?_) (fun e3 => ?_)
      · rw [if_neg (by omega)]
        refine v_aload_n (pc := 44) 25 rfl rfl ?_
        refine v_getC (pc := 45) 26 rfl fl_X12_76 rfl 76 rfl ?_
        refine v_iconst (pc := 48) 27 rfl ?_
        refine v_iload_n (pc := 49) 28 rfl rfl ?_
        refine v_imul (pc := 50) 29 rfl ?_
        refine v_iload_n (pc := 51) 30 rfl rfl ?_
        refine v_iadd (pc := 52) 31 rfl ?_
        refine v_ialdE (pc := 53) 32 rfl rfl i (by omega) ?_
        rw [hw]
        refine v_iret (pc := 54) 33 rfl rfl ⟨rfl, rfl⟩
      · rw [if_pos (by omega)]
        refine v_bipush (pc := 39) 23 rfl (by decide) ?_
        refine v_goto (pc := 41) 24 54 rfl (by decide) ?_
        refine v_iret (pc := 54) 33 rfl rfl ⟨rfl, rfl⟩
    · rw [if_neg (by omega)]
      refine v_iconst (pc := 21) 11 rfl ?_
      refine v_iret (pc := 22) 12 rfl rfl ⟨rfl, rfl⟩
theorem m_why (h : MR M A) {k j t : Int} (hk : -2147483648 ≤ k ∧ k ≤ 2147483647) (hj : -2147483648 ≤ j ∧ j ≤ 2147483647) (ht : -2147483648 ≤ t ∧ t ≤ 2147483647) : V G (d + 2) mX12_why 0 [some (.ref 54), some (.int (J k)), some (.int (J j)), some (.int (J t))] [] M (Ret (some (.int (J (sWhy A k j t)))) (sI M 54 0 0)) := by
  have hI := h.t
  have hn := hI.n
  unfold sWhy
  refine v_aload_n (pc := 0) 0 rfl rfl ?_
  refine v_iconst (pc := 1) 1 rfl ?_
  refine v_putI (pc := 2) 2 rfl fl_X12_97 rfl ?_
  refine v_aload_n (pc := 5) 3 rfl rfl ?_
  refine v_iload_n (pc := 6) 4 rfl rfl ?_
  refine v_cV1i (pc := 7) 5 rfl cv_X12_275 rfl (Nat.le_of_ble_eq_true rfl) (Nat.le_of_ble_eq_true rfl) (m_isCase hI hk) ?_
  refine v_if_eq (pc := 10) 6 38 rfl (by decide) (by omega) (fun e1 => ?_) (fun e1 => ?_)
  · rw [if_neg (by omega)]
    refine v_iconst (pc := 38) 20 rfl ?_
    refine v_iret (pc := 39) 21 rfl rfl ⟨rfl, rfl⟩
  · refine v_aload_n (pc := 13) 7 rfl rfl ?_
    refine v_iload_n (pc := 14) 8 rfl rfl ?_
    refine v_cV1i (pc := 15) 9 rfl cv_X12_270 rfl (Nat.le_of_ble_eq_true rfl) (Nat.le_of_ble_eq_true rfl) (m_isJudge hI hj) ?_
    refine v_if_eq (pc := 18) 10 38 rfl (by decide) (by omega) (fun e2 => ?_) (fun e2 => ?_)
    · rw [if_neg (by omega)]
      refine v_iconst (pc := 38) 20 rfl ?_
      refine v_iret (pc := 39) 21 rfl rfl ⟨rfl, rfl⟩
    · refine v_iload_n (pc := 21) 11 rfl rfl ?_
      refine v_cS1i (pc := 22) 12 rfl cs_X12_290 (Nat.le_of_ble_eq_true rfl) (Nat.le_of_ble_eq_true rfl) (m_isDay ht) ?_
      refine v_if_eq (pc := 25) 13 38 rfl (by decide) (by omega) (fun e3 => ?_) (fun e3 => ?_)
      · rw [if_neg (by omega)]
        refine v_iconst (pc := 38) 20 rfl ?_
        refine v_iret (pc := 39) 21 rfl rfl ⟨rfl, rfl⟩
      · rw [if_pos (by omega)]
        obtain ⟨k1, rfl⟩ : ∃ k1 : Nat, k = (k1 : Int) := ⟨k.toNat, by omega⟩
        obtain ⟨j1, rfl⟩ : ∃ j1 : Nat, j = (j1 : Int) := ⟨j.toNat, by omega⟩
        rw [Int.toNat_natCast, Int.toNat_natCast]
        refine v_aload_n (pc := 28) 14 rfl rfl ?_
        refine v_iload_n (pc := 29) 15 rfl rfl ?_
        refine v_iload_n (pc := 30) 16 rfl rfl ?_
        refine v_iload_n (pc := 31) 17 rfl rfl ?_
        refine v_cV3i (pc := 32) 18 rfl cv_X12_293 rfl (Nat.le_of_ble_eq_true rfl) (Nat.le_of_ble_eq_true rfl) (m_whyOf hI (by omega) (by omega) (by omega)) ?_
        refine v_goto (pc := 35) 19 39 rfl (by decide) ?_
        refine v_iret (pc := 39) 21 rfl rfl ⟨rfl, rfl⟩
theorem m_minutes (h : MR M A) {j t : Int} (hj : -2147483648 ≤ j ∧ j ≤ 2147483647) (ht : -2147483648 ≤ t ∧ t ≤ 2147483647) : V G (d + 2) mX12_minutes 0 [some (.ref 54), some (.int (J j)), some (.int (J t))] [] M (Ret (some (.int (J (sMin A j t)))) (sI M 54 0 0)) := by
  have hI := h.t
  have hn := hI.n
  unfold sMin
  refine v_aload_n (pc := 0) 0 rfl rfl ?_
  refine v_iconst (pc := 1) 1 rfl ?_
  refine v_putI (pc := 2) 2 rfl fl_X12_97 rfl ?_
  refine v_aload_n (pc := 5) 3 rfl rfl ?_
  refine v_iload_n (pc := 6) 4 rfl rfl ?_
  refine v_cV1i (pc := 7) 5 rfl cv_X12_270 rfl (Nat.le_of_ble_eq_true rfl) (Nat.le_of_ble_eq_true rfl) (m_isJudge hI hj) ?_
  refine v_if_eq (pc := 10) 6 29 rfl (by decide) (by omega) (fun e1 => ?_) (fun e1 => ?_)
  · rw [if_neg (by omega)]
    refine v_iconst (pc := 29) 15 rfl ?_
    refine v_iret (pc := 30) 16 rfl rfl ⟨rfl, rfl⟩
  · refine v_iload_n (pc := 13) 7 rfl rfl ?_
    refine v_cS1i (pc := 14) 8 rfl cs_X12_290 (Nat.le_of_ble_eq_true rfl) (Nat.le_of_ble_eq_true rfl) (m_isDay ht) ?_
    refine v_if_eq (pc := 17) 9 29 rfl (by decide) (by omega) (fun e2 => ?_) (fun e2 => ?_)
    · rw [if_neg (by omega)]
      refine v_iconst (pc := 29) 15 rfl ?_
      refine v_iret (pc := 30) 16 rfl rfl ⟨rfl, rfl⟩
    · rw [if_pos (by omega)]
      refine v_aload_n (pc := 20) 10 rfl rfl ?_
      refine v_iload_n (pc := 21) 11 rfl rfl ?_
      refine v_iload_n (pc := 22) 12 rfl rfl ?_
      refine v_cV2i (pc := 23) 13 rfl cv_X12_287 rfl (Nat.le_of_ble_eq_true rfl) (Nat.le_of_ble_eq_true rfl) (m_minutesOn hI hj ht) ?_
      refine v_goto (pc := 26) 14 30 rfl (by decide) ?_
      refine v_iret (pc := 30) 16 rfl rfl ⟨rfl, rfl⟩
end MPub
