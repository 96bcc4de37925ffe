/-! 30: the class's public methods -/
def dayB (d : Int) : Prop := 0 ≤ d ∧ d ≤ 60
section Pub
variable {G : Gt} {d : Nat} {M : Mem} {A : Ax} {c c2 : Nat}
theorem CRc.hc (h : CRc M A c c2) : c = 32 ∨ c = 43 := by have := h.1; omega
theorem CRc.nn (h : CRc M A c c2) : gI M c 0 = (nT (aT A) : Int) ∧ gI M c 1 = (nJ (aT A) : Int) ∧ gI M c 2 = (nK (aT A) : Int) ∧ nT (aT A) ≤ 5 ∧ nJ (aT A) ≤ 6 ∧ nK (aT A) ≤ 12 := by
  have := h.2.2.2.1.n
  rw [h.2.2.2.2.1] at this
  exact this
theorem c_isDay {t : Int} (ht : -2147483648 ≤ t ∧ t ≤ 2147483647) : V G d mX11_isDay 0 [some (.int (J t))] [] M (Ret (some (.int (J (if 0 ≤ t ∧ t ≤ 60 then 1 else 0)))) M) := by
  refine v_iload_n (pc := 0) 0 rfl rfl ?_
  refine v_if_lt (pc := 1) 1 14 rfl (by decide) (by omega) (fun e1 => ?_) (fun e1 => ?_)
  · rw [if_neg (by omega)]
    refine v_iconst (pc := 14) 7 rfl ?_
    refine v_zret (pc := 15) 8 rfl rfl (by omega) ⟨rfl, rfl⟩
  · refine v_iload_n (pc := 4) 2 rfl rfl ?_
    refine v_bipush (pc := 5) 3 rfl (by decide) ?_
    refine v_ic_gt (pc := 7) 4 14 rfl (by decide) (by omega) (fun e2 => ?_) (fun e2 => ?_)
    · rw [if_neg (by omega)]
      refine v_iconst (pc := 14) 7 rfl ?_
      refine v_zret (pc := 15) 8 rfl rfl (by omega) ⟨rfl, rfl⟩
    · rw [if_pos (by omega)]
      refine v_iconst (pc := 10) 5 rfl ?_
      refine v_goto (pc := 11) 6 15 rfl (by decide) ?_
      refine v_zret (pc := 15) 8 rfl rfl (by omega) ⟨rfl, rfl⟩
theorem c_mayAsk {t k : Int} (ht : -2147483648 ≤ t ∧ t ≤ 2147483647) (hk : -2147483648 ≤ k ∧ k ≤ 2147483647) : V G (d + 1) mX11_mayAskBest 0 [some (.int (J t)), some (.int (J k))] [] M (Ret (some (.int (J (if (0 ≤ t ∧ t ≤ 60) ∧ (0 ≤ k ∧ k ≤ 5) then 1 else 0)))) M) := by
  refine v_iload_n (pc := 0) 0 rfl rfl ?_
  refine v_cS1i (pc := 1) 1 rfl cs_X11_169 (Nat.le_of_ble_eq_true rfl) (Nat.le_of_ble_eq_true rfl) (c_isDay ht) ?_
  refine v_if_eq (pc := 4) 2 20 rfl (by decide) (by omega) (fun e1 => ?_) (fun e1 => ?_)
  · rw [if_neg (by omega)]
    refine v_iconst (pc := 20) 10 rfl ?_
    refine v_zret (pc := 21) 11 rfl rfl (by omega) ⟨rfl, rfl⟩
  · refine v_iload_n (pc := 7) 3 rfl rfl ?_
    refine v_if_lt (pc := 8) 4 20 rfl (by decide) (by omega) (fun e2 => ?_) (fun e2 => ?_)
    · rw [if_neg (by omega)]
      refine v_iconst (pc := 20) 10 rfl ?_
      refine v_zret (pc := 21) 11 rfl rfl (by omega) ⟨rfl, rfl⟩
    · refine v_iload_n (pc := 11) 5 rfl rfl ?_
      refine v_iconst (pc := 12) 6 rfl ?_
      refine v_ic_gt (pc := 13) 7 20 rfl (by decide) (by omega) (fun e3 => ?_) (fun e3 => ?_)
      · rw [if_neg (by omega)]
        refine v_iconst (pc := 20) 10 rfl ?_
        refine v_zret (pc := 21) 11 rfl rfl (by omega) ⟨rfl, rfl⟩
      · rw [if_pos (by omega)]
        refine v_iconst (pc := 16) 8 rfl ?_
        refine v_goto (pc := 17) 9 21 rfl (by decide) ?_
        refine v_zret (pc := 21) 11 rfl rfl (by omega) ⟨rfl, rfl⟩
def sTravel (A : Ax) (a b : Int) : Int := if (0 ≤ a ∧ a < nT (aT A)) ∧ (0 ≤ b ∧ b < nT (aT A)) then (if 1000 ≤ wy (aT A) a b then -2 else wy (aT A) a b) else -1
theorem c_travel (h : CRc M A c c2) {a b : Int} (ha : -2147483648 ≤ a ∧ a ≤ 2147483647) (hb : -2147483648 ≤ b ∧ b ≤ 2147483647) : V G (d + 1) mX11_travel 0 [some (.ref 0), some (.int (J a)), some (.int (J b)), none] [] M (Ret (some (.int (J (sTravel A a b)))) M) := by
  have hc := h.hc
  have hto := h.2.1
  have hn := h.nn
  have hI := h.2.2.2.1
  unfold sTravel
  refine v_aload_n (pc := 0) 0 rfl rfl ?_
  refine v_getR (pc := 1) 1 rfl fl_X11_20 rfl _ hto ?_
  refine v_iload_n (pc := 4) 2 rfl rfl ?_
  refine v_cV1i (pc := 5) 3 rfl cv_X11_108 (shC hc) (Nat.le_of_ble_eq_true rfl) (Nat.le_of_ble_eq_true rfl) (c_hasTown hc (by omega) ha) ?_
  refine v_if_eq (pc := 8) 4 22 rfl (by decide) (by omega) (fun e1 => ?_) (fun e1 => ?_)
  · rw [if_neg (by omega)]
    refine v_iconst (pc := 22) 10 rfl ?_
    refine v_iret (pc := 23) 11 rfl rfl ⟨rfl, rfl⟩
  · refine v_aload_n (pc := 11) 5 rfl rfl ?_
    refine v_getR (pc := 12) 6 rfl fl_X11_20 rfl _ hto ?_
    refine v_iload_n (pc := 15) 7 rfl rfl ?_
    refine v_cV1i (pc := 16) 8 rfl cv_X11_108 (shC hc) (Nat.le_of_ble_eq_true rfl) (Nat.le_of_ble_eq_true rfl) (c_hasTown hc (by omega) hb) ?_
    refine v_if_ne (pc := 19) 9 24 rfl (by decide) (by omega) (fun e2 => ?_) (fun e2 => ?_)
    · rw [if_pos (by omega)]
      have hw : 0 ≤ wy (aT A) a b ∧ wy (aT A) a b ≤ 1000 := h.2.2.2.2.2.2.2.2.2.1.2.2.2.2.2 a b (by omega) (by omega) (by omega) (by omega)
      have ew : gI M (c + 1) (a * 5 + b).toNat = wy (aT A) a b := congrArg (fun T : Tx => wy T a b) h.2.2.2.2.1
      have cl := c_way (G := G) (d := d) (M := M) hc (a := a) (b := b) (by omega)
      rw [ew] at cl
      refine v_aload_n (pc := 24) 12 rfl rfl ?_
      refine v_getR (pc := 25) 13 rfl fl_X11_20 rfl _ hto ?_
      refine v_iload_n (pc := 28) 14 rfl rfl ?_
      refine v_iload_n (pc := 29) 15 rfl rfl ?_
      refine v_cV2i (pc := 30) 16 rfl cv_X11_112 (shC hc) (Nat.le_of_ble_eq_true rfl) (Nat.le_of_ble_eq_true rfl) (cl) ?_
      refine v_istore_n (pc := 33) 17 rfl ⟨Nat.le_of_ble_eq_true rfl, rfl⟩ ?_
      refine v_iload_n (pc := 34) 18 rfl rfl ?_
      refine v_sipush (pc := 35) 19 rfl (by decide) ?_
      refine v_ic_lt (pc := 38) 20 46 rfl (by decide) (by omega) (fun e3 => ?_) (fun e3 => ?_)
      · rw [if_neg (by omega)]
        refine v_iload_n (pc := 46) 23 rfl rfl ?_
        refine v_iret (pc := 47) 24 rfl rfl ⟨rfl, rfl⟩
      · rw [if_pos (by omega)]
        refine v_bipush (pc := 41) 21 rfl (by decide) ?_
        refine v_goto (pc := 43) 22 47 rfl (by decide) ?_
        refine v_iret (pc := 47) 24 rfl rfl ⟨rfl, rfl⟩
    · rw [if_neg (by omega)]
      refine v_iconst (pc := 22) 10 rfl ?_
      refine v_iret (pc := 23) 11 rfl rfl ⟨rfl, rfl⟩
def sWhy (A : Ax) (k j t : Int) : Int := if (0 ≤ k ∧ k < nK (aT A)) ∧ (0 ≤ j ∧ j < nJ (aT A)) ∧ (0 ≤ t ∧ t ≤ 60) then whyS (aT A) (aS A) k.toNat j.toNat t else -1
theorem c_why (h : CRc M A c c2) {k j t : Int} (hk : -2147483648 ≤ k ∧ k ≤ 2147483647) (hj : -2147483648 ≤ j ∧ j ≤ 2147483647) (ht : -2147483648 ≤ t ∧ t ≤ 2147483647) : V G (d + 3) mX11_why 0 [some (.ref 0), some (.int (J k)), some (.int (J j)), some (.int (J t))] [] M (Ret (some (.int (J (sWhy A k j t)))) M) := by
  have hc := h.hc
  have hto := h.2.1
  have hn := h.nn
  have hI := h.2.2.2.1
  unfold sWhy
  refine v_aload_n (pc := 0) 0 rfl rfl ?_
  refine v_getR (pc := 1) 1 rfl fl_X11_20 rfl _ hto ?_
  refine v_iload_n (pc := 4) 2 rfl rfl ?_
  refine v_cV1i (pc := 5) 3 rfl cv_X11_141 (shC hc) (Nat.le_of_ble_eq_true rfl) (Nat.le_of_ble_eq_true rfl) (c_hasCase hc (by omega) hk) ?_
  refine v_if_eq (pc := 8) 4 29 rfl (by decide) (by omega) (fun e1 => ?_) (fun e1 => ?_)
  · rw [if_neg (by omega)]
    refine v_iconst (pc := 29) 13 rfl ?_
    refine v_iret (pc := 30) 14 rfl rfl ⟨rfl, rfl⟩
  · refine v_aload_n (pc := 11) 5 rfl rfl ?_
    refine v_getR (pc := 12) 6 rfl fl_X11_20 rfl _ hto ?_
    refine v_iload_n (pc := 15) 7 rfl rfl ?_
    refine v_cV1i (pc := 16) 8 rfl cv_X11_116 (shC hc) (Nat.le_of_ble_eq_true rfl) (Nat.le_of_ble_eq_true rfl) (c_hasJudge hc (by omega) hj) ?_
    refine v_if_eq (pc := 19) 9 29 rfl (by decide) (by omega) (fun e2 => ?_) (fun e2 => ?_)
    · rw [if_neg (by omega)]
      refine v_iconst (pc := 29) 13 rfl ?_
      refine v_iret (pc := 30) 14 rfl rfl ⟨rfl, rfl⟩
    · refine v_iload_n (pc := 22) 10 rfl rfl ?_
      refine v_cS1i (pc := 23) 11 rfl cs_X11_169 (Nat.le_of_ble_eq_true rfl) (Nat.le_of_ble_eq_true rfl) (c_isDay ht) ?_
      refine v_if_ne (pc := 26) 12 31 rfl (by decide) (by omega) (fun e3 => ?_) (fun e3 => ?_)
      · rw [if_pos (by omega)]
        obtain ⟨k1, rfl⟩ : ∃ k1 : Nat, k = (k1 : Int) := ⟨k.toNat, by omega⟩
        obtain ⟨j1, rfl⟩ : ∃ j1 : Nat, j = (j1 : Int) := ⟨j.toNat, by omega⟩
        have cl := c_whyNot (G := G) (d := d) hI (k := k1) (j := j1) (dd := t) (by rw [h.2.2.2.2.1]; omega) (by rw [h.2.2.2.2.1]; omega) (by omega)
        rw [h.2.2.2.2.1, h.2.2.2.2.2.1] at cl
        rw [Int.toNat_natCast, Int.toNat_natCast]
        refine v_aload_n (pc := 31) 15 rfl rfl ?_
        refine v_getC (pc := 32) 16 rfl fl_X11_41 rfl 8 rfl ?_
        refine v_iload_n (pc := 35) 17 rfl rfl ?_
        refine v_iload_n (pc := 36) 18 rfl rfl ?_
        refine v_iload_n (pc := 37) 19 rfl rfl ?_
        refine v_cV3i (pc := 38) 20 rfl cv_X11_172 rfl (Nat.le_of_ble_eq_true rfl) (Nat.le_of_ble_eq_true rfl) (cl) ?_
        refine v_iret (pc := 41) 21 rfl rfl ⟨rfl, rfl⟩
      · rw [if_neg (by omega)]
        refine v_iconst (pc := 29) 13 rfl ?_
        refine v_iret (pc := 30) 14 rfl rfl ⟨rfl, rfl⟩
theorem c_beg (h : CRc M A c c2) : V G (d + 2) mX0_begin 0 [some (.ref 29)] [] M (Ret none (begM M)) := by
  obtain ⟨u1, u2, u3, u4⟩ := h.2.2.2.2.2.2.2.1
  exact c_begin u1 (by omega)
def sSet (A : Ax) (k j t : Int) : Int × Ax := if sWhy A k j t = 0 then (1, ((begA A).1, aT A, setS (aS A) k.toNat j t, aU (begA A), aK A)) else (0, A)
theorem sWhy_0 {k j t : Int} (h : sWhy A k j t = 0) : (0 ≤ k ∧ k < nK (aT A)) ∧ (0 ≤ j ∧ j < nJ (aT A)) ∧ (0 ≤ t ∧ t ≤ 60) := by
  unfold sWhy at h
  by_cases q : (0 ≤ k ∧ k < nK (aT A)) ∧ (0 ≤ j ∧ j < nJ (aT A)) ∧ (0 ≤ t ∧ t ≤ 60)
  · exact q
  · rw [if_neg q] at h; omega
theorem sWhy_b (A : Ax) (k j t : Int) : -1 ≤ sWhy A k j t ∧ sWhy A k j t ≤ 7 := by
  unfold sWhy
  have := whyS_b (aT A) (aS A) k.toNat j.toNat t
  split <;> omega
/-- the sittings set anew, behind an act that has begun -/
theorem CRc.pl (h : CRc M A c c2) {k : Nat} {j t : Int} (hk : k < nK (aT A)) (hj : 0 ≤ j ∧ j < nJ (aT A)) (ht : 0 ≤ t ∧ t ≤ 60) : CRc (plM M k j t) (A.1, aT A, setS (aS A) k j t, aU A, aK A) c c2 := by
  have h12 := h.nn
  refine h.chS (by rw [plM_s, h.2.2.2.2.2.1]) (h.2.2.2.2.2.2.2.2.2.2.1.1.set (Or.inr ⟨hk, hj, ht⟩)) (h.2.2.2.2.2.2.2.2.2.2.1.2.set (by omega) _ _) (fun q hq => plM_ne (by omega)) rfl
theorem CRc.rm (h : CRc M A c c2) {k : Nat} (hk : k < 12) : CRc (plM M k (-1) (-1)) (A.1, aT A, setS (aS A) k (-1) (-1), aU A, aK A) c c2 := by
  refine h.chS (by rw [plM_s, h.2.2.2.2.2.1]) (h.2.2.2.2.2.2.2.2.2.2.1.1.set (Or.inl ⟨rfl, rfl⟩)) (h.2.2.2.2.2.2.2.2.2.2.1.2.set hk _ _) (fun q hq => plM_ne (by omega)) rfl
theorem pl_cf (M : Mem) (k : Nat) (j t : Int) : CF M (plM M k j t) := fun q hq => ⟨plM_ne (by omega), rfl⟩
theorem c_set (h : CRc M A c c2) {k j t : Int} (hk : -2147483648 ≤ k ∧ k ≤ 2147483647) (hj : -2147483648 ≤ j ∧ j ≤ 2147483647) (ht : -2147483648 ≤ t ∧ t ≤ 2147483647) : V G (d + 4) mX11_set 0 [some (.ref 0), some (.int (J k)), some (.int (J j)), some (.int (J t))] [] M (fun r N => r = some (.int (J (sSet A k j t).1)) ∧ CRc N (sSet A k j t).2 c c2 ∧ CF M N) := by
  have hb := sWhy_b A k j t
  have hn := h.nn
  unfold sSet
  refine v_aload_n (pc := 0) 0 rfl rfl ?_
  refine v_iload_n (pc := 1) 1 rfl rfl ?_
  refine v_iload_n (pc := 2) 2 rfl rfl ?_
  refine v_iload_n (pc := 3) 3 rfl rfl ?_
  refine v_cV3i (pc := 4) 4 rfl cv_X11_176 rfl (Nat.le_of_ble_eq_true rfl) (Nat.le_of_ble_eq_true rfl) (c_why h hk hj ht) ?_
  refine v_if_eq (pc := 7) 5 12 rfl (by decide) (by omega) (fun e1 => ?_) (fun e1 => ?_)
  · obtain ⟨q1, q2, q3⟩ := sWhy_0 e1
    rw [if_pos e1]
    obtain ⟨k1, rfl⟩ : ∃ k1 : Nat, k = (k1 : Int) := ⟨k.toNat, by omega⟩
    rw [Int.toNat_natCast]
    have hB := (beg_cr h).pl (k := k1) (j := j) (t := t) (by show k1 < nK (aT A); omega) q2 q3
    refine v_aload_n (pc := 12) 8 rfl rfl ?_
    refine v_getC (pc := 13) 9 rfl fl_X11_71 rfl 29 rfl ?_
    refine v_cV0v (pc := 16) 10 rfl cv_X11_179 rfl (Nat.le_of_ble_eq_true rfl) (Nat.le_of_ble_eq_true rfl) (c_beg h) ?_
    refine v_aload_n (pc := 19) 11 rfl rfl ?_
    refine v_getC (pc := 20) 12 rfl fl_X11_41 rfl 8 rfl ?_
    refine v_iload_n (pc := 23) 13 rfl rfl ?_
    refine v_iload_n (pc := 24) 14 rfl rfl ?_
    refine v_iload_n (pc := 25) 15 rfl rfl ?_
    refine v_cV3v (pc := 26) 16 rfl cv_X11_182 rfl (Nat.le_of_ble_eq_true rfl) (Nat.le_of_ble_eq_true rfl) (c_place (by omega) _ _) ?_
    refine v_iconst (pc := 29) 17 rfl ?_
    refine v_zret (pc := 30) 18 rfl rfl (by omega) ⟨rfl, hB, (beg_cf M).trans (pl_cf _ _ _ _)⟩
  · rw [if_neg e1]
    refine v_iconst (pc := 10) 6 rfl ?_
    refine v_zret (pc := 11) 7 rfl rfl (by omega) ⟨rfl, h, CF.rfl9 M⟩
def sClear (A : Ax) (k : Int) : Int × Ax := if (0 ≤ k ∧ k < nK (aT A)) ∧ (aS A).1 k.toNat ≠ -1 then ((aS A).2 k.toNat, ((begA A).1, aT A, setS (aS A) k.toNat (-1) (-1), aU (begA A), aK A)) else (-1, A)
theorem c_clear (h : CRc M A c c2) {k : Int} (hk : -2147483648 ≤ k ∧ k ≤ 2147483647) : V G (d + 3) mX11_clear 0 [some (.ref 0), some (.int (J k)), none] [] M (fun r N => r = some (.int (J (sClear A k).1)) ∧ CRc N (sClear A k).2 c c2 ∧ CF M N) := by
  have hc := h.hc
  have hto := h.2.1
  have hn := h.nn
  have hS := h.2.2.2.2.2.2.2.2.2.2.1.1
  have hT := h.2.2.2.2.2.2.2.2.2.1
  have e9 : gI M 9 = (aS A).1 := by rw [← h.2.2.2.2.2.1]
  have e10 : gI M 10 = (aS A).2 := by rw [← h.2.2.2.2.2.1]
  unfold sClear
  refine v_aload_n (pc := 0) 0 rfl rfl ?_
  refine v_getR (pc := 1) 1 rfl fl_X11_20 rfl _ hto ?_
  refine v_iload_n (pc := 4) 2 rfl rfl ?_
  refine v_cV1i (pc := 5) 3 rfl cv_X11_141 (shC hc) (Nat.le_of_ble_eq_true rfl) (Nat.le_of_ble_eq_true rfl) (c_hasCase hc (by omega) hk) ?_
  refine v_if_eq (pc := 8) 4 22 rfl (by decide) (by omega) (fun e1 => ?_) (fun e1 => ?_)
  · rw [if_neg (by omega)]
    refine v_iconst (pc := 22) 10 rfl ?_
    refine v_iret (pc := 23) 11 rfl rfl ⟨rfl, h, CF.rfl9 M⟩
  · obtain ⟨k1, rfl⟩ : ∃ k1 : Nat, k = (k1 : Int) := ⟨k.toNat, by omega⟩
    have hb := hS.b hT (k := k1) (by omega)
    rw [Int.toNat_natCast]
    refine v_aload_n (pc := 11) 5 rfl rfl ?_
    refine v_getC (pc := 12) 6 rfl fl_X11_41 rfl 8 rfl ?_
    refine v_iload_n (pc := 15) 7 rfl rfl ?_
    refine v_cV1i (pc := 16) 8 rfl cv_X11_186 rfl (Nat.le_of_ble_eq_true rfl) (Nat.le_of_ble_eq_true rfl) (c_hasSitting (by omega) (by rw [e9]; omega)) ?_
    rw [e9]
    refine v_if_ne (pc := 19) 9 24 rfl (by decide) (by omega) (fun e2 => ?_) (fun e2 => ?_)
    · rw [if_pos ⟨by omega, by omega⟩]
      have hB := (beg_cr h).rm (k := k1) (by omega)
      refine v_aload_n (pc := 24) 12 rfl rfl ?_
      refine v_getC (pc := 25) 13 rfl fl_X11_41 rfl 8 rfl ?_
      refine v_getC (pc := 28) 14 rfl fl_X11_164 rfl 10 rfl ?_
      refine v_iload_n (pc := 31) 15 rfl rfl ?_
      refine v_ialdN (pc := 32) 16 rfl rfl (by omega) ?_
      refine v_istore_n (pc := 33) 17 rfl ⟨Nat.le_of_ble_eq_true rfl, rfl⟩ ?_
      refine v_aload_n (pc := 34) 18 rfl rfl ?_
      refine v_getC (pc := 35) 19 rfl fl_X11_71 rfl 29 rfl ?_
      refine v_cV0v (pc := 38) 20 rfl cv_X11_179 rfl (Nat.le_of_ble_eq_true rfl) (Nat.le_of_ble_eq_true rfl) (c_beg h) ?_
      refine v_aload_n (pc := 41) 21 rfl rfl ?_
      refine v_getC (pc := 42) 22 rfl fl_X11_41 rfl 8 rfl ?_
      refine v_iload_n (pc := 45) 23 rfl rfl ?_
      refine v_cV1v (pc := 46) 24 rfl cv_X11_189 rfl (Nat.le_of_ble_eq_true rfl) (Nat.le_of_ble_eq_true rfl) (c_remove (by omega)) ?_
      refine v_iload_n (pc := 49) 25 rfl rfl ?_
      rw [e10]
      refine v_iret (pc := 50) 26 rfl rfl ⟨rfl, hB, (beg_cf M).trans (pl_cf _ _ _ _)⟩
    · rw [if_neg (by omega)]
      refine v_iconst (pc := 22) 10 rfl ?_
      refine v_iret (pc := 23) 11 rfl rfl ⟨rfl, h, CF.rfl9 M⟩
def sSits (A : Ax) (j t : Int) : Int := if (0 ≤ j ∧ j < nJ (aT A)) ∧ (0 ≤ t ∧ t ≤ 60) then fst (fun k => decide ((aS A).1 k = j ∧ (aS A).2 k = t)) (tw (aT A)) (nK (aT A)) else -2
theorem c_sits (h : CRc M A c c2) {j t : Int} (hj : -2147483648 ≤ j ∧ j ≤ 2147483647) (ht : -2147483648 ≤ t ∧ t ≤ 2147483647) : V G (d + 1) mX11_sits 0 [some (.ref 0), some (.int (J j)), some (.int (J t))] [] M (Ret (some (.int (J (sSits A j t)))) M) := by
  have hc := h.hc
  have hto := h.2.1
  have hn := h.nn
  have hI := h.2.2.2.1
  unfold sSits
  refine v_aload_n (pc := 0) 0 rfl rfl ?_
  refine v_getR (pc := 1) 1 rfl fl_X11_20 rfl _ hto ?_
  refine v_iload_n (pc := 4) 2 rfl rfl ?_
  refine v_cV1i (pc := 5) 3 rfl cv_X11_116 (shC hc) (Nat.le_of_ble_eq_true rfl) (Nat.le_of_ble_eq_true rfl) (c_hasJudge hc (by omega) hj) ?_
  refine v_if_eq (pc := 8) 4 18 rfl (by decide) (by omega) (fun e1 => ?_) (fun e1 => ?_)
  · rw [if_neg (by omega)]
    refine v_bipush (pc := 18) 8 rfl (by decide) ?_
    refine v_iret (pc := 20) 9 rfl rfl ⟨rfl, rfl⟩
  · refine v_iload_n (pc := 11) 5 rfl rfl ?_
    refine v_cS1i (pc := 12) 6 rfl cs_X11_169 (Nat.le_of_ble_eq_true rfl) (Nat.le_of_ble_eq_true rfl) (c_isDay ht) ?_
    refine v_if_ne (pc := 15) 7 21 rfl (by decide) (by omega) (fun e2 => ?_) (fun e2 => ?_)
    · rw [if_pos (by omega)]
      have cl := c_townOn (G := G) (d := d) hI hj ht
      rw [h.2.2.2.2.1, h.2.2.2.2.2.1] at cl
      refine v_aload_n (pc := 21) 10 rfl rfl ?_
      refine v_getC (pc := 22) 11 rfl fl_X11_41 rfl 8 rfl ?_
      refine v_iload_n (pc := 25) 12 rfl rfl ?_
      refine v_iload_n (pc := 26) 13 rfl rfl ?_
      refine v_cV2i (pc := 27) 14 rfl cv_X11_192 rfl (Nat.le_of_ble_eq_true rfl) (Nat.le_of_ble_eq_true rfl) (cl) ?_
      refine v_iret (pc := 30) 15 rfl rfl ⟨rfl, rfl⟩
    · rw [if_neg (by omega)]
      refine v_bipush (pc := 18) 8 rfl (by decide) ?_
      refine v_iret (pc := 20) 9 rfl rfl ⟨rfl, rfl⟩
def sMin (A : Ax) (j t : Int) : Int := if (0 ≤ j ∧ j < nJ (aT A)) ∧ (0 ≤ t ∧ t ≤ 60) then mi (aT A) (aS A) j t (nK (aT A)) else -1
theorem c_minutes (h : CRc M A c c2) {j t : Int} (hj : -2147483648 ≤ j ∧ j ≤ 2147483647) (ht : -2147483648 ≤ t ∧ t ≤ 2147483647) : V G (d + 1) mX11_minutes 0 [some (.ref 0), some (.int (J j)), some (.int (J t))] [] M (Ret (some (.int (J (sMin A j t)))) M) := by
  have hc := h.hc
  have hto := h.2.1
  have hn := h.nn
  have hI := h.2.2.2.1
  unfold sMin
  refine v_aload_n (pc := 0) 0 rfl rfl ?_
  refine v_getR (pc := 1) 1 rfl fl_X11_20 rfl _ hto ?_
  refine v_iload_n (pc := 4) 2 rfl rfl ?_
  refine v_cV1i (pc := 5) 3 rfl cv_X11_116 (shC hc) (Nat.le_of_ble_eq_true rfl) (Nat.le_of_ble_eq_true rfl) (c_hasJudge hc (by omega) hj) ?_
  refine v_if_eq (pc := 8) 4 18 rfl (by decide) (by omega) (fun e1 => ?_) (fun e1 => ?_)
  · rw [if_neg (by omega)]
    refine v_iconst (pc := 18) 8 rfl ?_
    refine v_iret (pc := 19) 9 rfl rfl ⟨rfl, rfl⟩
  · refine v_iload_n (pc := 11) 5 rfl rfl ?_
    refine v_cS1i (pc := 12) 6 rfl cs_X11_169 (Nat.le_of_ble_eq_true rfl) (Nat.le_of_ble_eq_true rfl) (c_isDay ht) ?_
    refine v_if_ne (pc := 15) 7 20 rfl (by decide) (by omega) (fun e2 => ?_) (fun e2 => ?_)
    · rw [if_pos (by omega)]
      have cl := c_minutesOn (G := G) (d := d) hI hj ht
      rw [h.2.2.2.2.1, h.2.2.2.2.2.1] at cl
      refine v_aload_n (pc := 20) 10 rfl rfl ?_
      refine v_getC (pc := 21) 11 rfl fl_X11_41 rfl 8 rfl ?_
      refine v_iload_n (pc := 24) 12 rfl rfl ?_
      refine v_iload_n (pc := 25) 13 rfl rfl ?_
      refine v_cV2i (pc := 26) 14 rfl cv_X11_195 rfl (Nat.le_of_ble_eq_true rfl) (Nat.le_of_ble_eq_true rfl) (cl) ?_
      refine v_iret (pc := 29) 15 rfl rfl ⟨rfl, rfl⟩
    · rw [if_neg (by omega)]
      refine v_iconst (pc := 18) 8 rfl ?_
      refine v_iret (pc := 19) 9 rfl rfl ⟨rfl, rfl⟩
theorem a11_cf (M : Mem) (f : Nat → Int) : CF M (aI M 11 f) := fun q hq => ⟨gI_aI_ne (by omega), rfl⟩
theorem CRc.s11 (h : CRc M A c c2) (f : Nat → Int) : CRc (aI M 11 f) A c c2 := h.same (fun q hq => gI_aI_ne (by omega)) rfl
def sOpen (A : Ax) (t k : Int) : Int := if 0 ≤ t ∧ t ≤ 60 then (if k = -1 then ((opN (aT A) (aS A) t (nK (aT A))).length : Int) else if 0 ≤ k ∧ k < (opN (aT A) (aS A) t (nK (aT A))).length then (((opN (aT A) (aS A) t (nK (aT A))).getD k.toNat 0 : Nat) : Int) else -2) else -2
theorem c_open (h : CRc M A c c2) {t k : Int} (ht : -2147483648 ≤ t ∧ t ≤ 2147483647) (hk : -2147483648 ≤ k ∧ k ≤ 2147483647) : V G (d + 2) mX11_open 0 [some (.ref 0), some (.int (J t)), some (.int (J k)), none] [] M (fun r N => r = some (.int (J (sOpen A t k))) ∧ CRc N A c c2 ∧ CF M N) := by
  have hn := h.nn
  have hI := h.2.2.2.1
  have hT := h.2.2.2.2.2.2.2.2.2.1
  unfold sOpen
  refine v_iload_n (pc := 0) 0 rfl rfl ?_
  refine v_cS1i (pc := 1) 1 rfl cs_X11_169 (Nat.le_of_ble_eq_true rfl) (Nat.le_of_ble_eq_true rfl) (c_isDay ht) ?_
  refine v_if_ne (pc := 4) 2 10 rfl (by decide) (by omega) (fun e1 => ?_) (fun e1 => ?_)
  · rw [if_pos (by omega)]
    have cl := c_listOpen (G := G) (d := d) hI (dd := t) (by omega)
    rw [h.2.2.2.2.1, h.2.2.2.2.2.1] at cl
    have hlen := op_len hT (aS A) (d := t) (by omega)
    refine v_aload_n (pc := 10) 5 rfl rfl ?_
    refine v_getC (pc := 11) 6 rfl fl_X11_41 rfl 8 rfl ?_
    refine v_iload_n (pc := 14) 7 rfl rfl ?_
    refine v_cV1 (pc := 15) 8 rfl cv_X11_198 rfl (Nat.le_of_ble_eq_true rfl) (Nat.le_of_ble_eq_true rfl) (cl) (fun r9 N9 hq9 => ?_)
    obtain ⟨f, rfl, rfl, hf⟩ := hq9
    show V G (d + 2) mX11_open (15 + 3) _ [.int (J ((opN (aT A) (aS A) t (nK (aT A))).length : Int))] _ _
    refine v_istore_n (pc := 18) 9 rfl ⟨Nat.le_of_ble_eq_true rfl, rfl⟩ ?_
    refine v_iload_n (pc := 19) 10 rfl rfl ?_
    refine v_iconst (pc := 20) 11 rfl ?_
    refine v_ic_ne (pc := 21) 12 26 rfl (by decide) (by omega) (fun e2 => ?_) (fun e2 => ?_)
    · rw [if_neg e2]
      refine v_iload_n (pc := 26) 15 rfl rfl ?_
      refine v_if_lt (pc := 27) 16 47 rfl (by decide) (by omega) (fun e3 => ?_) (fun e3 => ?_)
      · rw [if_neg (by omega)]
        refine v_bipush (pc := 47) 26 rfl (by decide) ?_
        refine v_iret (pc := 49) 27 rfl rfl ⟨rfl, h.s11 f, a11_cf M f⟩
      · refine v_iload_n (pc := 30) 17 rfl rfl ?_
        refine v_iload_n (pc := 31) 18 rfl rfl ?_
        refine v_ic_ge (pc := 32) 19 47 rfl (by decide) (by omega) (fun e4 => ?_) (fun e4 => ?_)
        · rw [if_neg (by omega)]
          refine v_bipush (pc := 47) 26 rfl (by decide) ?_
          refine v_iret (pc := 49) 27 rfl rfl ⟨rfl, h.s11 f, a11_cf M f⟩
        · rw [if_pos (by omega)]
          obtain ⟨k1, rfl⟩ : ∃ k1 : Nat, k = (k1 : Int) := ⟨k.toNat, by omega⟩
          have ev : gI (aI M 11 f) 11 k1 = (((opN (aT A) (aS A) t (nK (aT A))).getD k1 0 : Nat) : Int) := by rw [gI_aI, if_pos rfl]; exact rep_get hf (by omega)
          rw [Int.toNat_natCast]
          refine v_aload_n (pc := 35) 20 rfl rfl ?_
          refine v_getC (pc := 36) 21 rfl fl_X11_41 rfl 8 rfl ?_
          refine v_getC (pc := 39) 22 rfl fl_X11_202 rfl 11 rfl ?_
          refine v_iload_n (pc := 42) 23 rfl rfl ?_
          refine v_ialdN (pc := 43) 24 rfl rfl (by omega) ?_
          rw [ev]
          refine v_goto (pc := 44) 25 49 rfl (by decide) ?_
          refine v_iret (pc := 49) 27 rfl rfl ⟨rfl, h.s11 f, a11_cf M f⟩
    · rw [if_pos (Decidable.not_not.mp e2)]
      refine v_iload_n (pc := 24) 13 rfl rfl ?_
      refine v_iret (pc := 25) 14 rfl rfl ⟨rfl, h.s11 f, a11_cf M f⟩
  · rw [if_neg (by omega)]
    refine v_bipush (pc := 7) 3 rfl (by decide) ?_
    refine v_iret (pc := 9) 4 rfl rfl ⟨rfl, h, CF.rfl9 M⟩
end Pub
