/-! 40: judge, file, owed, where they answer -/
def judOk (A : Ax) (j w : Int) : Prop := (0 ≤ j ∧ j < nJ (aT A)) ∧ (0 ≤ w ∧ w ≤ 3)
def sJud (A : Ax) (j w : Int) : Int := if w = 0 then hm (aT A) j.toNat else if w = 1 then da (aT A) j.toNat else if w = 2 then ss (aT A) j.toNat else qu (aT A) j.toNat
def filOk (A : Ax) (k w : Int) : Prop := (0 ≤ k ∧ k < nK (aT A)) ∧ (0 ≤ w ∧ w ≤ 6)
def sFil (A : Ax) (k w : Int) : Int := if w = 0 then tw (aT A) k.toNat else if w = 1 then so (aT A) k.toNat else if w = 2 then fi (aT A) k.toNat else if w = 3 then le (aT A) k.toNat else if w = 4 then ba (aT A) k.toNat else if w = 5 then (aS A).1 k.toNat else (aS A).2 k.toNat
def owOk (A : Ax) (t : Int) : Prop := 0 ≤ t ∧ t < nT (aT A)
def sOw (A : Ax) (t : Int) : Int := ow (aT A) (aS A) t.toNat (nT (aT A))
section Gets
variable {G : Gt} {d : Nat} {M N : Mem} {A : Ax} {c c2 : Nat}
theorem CRc.arr (h : CRc M A c c2) (j : Nat) (i : Nat) (hj : 1 ≤ j ∧ j ≤ 10) : gI M (c + j) i = (aT A).2 j i := by
  have e : tAt M c j i = (aT A).2 j i := congrArg (fun T : Tx => T.2 j i) h.eT
  rw [← e]
  rcases (by omega : j = 1 ∨ j = 2 ∨ j = 3 ∨ j = 4 ∨ j = 5 ∨ j = 6 ∨ j = 7 ∨ j = 8 ∨ j = 9 ∨ j = 10) with rfl | rfl | rfl | rfl | rfl | rfl | rfl | rfl | rfl | rfl <;> rfl
theorem c_judge (h : CRc M A c c2) {j w : Int} (hq : judOk A j w) : V G (d + 1) mX11_judge 0 [some (.ref 0), some (.int (J j)), some (.int (J w))] [] M (Ret (some (.int (J (sJud A j w)))) M) := by
  obtain ⟨hj, hw⟩ := hq
  have hc := h.hc
  have hto := h.2.1
  have hn := h.nn
  obtain ⟨j1, rfl⟩ : ∃ j1 : Nat, j = (j1 : Int) := ⟨j.toNat, by omega⟩
  have h6 := h.tok.2.1
  unfold sJud
  rw [Int.toNat_natCast]
  have a2 := h.arr 2 j1 (by decide)
  have a3 := h.arr 3 j1 (by decide)
  have a4 := h.arr 4 j1 (by decide)
  have a5 := h.arr 5 j1 (by decide)
  rcases (by omega : w = 0 ∨ w = 1 ∨ w = 2 ∨ w = 3) with rfl | rfl | rfl | rfl
  · refine v_aload_n (pc := 0) 0 rfl rfl ?_
    refine v_getR (pc := 1) 1 rfl fl_X11_20 rfl _ hto ?_
    refine v_iload_n (pc := 4) 2 rfl rfl ?_
    refine v_cV1i (pc := 5) 3 rfl cv_X11_116 (shC hc) (Nat.le_of_ble_eq_true rfl) (Nat.le_of_ble_eq_true rfl) (c_hasJudge hc (by omega) (by omega)) ?_
    refine v_if_neT (pc := 8) 4 21 rfl (by decide) (by omega) (by omega) ?_
    refine v_iload_n (pc := 21) 10 rfl rfl ?_
    refine v_tswIn (pc := 22) 11 52 rfl (by decide) rfl (by decide) ?_
    refine v_aload_n (pc := 52) 12 rfl rfl ?_
    refine v_getR (pc := 53) 13 rfl fl_X11_20 rfl _ hto ?_
    refine v_getC (pc := 56) 14 rfl fl_X11_126 (shC hc) _ (rtC_4 hc) ?_
    refine v_iload_n (pc := 59) 15 rfl rfl ?_
    refine v_ialdN (pc := 60) 16 rfl (shC_4 hc) (by omega) ?_
    rw [a2]
    refine v_iret (pc := 61) 17 rfl rfl ⟨rfl, rfl⟩
  · refine v_aload_n (pc := 0) 0 rfl rfl ?_
    refine v_getR (pc := 1) 1 rfl fl_X11_20 rfl _ hto ?_
    refine v_iload_n (pc := 4) 2 rfl rfl ?_
    refine v_cV1i (pc := 5) 3 rfl cv_X11_116 (shC hc) (Nat.le_of_ble_eq_true rfl) (Nat.le_of_ble_eq_true rfl) (c_hasJudge hc (by omega) (by omega)) ?_
    refine v_if_neT (pc := 8) 4 21 rfl (by decide) (by omega) (by omega) ?_
    refine v_iload_n (pc := 21) 10 rfl rfl ?_
    refine v_tswIn (pc := 22) 11 62 rfl (by decide) rfl (by decide) ?_
    refine v_aload_n (pc := 62) 18 rfl rfl ?_
    refine v_getR (pc := 63) 19 rfl fl_X11_20 rfl _ hto ?_
    refine v_getC (pc := 66) 20 rfl fl_X11_130 (shC hc) _ (rtC_5 hc) ?_
    refine v_iload_n (pc := 69) 21 rfl rfl ?_
    refine v_ialdN (pc := 70) 22 rfl (shC_5 hc) (by omega) ?_
    rw [a3]
    refine v_iret (pc := 71) 23 rfl rfl ⟨rfl, rfl⟩
  · refine v_aload_n (pc := 0) 0 rfl rfl ?_
    refine v_getR (pc := 1) 1 rfl fl_X11_20 rfl _ hto ?_
    refine v_iload_n (pc := 4) 2 rfl rfl ?_
    refine v_cV1i (pc := 5) 3 rfl cv_X11_116 (shC hc) (Nat.le_of_ble_eq_true rfl) (Nat.le_of_ble_eq_true rfl) (c_hasJudge hc (by omega) (by omega)) ?_
    refine v_if_neT (pc := 8) 4 21 rfl (by decide) (by omega) (by omega) ?_
    refine v_iload_n (pc := 21) 10 rfl rfl ?_
    refine v_tswIn (pc := 22) 11 72 rfl (by decide) rfl (by decide) ?_
    refine v_aload_n (pc := 72) 24 rfl rfl ?_
    refine v_getR (pc := 73) 25 rfl fl_X11_20 rfl _ hto ?_
    refine v_getC (pc := 76) 26 rfl fl_X11_133 (shC hc) _ (rtC_6 hc) ?_
    refine v_iload_n (pc := 79) 27 rfl rfl ?_
    refine v_ialdN (pc := 80) 28 rfl (shC_6 hc) (by omega) ?_
    rw [a4]
    refine v_iret (pc := 81) 29 rfl rfl ⟨rfl, rfl⟩
  · refine v_aload_n (pc := 0) 0 rfl rfl ?_
    refine v_getR (pc := 1) 1 rfl fl_X11_20 rfl _ hto ?_
    refine v_iload_n (pc := 4) 2 rfl rfl ?_
    refine v_cV1i (pc := 5) 3 rfl cv_X11_116 (shC hc) (Nat.le_of_ble_eq_true rfl) (Nat.le_of_ble_eq_true rfl) (c_hasJudge hc (by omega) (by omega)) ?_
    refine v_if_neT (pc := 8) 4 21 rfl (by decide) (by omega) (by omega) ?_
    refine v_iload_n (pc := 21) 10 rfl rfl ?_
    refine v_tswIn (pc := 22) 11 82 rfl (by decide) rfl (by decide) ?_
    refine v_aload_n (pc := 82) 30 rfl rfl ?_
    refine v_getR (pc := 83) 31 rfl fl_X11_20 rfl _ hto ?_
    refine v_getC (pc := 86) 32 rfl fl_X11_136 (shC hc) _ (rtC_7 hc) ?_
    refine v_iload_n (pc := 89) 33 rfl rfl ?_
    refine v_ialdN (pc := 90) 34 rfl (shC_7 hc) (by omega) ?_
    rw [a5]
    refine v_iret (pc := 91) 35 rfl rfl ⟨rfl, rfl⟩
theorem c_file (h : CRc M A c c2) {k w : Int} (hq : filOk A k w) : V G (d + 1) mX11_file 0 [some (.ref 0), some (.int (J k)), some (.int (J w))] [] M (Ret (some (.int (J (sFil A k w)))) M) := by
  obtain ⟨hk, hw⟩ := hq
  have hc := h.hc
  have hto := h.2.1
  have hn := h.nn
  obtain ⟨k1, rfl⟩ : ∃ k1 : Nat, k = (k1 : Int) := ⟨k.toNat, by omega⟩
  unfold sFil
  rw [Int.toNat_natCast]
  have a6 := h.arr 6 k1 (by decide)
  have a7 := h.arr 7 k1 (by decide)
  have a8 := h.arr 8 k1 (by decide)
  have a9 := h.arr 9 k1 (by decide)
  have a10 := h.arr 10 k1 (by decide)
  have e9 : gI M 9 k1 = (aS A).1 k1 := congrArg (fun S : Sx => S.1 k1) h.eS
  have e10 : gI M 10 k1 = (aS A).2 k1 := congrArg (fun S : Sx => S.2 k1) h.eS
  rcases (by omega : w = 0 ∨ w = 1 ∨ w = 2 ∨ w = 3 ∨ w = 4 ∨ w = 5 ∨ w = 6) with rfl | rfl | rfl | rfl | rfl | rfl | rfl
  · refine v_aload_n (pc := 0) 0 rfl rfl ?_
    refine v_getR (pc := 1) 1 rfl fl_X11_20 rfl _ hto ?_
    refine v_iload_n (pc := 4) 2 rfl rfl ?_
    refine v_cV1i (pc := 5) 3 rfl cv_X11_141 (shC hc) (Nat.le_of_ble_eq_true rfl) (Nat.le_of_ble_eq_true rfl) (c_hasCase hc (by omega) (by omega)) ?_
    refine v_if_neT (pc := 8) 4 21 rfl (by decide) (by omega) (by omega) ?_
    refine v_iload_n (pc := 21) 10 rfl rfl ?_
    refine v_tswIn (pc := 22) 11 64 rfl (by decide) rfl (by decide) ?_
    refine v_aload_n (pc := 64) 12 rfl rfl ?_
    refine v_getR (pc := 65) 13 rfl fl_X11_20 rfl _ hto ?_
    refine v_getC (pc := 68) 14 rfl fl_X11_146 (shC hc) _ (rtC_8 hc) ?_
    refine v_iload_n (pc := 71) 15 rfl rfl ?_
    refine v_ialdN (pc := 72) 16 rfl (shC_8 hc) (by omega) ?_
    rw [a6]
    refine v_iret (pc := 73) 17 rfl rfl ⟨rfl, rfl⟩
  · refine v_aload_n (pc := 0) 0 rfl rfl ?_
    refine v_getR (pc := 1) 1 rfl fl_X11_20 rfl _ hto ?_
    refine v_iload_n (pc := 4) 2 rfl rfl ?_
    refine v_cV1i (pc := 5) 3 rfl cv_X11_141 (shC hc) (Nat.le_of_ble_eq_true rfl) (Nat.le_of_ble_eq_true rfl) (c_hasCase hc (by omega) (by omega)) ?_
    refine v_if_neT (pc := 8) 4 21 rfl (by decide) (by omega) (by omega) ?_
    refine v_iload_n (pc := 21) 10 rfl rfl ?_
    refine v_tswIn (pc := 22) 11 74 rfl (by decide) rfl (by decide) ?_
    refine v_aload_n (pc := 74) 18 rfl rfl ?_
    refine v_getR (pc := 75) 19 rfl fl_X11_20 rfl _ hto ?_
    refine v_getC (pc := 78) 20 rfl fl_X11_149 (shC hc) _ (rtC_9 hc) ?_
    refine v_iload_n (pc := 81) 21 rfl rfl ?_
    refine v_ialdN (pc := 82) 22 rfl (shC_9 hc) (by omega) ?_
    rw [a7]
    refine v_iret (pc := 83) 23 rfl rfl ⟨rfl, rfl⟩
  · refine v_aload_n (pc := 0) 0 rfl rfl ?_
    refine v_getR (pc := 1) 1 rfl fl_X11_20 rfl _ hto ?_
    refine v_iload_n (pc := 4) 2 rfl rfl ?_
    refine v_cV1i (pc := 5) 3 rfl cv_X11_141 (shC hc) (Nat.le_of_ble_eq_true rfl) (Nat.le_of_ble_eq_true rfl) (c_hasCase hc (by omega) (by omega)) ?_
    refine v_if_neT (pc := 8) 4 21 rfl (by decide) (by omega) (by omega) ?_
    refine v_iload_n (pc := 21) 10 rfl rfl ?_
    refine v_tswIn (pc := 22) 11 84 rfl (by decide) rfl (by decide) ?_
    refine v_aload_n (pc := 84) 24 rfl rfl ?_
    refine v_getR (pc := 85) 25 rfl fl_X11_20 rfl _ hto ?_
    refine v_getC (pc := 88) 26 rfl fl_X11_152 (shC hc) _ (rtC_10 hc) ?_
    refine v_iload_n (pc := 91) 27 rfl rfl ?_
    refine v_ialdN (pc := 92) 28 rfl (shC_10 hc) (by omega) ?_
    rw [a8]
    refine v_iret (pc := 93) 29 rfl rfl ⟨rfl, rfl⟩
  · refine v_aload_n (pc := 0) 0 rfl rfl ?_
    refine v_getR (pc := 1) 1 rfl fl_X11_20 rfl _ hto ?_
    refine v_iload_n (pc := 4) 2 rfl rfl ?_
    refine v_cV1i (pc := 5) 3 rfl cv_X11_141 (shC hc) (Nat.le_of_ble_eq_true rfl) (Nat.le_of_ble_eq_true rfl) (c_hasCase hc (by omega) (by omega)) ?_
    refine v_if_neT (pc := 8) 4 21 rfl (by decide) (by omega) (by omega) ?_
    refine v_iload_n (pc := 21) 10 rfl rfl ?_
    refine v_tswIn (pc := 22) 11 94 rfl (by decide) rfl (by decide) ?_
    refine v_aload_n (pc := 94) 30 rfl rfl ?_
    refine v_getR (pc := 95) 31 rfl fl_X11_20 rfl _ hto ?_
    refine v_getC (pc := 98) 32 rfl fl_X11_155 (shC hc) _ (rtC_11 hc) ?_
    refine v_iload_n (pc := 101) 33 rfl rfl ?_
    refine v_ialdN (pc := 102) 34 rfl (shC_11 hc) (by omega) ?_
    rw [a9]
    refine v_iret (pc := 103) 35 rfl rfl ⟨rfl, rfl⟩
  · refine v_aload_n (pc := 0) 0 rfl rfl ?_
    refine v_getR (pc := 1) 1 rfl fl_X11_20 rfl _ hto ?_
    refine v_iload_n (pc := 4) 2 rfl rfl ?_
    refine v_cV1i (pc := 5) 3 rfl cv_X11_141 (shC hc) (Nat.le_of_ble_eq_true rfl) (Nat.le_of_ble_eq_true rfl) (c_hasCase hc (by omega) (by omega)) ?_
    refine v_if_neT (pc := 8) 4 21 rfl (by decide) (by omega) (by omega) ?_
    refine v_iload_n (pc := 21) 10 rfl rfl ?_
    refine v_tswIn (pc := 22) 11 104 rfl (by decide) rfl (by decide) ?_
    refine v_aload_n (pc := 104) 36 rfl rfl ?_
    refine v_getR (pc := 105) 37 rfl fl_X11_20 rfl _ hto ?_
    refine v_getC (pc := 108) 38 rfl fl_X11_158 (shC hc) _ (rtC_12 hc) ?_
    refine v_iload_n (pc := 111) 39 rfl rfl ?_
    refine v_ialdN (pc := 112) 40 rfl (shC_12 hc) (by omega) ?_
    rw [a10]
    refine v_iret (pc := 113) 41 rfl rfl ⟨rfl, rfl⟩
  · refine v_aload_n (pc := 0) 0 rfl rfl ?_
    refine v_getR (pc := 1) 1 rfl fl_X11_20 rfl _ hto ?_
    refine v_iload_n (pc := 4) 2 rfl rfl ?_
    refine v_cV1i (pc := 5) 3 rfl cv_X11_141 (shC hc) (Nat.le_of_ble_eq_true rfl) (Nat.le_of_ble_eq_true rfl) (c_hasCase hc (by omega) (by omega)) ?_
    refine v_if_neT (pc := 8) 4 21 rfl (by decide) (by omega) (by omega) ?_
    refine v_iload_n (pc := 21) 10 rfl rfl ?_
    refine v_tswIn (pc := 22) 11 114 rfl (by decide) rfl (by decide) ?_
    refine v_aload_n (pc := 114) 42 rfl rfl ?_
    refine v_getC (pc := 115) 43 rfl fl_X11_41 rfl 8 rfl ?_
    refine v_getC (pc := 118) 44 rfl fl_X11_161 rfl 9 rfl ?_
    refine v_iload_n (pc := 121) 45 rfl rfl ?_
    refine v_ialdN (pc := 122) 46 rfl rfl (by omega) ?_
    rw [e9]
    refine v_iret (pc := 123) 47 rfl rfl ⟨rfl, rfl⟩
  · refine v_aload_n (pc := 0) 0 rfl rfl ?_
    refine v_getR (pc := 1) 1 rfl fl_X11_20 rfl _ hto ?_
    refine v_iload_n (pc := 4) 2 rfl rfl ?_
    refine v_cV1i (pc := 5) 3 rfl cv_X11_141 (shC hc) (Nat.le_of_ble_eq_true rfl) (Nat.le_of_ble_eq_true rfl) (c_hasCase hc (by omega) (by omega)) ?_
    refine v_if_neT (pc := 8) 4 21 rfl (by decide) (by omega) (by omega) ?_
    refine v_iload_n (pc := 21) 10 rfl rfl ?_
    refine v_tswIn (pc := 22) 11 124 rfl (by decide) rfl (by decide) ?_
    refine v_aload_n (pc := 124) 48 rfl rfl ?_
    refine v_getC (pc := 125) 49 rfl fl_X11_41 rfl 8 rfl ?_
    refine v_getC (pc := 128) 50 rfl fl_X11_164 rfl 10 rfl ?_
    refine v_iload_n (pc := 131) 51 rfl rfl ?_
    refine v_ialdN (pc := 132) 52 rfl rfl (by omega) ?_
    rw [e10]
    refine v_iret (pc := 133) 53 rfl rfl ⟨rfl, rfl⟩
theorem c_owed (h : CRc M A c c2) {t : Int} (hq : owOk A t) : V G (d + 3) mX11_owed 0 [some (.ref 0), some (.int (J t))] [] M (Ret (some (.int (J (sOw A t)))) M) := by
  unfold owOk at hq
  have hc := h.hc
  have hto := h.2.1
  have hn := h.nn
  obtain ⟨t1, rfl⟩ : ∃ t1 : Nat, t = (t1 : Int) := ⟨t.toNat, by omega⟩
  have cl := c_owedBy (G := G) (d := d) h.ci (t := t1) (by rw [h.eT]; omega)
  rw [h.eT, h.eS] at cl
  unfold sOw
  rw [Int.toNat_natCast]
  refine v_aload_n (pc := 0) 0 rfl rfl ?_
  refine v_getR (pc := 1) 1 rfl fl_X11_20 rfl _ hto ?_
  refine v_iload_n (pc := 4) 2 rfl rfl ?_
  refine v_cV1i (pc := 5) 3 rfl cv_X11_108 (shC hc) (Nat.le_of_ble_eq_true rfl) (Nat.le_of_ble_eq_true rfl) (c_hasTown hc (by omega) (by omega)) ?_
  refine v_if_neT (pc := 8) 4 22 rfl (by decide) (by omega) (by omega) ?_
  refine v_aload_n (pc := 22) 10 rfl rfl ?_
  refine v_getC (pc := 23) 11 rfl fl_X11_64 rfl 26 rfl ?_
  refine v_iload_n (pc := 26) 12 rfl rfl ?_
  refine v_cV1i (pc := 27) 13 rfl cv_X11_266 rfl (Nat.le_of_ble_eq_true rfl) (Nat.le_of_ble_eq_true rfl) (cl) ?_
  refine v_iret (pc := 30) 14 rfl rfl ⟨rfl, rfl⟩
end Gets
