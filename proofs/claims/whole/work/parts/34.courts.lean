/-! 34: courts -/
/-- the lines read one by one; the count of them, and what they tell -/
def rdS (b : Nat → Int) (n : Nat) : Nat → Int → List Nm → Tx → Nat → Int ⊕ (Int × Tx)
  | 0, i, _, T, _ => .inr (i, T)
  | f + 1, i, L, T, p => if kd b n p = 0 then .inr (i, T) else match lnS b n L T p with
    | .inl e => .inl e
    | .inr q => rdS b n f (i + 1) q.1 q.2.1 q.2.2
def fwT (T : Tx) : Tx := (T.1, fun j => if j = 1 then fw (T.2 1) (nT T) else T.2 j)
def D0ok (D : Nat → Nat → Int) : Prop := ∀ a b, a < 5 → b < 5 → D 1 (a * 5 + b) = if a = b then 0 else 1000
theorem fwT_ok {L : List Nm} {T : Tx} (h : LI L T) : TOk (fwT T) := by
  obtain ⟨h1, h2, h3, h4, h5⟩ := h
  have hin : InM (T.2 1) (nT T) := fun a b ha hb => (h5 a b (by omega) (by omega)).1
  have hf := fw_in hin
  refine ⟨h1.1, h1.2.1, h1.2.2.1, h3, h4, fun a b ha0 ha hb0 hb => ?_⟩
  have ha : a < nT T := ha
  have hb : b < nT T := hb
  have := hf a.toNat b.toNat (by omega) (by omega)
  show 0 ≤ fw (T.2 1) (nT T) (a * 5 + b).toNat ∧ fw (T.2 1) (nT T) (a * 5 + b).toNat ≤ 1000
  rw [show (a * 5 + b).toNat = a.toNat * 5 + b.toNat by omega]
  exact this
theorem LI0 {D : Nat → Nat → Int} (h : D0ok D) : LI [] ((0, 0, 0), D) := by
  refine ⟨⟨Nat.zero_le _, Nat.zero_le _, Nat.zero_le _, rfl⟩, fun i hi => (by cases hi), fun j hj => (by cases hj), fun j hj => (by cases hj), fun a b ha hb => ?_⟩
  show (0 ≤ D 1 (a * 5 + b) ∧ D 1 (a * 5 + b) ≤ 1000) ∧ (a = b → D 1 (a * 5 + b) = 0) ∧ _
  rw [h a b ha hb]
  refine ⟨?_, fun e => if_pos e, fun _ e => ?_⟩
  · split <;> omega
  · show D 1 (a * 5 + b) = 1000
    rw [h a b ha hb]; exact if_neg e
def clr (k : Nat) (S : Sx) : Sx := (fun i => if i < k then -1 else S.1 i, fun i => if i < k then -1 else S.2 i)
theorem clr_0 (S : Sx) : clr 0 S = S := rfl
theorem clr_s (k : Nat) (S : Sx) : setS (clr k S) k (-1) (-1) = clr (k + 1) S := by
  refine Prod.ext (funext fun i => ?_) (funext fun i => ?_)
  · show (if i = k then -1 else if i < k then -1 else S.1 i) = if i < k + 1 then -1 else S.1 i
    split
    · rw [if_pos (by omega)]
    · split
      · rw [if_pos (by omega)]
      · rw [if_neg (by omega)]
  · show (if i = k then -1 else if i < k then -1 else S.2 i) = if i < k + 1 then -1 else S.2 i
    split
    · rw [if_pos (by omega)]
    · split
      · rw [if_pos (by omega)]
      · rw [if_neg (by omega)]
theorem clr_12 {S : Sx} (h : SF S) : clr 12 S = s0 := by
  refine Prod.ext (funext fun i => ?_) (funext fun i => ?_)
  · show (if i < 12 then -1 else S.1 i) = -1
    split
    · rfl
    · exact (h i (by omega)).1
  · show (if i < 12 then -1 else S.2 i) = -1
    split
    · rfl
    · exact (h i (by omega)).2
section Cts
variable {G : Gt} {d : Nat} {M N : Mem} {A : Ax} {c c2 : Nat}
theorem c_startFor : V G (d + 2) mX3_startFor 0 [some (.ref 8), some (.ref c2), none] [] M (Ret none (wS (sR M 8 0 c2) (clr 12 (sOf M)))) := by
  refine v_aload_n (pc := 0) 0 rfl rfl ?_
  refine v_aload_n (pc := 1) 1 rfl rfl ?_
  refine v_putR (pc := 2) 2 rfl fl_X3_25 rfl ?_
  refine v_iconst (pc := 5) 3 rfl ?_
  refine v_istore_n (pc := 6) 4 rfl ⟨Nat.le_of_ble_eq_true rfl, rfl⟩ ?_
  have loop := loopN (N := 12) (fun k => V G (d + 2) mX3_startFor 7 [some (.ref 8), some (.ref c2), some (.int (J (k : Int)))] [] (wS (sR M 8 0 c2) (clr k (sOf M))) (Ret none (wS (sR M 8 0 c2) (clr 12 (sOf M))))) ?_ ?_
  · have e : sOf M = sOf (sR M 8 0 c2) := rfl
    rw [clr_0, e, wS_self] at loop
    exact loop
  · refine v_iload_n (pc := 7) 5 rfl rfl ?_
    refine v_bipush (pc := 8) 6 rfl (by decide) ?_
    refine v_ic_geT (pc := 10) 7 24 rfl (by decide) (by omega) (by omega) ?_
    refine v_ret (pc := 24) 13 rfl rfl ⟨rfl, rfl⟩
  · intro k hk ih
    have cl := c_remove (G := G) (d := d) (M := wS (sR M 8 0 c2) (clr k (sOf M))) (k := k) (by omega)
    rw [pl_wS, wS_s, wS_wS, clr_s] at cl
    refine v_iload_n (pc := 7) 5 rfl rfl ?_
    refine v_bipush (pc := 8) 6 rfl (by decide) ?_
    refine v_ic_geF (pc := 10) 7 24 rfl (by decide) (by omega) (by omega) ?_
    refine v_aload_n (pc := 13) 8 rfl rfl ?_
    refine v_iload_n (pc := 14) 9 rfl rfl ?_
    refine v_cV1v (pc := 15) 10 rfl cv_X3_29 rfl (Nat.le_of_ble_eq_true rfl) (Nat.le_of_ble_eq_true rfl) (cl) ?_
    refine v_iinc (pc := 18) 11 rfl rfl ⟨Nat.le_of_ble_eq_true rfl, rfl⟩ ?_
    refine v_goto (pc := 21) 12 7 rfl (by decide) ?_
    exact ih
theorem c_rdStart {b : Nat → Int} {n : Nat} (hn : n ≤ 800) (hb : ∀ i, i < n → gI M 1 i = b i) (hr : ∀ i, i < n → -128 ≤ b i ∧ b i < 128) : V G (d + 3) mX9_start 0 [some (.ref 2), some (.int (J (n : Int))), some (.ref c2)] [] M (fun r N => r = none ∧ (∀ q, q ≠ 3 → q ≠ 4 → gI N q = gI M q) ∧ gI N 4 3 = 0 ∧ (∀ q, q ≠ 3 → gL N q = gL M q) ∧ gR N = gR (sR M 2 2 c2) ∧ AtC N b n 0) := by
  refine v_aload_n (pc := 0) 0 rfl rfl ?_
  refine v_aload_n (pc := 1) 1 rfl rfl ?_
  refine v_putR (pc := 2) 2 rfl fl_X9_27 rfl ?_
  refine v_aload_n (pc := 5) 3 rfl rfl ?_
  refine v_getC (pc := 6) 4 rfl fl_X9_23 rfl 4 rfl ?_
  refine v_cV0v (pc := 9) 5 rfl cv_X9_35 rfl (Nat.le_of_ble_eq_true rfl) (Nat.le_of_ble_eq_true rfl) (c_namesForget) ?_
  refine v_aload_n (pc := 12) 6 rfl rfl ?_
  refine v_getC (pc := 13) 7 rfl fl_X9_14 rfl 3 rfl ?_
  refine v_iload_n (pc := 16) 8 rfl rfl ?_
  refine v_cV1 (pc := 17) 9 rfl cv_X9_38 rfl (Nat.le_of_ble_eq_true rfl) (Nat.le_of_ble_eq_true rfl) (c_scanStart (M := sI (sR M 2 2 c2) 4 3 0) (b := b) (n := n) hn hb hr) (fun r9 N9 hq9 => ?_)
  obtain ⟨rfl, ⟨k1, k2, k3⟩, k4⟩ := hq9
  show V G (d + 3) mX9_start (17 + 3) _ [] _ _
  refine v_ret (pc := 20) 10 rfl rfl ⟨rfl, fun q q1 q2 => by rw [k1 q q1, gI_sI_ne q2]; rfl, by rw [k1 4 (by decide), gI_sI, if_pos rfl, if_pos rfl], fun q q1 => by rw [k2 q q1]; rfl, k3, k4⟩
theorem c_more {b : Nat → Int} {n p : Nat} (h : AtC M b n p) (hk : kd b n p ≤ 4) : V G d mX9_hasMore 0 [some (.ref 2)] [] M (Ret (some (.int (J (if kd b n p = 0 then 0 else 1)))) M) := by
  have h4 := h.2.2.2.2.1
  refine v_aload_n (pc := 0) 0 rfl rfl ?_
  refine v_getC (pc := 1) 1 rfl fl_X9_14 rfl 3 rfl ?_
  refine v_getI (pc := 4) 2 rfl fl_X9_42 rfl ?_
  refine v_if_eq (pc := 7) 3 14 rfl (by decide) (by omega) (fun e1 => ?_) (fun e1 => ?_)
  · rw [if_pos (by omega)]
    refine v_iconst (pc := 14) 6 rfl ?_
    refine v_zret (pc := 15) 7 rfl rfl (by omega) ⟨rfl, rfl⟩
  · rw [if_neg (by omega)]
    refine v_iconst (pc := 10) 4 rfl ?_
    refine v_goto (pc := 11) 5 15 rfl (by decide) ?_
    refine v_zret (pc := 15) 7 rfl rfl (by omega) ⟨rfl, rfl⟩
theorem kd_le (b : Nat → Int) (n p : Nat) : kd b n p ≤ 4 := by
  unfold kd
  split
  · omega
  · split
    · split <;> omega
    · split
      · split <;> omega
      · split <;> omega
/-- what begins with the spare courts -/
def bwM (M : Mem) (c c2 : Nat) : Mem := sI (sI (wS (sR (aI (sR (sR M 0 3 c2) 0 4 c) (c2 + 1) (fw (gI M (c2 + 1)) (gI M c2 0).toNat)) 8 0 c2) (clr 12 (sOf M))) 29 5 0) 29 3 0
theorem c_begSpare (hc : c = 32 ∨ c = 43) (hc2 : c2 = 32 ∨ c2 = 43) (hto : gR M 0 3 = c) (hsp : gR M 0 4 = c2) {n : Nat} (hn : gI M c2 0 = (n : Int)) (hn5 : n ≤ 5) (hD : InM (gI M (c2 + 1)) n) : V G (d + 3) mX11_beginWithSpare 0 [some (.ref 0), none] [] M (Ret none (bwM M c c2)) := by
  have e3 : gR (sR (sR M 0 3 c2) 0 4 c) 0 3 = c2 := by rw [gR_sR, if_pos rfl, if_neg (by decide), gR_sR, if_pos rfl, if_pos rfl]
  have e4 : gR (sR M 0 3 c2) 0 4 = c2 := by rw [gR_sR, if_pos rfl, if_neg (by decide)]; exact hsp
  unfold bwM
  rw [hn, Int.toNat_natCast]
  have es : ∀ f, sOf (aI (sR (sR M 0 3 c2) 0 4 c) (c2 + 1) f) = sOf M := fun f => by
    unfold sOf; rw [gI_aI_ne (by omega), gI_aI_ne (by omega)]; rfl
  have cs := c_startFor (G := G) (d := d) (c2 := c2) (M := aI (sR (sR M 0 3 c2) 0 4 c) (c2 + 1) (fw (gI M (c2 + 1)) n))
  rw [es] at cs
  refine v_aload_n (pc := 0) 0 rfl rfl ?_
  refine v_getR (pc := 1) 1 rfl fl_X11_20 rfl _ hto ?_
  refine v_astore_n (pc := 4) 2 rfl ⟨Nat.le_of_ble_eq_true rfl, rfl⟩ ?_
  refine v_aload_n (pc := 5) 3 rfl rfl ?_
  refine v_aload_n (pc := 6) 4 rfl rfl ?_
  refine v_getR (pc := 7) 5 rfl fl_X11_24 rfl _ hsp ?_
  refine v_putR (pc := 10) 6 rfl fl_X11_20 rfl ?_
  refine v_aload_n (pc := 13) 7 rfl rfl ?_
  refine v_aload_n (pc := 14) 8 rfl rfl ?_
  refine v_putR (pc := 15) 9 rfl fl_X11_24 rfl ?_
  refine v_aload_n (pc := 18) 10 rfl rfl ?_
  refine v_getR (pc := 19) 11 rfl fl_X11_20 rfl _ e3 ?_
  refine v_cV0v (pc := 22) 12 rfl cv_X11_99 (shC hc2) (Nat.le_of_ble_eq_true rfl) (Nat.le_of_ble_eq_true rfl) (c_findWays (M := sR (sR M 0 3 c2) 0 4 c) hc2 hn hn5 hD) ?_
  refine v_aload_n (pc := 25) 13 rfl rfl ?_
  refine v_getC (pc := 26) 14 rfl fl_X11_41 rfl 8 rfl ?_
  refine v_aload_n (pc := 29) 15 rfl rfl ?_
  refine v_getR (pc := 30) 16 rfl fl_X11_20 rfl _ e3 ?_
  refine v_cV1v (pc := 33) 17 rfl cv_X11_102 rfl (Nat.le_of_ble_eq_true rfl) (Nat.le_of_ble_eq_true rfl) (cs) ?_
  refine v_aload_n (pc := 36) 18 rfl rfl ?_
  refine v_getC (pc := 37) 19 rfl fl_X11_71 rfl 29 rfl ?_
  refine v_cV0v (pc := 40) 20 rfl cv_X11_105 rfl (Nat.le_of_ble_eq_true rfl) (Nat.le_of_ble_eq_true rfl) (c_forgetAll) ?_
  refine v_ret (pc := 43) 21 rfl rfl ⟨rfl, rfl⟩
theorem CRc.same2 (h : CRc M A c c2) {P : Mem} (e : ∀ q, q = 0 ∨ q = 1 ∨ q = 9 ∨ q = 10 ∨ q = 29 ∨ q = 30 ∨ q = 31 ∨ (c ≤ q ∧ q ≤ c + 10) → gI P q = gI M q) (er : gR P 0 3 = gR M 0 3 ∧ gR P 0 4 = gR M 0 4 ∧ gR P 8 0 = gR M 8 0) : CRc P A c c2 := by
  obtain ⟨h1, h2, h3, h4, h5, h6, h7, h8, h9, h10⟩ := h
  have eT : ∀ j, j ≤ 10 → gI P (c + j) = gI M (c + j) := fun j hj => e _ (by omega)
  have es : sOf P = sOf M := by unfold sOf; rw [e 9 (by omega), e 10 (by omega)]
  refine ⟨h1, er.1.trans h2, er.2.1.trans h3, h4.keep eT er.2.2 (by rw [es]; exact h4.2.2.2.2.2.2), (tOf_eq eT).trans h5, es.trans h6, ?_, h8.keep (e 29 (by omega)) (e 30 (by omega)) (e 31 (by omega)), h9.keep (e 29 (by omega)) (e 30 (by omega)) (e 31 (by omega)), h10⟩
  rw [e 0 (by omega), e 1 (by omega)]; exact h7
theorem CRc.t0 (h : CRc M A c c2) : CRc (sI M 0 1 0) ((0, aB A), aT A, aS A, aU A, aK A) c c2 := by
  obtain ⟨h1, h2, h3, h4, h5, h6, h7, h8, h9, h10⟩ := h
  have e : ∀ q, q ≠ 0 → gI (sI M 0 1 0) q = gI M q := fun q hq => gI_sI_ne hq
  have eT : ∀ j, j ≤ 10 → gI (sI M 0 1 0) (c + j) = gI M (c + j) := fun j hj => e _ (by omega)
  have es : sOf (sI M 0 1 0) = sOf M := by unfold sOf; rw [e 9 (by decide), e 10 (by decide)]
  exact ⟨h1, h2, h3, h4.keep eT rfl (by rw [es]; exact h4.2.2.2.2.2.2), (tOf_eq eT).trans h5, es.trans h6, ⟨by rw [gI_sI, if_pos rfl, if_pos rfl]; rfl, Nat.zero_le _, fun i hi => (by cases hi)⟩, h8.keep (e 29 (by decide)) (e 30 (by decide)) (e 31 (by decide)), h9.keep (e 29 (by decide)) (e 30 (by decide)) (e 31 (by decide)), h10⟩
/-- what the class knows when the lines begin -/
theorem PS0 {b : Nat → Int} {n : Nat} (h4 : gI N 4 3 = 0) (h0 : gI N c2 0 = 0 ∧ gI N c2 1 = 0 ∧ gI N c2 2 = 0) (hA : AtC N b n 0) (hn : n ≤ 800) (hb : ∀ i, i < n → -128 ≤ b i ∧ b i < 128) : PS c2 N N b n 0 [] ((0, 0, 0), tAt N c2) := by
  refine ⟨⟨fun _ _ _ _ _ _ _ => rfl, fun _ _ _ => rfl, rfl⟩, hA, ⟨h4, Nat.zero_le _, fun i hi => (by cases hi)⟩, ?_, by omega, fun i hi => (by cases hi), Nat.zero_le _, hn, hb⟩
  show (((gI N c2 0).toNat, (gI N c2 1).toNat, (gI N c2 2).toNat), tAt N c2) = _
  rw [h0.1, h0.2.1, h0.2.2]
  rfl
theorem bw_ne {q : Nat} (h : q ≠ 9 ∧ q ≠ 10 ∧ q ≠ 29 ∧ q ≠ c2 + 1) : gI (bwM M c c2) q = gI M q := by
  unfold bwM; rw [gI_sI_ne h.2.2.1, gI_sI_ne h.2.2.1, wS_ne ⟨h.1, h.2.1⟩]
  show gI (aI (sR (sR M 0 3 c2) 0 4 c) (c2 + 1) (fw (gI M (c2 + 1)) (gI M c2 0).toNat)) q = _
  rw [gI_aI_ne h.2.2.2]; rfl
theorem bw_29 (i : Nat) : gI (bwM M c c2) 29 i = if i = 3 then 0 else if i = 5 then 0 else gI (aI (sR (sR M 0 3 c2) 0 4 c) (c2 + 1) (fw (gI M (c2 + 1)) (gI M c2 0).toNat)) 29 i := by
  unfold bwM; rw [gI_sI, if_pos rfl, gI_sI, if_pos rfl, wS_ne (by decide)]; rfl
theorem bw_1 (hc2 : c2 = 32 ∨ c2 = 43) : gI (bwM M c c2) (c2 + 1) = fw (gI M (c2 + 1)) (gI M c2 0).toNat := by
  unfold bwM; rw [gI_sI_ne (by omega), gI_sI_ne (by omega), wS_ne (by omega)]
  funext i
  show gI (aI (sR (sR M 0 3 c2) 0 4 c) (c2 + 1) (fw (gI M (c2 + 1)) (gI M c2 0).toNat)) (c2 + 1) i = _
  rw [gI_aI, if_pos rfl]
theorem bw_s (hc2 : c2 = 32 ∨ c2 = 43) : sOf (bwM M c c2) = clr 12 (sOf M) := by
  unfold bwM
  show (gI (sI (sI (wS _ _) 29 5 0) 29 3 0) 9, gI (sI (sI (wS _ _) 29 5 0) 29 3 0) 10) = _
  rw [gI_sI_ne (by decide), gI_sI_ne (by decide), gI_sI_ne (by decide), gI_sI_ne (by decide)]
  exact wS_s _ _
theorem bw_r (x y : Nat) : gR (bwM M c c2) x y = gR (sR (sR (sR M 0 3 c2) 0 4 c) 8 0 c2) x y := rfl
theorem bw_t (hc2 : c2 = 32 ∨ c2 = 43) : tOf (bwM M c c2) c2 = fwT (tOf M c2) := by
  have h0 : gI (bwM M c c2) c2 = gI M c2 := bw_ne (by omega)
  have e : tAt (bwM M c c2) c2 = fun j => if j = 1 then fw (gI M (c2 + 1)) (gI M c2 0).toNat else tAt M c2 j := by
    funext j
    match j with
    | 0 => rfl
    | 1 => rw [if_pos rfl]; exact bw_1 hc2
    | 2 => rw [if_neg (by decide)]; exact bw_ne (q := c2 + 2) (by omega)
    | 3 => rw [if_neg (by decide)]; exact bw_ne (q := c2 + 3) (by omega)
    | 4 => rw [if_neg (by decide)]; exact bw_ne (q := c2 + 4) (by omega)
    | 5 => rw [if_neg (by decide)]; exact bw_ne (q := c2 + 5) (by omega)
    | 6 => rw [if_neg (by decide)]; exact bw_ne (q := c2 + 6) (by omega)
    | 7 => rw [if_neg (by decide)]; exact bw_ne (q := c2 + 7) (by omega)
    | 8 => rw [if_neg (by decide)]; exact bw_ne (q := c2 + 8) (by omega)
    | 9 => rw [if_neg (by decide)]; exact bw_ne (q := c2 + 9) (by omega)
    | 10 => rw [if_neg (by decide)]; exact bw_ne (q := c2 + 10) (by omega)
    | j + 11 => rw [if_neg (by omega)]; rfl
  unfold fwT tOf
  rw [h0, e]
  rfl
theorem bw_cr {A : Ax} {L : List Nm} {T : Tx} (hc : (c = 32 ∧ c2 = 43) ∨ (c = 43 ∧ c2 = 32)) (hT : tOf M c2 = T) (hL : LI L T) (hn : 0 ≤ gI M c2 0 ∧ 0 ≤ gI M c2 1 ∧ 0 ≤ gI M c2 2) (hS : SF (sOf M)) (h0 : gI M 0 1 = 0) (h4 : 0 ≤ gI M 29 4 ∧ gI M 29 4 < 12) : CRc (bwM M c c2) ((0, aB A), fwT T, s0, [], fun _ => none) c2 c := by
  have hc2 : c2 = 32 ∨ c2 = 43 := by omega
  have es : sOf (bwM M c c2) = s0 := by rw [bw_s hc2, clr_12 hS]
  have e0 : gI (bwM M c c2) c2 = gI M c2 := bw_ne (by omega)
  have hs0 : SOk (fwT T) s0 := fun k _ => Or.inl ⟨rfl, rfl⟩
  have hf0 : SF s0 := fun k _ => ⟨rfl, rfl⟩
  have e29 : gI (bwM M c c2) 29 4 = gI M 29 4 := by
    rw [bw_29, if_neg (by decide), if_neg (by decide), gI_aI_ne (by omega)]; rfl
  have et : tOf (bwM M c c2) c2 = fwT T := by rw [bw_t hc2, hT]
  refine ⟨by omega, ?_, ?_, ⟨hc2, ?_, by rw [e0]; exact hn.1, by rw [e0]; exact hn.2.1, by rw [e0]; exact hn.2.2, by rw [et]; exact fwT_ok hL, by rw [et, es]; exact hs0⟩, et, es, ⟨?_, Nat.zero_le _, fun i hi => (by cases hi)⟩, ⟨by rw [e29]; exact h4, ?_, Nat.zero_le _, fun i hi => (by cases hi)⟩, ⟨?_, fun k hk => Or.inl ⟨rfl, ?_⟩⟩, ⟨fwT_ok hL, ⟨hs0, hf0⟩, fun S hS => (by cases hS), fun k hk S hS => (by cases hS)⟩⟩
  · rw [bw_r, gR_sR, if_neg (by decide), gR_sR, if_pos rfl, if_neg (by decide), gR_sR, if_pos rfl, if_pos rfl]
  · rw [bw_r, gR_sR, if_neg (by decide), gR_sR, if_pos rfl, if_pos rfl]
  · rw [bw_r, gR_sR, if_pos rfl, if_pos rfl]
  · rw [bw_ne (by omega)]; exact h0
  · rw [bw_29, if_neg (by decide), if_pos rfl]; rfl
  · rw [bw_29, if_pos rfl]; decide
  · rw [bw_29, if_pos rfl]
    rcases (by omega : k = 0 ∨ k = 1) with rfl | rfl <;> decide
theorem c_rdL {M0 : Mem} {b : Nat → Int} {n : Nat} {x : Int} (hc : c = 32 ∨ c = 43) (hc2 : c2 = 32 ∨ c2 = 43) (hin : gR M0 2 2 = c2) (ht0 : gR M0 0 3 = c) (hs0 : gR M0 0 4 = c2) : ∀ (f i : Nat) (L : List Nm) (T : Tx) (p : Nat) (N : Mem), PS c2 M0 N b n p L T → LI L T → i + f = 800 → V G (d + 6) mX11_courts 40 [some (.ref 0), some (.int (J x)), some (.int (J (i : Int)))] [] N (fun r P => onR (rdS b n f i L T p) (fun e => r = some (.int (J e)) ∧ PF c2 M0 P e) (fun q => r = some (.int (J q.1)) ∧ ∃ N2 L2 p2, PS c2 M0 N2 b n p2 L2 q.2 ∧ LI L2 q.2 ∧ P = bwM N2 c c2)) := by
  intro f
  have fin : ∀ (i : Nat) (L : List Nm) (T : Tx) (p : Nat) (N : Mem), PS c2 M0 N b n p L T → LI L T → V G (d + 6) mX11_courts 81 [some (.ref 0), some (.int (J x)), some (.int (J (i : Int)))] [] N (fun r P => r = some (.int (J (i : Int))) ∧ ∃ N2 L2 p2, PS c2 M0 N2 b n p2 L2 T ∧ LI L2 T ∧ P = bwM N2 c c2) := by
    intro i L T p N hP hL
    have hto : gR N 0 3 = c := by rw [hP.1.2.2]; exact ht0
    have hsp : gR N 0 4 = c2 := by rw [hP.1.2.2]; exact hs0
    have hnT : gI N c2 0 = (nT T : Int) := by
      have := hP.2.2.2.2.1.1
      rw [← hP.2.2.2.1]; show gI N c2 0 = ((gI N c2 0).toNat : Int); omega
    have hD : InM (gI N (c2 + 1)) (nT T) := by
      have e : gI N (c2 + 1) = T.2 1 := congrArg (fun T : Tx => T.2 1) hP.2.2.2.1
      rw [e]
      exact fun a b ha hb => (hL.2.2.2.2 a b (by have := hL.1.1; omega) (by have := hL.1.1; omega)).1
    refine v_aload_n (pc := 81) 39 rfl rfl ?_
    refine v_cV0v (pc := 82) 40 rfl cv_X11_96 rfl (Nat.le_of_ble_eq_true rfl) (Nat.le_of_ble_eq_true rfl) (c_begSpare hc hc2 hto hsp hnT hL.1.1 hD) ?_
    refine v_iload_n (pc := 85) 41 rfl rfl ?_
    refine v_iret (pc := 86) 42 rfl rfl ⟨rfl, N, L, p, hP, hL, rfl⟩
  induction f with
  | zero =>
    intro i L T p N hP hL hi
    refine v_iload_n (pc := 40) 22 rfl rfl ?_
    refine v_sipush (pc := 41) 23 rfl (by decide) ?_
    refine v_ic_geT (pc := 44) 24 81 rfl (by decide) (by omega) (by omega) ?_
    exact fin i L T p N hP hL
  | succ f ih =>
    intro i L T p N hP hL hi
    have e : rdS b n (f + 1) i L T p = if kd b n p = 0 then .inr ((i : Int), T) else match lnS b n L T p with | .inl e => .inl e | .inr q => rdS b n f ((i : Int) + 1) q.1 q.2.1 q.2.2 := rfl
    rw [e]
    refine v_iload_n (pc := 40) 22 rfl rfl ?_
    refine v_sipush (pc := 41) 23 rfl (by decide) ?_
    refine v_ic_geF (pc := 44) 24 81 rfl (by decide) (by omega) (by omega) ?_
    refine v_aload_n (pc := 47) 25 rfl rfl ?_
    refine v_getC (pc := 48) 26 rfl fl_X11_32 rfl 2 rfl ?_
    refine v_cV0i (pc := 51) 27 rfl cv_X11_86 rfl (Nat.le_of_ble_eq_true rfl) (Nat.le_of_ble_eq_true rfl) (c_more hP.2.1 (kd_le b n p)) ?_
    refine v_if_eq (pc := 54) 28 81 rfl (by decide) (by omega) (fun e1 => ?_) (fun e1 => ?_)
    · have e2 : kd b n p = 0 := by
        by_cases q : kd b n p = 0
        · exact q
        · rw [if_neg q] at e1; omega
      rw [if_pos e2]
      exact fin i L T p N hP hL
    · have e2 : kd b n p ≠ 0 := fun q => by rw [if_pos q] at e1; omega
      rw [if_neg e2]
      refine v_aload_n (pc := 57) 29 rfl rfl ?_
      refine v_getC (pc := 58) 30 rfl fl_X11_32 rfl 2 rfl ?_
      refine v_cV0 (pc := 61) 31 rfl cv_X11_90 rfl (Nat.le_of_ble_eq_true rfl) (Nat.le_of_ble_eq_true rfl) (c_readLine hc2 hin hP hL) (fun r9 N9 hq9 => ?_)
      cases hR : lnS b n L T p with
      | inl e9 =>
        rw [hR] at hq9
        obtain ⟨rfl, hF⟩ := hq9
        have hf := hF.2
        show V G (d + 6) mX11_courts (61 + 3) _ [.int (J 0)] _ _
        refine v_if_neF (pc := 64) 32 75 rfl (by decide) (by omega) (by decide) ?_
        refine v_aload_n (pc := 67) 33 rfl rfl ?_
        refine v_getC (pc := 68) 34 rfl fl_X11_32 rfl 2 rfl ?_
        refine v_getI (pc := 71) 35 rfl fl_X11_93 rfl ?_
        rw [hf]
        refine v_iret (pc := 74) 36 rfl rfl ⟨rfl, hF⟩
      | inr q9 =>
        rw [hR] at hq9
        obtain ⟨rfl, hF⟩ := hq9
        show V G (d + 6) mX11_courts (61 + 3) _ [.int (J 1)] _ _
        refine v_if_neT (pc := 64) 32 75 rfl (by decide) (by omega) (by decide) ?_
        refine v_iinc (pc := 75) 37 rfl rfl ⟨Nat.le_of_ble_eq_true rfl, rfl⟩ ?_
        refine v_goto (pc := 78) 38 40 rfl (by decide) ?_
        have := ih (i + 1) q9.1 q9.2.1 q9.2.2 N9 hF (lnS_li hL hR) (by omega)
        exact this
def sCourts (A : Ax) (D : Nat → Nat → Int) (n : Int) : Int × Ax := if 0 ≤ n ∧ n ≤ aN A then
    (match rdS (aB A) n.toNat 800 0 [] ((0, 0, 0), D) 0 with
    | .inl e => (e, ((0, aB A), aT A, aS A, aU A, aK A))
    | .inr q => (q.1, ((0, aB A), fwT q.2, s0, [], fun _ => none)))
  else (-1, A)
theorem D0x : D0ok (fun _ i => if i % 6 = 0 then 0 else 1000) := by
  intro a b ha hb
  show (if (a * 5 + b) % 6 = 0 then (0 : Int) else 1000) = _
  by_cases e : a = b
  · rw [if_pos e, if_pos (by omega)]
  · rw [if_neg e, if_neg (by omega)]
theorem c_courts (h : CRc M A c c2) {n : Int} (hn : -2147483648 ≤ n ∧ n ≤ 2147483647) : V G (d + 6) mX11_courts 0 [some (.ref 0), some (.int (J n)), none] [] M (fun r N => ∃ D, D0ok D ∧ r = some (.int (J (sCourts A D n).1)) ∧ CR N (sCourts A D n).2 ∧ CF M N) := by
  have hc := h.hc
  have hc9 := h.1
  have hc2 : c2 = 32 ∨ c2 = 43 := by have := h.1; omega
  have hsp := h.2.2.1
  have ht := h.tp
  have no : ¬ (0 ≤ n ∧ n ≤ aN A) → V G (d + 6) mX11_courts 12 [some (.ref 0), some (.int (J n)), none] [] M (fun r N => ∃ D, D0ok D ∧ r = some (.int (J (sCourts A D n).1)) ∧ CR N (sCourts A D n).2 ∧ CF M N) := by
    intro hno
    refine v_iconst (pc := 12) 6 rfl ?_
    refine v_iret (pc := 13) 7 rfl rfl ⟨_, D0x, by unfold sCourts; rw [if_neg hno], by unfold sCourts; rw [if_neg hno]; exact ⟨c, c2, h⟩, CF.rfl9 M⟩
  refine v_iload_n (pc := 0) 0 rfl rfl ?_
  refine v_if_lt (pc := 1) 1 12 rfl (by decide) (by omega) (fun e1 => ?_) (fun e1 => ?_)
  · exact no (by omega)
  · refine v_iload_n (pc := 4) 2 rfl rfl ?_
    refine v_aload_n (pc := 5) 3 rfl rfl ?_
    refine v_getI (pc := 6) 4 rfl fl_X11_13 rfl ?_
    refine v_ic_le (pc := 9) 5 14 rfl (by decide) (by omega) (fun e2 => ?_) (fun e2 => ?_)
    · have hyes : 0 ≤ n ∧ n ≤ aN A := by omega
      obtain ⟨n1, rfl⟩ : ∃ n1 : Nat, n = (n1 : Int) := ⟨n.toNat, by omega⟩
      refine v_aload_n (pc := 14) 8 rfl rfl ?_
      refine v_iconst (pc := 15) 9 rfl ?_
      refine v_putI (pc := 16) 10 rfl fl_X11_13 rfl ?_
      refine v_aload_n (pc := 19) 11 rfl rfl ?_
      refine v_getR (pc := 20) 12 rfl fl_X11_24 rfl _ hsp ?_
      refine v_cV0 (pc := 23) 13 rfl cv_X11_79 (shC hc2) (Nat.le_of_ble_eq_true rfl) (Nat.le_of_ble_eq_true rfl) (c_forget (M := sI M 0 1 0) hc2) (fun r9 N9 hq9 => ?_)
      obtain ⟨rfl, f, rfl, hf⟩ := hq9
      generalize hN1 : aI (sI (sI (sI (sI M 0 1 0) c2 0 0) c2 1 0) c2 2 0) (c2 + 1) f = N1
      have g1 : ∀ q, q ≠ 0 → ¬ (c2 ≤ q ∧ q ≤ c2 + 10) → gI N1 q = gI M q := fun q q1 q2 => by rw [← hN1, gI_aI_ne (by omega), gI_sI_ne (by omega), gI_sI_ne (by omega), gI_sI_ne (by omega), gI_sI_ne q1]
      have g0 : gI N1 0 1 = 0 := by rw [← hN1, gI_aI_ne (by omega), gI_sI_ne (by omega), gI_sI_ne (by omega), gI_sI_ne (by omega), gI_sI, if_pos rfl, if_pos rfl]
      have gf : ∀ i, gI N1 (c2 + 1) i = f i := fun i => by rw [← hN1, gI_aI, if_pos rfl]
      have gz : gI N1 c2 0 = 0 ∧ gI N1 c2 1 = 0 ∧ gI N1 c2 2 = 0 := by
        rw [← hN1]
        refine ⟨?_, ?_, ?_⟩
        · rw [gI_aI_ne (by omega), gI_sI, if_pos rfl, if_neg (by decide), gI_sI, if_pos rfl, if_neg (by decide), gI_sI, if_pos rfl, if_pos rfl]
        · rw [gI_aI_ne (by omega), gI_sI, if_pos rfl, if_neg (by decide), gI_sI, if_pos rfl, if_pos rfl]
        · rw [gI_aI_ne (by omega), gI_sI, if_pos rfl, if_pos rfl]
      have gr9 : gR N1 = gR M := by rw [← hN1]; rfl
      have gl9 : gL N1 = gL M := by rw [← hN1]; rfl
      have hsp1 : gR N1 0 4 = c2 := by rw [gr9]; exact hsp
      show V G (d + 6) mX11_courts (23 + 3) _ [] _ _
      refine v_aload_n (pc := 26) 14 rfl rfl ?_
      refine v_getC (pc := 27) 15 rfl fl_X11_32 rfl 2 rfl ?_
      refine v_iload_n (pc := 30) 16 rfl rfl ?_
      refine v_aload_n (pc := 31) 17 rfl rfl ?_
      refine v_getR (pc := 32) 18 rfl fl_X11_24 rfl _ hsp1 ?_
      refine v_cV2 (pc := 35) 19 rfl cv_X11_82 rfl (Nat.le_of_ble_eq_true rfl) (Nat.le_of_ble_eq_true rfl) (c_rdStart (M := N1) (b := aB A) (n := n1) (by omega) (fun i hi => by rw [g1 1 (by decide) (by omega)]; exact (ht.2.2 i (by omega)).1) (fun i hi => (ht.2.2 i (by omega)).2)) (fun r9 N9 hq9 => ?_)
      obtain ⟨rfl, k1, k2, k3, k4, k5⟩ := hq9
      show V G (d + 6) mX11_courts (35 + 3) _ [] _ _
      refine v_iconst (pc := 38) 20 rfl ?_
      refine v_istore_n (pc := 39) 21 rfl ⟨Nat.le_of_ble_eq_true rfl, rfl⟩ ?_
      have r0 : gR N9 2 2 = c2 ∧ gR N9 0 3 = c ∧ gR N9 0 4 = c2 ∧ gR N9 8 0 = gR M 8 0 := by
        rw [k4]
        refine ⟨?_, ?_, ?_, ?_⟩
        · rw [gR_sR, if_pos rfl, if_pos rfl]
        · rw [gR_sR, if_neg (by decide), gr9]; exact h.2.1
        · rw [gR_sR, if_neg (by decide)]; exact hsp1
        · rw [gR_sR, if_neg (by decide), gr9]
      have hD : D0ok (tAt N9 c2) := fun a b ha hb => by
        show gI N9 (c2 + 1) (a * 5 + b) = _
        rw [k1 _ (by omega) (by omega), gf]; exact hf a b ha hb
      have hP := PS0 (c2 := c2) (N := N9) k2 (by rw [k1 c2 (by omega) (by omega)]; exact gz) k5 (by omega) (fun i hi => (ht.2.2 i (by omega)).2)
      have t0 : CRc N9 ((0, aB A), aT A, aS A, aU A, aK A) c c2 := by
        refine h.t0.same2 (fun q hq => ?_) ⟨r0.2.1.trans h.2.1.symm, r0.2.2.1.trans hsp.symm, r0.2.2.2⟩
        by_cases e0 : q = 0
        · subst e0
          funext i
          rw [k1 0 (by decide) (by decide), ← hN1, gI_aI_ne (by omega), gI_sI_ne (by omega), gI_sI_ne (by omega), gI_sI_ne (by omega)]
        · rw [k1 q (by omega) (by omega), g1 q e0 (by omega), gI_sI_ne e0]
      have cf0 : CF M N9 := fun q hq => ⟨by rw [k1 q (by omega) (by omega), g1 q (by omega) (by omega)], by rw [k3 q (by omega), gl9]⟩
      have agc : ∀ P, AgX c2 N9 P → CF M P := fun P hX => cf0.trans (fun q hq => ⟨hX.1 q (by omega) (by omega) (by omega) (by omega) (by omega) (by omega), hX.2.1 q (by omega) (by omega)⟩)
      refine V.mono (c_rdL hc hc2 r0.1 r0.2.1 r0.2.2.1 800 0 [] _ 0 N9 hP (LI0 hD) rfl) (fun r P hq => ⟨tAt N9 c2, hD, ?_⟩)
      unfold sCourts
      rw [if_pos hyes, Int.toNat_natCast]
      cases hR : rdS (aB A) n1 800 0 [] ((0, 0, 0), tAt N9 c2) 0 with
      | inl e9 =>
        have hq : r = some (.int (J e9)) ∧ PF c2 N9 P e9 := by
          have := hq
          rw [show ((0 : Nat) : Int) = 0 from rfl, hR] at this
          exact this
        refine ⟨hq.1, ⟨c, c2, t0.same2 (fun q hq2 => hq.2.1.1 q (by omega) (by omega) (by omega) (by omega) (by omega) (by omega)) ⟨by rw [hq.2.1.2.2], by rw [hq.2.1.2.2], by rw [hq.2.1.2.2]⟩⟩, agc P hq.2.1⟩
      | inr q9 =>
        have hq : r = some (.int (J q9.1)) ∧ ∃ N2 L2 p2, PS c2 N9 N2 (aB A) n1 p2 L2 q9.2 ∧ LI L2 q9.2 ∧ P = bwM N2 c c2 := by
          have := hq
          rw [show ((0 : Nat) : Int) = 0 from rfl, hR] at this
          exact this
        obtain ⟨hr, N2, L2, p2, hP2, hL2, rfl⟩ := hq
        have hX := hP2.1
        have eg : ∀ q, q = 0 ∨ q = 9 ∨ q = 10 ∨ q = 29 → gI N2 q = gI N9 q := fun q hq2 => hX.1 q (by omega) (by omega) (by omega) (by omega) (by omega) (by omega)
        refine ⟨hr, ⟨c2, c, bw_cr (A := A) hc9 hP2.2.2.2.1 hL2 hP2.2.2.2.2.1 ?_ ?_ ?_⟩, (agc N2 hX).trans (fun q hq2 => ⟨bw_ne (by omega), rfl⟩)⟩
        · have e9 : sOf N2 = aS A := by rw [← t0.eS]; unfold sOf; rw [eg 9 (by omega), eg 10 (by omega)]
          rw [e9]; exact h.sf
        · rw [eg 0 (by omega)]; exact t0.tp.1
        · rw [eg 29 (by omega)]; exact t0.ur.1
    · exact no (by omega)
end Cts
