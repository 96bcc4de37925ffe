/-! 64: the reference: the five lines -/
theorem no_mem {L : List Nm} {w : Int} (h : hasL L w = false) : ∀ i, i < L.length → (L.getD i (0, 0, 0)).1 ≠ w := by
  intro i hi z
  have hx : exB (fun i => decide ((L.getD i (0, 0, 0)).1 = w)) L.length = true := exB_true hi (decide_eq_true z)
  obtain ⟨j, h1, h2, h3⟩ := first9 hx
  have : fnd L w = (j : Int) := by unfold fnd; exact fst_at h1 h2 h3
  unfold hasL at h
  rw [this] at h
  have := of_decide_eq_false h
  omega
theorem fnd_app {L : List Nm} {e : Nm} {w : Int} : fnd (L ++ [e]) w = if fnd L w ≠ -1 then fnd L w else if e.1 = w then (L.length : Int) else -1 := by
  have hc : ∀ i, i < L.length → (fun i => decide (((L ++ [e]).getD i (0, 0, 0)).1 = w)) i = (fun i => decide ((L.getD i (0, 0, 0)).1 = w)) i := fun i hi => by
    show decide (((L ++ [e]).getD i (0, 0, 0)).1 = w) = decide ((L.getD i (0, 0, 0)).1 = w)
    rw [getD_app, if_neg (by omega)]
  unfold fnd
  rw [List.length_append]
  show fst (fun i => decide (((L ++ [e]).getD i (0, 0, 0)).1 = w)) (fun i => (i : Int)) (L.length + 1) = _
  have e1 : exB (fun i => decide (((L ++ [e]).getD i (0, 0, 0)).1 = w)) L.length = exB (fun i => decide ((L.getD i (0, 0, 0)).1 = w)) L.length := exB_congr hc
  have e2 : fst (fun i => decide (((L ++ [e]).getD i (0, 0, 0)).1 = w)) (fun i => (i : Int)) L.length = fst (fun i => decide ((L.getD i (0, 0, 0)).1 = w)) (fun i => (i : Int)) L.length := fst_congr hc (fun _ _ => rfl)
  show (if exB (fun i => decide (((L ++ [e]).getD i (0, 0, 0)).1 = w)) L.length = true then fst (fun i => decide (((L ++ [e]).getD i (0, 0, 0)).1 = w)) (fun i => (i : Int)) L.length else if decide (((L ++ [e]).getD L.length (0, 0, 0)).1 = w) = true then (L.length : Int) else -1) = _
  rw [e1, e2, getD_app, if_pos rfl]
  cases q : exB (fun i => decide ((L.getD i (0, 0, 0)).1 = w)) L.length with
  | true =>
    obtain ⟨j, h1, h2, h3⟩ := first9 q
    rw [if_pos rfl, if_pos (by rw [fst_at h1 h2 h3]; omega)]
  | false =>
    rw [fst_none q]
    by_cases z : e.1 = w
    · simp [z]
    · simp [z]
theorem num_app {L : List Nm} {w0 w : Int} {κ0 j0 κ : Nat} (hκ : κ ≠ κ0) : numL (L ++ [(w0, κ0, j0)]) w κ = numL L w κ := by
  have hb := fnd_b L w
  unfold numL
  rw [fnd_app]
  by_cases q : fnd L w ≠ -1
  · have hne : ¬ ((fnd L w).toNat = L.length) := by omega
    rw [if_pos q, getD_app, if_neg hne]
  · rw [if_neg q]
    rw [if_neg (show ¬ (fnd L w ≠ -1 ∧ _) from fun z => q z.1)]
    by_cases z : w0 = w
    · rw [if_pos z, Int.toNat_natCast, getD_app, if_pos rfl]
      exact if_neg (fun y => hκ y.2.symm)
    · rw [if_neg z]
      exact if_neg (fun y => y.1 rfl)
theorem told_app {b : Nat → Int} {n : Nat} {L : List Nm} {w0 : Int} {κ0 j0 κ : Nat} (hκ : κ ≠ κ0) (u : Int) (p : Nat) : rTold b n (L ++ [(w0, κ0, j0)]) κ u p = rTold b n L κ u p := by
  unfold rTold
  rw [num_app hκ]
theorem bars_app {b : Nat → Int} {n : Nat} {L : List Nm} {w0 : Int} {κ0 j0 : Nat} (hκ : 1 ≠ κ0) : ∀ (f : Nat) (u : Int) (p : Nat), rBars b n (L ++ [(w0, κ0, j0)]) f u p = rBars b n L f u p := by
  intro f
  induction f with
  | zero => intro u p; rfl
  | succ f ih =>
    intro u p
    show (if isW b n p 1650553459 = true then pbd (rTold b n (L ++ [(w0, κ0, j0)]) 1 u (nx b n p)) (fun q => rBars b n (L ++ [(w0, κ0, j0)]) f (setb u q.1.toNat) q.2) else .inr (u, p)) = (if isW b n p 1650553459 = true then pbd (rTold b n L 1 u (nx b n p)) (fun q => rBars b n L f (setb u q.1.toNat) q.2) else .inr (u, p))
    rw [told_app hκ]
    have : (fun q : Int × Nat => rBars b n (L ++ [(w0, κ0, j0)]) f (setb u q.1.toNat) q.2) = (fun q : Int × Nat => rBars b n L f (setb u q.1.toNat) q.2) := funext fun q => ih _ _
    rw [this]
section MLine
variable {G : Gt} {d : Nat} {M0 N : Mem} {k0 : Nat} {b : Nat → Int} {n p : Nat} {L : List Nm} {T : Tx}
/-- a write behind what is told -/
theorem PMs.gar (h : PMs M0 k0 N b n p L T) {q i : Nat} (v : Int) (hq : ((63 ≤ q ∧ q ≤ 66) ∧ i = 6 + nJ T) ∨ ((67 ≤ q ∧ q ≤ 71) ∧ i = 12 + nK T)) : PMs M0 k0 (sI N q i v) b n p L T := by
  obtain ⟨h1, ⟨a1, a2, a3, a4, a5, a6, a7⟩, h3, h4, ⟨t1, t2, t3, t4⟩, h6⟩ := h
  have e : ∀ x j, x ≠ q ∨ j ≠ i → gI (sI N q i v) x j = gI N x j := fun x j hx => by
    rw [gI_sI]
    by_cases g : x = q
    · rw [if_pos g, if_neg (by omega), g]
    · rw [if_neg g]
  refine ⟨h1.trans (frm_b _ (by omega)), ⟨fun j hj => by rw [e 55 j (by omega)]; exact a1 j hj, by rw [e 54 3 (by omega)]; exact a2, by rw [e 54 4 (by omega)]; exact a3, by rw [e 54 5 (by omega)]; exact a4, by rw [e 54 6 (by omega)]; exact a5, a6, by rw [e 54 7 (by omega)]; exact a7⟩, by rw [e 54 9 (by omega), e 54 12 (by omega)]; exact h3, h4, ⟨?_, fun x y hx hy hne => ?_, fun j hj => ?_, fun k hk => ?_⟩, h6⟩
  · rw [e 56 1 (by omega), e 57 1 (by omega), e 58 1 (by omega)]; exact t1
  · rw [e 62 _ (by omega)]; exact t2 x y hx hy hne
  · rw [e 63 _ (by omega), e 64 _ (by omega), e 65 _ (by omega), e 66 _ (by omega)]; exact t3 j hj
  · rw [e 67 _ (by omega), e 68 _ (by omega), e 69 _ (by omega), e 70 _ (by omega), e 71 _ (by omega)]; exact t4 k hk
/-- a name told -/
theorem PMs.add (h : PMs M0 k0 N b n p L T) {κ : Nat} (hκ : κ < 3) {w : Int} (hw : vd 7 w = true) (hno : hasL L w = false) {T2 : Tx} (hc : ∀ x, x < 3 → cnt T2 x = if x = κ then cnt T κ + 1 else cnt T x) (hT : TR (sI (sL N (59 + κ) (off κ + cnt T κ) (JL (e5 w))) (56 + κ) 1 ((cnt T κ : Int) + 1)) T2) (hL : LI (L ++ [(w, κ, cnt T κ)]) T2) :
    PMs M0 k0 (sI (sL N (59 + κ) (off κ + cnt T κ) (JL (e5 w))) (56 + κ) 1 ((cnt T κ : Int) + 1)) b n p (L ++ [(w, κ, cnt T κ)]) T2 := by
  obtain ⟨h1, ⟨a1, a2, a3, a4, a5, a6, a7⟩, h3, ⟨h4, ⟨v1, v2, v3⟩, h4c⟩, h5, h6⟩ := h
  have e : ∀ x, x ≠ 56 + κ → gI (sI (sL N (59 + κ) (off κ + cnt T κ) (JL (e5 w))) (56 + κ) 1 ((cnt T κ : Int) + 1)) x = gI N x := fun x hx => by rw [gI_sI_ne hx]; rfl
  have hnm := no_mem hno
  refine ⟨(h1.trans (frm_L _ (by omega))).trans (frm_b _ (by omega)), ⟨fun j hj => by rw [e 55 (by omega)]; exact a1 j hj, by rw [e 54 (by omega)]; exact a2, by rw [e 54 (by omega)]; exact a3, by rw [e 54 (by omega)]; exact a4, by rw [e 54 (by omega)]; exact a5, fun z => by rw [gL_sI, gL_sL_ne (by omega)]; exact a6 z, by rw [e 54 (by omega)]; exact a7⟩, by rw [e 54 (by omega)]; exact h3, ⟨fun i hi => ?_, ⟨fun i hi => ?_, fun i j hi hj hne => ?_, fun x hx k hk => ?_⟩, hL⟩, hT, h6⟩
  · rw [List.length_append] at hi
    rw [getD_app, gL_sI]
    by_cases g : i = L.length
    · rw [if_pos g, gL_sL, if_pos rfl, if_pos rfl]
    · rw [if_neg g]
      have hi2 : i < L.length := by have : [((w, κ, cnt T κ) : Nm)].length = 1 := rfl; omega
      have := v1 i hi2
      rw [gL_sL]
      by_cases g2 : 59 + (L.getD i (0, 0, 0)).2.1 = 59 + κ
      · have g3 : (L.getD i (0, 0, 0)).2.1 = κ := by omega
        rw [if_pos g2, g3, if_neg (by rw [g3] at this; omega)]
        have := h4 i hi2
        rw [g3] at this
        exact this
      · rw [if_neg g2]; exact h4 i hi2
  · rw [List.length_append] at hi
    rw [getD_app]
    by_cases g : i = L.length
    · rw [if_pos g]
      exact ⟨hκ, hw, by show cnt T κ < cnt T2 κ; rw [hc κ hκ, if_pos rfl]; omega⟩
    · rw [if_neg g]
      have hi2 : i < L.length := by have : [((w, κ, cnt T κ) : Nm)].length = 1 := rfl; omega
      obtain ⟨x1, x2, x3⟩ := v1 i hi2
      refine ⟨x1, x2, ?_⟩
      rw [hc _ x1]
      split
      · rename_i g2; rw [← g2]; omega
      · exact x3
  · rw [List.length_append] at hi hj
    have e1 : [((w, κ, cnt T κ) : Nm)].length = 1 := rfl
    rw [getD_app, getD_app]
    by_cases g : i = L.length
    · rw [if_pos g, if_neg (by omega)]
      exact fun z => hnm j (by omega) z.symm
    · rw [if_neg g]
      by_cases g2 : j = L.length
      · rw [if_pos g2]; exact hnm i (by omega)
      · rw [if_neg g2]; exact v2 i j (by omega) (by omega) hne
  · rw [hc x hx] at hk
    have e1 : [((w, κ, cnt T κ) : Nm)].length = 1 := rfl
    by_cases g : x = κ ∧ k = cnt T κ
    · refine ⟨L.length, by rw [List.length_append]; omega, ?_⟩
      rw [getD_app, if_pos rfl, g.1, g.2]
    · have hk2 : k < cnt T x := by
        by_cases g2 : x = κ
        · rw [if_pos g2] at hk; rw [g2]; omega
        · rw [if_neg g2] at hk; exact hk
      obtain ⟨i, hi, he⟩ := v3 x hx k hk2
      refine ⟨i, by rw [List.length_append]; omega, ?_⟩
      rw [getD_app, if_neg (by omega)]
      exact he
def RM (M0 : Mem) (k0 : Nat) (b : Nat → Int) (n : Nat) (R : LR) : Option Value → Mem → Prop := fun r N2 => onR R (fun e => r = some (.int (J 0)) ∧ PMf M0 N2 e) (fun q => r = some (.int (J 1)) ∧ PMs M0 k0 N2 b n q.2.2 q.1 q.2.1)
variable (b n) in
def zTown (L : List Nm) (T : Tx) (p : Nat) : LR := pbd (rNew b n L 0 (nT T) p) (fun q => .inr (q.1, tTown T, q.2))
variable (b n) in
def zRoad (L : List Nm) (T : Tx) (p : Nat) : LR := pbd (rTold b n L 0 0 p) (fun q => pbd (rTold b n L 0 ((2 ^ q.1.toNat : Nat) : Int) q.2) (fun r => pbd (rNum b n 0 9 r.2) (fun s => .inr (L, tRoad T q.1.toNat r.1.toNat s.1, s.2))))
variable (b n) in
def zJudge (L : List Nm) (T : Tx) (p : Nat) : LR := pbd (rNew b n L 1 (nJ T) p) (fun q => pbd (rTold b n q.1 0 0 q.2) (fun r => pbd (rNum b n 60 600 r.2) (fun s => pbd (rSorts b n 5 0 s.2) (fun t => .inr (q.1, tJudge T r.1 s.1 t.1, t.2)))))
variable (b n) in
def zQuar (L : List Nm) (T : Tx) (p : Nat) : LR := pbd (rTold b n L 1 0 p) (fun q => pbd (rTold b n L 1 ((2 ^ q.1.toNat : Nat) : Int) q.2) (fun r => .inr (L, tQuar T q.1.toNat r.1.toNat, r.2)))
variable (b n) in
def zCase (L : List Nm) (T : Tx) (p : Nat) : LR := pbd (rNew b n L 2 (nK T) p) (fun q => pbd (rTold b n q.1 0 0 q.2) (fun r => pbd (rSort b n 0 r.2) (fun s => pbd (rNum b n 0 60 s.2) (fun f => pbd (rNum b n 10 300 f.2) (fun l => pbd (rBars b n q.1 7 0 l.2) (fun u => .inr (q.1, tCase T r.1 s.1 f.1 l.1 u.1, u.2)))))))
theorem pbd_pbd {α β γ : Type} (x : Int ⊕ α) (f : α → Int ⊕ β) (g : β → Int ⊕ γ) : pbd (pbd x f) g = pbd x (fun a => pbd (f a) g) := by cases x <;> rfl
def zEnd (b : Nat → Int) (n : Nat) (R : LR) : LR := pbd R (fun x => pbd (rEnd b n x.2.2) (fun p2 => .inr (x.1, x.2.1, p2)))
theorem z_town : lnTown b n L T p = zEnd b n (zTown b n L T (nx b n p)) := by unfold lnTown zEnd zTown; rw [pbd_pbd]; rfl
theorem z_road : lnRoad b n L T p = zEnd b n (zRoad b n L T (nx b n p)) := by unfold lnRoad zEnd zRoad; simp only [pbd_pbd]; rfl
theorem z_judge : lnJudge b n L T p = zEnd b n (zJudge b n L T (nx b n p)) := by unfold lnJudge zEnd zJudge; simp only [pbd_pbd]; rfl
theorem z_quar : lnQuar b n L T p = zEnd b n (zQuar b n L T (nx b n p)) := by unfold lnQuar zEnd zQuar; simp only [pbd_pbd]; rfl
theorem z_case : lnCase b n L T p = zEnd b n (zCase b n L T (nx b n p)) := by unfold lnCase zEnd zCase; simp only [pbd_pbd]; rfl
theorem m_townLine (h : PMs M0 k0 N b n p L T) (hc : nT T < 5) : V G (d + 9) mX12_townLine 0 [some (.ref 54)] [] N (RM M0 k0 b n (zTown b n L T p)) := by
  unfold zTown rNew
  have c0 := m_newName (G := G) (d := d) h
  cases q : isNm b n p with
  | false =>
    rw [if_pos rfl]
    rw [q] at c0
    refine v_aload_n (pc := 0) 0 rfl rfl ?_
    refine v_cV0 (pc := 1) 1 rfl cv_X12_221 rfl (Nat.le_of_ble_eq_true rfl) (Nat.le_of_ble_eq_true rfl) (c0) (fun r9 N9 hq9 => ?_)
    obtain ⟨rfl, hF⟩ := hq9
    show V G (d + 9) mX12_townLine (1 + 3) _ [.int (J 0)] _ _
    refine v_if_neF (pc := 4) 2 9 rfl (by decide) (by omega) (by decide) ?_
    refine v_iconst (pc := 7) 3 rfl ?_
    refine v_zret (pc := 8) 4 rfl rfl (by decide) ⟨rfl, hF⟩
  | true =>
    rw [if_neg (by decide)]
    rw [q] at c0
    cases q2 : hasL L (wv b n p) with
    | true =>
      rw [if_pos rfl]
      rw [q2] at c0
      refine v_aload_n (pc := 0) 0 rfl rfl ?_
      refine v_cV0 (pc := 1) 1 rfl cv_X12_221 rfl (Nat.le_of_ble_eq_true rfl) (Nat.le_of_ble_eq_true rfl) (c0) (fun r9 N9 hq9 => ?_)
      obtain ⟨rfl, hF⟩ := hq9
      show V G (d + 9) mX12_townLine (1 + 3) _ [.int (J 0)] _ _
      refine v_if_neF (pc := 4) 2 9 rfl (by decide) (by omega) (by decide) ?_
      refine v_iconst (pc := 7) 3 rfl ?_
      refine v_zret (pc := 8) 4 rfl rfl (by decide) ⟨rfl, hF⟩
    | false =>
      rw [if_neg (by decide)]
      rw [q2] at c0
      refine v_aload_n (pc := 0) 0 rfl rfl ?_
      refine v_cV0 (pc := 1) 1 rfl cv_X12_221 rfl (Nat.le_of_ble_eq_true rfl) (Nat.le_of_ble_eq_true rfl) (c0) (fun r9 N9 hq9 => ?_)
      obtain ⟨rfl, h29, hv, hP⟩ := hq9
      show V G (d + 9) mX12_townLine (1 + 3) _ [.int (J 1)] _ _
      have hb := hP.2.2.1.2
      have hn := hP.2.2.2.2.1.1.1
      have hLI := hP.2.2.2.1.2.2
      have hLt := li_town hLI hc (wv b n p)
      obtain ⟨t1, t2, t3, t4⟩ := hP.2.2.2.2.1
      have hA := hP.add (κ := 0) (by decide) hv q2 (T2 := tTown T) (fun x hx => by
        rcases (show x = 0 ∨ x = 1 ∨ x = 2 by omega) with e | e | e <;> subst e <;> rfl) (by
        refine ⟨⟨?_, ?_, ?_⟩, t2, t3, t4⟩
        · rw [gI_sI, if_pos rfl, if_pos rfl]; rfl
        · rw [gI_sI_ne (by decide)]; exact t1.2.1
        · rw [gI_sI_ne (by decide)]; exact t1.2.2) hLt
      generalize wv b n p = w at *
      have e1 : gI (sL N9 59 (5 + nT T) (JL (e5 w))) 54 12 = 1 := hb
      have e2 : gI (sL N9 59 (5 + nT T) (JL (e5 w))) 56 1 = (nT T : Int) := hn
      refine v_if_neT (pc := 4) 2 9 rfl (by decide) (by omega) (by decide) ?_
      refine v_aload_n (pc := 9) 5 rfl rfl ?_
      refine v_getC (pc := 10) 6 rfl fl_X12_23 rfl 59 rfl ?_
      refine v_iconst (pc := 13) 7 rfl ?_
      refine v_aload_n (pc := 14) 8 rfl rfl ?_
      refine v_getI (pc := 15) 9 rfl fl_X12_199 rfl ?_
      rw [hb]
      refine v_imul (pc := 18) 10 rfl ?_
      refine v_aload_n (pc := 19) 11 rfl rfl ?_
      refine v_getC (pc := 20) 12 rfl fl_X12_13 rfl 56 rfl ?_
      refine v_aload_n (pc := 23) 13 rfl rfl ?_
      refine v_getI (pc := 24) 14 rfl fl_X12_199 rfl ?_
      rw [hb]
      refine v_ialdE (pc := 27) 15 rfl rfl 1 (by omega) ?_
      rw [hn]
      refine v_iadd (pc := 28) 16 rfl ?_
      refine v_aload_n (pc := 29) 17 rfl rfl ?_
      refine v_getL (pc := 30) 18 rfl fl_X12_215 rfl ?_
      rw [h29]
      refine v_lastE (pc := 33) 19 rfl rfl (5 + nT T) (by omega) ?_
      refine v_aload_n (pc := 34) 20 rfl rfl ?_
      refine v_getC (pc := 35) 21 rfl fl_X12_13 rfl 56 rfl ?_
      refine v_aload_n (pc := 38) 22 rfl rfl ?_
      refine v_getI (pc := 39) 23 rfl fl_X12_199 rfl ?_
      rw [e1]
      refine v_dup2 (pc := 42) 24 rfl ⟨rfl, rfl⟩ ?_
      refine v_ialdE (pc := 43) 25 rfl rfl 1 (by omega) ?_
      rw [e2]
      refine v_iconst (pc := 44) 26 rfl ?_
      refine v_iadd (pc := 45) 27 rfl ?_
      refine v_iastE (pc := 46) 28 rfl rfl 1 (by omega) ?_
      refine v_iconst (pc := 47) 29 rfl ?_
      refine v_zret (pc := 48) 30 rfl rfl (by decide) ⟨rfl, hA⟩
theorem m_roadLine (h : PMs M0 k0 N b n p L T) : V G (d + 9) mX12_roadLine 0 [some (.ref 54), none, none] [] N (RM M0 k0 b n (zRoad b n L T p)) := by
  unfold zRoad
  have hLI := h.2.2.2.1.2.2
  have c0 := m_takesTold (G := G) (d := d) h (x := true) (κ := 0) rfl (bu := -1) (u := 0) (Or.inl ⟨rfl, rfl⟩)
  cases hR : rTold b n L 0 0 p with
  | inl e =>
    rw [hR] at c0
    refine v_aload_n (pc := 0) 0 rfl rfl ?_
    refine v_iconst (pc := 1) 1 rfl ?_
    refine v_iconst (pc := 2) 2 rfl ?_
    refine v_cV2 (pc := 3) 3 rfl cv_X12_224 rfl (Nat.le_of_ble_eq_true rfl) (Nat.le_of_ble_eq_true rfl) (c0) (fun r9 N9 hq9 => ?_)
    obtain ⟨rfl, hF⟩ := hq9
    show V G (d + 9) mX12_roadLine (3 + 3) _ [.int (J 0)] _ _
    refine v_if_neF (pc := 6) 4 11 rfl (by decide) (by omega) (by decide) ?_
    refine v_iconst (pc := 9) 5 rfl ?_
    refine v_zret (pc := 10) 6 rfl rfl (by decide) ⟨rfl, hF⟩
  | inr q =>
    rw [hR] at c0
    obtain ⟨qb, -, i1, i2, i3, i4⟩ := told_b (by decide) hLI.nm hR
    have qT := (hLI.2.1 i1 i2).1 i3
    obtain ⟨a, ha⟩ : ∃ a : Nat, q.1 = (a : Int) := ⟨q.1.toNat, by omega⟩
    refine v_aload_n (pc := 0) 0 rfl rfl ?_
    refine v_iconst (pc := 1) 1 rfl ?_
    refine v_iconst (pc := 2) 2 rfl ?_
    refine v_cV2 (pc := 3) 3 rfl cv_X12_224 rfl (Nat.le_of_ble_eq_true rfl) (Nat.le_of_ble_eq_true rfl) (c0) (fun r9 N9 hq9 => ?_)
    obtain ⟨rfl, f30, ag, hP⟩ := hq9
    show V G (d + 9) mX12_roadLine (3 + 3) _ [.int (J 1)] _ _
    rw [ha] at f30
    have c1 := m_takesTold (G := G) (d := d) hP (x := true) (κ := 0) rfl (bu := (a : Int)) (u := ((2 ^ a : Nat) : Int)) (Or.inr ⟨a, by omega, rfl, rfl⟩)
    show V G (d + 9) mX12_roadLine (3 + 3) _ [.int (J 1)] _ (RM M0 k0 b n (pbd (rTold b n L 0 ((2 ^ q.1.toNat : Nat) : Int) q.2) (fun r => pbd (rNum b n 0 9 r.2) (fun s => .inr (L, tRoad T q.1.toNat r.1.toNat s.1, s.2)))))
    rw [ha, Int.toNat_natCast]
    refine v_if_neT (pc := 6) 4 11 rfl (by decide) (by omega) (by decide) ?_
    refine v_aload_n (pc := 11) 7 rfl rfl ?_
    refine v_getI (pc := 12) 8 rfl fl_X12_218 rfl ?_
    rw [f30]
    refine v_istore_n (pc := 15) 9 rfl ⟨Nat.le_of_ble_eq_true rfl, rfl⟩ ?_
    cases hR2 : rTold b n L 0 ((2 ^ a : Nat) : Int) q.2 with
    | inl e =>
      rw [hR2] at c1
      refine v_aload_n (pc := 16) 10 rfl rfl ?_
      refine v_iconst (pc := 17) 11 rfl ?_
      refine v_iload_n (pc := 18) 12 rfl rfl ?_
      refine v_cV2 (pc := 19) 13 rfl cv_X12_224 rfl (Nat.le_of_ble_eq_true rfl) (Nat.le_of_ble_eq_true rfl) (c1) (fun r9 N9 hq9 => ?_)
      obtain ⟨rfl, hF⟩ := hq9
      show V G (d + 9) mX12_roadLine (19 + 3) _ [.int (J 0)] _ _
      refine v_if_neF (pc := 22) 14 27 rfl (by decide) (by omega) (by decide) ?_
      refine v_iconst (pc := 25) 15 rfl ?_
      refine v_zret (pc := 26) 16 rfl rfl (by decide) ⟨rfl, hF⟩
    | inr q2 =>
      rw [hR2] at c1
      obtain ⟨qb2, qb3, j1, j2, j3, j4⟩ := told_b (by decide) hLI.nm hR2
      have qT2 := (hLI.2.1 j1 j2).1 j3
      obtain ⟨a2, ha2⟩ : ∃ a2 : Nat, q2.1 = (a2 : Int) := ⟨q2.1.toNat, by omega⟩
      have hne : a ≠ a2 := by
        have := bt_pow6 ⟨a, by omega⟩ ⟨a2, by omega⟩ (by rw [ha2] at qb3; exact qb3)
        intro z; exact this (Fin.ext z)
      refine v_aload_n (pc := 16) 10 rfl rfl ?_
      refine v_iconst (pc := 17) 11 rfl ?_
      refine v_iload_n (pc := 18) 12 rfl rfl ?_
      refine v_cV2 (pc := 19) 13 rfl cv_X12_224 rfl (Nat.le_of_ble_eq_true rfl) (Nat.le_of_ble_eq_true rfl) (c1) (fun r9 N9 hq9 => ?_)
      obtain ⟨rfl, g30, ag2, hP2⟩ := hq9
      show V G (d + 9) mX12_roadLine (19 + 3) _ [.int (J 1)] _ (RM M0 k0 b n (pbd (rNum b n 0 9 q2.2) (fun s => .inr (L, tRoad T a q2.1.toNat s.1, s.2))))
      rw [ha2] at g30
      rw [ha2, Int.toNat_natCast]
      have c2 := m_takesNumber (G := G) (d := d + 6) hP2 (lo := 0) (hi := 9) (by decide) (by decide)
      refine v_if_neT (pc := 22) 14 27 rfl (by decide) (by omega) (by decide) ?_
      refine v_aload_n (pc := 27) 17 rfl rfl ?_
      refine v_getI (pc := 28) 18 rfl fl_X12_218 rfl ?_
      rw [g30]
      refine v_istore_n (pc := 31) 19 rfl ⟨Nat.le_of_ble_eq_true rfl, rfl⟩ ?_
      cases hR3 : rNum b n 0 9 q2.2 with
      | inl e =>
        rw [hR3] at c2
        refine v_aload_n (pc := 32) 20 rfl rfl ?_
        refine v_iconst (pc := 33) 21 rfl ?_
        refine v_bipush (pc := 34) 22 rfl (by decide) ?_
        refine v_cV2 (pc := 36) 23 rfl cv_X12_227 rfl (Nat.le_of_ble_eq_true rfl) (Nat.le_of_ble_eq_true rfl) (c2) (fun r9 N9 hq9 => ?_)
        obtain ⟨rfl, hF⟩ := hq9
        show V G (d + 9) mX12_roadLine (36 + 3) _ [.int (J 0)] _ _
        refine v_if_neF (pc := 39) 24 44 rfl (by decide) (by omega) (by decide) ?_
        refine v_iconst (pc := 42) 25 rfl ?_
        refine v_zret (pc := 43) 26 rfl rfl (by decide) ⟨rfl, hF⟩
      | inr q3 =>
        rw [hR3] at c2
        have nb := num_b hR3
        refine v_aload_n (pc := 32) 20 rfl rfl ?_
        refine v_iconst (pc := 33) 21 rfl ?_
        refine v_bipush (pc := 34) 22 rfl (by decide) ?_
        refine v_cV2 (pc := 36) 23 rfl cv_X12_227 rfl (Nat.le_of_ble_eq_true rfl) (Nat.le_of_ble_eq_true rfl) (c2) (fun r9 N9 hq9 => ?_)
        obtain ⟨rfl, f11, ag3, hP3⟩ := hq9
        show V G (d + 9) mX12_roadLine (36 + 3) _ [.int (J 1)] _ (RM M0 k0 b n (.inr (L, tRoad T a a2 q3.1, q3.2)))
        have hb := hP3.2.2.1.2
        obtain ⟨h1, ⟨a1, a2', a3, a4, a5, a6, a7⟩, h3, ⟨h4, ⟨v1, v2, v3⟩, h4c⟩, ⟨t1, t2, t3, t4⟩, h6⟩ := hP3
        have n5 := hLI.1.1
        have hA5 : a < 5 ∧ a2 < 5 := by omega
        have ix : ∀ x y : Nat, x < 5 → y < 5 → ∀ c e : Nat, c < 5 → e < 5 → ((x * 5 + y = c * 5 + e) ↔ (x = c ∧ y = e)) ∧ ((25 + (5 * x + y) = 25 + (5 * c + e)) ↔ (x = c ∧ y = e)) := fun x y hx hy c e hc he => by omega
        have hfin : PMs M0 k0 (sI (sI N9 62 (25 + (5 * a + a2)) q3.1) 62 (25 + (5 * a2 + a)) q3.1) b n q3.2 L (tRoad T a a2 q3.1) := by
          have e : ∀ x, x ≠ 62 → gI (sI (sI N9 62 (25 + (5 * a + a2)) q3.1) 62 (25 + (5 * a2 + a)) q3.1) x = gI N9 x := fun x hx => by rw [gI_sI_ne hx, gI_sI_ne hx]
          refine ⟨(h1.trans (frm_b _ (by omega))).trans (frm_b _ (by omega)), ⟨fun j hj => by rw [e 55 (by decide)]; exact a1 j hj, by rw [e 54 (by decide)]; exact a2', by rw [e 54 (by decide)]; exact a3, by rw [e 54 (by decide)]; exact a4, by rw [e 54 (by decide)]; exact a5, a6, by rw [e 54 (by decide)]; exact a7⟩, by rw [e 54 (by decide)]; exact h3, ⟨h4, ⟨v1, v2, v3⟩, li_road hLI (by omega) (by omega) hne nb⟩, ⟨by rw [e 56 (by decide), e 57 (by decide), e 58 (by decide)]; exact t1, fun x y hx hy hxy => ?_, fun j hj => by rw [e 63 (by decide), e 64 (by decide), e 65 (by decide), e 66 (by decide)]; exact t3 j hj, fun k hk => by rw [e 67 (by decide), e 68 (by decide), e 69 (by decide), e 70 (by decide), e 71 (by decide)]; exact t4 k hk⟩, h6⟩
          show _ = upT (upT T.2 1 (a * 5 + a2) q3.1) 1 (a2 * 5 + a) q3.1 1 (x * 5 + y)
          rw [upT_eq, upT_eq, gI_sI, if_pos rfl, gI_sI, if_pos rfl]
          obtain ⟨i1', i2'⟩ := ix x y hx hy a2 a hA5.2 hA5.1
          obtain ⟨i3', i4'⟩ := ix x y hx hy a a2 hA5.1 hA5.2
          by_cases g1 : x = a2 ∧ y = a
          · rw [if_pos (i2'.mpr g1), if_pos (i1'.mpr g1)]
          · rw [if_neg (fun z => g1 (i2'.mp z)), if_neg (fun z => g1 (i1'.mp z))]
            by_cases g2 : x = a ∧ y = a2
            · rw [if_pos (i4'.mpr g2), if_pos (i3'.mpr g2)]
            · rw [if_neg (fun z => g2 (i4'.mp z)), if_neg (fun z => g2 (i3'.mp z))]
              exact t2 x y hx hy hxy
        have e12 : gI (sI N9 62 (25 + (5 * a + a2)) q3.1) 54 12 = 1 := by rw [gI_sI_ne (by decide)]; exact hb
        have e11 : gI (sI N9 62 (25 + (5 * a + a2)) q3.1) 54 11 = q3.1 := by rw [gI_sI_ne (by decide)]; exact f11
        refine v_if_neT (pc := 39) 24 44 rfl (by decide) (by omega) (by decide) ?_
        refine v_aload_n (pc := 44) 27 rfl rfl ?_
        refine v_getC (pc := 45) 28 rfl fl_X12_33 rfl 62 rfl ?_
        refine v_bipush (pc := 48) 29 rfl (by decide) ?_
        refine v_aload_n (pc := 50) 30 rfl rfl ?_
        refine v_getI (pc := 51) 31 rfl fl_X12_199 rfl ?_
        rw [hb]
        refine v_imul (pc := 54) 32 rfl ?_
        refine v_iconst (pc := 55) 33 rfl ?_
        refine v_iload_n (pc := 56) 34 rfl rfl ?_
        refine v_imul (pc := 57) 35 rfl ?_
        refine v_iadd (pc := 58) 36 rfl ?_
        refine v_iload_n (pc := 59) 37 rfl rfl ?_
        refine v_iadd (pc := 60) 38 rfl ?_
        refine v_aload_n (pc := 61) 39 rfl rfl ?_
        refine v_getI (pc := 62) 40 rfl fl_X12_193 rfl ?_
        rw [f11]
        refine v_iastE (pc := 65) 41 rfl rfl (25 + (5 * a + a2)) (by omega) ?_
        refine v_aload_n (pc := 66) 42 rfl rfl ?_
        refine v_getC (pc := 67) 43 rfl fl_X12_33 rfl 62 rfl ?_
        refine v_bipush (pc := 70) 44 rfl (by decide) ?_
        refine v_aload_n (pc := 72) 45 rfl rfl ?_
        refine v_getI (pc := 73) 46 rfl fl_X12_199 rfl ?_
        rw [e12]
        refine v_imul (pc := 76) 47 rfl ?_
        refine v_iconst (pc := 77) 48 rfl ?_
        refine v_iload_n (pc := 78) 49 rfl rfl ?_
        refine v_imul (pc := 79) 50 rfl ?_
        refine v_iadd (pc := 80) 51 rfl ?_
        refine v_iload_n (pc := 81) 52 rfl rfl ?_
        refine v_iadd (pc := 82) 53 rfl ?_
        refine v_aload_n (pc := 83) 54 rfl rfl ?_
        refine v_getI (pc := 84) 55 rfl fl_X12_193 rfl ?_
        rw [e11]
        refine v_iastE (pc := 87) 56 rfl rfl (25 + (5 * a2 + a)) (by omega) ?_
        refine v_iconst (pc := 88) 57 rfl ?_
        refine v_zret (pc := 89) 58 rfl rfl (by decide) ⟨rfl, hfin⟩
theorem m_quarrelLine (h : PMs M0 k0 N b n p L T) : V G (d + 9) mX12_quarrelLine 0 [some (.ref 54), none] [] N (RM M0 k0 b n (zQuar b n L T p)) := by
  unfold zQuar
  have hLI := h.2.2.2.1.2.2
  have c0 := m_takesTold (G := G) (d := d) h (x := false) (κ := 1) rfl (bu := -1) (u := 0) (Or.inl ⟨rfl, rfl⟩)
  cases hR : rTold b n L 1 0 p with
  | inl e =>
    rw [hR] at c0
    refine v_aload_n (pc := 0) 0 rfl rfl ?_
    refine v_iconst (pc := 1) 1 rfl ?_
    refine v_iconst (pc := 2) 2 rfl ?_
    refine v_cV2 (pc := 3) 3 rfl cv_X12_224 rfl (Nat.le_of_ble_eq_true rfl) (Nat.le_of_ble_eq_true rfl) (c0) (fun r9 N9 hq9 => ?_)
    obtain ⟨rfl, hF⟩ := hq9
    show V G (d + 9) mX12_quarrelLine (3 + 3) _ [.int (J 0)] _ _
    refine v_if_neF (pc := 6) 4 11 rfl (by decide) (by omega) (by decide) ?_
    refine v_iconst (pc := 9) 5 rfl ?_
    refine v_zret (pc := 10) 6 rfl rfl (by decide) ⟨rfl, hF⟩
  | inr q =>
    rw [hR] at c0
    obtain ⟨qb, -, i1, i2, i3, i4⟩ := told_b (by decide) hLI.nm hR
    have qT := (hLI.2.1 i1 i2).2.1 i3
    obtain ⟨a, ha⟩ : ∃ a : Nat, q.1 = (a : Int) := ⟨q.1.toNat, by omega⟩
    refine v_aload_n (pc := 0) 0 rfl rfl ?_
    refine v_iconst (pc := 1) 1 rfl ?_
    refine v_iconst (pc := 2) 2 rfl ?_
    refine v_cV2 (pc := 3) 3 rfl cv_X12_224 rfl (Nat.le_of_ble_eq_true rfl) (Nat.le_of_ble_eq_true rfl) (c0) (fun r9 N9 hq9 => ?_)
    obtain ⟨rfl, f30, ag, hP⟩ := hq9
    rw [ha] at f30
    have c1 := m_takesTold (G := G) (d := d) hP (x := false) (κ := 1) rfl (bu := (a : Int)) (u := ((2 ^ a : Nat) : Int)) (Or.inr ⟨a, by omega, rfl, rfl⟩)
    show V G (d + 9) mX12_quarrelLine (3 + 3) _ [.int (J 1)] _ (RM M0 k0 b n (pbd (rTold b n L 1 ((2 ^ q.1.toNat : Nat) : Int) q.2) (fun r => .inr (L, tQuar T q.1.toNat r.1.toNat, r.2))))
    rw [ha, Int.toNat_natCast]
    refine v_if_neT (pc := 6) 4 11 rfl (by decide) (by omega) (by decide) ?_
    refine v_aload_n (pc := 11) 7 rfl rfl ?_
    refine v_getI (pc := 12) 8 rfl fl_X12_218 rfl ?_
    rw [f30]
    refine v_istore_n (pc := 15) 9 rfl ⟨Nat.le_of_ble_eq_true rfl, rfl⟩ ?_
    cases hR2 : rTold b n L 1 ((2 ^ a : Nat) : Int) q.2 with
    | inl e =>
      rw [hR2] at c1
      refine v_aload_n (pc := 16) 10 rfl rfl ?_
      refine v_iconst (pc := 17) 11 rfl ?_
      refine v_iload_n (pc := 18) 12 rfl rfl ?_
      refine v_cV2 (pc := 19) 13 rfl cv_X12_224 rfl (Nat.le_of_ble_eq_true rfl) (Nat.le_of_ble_eq_true rfl) (c1) (fun r9 N9 hq9 => ?_)
      obtain ⟨rfl, hF⟩ := hq9
      show V G (d + 9) mX12_quarrelLine (19 + 3) _ [.int (J 0)] _ _
      refine v_if_neF (pc := 22) 14 27 rfl (by decide) (by omega) (by decide) ?_
      refine v_iconst (pc := 25) 15 rfl ?_
      refine v_zret (pc := 26) 16 rfl rfl (by decide) ⟨rfl, hF⟩
    | inr q2 =>
      rw [hR2] at c1
      obtain ⟨qb2, qb3, j1, j2, j3, j4⟩ := told_b (by decide) hLI.nm hR2
      have qT2 := (hLI.2.1 j1 j2).2.1 j3
      obtain ⟨a2, ha2⟩ : ∃ a2 : Nat, q2.1 = (a2 : Int) := ⟨q2.1.toNat, by omega⟩
      have hne : a ≠ a2 := by
        have := bt_pow6 ⟨a, by omega⟩ ⟨a2, by omega⟩ (by rw [ha2] at qb3; exact qb3)
        intro z; exact this (Fin.ext z)
      refine v_aload_n (pc := 16) 10 rfl rfl ?_
      refine v_iconst (pc := 17) 11 rfl ?_
      refine v_iload_n (pc := 18) 12 rfl rfl ?_
      refine v_cV2 (pc := 19) 13 rfl cv_X12_224 rfl (Nat.le_of_ble_eq_true rfl) (Nat.le_of_ble_eq_true rfl) (c1) (fun r9 N9 hq9 => ?_)
      obtain ⟨rfl, g30, ag2, hP2⟩ := hq9
      show V G (d + 9) mX12_quarrelLine (19 + 3) _ [.int (J 1)] _ (RM M0 k0 b n (.inr (L, tQuar T a q2.1.toNat, q2.2)))
      rw [ha2] at g30
      rw [ha2, Int.toNat_natCast]
      have hb := hP2.2.2.1.2
      obtain ⟨h1, ⟨a1, a2', a3, a4, a5, a6, a7⟩, h3, ⟨h4, ⟨v1, v2, v3⟩, h4c⟩, ⟨t1, t2, t3, t4⟩, h6⟩ := hP2
      have n6 := hLI.1.2.1
      have qa := (t3 a (by omega)).2.2.2
      have qa2 := (t3 a2 (by omega)).2.2.2
      have ra := (hLI.2.2.1 a (by omega)).2.2.2
      have ra2 := (hLI.2.2.1 a2 (by omega)).2.2.2
      have sa := setb_b ra (b := a2) (by omega)
      have hfin : PMs M0 k0 (sI (sI N9 66 (6 + a) (setb (qu T a) a2)) 66 (6 + a2) (setb (qu T a2) a)) b n q2.2 L (tQuar T a a2) := by
        have e : ∀ x, x ≠ 66 → gI (sI (sI N9 66 (6 + a) (setb (qu T a) a2)) 66 (6 + a2) (setb (qu T a2) a)) x = gI N9 x := fun x hx => by rw [gI_sI_ne hx, gI_sI_ne hx]
        refine ⟨(h1.trans (frm_b _ (by omega))).trans (frm_b _ (by omega)), ⟨fun j hj => by rw [e 55 (by decide)]; exact a1 j hj, by rw [e 54 (by decide)]; exact a2', by rw [e 54 (by decide)]; exact a3, by rw [e 54 (by decide)]; exact a4, by rw [e 54 (by decide)]; exact a5, a6, by rw [e 54 (by decide)]; exact a7⟩, by rw [e 54 (by decide)]; exact h3, ⟨h4, ⟨v1, v2, v3⟩, li_quar hLI (by omega) (by omega)⟩, ⟨by rw [e 56 (by decide), e 57 (by decide), e 58 (by decide)]; exact t1, fun x y hx hy hxy => by rw [e 62 (by decide)]; exact t2 x y hx hy hxy, fun j hj => ?_, fun k hk => by rw [e 67 (by decide), e 68 (by decide), e 69 (by decide), e 70 (by decide), e 71 (by decide)]; exact t4 k hk⟩, h6⟩
        change j < nJ T at hj
        obtain ⟨u1, u2, u3, u4⟩ := t3 j hj
        refine ⟨by rw [e 63 (by decide)]; exact u1, by rw [e 64 (by decide)]; exact u2, by rw [e 65 (by decide)]; exact u3, ?_⟩
        show _ = upT (upT T.2 5 a (setb (T.2 5 a) a2)) 5 a2 (setb (T.2 5 a2) a) 5 j
        rw [upT_eq, upT_eq, gI_sI, if_pos rfl, gI_sI, if_pos rfl]
        by_cases g1 : j = a2
        · rw [if_pos (by omega), if_pos g1]
        · rw [if_neg (by omega), if_neg g1]
          by_cases g2 : j = a
          · rw [if_pos (by omega), if_pos g2]
          · rw [if_neg (by omega), if_neg g2]; exact u4
      have e12 : ∀ v, gI (sI N9 66 (6 + a) v) 54 12 = 1 := fun v => by rw [gI_sI_ne (by decide)]; exact hb
      have e30 : ∀ v, gI (sI N9 66 (6 + a) v) 54 30 = (a2 : Int) := fun v => by rw [gI_sI_ne (by decide)]; exact g30
      have e66 : ∀ v, gI (sI N9 66 (6 + a) v) 66 (6 + a2) = qu T a2 := fun v => by rw [gI_sI, if_pos rfl, if_neg (by omega)]; exact qa2
      refine v_if_neT (pc := 22) 14 27 rfl (by decide) (by omega) (by decide) ?_
      refine v_aload_n (pc := 27) 17 rfl rfl ?_
      refine v_getC (pc := 28) 18 rfl fl_X12_45 rfl 66 rfl ?_
      refine v_bipush (pc := 31) 19 rfl (by decide) ?_
      refine v_aload_n (pc := 33) 20 rfl rfl ?_
      refine v_getI (pc := 34) 21 rfl fl_X12_199 rfl ?_
      rw [hb]
      refine v_imul (pc := 37) 22 rfl ?_
      refine v_iload_n (pc := 38) 23 rfl rfl ?_
      refine v_iadd (pc := 39) 24 rfl ?_
      refine v_dup2 (pc := 40) 25 rfl ⟨rfl, rfl⟩ ?_
      refine v_ialdE (pc := 41) 26 rfl rfl (6 + a) (by omega) ?_
      rw [qa]
      refine v_iconst (pc := 42) 27 rfl ?_
      refine v_aload_n (pc := 43) 28 rfl rfl ?_
      refine v_getI (pc := 44) 29 rfl fl_X12_218 rfl ?_
      rw [g30]
      refine v_ishl (pc := 47) 30 rfl (((2 ^ a2 : Nat) : Int)) (J_shl1 (by omega)) ?_
      refine v_ior (pc := 48) 31 rfl (setb (qu T a) a2) (J_or64 ra (by omega)) ?_
      refine v_iastE (pc := 49) 32 rfl rfl (6 + a) (by omega) ?_
      refine v_aload_n (pc := 50) 33 rfl rfl ?_
      refine v_getC (pc := 51) 34 rfl fl_X12_45 rfl 66 rfl ?_
      refine v_bipush (pc := 54) 35 rfl (by decide) ?_
      refine v_aload_n (pc := 56) 36 rfl rfl ?_
      refine v_getI (pc := 57) 37 rfl fl_X12_199 rfl ?_
      rw [e12]
      refine v_imul (pc := 60) 38 rfl ?_
      refine v_aload_n (pc := 61) 39 rfl rfl ?_
      refine v_getI (pc := 62) 40 rfl fl_X12_218 rfl ?_
      rw [e30]
      refine v_iadd (pc := 65) 41 rfl ?_
      refine v_dup2 (pc := 66) 42 rfl ⟨rfl, rfl⟩ ?_
      refine v_ialdE (pc := 67) 43 rfl rfl (6 + a2) (by omega) ?_
      rw [e66]
      refine v_iconst (pc := 68) 44 rfl ?_
      refine v_iload_n (pc := 69) 45 rfl rfl ?_
      refine v_ishl (pc := 70) 46 rfl (((2 ^ a : Nat) : Int)) (J_shl1 (by omega)) ?_
      refine v_ior (pc := 71) 47 rfl (setb (qu T a2) a) (J_or64 ra2 (by omega)) ?_
      refine v_iastE (pc := 72) 48 rfl rfl (6 + a2) (by omega) ?_
      refine v_iconst (pc := 73) 49 rfl ?_
      refine v_zret (pc := 74) 50 rfl rfl (by decide) ⟨rfl, hfin⟩
end MLine
