/-! 18: the best of a day: found, set -/
def g0 : Nat → Int := fun _ => 0
def B0 : Bx := (-1, [], g0)
/-- how many cases the best of a day is asked for -/
def askN (T : Tx) (S : Sx) (d : Int) (n : Nat) : Nat := min n (opN T S d (nK T)).length
/-- BEST, as the class searches it -/
def bestC (T : Tx) (S : Sx) (d : Int) (n : Nat) : Bx := cs T d (opN T S d (nK T)) (askN T S d n) 0 0 S g0 B0
def plA (l : List Nat) (g : Nat → Int) (d : Int) (S : Sx) : Nat → Sx
  | 0 => S
  | i + 1 => if g i = -1 then plA l g d S i else setS (plA l g d S i) (l.getD i 0) (g i) d
theorem plA_ok {T : Tx} {l : List Nat} {g : Nat → Int} {d : Int} {S : Sx} {a : Nat} (hS : SOk T S) (hl : ∀ x ∈ l, x < nK T) (ha : a ≤ l.length) (hg : ∀ i, i < a → -1 ≤ g i ∧ g i < nJ T) (hd : 0 ≤ d ∧ d ≤ 60) (i : Nat) (hi : i ≤ a) : SOk T (plA l g d S i) := by
  induction i with
  | zero => exact hS
  | succ i ih =>
    have ih := ih (by omega)
    have hx : l.getD i 0 < nK T := hl _ (by rw [List.getD_eq_getElem?_getD, List.getElem?_eq_getElem (by omega)]; exact List.getElem_mem _)
    have hgi := hg i (by omega)
    show SOk T (if _ then _ else _)
    split
    · exact ih
    · exact ih.set (Or.inr ⟨hx, by omega, hd⟩)
theorem bestC_ok (T : Tx) (S : Sx) (d : Int) (n : Nat) : BOk T (askN T S d n) (bestC T S d n) := cs_ok _ _ _ _ _ _ (by omega) (by omega) (fun i hi => by omega) ⟨⟨by show (-1 : Int) ≤ -1; omega, by show (-1 : Int) ≤ _; omega⟩, Or.inl rfl⟩
theorem cs_heard {T : Tx} {d : Int} {l : List Nat} : ∀ (r k : Nat) (h : Int) (S : Sx) (g : Nat → Int) (B : Bx), 0 ≤ h → (0 ≤ B.1 → 0 ≤ (cs T d l r k h S g B).1) ∧ (B.1 = -1 → 0 ≤ (cs T d l r k h S g B).1) := by
  intro r
  induction r with
  | zero =>
    intro k h S g B hh
    have e : cs T d l 0 k h S g B = if mayB T S h B = true then (h, sdl T S, g) else B := rfl
    rw [e]
    refine ⟨fun hB => ?_, fun hB => ?_⟩
    · split
      · exact hh
      · exact hB
    · rw [if_pos (by unfold mayB; rw [if_pos (by omega), decide_eq_true (by omega)])]
      exact hh
  | succ r ih =>
    intro k h S g B hh
    have e : cs T d l (r + 1) k h S g B = if mayB T S (h + ((r + 1 : Nat) : Int)) B = true then csJ (cs T d l r (k + 1)) T d (l.getD k 0) k h S g (nJ T) (cs T d l r (k + 1) h S (up g k (-1)) B) else B := rfl
    have hJ : ∀ (B1 : Bx), 0 ≤ B1.1 → ∀ m, 0 ≤ (csJ (cs T d l r (k + 1)) T d (l.getD k 0) k h S g m B1).1 := by
      intro B1 h1 m
      induction m with
      | zero => exact h1
      | succ m ihm =>
        show 0 ≤ (if _ then _ else _ : Bx).1
        split
        · exact (ih (k + 1) (h + 1) _ _ _ (by omega)).1 ihm
        · exact ihm
    rw [e]
    refine ⟨fun hB => ?_, fun hB => ?_⟩
    · split
      · exact hJ _ ((ih (k + 1) h S _ B hh).1 hB) _
      · exact hB
    · rw [if_pos (by unfold mayB; rw [if_pos (by omega), decide_eq_true (by omega)])]
      exact hJ _ ((ih (k + 1) h S _ B hh).2 hB) _
theorem bestC_heard (T : Tx) (S : Sx) (d : Int) (n : Nat) : 0 ≤ (bestC T S d n).1 := (cs_heard _ _ _ _ _ _ (Int.le_refl 0)).2 rfl
section Find
variable {G : Gt} {d : Nat} {M : Mem} {c : Nat}
set_option maxHeartbeats 4000000 in
theorem c_find (h : CI M c) {dd : Int} (hd : 0 ≤ dd ∧ dd ≤ 60) {n : Nat} (hn5 : n ≤ 5) : V G (d + 14) mX1_find 0 [some (.ref 12), some (.int (J dd)), some (.int (J (n : Int))), none] [] M (fun r N => r = none ∧ ∃ f, rep f (opN (tOf M c) (sOf M) dd (nK (tOf M c))) ∧ BSM (aI M 11 f) N c (sOf M) dd (askN (tOf M c) (sOf M) dd n) (bestC (tOf M c) (sOf M) dd n)) := by
  have hI := h
  have hT := h.2.2.2.2.2.1
  have hS := h.2.2.2.2.2.2
  have hc := h.1
  generalize hQ : (fun (r : Option Value) (N : Mem) => r = none ∧ ∃ f, rep f (opN (tOf M c) (sOf M) dd (nK (tOf M c))) ∧ BSM (aI M 11 f) N c (sOf M) dd (askN (tOf M c) (sOf M) dd n) (bestC (tOf M c) (sOf M) dd n)) = Q
  have s1 : sOf (sI M 12 4 dd) = sOf M := by unfold sOf; rw [gI_sI_ne (by decide), gI_sI_ne (by decide)]
  obtain ⟨hI1, eT1⟩ := CI.ag (N := sI M 12 4 dd) hI (fun q q1 q2 q3 => gI_sI_ne (by omega)) rfl (by rw [s1]; exact hS)
  have v1 : gI (sI M 12 4 dd) 12 4 = dd := by rw [gI_sI, if_pos rfl, if_pos rfl]
  refine v_aload_n (pc := 0) 0 rfl rfl ?_
  refine v_iload_n (pc := 1) 1 rfl rfl ?_
  refine v_putI (pc := 2) 2 rfl fl_X1_35 rfl ?_
  refine v_aload_n (pc := 5) 3 rfl rfl ?_
  refine v_iload_n (pc := 6) 4 rfl rfl ?_
  refine v_iconst (pc := 7) 5 rfl ?_
  refine v_mmin (pc := 8) 6 rfl ml_X1_39 (by omega) (Nat.le_of_ble_eq_true rfl) ?_
  refine v_aload_n (pc := 11) 7 rfl rfl ?_
  refine v_getC (pc := 12) 8 rfl fl_X1_31 rfl 8 rfl ?_
  refine v_aload_n (pc := 15) 9 rfl rfl ?_
  refine v_getI (pc := 16) 10 rfl fl_X1_35 rfl ?_
  rw [show min (n : Int) 5 = (n : Int) by omega, v1]
  have cl := c_listOpen (G := G) (d := d + 12) hI1 hd
  rw [eT1, s1] at cl
  refine v_cV1 (pc := 19) 11 rfl cv_X1_45 rfl (Nat.le_of_ble_eq_true rfl) (Nat.le_of_ble_eq_true rfl) (cl) (fun r9 N9 hq9 => ?_)
  obtain ⟨f, rfl, rfl, hf⟩ := hq9
  have hlen := op_len hT (sOf M) hd.1
  have h12 := hT.2.2.1
  have h6 := hT.2.1
  have hnd := opN_nodup (T := tOf M c) (S := sOf M) hd.1 (nK (tOf M c)) (fun k hk => (hT.2.2.2.2.1 k hk).2.2.1.1)
  have hmem : ∀ x ∈ opN (tOf M c) (sOf M) dd (nK (tOf M c)), x < nK (tOf M c) ∧ (sOf M).1 x = -1 := fun x hx => opN_mem hx
  unfold askN bestC at hQ
  have hask : askN (tOf M c) (sOf M) dd n = min n (opN (tOf M c) (sOf M) dd (nK (tOf M c))).length := rfl
  rw [hask] at hQ
  generalize hl9 : opN (tOf M c) (sOf M) dd (nK (tOf M c)) = l at hQ hlen hf hnd hmem ⊢
  show V G (d + 14) mX1_find (19 + 3) _ [.int (J (l.length : Int)), .int (J (n : Int)), .ref 12] _ Q
  refine v_mmin (pc := 22) 12 rfl ml_X1_39 (by omega) (Nat.le_of_ble_eq_true rfl) ?_
  rw [show min (n : Int) (l.length : Int) = ((min n l.length : Nat) : Int) by omega]
  have ha5 : min n l.length ≤ 5 ∧ min n l.length ≤ l.length := by omega
  generalize min n l.length = a at hQ ha5 ⊢
  refine v_putI (pc := 25) 13 rfl fl_X1_51 rfl ?_
  refine v_aload_n (pc := 28) 14 rfl rfl ?_
  refine v_iconst (pc := 29) 15 rfl ?_
  refine v_putI (pc := 30) 16 rfl fl_X1_54 rfl ?_
  refine v_iconst (pc := 33) 17 rfl ?_
  refine v_istore_n (pc := 34) 18 rfl ⟨Nat.le_of_ble_eq_true rfl, rfl⟩ ?_
  generalize hN : sI (sI (aI (sI M 12 4 dd) 11 f) 12 5 (a : Int)) 12 6 (-1) = N1
  have n1 : ∀ q, q ≠ 11 → q ≠ 12 → gI N1 q = gI M q := fun q a1 a2 => by rw [← hN, gI_sI_ne a2, gI_sI_ne a2, gI_aI_ne a1, gI_sI_ne a2]
  have n2 : gI N1 11 = f := by funext i; rw [← hN, gI_sI_ne (by decide), gI_sI_ne (by decide), gI_aI, if_pos rfl]
  have n3 : gI N1 12 4 = dd := by rw [← hN, gI_sI, if_pos rfl, if_neg (by decide), gI_sI, if_pos rfl, if_neg (by decide), gI_aI_ne (by decide)]; exact v1
  have n4 : gI N1 12 5 = (a : Int) := by rw [← hN, gI_sI, if_pos rfl, if_neg (by decide), gI_sI, if_pos rfl, if_pos rfl]
  have n5 : gI N1 12 6 = -1 := by rw [← hN, gI_sI, if_pos rfl, if_pos rfl]
  have n6 : gL N1 = gL M ∧ gR N1 = gR M := by rw [← hN]; exact ⟨rfl, rfl⟩
  have s2 : ∀ w, sOf (aI N1 13 w) = sOf M := fun w => by unfold sOf; rw [gI_aI_ne (by decide), gI_aI_ne (by decide), n1 9 (by decide) (by decide), n1 10 (by decide) (by decide)]
  have hM0 := (hI.s11 f)
  have loop := loopN (N := nJ (tOf M c)) (fun j => ∀ w, (∀ t, t < j → w t = lds (tOf M c) (sOf M) t) → V G (d + 14) mX1_find 35 [some (.ref 12), some (.int (J dd)), some (.int (J (n : Int))), some (.int (J (j : Int)))] [] (aI N1 13 w) Q) ?_ ?_
  · have := loop (gI N1 13) (fun t ht => by omega)
    rw [aI_self] at this
    exact this
  · intro w hw
    have ag : ∀ q, q ≠ 9 → q ≠ 10 → ¬ (12 ≤ q ∧ q ≤ 19) → gI (aI N1 13 w) q = gI (aI M 11 f) q := fun q q1 q2 q3 => by
      rw [gI_aI_ne (by omega)]
      by_cases e : q = 11
      · rw [e, n2]; funext i; rw [gI_aI, if_pos rfl]
      · rw [n1 q e (by omega), gI_aI_ne e]
    obtain ⟨hI2, eT2⟩ := CI.ag (N := aI N1 13 w) hM0.1 ag (by show gR N1 8 0 = gR M 8 0; rw [n6.2]) (by rw [s2, hM0.2.1]; exact hS)
    rw [hM0.2.1] at eT2
    have hca := hI2.2.1
    have hn2 := hI2.n
    rw [eT2] at hn2
    have hb : BSM (aI M 11 f) (aI N1 13 w) c (sOf M) dd a B0 := by
      refine ⟨ag, n6.1, n6.2, s2 w, by rw [gI_aI_ne (by decide)]; exact n3, by rw [gI_aI_ne (by decide)]; exact n4, by rw [gI_aI_ne (by decide)]; exact n5, fun j hj => ?_, Or.inl rfl⟩
      rw [hM0.2.1] at hj ⊢
      rw [gI_aI, if_pos rfl]; exact hw j hj
    have hB : BOk (tOf (aI M 11 f) c) a B0 := ⟨⟨by show (-1 : Int) ≤ -1; omega, by show (-1 : Int) ≤ _; omega⟩, Or.inl rfl⟩
    have ct := c_tryCase (G := G) hM0.1 (l := l) (dd := dd) (a := a) (by intro i x hx; rw [gI_aI, if_pos rfl]; exact hf i x hx) hnd (by rw [hM0.2.1]; exact fun x hx => (hmem x hx).1) ha5 hd a 0 0 (sOf M) g0 B0 (aI N1 13 w) (d + 13) (by omega) (by omega) (by rw [hM0.2.1]; exact hS) hb hB (by omega) (fun i hi => by omega) (fun i hi => by omega) (fun i h1 h2 => by
      have hx := hmem (l.getD i 0) (by rw [List.getD_eq_getElem?_getD, List.getElem?_eq_getElem (by omega)]; exact List.getElem_mem _)
      rcases hS (l.getD i 0) (by omega) with q | q
      · exact q
      · omega)
    rw [hM0.2.1] at ct
    refine v_iload_n (pc := 35) 19 rfl rfl ?_
    refine v_aload_n (pc := 36) 20 rfl rfl ?_
    refine v_getC (pc := 37) 21 rfl fl_X1_31 rfl 8 rfl ?_
    refine v_getR (pc := 40) 22 rfl fl_X1_57 rfl _ hca ?_
    refine v_getI (pc := 43) 23 rfl fl_X1_61 (shC hc) ?_
    refine v_ic_geT (pc := 46) 24 69 rfl (by decide) (by omega) (by omega) ?_
    refine v_aload_n (pc := 69) 35 rfl rfl ?_
    refine v_iconst (pc := 70) 36 rfl ?_
    refine v_iconst (pc := 71) 37 rfl ?_
    refine v_cV2 (pc := 72) 38 rfl cv_X1_69 rfl (Nat.le_of_ble_eq_true rfl) (Nat.le_of_ble_eq_true rfl) (ct) (fun r9 N9 hq9 => ?_)
    obtain ⟨rfl, hb3, -⟩ := hq9
    show V G (d + 14) mX1_find (72 + 3) _ [] _ _
    refine v_ret (pc := 75) 39 rfl rfl (by rw [← hQ]; exact ⟨rfl, f, hf, hb3⟩)
  · intro j hj ih w hw
    have ag : ∀ q, q ≠ 9 → q ≠ 10 → ¬ (12 ≤ q ∧ q ≤ 19) → gI (aI N1 13 w) q = gI (aI M 11 f) q := fun q q1 q2 q3 => by
      rw [gI_aI_ne (by omega)]
      by_cases e : q = 11
      · rw [e, n2]; funext i; rw [gI_aI, if_pos rfl]
      · rw [n1 q e (by omega), gI_aI_ne e]
    obtain ⟨hI2, eT2⟩ := CI.ag (N := aI N1 13 w) hM0.1 ag (by show gR N1 8 0 = gR M 8 0; rw [n6.2]) (by rw [s2, hM0.2.1]; exact hS)
    rw [hM0.2.1] at eT2
    have hca := hI2.2.1
    have hn2 := hI2.n
    rw [eT2] at hn2
    have cl2 := c_loadOf (G := G) (d := d + 12) hI2 (j := j) (by rw [eT2]; exact hj)
    rw [eT2, s2] at cl2
    refine v_iload_n (pc := 35) 19 rfl rfl ?_
    refine v_aload_n (pc := 36) 20 rfl rfl ?_
    refine v_getC (pc := 37) 21 rfl fl_X1_31 rfl 8 rfl ?_
    refine v_getR (pc := 40) 22 rfl fl_X1_57 rfl _ hca ?_
    refine v_getI (pc := 43) 23 rfl fl_X1_61 (shC hc) ?_
    refine v_ic_geF (pc := 46) 24 69 rfl (by decide) (by omega) (by omega) ?_
    refine v_aload_n (pc := 49) 25 rfl rfl ?_
    refine v_getC (pc := 50) 26 rfl fl_X1_9 rfl 13 rfl ?_
    refine v_iload_n (pc := 53) 27 rfl rfl ?_
    refine v_aload_n (pc := 54) 28 rfl rfl ?_
    refine v_getC (pc := 55) 29 rfl fl_X1_31 rfl 8 rfl ?_
    refine v_iload_n (pc := 58) 30 rfl rfl ?_
    refine v_cV1i (pc := 59) 31 rfl cv_X1_66 rfl (Nat.le_of_ble_eq_true rfl) (Nat.le_of_ble_eq_true rfl) (cl2) ?_
    refine v_iastN (pc := 62) 32 rfl rfl (by omega) ?_
    refine v_iinc (pc := 63) 33 rfl rfl ⟨Nat.le_of_ble_eq_true rfl, rfl⟩ ?_
    refine v_goto (pc := 66) 34 35 rfl (by decide) ?_
    rw [sI_aI]
    exact ih _ (fun t ht => by by_cases e : t = j; rw [e, if_pos rfl]; rfl; rw [if_neg e]; exact hw t (by omega))
theorem c_placeAll {l : List Nat} {g : Nat → Int} {a : Nat} {dd hd9 : Int} (ha : a ≤ 5 ∧ a ≤ l.length) (hl : rep (gI M 11) l) (hm : ∀ x ∈ l, x < 12) (hg : ∀ i, i < a → gI M 17 i = g i) (hg2 : ∀ i, i < a → -1 ≤ g i ∧ g i < 6) (h1 : gI M 12 4 = dd) (h2 : gI M 12 5 = (a : Int)) (h3 : gI M 12 6 = hd9) : V G (d + 1) mX1_placeAll 0 [some (.ref 12), none] [] M (Ret (some (.int (J hd9))) (wS M (plA l g dd (sOf M) a))) := by
  refine v_iconst (pc := 0) 0 rfl ?_
  refine v_istore_n (pc := 1) 1 rfl ⟨Nat.le_of_ble_eq_true rfl, rfl⟩ ?_
  have loop := loopN (N := a) (fun i => V G (d + 1) mX1_placeAll 2 [some (.ref 12), some (.int (J (i : Int)))] [] (wS M (plA l g dd (sOf M) i)) (Ret (some (.int (J hd9))) (wS M (plA l g dd (sOf M) a)))) ?_ ?_
  · rw [show plA l g dd (sOf M) 0 = sOf M from rfl, wS_self] at loop
    exact loop
  · have e1 : gI (wS M (plA l g dd (sOf M) a)) 12 5 = (a : Int) := by rw [wS_ne (by decide)]; exact h2
    have e2 : gI (wS M (plA l g dd (sOf M) a)) 12 6 = hd9 := by rw [wS_ne (by decide)]; exact h3
    refine v_iload_n (pc := 2) 2 rfl rfl ?_
    refine v_aload_n (pc := 3) 3 rfl rfl ?_
    refine v_getI (pc := 4) 4 rfl fl_X1_51 rfl ?_
    refine v_ic_geT (pc := 7) 5 52 rfl (by decide) (by omega) (by omega) ?_
    refine v_aload_n (pc := 52) 28 rfl rfl ?_
    refine v_getI (pc := 53) 29 rfl fl_X1_54 rfl ?_
    rw [e2]
    refine v_iret (pc := 56) 30 rfl rfl ⟨rfl, rfl⟩
  · intro i hi ih
    have e1 : gI (wS M (plA l g dd (sOf M) i)) 12 5 = (a : Int) := by rw [wS_ne (by decide)]; exact h2
    have e2 : gI (wS M (plA l g dd (sOf M) i)) 17 i = g i := by rw [wS_ne (by decide)]; exact hg i hi
    have e3 : gI (wS M (plA l g dd (sOf M) i)) 11 i = ((l.getD i 0 : Nat) : Int) := by rw [wS_ne (by decide)]; exact rep_get hl (by omega)
    have e4 : gI (wS M (plA l g dd (sOf M) i)) 12 4 = dd := by rw [wS_ne (by decide)]; exact h1
    have hx : l.getD i 0 < 12 := hm _ (by rw [List.getD_eq_getElem?_getD, List.getElem?_eq_getElem (by omega)]; exact List.getElem_mem _)
    have hgi := hg2 i hi
    have eP : plA l g dd (sOf M) (i + 1) = if g i = -1 then plA l g dd (sOf M) i else setS (plA l g dd (sOf M) i) (l.getD i 0) (g i) dd := rfl
    rw [eP] at ih
    refine v_iload_n (pc := 2) 2 rfl rfl ?_
    refine v_aload_n (pc := 3) 3 rfl rfl ?_
    refine v_getI (pc := 4) 4 rfl fl_X1_51 rfl ?_
    refine v_ic_geF (pc := 7) 5 52 rfl (by decide) (by omega) (by omega) ?_
    refine v_aload_n (pc := 10) 6 rfl rfl ?_
    refine v_getC (pc := 11) 7 rfl fl_X1_25 rfl 17 rfl ?_
    refine v_iload_n (pc := 14) 8 rfl rfl ?_
    refine v_ialdN (pc := 15) 9 rfl rfl (by omega) ?_
    rw [e2]
    refine v_iconst (pc := 16) 10 rfl ?_
    refine v_ic_eq (pc := 17) 11 46 rfl (by decide) (by omega) (fun e5 => ?_) (fun e5 => ?_)
    · rw [if_pos e5] at ih
      refine v_iinc (pc := 46) 26 rfl rfl ⟨Nat.le_of_ble_eq_true rfl, rfl⟩ ?_
      refine v_goto (pc := 49) 27 2 rfl (by decide) ?_
      exact ih
    · rw [if_neg e5] at ih
      refine v_aload_n (pc := 20) 12 rfl rfl ?_
      refine v_getC (pc := 21) 13 rfl fl_X1_31 rfl 8 rfl ?_
      refine v_aload_n (pc := 24) 14 rfl rfl ?_
      refine v_getC (pc := 25) 15 rfl fl_X1_31 rfl 8 rfl ?_
      refine v_getC (pc := 28) 16 rfl fl_X1_73 rfl 11 rfl ?_
      refine v_iload_n (pc := 31) 17 rfl rfl ?_
      refine v_ialdN (pc := 32) 18 rfl rfl (by omega) ?_
      rw [e3]
      refine v_aload_n (pc := 33) 19 rfl rfl ?_
      refine v_getC (pc := 34) 20 rfl fl_X1_25 rfl 17 rfl ?_
      refine v_iload_n (pc := 37) 21 rfl rfl ?_
      refine v_ialdN (pc := 38) 22 rfl rfl (by omega) ?_
      rw [e2]
      refine v_aload_n (pc := 39) 23 rfl rfl ?_
      refine v_getI (pc := 40) 24 rfl fl_X1_35 rfl ?_
      rw [e4]
      refine v_cV3v (pc := 43) 25 rfl cv_X1_76 rfl (Nat.le_of_ble_eq_true rfl) (Nat.le_of_ble_eq_true rfl) (c_place hx _ _) ?_
      refine v_iinc (pc := 46) 26 rfl rfl ⟨Nat.le_of_ble_eq_true rfl, rfl⟩ ?_
      refine v_goto (pc := 49) 27 2 rfl (by decide) ?_
      rw [pl_wS, wS_s, wS_wS]
      exact ih
end Find
