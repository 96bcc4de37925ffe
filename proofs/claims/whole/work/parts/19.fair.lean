/-! 19: fairer ones: the class's search -/
abbrev Fx : Type := Int × Int × List Int
def frJ (T : Tx) (S : Sx) (k : Nat) : Nat → Fx → Fx
  | 0, F => F
  | j + 1, F => if (j : Int) ≠ S.1 k ∧ whyS T (setS S k (-1) (-1)) k j (S.2 k) = 0 ∧ ltA (gd (sdl T (setS S k j (S.2 k)))) (gd (frJ T S k j F).2.2) (nJ T) = true then ((k : Int), (j : Int), sdl T (setS S k j (S.2 k))) else frJ T S k j F
def frK (T : Tx) (S : Sx) : Nat → Fx
  | 0 => (-1, -1, sdl T S)
  | k + 1 => if S.1 k = -1 then frK T S k else frJ T S k (nJ T) (frK T S k)
/-- FAIRER: the case, the judge, the loads then -/
def fair (T : Tx) (S : Sx) : Fx := frK T S (nK T)
def FOk (T : Tx) (F : Fx) : Prop := (∃ S, F.2.2 = sdl T S) ∧ ((F.1 = -1 ∧ F.2.1 = -1) ∨ ((0 ≤ F.1 ∧ F.1 < nK T) ∧ (0 ≤ F.2.1 ∧ F.2.1 < nJ T)))
theorem frJ_ok {T : Tx} {S : Sx} {k : Nat} (hk : k < nK T) {F : Fx} (hF : FOk T F) (j : Nat) (hj : j ≤ nJ T) : FOk T (frJ T S k j F) := by
  induction j with
  | zero => exact hF
  | succ j ih =>
    show FOk T (if _ then _ else _)
    split
    · exact ⟨⟨_, rfl⟩, Or.inr ⟨⟨by show (0 : Int) ≤ k; omega, by show (k : Int) < _; omega⟩, ⟨by show (0 : Int) ≤ j; omega, by show (j : Int) < _; omega⟩⟩⟩
    · exact ih (by omega)
theorem frK_ok (T : Tx) (S : Sx) (k : Nat) (hk : k ≤ nK T) : FOk T (frK T S k) := by
  induction k with
  | zero => exact ⟨⟨S, rfl⟩, Or.inl ⟨rfl, rfl⟩⟩
  | succ k ih =>
    show FOk T (if _ then _ else _)
    split
    · exact ih (by omega)
    · exact frJ_ok (by omega) (ih (by omega)) _ (Nat.le_refl _)
def FSM (M0 N : Mem) (c : Nat) (S : Sx) (F : Fx) : Prop :=
  (∀ q, q ≠ 9 → q ≠ 10 → ¬ (20 ≤ q ∧ q ≤ 25) → gI N q = gI M0 q) ∧ gL N = gL M0 ∧ gR N = gR M0 ∧ sOf N = S ∧ gI N 20 4 = F.1 ∧ gI N 20 5 = F.2.1 ∧ gI N 24 1 = (nJ (tOf M0 c) : Int) ∧ repI (gI N 25) F.2.2
theorem CI.ag2 {M0 N : Mem} {c : Nat} (hI : CI M0 c) (h1 : ∀ q, q ≠ 9 → q ≠ 10 → ¬ (20 ≤ q ∧ q ≤ 25) → gI N q = gI M0 q) (h3 : gR N 8 0 = gR M0 8 0) (hS : SOk (tOf M0 c) (sOf N)) : CI N c ∧ tOf N c = tOf M0 c := by
  have e1 : ∀ j, j ≤ 10 → gI N (c + j) = gI M0 (c + j) := fun j hj => h1 _ (by rcases hI.1 with e | e <;> omega) (by rcases hI.1 with e | e <;> omega) (by rcases hI.1 with e | e <;> omega)
  exact ⟨hI.keep e1 h3 hS, tOf_eq e1⟩
theorem FSM.ci {M0 N : Mem} {c : Nat} {S : Sx} {F : Fx} (h : FSM M0 N c S F) (hI : CI M0 c) (hS : SOk (tOf M0 c) S) : CI N c ∧ tOf N c = tOf M0 c := hI.ag2 h.1 (by rw [h.2.2.1]) (by rw [h.2.2.2.1]; exact hS)
theorem FSM.pl {M0 N : Mem} {c : Nat} {S : Sx} {F : Fx} (h : FSM M0 N c S F) (k : Nat) (j d : Int) : FSM M0 (plM N k j d) c (setS S k j d) F := by
  obtain ⟨h1, h2, h3, h4, h5, h6, h7, h8⟩ := h
  exact ⟨fun q q1 q2 q3 => by rw [plM_ne ⟨q1, q2⟩]; exact h1 q q1 q2 q3, h2, h3, by rw [plM_s, h4], by rw [plM_ne (by decide)]; exact h5, by rw [plM_ne (by decide)]; exact h6, by rw [plM_ne (by decide)]; exact h7, by rw [plM_ne (by decide)]; exact h8⟩
theorem set_set (S : Sx) (k : Nat) (a b j d : Int) : setS (setS S k a b) k j d = setS S k j d := by
  refine Prod.ext (funext fun i => ?_) (funext fun i => ?_)
  · show (if i = k then j else (if i = k then a else S.1 i)) = if i = k then j else S.1 i
    by_cases e : i = k
    · rw [if_pos e, if_pos e]
    · rw [if_neg e, if_neg e, if_neg e]
  · show (if i = k then d else (if i = k then b else S.2 i)) = if i = k then d else S.2 i
    by_cases e : i = k
    · rw [if_pos e, if_pos e]
    · rw [if_neg e, if_neg e, if_neg e]
theorem set_self (S : Sx) (k : Nat) : setS S k (S.1 k) (S.2 k) = S := by
  refine Prod.ext (funext fun i => ?_) (funext fun i => ?_)
  · show (if i = k then S.1 k else S.1 i) = S.1 i
    by_cases e : i = k
    · rw [if_pos e, e]
    · rw [if_neg e]
  · show (if i = k then S.2 k else S.2 i) = S.2 i
    by_cases e : i = k
    · rw [if_pos e, e]
    · rw [if_neg e]
section Fair
variable {G : Gt} {d : Nat} {M M0 N : Mem} {c : Nat} {S : Sx} {F : Fx}
theorem c_sortInto (h : CI M c) {o : Nat} (ho2 : o = 22 ∨ o = 24) : V G (d + 2) mX6_sortInto 0 [some (.ref 20), some (.ref o), none, none] [] M (fun r N => r = none ∧ ∃ w f, N = aI (sI (aI M 21 w) o 1 (nJ (tOf M c) : Int)) (o + 1) f ∧ repI f (sdl (tOf M c) (sOf M))) := by
  have hI := h
  have hn := h.n
  have hT := h.2.2.2.2.2.1
  have hc := h.1
  have hca := h.2.1
  have ho : o = 15 ∨ o = 18 ∨ o = 22 ∨ o = 24 := by omega
  generalize hQ : (fun (r : Option Value) (N : Mem) => r = none ∧ ∃ w f, N = aI (sI (aI M 21 w) o 1 (nJ (tOf M c) : Int)) (o + 1) f ∧ repI f (sdl (tOf M c) (sOf M))) = Q
  refine v_aload_n (pc := 0) 0 rfl rfl ?_
  refine v_getC (pc := 1) 1 rfl fl_X6_25 rfl 8 rfl ?_
  refine v_getR (pc := 4) 2 rfl fl_X6_40 rfl _ hca ?_
  refine v_getI (pc := 7) 3 rfl fl_X6_69 (shC hc) ?_
  rw [hn.2.1]
  refine v_istore_n (pc := 10) 4 rfl ⟨Nat.le_of_ble_eq_true rfl, rfl⟩ ?_
  refine v_iconst (pc := 11) 5 rfl ?_
  refine v_istore_n (pc := 12) 6 rfl ⟨Nat.le_of_ble_eq_true rfl, rfl⟩ ?_
  have hw9 : ∀ w, CI (aI M 21 w) c ∧ tOf (aI M 21 w) c = tOf M c ∧ sOf (aI M 21 w) = sOf M := fun w => by
    have s1 : sOf (aI M 21 w) = sOf M := by unfold sOf; rw [gI_aI_ne (by decide), gI_aI_ne (by decide)]
    obtain ⟨a1, a2⟩ := hI.ag2 (N := aI M 21 w) (fun q q1 q2 q3 => gI_aI_ne (by omega)) rfl (by rw [s1]; exact h.2.2.2.2.2.2)
    exact ⟨a1, a2, s1⟩
  have loop := loopN (N := nJ (tOf M c)) (fun j => ∀ w, (∀ t, t < j → w t = lds (tOf M c) (sOf M) t) → V G (d + 2) mX6_sortInto 13 [some (.ref 20), some (.ref o), some (.int (J (nJ (tOf M c) : Int))), some (.int (J (j : Int)))] [] (aI M 21 w) Q) ?_ ?_
  · have := loop (gI M 21) (fun t ht => by omega)
    rw [aI_self] at this
    exact this
  · intro w hw
    have e21 : gI (aI M 21 w) 21 = w := by funext i; rw [gI_aI, if_pos rfl]
    refine v_iload_n (pc := 13) 7 rfl rfl ?_
    refine v_iload_n (pc := 14) 8 rfl rfl ?_
    refine v_ic_geT (pc := 15) 9 38 rfl (by decide) (by omega) (by omega) ?_
    refine v_aload_n (pc := 38) 20 rfl rfl ?_
    refine v_aload_n (pc := 39) 21 rfl rfl ?_
    refine v_getC (pc := 40) 22 rfl fl_X6_9 rfl 21 rfl ?_
    refine v_iload_n (pc := 43) 23 rfl rfl ?_
    refine v_cV2 (pc := 44) 24 rfl cv_X6_91 (shO ho) (Nat.le_of_ble_eq_true rfl) (Nat.le_of_ble_eq_true rfl) (c_sort ho rfl (by omega) hn.2.2.2.2.1 (fun j hj => by rw [e21, hw j hj]; have := lds_b hT (sOf M) j; omega)) (fun r9 N9 hq9 => ?_)
    obtain ⟨f, rfl, rfl, hf⟩ := hq9
    show V G (d + 2) mX6_sortInto (44 + 3) _ [] _ _
    refine v_ret (pc := 47) 25 rfl rfl ?_
    rw [← hQ]
    refine ⟨rfl, w, f, rfl, ?_⟩
    rw [e21] at hf
    unfold sdl
    rw [← sd_congr hw]
    exact hf
  · intro j hj ih w hw
    obtain ⟨hI1, eT, eS⟩ := hw9 w
    have cl := c_loadOf (G := G) (d := d) hI1 (j := j) (by rw [eT]; exact hj)
    rw [eT, eS] at cl
    refine v_iload_n (pc := 13) 7 rfl rfl ?_
    refine v_iload_n (pc := 14) 8 rfl rfl ?_
    refine v_ic_geF (pc := 15) 9 38 rfl (by decide) (by omega) (by omega) ?_
    refine v_aload_n (pc := 18) 10 rfl rfl ?_
    refine v_getC (pc := 19) 11 rfl fl_X6_9 rfl 21 rfl ?_
    refine v_iload_n (pc := 22) 12 rfl rfl ?_
    refine v_aload_n (pc := 23) 13 rfl rfl ?_
    refine v_getC (pc := 24) 14 rfl fl_X6_25 rfl 8 rfl ?_
    refine v_iload_n (pc := 27) 15 rfl rfl ?_
    refine v_cV1i (pc := 28) 16 rfl cv_X6_87 rfl (Nat.le_of_ble_eq_true rfl) (Nat.le_of_ble_eq_true rfl) (cl) ?_
    refine v_iastN (pc := 31) 17 rfl rfl (by omega) ?_
    refine v_iinc (pc := 32) 18 rfl rfl ⟨Nat.le_of_ble_eq_true rfl, rfl⟩ ?_
    refine v_goto (pc := 35) 19 13 rfl (by decide) ?_
    rw [sI_aI]
    exact ih _ (fun t ht => by by_cases e : t = j; rw [e, if_pos rfl]; rfl; rw [if_neg e]; exact hw t (by omega))
set_option maxHeartbeats 4000000 in
theorem c_compare (hI : CI M0 c) (hS : SOk (tOf M0 c) S) (h : FSM M0 N c S F) (hF : FOk (tOf M0 c) F) (k j : Int) : V G (d + 3) mX6_compare 0 [some (.ref 20), some (.int (J k)), some (.int (J j))] [] N (fun r N2 => r = none ∧ FSM M0 N2 c S (if ltA (gd (sdl (tOf M0 c) S)) (gd F.2.2) (nJ (tOf M0 c)) = true then (k, j, sdl (tOf M0 c) S) else F)) := by
  obtain ⟨hI2, eT⟩ := h.ci hI hS
  have hT := hI.2.2.2.2.2.1
  have h6 := hT.2.1
  obtain ⟨h1, h2, h3, h4, h5, h7, h8, h9⟩ := id h
  obtain ⟨⟨S2, hS2⟩, -⟩ := hF
  have cl := c_sortInto (G := G) (d := d) hI2 (o := 22) (Or.inl rfl)
  rw [eT, h4] at cl
  refine v_aload_n (pc := 0) 0 rfl rfl ?_
  refine v_aload_n (pc := 1) 1 rfl rfl ?_
  refine v_getC (pc := 2) 2 rfl fl_X6_18 rfl 22 rfl ?_
  refine v_cV1 (pc := 5) 3 rfl cv_X6_36 rfl (Nat.le_of_ble_eq_true rfl) (Nat.le_of_ble_eq_true rfl) (cl) (fun r9 N9 hq9 => ?_)
  obtain ⟨rfl, w, f, rfl, hf⟩ := hq9
  show V G (d + 3) mX6_compare (5 + 3) _ [] _ _
  generalize hN : aI (sI (aI N 21 w) 22 1 (nJ (tOf M0 c) : Int)) (22 + 1) f = N1
  have n1 : ∀ q, q ≠ 21 → q ≠ 22 → q ≠ 23 → gI N1 q = gI N q := fun q a1 a2 a3 => by rw [← hN, gI_aI_ne a3, gI_sI_ne a2, gI_aI_ne a1]
  have n2 : gI N1 22 1 = (nJ (tOf M0 c) : Int) := by rw [← hN, gI_aI_ne (by decide), gI_sI, if_pos rfl, if_pos rfl]
  have n3 : gI N1 (22 + 1) = f := by funext i; rw [← hN, gI_aI, if_pos rfl]
  have n4 : gL N1 = gL N ∧ gR N1 = gR N := by rw [← hN]; exact ⟨rfl, rfl⟩
  have n5 : gI N1 (24 + 1) = gI N 25 := n1 25 (by decide) (by decide) (by decide)
  have hb1 : FSM M0 N1 c S F := ⟨fun q q1 q2 q3 => by rw [n1 q (by omega) (by omega) (by omega)]; exact h1 q q1 q2 q3, n4.1.trans h2, n4.2.trans h3, by rw [← h4]; unfold sOf; rw [n1 9 (by decide) (by decide) (by decide), n1 10 (by decide) (by decide) (by decide)], by rw [n1 20 (by decide) (by decide) (by decide)]; exact h5, by rw [n1 20 (by decide) (by decide) (by decide)]; exact h7, by rw [n1 24 (by decide) (by decide) (by decide)]; exact h8, by rw [n1 25 (by decide) (by decide) (by decide)]; exact h9⟩
  obtain ⟨hI3, eT3⟩ := hb1.ci hI hS
  have v1 : ∀ i, i < nJ (tOf M0 c) → f i = gd (sdl (tOf M0 c) S) i := fun i hi => repI_get hf (by rw [sdl_len]; exact hi)
  have v2 : ∀ i, i < nJ (tOf M0 c) → gI N 25 i = gd F.2.2 i := fun i hi => repI_get h9 (by rw [hS2, sdl_len]; exact hi)
  have cl2 := c_isLess (G := G) (d := d + 2) (M := N1) (o := 22) (q := 24) (n := nJ (tOf M0 c)) (by omega) (by omega) h6 n2 (fun i hi => by
    rw [n3, n5, v1 i hi, v2 i hi, hS2]
    have a1 := sdl_b hT S hi
    have a2 := sdl_b hT S2 hi
    omega)
  rw [n3, n5, ltA_congr v1 v2] at cl2
  have b9 := b2i_r (ltA (gd (sdl (tOf M0 c) S)) (gd F.2.2) (nJ (tOf M0 c)))
  refine v_aload_n (pc := 8) 4 rfl rfl ?_
  refine v_getC (pc := 9) 5 rfl fl_X6_18 rfl 22 rfl ?_
  refine v_aload_n (pc := 12) 6 rfl rfl ?_
  refine v_getC (pc := 13) 7 rfl fl_X6_22 rfl 24 rfl ?_
  refine v_cV1i (pc := 16) 8 rfl cv_X6_83 rfl (Nat.le_of_ble_eq_true rfl) (Nat.le_of_ble_eq_true rfl) (cl2) ?_
  refine v_if_eq (pc := 19) 9 40 rfl (by decide) (by omega) (fun e1 => ?_) (fun e1 => ?_)
  · rw [if_neg (by intro q; rw [q] at e1; cases e1)]
    refine v_ret (pc := 40) 20 rfl rfl ⟨rfl, hb1⟩
  · rw [if_pos (by cases q : ltA (gd (sdl (tOf M0 c) S)) (gd F.2.2) (nJ (tOf M0 c)) with | true => rfl | false => rw [q] at e1; exact absurd rfl e1)]
    have cl3 := c_sortInto (G := G) (d := d) hI3 (o := 24) (Or.inr rfl)
    rw [eT3, hb1.2.2.2.1] at cl3
    refine v_aload_n (pc := 22) 10 rfl rfl ?_
    refine v_aload_n (pc := 23) 11 rfl rfl ?_
    refine v_getC (pc := 24) 12 rfl fl_X6_22 rfl 24 rfl ?_
    refine v_cV1 (pc := 27) 13 rfl cv_X6_36 rfl (Nat.le_of_ble_eq_true rfl) (Nat.le_of_ble_eq_true rfl) (cl3) (fun r9 N9 hq9 => ?_)
    obtain ⟨rfl, w2, f2, rfl, hf2⟩ := hq9
    show V G (d + 3) mX6_compare (27 + 3) _ [] _ _
    generalize hN2 : aI (sI (aI N1 21 w2) 24 1 (nJ (tOf M0 c) : Int)) (24 + 1) f2 = N2
    have p1 : ∀ q, q ≠ 21 → q ≠ 24 → q ≠ 25 → gI N2 q = gI N1 q := fun q a1 a2 a3 => by rw [← hN2, gI_aI_ne a3, gI_sI_ne a2, gI_aI_ne a1]
    have p2 : gI N2 24 1 = (nJ (tOf M0 c) : Int) := by rw [← hN2, gI_aI_ne (by decide), gI_sI, if_pos rfl, if_pos rfl]
    have p3 : gI N2 25 = f2 := by funext i; rw [← hN2, gI_aI, if_pos rfl]
    have p4 : gL N2 = gL N1 ∧ gR N2 = gR N1 := by rw [← hN2]; exact ⟨rfl, rfl⟩
    obtain ⟨k1, k2, k3, k4, k5, k7, k8, k9⟩ := id hb1
    refine v_aload_n (pc := 30) 14 rfl rfl ?_
    refine v_iload_n (pc := 31) 15 rfl rfl ?_
    refine v_putI (pc := 32) 16 rfl fl_X6_29 rfl ?_
    refine v_aload_n (pc := 35) 17 rfl rfl ?_
    refine v_iload_n (pc := 36) 18 rfl rfl ?_
    refine v_putI (pc := 37) 19 rfl fl_X6_33 rfl ?_
    refine v_ret (pc := 40) 20 rfl rfl ⟨rfl, fun q q1 q2 q3 => ?_, p4.1.trans k2, p4.2.trans k3, ?_, ?_, ?_, ?_, ?_⟩
    · rw [gI_sI_ne (by omega), gI_sI_ne (by omega), p1 q (by omega) (by omega) (by omega)]; exact k1 q q1 q2 q3
    · rw [← k4]; unfold sOf; rw [gI_sI_ne (by decide), gI_sI_ne (by decide), gI_sI_ne (by decide), gI_sI_ne (by decide), p1 9 (by decide) (by decide) (by decide), p1 10 (by decide) (by decide) (by decide)]
    · rw [gI_sI, if_pos rfl, if_neg (by decide), gI_sI, if_pos rfl, if_pos rfl]
    · rw [gI_sI, if_pos rfl, if_pos rfl]
    · rw [gI_sI_ne (by decide), gI_sI_ne (by decide)]; exact p2
    · rw [gI_sI_ne (by decide), gI_sI_ne (by decide), p3]; exact hf2
set_option maxHeartbeats 4000000 in
theorem c_tryOthers (hI : CI M0 c) (hS : SOk (tOf M0 c) S) (h : FSM M0 N c S F) (hF : FOk (tOf M0 c) F) {k : Nat} (hk : k < nK (tOf M0 c)) (hk1 : S.1 k ≠ -1) : V G (d + 4) mX6_tryOthers 0 [some (.ref 20), some (.int (J (k : Int))), some (.int (J (S.1 k))), some (.int (J (S.2 k))), none] [] N (fun r N2 => r = none ∧ FSM M0 N2 c S (frJ (tOf M0 c) S k (nJ (tOf M0 c)) F)) := by
  have hT := hI.2.2.2.2.2.1
  have h6 := hT.2.1
  have h12 := hT.2.2.1
  obtain ⟨b1, b2⟩ : (0 ≤ S.1 k ∧ S.1 k < nJ (tOf M0 c)) ∧ (0 ≤ S.2 k ∧ S.2 k ≤ 60) := by
    rcases hS k (by omega) with q | q
    · exact absurd q.1 hk1
    · exact q.2
  have hS0 : SOk (tOf M0 c) (setS S k (-1) (-1)) := hS.set (Or.inl ⟨rfl, rfl⟩)
  refine v_aload_n (pc := 0) 0 rfl rfl ?_
  refine v_getC (pc := 1) 1 rfl fl_X6_25 rfl 8 rfl ?_
  refine v_iload_n (pc := 4) 2 rfl rfl ?_
  refine v_cV1v (pc := 5) 3 rfl cv_X6_65 rfl (Nat.le_of_ble_eq_true rfl) (Nat.le_of_ble_eq_true rfl) (c_remove (by omega)) ?_
  refine v_iconst (pc := 8) 4 rfl ?_
  refine v_istore (pc := 9) 5 rfl ⟨Nat.le_of_ble_eq_true rfl, rfl⟩ ?_
  have hb0 := h.pl k (-1) (-1)
  have loop := loopN (N := nJ (tOf M0 c)) (fun j => ∀ N, FSM M0 N c (setS S k (-1) (-1)) (frJ (tOf M0 c) S k j F) → V G (d + 4) mX6_tryOthers 11 [some (.ref 20), some (.int (J (k : Int))), some (.int (J (S.1 k))), some (.int (J (S.2 k))), some (.int (J (j : Int)))] [] N (fun r N2 => r = none ∧ FSM M0 N2 c S (frJ (tOf M0 c) S k (nJ (tOf M0 c)) F))) ?_ ?_
  · exact loop _ hb0
  · intro N1 hb
    obtain ⟨hI1, eT⟩ := hb.ci hI hS0
    have hc := hI1.1
    have hca := hI1.2.1
    have hn := hI1.n
    rw [eT] at hn
    have hb2 := hb.pl k (S.1 k) (S.2 k)
    rw [set_set, set_self] at hb2
    refine v_iload (pc := 11) 6 rfl rfl ?_
    refine v_aload_n (pc := 13) 7 rfl rfl ?_
    refine v_getC (pc := 14) 8 rfl fl_X6_25 rfl 8 rfl ?_
    refine v_getR (pc := 17) 9 rfl fl_X6_40 rfl _ hca ?_
    refine v_getI (pc := 20) 10 rfl fl_X6_69 (shC hc) ?_
    refine v_ic_geT (pc := 23) 11 78 rfl (by decide) (by omega) (by omega) ?_
    refine v_aload_n (pc := 78) 38 rfl rfl ?_
    refine v_getC (pc := 79) 39 rfl fl_X6_25 rfl 8 rfl ?_
    refine v_iload_n (pc := 82) 40 rfl rfl ?_
    refine v_iload_n (pc := 83) 41 rfl rfl ?_
    refine v_iload_n (pc := 84) 42 rfl rfl ?_
    refine v_cV3v (pc := 85) 43 rfl cv_X6_76 rfl (Nat.le_of_ble_eq_true rfl) (Nat.le_of_ble_eq_true rfl) (c_place (by omega) _ _) ?_
    refine v_ret (pc := 88) 44 rfl rfl ⟨rfl, hb2⟩
  · intro j hj ih N1 hb
    obtain ⟨hI1, eT⟩ := hb.ci hI hS0
    have hc := hI1.1
    have hca := hI1.2.1
    have hn := hI1.n
    rw [eT] at hn
    have eJ : frJ (tOf M0 c) S k (j + 1) F = if (j : Int) ≠ S.1 k ∧ whyS (tOf M0 c) (setS S k (-1) (-1)) k j (S.2 k) = 0 ∧ ltA (gd (sdl (tOf M0 c) (setS S k j (S.2 k)))) (gd (frJ (tOf M0 c) S k j F).2.2) (nJ (tOf M0 c)) = true then ((k : Int), (j : Int), sdl (tOf M0 c) (setS S k j (S.2 k))) else frJ (tOf M0 c) S k j F := rfl
    rw [eJ] at ih
    refine v_iload (pc := 11) 6 rfl rfl ?_
    refine v_aload_n (pc := 13) 7 rfl rfl ?_
    refine v_getC (pc := 14) 8 rfl fl_X6_25 rfl 8 rfl ?_
    refine v_getR (pc := 17) 9 rfl fl_X6_40 rfl _ hca ?_
    refine v_getI (pc := 20) 10 rfl fl_X6_69 (shC hc) ?_
    refine v_ic_geF (pc := 23) 11 78 rfl (by decide) (by omega) (by omega) ?_
    refine v_iload (pc := 26) 12 rfl rfl ?_
    refine v_iload_n (pc := 28) 13 rfl rfl ?_
    refine v_ic_eq (pc := 29) 14 72 rfl (by decide) (by omega) (fun e1 => ?_) (fun e1 => ?_)
    · rw [if_neg (fun q => q.1 (by omega))] at ih
      refine v_iinc (pc := 72) 36 rfl rfl ⟨Nat.le_of_ble_eq_true rfl, rfl⟩ ?_
      refine v_goto (pc := 75) 37 11 rfl (by decide) ?_
      exact ih _ hb
    · have cl := c_whyNot (G := G) (d := d + 1) hI1 (k := k) (j := j) (by rw [eT]; exact hk) (by rw [eT]; exact hj) b2
      rw [eT, hb.2.2.2.1] at cl
      have hw := whyS_b (tOf M0 c) (setS S k (-1) (-1)) k j (S.2 k)
      refine v_aload_n (pc := 32) 15 rfl rfl ?_
      refine v_getC (pc := 33) 16 rfl fl_X6_25 rfl 8 rfl ?_
      refine v_iload_n (pc := 36) 17 rfl rfl ?_
      refine v_iload (pc := 37) 18 rfl rfl ?_
      refine v_iload_n (pc := 39) 19 rfl rfl ?_
      refine v_cV3i (pc := 40) 20 rfl cv_X6_72 rfl (Nat.le_of_ble_eq_true rfl) (Nat.le_of_ble_eq_true rfl) (cl) ?_
      refine v_if_ne (pc := 43) 21 72 rfl (by decide) (by omega) (fun e2 => ?_) (fun e2 => ?_)
      · rw [if_neg (fun q => e2 q.2.1)] at ih
        refine v_iinc (pc := 72) 36 rfl rfl ⟨Nat.le_of_ble_eq_true rfl, rfl⟩ ?_
        refine v_goto (pc := 75) 37 11 rfl (by decide) ?_
        exact ih _ hb
      · have hb2 := hb.pl k j (S.2 k)
        rw [set_set] at hb2
        have hS2 : SOk (tOf M0 c) (setS S k j (S.2 k)) := hS.set (Or.inr ⟨hk, by omega, b2⟩)
        have hFj := frJ_ok (S := S) hk hF j (by omega)
        refine v_aload_n (pc := 46) 22 rfl rfl ?_
        refine v_getC (pc := 47) 23 rfl fl_X6_25 rfl 8 rfl ?_
        refine v_iload_n (pc := 50) 24 rfl rfl ?_
        refine v_iload (pc := 51) 25 rfl rfl ?_
        refine v_iload_n (pc := 53) 26 rfl rfl ?_
        refine v_cV3v (pc := 54) 27 rfl cv_X6_76 rfl (Nat.le_of_ble_eq_true rfl) (Nat.le_of_ble_eq_true rfl) (c_place (by omega) _ _) ?_
        refine v_aload_n (pc := 57) 28 rfl rfl ?_
        refine v_iload_n (pc := 58) 29 rfl rfl ?_
        refine v_iload (pc := 59) 30 rfl rfl ?_
        refine v_cV2 (pc := 61) 31 rfl cv_X6_79 rfl (Nat.le_of_ble_eq_true rfl) (Nat.le_of_ble_eq_true rfl) (c_compare hI hS2 hb2 hFj _ _) (fun r9 N9 hq9 => ?_)
        obtain ⟨rfl, hb3⟩ := hq9
        show V G (d + 4) mX6_tryOthers (61 + 3) _ [] _ _
        have hb4 := hb3.pl k (-1) (-1)
        rw [set_set] at hb4
        refine v_aload_n (pc := 64) 32 rfl rfl ?_
        refine v_getC (pc := 65) 33 rfl fl_X6_25 rfl 8 rfl ?_
        refine v_iload_n (pc := 68) 34 rfl rfl ?_
        refine v_cV1v (pc := 69) 35 rfl cv_X6_65 rfl (Nat.le_of_ble_eq_true rfl) (Nat.le_of_ble_eq_true rfl) (c_remove (by omega)) ?_
        refine v_iinc (pc := 72) 36 rfl rfl ⟨Nat.le_of_ble_eq_true rfl, rfl⟩ ?_
        refine v_goto (pc := 75) 37 11 rfl (by decide) ?_
        refine ih _ ?_
        by_cases q : ltA (gd (sdl (tOf M0 c) (setS S k j (S.2 k)))) (gd (frJ (tOf M0 c) S k j F).2.2) (nJ (tOf M0 c)) = true
        · rw [if_pos ⟨e1, Decidable.not_not.mp e2, q⟩]
          rw [if_pos q] at hb4
          exact hb4
        · rw [if_neg (fun z => q z.2.2)]
          rw [if_neg q] at hb4
          exact hb4
set_option maxHeartbeats 4000000 in
theorem c_fairFind (h : CI M c) : V G (d + 5) mX6_find 0 [some (.ref 20), none] [] M (fun r N => r = none ∧ FSM M N c (sOf M) (fair (tOf M c) (sOf M))) := by
  have hI := h
  have hT := h.2.2.2.2.2.1
  have hS := h.2.2.2.2.2.2
  have h12 := hT.2.2.1
  have s1 : sOf (sI (sI M 20 4 (-1)) 20 5 (-1)) = sOf M := by unfold sOf; rw [gI_sI_ne (by decide), gI_sI_ne (by decide), gI_sI_ne (by decide), gI_sI_ne (by decide)]
  obtain ⟨hI1, eT1⟩ := hI.ag2 (N := sI (sI M 20 4 (-1)) 20 5 (-1)) (fun q q1 q2 q3 => by rw [gI_sI_ne (by omega), gI_sI_ne (by omega)]) rfl (by rw [s1]; exact hS)
  have cl := c_sortInto (G := G) (d := d + 2) hI1 (o := 24) (Or.inr rfl)
  rw [eT1, s1] at cl
  refine v_aload_n (pc := 0) 0 rfl rfl ?_
  refine v_iconst (pc := 1) 1 rfl ?_
  refine v_putI (pc := 2) 2 rfl fl_X6_29 rfl ?_
  refine v_aload_n (pc := 5) 3 rfl rfl ?_
  refine v_iconst (pc := 6) 4 rfl ?_
  refine v_putI (pc := 7) 5 rfl fl_X6_33 rfl ?_
  refine v_aload_n (pc := 10) 6 rfl rfl ?_
  refine v_aload_n (pc := 11) 7 rfl rfl ?_
  refine v_getC (pc := 12) 8 rfl fl_X6_22 rfl 24 rfl ?_
  refine v_cV1 (pc := 15) 9 rfl cv_X6_36 rfl (Nat.le_of_ble_eq_true rfl) (Nat.le_of_ble_eq_true rfl) (cl) (fun r9 N9 hq9 => ?_)
  obtain ⟨rfl, w, f, rfl, hf⟩ := hq9
  show V G (d + 5) mX6_find (15 + 3) _ [] _ _
  have hb0 : FSM M (aI (sI (aI (sI (sI M 20 4 (-1)) 20 5 (-1)) 21 w) 24 1 (nJ (tOf M c) : Int)) (24 + 1) f) c (sOf M) (-1, -1, sdl (tOf M c) (sOf M)) := by
    refine ⟨fun q q1 q2 q3 => ?_, rfl, rfl, ?_, ?_, ?_, ?_, ?_⟩
    · rw [gI_aI_ne (by omega), gI_sI_ne (by omega), gI_aI_ne (by omega), gI_sI_ne (by omega), gI_sI_ne (by omega)]
    · rw [← s1]; unfold sOf; rw [gI_aI_ne (by decide), gI_aI_ne (by decide), gI_sI_ne (by decide), gI_sI_ne (by decide), gI_aI_ne (by decide), gI_aI_ne (by decide)]
    · rw [gI_aI_ne (by decide), gI_sI_ne (by decide), gI_aI_ne (by decide), gI_sI, if_pos rfl, if_neg (by decide), gI_sI, if_pos rfl, if_pos rfl]
    · rw [gI_aI_ne (by decide), gI_sI_ne (by decide), gI_aI_ne (by decide), gI_sI, if_pos rfl, if_pos rfl]
    · rw [gI_aI_ne (by decide), gI_sI, if_pos rfl, if_pos rfl]
    · have : gI (aI (sI (aI (sI (sI M 20 4 (-1)) 20 5 (-1)) 21 w) 24 1 (nJ (tOf M c) : Int)) (24 + 1) f) 25 = f := by funext i; rw [gI_aI, if_pos rfl]
      rw [this]; exact hf
  refine v_iconst (pc := 18) 10 rfl ?_
  refine v_istore_n (pc := 19) 11 rfl ⟨Nat.le_of_ble_eq_true rfl, rfl⟩ ?_
  have loop := loopN (N := nK (tOf M c)) (fun k => ∀ N, FSM M N c (sOf M) (frK (tOf M c) (sOf M) k) → V G (d + 5) mX6_find 20 [some (.ref 20), some (.int (J (k : Int)))] [] N (fun r N => r = none ∧ FSM M N c (sOf M) (fair (tOf M c) (sOf M)))) ?_ ?_
  · exact loop _ hb0
  · intro N1 hb
    obtain ⟨hI2, eT⟩ := hb.ci hI hS
    have hc := hI2.1
    have hca := hI2.2.1
    have hn := hI2.n
    rw [eT] at hn
    refine v_iload_n (pc := 20) 12 rfl rfl ?_
    refine v_aload_n (pc := 21) 13 rfl rfl ?_
    refine v_getC (pc := 22) 14 rfl fl_X6_25 rfl 8 rfl ?_
    refine v_getR (pc := 25) 15 rfl fl_X6_40 rfl _ hca ?_
    refine v_getI (pc := 28) 16 rfl fl_X6_46 (shC hc) ?_
    refine v_ic_geT (pc := 31) 17 74 rfl (by decide) (by omega) (by omega) ?_
    refine v_ret (pc := 74) 38 rfl rfl ⟨rfl, hb⟩
  · intro k hk ih N1 hb
    obtain ⟨hI2, eT⟩ := hb.ci hI hS
    have hc := hI2.1
    have hca := hI2.2.1
    have hn := hI2.n
    rw [eT] at hn
    have e9 : gI N1 9 = (sOf M).1 := by rw [← hb.2.2.2.1]
    have e10 : gI N1 10 = (sOf M).2 := by rw [← hb.2.2.2.1]
    have hbk := hS.b hT (k := k) (by omega)
    have eK : frK (tOf M c) (sOf M) (k + 1) = if (sOf M).1 k = -1 then frK (tOf M c) (sOf M) k else frJ (tOf M c) (sOf M) k (nJ (tOf M c)) (frK (tOf M c) (sOf M) k) := rfl
    rw [eK] at ih
    refine v_iload_n (pc := 20) 12 rfl rfl ?_
    refine v_aload_n (pc := 21) 13 rfl rfl ?_
    refine v_getC (pc := 22) 14 rfl fl_X6_25 rfl 8 rfl ?_
    refine v_getR (pc := 25) 15 rfl fl_X6_40 rfl _ hca ?_
    refine v_getI (pc := 28) 16 rfl fl_X6_46 (shC hc) ?_
    refine v_ic_geF (pc := 31) 17 74 rfl (by decide) (by omega) (by omega) ?_
    refine v_aload_n (pc := 34) 18 rfl rfl ?_
    refine v_getC (pc := 35) 19 rfl fl_X6_25 rfl 8 rfl ?_
    refine v_iload_n (pc := 38) 20 rfl rfl ?_
    refine v_cV1i (pc := 39) 21 rfl cv_X6_51 rfl (Nat.le_of_ble_eq_true rfl) (Nat.le_of_ble_eq_true rfl) (c_hasSitting (by omega) (by rw [e9]; omega)) ?_
    rw [e9]
    refine v_if_eq (pc := 42) 22 68 rfl (by decide) (by omega) (fun e1 => ?_) (fun e1 => ?_)
    · rw [if_pos (by omega)] at ih
      refine v_iinc (pc := 68) 36 rfl rfl ⟨Nat.le_of_ble_eq_true rfl, rfl⟩ ?_
      refine v_goto (pc := 71) 37 20 rfl (by decide) ?_
      exact ih _ hb
    · have e2 : (sOf M).1 k ≠ -1 := by omega
      rw [if_neg e2] at ih
      refine v_aload_n (pc := 45) 23 rfl rfl ?_
      refine v_iload_n (pc := 46) 24 rfl rfl ?_
      refine v_aload_n (pc := 47) 25 rfl rfl ?_
      refine v_getC (pc := 48) 26 rfl fl_X6_25 rfl 8 rfl ?_
      refine v_getC (pc := 51) 27 rfl fl_X6_55 rfl 9 rfl ?_
      refine v_iload_n (pc := 54) 28 rfl rfl ?_
      refine v_ialdN (pc := 55) 29 rfl rfl (by omega) ?_
      rw [e9]
      refine v_aload_n (pc := 56) 30 rfl rfl ?_
      refine v_getC (pc := 57) 31 rfl fl_X6_25 rfl 8 rfl ?_
      refine v_getC (pc := 60) 32 rfl fl_X6_58 rfl 10 rfl ?_
      refine v_iload_n (pc := 63) 33 rfl rfl ?_
      refine v_ialdN (pc := 64) 34 rfl rfl (by omega) ?_
      rw [e10]
      refine v_cV3 (pc := 65) 35 rfl cv_X6_61 rfl (Nat.le_of_ble_eq_true rfl) (Nat.le_of_ble_eq_true rfl) (c_tryOthers hI hS hb (frK_ok _ _ k (by omega)) hk e2) (fun r9 N9 hq9 => ?_)
      obtain ⟨rfl, hb3⟩ := hq9
      show V G (d + 5) mX6_find (65 + 3) _ [] _ _
      refine v_iinc (pc := 68) 36 rfl rfl ⟨Nat.le_of_ble_eq_true rfl, rfl⟩ ?_
      refine v_goto (pc := 71) 37 20 rfl (by decide) ?_
      exact ih _ hb3
end Fair
