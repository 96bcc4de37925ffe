/-! 16: the best of a day: the class's search -/
abbrev Bx : Type := Int × List Int × (Nat → Int)
def lds (T : Tx) (S : Sx) : Nat → Int := fun j => ld T S j (nK T)
def sdl (T : Tx) (S : Sx) : List Int := sd (lds T S) (nJ T)
def up (g : Nat → Int) (k : Nat) (v : Int) : Nat → Int := fun i => if i = k then v else g i
def mayB (T : Tx) (S : Sx) (m : Int) (B : Bx) : Bool := if m ≠ B.1 then decide (B.1 < m) else ltA (gd (sdl T S)) (gd B.2.1) (nJ T)
def csJ (rc : Int → Sx → (Nat → Int) → Bx → Bx) (T : Tx) (d : Int) (x k : Nat) (h : Int) (S : Sx) (g : Nat → Int) : Nat → Bx → Bx
  | 0, B => B
  | m + 1, B => if whyS T S x m d = 0 then rc (h + 1) (setS S x m d) (up g k m) (csJ rc T d x k h S g m B) else csJ rc T d x k h S g m B
def cs (T : Tx) (d : Int) (l : List Nat) : Nat → Nat → Int → Sx → (Nat → Int) → Bx → Bx
  | 0, _, h, S, g, B => if mayB T S h B = true then (h, sdl T S, g) else B
  | r + 1, k, h, S, g, B => if mayB T S (h + ((r + 1 : Nat) : Int)) B = true then csJ (cs T d l r (k + 1)) T d (l.getD k 0) k h S g (nJ T) (cs T d l r (k + 1) h S (up g k (-1)) B) else B
/-- what is remembered is of the form that the search gives it -/
def BOk (T : Tx) (a : Nat) (B : Bx) : Prop := (-1 ≤ B.1 ∧ B.1 ≤ a) ∧ (B.1 = -1 ∨ ((∃ S, B.2.1 = sdl T S) ∧ ∀ i, i < a → -1 ≤ B.2.2 i ∧ B.2.2 i < nJ T))
def BSM (M0 N : Mem) (c : Nat) (S : Sx) (dd : Int) (a : Nat) (B : Bx) : Prop :=
  (∀ q, q ≠ 9 → q ≠ 10 → ¬ (12 ≤ q ∧ q ≤ 19) → gI N q = gI M0 q) ∧ gL N = gL M0 ∧ gR N = gR M0 ∧ sOf N = S ∧ gI N 12 4 = dd ∧ gI N 12 5 = (a : Int) ∧ gI N 12 6 = B.1 ∧
  (∀ j, j < nJ (tOf M0 c) → gI N 13 j = lds (tOf M0 c) S j) ∧ (B.1 = -1 ∨ (gI N 18 1 = (nJ (tOf M0 c) : Int) ∧ repI (gI N 19) B.2.1 ∧ ∀ i, i < a → gI N 17 i = B.2.2 i))
theorem BSM.irr {M0 N N2 : Mem} {c : Nat} {S : Sx} {dd : Int} {a : Nat} {B : Bx} (h : BSM M0 N c S dd a B) (e : ∀ q, q ≠ 14 → q ≠ 15 → q ≠ 16 → gI N2 q = gI N q) (e2 : gL N2 = gL N) (e3 : gR N2 = gR N) : BSM M0 N2 c S dd a B := by
  obtain ⟨h1, h2, h3, h4, h5, h6, h7, h8, h9⟩ := h
  refine ⟨fun q q1 q2 q3 => ?_, e2.trans h2, e3.trans h3, ?_, ?_, ?_, ?_, fun j hj => ?_, ?_⟩
  · rw [e q (by omega) (by omega) (by omega)]; exact h1 q q1 q2 q3
  · rw [← h4]; unfold sOf; rw [e 9 (by decide) (by decide) (by decide), e 10 (by decide) (by decide) (by decide)]
  · rw [e 12 (by decide) (by decide) (by decide)]; exact h5
  · rw [e 12 (by decide) (by decide) (by decide)]; exact h6
  · rw [e 12 (by decide) (by decide) (by decide)]; exact h7
  · rw [e 13 (by decide) (by decide) (by decide)]; exact h8 j hj
  · rw [e 18 (by decide) (by decide) (by decide), e 19 (by decide) (by decide) (by decide), e 17 (by decide) (by decide) (by decide)]; exact h9
theorem BSM.ci {M0 N : Mem} {c : Nat} {S : Sx} {dd : Int} {a : Nat} {B : Bx} (h : BSM M0 N c S dd a B) (hI : CI M0 c) (hS : SOk (tOf M0 c) S) : CI N c ∧ tOf N c = tOf M0 c := by
  obtain ⟨h1, h2, h3, h4, -⟩ := h
  have e1 : ∀ j, j ≤ 10 → gI N (c + j) = gI M0 (c + j) := fun j hj => h1 _ (by rcases hI.1 with e | e <;> omega) (by rcases hI.1 with e | e <;> omega) (by rcases hI.1 with e | e <;> omega)
  exact ⟨hI.keep e1 (by rw [h3]) (by rw [h4]; exact hS), tOf_eq e1⟩
theorem lds_b {T : Tx} (hT : TOk T) (S : Sx) (j : Nat) : 0 ≤ lds T S j ∧ lds T S j ≤ 4320 := ld_b hT S j
theorem sdl_len (T : Tx) (S : Sx) : (sdl T S).length = nJ T := sd_len _ _
theorem sdl_b {T : Tx} (hT : TOk T) (S : Sx) {i : Nat} (hi : i < nJ T) : 0 ≤ gd (sdl T S) i ∧ gd (sdl T S) i ≤ 4320 := by
  have h : gd (sdl T S) i ∈ sdl T S := by
    unfold gd
    rw [List.getD_eq_getElem?_getD, List.getElem?_eq_getElem (by rw [sdl_len]; exact hi)]
    exact List.getElem_mem _
  obtain ⟨j, -, h2⟩ := sd_mem h
  rw [h2]; exact lds_b hT S j
section Best
variable {G : Gt} {d : Nat} {M0 N : Mem} {c : Nat} {S : Sx} {dd : Int} {a : Nat} {B : Bx}
theorem c_mayBe (hI : CI M0 c) (hS : SOk (tOf M0 c) S) (h : BSM M0 N c S dd a B) (hB : BOk (tOf M0 c) a B) (ha : a ≤ 5) {m : Int} (hm : 0 ≤ m ∧ m ≤ 100) : V G (d + 2) mX1_mayBeBetter 0 [some (.ref 12), some (.int (J m))] [] N (fun r N2 => r = some (.int (J (b2i (mayB (tOf M0 c) S m B)))) ∧ BSM M0 N2 c S dd a B ∧ gI N2 14 = gI N 14) := by
  obtain ⟨hI2, eT⟩ := h.ci hI hS
  have hT := hI.2.2.2.2.2.1
  have hc := hI2.1
  have hca := hI2.2.1
  have hn := hI2.n
  rw [eT] at hn
  have hB1 := hB.1
  obtain ⟨h1, h2, h3, h4, h5, h6, h7, h8, h9⟩ := id h
  refine v_iload_n (pc := 0) 0 rfl rfl ?_
  refine v_aload_n (pc := 1) 1 rfl rfl ?_
  refine v_getI (pc := 2) 2 rfl fl_X1_54 rfl ?_
  refine v_ic_eq (pc := 5) 3 22 rfl (by decide) (by omega) (fun e1 => ?_) (fun e1 => ?_)
  · have em : mayB (tOf M0 c) S m B = ltA (gd (sdl (tOf M0 c) S)) (gd B.2.1) (nJ (tOf M0 c)) := by unfold mayB; rw [if_neg (fun q => q (by omega))]
    rw [em]
    obtain ⟨k1, k2, k3⟩ : gI N 18 1 = (nJ (tOf M0 c) : Int) ∧ repI (gI N 19) B.2.1 ∧ ∀ i, i < a → gI N 17 i = B.2.2 i := by
      rcases h9 with q | q
      · omega
      · exact q
    obtain ⟨S2, hS2⟩ : ∃ S2, B.2.1 = sdl (tOf M0 c) S2 := by
      rcases hB.2 with q | q
      · omega
      · exact q.1
    refine v_aload_n (pc := 22) 12 rfl rfl ?_
    refine v_getC (pc := 23) 13 rfl fl_X1_21 rfl 15 rfl ?_
    refine v_aload_n (pc := 26) 14 rfl rfl ?_
    refine v_getC (pc := 27) 15 rfl fl_X1_9 rfl 13 rfl ?_
    refine v_aload_n (pc := 30) 16 rfl rfl ?_
    refine v_getC (pc := 31) 17 rfl fl_X1_31 rfl 8 rfl ?_
    refine v_getR (pc := 34) 18 rfl fl_X1_57 rfl _ hca ?_
    refine v_getI (pc := 37) 19 rfl fl_X1_61 (shC hc) ?_
    rw [hn.2.1]
    refine v_cV2 (pc := 40) 20 rfl cv_X1_98 rfl (Nat.le_of_ble_eq_true rfl) (Nat.le_of_ble_eq_true rfl) (c_sort (Or.inl rfl) rfl (by decide) hn.2.2.2.2.1 (fun j hj => by rw [h8 j hj]; have := lds_b hT S j; omega)) (fun r9 N9 hq9 => ?_)
    obtain ⟨f, rfl, rfl, hf⟩ := hq9
    have hf2 : repI f (sdl (tOf M0 c) S) := by
      unfold sdl
      rw [← sd_congr h8]; exact hf
    have g1 : gI (aI (sI N 15 1 (nJ (tOf M0 c) : Int)) (15 + 1) f) 15 1 = (nJ (tOf M0 c) : Int) := by rw [gI_aI_ne (by decide), gI_sI, if_pos rfl, if_pos rfl]
    have g2 : gI (aI (sI N 15 1 (nJ (tOf M0 c) : Int)) (15 + 1) f) (15 + 1) = f := by funext i; rw [gI_aI, if_pos rfl]
    have g3 : gI (aI (sI N 15 1 (nJ (tOf M0 c) : Int)) (15 + 1) f) (18 + 1) = gI N 19 := by rw [gI_aI_ne (by decide), gI_sI_ne (by decide)]
    have v1 : ∀ j, j < nJ (tOf M0 c) → f j = gd (sdl (tOf M0 c) S) j := fun j hj => repI_get hf2 (by rw [sdl_len]; exact hj)
    have v2 : ∀ j, j < nJ (tOf M0 c) → gI N 19 j = gd B.2.1 j := fun j hj => repI_get k2 (by rw [hS2, sdl_len]; exact hj)
    have cl := c_isLess (G := G) (d := d + 1) (M := aI (sI N 15 1 (nJ (tOf M0 c) : Int)) (15 + 1) f) (o := 15) (q := 18) (n := nJ (tOf M0 c)) (Or.inl rfl) (Or.inr (Or.inl rfl)) hn.2.2.2.2.1 g1 (fun j hj => by
      rw [g2, g3, v1 j hj, v2 j hj, hS2]
      have a1 := sdl_b hT S hj
      have a2 := sdl_b hT S2 hj
      omega)
    rw [g2, g3, ltA_congr v1 v2] at cl
    show V G (d + 2) mX1_mayBeBetter (40 + 3) _ [] _ _
    have b9 := b2i_01 (ltA (gd (sdl (tOf M0 c) S)) (gd B.2.1) (nJ (tOf M0 c)))
    refine v_aload_n (pc := 43) 21 rfl rfl ?_
    refine v_getC (pc := 44) 22 rfl fl_X1_21 rfl 15 rfl ?_
    refine v_aload_n (pc := 47) 23 rfl rfl ?_
    refine v_getC (pc := 48) 24 rfl fl_X1_28 rfl 18 rfl ?_
    refine v_cV1i (pc := 51) 25 rfl cv_X1_102 rfl (Nat.le_of_ble_eq_true rfl) (Nat.le_of_ble_eq_true rfl) (cl) ?_
    refine v_zret (pc := 54) 26 rfl rfl b9 ⟨rfl, ?_, ?_⟩
    · exact h.irr (fun q q1 q2 q3 => by rw [gI_aI_ne q3, gI_sI_ne q2]) rfl rfl
    · rw [gI_aI_ne (by decide), gI_sI_ne (by decide)]
  · have em : mayB (tOf M0 c) S m B = decide (B.1 < m) := by unfold mayB; rw [if_pos (by omega)]
    rw [em]
    refine v_iload_n (pc := 8) 4 rfl rfl ?_
    refine v_aload_n (pc := 9) 5 rfl rfl ?_
    refine v_getI (pc := 10) 6 rfl fl_X1_54 rfl ?_
    refine v_ic_le (pc := 13) 7 20 rfl (by decide) (by omega) (fun e2 => ?_) (fun e2 => ?_)
    · rw [decide_eq_false (by omega)]
      refine v_iconst (pc := 20) 10 rfl ?_
      refine v_zret (pc := 21) 11 rfl rfl (by omega) ⟨rfl, h, rfl⟩
    · rw [decide_eq_true (by omega)]
      refine v_iconst (pc := 16) 8 rfl ?_
      refine v_goto (pc := 17) 9 21 rfl (by decide) ?_
      refine v_zret (pc := 21) 11 rfl rfl (by omega) ⟨rfl, h, rfl⟩
set_option maxHeartbeats 2000000 in
theorem c_remember (hI : CI M0 c) (hS : SOk (tOf M0 c) S) (h : BSM M0 N c S dd a B) (ha : a ≤ 5) {m : Int} {g : Nat → Int} (hg : ∀ i, i < a → gI N 14 i = g i) : V G (d + 2) mX1_remember 0 [some (.ref 12), some (.int (J m)), none] [] N (fun r N2 => r = none ∧ BSM M0 N2 c S dd a (m, sdl (tOf M0 c) S, g) ∧ gI N2 14 = gI N 14) := by
  obtain ⟨hI2, eT⟩ := h.ci hI hS
  have hT := hI.2.2.2.2.2.1
  have hc := hI2.1
  have hca := hI2.2.1
  have hn := hI2.n
  rw [eT] at hn
  obtain ⟨h1, h2, h3, h4, h5, h6, h7, h8, h9⟩ := id h
  have hca1 : gR (sI N 12 6 m) 8 0 = c := hca
  have q1 : gI (sI N 12 6 m) c 1 = (nJ (tOf M0 c) : Int) := by rw [gI_sI_ne (by rcases hc with e | e <;> omega)]; exact hn.2.1
  refine v_aload_n (pc := 0) 0 rfl rfl ?_
  refine v_iload_n (pc := 1) 1 rfl rfl ?_
  refine v_putI (pc := 2) 2 rfl fl_X1_54 rfl ?_
  refine v_aload_n (pc := 5) 3 rfl rfl ?_
  refine v_getC (pc := 6) 4 rfl fl_X1_28 rfl 18 rfl ?_
  refine v_aload_n (pc := 9) 5 rfl rfl ?_
  refine v_getC (pc := 10) 6 rfl fl_X1_9 rfl 13 rfl ?_
  refine v_aload_n (pc := 13) 7 rfl rfl ?_
  refine v_getC (pc := 14) 8 rfl fl_X1_31 rfl 8 rfl ?_
  refine v_getR (pc := 17) 9 rfl fl_X1_57 rfl _ hca ?_
  refine v_getI (pc := 20) 10 rfl fl_X1_61 (shC hc) ?_
  rw [q1]
  refine v_cV2 (pc := 23) 11 rfl cv_X1_98 rfl (Nat.le_of_ble_eq_true rfl) (Nat.le_of_ble_eq_true rfl) (c_sort (Or.inr (Or.inl rfl)) rfl (by decide) hn.2.2.2.2.1 (fun j hj => by rw [gI_sI_ne (by decide), h8 j hj]; have := lds_b hT S j; omega)) (fun r9 N9 hq9 => ?_)
  obtain ⟨f, rfl, rfl, hf⟩ := hq9
  have hf2 : repI f (sdl (tOf M0 c) S) := by
    unfold sdl
    rw [← sd_congr h8]
    rw [gI_sI_ne (by decide)] at hf
    exact hf
  show V G (d + 2) mX1_remember (23 + 3) _ [] _ _
  generalize hN : aI (sI (sI N 12 6 m) 18 1 (nJ (tOf M0 c) : Int)) (18 + 1) f = N1
  have n1 : ∀ q, q ≠ 12 → q ≠ 18 → q ≠ 19 → gI N1 q = gI N q := fun q a1 a2 a3 => by rw [← hN, gI_aI_ne a3, gI_sI_ne a2, gI_sI_ne a1]
  have n2 : gI N1 12 5 = (a : Int) := by rw [← hN, gI_aI_ne (by decide), gI_sI_ne (by decide), gI_sI, if_pos rfl, if_neg (by decide)]; exact h6
  have n3 : gI N1 12 4 = dd := by rw [← hN, gI_aI_ne (by decide), gI_sI_ne (by decide), gI_sI, if_pos rfl, if_neg (by decide)]; exact h5
  have n4 : gI N1 12 6 = m := by rw [← hN, gI_aI_ne (by decide), gI_sI_ne (by decide), gI_sI, if_pos rfl, if_pos rfl]
  have n5 : gI N1 18 1 = (nJ (tOf M0 c) : Int) := by rw [← hN, gI_aI_ne (by decide), gI_sI, if_pos rfl, if_pos rfl]
  have n6 : gI N1 19 = f := by funext i; rw [← hN, gI_aI, if_pos rfl]
  have n7 : gL N1 = gL N ∧ gR N1 = gR N := by rw [← hN]; exact ⟨rfl, rfl⟩
  refine v_iconst (pc := 26) 12 rfl ?_
  refine v_istore_n (pc := 27) 13 rfl ⟨Nat.le_of_ble_eq_true rfl, rfl⟩ ?_
  have loop := loopN (N := a) (fun i => ∀ w, (∀ t, t < i → w t = g t) → V G (d + 2) mX1_remember 28 [some (.ref 12), some (.int (J m)), some (.int (J (i : Int)))] [] (aI N1 17 w) (fun r N2 => r = none ∧ BSM M0 N2 c S dd a (m, sdl (tOf M0 c) S, g) ∧ gI N2 14 = gI N 14)) ?_ ?_
  · have := loop (gI N1 17) (fun t ht => by omega)
    rw [aI_self] at this
    exact this
  · intro w hw
    have p1 : gI (aI N1 17 w) 12 5 = (a : Int) := by rw [gI_aI_ne (by decide)]; exact n2
    have ne : ∀ q, q ≠ 17 → gI (aI N1 17 w) q = gI N1 q := fun q hq => gI_aI_ne hq
    refine v_iload_n (pc := 28) 14 rfl rfl ?_
    refine v_aload_n (pc := 29) 15 rfl rfl ?_
    refine v_getI (pc := 30) 16 rfl fl_X1_51 rfl ?_
    refine v_ic_geT (pc := 33) 17 54 rfl (by decide) (by omega) (by omega) ?_
    refine v_ret (pc := 54) 28 rfl rfl ⟨rfl, ⟨fun q q1 q2 q3 => ?_, n7.1.trans h2, n7.2.trans h3, ?_, ?_, ?_, ?_, fun j hj => ?_, Or.inr ⟨?_, ?_, fun i hi => ?_⟩⟩, ?_⟩
    · rw [ne q (by omega), n1 q (by omega) (by omega) (by omega)]; exact h1 q q1 q2 q3
    · rw [← h4]; unfold sOf; rw [ne 9 (by decide), ne 10 (by decide), n1 9 (by decide) (by decide) (by decide), n1 10 (by decide) (by decide) (by decide)]
    · rw [ne 12 (by decide)]; exact n3
    · rw [ne 12 (by decide)]; exact n2
    · rw [ne 12 (by decide)]; exact n4
    · rw [ne 13 (by decide), n1 13 (by decide) (by decide) (by decide)]; exact h8 j hj
    · rw [ne 18 (by decide)]; exact n5
    · rw [ne 19 (by decide), n6]; exact hf2
    · rw [gI_aI, if_pos rfl]; exact hw i hi
    · rw [ne 14 (by decide), n1 14 (by decide) (by decide) (by decide)]
  · intro i hi ih w hw
    have p1 : gI (aI N1 17 w) 12 5 = (a : Int) := by rw [gI_aI_ne (by decide)]; exact n2
    have p2 : gI (aI N1 17 w) 14 i = g i := by rw [gI_aI_ne (by decide), n1 14 (by decide) (by decide) (by decide)]; exact hg i hi
    refine v_iload_n (pc := 28) 14 rfl rfl ?_
    refine v_aload_n (pc := 29) 15 rfl rfl ?_
    refine v_getI (pc := 30) 16 rfl fl_X1_51 rfl ?_
    refine v_ic_geF (pc := 33) 17 54 rfl (by decide) (by omega) (by omega) ?_
    refine v_aload_n (pc := 36) 18 rfl rfl ?_
    refine v_getC (pc := 37) 19 rfl fl_X1_25 rfl 17 rfl ?_
    refine v_iload_n (pc := 40) 20 rfl rfl ?_
    refine v_aload_n (pc := 41) 21 rfl rfl ?_
    refine v_getC (pc := 42) 22 rfl fl_X1_15 rfl 14 rfl ?_
    refine v_iload_n (pc := 45) 23 rfl rfl ?_
    refine v_ialdN (pc := 46) 24 rfl rfl (by omega) ?_
    rw [p2]
    refine v_iastN (pc := 47) 25 rfl rfl (by omega) ?_
    refine v_iinc (pc := 48) 26 rfl rfl ⟨Nat.le_of_ble_eq_true rfl, rfl⟩ ?_
    refine v_goto (pc := 51) 27 28 rfl (by decide) ?_
    rw [sI_aI]
    exact ih _ (fun t ht => by by_cases e : t = i; rw [e, if_pos rfl]; rw [if_neg e]; exact hw t (by omega))
end Best
