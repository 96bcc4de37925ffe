/-! 17: the class's search, case by case -/
theorem fdB_set {S : Sx} {x : Nat} {j d : Int} {k : Nat} (hx : S.1 x = -1) (hk : k ≠ x) (hkn : S.1 k ≠ -1) (hj : S.1 k ≠ j) : fdB (setS S x j d) k = fdB S k := by
  unfold fdB
  congr 1
  refine exB_congr (fun o ho => ?_)
  have e1 : (setS S x j d).1 k = S.1 k := by unfold setS; exact if_neg hk
  have e2 : (setS S x j d).2 k = S.2 k := by unfold setS; exact if_neg hk
  rw [e1, e2]
  by_cases e : o = x
  · subst e
    rw [show (setS S o j d).1 o = j by unfold setS; exact if_pos rfl]
    rw [decide_eq_false (fun q => hj q.1.symm), decide_eq_false (fun q => hkn (by rw [← q.1]; exact hx))]
  · rw [show (setS S x j d).1 o = S.1 o by unfold setS; exact if_neg e, show (setS S x j d).2 o = S.2 o by unfold setS; exact if_neg e]
/-- another judge's load stays -/
theorem ld_other {T : Tx} {S : Sx} {x : Nat} {j d : Int} {j2 n : Nat} (hx : S.1 x = -1) (hj : j ≠ (j2 : Int)) : ld T (setS S x j d) j2 n = ld T S j2 n := by
  unfold ld
  refine sumN_congr n (fun k hk => ?_)
  by_cases e : k = x
  · subst e
    rw [show (setS S k j d).1 k = j by unfold setS; exact if_pos rfl, if_neg hj, if_neg (by omega)]
  · rw [show (setS S x j d).1 k = S.1 k by unfold setS; exact if_neg e]
    by_cases e2 : S.1 k = (j2 : Int)
    · rw [if_pos e2, if_pos e2, fdB_set hx e (by omega) (by omega)]
    · rw [if_neg e2, if_neg e2]
theorem set_back {S : Sx} {x : Nat} (j d : Int) (h1 : S.1 x = -1) (h2 : S.2 x = -1) : setS (setS S x j d) x (-1) (-1) = S := by
  refine Prod.ext (funext fun i => ?_) (funext fun i => ?_)
  · show (if i = x then (-1 : Int) else (if i = x then j else S.1 i)) = S.1 i
    by_cases e : i = x
    · rw [if_pos e, e, h1]
    · rw [if_neg e, if_neg e]
  · show (if i = x then (-1 : Int) else (if i = x then d else S.2 i)) = S.2 i
    by_cases e : i = x
    · rw [if_pos e, e, h2]
    · rw [if_neg e, if_neg e]
theorem BSM.chg {M0 N N2 : Mem} {c : Nat} {S S2 : Sx} {dd : Int} {a : Nat} {B : Bx} (h : BSM M0 N c S dd a B) (e : ∀ q, q ≠ 9 → q ≠ 10 → q ≠ 13 → q ≠ 14 → gI N2 q = gI N q) (e2 : gL N2 = gL N) (e3 : gR N2 = gR N) (hs : sOf N2 = S2) (hl : ∀ j, j < nJ (tOf M0 c) → gI N2 13 j = lds (tOf M0 c) S2 j) : BSM M0 N2 c S2 dd a B := by
  obtain ⟨h1, h2, h3, h4, h5, h6, h7, h8, h9⟩ := h
  refine ⟨fun q q1 q2 q3 => ?_, e2.trans h2, e3.trans h3, hs, ?_, ?_, ?_, hl, ?_⟩
  · rw [e q q1 q2 (by omega) (by omega)]; exact h1 q q1 q2 q3
  · rw [e 12 (by decide) (by decide) (by decide) (by decide)]; exact h5
  · rw [e 12 (by decide) (by decide) (by decide) (by decide)]; exact h6
  · rw [e 12 (by decide) (by decide) (by decide) (by decide)]; exact h7
  · rw [e 18 (by decide) (by decide) (by decide) (by decide), e 19 (by decide) (by decide) (by decide) (by decide), e 17 (by decide) (by decide) (by decide) (by decide)]; exact h9
theorem cs_ok {T : Tx} {d : Int} {l : List Nat} {a : Nat} : ∀ (r k : Nat) (h : Int) (S : Sx) (g : Nat → Int) (B : Bx), k + r = a → (0 ≤ h ∧ h ≤ k) → (∀ i, i < k → -1 ≤ g i ∧ g i < nJ T) → BOk T a B → BOk T a (cs T d l r k h S g B) := by
  intro r
  induction r with
  | zero =>
    intro k h S g B hk hh hg hB
    show BOk T a (if _ then (h, sdl T S, g) else B)
    split
    · exact ⟨⟨by show -1 ≤ h; omega, by show h ≤ a; omega⟩, Or.inr ⟨⟨S, rfl⟩, fun i hi => hg i (by omega)⟩⟩
    · exact hB
  | succ r ih =>
    intro k h S g B hk hh hg hB
    have hup : ∀ v : Int, (-1 ≤ v ∧ v < nJ T) → ∀ i, i < k + 1 → -1 ≤ up g k v i ∧ up g k v i < nJ T := fun v hv i hi => by
      unfold up
      by_cases e : i = k
      · rw [if_pos e]; exact hv
      · rw [if_neg e]; exact hg i (by omega)
    show BOk T a (if _ then csJ (cs T d l r (k + 1)) T d (l.getD k 0) k h S g (nJ T) (cs T d l r (k + 1) h S (up g k (-1)) B) else B)
    split
    · have hB1 := ih (k + 1) h S (up g k (-1)) B (by omega) (by omega) (hup _ (by omega)) hB
      have hJ : ∀ m, m ≤ nJ T → BOk T a (csJ (cs T d l r (k + 1)) T d (l.getD k 0) k h S g m (cs T d l r (k + 1) h S (up g k (-1)) B)) := by
        intro m
        induction m with
        | zero => intro _; exact hB1
        | succ m ihm =>
          intro hm
          show BOk T a (if _ then _ else _)
          split
          · exact ih (k + 1) (h + 1) _ _ _ (by omega) (by omega) (hup _ (by omega)) (ihm (by omega))
          · exact ihm (by omega)
      exact hJ (nJ T) (Nat.le_refl _)
    · exact hB
theorem csJ_ok {T : Tx} {d : Int} {l : List Nat} {a : Nat} {r k x : Nat} {h : Int} {S : Sx} {g : Nat → Int} {B : Bx} (hk : k + 1 + r = a) (hh : 0 ≤ h ∧ h ≤ k) (hg : ∀ i, i < k → -1 ≤ g i ∧ g i < nJ T) (hB : BOk T a B) (m : Nat) (hm : m ≤ nJ T) : BOk T a (csJ (cs T d l r (k + 1)) T d x k h S g m B) := by
  induction m with
  | zero => exact hB
  | succ m ihm =>
    show BOk T a (if _ then _ else _)
    split
    · refine cs_ok r (k + 1) (h + 1) _ _ _ (by omega) (by omega) (fun i hi => ?_) (ihm (by omega))
      unfold up
      by_cases e : i = k
      · rw [if_pos e]; omega
      · rw [if_neg e]; exact hg i (by omega)
    · exact ihm (by omega)
theorem opN_nodup {T : Tx} {S : Sx} {d : Int} (hd : 0 ≤ d) (n : Nat) (h0 : ∀ k, k < n → 0 ≤ fi T k) : (opN T S d n).Nodup := by
  induction n with
  | zero =>
    have : opN T S d 0 = [] := by
      unfold opN
      rw [fm_congr (f := blk T S 0) (g := fun _ => []) (fun e _ => rfl)]
      simp
    rw [this]; exact List.nodup_nil
  | succ n ih =>
    have h := ih (fun k hk => h0 k (by omega))
    by_cases e : S.1 n = -1 ∧ fi T n ≤ d
    · obtain ⟨A, B, e1, e2, -, -⟩ := op_ins e.1 (h0 n (by omega)) e.2
      rw [e2]
      have hn : n ∉ A ++ B := fun q => by have := op_lt (e1 ▸ q); omega
      rw [e1] at h
      rw [List.nodup_append] at h ⊢
      refine ⟨h.1, List.nodup_cons.mpr ⟨fun q => hn (List.mem_append_right _ q), h.2.1⟩, fun x hx y hy => ?_⟩
      rcases List.mem_cons.mp hy with q | q
      · subst q; intro z; subst z; exact hn (List.mem_append_left _ hx)
      · exact h.2.2 x hx y q
    · rw [op_same hd e]; exact h
theorem nodup_get {l : List Nat} (h : l.Nodup) {i k : Nat} (hi : i < l.length) (hk : k < l.length) (hne : i ≠ k) : l.getD i 0 ≠ l.getD k 0 := by
  intro e
  rw [List.getD_eq_getElem?_getD, List.getD_eq_getElem?_getD, List.getElem?_eq_getElem hi, List.getElem?_eq_getElem hk] at e
  exact hne ((List.getElem_inj h).mp e)
theorem CI.ag {M0 N : Mem} {c : Nat} (hI : CI M0 c) (h1 : ∀ q, q ≠ 9 → q ≠ 10 → ¬ (12 ≤ q ∧ q ≤ 19) → gI N q = gI M0 q) (h3 : gR N 8 0 = gR M0 8 0) (hS : SOk (tOf M0 c) (sOf N)) : CI N c ∧ tOf N c = tOf M0 c := by
  have e1 : ∀ j, j ≤ 10 → gI N (c + j) = gI M0 (c + j) := fun j hj => h1 _ (by rcases hI.1 with e | e <;> omega) (by rcases hI.1 with e | e <;> omega) (by rcases hI.1 with e | e <;> omega)
  exact ⟨hI.keep e1 h3 hS, tOf_eq e1⟩
section Try
variable {G : Gt} {M0 : Mem} {c : Nat} {dd : Int} {a : Nat} {l : List Nat}
/-- the contract of tryCase with r cases to go -/
def TryOk (G : Gt) (M0 : Mem) (c : Nat) (dd : Int) (a : Nat) (l : List Nat) (r : Nat) : Prop :=
  ∀ (k : Nat) (h : Int) (S : Sx) (g : Nat → Int) (B : Bx) (N : Mem) (dep : Nat), k + r = a → 2 * r + 3 ≤ dep → SOk (tOf M0 c) S → BSM M0 N c S dd a B → BOk (tOf M0 c) a B → (0 ≤ h ∧ h ≤ k) → (∀ i, i < k → gI N 14 i = g i) → (∀ i, i < k → -1 ≤ g i ∧ g i < nJ (tOf M0 c)) →
    (∀ i, k ≤ i → i < a → S.1 (l.getD i 0) = -1 ∧ S.2 (l.getD i 0) = -1) → V G dep mX1_tryCase 0 [some (.ref 12), some (.int (J (k : Int))), some (.int (J h)), none] [] N (fun ret N2 => ret = none ∧ BSM M0 N2 c S dd a (cs (tOf M0 c) dd l r k h S g B) ∧ ∀ i, i < k → gI N2 14 i = g i)
set_option maxHeartbeats 4000000 in
theorem c_tryJudge (hI : CI M0 c) (hl : rep (gI M0 11) l) (hnd : l.Nodup) (hmem : ∀ x ∈ l, x < nK (tOf M0 c)) (ha : a ≤ 5 ∧ a ≤ l.length) (hd : 0 ≤ dd ∧ dd ≤ 60) {r : Nat} (IH : TryOk G M0 c dd a l r) {k : Nat} {h : Int} {S : Sx} {g : Nat → Int} {B : Bx} {N : Mem} {dep : Nat} {j : Nat} (hk : k + 1 + r = a) (hdep : 2 * r + 4 ≤ dep) (hS : SOk (tOf M0 c) S) (hM : BSM M0 N c S dd a B) (hB : BOk (tOf M0 c) a B) (hh : 0 ≤ h ∧ h ≤ k) (hg : ∀ i, i < k → gI N 14 i = g i) (hg2 : ∀ i, i < k → -1 ≤ g i ∧ g i < nJ (tOf M0 c))
    (hop : ∀ i, k ≤ i → i < a → S.1 (l.getD i 0) = -1 ∧ S.2 (l.getD i 0) = -1) (hj : j < nJ (tOf M0 c)) : V G dep mX1_tryJudge 0 [some (.ref 12), some (.int (J (k : Int))), some (.int (J h)), some (.int (J (j : Int))), none, none] [] N (fun ret N2 => ret = none ∧ BSM M0 N2 c S dd a (cs (tOf M0 c) dd l r (k + 1) (h + 1) (setS S (l.getD k 0) j dd) (up g k j) B) ∧ ∀ i, i < k → gI N2 14 i = g i) := by
  obtain ⟨e, rfl⟩ : ∃ e, dep = e + 3 := ⟨dep - 3, by omega⟩
  have hT := hI.2.2.2.2.2.1
  have h6 := hT.2.1
  have h12 := hT.2.2.1
  have hx : l.getD k 0 < nK (tOf M0 c) := hmem _ (by rw [List.getD_eq_getElem?_getD, List.getElem?_eq_getElem (by omega)]; exact List.getElem_mem _)
  have hlx := rep_get hl (i := k) (by omega)
  obtain ⟨o1, o2⟩ := hop k (by omega) (by omega)
  have hnd2 : ∀ i, k + 1 ≤ i → i < a → l.getD i 0 ≠ l.getD k 0 := fun i h1 h2 => nodup_get hnd (by omega) (by omega) (by omega)
  have hop2 : ∀ i, k + 1 ≤ i → i < a → S.1 (l.getD i 0) = -1 ∧ S.2 (l.getD i 0) = -1 := fun i h1 h2 => hop i (by omega) h2
  generalize hx9 : l.getD k 0 = x at hx hlx o1 o2 hnd2 ⊢
  obtain ⟨m1, m2, m3, m4, m5, m6, m7, m8, m9⟩ := id hM
  have v1 : gI N 11 k = (x : Int) := by rw [m1 11 (by decide) (by decide) (by omega)]; exact hlx
  refine v_aload_n (pc := 0) 0 rfl rfl ?_
  refine v_getC (pc := 1) 1 rfl fl_X1_31 rfl 8 rfl ?_
  refine v_getC (pc := 4) 2 rfl fl_X1_73 rfl 11 rfl ?_
  refine v_iload_n (pc := 7) 3 rfl rfl ?_
  refine v_ialdN (pc := 8) 4 rfl rfl (by omega) ?_
  rw [v1]
  have v2 : gI (sI N 14 k (j : Int)) 12 4 = dd := by rw [gI_sI_ne (by decide)]; exact m5
  refine v_istore (pc := 9) 5 rfl ⟨Nat.le_of_ble_eq_true rfl, rfl⟩ ?_
  refine v_aload_n (pc := 11) 6 rfl rfl ?_
  refine v_getC (pc := 12) 7 rfl fl_X1_9 rfl 13 rfl ?_
  refine v_iload_n (pc := 15) 8 rfl rfl ?_
  refine v_ialdN (pc := 16) 9 rfl rfl (by omega) ?_
  refine v_istore (pc := 17) 10 rfl ⟨Nat.le_of_ble_eq_true rfl, rfl⟩ ?_
  refine v_aload_n (pc := 19) 11 rfl rfl ?_
  refine v_getC (pc := 20) 12 rfl fl_X1_15 rfl 14 rfl ?_
  refine v_iload_n (pc := 23) 13 rfl rfl ?_
  refine v_iload_n (pc := 24) 14 rfl rfl ?_
  refine v_iastN (pc := 25) 15 rfl rfl (by omega) ?_
  refine v_aload_n (pc := 26) 16 rfl rfl ?_
  refine v_getC (pc := 27) 17 rfl fl_X1_31 rfl 8 rfl ?_
  refine v_iload (pc := 30) 18 rfl rfl ?_
  refine v_iload_n (pc := 32) 19 rfl rfl ?_
  refine v_aload_n (pc := 33) 20 rfl rfl ?_
  refine v_getI (pc := 34) 21 rfl fl_X1_35 rfl ?_
  rw [v2]
  refine v_cV3v (pc := 37) 22 rfl cv_X1_76 rfl (Nat.le_of_ble_eq_true rfl) (Nat.le_of_ble_eq_true rfl) (c_place (by omega) _ _) ?_
  refine v_aload_n (pc := 40) 23 rfl rfl ?_
  refine v_getC (pc := 41) 24 rfl fl_X1_9 rfl 13 rfl ?_
  refine v_iload_n (pc := 44) 25 rfl rfl ?_
  refine v_aload_n (pc := 45) 26 rfl rfl ?_
  refine v_getC (pc := 46) 27 rfl fl_X1_31 rfl 8 rfl ?_
  refine v_iload_n (pc := 49) 28 rfl rfl ?_
  have s1 : sOf (plM (sI N 14 k (j : Int)) x j dd) = setS S x j dd := by
    rw [plM_s, ← m4]; unfold sOf; rw [gI_sI_ne (by decide), gI_sI_ne (by decide)]
  have hS1 : SOk (tOf M0 c) (setS S x j dd) := hS.set (Or.inr ⟨hx, by omega, hd⟩)
  obtain ⟨hI1, eT1⟩ := CI.ag (N := plM (sI N 14 k (j : Int)) x j dd) hI (fun q q1 q2 q3 => by rw [plM_ne ⟨q1, q2⟩, gI_sI_ne (by omega)]; exact m1 q q1 q2 q3) (by show gR N 8 0 = gR M0 8 0; rw [m3]) (by rw [s1]; exact hS1)
  have cl := c_loadOf (G := G) (d := e + 1) hI1 (j := j) (by rw [eT1]; exact hj)
  rw [eT1, s1] at cl
  refine v_cV1i (pc := 50) 29 rfl cv_X1_66 rfl (Nat.le_of_ble_eq_true rfl) (Nat.le_of_ble_eq_true rfl) (cl) ?_
  refine v_iastN (pc := 53) 30 rfl rfl (by omega) ?_
  refine v_aload_n (pc := 54) 31 rfl rfl ?_
  refine v_iload_n (pc := 55) 32 rfl rfl ?_
  refine v_iconst (pc := 56) 33 rfl ?_
  refine v_iadd (pc := 57) 34 rfl ?_
  refine v_iload_n (pc := 58) 35 rfl rfl ?_
  refine v_iconst (pc := 59) 36 rfl ?_
  refine v_iadd (pc := 60) 37 rfl ?_
  have hb : BSM M0 (sI (plM (sI N 14 k (j : Int)) x j dd) 13 j (ld (tOf M0 c) (setS S x j dd) j (nK (tOf M0 c)))) c (setS S x j dd) dd a B := by
    refine hM.chg (fun q q1 q2 q3 q4 => by rw [gI_sI_ne q3, plM_ne ⟨q1, q2⟩, gI_sI_ne q4]) rfl rfl ?_ (fun j2 hj2 => ?_)
    · rw [← s1]; unfold sOf; rw [gI_sI_ne (by decide), gI_sI_ne (by decide)]
    · rw [gI_sI, if_pos rfl]
      by_cases e9 : j2 = j
      · rw [if_pos e9, e9]; rfl
      · rw [if_neg e9, plM_ne (by decide), gI_sI_ne (by decide), m8 j2 hj2]
        exact (ld_other o1 (by omega)).symm
  have hg14 : ∀ q, gI (sI (plM (sI N 14 k (j : Int)) x j dd) 13 j (ld (tOf M0 c) (setS S x j dd) j (nK (tOf M0 c)))) 14 q = if q = k then (j : Int) else gI N 14 q := fun q => by
    rw [gI_sI_ne (by decide), plM_ne (by decide), gI_sI, if_pos rfl]
  generalize sI (plM (sI N 14 k (j : Int)) x j dd) 13 j (ld (tOf M0 c) (setS S x j dd) j (nK (tOf M0 c))) = N2 at hb hg14 ⊢
  have ih := IH (k + 1) (h + 1) (setS S x j dd) (up g k j) B N2 (e + 2) hk (by omega) hS1 hb hB (by omega) (fun i hi => by rw [hg14]; unfold up; by_cases e9 : i = k; rw [if_pos e9, if_pos e9]; rw [if_neg e9, if_neg e9]; exact hg i (by omega)) (fun i hi => by unfold up; by_cases e9 : i = k; rw [if_pos e9]; omega; rw [if_neg e9]; exact hg2 i (by omega)) (fun i h1 h2 => by
    have := hop2 i h1 h2
    have hne := hnd2 i h1 h2
    unfold setS
    dsimp only
    rw [if_neg hne, if_neg hne]
    exact this)
  refine v_cV2 (pc := 61) 38 rfl cv_X1_69 rfl (Nat.le_of_ble_eq_true rfl) (Nat.le_of_ble_eq_true rfl) (ih) (fun r9 N9 hq9 => ?_)
  obtain ⟨rfl, hb3, hg3⟩ := hq9
  obtain ⟨n1, n2, n3, n4, n5, n6, n7, n8, n9⟩ := id hb3
  show V G (e + 3) mX1_tryJudge (61 + 3) _ [] _ _
  refine v_aload_n (pc := 64) 39 rfl rfl ?_
  refine v_getC (pc := 65) 40 rfl fl_X1_9 rfl 13 rfl ?_
  refine v_iload_n (pc := 68) 41 rfl rfl ?_
  refine v_iload (pc := 69) 42 rfl rfl ?_
  refine v_iastN (pc := 71) 43 rfl rfl (by omega) ?_
  refine v_aload_n (pc := 72) 44 rfl rfl ?_
  refine v_getC (pc := 73) 45 rfl fl_X1_31 rfl 8 rfl ?_
  refine v_iload (pc := 76) 46 rfl rfl ?_
  refine v_cV1v (pc := 78) 47 rfl cv_X1_95 rfl (Nat.le_of_ble_eq_true rfl) (Nat.le_of_ble_eq_true rfl) (c_remove (by omega)) ?_
  refine v_ret (pc := 81) 48 rfl rfl ⟨rfl, ?_, fun i hi => ?_⟩
  · refine hb3.chg (fun q q1 q2 q3 q4 => by rw [plM_ne ⟨q1, q2⟩, gI_sI_ne q3]) rfl rfl ?_ (fun j2 hj2 => ?_)
    · have s3 : sOf (sI N9 13 j (gI N 13 j)) = setS S x j dd := by rw [← n4]; unfold sOf; rw [gI_sI_ne (by decide), gI_sI_ne (by decide)]
      rw [plM_s, s3, set_back _ _ o1 o2]
    · rw [plM_ne (by decide), gI_sI, if_pos rfl]
      by_cases e9 : j2 = j
      · rw [if_pos e9, e9]; exact m8 j hj
      · rw [if_neg e9, n8 j2 hj2]
        exact ld_other o1 (by omega)
  · rw [plM_ne (by decide), gI_sI_ne (by decide), hg3 i (by omega)]
    unfold up
    rw [if_neg (by omega)]
set_option maxHeartbeats 4000000 in
theorem c_tryCase (hI : CI M0 c) (hl : rep (gI M0 11) l) (hnd : l.Nodup) (hmem : ∀ x ∈ l, x < nK (tOf M0 c)) (ha : a ≤ 5 ∧ a ≤ l.length) (hd : 0 ≤ dd ∧ dd ≤ 60) : ∀ r, TryOk G M0 c dd a l r := by
  have hT := hI.2.2.2.2.2.1
  have h6 := hT.2.1
  have h12 := hT.2.2.1
  intro r
  induction r with
  | zero =>
    intro k h S g B N dep hk hdep hS hM hB hh hg hg2 hop
    obtain ⟨e, rfl⟩ : ∃ e, dep = e + 3 := ⟨dep - 3, by omega⟩
    obtain ⟨m1, m2, m3, m4, m5, m6, m7, m8, m9⟩ := id hM
    have hk2 : k = a := by omega
    subst hk2
    refine v_aload_n (pc := 0) 0 rfl rfl ?_
    refine v_iload_n (pc := 1) 1 rfl rfl ?_
    refine v_aload_n (pc := 2) 2 rfl rfl ?_
    refine v_getI (pc := 3) 3 rfl fl_X1_51 rfl ?_
    refine v_iadd (pc := 6) 4 rfl ?_
    refine v_iload_n (pc := 7) 5 rfl rfl ?_
    refine v_isub (pc := 8) 6 rfl ?_
    rw [m6, show h + (k : Int) - (k : Int) = h by omega]
    refine v_cV1 (pc := 9) 7 rfl cv_X1_80 rfl (Nat.le_of_ble_eq_true rfl) (Nat.le_of_ble_eq_true rfl) (c_mayBe hI hS hM hB ha.1 (by omega)) (fun r9 N9 hq9 => ?_)
    obtain ⟨rfl, hb2, hg9⟩ := hq9
    show V G (e + 3) mX1_tryCase (9 + 3) _ [.int (J (b2i (mayB (tOf M0 c) S h B)))] _ _
    have b9 := b2i_r (mayB (tOf M0 c) S h B)
    have eC : cs (tOf M0 c) dd l 0 k h S g B = if mayB (tOf M0 c) S h B = true then (h, sdl (tOf M0 c) S, g) else B := rfl
    rw [eC]
    refine v_if_ne (pc := 12) 8 16 rfl (by decide) (by omega) (fun e1 => ?_) (fun e1 => ?_)
    · rw [if_pos (by cases q : mayB (tOf M0 c) S h B with | true => rfl | false => rw [q] at e1; exact absurd rfl e1)]
      have q6 := hb2.2.2.2.2.2.1
      refine v_iload_n (pc := 16) 10 rfl rfl ?_
      refine v_aload_n (pc := 17) 11 rfl rfl ?_
      refine v_getI (pc := 18) 12 rfl fl_X1_51 rfl ?_
      refine v_ic_ltF (pc := 21) 13 30 rfl (by decide) (by omega) (by omega) ?_
      refine v_aload_n (pc := 24) 14 rfl rfl ?_
      refine v_iload_n (pc := 25) 15 rfl rfl ?_
      refine v_cV1 (pc := 26) 16 rfl cv_X1_84 rfl (Nat.le_of_ble_eq_true rfl) (Nat.le_of_ble_eq_true rfl) (c_remember hI hS hb2 ha.1 (g := g) (fun i hi => by rw [hg9]; exact hg i hi)) (fun r9 N9 hq9 => ?_)
      obtain ⟨rfl, hb3, hg8⟩ := hq9
      show V G (e + 3) mX1_tryCase (26 + 3) _ [] _ _
      refine v_ret (pc := 29) 17 rfl rfl ⟨rfl, hb3, fun i hi => by rw [hg8, hg9]; exact hg i hi⟩
    · rw [if_neg (by intro q; rw [q] at e1; exact e1 (by decide))]
      refine v_ret (pc := 15) 9 rfl rfl ⟨rfl, hb2, fun i hi => by rw [hg9]; exact hg i hi⟩
  | succ r IH =>
    intro k h S g B N dep hk hdep hS hM hB hh hg hg2 hop
    obtain ⟨e, rfl⟩ : ∃ e, dep = e + 3 := ⟨dep - 3, by omega⟩
    obtain ⟨m1, m2, m3, m4, m5, m6, m7, m8, m9⟩ := id hM
    refine v_aload_n (pc := 0) 0 rfl rfl ?_
    refine v_iload_n (pc := 1) 1 rfl rfl ?_
    refine v_aload_n (pc := 2) 2 rfl rfl ?_
    refine v_getI (pc := 3) 3 rfl fl_X1_51 rfl ?_
    refine v_iadd (pc := 6) 4 rfl ?_
    refine v_iload_n (pc := 7) 5 rfl rfl ?_
    refine v_isub (pc := 8) 6 rfl ?_
    rw [m6, show h + (a : Int) - (k : Int) = h + ((r + 1 : Nat) : Int) by omega]
    refine v_cV1 (pc := 9) 7 rfl cv_X1_80 rfl (Nat.le_of_ble_eq_true rfl) (Nat.le_of_ble_eq_true rfl) (c_mayBe hI hS hM hB ha.1 (by omega)) (fun r9 N9 hq9 => ?_)
    obtain ⟨rfl, hb2, hg9⟩ := hq9
    show V G (e + 3) mX1_tryCase (9 + 3) _ [.int (J (b2i (mayB (tOf M0 c) S (h + ((r + 1 : Nat) : Int)) B)))] _ _
    have b9 := b2i_r (mayB (tOf M0 c) S (h + ((r + 1 : Nat) : Int)) B)
    have eC : cs (tOf M0 c) dd l (r + 1) k h S g B = if mayB (tOf M0 c) S (h + ((r + 1 : Nat) : Int)) B = true then csJ (cs (tOf M0 c) dd l r (k + 1)) (tOf M0 c) dd (l.getD k 0) k h S g (nJ (tOf M0 c)) (cs (tOf M0 c) dd l r (k + 1) h S (up g k (-1)) B) else B := rfl
    rw [eC]
    have hg7 : ∀ i, i < k → gI N9 14 i = g i := fun i hi => by rw [hg9]; exact hg i hi
    refine v_if_ne (pc := 12) 8 16 rfl (by decide) (by omega) (fun e1 => ?_) (fun e1 => ?_)
    · rw [if_pos (by cases q : mayB (tOf M0 c) S (h + ((r + 1 : Nat) : Int)) B with | true => rfl | false => rw [q] at e1; exact absurd rfl e1)]
      have q6 := hb2.2.2.2.2.2.1
      refine v_iload_n (pc := 16) 10 rfl rfl ?_
      refine v_aload_n (pc := 17) 11 rfl rfl ?_
      refine v_getI (pc := 18) 12 rfl fl_X1_51 rfl ?_
      refine v_ic_ltT (pc := 21) 13 30 rfl (by decide) (by omega) (by omega) ?_
      refine v_aload_n (pc := 30) 18 rfl rfl ?_
      refine v_getC (pc := 31) 19 rfl fl_X1_15 rfl 14 rfl ?_
      refine v_iload_n (pc := 34) 20 rfl rfl ?_
      refine v_iconst (pc := 35) 21 rfl ?_
      refine v_iastN (pc := 36) 22 rfl rfl (by omega) ?_
      refine v_aload_n (pc := 37) 23 rfl rfl ?_
      refine v_iload_n (pc := 38) 24 rfl rfl ?_
      refine v_iconst (pc := 39) 25 rfl ?_
      refine v_iadd (pc := 40) 26 rfl ?_
      refine v_iload_n (pc := 41) 27 rfl rfl ?_
      have hb3 : BSM M0 (sI N9 14 k (-1)) c S dd a B := hb2.irr (fun q q1 q2 q3 => gI_sI_ne q1) rfl rfl
      have hup : ∀ i, i < k + 1 → gI (sI N9 14 k (-1)) 14 i = up g k (-1) i := fun i hi => by
        rw [gI_sI, if_pos rfl]
        unfold up
        by_cases e9 : i = k
        · rw [if_pos e9, if_pos e9]
        · rw [if_neg e9, if_neg e9]; exact hg7 i (by omega)
      have hup2 : ∀ i, i < k + 1 → -1 ≤ up g k (-1) i ∧ up g k (-1) i < nJ (tOf M0 c) := fun i hi => by
        unfold up
        by_cases e9 : i = k
        · rw [if_pos e9]; omega
        · rw [if_neg e9]; exact hg2 i (by omega)
      refine v_cV2 (pc := 42) 28 rfl cv_X1_69 rfl (Nat.le_of_ble_eq_true rfl) (Nat.le_of_ble_eq_true rfl) (IH (k + 1) h S (up g k (-1)) B _ (e + 2) (by omega) (by omega) hS hb3 hB (by omega) hup hup2 (fun i h1 h2 => hop i (by omega) h2)) (fun r9 N9 hq9 => ?_)
      obtain ⟨rfl, hb4, hg4⟩ := hq9
      have hB4 := cs_ok (T := tOf M0 c) (d := dd) (l := l) r (k + 1) h S (up g k (-1)) B (by omega) (by omega) hup2 hB
      show V G (e + 3) mX1_tryCase (42 + 3) _ [] _ _
      have hg5 : ∀ i, i < k → gI N9 14 i = g i := fun i hi => by
        rw [hg4 i (by omega)]
        unfold up
        rw [if_neg (by omega)]
      generalize cs (tOf M0 c) dd l r (k + 1) h S (up g k (-1)) B = B1 at hb4 hB4 ⊢
      have hx : l.getD k 0 < nK (tOf M0 c) := hmem _ (by rw [List.getD_eq_getElem?_getD, List.getElem?_eq_getElem (by omega)]; exact List.getElem_mem _)
      have hlx := rep_get hl (i := k) (by omega)
      refine v_iconst (pc := 45) 29 rfl ?_
      refine v_istore_n (pc := 46) 30 rfl ⟨Nat.le_of_ble_eq_true rfl, rfl⟩ ?_
      have loop := loopN (N := nJ (tOf M0 c)) (fun m => ∀ N, BSM M0 N c S dd a (csJ (cs (tOf M0 c) dd l r (k + 1)) (tOf M0 c) dd (l.getD k 0) k h S g m B1) → (∀ i, i < k → gI N 14 i = g i) → V G (e + 3) mX1_tryCase 47 [some (.ref 12), some (.int (J (k : Int))), some (.int (J h)), some (.int (J (m : Int)))] [] N (fun ret N2 => ret = none ∧ BSM M0 N2 c S dd a (csJ (cs (tOf M0 c) dd l r (k + 1)) (tOf M0 c) dd (l.getD k 0) k h S g (nJ (tOf M0 c)) B1) ∧ ∀ i, i < k → gI N2 14 i = g i)) ?_ ?_
      · exact loop _ hb4 hg5
      · intro N5 hb5 hg6
        obtain ⟨hI5, eT5⟩ := hb5.ci hI hS
        have hc := hI5.1
        have hca := hI5.2.1
        have hn := hI5.n
        rw [eT5] at hn
        refine v_iload_n (pc := 47) 31 rfl rfl ?_
        refine v_aload_n (pc := 48) 32 rfl rfl ?_
        refine v_getC (pc := 49) 33 rfl fl_X1_31 rfl 8 rfl ?_
        refine v_getR (pc := 52) 34 rfl fl_X1_57 rfl _ hca ?_
        refine v_getI (pc := 55) 35 rfl fl_X1_61 (shC hc) ?_
        refine v_ic_geT (pc := 58) 36 98 rfl (by decide) (by omega) (by omega) ?_
        refine v_ret (pc := 98) 56 rfl rfl ⟨rfl, hb5, hg6⟩
      · intro m hm ihm N5 hb5 hg6
        obtain ⟨hI5, eT5⟩ := hb5.ci hI hS
        have hc := hI5.1
        have hca := hI5.2.1
        have hn := hI5.n
        rw [eT5] at hn
        obtain ⟨n1, n2, n3, n4, n5, n6, n7, n8, n9⟩ := id hb5
        have v1 : gI N5 11 k = ((l.getD k 0 : Nat) : Int) := by rw [n1 11 (by decide) (by decide) (by omega)]; exact hlx
        have hw := whyS_b (tOf M0 c) S (l.getD k 0) m dd
        have cl := c_whyNot (G := G) (d := e) hI5 (k := l.getD k 0) (j := m) (by rw [eT5]; exact hx) (by rw [eT5]; exact hm) hd
        rw [eT5, n4] at cl
        have eJ : csJ (cs (tOf M0 c) dd l r (k + 1)) (tOf M0 c) dd (l.getD k 0) k h S g (m + 1) B1 = if whyS (tOf M0 c) S (l.getD k 0) m dd = 0 then cs (tOf M0 c) dd l r (k + 1) (h + 1) (setS S (l.getD k 0) m dd) (up g k m) (csJ (cs (tOf M0 c) dd l r (k + 1)) (tOf M0 c) dd (l.getD k 0) k h S g m B1) else csJ (cs (tOf M0 c) dd l r (k + 1)) (tOf M0 c) dd (l.getD k 0) k h S g m B1 := rfl
        rw [eJ] at ihm
        have hB5 := csJ_ok (T := tOf M0 c) (d := dd) (l := l) (r := r) (k := k) (x := l.getD k 0) (S := S) (by omega) hh hg2 hB4 m (by omega)
        have cj := c_tryJudge (G := G) hI hl hnd hmem ha hd IH (k := k) (h := h) (g := g) (dep := e + 2) (j := m) (by omega) (by omega) hS hb5 hB5 hh hg6 hg2 hop hm
        generalize hx9 : l.getD k 0 = x at cl ihm v1 hw cj hb5 ⊢
        refine v_iload_n (pc := 47) 31 rfl rfl ?_
        refine v_aload_n (pc := 48) 32 rfl rfl ?_
        refine v_getC (pc := 49) 33 rfl fl_X1_31 rfl 8 rfl ?_
        refine v_getR (pc := 52) 34 rfl fl_X1_57 rfl _ hca ?_
        refine v_getI (pc := 55) 35 rfl fl_X1_61 (shC hc) ?_
        refine v_ic_geF (pc := 58) 36 98 rfl (by decide) (by omega) (by omega) ?_
        refine v_aload_n (pc := 61) 37 rfl rfl ?_
        refine v_getC (pc := 62) 38 rfl fl_X1_31 rfl 8 rfl ?_
        refine v_aload_n (pc := 65) 39 rfl rfl ?_
        refine v_getC (pc := 66) 40 rfl fl_X1_31 rfl 8 rfl ?_
        refine v_getC (pc := 69) 41 rfl fl_X1_73 rfl 11 rfl ?_
        refine v_iload_n (pc := 72) 42 rfl rfl ?_
        refine v_ialdN (pc := 73) 43 rfl rfl (by omega) ?_
        rw [v1]
        refine v_iload_n (pc := 74) 44 rfl rfl ?_
        refine v_aload_n (pc := 75) 45 rfl rfl ?_
        refine v_getI (pc := 76) 46 rfl fl_X1_35 rfl ?_
        rw [n5]
        refine v_cV3i (pc := 79) 47 rfl cv_X1_88 rfl (Nat.le_of_ble_eq_true rfl) (Nat.le_of_ble_eq_true rfl) (cl) ?_
        refine v_if_ne (pc := 82) 48 92 rfl (by decide) (by omega) (fun e2 => ?_) (fun e2 => ?_)
        · rw [if_neg e2] at ihm
          refine v_iinc (pc := 92) 54 rfl rfl ⟨Nat.le_of_ble_eq_true rfl, rfl⟩ ?_
          refine v_goto (pc := 95) 55 47 rfl (by decide) ?_
          exact ihm _ hb5 hg6
        · rw [if_pos (Decidable.not_not.mp e2)] at ihm
          refine v_aload_n (pc := 85) 49 rfl rfl ?_
          refine v_iload_n (pc := 86) 50 rfl rfl ?_
          refine v_iload_n (pc := 87) 51 rfl rfl ?_
          refine v_iload_n (pc := 88) 52 rfl rfl ?_
          refine v_cV3 (pc := 89) 53 rfl cv_X1_92 rfl (Nat.le_of_ble_eq_true rfl) (Nat.le_of_ble_eq_true rfl) (cj) (fun r9 N9 hq9 => ?_)
          obtain ⟨rfl, hb6, hg8⟩ := hq9
          show V G (e + 3) mX1_tryCase (89 + 3) _ [] _ _
          refine v_iinc (pc := 92) 54 rfl rfl ⟨Nat.le_of_ble_eq_true rfl, rfl⟩ ?_
          refine v_goto (pc := 95) 55 47 rfl (by decide) ?_
          exact ihm _ hb6 hg8
    · rw [if_neg (by intro q; rw [q] at e1; exact e1 (by decide))]
      refine v_ret (pc := 15) 9 rfl rfl ⟨rfl, hb2, hg7⟩
end Try
