/-! 13: what is open, day by day; a day gone through -/
theorem fm_congr {α β : Type} {l : List α} {f g : α → List β} (h : ∀ x ∈ l, f x = g x) : l.flatMap f = l.flatMap g := by
  induction l with
  | nil => rfl
  | cons a l ih =>
    rw [List.flatMap_cons, List.flatMap_cons, h a List.mem_cons_self, ih (fun x hx => h x (List.mem_cons_of_mem _ hx))]
/-- the cases below n, open, filed on day e -/
def blk (T : Tx) (S : Sx) (n e : Nat) : List Nat := (List.range n).filter (fun k => decide (S.1 k = -1 ∧ fi T k = (e : Int)))
/-- the cases below n that are open on day d, the oldest first -/
def opN (T : Tx) (S : Sx) (d : Int) (n : Nat) : List Nat := (List.range (d.toNat + 1)).flatMap (blk T S n)
theorem blk_succ (T : Tx) (S : Sx) (n e : Nat) : blk T S (n + 1) e = blk T S n e ++ if S.1 n = -1 ∧ fi T n = (e : Int) then [n] else [] := by
  unfold blk
  rw [List.range_succ, List.filter_append]
  congr 1
  by_cases h : S.1 n = -1 ∧ fi T n = (e : Int)
  · rw [if_pos h, List.filter_cons_of_pos (by simpa using h)]; rfl
  · rw [if_neg h, List.filter_cons_of_neg (by simpa using h)]; rfl
theorem blk_mem {T : Tx} {S : Sx} {n e x : Nat} (h : x ∈ blk T S n e) : x < n ∧ S.1 x = -1 ∧ fi T x = (e : Int) := by
  unfold blk at h
  rw [List.mem_filter] at h
  have h2 := of_decide_eq_true h.2
  exact ⟨List.mem_range.mp h.1, h2.1, h2.2⟩
theorem opN_mem {T : Tx} {S : Sx} {d : Int} {n x : Nat} (h : x ∈ opN T S d n) : x < n ∧ S.1 x = -1 := by
  unfold opN at h
  rw [List.mem_flatMap] at h
  obtain ⟨e, _, h2⟩ := h
  exact ⟨(blk_mem h2).1, (blk_mem h2).2.1⟩
theorem op_same {T : Tx} {S : Sx} {d : Int} {k : Nat} (hd : 0 ≤ d) (h : ¬ (S.1 k = -1 ∧ fi T k ≤ d)) : opN T S d (k + 1) = opN T S d k := by
  unfold opN
  refine fm_congr (fun e he => ?_)
  rw [List.mem_range] at he
  rw [blk_succ, if_neg (by intro q; apply h; omega), List.append_nil]
theorem op_ins {T : Tx} {S : Sx} {d : Int} {k : Nat} (h1 : S.1 k = -1) (h2 : 0 ≤ fi T k) (h3 : fi T k ≤ d) : ∃ A B : List Nat, opN T S d k = A ++ B ∧ opN T S d (k + 1) = A ++ k :: B ∧ (∀ x ∈ A, fi T x ≤ fi T k) ∧ ∀ x ∈ B, fi T k < fi T x := by
  obtain ⟨e0, he0⟩ : ∃ e0 : Nat, fi T k = (e0 : Int) := ⟨(fi T k).toNat, by omega⟩
  obtain ⟨r, hr⟩ : ∃ r : Nat, d.toNat + 1 = (e0 + 1) + r := ⟨d.toNat - e0, by omega⟩
  have key : ∀ n, opN T S d n = ((List.range e0).flatMap (blk T S n) ++ blk T S n e0) ++ ((List.range r).map (e0 + 1 + ·)).flatMap (blk T S n) := by
    intro n
    unfold opN
    rw [hr, List.range_add, List.flatMap_append, List.range_succ, List.flatMap_append]
    simp
  refine ⟨(List.range e0).flatMap (blk T S k) ++ blk T S k e0, ((List.range r).map (e0 + 1 + ·)).flatMap (blk T S k), key k, ?_, ?_, ?_⟩
  · rw [key (k + 1)]
    have a1 : (List.range e0).flatMap (blk T S (k + 1)) = (List.range e0).flatMap (blk T S k) := fm_congr (fun e he => by
      rw [List.mem_range] at he
      rw [blk_succ, if_neg (by omega), List.append_nil])
    have a2 : blk T S (k + 1) e0 = blk T S k e0 ++ [k] := by rw [blk_succ, if_pos ⟨h1, he0⟩]
    have a3 : ((List.range r).map (e0 + 1 + ·)).flatMap (blk T S (k + 1)) = ((List.range r).map (e0 + 1 + ·)).flatMap (blk T S k) := fm_congr (fun e he => by
      rw [List.mem_map] at he
      obtain ⟨q, _, hq⟩ := he
      rw [blk_succ, if_neg (by omega), List.append_nil])
    rw [a1, a2, a3]
    simp
  · intro x hx
    rcases List.mem_append.mp hx with hx | hx
    · rw [List.mem_flatMap] at hx
      obtain ⟨e, he, hx⟩ := hx
      rw [List.mem_range] at he
      have := (blk_mem hx).2.2
      omega
    · have := (blk_mem hx).2.2
      omega
  · intro x hx
    rw [List.mem_flatMap] at hx
    obtain ⟨e, he, hx⟩ := hx
    rw [List.mem_map] at he
    obtain ⟨q, _, hq⟩ := he
    have := (blk_mem hx).2.2
    omega
theorem opN_len (T : Tx) (S : Sx) (d : Int) (hd : 0 ≤ d) (hf : ∀ k, 0 ≤ fi T k ∨ S.1 k ≠ -1 ∨ True) (n : Nat) (h0 : ∀ k, k < n → 0 ≤ fi T k) : (opN T S d n).length ≤ n := by
  induction n with
  | zero =>
    have : opN T S d 0 = [] := by
      unfold opN
      rw [fm_congr (f := blk T S 0) (g := fun _ => []) (fun e _ => rfl)]
      simp
    rw [this]
    exact Nat.le_refl 0
  | succ n ih =>
    have h := ih (fun k hk => h0 k (by omega))
    by_cases e : S.1 n = -1 ∧ fi T n ≤ d
    · obtain ⟨A, B, e1, e2, -, -⟩ := op_ins e.1 (h0 n (by omega)) e.2
      rw [e2, List.length_append, List.length_cons]
      rw [e1, List.length_append] at h
      omega
    · rw [op_same hd e]; omega
/-- the row f holds the list l -/
def rep (f : Nat → Int) (l : List Nat) : Prop := ∀ (i x : Nat), l[i]? = some x → f i = (x : Int)
/-- f, its places above p up to n moved one up -/
def shA (f : Nat → Int) (p n : Nat) : Nat → Int := fun i => if p < i ∧ i ≤ n then f (i - 1) else f i
def insAt (f : Nat → Int) (p n : Nat) (v : Int) : Nat → Int := fun i => if i = p then v else shA f p n i
theorem shA_n (f : Nat → Int) (n : Nat) : shA f n n = f := by
  funext i
  unfold shA
  rw [if_neg (by omega)]
theorem shA_step (f : Nat → Int) {p n : Nat} (hp : 0 < p) (hn : p ≤ n) : (fun j => if j = p then shA f p n (p - 1) else shA f p n j) = shA f (p - 1) n := by
  funext j
  unfold shA
  by_cases e : j = p
  · subst e
    rw [if_pos rfl, if_neg (by omega), if_pos (by omega)]
  · rw [if_neg e]
    by_cases q : p < j ∧ j ≤ n
    · rw [if_pos q, if_pos (by omega)]
    · rw [if_neg q, if_neg (by omega)]
theorem shA_lo (f : Nat → Int) {p n i : Nat} (h : i ≤ p) : shA f p n i = f i := by
  unfold shA
  rw [if_neg (by omega)]
theorem rep_ins {f : Nat → Int} {A B : List Nat} {k : Nat} (h : rep f (A ++ B)) : rep (insAt f A.length (A.length + B.length) (k : Int)) (A ++ k :: B) := by
  intro i x hx
  unfold insAt
  by_cases e : i = A.length
  · subst e
    rw [if_pos rfl]
    rw [List.getElem?_append_right (Nat.le_refl _), Nat.sub_self] at hx
    cases hx; rfl
  · rw [if_neg e]
    by_cases q : i < A.length
    · rw [shA_lo f (by omega)]
      rw [List.getElem?_append_left q] at hx
      exact h i x (by rw [List.getElem?_append_left q]; exact hx)
    · rw [List.getElem?_append_right (by omega)] at hx
      obtain ⟨t, ht⟩ : ∃ t, i - A.length = t + 1 := ⟨i - A.length - 1, by omega⟩
      rw [ht, List.getElem?_cons_succ] at hx
      have hl := (List.getElem?_eq_some_iff.mp hx).1
      unfold shA
      rw [if_pos (by omega)]
      refine h (i - 1) x ?_
      rw [List.getElem?_append_right (by omega), show i - 1 - A.length = t by omega]
      exact hx
theorem sI_aI (M : Mem) (k : Nat) (f : Nat → Int) (i : Nat) (v : Int) : sI (aI M k f) k i v = aI M k (fun j => if j = i then v else f j) := by
  refine Mem_ext (fun a b => ?_) (fun _ _ => rfl) (fun _ _ => rfl)
  rw [gI_sI, gI_aI, gI_aI, gI_aI]
  by_cases e : a = k
  · rw [if_pos e, if_pos e, if_pos rfl]
  · rw [if_neg e, if_neg e, if_neg e]
theorem aI_self (M : Mem) (k : Nat) : aI M k (gI M k) = M := by
  refine Mem_ext (fun a b => ?_) (fun _ _ => rfl) (fun _ _ => rfl)
  rw [gI_aI]
  by_cases e : a = k
  · rw [if_pos e, e]
  · rw [if_neg e]
theorem aI_aI (M : Mem) (k : Nat) (f g : Nat → Int) : aI (aI M k f) k g = aI M k g := by
  refine Mem_ext (fun a b => ?_) (fun _ _ => rfl) (fun _ _ => rfl)
  rw [gI_aI, gI_aI, gI_aI]
  by_cases e : a = k
  · rw [if_pos e, if_pos e]
  · rw [if_neg e, if_neg e, if_neg e]
theorem CI.s11 {M : Mem} {c : Nat} (f : Nat → Int) (h : CI M c) : CI (aI M 11 f) c ∧ tOf (aI M 11 f) c = tOf M c ∧ sOf (aI M 11 f) = sOf M := by
  have hne : ∀ a, a ≠ 11 → gI (aI M 11 f) a = gI M a := fun a ha => gI_aI_ne ha
  have e1 : ∀ j, j ≤ 10 → gI (aI M 11 f) (c + j) = gI M (c + j) := fun j hj => hne _ (by rcases h.1 with e | e <;> omega)
  have e2 : sOf (aI M 11 f) = sOf M := by unfold sOf; rw [hne 9 (by decide), hne 10 (by decide)]
  exact ⟨h.keep e1 rfl (by rw [e2]; exact h.2.2.2.2.2.2), tOf_eq e1, e2⟩
section Open
variable {G : Gt} {d : Nat} {M : Mem} {c : Nat}
set_option maxHeartbeats 2000000 in
theorem c_listOpen (h : CI M c) {dd : Int} (hd : 0 ≤ dd ∧ dd ≤ 60) : V G (d + 1) mX3_listOpen 0 [some (.ref 8), some (.int (J dd)), none, none, none] [] M (fun r N => ∃ f, r = some (.int (J ((opN (tOf M c) (sOf M) dd (nK (tOf M c))).length : Int))) ∧ N = aI M 11 f ∧ rep f (opN (tOf M c) (sOf M) dd (nK (tOf M c)))) := by
  have hn := h.n
  have hI := h
  obtain ⟨hc, hca, h0, h1, h2, hT, hS⟩ := h
  have hlen : ∀ n, n ≤ nK (tOf M c) → (opN (tOf M c) (sOf M) dd n).length ≤ n := fun n hn => opN_len _ _ _ hd.1 (fun _ => Or.inr (Or.inr trivial)) n (fun k hk => (hT.2.2.2.2.1 k (by omega)).2.2.1.1)
  generalize hQ : (fun (r : Option Value) (N : Mem) => ∃ f, r = some (.int (J ((opN (tOf M c) (sOf M) dd (nK (tOf M c))).length : Int))) ∧ N = aI M 11 f ∧ rep f (opN (tOf M c) (sOf M) dd (nK (tOf M c)))) = Q
  refine v_iconst (pc := 0) 0 rfl ?_
  refine v_istore_n (pc := 1) 1 rfl ⟨Nat.le_of_ble_eq_true rfl, rfl⟩ ?_
  refine v_iconst (pc := 2) 2 rfl ?_
  refine v_istore_n (pc := 3) 3 rfl ⟨Nat.le_of_ble_eq_true rfl, rfl⟩ ?_
  have loop := loopN (N := nK (tOf M c)) (fun k => ∀ f u, rep f (opN (tOf M c) (sOf M) dd k) → V G (d + 1) mX3_listOpen 4 [some (.ref 8), some (.int (J dd)), some (.int (J ((opN (tOf M c) (sOf M) dd k).length : Int))), some (.int (J (k : Int))), u] [] (aI M 11 f) Q) ?_ ?_
  · have e0 : opN (tOf M c) (sOf M) dd 0 = [] := List.length_eq_zero_iff.mp (by have := hlen 0 (by omega); omega)
    have := loop (gI M 11) none (fun i x hx => by rw [e0] at hx; simp at hx)
    rw [aI_self, e0] at this
    exact this
  · intro f u hf
    obtain ⟨hI1, eT, eS⟩ := hI.s11 f
    have hn1 := hI1.n
    rw [eT] at hn1
    generalize hN : aI M 11 f = N at hI1 eT eS hn1 ⊢
    have hca : gR N 8 0 = c := hI1.2.1
    refine v_iload_n (pc := 4) 4 rfl rfl ?_
    refine v_aload_n (pc := 5) 5 rfl rfl ?_
    refine v_getR (pc := 6) 6 rfl fl_X3_25 rfl _ hca ?_
    refine v_getI (pc := 9) 7 rfl fl_X3_75 (shC hc) ?_
    refine v_ic_geT (pc := 12) 8 112 rfl (by decide) (by omega) (by omega) ?_
    refine v_iload_n (pc := 112) 60 rfl rfl ?_
    exact v_iret (pc := 113) 61 rfl rfl (by rw [← hQ]; exact ⟨f, rfl, hN.symm, hf⟩)
  · intro k hk ih f u hf
    have hl := hlen k (by omega)
    obtain ⟨hI1, eT, eS⟩ := hI.s11 f
    have hn1 := hI1.n
    have eK : gI (aI M 11 f) 9 k = (sOf M).1 k := by rw [← eS]
    have eF : gI (aI M 11 f) (c + 8) k = fi (tOf M c) k := congrArg (fun T : Tx => fi T k) eT
    have hb := hS.b hT (k := k) (by omega)
    have hfi := (hT.2.2.2.2.1 k hk).2.2.1
    rw [eT] at hn1
    have hca1 : gR (aI M 11 f) 8 0 = c := hI1.2.1
    refine v_iload_n (pc := 4) 4 rfl rfl ?_
    refine v_aload_n (pc := 5) 5 rfl rfl ?_
    refine v_getR (pc := 6) 6 rfl fl_X3_25 rfl _ hca1 ?_
    refine v_getI (pc := 9) 7 rfl fl_X3_75 (shC hc) ?_
    refine v_ic_geF (pc := 12) 8 112 rfl (by decide) (by omega) (by omega) ?_
    refine v_aload_n (pc := 15) 9 rfl rfl ?_
    refine v_iload_n (pc := 16) 10 rfl rfl ?_
    refine v_cV1i (pc := 17) 11 rfl cv_X3_42 rfl (Nat.le_of_ble_eq_true rfl) (Nat.le_of_ble_eq_true rfl) (c_hasSitting (by omega) (by rw [eK]; omega)) ?_
    refine v_if_ne (pc := 20) 12 106 rfl (by decide) (by omega) (fun e1 => ?_) (fun e1 => ?_)
    · have := ih f u (by rw [op_same hd.1 (by intro q; have q1 := q.1; rw [eK] at e1; rw [if_pos q1] at e1; exact e1 rfl)]; exact hf)
      rw [op_same hd.1 (by intro q; have q1 := q.1; rw [eK] at e1; rw [if_pos q1] at e1; exact e1 rfl)] at this
      refine v_iinc (pc := 106) 58 rfl rfl ⟨Nat.le_of_ble_eq_true rfl, rfl⟩ ?_
      refine v_goto (pc := 109) 59 4 rfl (by decide) ?_
      exact this
    · have e1 : (sOf M).1 k = -1 := by rw [eK] at e1; by_cases q : (sOf M).1 k = -1; exact q; rw [if_neg q] at e1; omega
      refine v_aload_n (pc := 23) 13 rfl rfl ?_
      refine v_getR (pc := 24) 14 rfl fl_X3_25 rfl _ hca1 ?_
      refine v_getC (pc := 27) 15 rfl fl_X3_46 (shC hc) _ (rtC_10 hc) ?_
      refine v_iload_n (pc := 30) 16 rfl rfl ?_
      refine v_ialdN (pc := 31) 17 rfl (shC_10 hc) (by omega) ?_
      refine v_iload_n (pc := 32) 18 rfl rfl ?_
      refine v_ic_gt (pc := 33) 19 106 rfl (by decide) (by rw [eF]; omega) (fun e2 => ?_) (fun e2 => ?_)
      · rw [eF] at e2
        have hs := op_same (T := tOf M c) (S := sOf M) (k := k) hd.1 (by intro q; have := q.2; omega)
        have := ih f u (by rw [hs]; exact hf)
        rw [hs] at this
        refine v_iinc (pc := 106) 58 rfl rfl ⟨Nat.le_of_ble_eq_true rfl, rfl⟩ ?_
        refine v_goto (pc := 109) 59 4 rfl (by decide) ?_
        exact this
      · rw [eF] at e2
        obtain ⟨A, B, a1, a2, a3, a4⟩ := op_ins (T := tOf M c) (S := sOf M) (d := dd) (k := k) e1 hfi.1 (by omega)
        rw [a1] at hf hl ⊢
        rw [List.length_append] at hl ⊢
        refine v_iload_n (pc := 36) 20 rfl rfl ?_
        refine v_istore (pc := 37) 21 rfl ⟨Nat.le_of_ble_eq_true rfl, rfl⟩ ?_
        have inner := loopN (N := B.length) (fun t => V G (d + 1) mX3_listOpen 39 [some (.ref 8), some (.int (J dd)), some (.int (J ((A.length + B.length : Nat) : Int))), some (.int (J (k : Int))), some (.int (J ((A.length + (B.length - t) : Nat) : Int)))] [] (aI M 11 (shA f (A.length + (B.length - t)) (A.length + B.length))) Q) ?_ ?_
        · rw [Nat.sub_zero, shA_n] at inner
          exact inner
        · rw [show A.length + (B.length - B.length) = A.length by omega]
          obtain ⟨hI2, eT2, eS2⟩ := hI.s11 (shA f A.length (A.length + B.length))
          have hca2 : gR (aI M 11 (shA f A.length (A.length + B.length))) 8 0 = c := hI2.2.1
          have fin : V G (d + 1) mX3_listOpen 95 [some (.ref 8), some (.int (J dd)), some (.int (J ((A.length + B.length : Nat) : Int))), some (.int (J (k : Int))), some (.int (J (A.length : Int)))] [] (aI M 11 (shA f A.length (A.length + B.length))) Q := by
            refine v_aload_n (pc := 95) 52 rfl rfl ?_
            refine v_getC (pc := 96) 53 rfl fl_X3_18 rfl 11 rfl ?_
            refine v_iload (pc := 99) 54 rfl rfl ?_
            refine v_iload_n (pc := 101) 55 rfl rfl ?_
            refine v_iastN (pc := 102) 56 rfl rfl (by omega) ?_
            refine v_iinc (pc := 103) 57 rfl rfl ⟨Nat.le_of_ble_eq_true rfl, rfl⟩ ?_
            refine v_iinc (pc := 106) 58 rfl rfl ⟨Nat.le_of_ble_eq_true rfl, rfl⟩ ?_
            refine v_goto (pc := 109) 59 4 rfl (by decide) ?_
            have := ih (insAt f A.length (A.length + B.length) (k : Int)) (some (.int (J (A.length : Int)))) (by rw [a2]; exact rep_ins hf)
            rw [a2, List.length_append, List.length_cons] at this
            rw [sI_aI]
            exact this
          by_cases eA : A.length = 0
          · refine v_iload (pc := 39) 22 rfl rfl ?_
            refine v_if_leT (pc := 41) 23 95 rfl (by decide) (by omega) (by omega) ?_
            exact fin
          · obtain ⟨x, hx⟩ : ∃ x, A[A.length - 1]? = some x := ⟨_, List.getElem?_eq_getElem (by omega)⟩
            have hxA := a3 x (List.mem_of_getElem? hx)
            have hx2 : x < k := (opN_mem (by rw [a1]; exact List.mem_append_left _ (List.mem_of_getElem? hx))).1
            have v1 : gI (aI M 11 (shA f A.length (A.length + B.length))) 11 (A.length - 1) = (x : Int) := by
              rw [gI_aI, if_pos rfl, shA_lo f (by omega)]
              exact hf _ _ (by rw [List.getElem?_append_left (by omega)]; exact hx)
            have v2 : gI (aI M 11 (shA f A.length (A.length + B.length))) (c + 8) x = fi (tOf M c) x := congrArg (fun T : Tx => fi T x) eT2
            have v3 : gI (aI M 11 (shA f A.length (A.length + B.length))) (c + 8) k = fi (tOf M c) k := congrArg (fun T : Tx => fi T k) eT2
            have hfx := (hT.2.2.2.2.1 x (by omega)).2.2.1
            refine v_iload (pc := 39) 22 rfl rfl ?_
            refine v_if_leF (pc := 41) 23 95 rfl (by decide) (by omega) (by omega) ?_
            refine v_aload_n (pc := 44) 24 rfl rfl ?_
            refine v_getR (pc := 45) 25 rfl fl_X3_25 rfl _ hca2 ?_
            refine v_getC (pc := 48) 26 rfl fl_X3_46 (shC hc) _ (rtC_10 hc) ?_
            refine v_aload_n (pc := 51) 27 rfl rfl ?_
            refine v_getC (pc := 52) 28 rfl fl_X3_18 rfl 11 rfl ?_
            refine v_iload (pc := 55) 29 rfl rfl ?_
            refine v_iconst (pc := 57) 30 rfl ?_
            refine v_isub (pc := 58) 31 rfl ?_
            refine v_ialdE (pc := 59) 32 rfl rfl (A.length - 1) (by omega) ?_
            refine v_ialdE (pc := 60) 33 rfl (shC_10 hc) x (by omega) ?_
            refine v_aload_n (pc := 61) 34 rfl rfl ?_
            refine v_getR (pc := 62) 35 rfl fl_X3_25 rfl _ hca2 ?_
            refine v_getC (pc := 65) 36 rfl fl_X3_46 (shC hc) _ (rtC_10 hc) ?_
            refine v_iload_n (pc := 68) 37 rfl rfl ?_
            refine v_ialdN (pc := 69) 38 rfl (shC_10 hc) (by omega) ?_
            refine v_ic_leT (pc := 70) 39 95 rfl (by decide) (by omega) (by omega) ?_
            exact fin
        · intro t ht ih2
          obtain ⟨p, hp⟩ : ∃ p, A.length + (B.length - t) = p + 1 := ⟨A.length + (B.length - t) - 1, by omega⟩
          have hp2 : A.length + (B.length - (t + 1)) = p := by omega
          rw [hp2] at ih2
          rw [hp]
          obtain ⟨hI2, eT2, eS2⟩ := hI.s11 (shA f (p + 1) (A.length + B.length))
          have hca2 : gR (aI M 11 (shA f (p + 1) (A.length + B.length))) 8 0 = c := hI2.2.1
          obtain ⟨x, hx⟩ : ∃ x, B[p - A.length]? = some x := ⟨_, List.getElem?_eq_getElem (by omega)⟩
          have hxB := a4 x (List.mem_of_getElem? hx)
          have hx2 : x < k := (opN_mem (by rw [a1]; exact List.mem_append_right _ (List.mem_of_getElem? hx))).1
          have v1 : gI (aI M 11 (shA f (p + 1) (A.length + B.length))) 11 p = (x : Int) := by
            rw [gI_aI, if_pos rfl, shA_lo f (by omega)]
            exact hf _ _ (by rw [List.getElem?_append_right (by omega)]; exact hx)
          have v2 : gI (aI M 11 (shA f (p + 1) (A.length + B.length))) (c + 8) x = fi (tOf M c) x := congrArg (fun T : Tx => fi T x) eT2
          have v3 : gI (aI M 11 (shA f (p + 1) (A.length + B.length))) (c + 8) k = fi (tOf M c) k := congrArg (fun T : Tx => fi T k) eT2
          have hfx := (hT.2.2.2.2.1 x (by omega)).2.2.1
          refine v_iload (pc := 39) 22 rfl rfl ?_
          refine v_if_leF (pc := 41) 23 95 rfl (by decide) (by omega) (by omega) ?_
          refine v_aload_n (pc := 44) 24 rfl rfl ?_
          refine v_getR (pc := 45) 25 rfl fl_X3_25 rfl _ hca2 ?_
          refine v_getC (pc := 48) 26 rfl fl_X3_46 (shC hc) _ (rtC_10 hc) ?_
          refine v_aload_n (pc := 51) 27 rfl rfl ?_
          refine v_getC (pc := 52) 28 rfl fl_X3_18 rfl 11 rfl ?_
          refine v_iload (pc := 55) 29 rfl rfl ?_
          refine v_iconst (pc := 57) 30 rfl ?_
          refine v_isub (pc := 58) 31 rfl ?_
          refine v_ialdE (pc := 59) 32 rfl rfl p (by omega) ?_
          refine v_ialdE (pc := 60) 33 rfl (shC_10 hc) x (by omega) ?_
          refine v_aload_n (pc := 61) 34 rfl rfl ?_
          refine v_getR (pc := 62) 35 rfl fl_X3_25 rfl _ hca2 ?_
          refine v_getC (pc := 65) 36 rfl fl_X3_46 (shC hc) _ (rtC_10 hc) ?_
          refine v_iload_n (pc := 68) 37 rfl rfl ?_
          refine v_ialdN (pc := 69) 38 rfl (shC_10 hc) (by omega) ?_
          refine v_ic_leF (pc := 70) 39 95 rfl (by decide) (by omega) (by omega) ?_
          refine v_aload_n (pc := 73) 40 rfl rfl ?_
          refine v_getC (pc := 74) 41 rfl fl_X3_18 rfl 11 rfl ?_
          refine v_iload (pc := 77) 42 rfl rfl ?_
          refine v_aload_n (pc := 79) 43 rfl rfl ?_
          refine v_getC (pc := 80) 44 rfl fl_X3_18 rfl 11 rfl ?_
          refine v_iload (pc := 83) 45 rfl rfl ?_
          refine v_iconst (pc := 85) 46 rfl ?_
          refine v_isub (pc := 86) 47 rfl ?_
          refine v_ialdE (pc := 87) 48 rfl rfl p (by omega) ?_
          refine v_iastN (pc := 88) 49 rfl rfl (by omega) ?_
          refine v_iinc (pc := 89) 50 rfl rfl ⟨Nat.le_of_ble_eq_true rfl, rfl⟩ ?_
          refine v_goto (pc := 92) 51 39 rfl (by decide) ?_
          have e9 := shA_step f (p := p + 1) (n := A.length + B.length) (by omega) (by omega)
          rw [Nat.add_sub_cancel] at e9
          rw [sI_aI, gI_aI, if_pos rfl, e9]
          have e8 : ((p + 1 : Nat) : Int) + -1 = (p : Int) := by omega
          rw [e8]
          exact ih2
end Open
