/-! 14: a day gone through -/
/-- the memory with these sittings -/
def wS (M : Mem) (S : Sx) : Mem := aI (aI M 9 S.1) 10 S.2
theorem gI_wS (M : Mem) (S : Sx) (a b : Nat) : gI (wS M S) a b = if a = 10 then S.2 b else if a = 9 then S.1 b else gI M a b := by
  unfold wS; rw [gI_aI, gI_aI]
theorem wS_ne {M : Mem} {S : Sx} {a : Nat} (h : a ≠ 9 ∧ a ≠ 10) : gI (wS M S) a = gI M a := by
  funext b; rw [gI_wS, if_neg h.2, if_neg h.1]
theorem wS_s (M : Mem) (S : Sx) : sOf (wS M S) = S := by
  refine Prod.ext (funext fun i => ?_) (funext fun i => ?_)
  · show gI (wS M S) 9 i = S.1 i
    rw [gI_wS, if_neg (by decide), if_pos rfl]
  · show gI (wS M S) 10 i = S.2 i
    rw [gI_wS, if_pos rfl]
theorem wS_self (M : Mem) : wS M (sOf M) = M := by
  refine Mem_ext (fun a b => ?_) (fun _ _ => rfl) (fun _ _ => rfl)
  rw [gI_wS]
  by_cases e : a = 10
  · rw [if_pos e, e]
  · rw [if_neg e]
    by_cases e : a = 9
    · rw [if_pos e, e]
    · rw [if_neg e]
theorem wS_wS (M : Mem) (S S2 : Sx) : wS (wS M S) S2 = wS M S2 := by
  refine Mem_ext (fun a b => ?_) (fun _ _ => rfl) (fun _ _ => rfl)
  rw [gI_wS, gI_wS, gI_wS]
  by_cases e : a = 10
  · simp only [e, if_true]
  · by_cases e9 : a = 9
    · simp only [e9, if_true]
    · simp only [e, e9, if_false]
theorem pl_wS (M : Mem) (k : Nat) (j d : Int) : plM M k j d = wS M (setS (sOf M) k j d) := by
  refine Mem_ext (fun a b => ?_) (fun _ _ => rfl) (fun _ _ => rfl)
  unfold plM
  rw [gI_wS, gI_sI]
  by_cases e : a = 10
  · rw [if_pos e, if_pos e]
    show (if b = k then d else gI (sI M 9 k j) 10 b) = if b = k then d else gI M 10 b
    rw [gI_sI_ne (by decide)]
  · rw [if_neg e, if_neg e, gI_sI]
    by_cases e : a = 9
    · rw [if_pos e, if_pos e]; rfl
    · rw [if_neg e, if_neg e]
theorem wS_a11 (M : Mem) (S : Sx) (f : Nat → Int) : wS (aI M 11 f) S = aI (wS M S) 11 f := by
  refine Mem_ext (fun a b => ?_) (fun _ _ => rfl) (fun _ _ => rfl)
  rw [gI_wS, gI_aI, gI_aI, gI_wS]
  by_cases e : a = 11
  · subst e; rfl
  · rw [if_neg e, if_neg e]
theorem wa_s (M : Mem) (S : Sx) (f : Nat → Int) : sOf (aI (wS M S) 11 f) = S := by rw [← wS_a11, wS_s]
theorem wa_pl (M : Mem) (S : Sx) (f : Nat → Int) (k : Nat) (j d : Int) : plM (aI (wS M S) 11 f) k j d = aI (wS M (setS S k j d)) 11 f := by
  rw [pl_wS, wa_s, wS_a11, wS_wS]
theorem CI.w {M : Mem} {c : Nat} {S : Sx} (h : CI M c) (hS : SOk (tOf M c) S) : CI (wS M S) c ∧ tOf (wS M S) c = tOf M c := by
  have e1 : ∀ j, j ≤ 10 → gI (wS M S) (c + j) = gI M (c + j) := fun j hj => wS_ne (by rcases h.1 with e | e <;> omega)
  exact ⟨h.keep e1 rfl (by rw [wS_s]; exact hS), tOf_eq e1⟩
theorem CI.wa {M : Mem} {c : Nat} {S : Sx} (f : Nat → Int) (h : CI M c) (hS : SOk (tOf M c) S) : CI (aI (wS M S) 11 f) c ∧ tOf (aI (wS M S) 11 f) c = tOf M c := by
  obtain ⟨h1, h2⟩ := h.w hS
  obtain ⟨h3, h4, h5⟩ := h1.s11 f
  exact ⟨h3, h4.trans h2⟩
/-- the first i cases of l given on day d, one by one, each to the least loaded -/
def gt (T : Tx) (d : Int) (l : List Nat) (S : Sx) : Nat → Int × Sx
  | 0 => (0, S)
  | i + 1 => if lst T (gt T d l S i).2 (l.getD i 0) d (nJ T) = -1 then gt T d l S i else ((gt T d l S i).1 + 1, setS (gt T d l S i).2 (l.getD i 0) (lst T (gt T d l S i).2 (l.getD i 0) d (nJ T)) d)
def goD (T : Tx) (S : Sx) (d : Int) : Int × Sx := gt T d (opN T S d (nK T)) S (opN T S d (nK T)).length
theorem gt_ok {T : Tx} {d : Int} {l : List Nat} {S : Sx} (hd : 0 ≤ d ∧ d ≤ 60) (hl : ∀ x ∈ l, x < nK T) (hS : SOk T S) (i : Nat) (hi : i ≤ l.length) : SOk T (gt T d l S i).2 ∧ 0 ≤ (gt T d l S i).1 ∧ (gt T d l S i).1 ≤ i := by
  induction i with
  | zero => exact ⟨hS, Int.le_refl _, Int.le_refl _⟩
  | succ i ih =>
    have ih := ih (by omega)
    have hx : l.getD i 0 < nK T := hl _ (by rw [List.getD_eq_getElem?_getD, List.getElem?_eq_getElem (by omega)]; exact List.getElem_mem _)
    have hb := lst_b T (gt T d l S i).2 (l.getD i 0) d (nJ T)
    show SOk T (if _ then gt T d l S i else _).2 ∧ 0 ≤ (if _ then gt T d l S i else _).1 ∧ (if _ then gt T d l S i else _).1 ≤ ((i + 1 : Nat) : Int)
    split
    · exact ⟨ih.1, by omega, by omega⟩
    · exact ⟨ih.1.set (Or.inr ⟨hx, by omega, hd⟩), by show 0 ≤ (gt T d l S i).1 + 1; omega, by show (gt T d l S i).1 + 1 ≤ _; omega⟩
theorem rep_get {f : Nat → Int} {l : List Nat} (h : rep f l) {i : Nat} (hi : i < l.length) : f i = ((l.getD i 0 : Nat) : Int) := by
  refine h i _ ?_
  rw [List.getD_eq_getElem?_getD, List.getElem?_eq_getElem hi]; rfl
theorem op_lt {T : Tx} {S : Sx} {d : Int} {n x : Nat} (h : x ∈ opN T S d n) : x < n := (opN_mem h).1
theorem op_len {T : Tx} (hT : TOk T) (S : Sx) {d : Int} (hd : 0 ≤ d) : (opN T S d (nK T)).length ≤ nK T := opN_len _ _ _ hd (fun _ => Or.inr (Or.inr trivial)) _ (fun k hk => (hT.2.2.2.2.1 k (by omega)).2.2.1.1)
section Go
variable {G : Gt} {d : Nat} {M : Mem} {c : Nat}
set_option maxHeartbeats 2000000 in
theorem c_goThrough (h : CI M c) {dd : Int} (hd : 0 ≤ dd ∧ dd ≤ 60) : V G (d + 4) mX3_goThrough 0 [some (.ref 8), some (.int (J dd)), none, none, none, none] [] M (fun r N => ∃ f, r = some (.int (J (goD (tOf M c) (sOf M) dd).1)) ∧ N = aI (wS M (goD (tOf M c) (sOf M) dd).2) 11 f) := by
  have hI := h
  obtain ⟨hc, hca, h0, h1, h2, hT, hS⟩ := h
  generalize hQ : (fun (r : Option Value) (N : Mem) => ∃ f, r = some (.int (J (goD (tOf M c) (sOf M) dd).1)) ∧ N = aI (wS M (goD (tOf M c) (sOf M) dd).2) 11 f) = Q
  have hlen := op_len hT (sOf M) hd.1
  have h12 := hT.2.2.1
  have h6 := hT.2.1
  refine v_aload_n (pc := 0) 0 rfl rfl ?_
  refine v_iload_n (pc := 1) 1 rfl rfl ?_
  refine v_cV1 (pc := 2) 2 rfl cv_X3_103 rfl (Nat.le_of_ble_eq_true rfl) (Nat.le_of_ble_eq_true rfl) (c_listOpen hI hd) (fun r9 N9 hq9 => ?_)
  obtain ⟨f, rfl, rfl, hf⟩ := hq9
  unfold goD at hQ
  generalize hl9 : opN (tOf M c) (sOf M) dd (nK (tOf M c)) = l at hQ hlen hf ⊢
  have hmem : ∀ x ∈ l, x < nK (tOf M c) := fun x hx => by rw [← hl9] at hx; exact op_lt hx
  show V G (d + 4) mX3_goThrough (2 + 3) _ [.int (J (l.length : Int))] _ Q
  refine v_istore_n (pc := 5) 3 rfl ⟨Nat.le_of_ble_eq_true rfl, rfl⟩ ?_
  refine v_iconst (pc := 6) 4 rfl ?_
  refine v_istore_n (pc := 7) 5 rfl ⟨Nat.le_of_ble_eq_true rfl, rfl⟩ ?_
  refine v_iconst (pc := 8) 6 rfl ?_
  refine v_istore (pc := 9) 7 rfl ⟨Nat.le_of_ble_eq_true rfl, rfl⟩ ?_
  have loop := loopN (N := l.length) (fun i => ∀ u, V G (d + 4) mX3_goThrough 11 [some (.ref 8), some (.int (J dd)), some (.int (J (l.length : Int))), some (.int (J (gt (tOf M c) dd l (sOf M) i).1)), some (.int (J (i : Int))), u] [] (aI (wS M (gt (tOf M c) dd l (sOf M) i).2) 11 f) Q) ?_ ?_
  · have := loop none
    rw [show (gt (tOf M c) dd l (sOf M) 0).2 = sOf M from rfl, wS_self] at this
    exact this
  · intro u
    refine v_iload (pc := 11) 8 rfl rfl ?_
    refine v_iload_n (pc := 13) 9 rfl rfl ?_
    refine v_ic_geT (pc := 14) 10 60 rfl (by decide) (by omega) (by omega) ?_
    refine v_iload_n (pc := 60) 33 rfl rfl ?_
    exact v_iret (pc := 61) 34 rfl rfl (by rw [← hQ]; exact ⟨f, rfl, rfl⟩)
  · intro i hi ih u
    obtain ⟨o1, o2, o3⟩ := gt_ok hd hmem hS i (by omega)
    have hx : l.getD i 0 < nK (tOf M c) := hmem _ (by rw [List.getD_eq_getElem?_getD, List.getElem?_eq_getElem hi]; exact List.getElem_mem _)
    have eG : gt (tOf M c) dd l (sOf M) (i + 1) = if lst (tOf M c) (gt (tOf M c) dd l (sOf M) i).2 (l.getD i 0) dd (nJ (tOf M c)) = -1 then gt (tOf M c) dd l (sOf M) i else ((gt (tOf M c) dd l (sOf M) i).1 + 1, setS (gt (tOf M c) dd l (sOf M) i).2 (l.getD i 0) (lst (tOf M c) (gt (tOf M c) dd l (sOf M) i).2 (l.getD i 0) dd (nJ (tOf M c))) dd) := rfl
    have hfx := rep_get hf hi
    generalize hg : gt (tOf M c) dd l (sOf M) i = g at o1 o2 o3 eG ⊢
    obtain ⟨hI1, eT⟩ := hI.wa f o1
    have eS := wa_s M g.2 f
    have hb := lst_b (tOf M c) g.2 (l.getD i 0) dd (nJ (tOf M c))
    have vx : gI (aI (wS M g.2) 11 f) 11 i = ((l.getD i 0 : Nat) : Int) := by rw [gI_aI, if_pos rfl]; exact hfx
    have cl : V G (d + 3) mX3_leastLoaded 0 [some (.ref 8), some (.int (J ((l.getD i 0 : Nat) : Int))), some (.int (J dd)), none, none] [] (aI (wS M g.2) 11 f) (Ret (some (.int (J (lst (tOf M c) g.2 (l.getD i 0) dd (nJ (tOf M c)))))) (aI (wS M g.2) 11 f)) := by
      have := c_leastLoaded (G := G) (d := d) hI1 (k := l.getD i 0) (by rw [eT]; exact hx) hd
      rw [eT, eS] at this
      exact this
    generalize hk9 : l.getD i 0 = k at hx eG hb vx cl hfx
    refine v_iload (pc := 11) 8 rfl rfl ?_
    refine v_iload_n (pc := 13) 9 rfl rfl ?_
    refine v_ic_geF (pc := 14) 10 60 rfl (by decide) (by omega) (by omega) ?_
    refine v_aload_n (pc := 17) 11 rfl rfl ?_
    refine v_aload_n (pc := 18) 12 rfl rfl ?_
    refine v_getC (pc := 19) 13 rfl fl_X3_18 rfl 11 rfl ?_
    refine v_iload (pc := 22) 14 rfl rfl ?_
    refine v_ialdN (pc := 24) 15 rfl rfl (by omega) ?_
    rw [vx]
    refine v_iload_n (pc := 25) 16 rfl rfl ?_
    refine v_cV2i (pc := 26) 17 rfl cv_X3_106 rfl (Nat.le_of_ble_eq_true rfl) (Nat.le_of_ble_eq_true rfl) (cl) ?_
    refine v_istore (pc := 29) 18 rfl ⟨Nat.le_of_ble_eq_true rfl, rfl⟩ ?_
    refine v_iload (pc := 31) 19 rfl rfl ?_
    refine v_iconst (pc := 33) 20 rfl ?_
    refine v_ic_eq (pc := 34) 21 54 rfl (by decide) (by omega) (fun e1 => ?_) (fun e1 => ?_)
    · rw [if_pos e1] at eG
      rw [eG] at ih
      refine v_iinc (pc := 54) 31 rfl rfl ⟨Nat.le_of_ble_eq_true rfl, rfl⟩ ?_
      refine v_goto (pc := 57) 32 11 rfl (by decide) ?_
      exact ih _
    · rw [if_neg e1] at eG
      rw [eG] at ih
      refine v_aload_n (pc := 37) 22 rfl rfl ?_
      refine v_aload_n (pc := 38) 23 rfl rfl ?_
      refine v_getC (pc := 39) 24 rfl fl_X3_18 rfl 11 rfl ?_
      refine v_iload (pc := 42) 25 rfl rfl ?_
      refine v_ialdN (pc := 44) 26 rfl rfl (by omega) ?_
      rw [vx]
      refine v_iload (pc := 45) 27 rfl rfl ?_
      refine v_iload_n (pc := 47) 28 rfl rfl ?_
      refine v_cV3v (pc := 48) 29 rfl cv_X3_33 rfl (Nat.le_of_ble_eq_true rfl) (Nat.le_of_ble_eq_true rfl) (c_place (by omega) _ _) ?_
      refine v_iinc (pc := 51) 30 rfl rfl ⟨Nat.le_of_ble_eq_true rfl, rfl⟩ ?_
      refine v_iinc (pc := 54) 31 rfl rfl ⟨Nat.le_of_ble_eq_true rfl, rfl⟩ ?_
      refine v_goto (pc := 57) 32 11 rfl (by decide) ?_
      rw [wa_pl]
      exact ih _
end Go
