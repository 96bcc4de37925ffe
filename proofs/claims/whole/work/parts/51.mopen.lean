/-! 51: the reference: what is not yet heard -/
/-- only scratch and the calendar's row are others -/
def SC (M N : Mem) : Prop := (∀ q, q ≠ 54 → q ≠ 72 → (q < 77 ∨ 82 < q) → gI N q = gI M q) ∧ (∀ i, i ≠ 38 → (i < 43 ∨ 46 < i) → gI N 54 i = gI M 54 i) ∧ gL N = gL M ∧ gR N = gR M
theorem SC.rfl9 (M : Mem) : SC M M := ⟨fun _ _ _ _ => rfl, fun _ _ _ => rfl, rfl, rfl⟩
theorem SC.trans {M N P : Mem} (h1 : SC M N) (h2 : SC N P) : SC M P := ⟨fun q a b c => (h2.1 q a b c).trans (h1.1 q a b c), fun i a b => (h2.2.1 i a b).trans (h1.2.1 i a b), h2.2.2.1.trans h1.2.2.1, h2.2.2.2.trans h1.2.2.2⟩
theorem SC.mf {M N : Mem} (h : SC M N) : MF M N := ⟨fun q hq => ⟨h.1 q (by omega) (by omega) (by omega), by rw [h.2.2.1]⟩, h.2.2.2⟩
theorem sc_a {M : Mem} {k : Nat} (f : Nat → Int) (hk : k = 72 ∨ (77 ≤ k ∧ k ≤ 82)) : SC M (aI M k f) := ⟨fun q a b c => gI_aI_ne (by omega), fun i a b => by rw [gI_aI_ne (by omega)], rfl, rfl⟩
theorem sc_s {M : Mem} {k : Nat} (i : Nat) (v : Int) (hk : k = 72 ∨ (77 ≤ k ∧ k ≤ 82)) : SC M (sI M k i v) := ⟨fun q a b c => gI_sI_ne (by omega), fun i a b => by rw [gI_sI_ne (by omega)], rfl, rfl⟩
theorem sc_f {M : Mem} {i : Nat} (v : Int) (hi : i = 38 ∨ (43 ≤ i ∧ i ≤ 46)) : SC M (sI M 54 i v) := ⟨fun q a b c => gI_sI_ne a, fun j a b => by rw [gI_sI, if_pos rfl, if_neg (by omega)], rfl, rfl⟩
theorem sc_ms (M : Mem) (k : Nat) (j t : Int) : SC M (msM M k j t) := (sc_s _ _ (Or.inl rfl)).trans (sc_s _ _ (Or.inl rfl))
/-- the calendar's row too is as it was -/
theorem RI.sc {M N : Mem} {T : Tx} {S : Sx} (h : RI M T S) (f : SC M N) (e : gI N 72 = gI M 72) : RI N T S := h.keep (fun q hq => by
  by_cases g : q = 72
  · rw [g]; exact e
  · exact f.1 q (by omega) g (by omega))
theorem MR.sc {M N : Mem} {A : Ax} (h : MR M A) (f : SC M N) {S : Sx} (hR : RI N (aT A) S) (hF : SF S) : MR N (A.1, aT A, S, aU A, aK A) := by
  obtain ⟨h1, h2, h3, h4, h5, h6⟩ := h
  refine ⟨hR, ?_, ?_, ?_, ?_, ⟨h6.1, ⟨hR.2.2.2.2.2.2, hF⟩, h6.2.2⟩⟩
  · rw [f.2.1 2 (by decide) (by decide), f.1 55 (by decide) (by decide) (by decide)]; exact h2
  · rw [f.2.1 33 (by decide) (by decide), f.1 73 (by decide) (by decide) (by decide)]; exact h3
  · rw [f.1 74 (by decide) (by decide) (by decide), f.1 75 (by decide) (by decide) (by decide)]; exact h4
  · rw [f.2.1 12 (by decide) (by decide)]; exact h5
theorem MR.sc0 {M N : Mem} {A : Ax} (h : MR M A) (f : SC M N) (e : gI N 72 = gI M 72) : MR N A := h.sc f (h.1.sc f e) h.2.2.2.2.2.2.1.2
def loM (M : Mem) (f : Nat → Int) (n : Nat) : Mem := sI (aI M 77 f) 54 38 (n : Int)
theorem lo_ne {M : Mem} {f : Nat → Int} {n q : Nat} (h : q ≠ 54 ∧ q ≠ 77) : gI (loM M f n) q = gI M q := by unfold loM; rw [gI_sI_ne h.1, gI_aI_ne h.2]
theorem lo_38 (M : Mem) (f : Nat → Int) (n : Nat) : gI (loM M f n) 54 38 = (n : Int) := by unfold loM; rw [gI_sI, if_pos rfl, if_pos rfl]
theorem lo_77 (M : Mem) (f : Nat → Int) (n : Nat) : gI (loM M f n) 77 = f := by funext i; unfold loM; rw [gI_sI_ne (by decide), gI_aI, if_pos rfl]
theorem lo_sc (M : Mem) (f : Nat → Int) (n : Nat) : SC M (loM M f n) := (sc_a f (by decide)).trans (sc_f _ (by decide))
theorem lo_up (M : Mem) (f : Nat → Int) (n : Nat) (v m : Int) : sI (sI (loM M f n) 77 n v) 54 38 ((n : Int) + 1) = loM M (fun i => if i = n then v else f i) (n + 1) := by
  refine Mem_ext (fun a b => ?_) (fun _ _ => rfl) (fun _ _ => rfl)
  unfold loM
  by_cases e : a = 54
  · subst e
    rw [gI_sI, if_pos rfl, gI_sI_ne (by decide), gI_sI, if_pos rfl, gI_sI, if_pos rfl, gI_aI_ne (by decide), gI_aI_ne (by decide)]
    by_cases e2 : b = 38
    · rw [if_pos e2, if_pos e2]; omega
    · rw [if_neg e2, if_neg e2, if_neg e2]
  · rw [gI_sI_ne e, gI_sI_ne e]
    by_cases e2 : a = 77
    · subst e2
      rw [gI_sI, if_pos rfl, gI_aI, if_pos rfl, gI_sI_ne (by decide), gI_aI, if_pos rfl]
    · rw [gI_sI_ne e2, gI_sI_ne e, gI_aI_ne e2, gI_aI_ne e2]
theorem lo_0 (M : Mem) : sI M 54 38 0 = loM M (gI M 77) 0 := by unfold loM; rw [aI_self]; rfl
theorem rep_app {f : Nat → Int} {l : List Nat} {x : Nat} (h : rep f l) : rep (fun i => if i = l.length then (x : Int) else f i) (l ++ [x]) := by
  intro i y hy
  by_cases e : i < l.length
  · rw [List.getElem?_append_left e] at hy
    show (if i = l.length then (x : Int) else f i) = y
    rw [if_neg (by omega)]
    exact h i y hy
  · rw [List.getElem?_append_right (by omega)] at hy
    have h1 := (List.getElem?_eq_some_iff.mp hy).1
    have h2 : i = l.length := by simp at h1; omega
    subst h2
    rw [Nat.sub_self] at hy
    cases hy
    show (if l.length = l.length then (x : Int) else f l.length) = x
    rw [if_pos rfl]
def lp (T : Tx) (S : Sx) (e : Nat) : List Nat := (List.range e).flatMap (blk T S (nK T))
theorem lp_s (T : Tx) (S : Sx) (e : Nat) : lp T S (e + 1) = lp T S e ++ blk T S (nK T) e := by unfold lp; rw [List.range_succ, List.flatMap_append]; simp
theorem lp_mono (T : Tx) (S : Sx) (e : Nat) : ∀ r, (lp T S e).length ≤ (lp T S (e + r)).length := by
  intro r
  induction r with
  | zero => exact Nat.le_refl _
  | succ r ih => rw [← Nat.add_assoc, lp_s, List.length_append]; omega
theorem blk_mono (T : Tx) (S : Sx) (n e : Nat) : ∀ r, (blk T S n e).length ≤ (blk T S (n + r) e).length := by
  intro r
  induction r with
  | zero => exact Nat.le_refl _
  | succ r ih => rw [← Nat.add_assoc, blk_succ, List.length_append]; omega
section MOpen
variable {G : Gt} {d : Nat} {M N : Mem} {T : Tx} {S : Sx} {A : Ax}
theorem m_laysOpen (h : RI M T S) {dd : Int} (hd : 0 ≤ dd ∧ dd ≤ 60) : V G d mX12_laysOpen 0 [some (.ref 54), some (.int (J dd)), none, none] [] M (fun r N => ∃ f, r = none ∧ N = loM M f (opN T S dd (nK T)).length ∧ rep f (opN T S dd (nK T))) := by
  have hn := h.n
  have hI := h
  obtain ⟨-, -, h3, h4, h5, hT, hS⟩ := h
  have hol := op_len hT S hd.1
  have eo : opN T S dd (nK T) = lp T S (dd.toNat + 1) := rfl
  generalize hQ : (fun (r : Option Value) (N : Mem) => ∃ f, r = none ∧ N = loM M f (opN T S dd (nK T)).length ∧ rep f (opN T S dd (nK T))) = Q
  refine v_aload_n (pc := 0) 0 rfl rfl ?_
  refine v_iconst (pc := 1) 1 rfl ?_
  refine v_putI (pc := 2) 2 rfl fl_X12_304 rfl ?_
  refine v_iconst (pc := 5) 3 rfl ?_
  refine v_istore_n (pc := 6) 4 rfl ⟨Nat.le_of_ble_eq_true rfl, rfl⟩ ?_
  rw [lo_0]
  refine loopN (N := dd.toNat + 1) (fun e => ∀ f u, rep f (lp T S e) → V G d mX12_laysOpen 7 [some (.ref 54), some (.int (J dd)), some (.int (J (e : Int))), u] [] (loM M f (lp T S e).length) Q) ?_ ?_ (gI M 77) none (fun i x hx => by simp [lp] at hx)
  · intro f u hf
    refine v_iload_n (pc := 7) 5 rfl rfl ?_
    refine v_iload_n (pc := 8) 6 rfl rfl ?_
    refine v_ic_gtT (pc := 9) 7 78 rfl (by decide) (by omega) (by omega) ?_
    refine v_ret (pc := 78) 44 rfl rfl (by rw [← hQ]; exact ⟨f, rfl, rfl, hf⟩)
  · intro e he ih f u hf
    refine v_iload_n (pc := 7) 5 rfl rfl ?_
    refine v_iload_n (pc := 8) 6 rfl rfl ?_
    refine v_ic_gtF (pc := 9) 7 78 rfl (by decide) (by omega) (by omega) ?_
    refine v_iconst (pc := 12) 8 rfl ?_
    refine v_istore_n (pc := 13) 9 rfl ⟨Nat.le_of_ble_eq_true rfl, rfl⟩ ?_
    have loop := loopN (N := nK T) (fun n => ∀ f, rep f (lp T S e ++ blk T S n e) → V G d mX12_laysOpen 14 [some (.ref 54), some (.int (J dd)), some (.int (J (e : Int))), some (.int (J (n : Int)))] [] (loM M f (lp T S e ++ blk T S n e).length) Q) ?_ ?_ f (by
      have : blk T S 0 e = [] := rfl
      rw [this, List.append_nil]
      exact hf)
    · have b0 : blk T S 0 e = [] := rfl
      rw [b0, List.append_nil] at loop
      exact loop
    · intro f hf
      have e58 : gI (loM M f (lp T S e ++ blk T S (nK T) e).length) 58 0 = (nK T : Int) := by rw [lo_ne (by decide)]; exact hn.2.2.1
      have := ih f (some (.int (J (nK T : Int)))) (by rw [lp_s]; exact hf)
      rw [lp_s] at this
      refine v_iload_n (pc := 14) 10 rfl rfl ?_
      refine v_aload_n (pc := 15) 11 rfl rfl ?_
      refine v_getC (pc := 16) 12 rfl fl_X12_20 rfl 58 rfl ?_
      refine v_iconst (pc := 19) 13 rfl ?_
      refine v_ialdN (kk := 0) (pc := 20) 14 rfl rfl (by decide) ?_
      refine v_ic_geT (pc := 21) 15 72 rfl (by decide) (by omega) (by omega) ?_
      refine v_iinc (pc := 72) 42 rfl rfl ⟨Nat.le_of_ble_eq_true rfl, rfl⟩ ?_
      refine v_goto (pc := 75) 43 7 rfl (by decide) ?_
      exact this
    · intro n hn' ih2 f hf
      have e58 : gI (loM M f (lp T S e ++ blk T S n e).length) 58 0 = (nK T : Int) := by rw [lo_ne (by decide)]; exact hn.2.2.1
      have e72 : gI (loM M f (lp T S e ++ blk T S n e).length) 72 n = S.1 n := by rw [lo_ne (by decide)]; exact (h5 n (by omega)).1
      have e69 : gI (loM M f (lp T S e ++ blk T S n e).length) 69 n = fi T n := by rw [lo_ne (by decide)]; exact (h4 n hn').2.2.1
      have hb := hS.b hT (k := n) (by omega)
      have hfi := (hT.2.2.2.2.1 n hn').2.2.1
      have hs := blk_succ T S n e
      have b1 := lp_mono T S (e + 1) (dd.toNat - e)
      rw [show e + 1 + (dd.toNat - e) = dd.toNat + 1 by omega, lp_s, List.length_append, ← eo] at b1
      have b2 := blk_mono T S (n + 1) e (nK T - (n + 1))
      rw [show n + 1 + (nK T - (n + 1)) = nK T by omega] at b2
      have no : ¬ (S.1 n = -1 ∧ fi T n = (e : Int)) → V G d mX12_laysOpen 66 [some (.ref 54), some (.int (J dd)), some (.int (J (e : Int))), some (.int (J (n : Int)))] [] (loM M f (lp T S e ++ blk T S n e).length) Q := by
        intro hne
        rw [if_neg hne, List.append_nil] at hs
        have := ih2 f (by rw [hs]; exact hf)
        rw [hs] at this
        refine v_iinc (pc := 66) 40 rfl rfl ⟨Nat.le_of_ble_eq_true rfl, rfl⟩ ?_
        refine v_goto (pc := 69) 41 14 rfl (by decide) ?_
        exact this
      refine v_iload_n (pc := 14) 10 rfl rfl ?_
      refine v_aload_n (pc := 15) 11 rfl rfl ?_
      refine v_getC (pc := 16) 12 rfl fl_X12_20 rfl 58 rfl ?_
      refine v_iconst (pc := 19) 13 rfl ?_
      refine v_ialdN (kk := 0) (pc := 20) 14 rfl rfl (by decide) ?_
      refine v_ic_geF (pc := 21) 15 72 rfl (by decide) (by omega) (by omega) ?_
      refine v_aload_n (pc := 24) 16 rfl rfl ?_
      refine v_getC (pc := 25) 17 rfl fl_X12_63 rfl 72 rfl ?_
      refine v_iload_n (pc := 28) 18 rfl rfl ?_
      refine v_ialdN (pc := 29) 19 rfl rfl (by omega) ?_
      refine v_if_ge (pc := 30) 20 66 rfl (by decide) (by omega) (fun e1 => ?_) (fun e1 => ?_)
      · exact no (by omega)
      · refine v_aload_n (pc := 33) 21 rfl rfl ?_
        refine v_getC (pc := 34) 22 rfl fl_X12_54 rfl 69 rfl ?_
        refine v_iload_n (pc := 37) 23 rfl rfl ?_
        refine v_ialdN (pc := 38) 24 rfl rfl (by omega) ?_
        refine v_iload_n (pc := 39) 25 rfl rfl ?_
        refine v_ic_eq (pc := 40) 26 46 rfl (by decide) (by omega) (fun e2 => ?_) (fun e2 => ?_)
        · rw [if_pos ⟨by omega, by omega⟩] at hs
          have hl : (lp T S e ++ blk T S (n + 1) e).length = (lp T S e ++ blk T S n e).length + 1 := by
            rw [hs, List.length_append, List.length_append, List.length_append]; rfl
          have := ih2 _ (by rw [hs, ← List.append_assoc]; exact rep_app hf)
          rw [hl] at this
          rw [List.length_append] at hl
          generalize hL : (lp T S e ++ blk T S n e).length = L at this hl ⊢
          have e38 := lo_38 M f L
          have e38' : gI (sI (loM M f L) 77 L (n : Int)) 54 38 = (L : Int) := by rw [gI_sI_ne (by decide)]; exact e38
          refine v_aload_n (pc := 46) 28 rfl rfl ?_
          refine v_getC (pc := 47) 29 rfl fl_X12_79 rfl 77 rfl ?_
          refine v_aload_n (pc := 50) 30 rfl rfl ?_
          refine v_getI (pc := 51) 31 rfl fl_X12_304 rfl ?_
          refine v_iload_n (pc := 54) 32 rfl rfl ?_
          refine v_iastE (pc := 55) 33 rfl rfl L (by omega) ?_
          refine v_aload_n (pc := 56) 34 rfl rfl ?_
          refine v_dup (pc := 57) 35 rfl rfl ?_
          refine v_getI (pc := 58) 36 rfl fl_X12_304 rfl ?_
          rw [e38']
          refine v_iconst (pc := 61) 37 rfl ?_
          refine v_iadd (pc := 62) 38 rfl ?_
          refine v_putI (pc := 63) 39 rfl fl_X12_304 rfl ?_
          refine v_iinc (pc := 66) 40 rfl rfl ⟨Nat.le_of_ble_eq_true rfl, rfl⟩ ?_
          refine v_goto (pc := 69) 41 14 rfl (by decide) ?_
          rw [lo_up _ _ _ _ 0]
          exact this
        · refine v_goto (pc := 43) 27 66 rfl (by decide) ?_
          exact no (by omega)
theorem m_open (h : MR M A) {t k : Int} (ht : -2147483648 ≤ t ∧ t ≤ 2147483647) (hk : -2147483648 ≤ k ∧ k ≤ 2147483647) : V G (d + 2) mX12_open 0 [some (.ref 54), some (.int (J t)), some (.int (J k))] [] M (fun r N => r = some (.int (J (sOpen A t k))) ∧ MR N A ∧ MF M N) := by
  have hI := h.t
  have hn := hI.n
  have h0 := h.fld (f := 0) 0 (by decide)
  unfold sOpen
  refine v_aload_n (pc := 0) 0 rfl rfl ?_
  refine v_iconst (pc := 1) 1 rfl ?_
  refine v_putI (pc := 2) 2 rfl fl_X12_97 rfl ?_
  refine v_iload_n (pc := 5) 3 rfl rfl ?_
  refine v_cS1i (pc := 6) 4 rfl cs_X12_290 (Nat.le_of_ble_eq_true rfl) (Nat.le_of_ble_eq_true rfl) (m_isDay ht) ?_
  refine v_if_ne (pc := 9) 5 15 rfl (by decide) (by omega) (fun e1 => ?_) (fun e1 => ?_)
  · rw [if_pos (by omega)]
    have hol := op_len hI.2.2.2.2.2.1 (aS A) (d := t) (by omega)
    refine v_aload_n (pc := 15) 8 rfl rfl ?_
    refine v_iload_n (pc := 16) 9 rfl rfl ?_
    refine v_cV1 (pc := 17) 10 rfl cv_X12_307 rfl (Nat.le_of_ble_eq_true rfl) (Nat.le_of_ble_eq_true rfl) (m_laysOpen hI (by omega)) (fun r9 N9 hq9 => ?_)
    obtain ⟨f, rfl, rfl, hf⟩ := hq9
    show V G (d + 2) mX12_open (17 + 3) _ [] _ _
    have hN := h0.sc0 (lo_sc (sI M 54 0 0) f (opN (aT A) (aS A) t (nK (aT A))).length) (lo_ne (by decide))
    have hF := (mf_fld M 0 0).trans (lo_sc (sI M 54 0 0) f (opN (aT A) (aS A) t (nK (aT A))).length).mf
    generalize hl : opN (aT A) (aS A) t (nK (aT A)) = l at hol hf hN hF ⊢
    have e38 := lo_38 (sI M 54 0 0) f l.length
    refine v_iload_n (pc := 20) 11 rfl rfl ?_
    refine v_iconst (pc := 21) 12 rfl ?_
    refine v_ic_ne (pc := 22) 13 32 rfl (by decide) (by omega) (fun e2 => ?_) (fun e2 => ?_)
    · rw [if_neg e2]
      refine v_iload_n (pc := 32) 17 rfl rfl ?_
      refine v_i2l (pc := 33) 18 rfl (by omega) ?_
      refine v_lconst (pc := 34) 19 rfl ?_
      refine v_aload_n (pc := 35) 20 rfl rfl ?_
      refine v_getI (pc := 36) 21 rfl fl_X12_304 rfl ?_
      refine v_iconst (pc := 39) 22 rfl ?_
      refine v_isub (pc := 40) 23 rfl ?_
      refine v_i2l (pc := 41) 24 rfl (by omega) ?_
      refine v_cS3i (pc := 42) 25 rfl cs_X12_135 (Nat.le_of_ble_eq_true rfl) (Nat.le_of_ble_eq_true rfl) (m_within (by omega) (by decide) (by omega)) ?_
      refine v_if_eq (pc := 45) 26 57 rfl (by decide) (by omega) (fun e3 => ?_) (fun e3 => ?_)
      · rw [if_neg (by omega)]
        refine v_bipush (pc := 57) 32 rfl (by decide) ?_
        refine v_iret (pc := 59) 33 rfl rfl ⟨rfl, hN, hF⟩
      · rw [if_pos (by omega)]
        obtain ⟨k1, rfl⟩ : ∃ k1 : Nat, k = (k1 : Int) := ⟨k.toNat, by omega⟩
        rw [Int.toNat_natCast]
        have hg := rep_get hf (i := k1) (by omega)
        refine v_aload_n (pc := 48) 27 rfl rfl ?_
        refine v_getC (pc := 49) 28 rfl fl_X12_79 rfl 77 rfl ?_
        refine v_iload_n (pc := 52) 29 rfl rfl ?_
        refine v_ialdN (pc := 53) 30 rfl rfl (by omega) ?_
        rw [lo_77, hg]
        refine v_goto (pc := 54) 31 59 rfl (by decide) ?_
        refine v_iret (pc := 59) 33 rfl rfl ⟨rfl, hN, hF⟩
    · rw [if_pos (Decidable.not_not.mp e2)]
      refine v_aload_n (pc := 25) 14 rfl rfl ?_
      refine v_getI (pc := 26) 15 rfl fl_X12_304 rfl ?_
      rw [e38]
      refine v_goto (pc := 29) 16 59 rfl (by decide) ?_
      refine v_iret (pc := 59) 33 rfl rfl ⟨rfl, hN, hF⟩
  · rw [if_neg (by omega)]
    refine v_bipush (pc := 12) 6 rfl (by decide) ?_
    refine v_iret (pc := 14) 7 rfl rfl ⟨rfl, h0, mf_fld _ _ _⟩
end MOpen
