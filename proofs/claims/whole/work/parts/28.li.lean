/-! 28: lines keep the form of what is told -/
theorem upT_at (D : Nat → Nat → Int) (j i : Nat) (v : Int) (a x : Nat) : upT D j i v a x = if a = j then (if x = i then v else D a x) else D a x := by
  unfold upT
  by_cases e : a = j
  · rw [if_pos e, if_pos e]; rfl
  · rw [if_neg e, if_neg e]
theorem upT_ne {D : Nat → Nat → Int} {j i : Nat} {v : Int} {a : Nat} (h : a ≠ j) : upT D j i v a = D a := if_neg h
theorem upT_eq (D : Nat → Nat → Int) (j i : Nat) (v : Int) (x : Nat) : upT D j i v j x = if x = i then v else D j x := by rw [upT_at, if_pos rfl]
section LIs
variable {b : Nat → Int} {n p : Nat} {L : List Nm} {T : Tx}
theorem LI.nm (h : LI L T) : NmOk L := fun i hi => by
  have h1 := h.2.1 i hi
  have h2 := h.1
  exact ⟨fun q => by have := h1.1 q; omega, fun q => by have := h1.2.1 q; omega⟩
theorem rSorts_b : ∀ (f : Nat) (u : Int) (p : Nat) (q : Int × Nat), (0 ≤ u ∧ u < 16) → rSorts b n f u p = .inr q → 0 ≤ q.1 ∧ q.1 < 16 := by
  intro f
  induction f with
  | zero => intro u p q hu h; cases h
  | succ f ih =>
    intro u p q hu h
    have e : rSorts b n (f + 1) u p = pbd (rSort b n u p) (fun q => if kd b n q.2 = 1 then rSorts b n f (setb u q.1.toNat) q.2 else .inr (setb u q.1.toNat, q.2)) := rfl
    rw [e] at h
    cases hR : rSort b n u p with
    | inl e => rw [hR] at h; cases h
    | inr s =>
      rw [hR] at h
      have hs := sort_b hR
      have h16 := setb16 hu (s := s.1.toNat) (by omega)
      have h : (if kd b n s.2 = 1 then rSorts b n f (setb u s.1.toNat) s.2 else .inr (setb u s.1.toNat, s.2)) = .inr q := h
      split at h
      · exact ih _ _ _ h16.2 h
      · cases h; exact h16.2
theorem rBars_b (hN : NmOk L) : ∀ (f : Nat) (u : Int) (p : Nat) (q : Int × Nat), (0 ≤ u ∧ u < 64) → rBars b n L f u p = .inr q → 0 ≤ q.1 ∧ q.1 < 64 := by
  intro f
  induction f with
  | zero => intro u p q hu h; cases h
  | succ f ih =>
    intro u p q hu h
    have e : rBars b n L (f + 1) u p = if isW b n p 1650553459 = true then pbd (rTold b n L 1 u (nx b n p)) (fun q => rBars b n L f (setb u q.1.toNat) q.2) else .inr (u, p) := rfl
    rw [e] at h
    split at h
    · cases hR : rTold b n L 1 u (nx b n p) with
      | inl e => rw [hR] at h; cases h
      | inr s =>
        rw [hR] at h
        have hs := (told_b (by decide) hN hR).1
        exact ih _ _ _ (setb_b hu (b := s.1.toNat) (by omega)) h
    · cases h; exact hu
theorem rNew_e {κ j : Nat} {q : List Nm × Nat} (h : rNew b n L κ j p = .inr q) : q.1 = L ++ [(wv b n p, κ, j)] := by
  unfold rNew at h
  split at h
  · cases h
  · split at h
    · cases h
    · cases h; rfl
theorem li_town (h : LI L T) (hc : nT T < 5) (w : Int) : LI (L ++ [(w, 0, nT T)]) (tTown T) := by
  obtain ⟨h1, h2, h3, h4, h5⟩ := h
  refine ⟨⟨by show nT T + 1 ≤ 5; omega, h1.2.1, h1.2.2.1, by rw [List.length_append]; show L.length + 1 = nT T + 1 + nJ T + nK T; omega⟩, fun i hi => ?_, fun j hj => ?_, fun k hk => ?_, fun a b ha hb => ?_⟩
  · rw [List.length_append] at hi
    have hi : i < L.length + 1 := hi
    rw [getD_app]
    by_cases e : i = L.length
    · rw [if_pos e]
      exact ⟨fun _ => by show nT T < nT T + 1; omega, fun z => (by cases z), fun z => (by cases z)⟩
    · rw [if_neg e]
      have := h2 i (by omega)
      exact ⟨fun z => by have := this.1 z; show _ < nT T + 1; omega, this.2⟩
  · have := h3 j hj
    refine ⟨⟨this.1.1, ?_⟩, this.2⟩
    show hm T j < ((nT T + 1 : Nat) : Int); omega
  · have := h4 k hk
    refine ⟨⟨this.1.1, ?_⟩, this.2⟩
    show tw T k < ((nT T + 1 : Nat) : Int); omega
  · have := h5 a b ha hb
    refine ⟨this.1, this.2.1, fun z => this.2.2 ?_⟩
    have z : nT T + 1 ≤ a ∨ nT T + 1 ≤ b := z
    omega
theorem li_road (h : LI L T) {a b : Nat} {x : Int} (ha : a < nT T) (hb : b < nT T) (hab : a ≠ b) (hx : 0 ≤ x ∧ x ≤ 9) : LI L (tRoad T a b x) := by
  obtain ⟨h1, h2, h3, h4, h5⟩ := h
  refine ⟨h1, h2, h3, h4, fun y z hy hz => ?_⟩
  have := h5 y z hy hz
  have e : (tRoad T a b x).2 1 (y * 5 + z) = if y * 5 + z = b * 5 + a then x else if y * 5 + z = a * 5 + b then x else T.2 1 (y * 5 + z) := by
    show upT (upT T.2 1 (a * 5 + b) x) 1 (b * 5 + a) x 1 (y * 5 + z) = _
    rw [upT_eq, upT_eq]
  rw [e]
  have hT5 := h1.1
  by_cases q1 : y * 5 + z = b * 5 + a
  · rw [if_pos q1]
    refine ⟨by omega, fun z9 => by omega, fun z9 => by have z9 : nT T ≤ y ∨ nT T ≤ z := z9; omega⟩
  · rw [if_neg q1]
    by_cases q2 : y * 5 + z = a * 5 + b
    · rw [if_pos q2]
      refine ⟨by omega, fun z9 => by omega, fun z9 => by have z9 : nT T ≤ y ∨ nT T ≤ z := z9; omega⟩
    · rw [if_neg q2]; exact this
theorem li_judge (h : LI L T) (hc : nJ T < 6) (w : Int) {r s t : Int} (hr : 0 ≤ r ∧ r < nT T) (hs : 60 ≤ s ∧ s ≤ 600) (ht : 0 ≤ t ∧ t < 16) : LI (L ++ [(w, 1, nJ T)]) (tJudge T r s t) := by
  obtain ⟨h1, h2, h3, h4, h5⟩ := h
  refine ⟨⟨h1.1, by show nJ T + 1 ≤ 6; omega, h1.2.2.1, by rw [List.length_append]; show L.length + 1 = nT T + (nJ T + 1) + nK T; omega⟩, fun i hi => ?_, fun j hj => ?_, h4, h5⟩
  · rw [List.length_append] at hi
    have hi : i < L.length + 1 := hi
    rw [getD_app]
    by_cases e : i = L.length
    · rw [if_pos e]
      exact ⟨fun z => (by cases z), fun _ => by show nJ T < nJ T + 1; omega, fun z => (by cases z)⟩
    · rw [if_neg e]
      have := h2 i (by omega)
      exact ⟨this.1, fun z => by have := this.2.1 z; show _ < nJ T + 1; omega, this.2.2⟩
  · have hj : j < nJ T + 1 := hj
    have e2 : hm (tJudge T r s t) j = if j = nJ T then r else hm T j := by
      show upT (upT (upT (upT T.2 2 (nJ T) r) 3 (nJ T) s) 4 (nJ T) t) 5 (nJ T) 0 2 j = _
      rw [upT_ne (by decide), upT_ne (by decide), upT_ne (by decide), upT_eq]
    have e3 : da (tJudge T r s t) j = if j = nJ T then s else da T j := by
      show upT (upT (upT (upT T.2 2 (nJ T) r) 3 (nJ T) s) 4 (nJ T) t) 5 (nJ T) 0 3 j = _
      rw [upT_ne (by decide), upT_ne (by decide), upT_eq, upT_ne (by decide)]
    have e4 : ss (tJudge T r s t) j = if j = nJ T then t else ss T j := by
      show upT (upT (upT (upT T.2 2 (nJ T) r) 3 (nJ T) s) 4 (nJ T) t) 5 (nJ T) 0 4 j = _
      rw [upT_ne (by decide), upT_eq, upT_ne (by decide), upT_ne (by decide)]
    have e5 : qu (tJudge T r s t) j = if j = nJ T then 0 else qu T j := by
      show upT (upT (upT (upT T.2 2 (nJ T) r) 3 (nJ T) s) 4 (nJ T) t) 5 (nJ T) 0 5 j = _
      rw [upT_eq, upT_ne (by decide), upT_ne (by decide), upT_ne (by decide)]
    rw [e2, e3, e4, e5]
    by_cases e : j = nJ T
    · rw [if_pos e, if_pos e, if_pos e, if_pos e]
      exact ⟨hr, hs, ht, by omega⟩
    · rw [if_neg e, if_neg e, if_neg e, if_neg e]
      exact h3 j (by omega)
theorem li_quar (h : LI L T) {a b : Nat} (ha : a < nJ T) (hb : b < nJ T) : LI L (tQuar T a b) := by
  obtain ⟨h1, h2, h3, h4, h5⟩ := h
  refine ⟨h1, h2, fun j hj => ?_, h4, h5⟩
  have h9 := h3 j hj
  refine ⟨h9.1, h9.2.1, h9.2.2.1, ?_⟩
  have e5 : qu (tQuar T a b) j = if j = b then setb (T.2 5 b) a else if j = a then setb (T.2 5 a) b else qu T j := by
    show upT (upT T.2 5 a (setb (T.2 5 a) b)) 5 b (setb (T.2 5 b) a) 5 j = _
    rw [upT_eq, upT_eq]
  rw [e5]
  have q1 := (h3 a ha).2.2.2
  have q2 := (h3 b hb).2.2.2
  have hJ := h1.2.1
  split
  · exact setb_b q2 (by omega)
  · split
    · exact setb_b q1 (by omega)
    · exact h9.2.2.2
theorem li_case (h : LI L T) (hc : nK T < 12) (w : Int) {r s f l u : Int} (hr : 0 ≤ r ∧ r < nT T) (hs : 0 ≤ s ∧ s < 4) (hf : 0 ≤ f ∧ f ≤ 60) (hl : 10 ≤ l ∧ l ≤ 300) (hu : 0 ≤ u ∧ u < 64) : LI (L ++ [(w, 2, nK T)]) (tCase T r s f l u) := by
  obtain ⟨h1, h2, h3, h4, h5⟩ := h
  refine ⟨⟨h1.1, h1.2.1, by show nK T + 1 ≤ 12; omega, by rw [List.length_append]; show L.length + 1 = nT T + nJ T + (nK T + 1); omega⟩, fun i hi => ?_, h3, fun j hj => ?_, h5⟩
  · rw [List.length_append] at hi
    have hi : i < L.length + 1 := hi
    rw [getD_app]
    by_cases e : i = L.length
    · rw [if_pos e]
      exact ⟨fun z => (by cases z), fun z => (by cases z), fun _ => by show nK T < nK T + 1; omega⟩
    · rw [if_neg e]
      have := h2 i (by omega)
      exact ⟨this.1, this.2.1, fun z => by have := this.2.2 z; show _ < nK T + 1; omega⟩
  · have hj : j < nK T + 1 := hj
    have eD : (tCase T r s f l u).2 = upT (upT (upT (upT (upT T.2 6 (nK T) r) 7 (nK T) s) 8 (nK T) f) 9 (nK T) l) 10 (nK T) u := rfl
    have e6 : tw (tCase T r s f l u) j = if j = nK T then r else tw T j := by
      show (tCase T r s f l u).2 6 j = _
      rw [eD, upT_ne (by decide), upT_ne (by decide), upT_ne (by decide), upT_ne (by decide), upT_eq]
    have e7 : so (tCase T r s f l u) j = if j = nK T then s else so T j := by
      show (tCase T r s f l u).2 7 j = _
      rw [eD, upT_ne (by decide), upT_ne (by decide), upT_ne (by decide), upT_eq, upT_ne (by decide)]
    have e8 : fi (tCase T r s f l u) j = if j = nK T then f else fi T j := by
      show (tCase T r s f l u).2 8 j = _
      rw [eD, upT_ne (by decide), upT_ne (by decide), upT_eq, upT_ne (by decide), upT_ne (by decide)]
    have e9 : le (tCase T r s f l u) j = if j = nK T then l else le T j := by
      show (tCase T r s f l u).2 9 j = _
      rw [eD, upT_ne (by decide), upT_eq, upT_ne (by decide), upT_ne (by decide), upT_ne (by decide)]
    have e10 : ba (tCase T r s f l u) j = if j = nK T then u else ba T j := by
      show (tCase T r s f l u).2 10 j = _
      rw [eD, upT_eq, upT_ne (by decide), upT_ne (by decide), upT_ne (by decide), upT_ne (by decide)]
    rw [e6, e7, e8, e9, e10]
    by_cases e : j = nK T
    · rw [if_pos e, if_pos e, if_pos e, if_pos e, if_pos e]
      exact ⟨hr, hs, hf, hl, hu⟩
    · rw [if_neg e, if_neg e, if_neg e, if_neg e, if_neg e]
      exact h4 j (by omega)
theorem pbd_inr {α β : Type} {x : Int ⊕ α} {g : α → Int ⊕ β} {y : β} (h : pbd x g = .inr y) : ∃ a, x = .inr a ∧ g a = .inr y := by
  cases x with
  | inl f => cases h
  | inr a => exact ⟨a, rfl, h⟩
theorem nm_app (hN : NmOk L) (w : Int) (κ j : Nat) (hj : (κ = 0 → j < 5) ∧ (κ = 1 → j < 6)) : NmOk (L ++ [(w, κ, j)]) := by
  intro i hi
  rw [List.length_append] at hi
  have hi : i < L.length + 1 := hi
  rw [getD_app]
  by_cases e : i = L.length
  · rw [if_pos e]; exact hj
  · rw [if_neg e]; exact hN i (by omega)
/-- a town that is named among the names told and one more, of another kind -/
theorem told_new (h : LI L T) {w : Int} {κ j : Nat} (hκ : κ ≠ 0) (hj : κ = 1 → j < 6) {u : Int} {q : Int × Nat} (hR : rTold b n (L ++ [(w, κ, j)]) 0 u p = .inr q) : 0 ≤ q.1 ∧ q.1 < nT T := by
  obtain ⟨t1, -, i, i2, i3, i4⟩ := told_b (by decide) (nm_app h.nm w κ j ⟨fun z => absurd z hκ, hj⟩) hR
  rw [getD_app] at i3 i4
  rw [List.length_append] at i2
  have i2 : i < L.length + 1 := i2
  by_cases e : i = L.length
  · rw [if_pos e] at i3; exact absurd i3 hκ
  · rw [if_neg e] at i3 i4
    have := (h.2.1 i (by omega)).1 i3
    omega
/-- what a line tells, told to what is told, has that form -/
theorem lnS_li (h : LI L T) {q : List Nm × Tx × Nat} (hq : lnS b n L T p = .inr q) : LI q.1 q.2.1 := by
  unfold lnS at hq
  split at hq
  · split at hq
    · next hc =>
      obtain ⟨a, ha, hq⟩ := pbd_inr hq
      obtain ⟨p2, _, hq⟩ := pbd_inr hq
      cases hq
      rw [rNew_e ha]
      exact li_town h hc _
    · cases hq
  · split at hq
    · obtain ⟨x, hx, hq⟩ := pbd_inr hq
      obtain ⟨y, hy, hq⟩ := pbd_inr hq
      obtain ⟨z, hz, hq⟩ := pbd_inr hq
      obtain ⟨p2, _, hq⟩ := pbd_inr hq
      cases hq
      obtain ⟨t1, -, i1, i2, i3, i4⟩ := told_b (by decide) h.nm hx
      obtain ⟨t2, hbt, j1, j2, j3, j4⟩ := told_b (by decide) h.nm hy
      have i5 := (h.2.1 i1 i2).1 i3
      have j5 := (h.2.1 j1 j2).1 j3
      refine li_road h (by omega) (by omega) (fun e => ?_) (num_b hz)
      exact bt_pow6 ⟨x.1.toNat, by omega⟩ ⟨y.1.toNat, by omega⟩ (by rw [show ((y.1.toNat : Nat) : Int) = y.1 by omega]; exact hbt) (Fin.ext e)
    · split at hq
      · split at hq
        · next hc =>
          obtain ⟨a, ha, hq⟩ := pbd_inr hq
          obtain ⟨x, hx, hq⟩ := pbd_inr hq
          obtain ⟨y, hy, hq⟩ := pbd_inr hq
          obtain ⟨z, hz, hq⟩ := pbd_inr hq
          obtain ⟨p2, _, hq⟩ := pbd_inr hq
          cases hq
          rw [rNew_e ha] at hx ⊢
          exact li_judge h hc _ (told_new h (by decide) (fun _ => hc) hx) (num_b hy) (rSorts_b _ _ _ _ (by decide) hz)
        · cases hq
      · split at hq
        · obtain ⟨x, hx, hq⟩ := pbd_inr hq
          obtain ⟨y, hy, hq⟩ := pbd_inr hq
          obtain ⟨p2, _, hq⟩ := pbd_inr hq
          cases hq
          obtain ⟨t1, -, i1, i2, i3, i4⟩ := told_b (by decide) h.nm hx
          obtain ⟨t2, hbt, j1, j2, j3, j4⟩ := told_b (by decide) h.nm hy
          have i5 := (h.2.1 i1 i2).2.1 i3
          have j5 := (h.2.1 j1 j2).2.1 j3
          exact li_quar h (by omega) (by omega)
        · split at hq
          · split at hq
            · next hc =>
              obtain ⟨a, ha, hq⟩ := pbd_inr hq
              obtain ⟨x, hx, hq⟩ := pbd_inr hq
              obtain ⟨y, hy, hq⟩ := pbd_inr hq
              obtain ⟨f, hf, hq⟩ := pbd_inr hq
              obtain ⟨l, hl, hq⟩ := pbd_inr hq
              obtain ⟨u, hu, hq⟩ := pbd_inr hq
              obtain ⟨p2, _, hq⟩ := pbd_inr hq
              cases hq
              rw [rNew_e ha] at hx hu ⊢
              exact li_case h hc _ (told_new h (by decide) (fun z => (by cases z)) hx) (sort_b hy) (num_b hf) (num_b hl) (rBars_b (nm_app h.nm _ _ _ ⟨fun z => (by cases z), fun z => (by cases z)⟩) _ _ _ _ (by decide) hu)
            · cases hq
          · cases hq
end LIs
