/-! 53: the whole search finds what the pruned one finds -/
theorem first9 {p : Nat → Bool} : ∀ {n : Nat}, exB p n = true → ∃ i, i < n ∧ exB p i = false ∧ p i = true := by
  intro n
  induction n with
  | zero => intro h; cases h
  | succ n ih =>
    intro h
    cases q : exB p n with
    | true => obtain ⟨i, h1, h2⟩ := ih q; exact ⟨i, by omega, h2⟩
    | false =>
      rw [show exB p (n + 1) = (exB p n || p n) from rfl, q, Bool.false_or] at h
      exact ⟨n, by omega, q, h⟩
theorem ltA_iff {f g : Nat → Int} {n : Nat} : ltA f g n = true ↔ ∃ i, i < n ∧ (∀ o, o < i → f o = g o) ∧ f i < g i := by
  constructor
  · intro h
    cases q : exB (fun i => decide (f i ≠ g i)) n with
    | false => rw [ltA_none q] at h; cases h
    | true =>
      obtain ⟨i, h1, h2, h3⟩ := first9 q
      have h3 := of_decide_eq_true h3
      rw [ltA_at h1 h2 h3] at h
      exact ⟨i, h1, fun o ho => by have := of_decide_eq_false (exB_not h2 ho); omega, of_decide_eq_true h⟩
  · rintro ⟨i, h1, h2, h3⟩
    rw [ltA_at h1 (exB_false (fun o ho => decide_eq_false (fun z => z (h2 o ho)))) (by omega)]
    exact decide_eq_true h3
theorem ltA_mono {f f2 g : Nat → Int} {n : Nat} (h : ∀ i, i < n → f i ≤ f2 i) (h2 : ltA f2 g n = true) : ltA f g n = true := by
  obtain ⟨i, a1, a2, a3⟩ := ltA_iff.mp h2
  have hx : exB (fun o => decide (f o ≠ g o)) (i + 1) = true := exB_true (k := i) (by omega) (decide_eq_true (by have := h i a1; omega))
  obtain ⟨o, b1, b2, b3⟩ := first9 hx
  have b3 := of_decide_eq_true b3
  refine ltA_iff.mpr ⟨o, by omega, fun q hq => by have := of_decide_eq_false (exB_not b2 hq); omega, ?_⟩
  have c1 := h o (by omega)
  by_cases e : o = i
  · subst e; omega
  · have := a2 o (by omega); omega
theorem insD_head : ∀ {l : List Int} {x : Int}, (x :: l).Pairwise (fun a b => b ≤ a) → insD x l = x :: l := by
  intro l
  induction l with
  | nil => intro x _; rfl
  | cons y l ih =>
    intro x h
    have h' := List.pairwise_cons.mp h
    unfold insD
    by_cases e : y < x
    · rw [if_pos e]
    · have e2 : y = x := by have := h'.1 y List.mem_cons_self; omega
      subst e2
      rw [if_neg e, ih h'.2]
def Pw : List Int → List Int → Prop
  | [], [] => True
  | x :: l, y :: m => x ≤ y ∧ Pw l m
  | [], _ :: _ => False
  | _ :: _, [] => False
theorem Pw.ins : ∀ {l m : List Int}, Pw l m → ∀ {v w : Int}, l.Pairwise (fun a b => b ≤ a) → m.Pairwise (fun a b => b ≤ a) → v ≤ w → Pw (insD v l) (insD w m) := by
  intro l
  induction l with
  | nil =>
    intro m h v w _ _ hv
    cases m with
    | nil => exact ⟨hv, trivial⟩
    | cons y m => exact absurd h id
  | cons x l ih =>
    intro m h v w hl hm hv
    cases m with
    | nil => exact absurd h id
    | cons y m =>
      obtain ⟨hxy, hp⟩ : x ≤ y ∧ Pw l m := h
      have hl' := List.pairwise_cons.mp hl
      have hm' := List.pairwise_cons.mp hm
      have e1 : insD v (x :: l) = if x < v then v :: x :: l else x :: insD v l := rfl
      have e2 : insD w (y :: m) = if y < w then w :: y :: m else y :: insD w m := rfl
      rw [e1, e2]
      by_cases a : x < v
      · rw [if_pos a]
        by_cases b : y < w
        · rw [if_pos b]; exact ⟨hv, hxy, hp⟩
        · rw [if_neg b, ← insD_head hl]
          exact ⟨by omega, ih hp hl'.2 hm'.2 (by omega)⟩
      · rw [if_neg a]
        by_cases b : y < w
        · rw [if_pos b, ← insD_head hm]
          exact ⟨by omega, ih hp hl'.2 hm'.2 (by omega)⟩
        · rw [if_neg b]
          exact ⟨hxy, ih hp hl'.2 hm'.2 hv⟩
theorem Pw.sd {f g : Nat → Int} : ∀ n : Nat, (∀ j, j < n → f j ≤ g j) → Pw (sd f n) (sd g n) := by
  intro n
  induction n with
  | zero => intro _; exact trivial
  | succ n ih => intro h; exact (ih (fun j hj => h j (by omega))).ins (sd_desc _ _) (sd_desc _ _) (h n (by omega))
theorem Pw.get : ∀ {l m : List Int}, Pw l m → ∀ i, gd l i ≤ gd m i := by
  intro l
  induction l with
  | nil =>
    intro m h i
    cases m with
    | nil => exact Int.le_refl _
    | cons y m => exact absurd h id
  | cons x l ih =>
    intro m h i
    cases m with
    | nil => exact absurd h id
    | cons y m =>
      obtain ⟨hxy, hp⟩ : x ≤ y ∧ Pw l m := h
      cases i with
      | zero => exact hxy
      | succ i => exact ih hp i
theorem sumN_le {f g : Nat → Int} : ∀ n : Nat, (∀ k, k < n → f k ≤ g k) → sumN f n ≤ sumN g n := by
  intro n
  induction n with
  | zero => intro _; exact Int.le_refl _
  | succ n ih =>
    intro h
    have h1 := ih (fun k hk => h k (by omega))
    have h2 := h n (by omega)
    show sumN f n + f n ≤ sumN g n + g n
    omega
theorem sumN_put (f : Nat → Int) (a : Nat) (c : Int) : ∀ n : Nat, sumN (fun k => f k + if k = a then c else 0) n = sumN f n + if a < n then c else 0 := by
  intro n
  induction n with
  | zero => rw [if_neg (by omega)]; rfl
  | succ n ih =>
    show sumN (fun k => f k + if k = a then c else 0) n + (f n + if n = a then c else 0) = (sumN f n + f n) + _
    rw [ih]
    by_cases e : n = a
    · rw [if_pos e, if_neg (by omega), if_pos (by omega)]; omega
    · rw [if_neg e]
      by_cases e2 : a < n
      · rw [if_pos e2, if_pos (by omega)]; omega
      · rw [if_neg e2, if_neg (by omega)]; omega
/-- a sitting that may be set makes no load less -/
theorem ld_mono {T : Tx} (hT : TOk T) {S : Sx} {x j : Nat} {d : Int} (hx : x < nK T) (hj : j < nJ T) (hw : whyS T S x j d = 0) (j2 : Nat) : ld T S j2 (nK T) ≤ ld T (setS S x j d) j2 (nK T) := by
  have hx1 : S.1 x = -1 := by
    unfold whyS at hw
    by_cases q : S.1 x = -1
    · exact q
    · rw [if_pos q] at hw; omega
  have hfar : ∀ k, k < nK T → S.1 k = j → S.2 k = d → tw T k = tw T x := by
    intro k hk h1 h2
    have hb : exB (farB T S j (tw T x) d) (nK T) = false := by
      unfold whyS at hw
      rw [if_neg (fun z => z hx1)] at hw
      by_cases q3 : d < fi T x
      · rw [if_pos q3] at hw; omega
      · rw [if_neg q3] at hw
        by_cases q1 : bt (ss T j) (so T x) = 0
        · rw [if_pos q1] at hw; omega
        · rw [if_neg q1] at hw
          by_cases q2 : bt (ba T x) j ≠ 0
          · rw [if_pos q2] at hw; omega
          · rw [if_neg q2] at hw
            cases q5 : exB (farB T S j (tw T x) d) (nK T) with
            | false => rfl
            | true => rw [q5, if_pos rfl] at hw; omega
    have := of_decide_eq_false (exB_not hb hk)
    have hwy := hT.2.2.2.2.2 (tw T k) (tw T x) (hT.2.2.2.2.1 k hk).1.1 (hT.2.2.2.2.1 k hk).1.2 (hT.2.2.2.2.1 x hx).1.1 (hT.2.2.2.2.1 x hx).1.2
    apply Decidable.byContradiction
    intro hne
    exact this ⟨h1, hne, by omega, by omega⟩
  by_cases ej : (j : Int) = (j2 : Int)
  · have ej : j2 = j := by omega
    subst ej
    have s1 : ∀ k, (setS S x j2 d).1 k = if k = x then (j2 : Int) else S.1 k := fun k => rfl
    have s2 : ∀ k, (setS S x j2 d).2 k = if k = x then d else S.2 k := fun k => rfl
    have los : ∀ k, k ≠ x → S.1 k = j2 → fdB S k = true → fdB (setS S x j2 d) k = false → x < k ∧ S.2 k = d := by
      intro k hk h1 h2 h3
      unfold fdB at h2 h3
      have h2 : exB (fun o => decide (S.1 o = S.1 k ∧ S.2 o = S.2 k)) k = false := by
        cases q : exB (fun o => decide (S.1 o = S.1 k ∧ S.2 o = S.2 k)) k with
        | false => rfl
        | true => rw [q] at h2; cases h2
      have h3 : exB (fun o => decide ((setS S x j2 d).1 o = (setS S x j2 d).1 k ∧ (setS S x j2 d).2 o = (setS S x j2 d).2 k)) k = true := by
        cases q : exB (fun o => decide ((setS S x j2 d).1 o = (setS S x j2 d).1 k ∧ (setS S x j2 d).2 o = (setS S x j2 d).2 k)) k with
        | true => rfl
        | false => rw [q] at h3; cases h3
      obtain ⟨o, o1, -, o3⟩ := first9 h3
      have o3 := of_decide_eq_true o3
      rw [s1, s1, s2, s2, if_neg hk, if_neg hk] at o3
      by_cases eo : o = x
      · subst eo; rw [if_pos rfl, if_pos rfl] at o3; exact ⟨o1, o3.2.symm⟩
      · rw [if_neg eo, if_neg eo] at o3
        exact absurd o3 (of_decide_eq_false (exB_not h2 o1))
    have fd1 : ∀ k o, fdB S k = true → o < k → ¬ (S.1 o = S.1 k ∧ S.2 o = S.2 k) := by
      intro k o h2 ho
      unfold fdB at h2
      have h2 : exB (fun o => decide (S.1 o = S.1 k ∧ S.2 o = S.2 k)) k = false := by
        cases q : exB (fun o => decide (S.1 o = S.1 k ∧ S.2 o = S.2 k)) k with
        | false => rfl
        | true => rw [q] at h2; cases h2
      exact of_decide_eq_false (exB_not h2 ho)
    unfold ld
    have ge0 : ∀ k, k < nK T → k ≠ x → ¬ (S.1 k = j2 ∧ tw T k ≠ hm T j2 ∧ fdB S k = true ∧ fdB (setS S x j2 d) k = false) → (if S.1 k = j2 then le T k + (if tw T k ≠ hm T j2 ∧ fdB S k = true then 60 else 0) else 0) ≤ (if (setS S x j2 d).1 k = j2 then le T k + (if tw T k ≠ hm T j2 ∧ fdB (setS S x j2 d) k = true then 60 else 0) else 0) := by
      intro k hk hkx hn
      rw [s1, if_neg hkx]
      by_cases e1 : S.1 k = j2
      · rw [if_pos e1, if_pos e1]
        by_cases e2 : tw T k ≠ hm T j2 ∧ fdB S k = true
        · rw [if_pos e2]
          cases q : fdB (setS S x j2 d) k with
          | true => rw [if_pos ⟨e2.1, rfl⟩]; exact Int.le_refl _
          | false => exact absurd ⟨e1, e2.1, e2.2, q⟩ hn
        · rw [if_neg e2]; split <;> omega
      · rw [if_neg e1, if_neg e1]; exact Int.le_refl _
    have hfx : (if S.1 x = (j2 : Int) then le T x + (if tw T x ≠ hm T j2 ∧ fdB S x = true then 60 else 0) else 0) = 0 := if_neg (by omega)
    have hlx := (hT.2.2.2.2.1 x hx).2.2.2.1
    have hgx : (if (setS S x j2 d).1 x = (j2 : Int) then le T x + (if tw T x ≠ hm T j2 ∧ fdB (setS S x j2 d) x = true then 60 else 0) else 0) = le T x + (if tw T x ≠ hm T j2 ∧ fdB (setS S x j2 d) x = true then 60 else 0) := if_pos (by rw [s1, if_pos rfl])
    by_cases ex : ∃ k, k < nK T ∧ k ≠ x ∧ S.1 k = j2 ∧ tw T k ≠ hm T j2 ∧ fdB S k = true ∧ fdB (setS S x j2 d) k = false
    · obtain ⟨k0, k1, k2, k3, k4, k5, k6⟩ := ex
      obtain ⟨l1, l2⟩ := los k0 k2 k3 k5 k6
      have htw := hfar k0 k1 k3 l2
      have hxx : fdB (setS S x j2 d) x = true := by
        unfold fdB
        rw [exB_false (fun o ho => decide_eq_false (fun z => ?_))]
        · rfl
        · rw [s1, s1, s2, s2, if_pos rfl, if_pos rfl, if_neg (by omega), if_neg (by omega)] at z
          exact fd1 k0 o k5 (by omega) ⟨by omega, by omega⟩
      have h60 : (if tw T x ≠ hm T j2 ∧ fdB (setS S x j2 d) x = true then (60 : Int) else 0) = 60 := if_pos ⟨by rw [← htw]; exact k4, hxx⟩
      have p1 := sumN_put (fun k => if S.1 k = j2 then le T k + (if tw T k ≠ hm T j2 ∧ fdB S k = true then 60 else 0) else 0) x 60 (nK T)
      have p2 := sumN_put (fun k => (if S.1 k = j2 then le T k + (if tw T k ≠ hm T j2 ∧ fdB S k = true then 60 else 0) else 0) + if k = x then 60 else 0) k0 (-60) (nK T)
      rw [if_pos hx] at p1
      rw [if_pos k1, p1] at p2
      have p3 := sumN_le (f := fun k => ((if S.1 k = j2 then le T k + (if tw T k ≠ hm T j2 ∧ fdB S k = true then 60 else 0) else 0) + if k = x then 60 else 0) + if k = k0 then -60 else 0) (g := fun k => if (setS S x j2 d).1 k = j2 then le T k + (if tw T k ≠ hm T j2 ∧ fdB (setS S x j2 d) k = true then 60 else 0) else 0) (nK T) (fun k hk => by
        show ((if S.1 k = j2 then le T k + (if tw T k ≠ hm T j2 ∧ fdB S k = true then 60 else 0) else 0) + if k = x then 60 else 0) + (if k = k0 then -60 else 0) ≤ (if (setS S x j2 d).1 k = j2 then le T k + (if tw T k ≠ hm T j2 ∧ fdB (setS S x j2 d) k = true then 60 else 0) else 0)
        by_cases q1 : k = x
        · subst q1
          rw [hgx, h60, hfx, if_pos rfl, if_neg (by omega)]
          omega
        · rw [if_neg q1]
          by_cases q2 : k = k0
          · subst q2
            rw [if_pos rfl, s1, if_neg q1, if_pos k3, if_pos k3]
            split <;> split <;> omega
          · rw [if_neg q2]
            have := ge0 k hk q1 (fun z => by
              obtain ⟨m1, m2⟩ := los k q1 z.1 z.2.2.1 z.2.2.2
              by_cases lt : k < k0
              · exact fd1 k0 k k5 lt ⟨by omega, by omega⟩
              · exact fd1 k k0 z.2.2.1 (by omega) ⟨by omega, by omega⟩)
            omega)
      have p3' := Int.le_trans (Int.le_of_eq p2.symm) p3
      generalize sumN (fun k => if (setS S x j2 d).1 k = j2 then le T k + (if tw T k ≠ hm T j2 ∧ fdB (setS S x j2 d) k = true then 60 else 0) else 0) (nK T) = X at p3' ⊢
      generalize sumN (fun k => if S.1 k = j2 then le T k + (if tw T k ≠ hm T j2 ∧ fdB S k = true then 60 else 0) else 0) (nK T) = Y at p3' ⊢
      omega
    · refine sumN_le _ (fun k hk => ?_)
      by_cases q1 : k = x
      · subst q1
        rw [hgx, hfx]
        split <;> omega
      · exact ge0 k hk q1 (fun z => ex ⟨k, hk, q1, z.1, z.2.1, z.2.2.1, z.2.2.2⟩)
  · exact Int.le_of_eq (ld_other hx1 ej).symm
theorem sdl_mono {T : Tx} (hT : TOk T) {S : Sx} {x j : Nat} {d : Int} (hx : x < nK T) (hj : j < nJ T) (hw : whyS T S x j d = 0) (i : Nat) : gd (sdl T S) i ≤ gd (sdl T (setS S x j d)) i := (Pw.sd _ (fun j2 _ => ld_mono hT hx hj hw j2)).get i
/-- the whole search -/
def fs (T : Tx) (d : Int) (l : List Nat) : Nat → Nat → Int → Sx → (Nat → Int) → Bx → Bx
  | 0, _, h, S, g, B => if mayB T S h B = true then (h, sdl T S, g) else B
  | r + 1, k, h, S, g, B => csJ (fs T d l r (k + 1)) T d (l.getD k 0) k h S g (nJ T) (fs T d l r (k + 1) h S (up g k (-1)) B)
theorem mayB_lt {T : Tx} {S : Sx} {m : Int} {B : Bx} (h : m < B.1) : mayB T S m B = false := by
  unfold mayB
  rw [if_pos (by omega)]
  exact decide_eq_false (by omega)
theorem mayB_no {T : Tx} {S : Sx} {m : Int} {B : Bx} (h : mayB T S m B = false) : m < B.1 ∨ (m = B.1 ∧ ltA (gd (sdl T S)) (gd B.2.1) (nJ T) = false) := by
  unfold mayB at h
  by_cases e : m ≠ B.1
  · rw [if_pos e] at h; have := of_decide_eq_false h; omega
  · rw [if_neg e] at h; exact Or.inr ⟨Decidable.not_not.mp e, h⟩
theorem fs_prune {T : Tx} (hT : TOk T) {d : Int} {l : List Nat} (hl : ∀ x ∈ l, x < nK T) : ∀ (r k : Nat) (h : Int) (S : Sx) (g : Nat → Int) (B : Bx), k + r ≤ l.length → mayB T S (h + (r : Int)) B = false → fs T d l r k h S g B = B := by
  intro r
  induction r with
  | zero =>
    intro k h S g B _ hm
    have e : fs T d l 0 k h S g B = if mayB T S h B = true then (h, sdl T S, g) else B := rfl
    rw [show h + ((0 : Nat) : Int) = h by omega] at hm
    rw [e, hm]
    rfl
  | succ r ih =>
    intro k h S g B hk hm
    have hm := mayB_no hm
    have hx : l.getD k 0 < nK T := hl _ (by rw [List.getD_eq_getElem?_getD, List.getElem?_eq_getElem (by omega)]; exact List.getElem_mem _)
    have e : fs T d l (r + 1) k h S g B = csJ (fs T d l r (k + 1)) T d (l.getD k 0) k h S g (nJ T) (fs T d l r (k + 1) h S (up g k (-1)) B) := rfl
    rw [e, ih (k + 1) h S (up g k (-1)) B (by omega) (mayB_lt (by omega))]
    have key : ∀ m, m ≤ nJ T → csJ (fs T d l r (k + 1)) T d (l.getD k 0) k h S g m B = B := by
      intro m
      induction m with
      | zero => intro _; rfl
      | succ m ihm =>
        intro hm9
        have eJ : csJ (fs T d l r (k + 1)) T d (l.getD k 0) k h S g (m + 1) B = if whyS T S (l.getD k 0) m d = 0 then fs T d l r (k + 1) (h + 1) (setS S (l.getD k 0) m d) (up g k m) (csJ (fs T d l r (k + 1)) T d (l.getD k 0) k h S g m B) else csJ (fs T d l r (k + 1)) T d (l.getD k 0) k h S g m B := rfl
        rw [eJ, ihm (by omega)]
        by_cases hw : whyS T S (l.getD k 0) m d = 0
        · rw [if_pos hw]
          refine ih _ _ _ _ _ (by omega) ?_
          rcases hm with q | q
          · exact mayB_lt (by omega)
          · unfold mayB
            rw [if_neg (by omega)]
            cases q9 : ltA (gd (sdl T (setS S (l.getD k 0) m d))) (gd B.2.1) (nJ T) with
            | false => rfl
            | true => rw [ltA_mono (fun i _ => sdl_mono hT hx (by omega) hw i) q9] at q; exact absurd q.2 (by decide)
        · rw [if_neg hw]
    exact key _ (Nat.le_refl _)
theorem csJ_congr {T : Tx} {d : Int} {x k : Nat} {h : Int} {S : Sx} {g : Nat → Int} {r1 r2 : Int → Sx → (Nat → Int) → Bx → Bx} (e : ∀ h S g B, r1 h S g B = r2 h S g B) : ∀ (m : Nat) (B : Bx), csJ r1 T d x k h S g m B = csJ r2 T d x k h S g m B := by
  intro m
  induction m with
  | zero => intro B; rfl
  | succ m ih =>
    intro B
    have e1 : csJ r1 T d x k h S g (m + 1) B = if whyS T S x m d = 0 then r1 (h + 1) (setS S x m d) (up g k m) (csJ r1 T d x k h S g m B) else csJ r1 T d x k h S g m B := rfl
    have e2 : csJ r2 T d x k h S g (m + 1) B = if whyS T S x m d = 0 then r2 (h + 1) (setS S x m d) (up g k m) (csJ r2 T d x k h S g m B) else csJ r2 T d x k h S g m B := rfl
    rw [e1, e2, ih, e]
theorem fs_cs {T : Tx} (hT : TOk T) {d : Int} {l : List Nat} (hl : ∀ x ∈ l, x < nK T) : ∀ (r k : Nat) (h : Int) (S : Sx) (g : Nat → Int) (B : Bx), k + r ≤ l.length → fs T d l r k h S g B = cs T d l r k h S g B := by
  intro r
  induction r with
  | zero => intro k h S g B _; rfl
  | succ r ih =>
    intro k h S g B hk
    have eC : cs T d l (r + 1) k h S g B = if mayB T S (h + ((r + 1 : Nat) : Int)) B = true then csJ (cs T d l r (k + 1)) T d (l.getD k 0) k h S g (nJ T) (cs T d l r (k + 1) h S (up g k (-1)) B) else B := rfl
    rw [eC]
    cases q : mayB T S (h + ((r + 1 : Nat) : Int)) B with
    | false => rw [fs_prune hT hl _ _ _ _ _ _ hk q]; rfl
    | true =>
      rw [if_pos rfl]
      have e : fs T d l (r + 1) k h S g B = csJ (fs T d l r (k + 1)) T d (l.getD k 0) k h S g (nJ T) (fs T d l r (k + 1) h S (up g k (-1)) B) := rfl
      rw [e, ih _ _ _ _ _ (by omega)]
      exact csJ_congr (fun h S g B => ih _ _ _ _ _ (by omega)) _ _
