/-! 15: loads in order -/
def repI (f : Nat → Int) (l : List Int) : Prop := ∀ (i : Nat) (x : Int), l[i]? = some x → f i = x
theorem repI_ins {f : Nat → Int} {A B : List Int} {v : Int} (h : repI f (A ++ B)) : repI (insAt f A.length (A.length + B.length) v) (A ++ v :: B) := by
  intro i x hx
  unfold insAt
  by_cases e : i = A.length
  · subst e
    rw [if_pos rfl]
    rw [List.getElem?_append_right (Nat.le_refl _), Nat.sub_self] at hx
    cases hx; rfl
  · rw [if_neg e]
    by_cases q : i < A.length
    · rw [shA_lo f (by omega)]
      rw [List.getElem?_append_left q] at hx
      exact h i x (by rw [List.getElem?_append_left q]; exact hx)
    · rw [List.getElem?_append_right (by omega)] at hx
      obtain ⟨t, ht⟩ : ∃ t, i - A.length = t + 1 := ⟨i - A.length - 1, by omega⟩
      rw [ht, List.getElem?_cons_succ] at hx
      have hl := (List.getElem?_eq_some_iff.mp hx).1
      unfold shA
      rw [if_pos (by omega)]
      refine h (i - 1) x ?_
      rw [List.getElem?_append_right (by omega), show i - 1 - A.length = t by omega]
      exact hx
def insD (v : Int) : List Int → List Int
  | [] => [v]
  | x :: l => if x < v then v :: x :: l else x :: insD v l
/-- the first m of vs, the greatest first -/
def sd (vs : Nat → Int) : Nat → List Int
  | 0 => []
  | m + 1 => insD (vs m) (sd vs m)
theorem insD_mem {v x : Int} : ∀ {l : List Int}, x ∈ insD v l → x = v ∨ x ∈ l := by
  intro l
  induction l with
  | nil => intro h; exact Or.inl (by simpa [insD] using h)
  | cons y l ih =>
    intro h
    unfold insD at h
    split at h
    · rcases List.mem_cons.mp h with h | h
      · exact Or.inl h
      · exact Or.inr h
    · rcases List.mem_cons.mp h with h | h
      · exact Or.inr (h ▸ List.mem_cons_self)
      · rcases ih h with h | h
        · exact Or.inl h
        · exact Or.inr (List.mem_cons_of_mem _ h)
theorem insD_split (v : Int) : ∀ l : List Int, l.Pairwise (fun a b => b ≤ a) → ∃ A B, l = A ++ B ∧ insD v l = A ++ v :: B ∧ (∀ x ∈ A, v ≤ x) ∧ ∀ x ∈ B, x < v := by
  intro l
  induction l with
  | nil => intro _; exact ⟨[], [], rfl, rfl, by simp, by simp⟩
  | cons y l ih =>
    intro h
    have h' := List.pairwise_cons.mp h
    by_cases e : y < v
    · refine ⟨[], y :: l, rfl, by unfold insD; rw [if_pos e]; rfl, by simp, fun x hx => ?_⟩
      rcases List.mem_cons.mp hx with q | q
      · rw [q]; exact e
      · have := h'.1 x q; omega
    · obtain ⟨A, B, a1, a2, a3, a4⟩ := ih h'.2
      refine ⟨y :: A, B, by rw [a1]; rfl, by unfold insD; rw [if_neg e, a2]; rfl, fun x hx => ?_, a4⟩
      rcases List.mem_cons.mp hx with q | q
      · rw [q]; omega
      · exact a3 x q
theorem insD_desc {v : Int} : ∀ {l : List Int}, l.Pairwise (fun a b => b ≤ a) → (insD v l).Pairwise (fun a b => b ≤ a) := by
  intro l
  induction l with
  | nil => intro _; simp [insD]
  | cons y l ih =>
    intro h
    have h' := List.pairwise_cons.mp h
    unfold insD
    split
    · next e =>
      refine List.pairwise_cons.mpr ⟨fun x hx => ?_, h⟩
      rcases List.mem_cons.mp hx with q | q
      · rw [q]; omega
      · have := h'.1 x q; omega
    · next e =>
      refine List.pairwise_cons.mpr ⟨fun x hx => ?_, ih h'.2⟩
      rcases insD_mem hx with q | q
      · rw [q]; omega
      · exact h'.1 x q
theorem sd_desc (vs : Nat → Int) (m : Nat) : (sd vs m).Pairwise (fun a b => b ≤ a) := by
  induction m with
  | zero => exact List.Pairwise.nil
  | succ m ih => exact insD_desc ih
theorem insD_len (v : Int) : ∀ l : List Int, (insD v l).length = l.length + 1 := by
  intro l
  induction l with
  | nil => rfl
  | cons y l ih => unfold insD; split <;> simp [ih]
theorem sd_len (vs : Nat → Int) (m : Nat) : (sd vs m).length = m := by
  induction m with
  | zero => rfl
  | succ m ih => show (insD (vs m) (sd vs m)).length = m + 1; rw [insD_len, ih]
theorem sd_mem {vs : Nat → Int} {m : Nat} {x : Int} (h : x ∈ sd vs m) : ∃ j, j < m ∧ x = vs j := by
  induction m with
  | zero => simp [sd] at h
  | succ m ih =>
    rcases insD_mem h with h | h
    · exact ⟨m, by omega, h⟩
    · obtain ⟨j, h1, h2⟩ := ih h; exact ⟨j, by omega, h2⟩
theorem sd_congr {vs us : Nat → Int} {m : Nat} (h : ∀ j, j < m → vs j = us j) : sd vs m = sd us m := by
  induction m with
  | zero => rfl
  | succ m ih => show insD (vs m) (sd vs m) = insD (us m) (sd us m); rw [h m (by omega), ih (fun j hj => h j (by omega))]
/-- f comes ahead of g, compared place by place up to n -/
def ltA (f g : Nat → Int) (n : Nat) : Bool := decide (fst (fun i => decide (f i ≠ g i)) (fun i => b2i (decide (f i < g i))) n = 1)
theorem ltA_none {f g : Nat → Int} {n : Nat} (h : exB (fun i => decide (f i ≠ g i)) n = false) : ltA f g n = false := by
  unfold ltA; rw [fst_none h]; rfl
theorem ltA_at {f g : Nat → Int} {n i : Nat} (hi : i < n) (h : exB (fun i => decide (f i ≠ g i)) i = false) (hne : f i ≠ g i) : ltA f g n = decide (f i < g i) := by
  unfold ltA
  rw [fst_at hi h (decide_eq_true hne)]
  unfold b2i
  by_cases q : f i < g i
  · rw [decide_eq_true q, if_pos rfl]; rfl
  · rw [decide_eq_false q, if_neg (by decide)]; rfl
theorem fst_congr {p q : Nat → Bool} {f g : Nat → Int} {n : Nat} (h1 : ∀ k, k < n → p k = q k) (h2 : ∀ k, k < n → f k = g k) : fst p f n = fst q g n := by
  induction n with
  | zero => rfl
  | succ n ih =>
    show (if exB p n = true then fst p f n else if p n = true then f n else -1) = (if exB q n = true then fst q g n else if q n = true then g n else -1)
    rw [exB_congr (fun k hk => h1 k (by omega)), ih (fun k hk => h1 k (by omega)) (fun k hk => h2 k (by omega)), h1 n (by omega), h2 n (by omega)]
theorem ltA_congr {f g f2 g2 : Nat → Int} {n : Nat} (h1 : ∀ k, k < n → f k = f2 k) (h2 : ∀ k, k < n → g k = g2 k) : ltA f g n = ltA f2 g2 n := by
  unfold ltA
  rw [fst_congr (q := fun i => decide (f2 i ≠ g2 i)) (g := fun i => b2i (decide (f2 i < g2 i))) (fun k hk => by rw [h1 k hk, h2 k hk]) (fun k hk => by rw [h1 k hk, h2 k hk])]
def gd (l : List Int) (i : Nat) : Int := l.getD i 0
theorem repI_get {f : Nat → Int} {l : List Int} (h : repI f l) {i : Nat} (hi : i < l.length) : f i = gd l i := by
  refine h i _ ?_
  unfold gd
  rw [List.getD_eq_getElem?_getD, List.getElem?_eq_getElem hi]; rfl
def sq (f : Nat → Int) (n : Nat) : Int := sumN (fun i => f i * f i) n
section Order
variable {G : Gt} {d : Nat} {M : Mem} {o : Nat}
set_option maxHeartbeats 2000000 in
theorem c_sort (ho : o = 15 ∨ o = 18 ∨ o = 22 ∨ o = 24) {a n : Nat} (ha : shL[a]? = some (.inl (.int, 6))) (hao : a ≠ o ∧ a ≠ o + 1) (hn : n ≤ 6) (hv : ∀ j, j < n → -2147483648 ≤ gI M a j ∧ gI M a j ≤ 2147483647) : V G (d + 1) mX7_sort 0 [some (.ref o), some (.ref a), some (.int (J (n : Int))), none, none] [] M (fun r N => ∃ f, r = none ∧ N = aI (sI M o 1 (n : Int)) (o + 1) f ∧ repI f (sd (gI M a) n)) := by
  generalize hQ : (fun (r : Option Value) (N : Mem) => ∃ f, r = none ∧ N = aI (sI M o 1 (n : Int)) (o + 1) f ∧ repI f (sd (gI M a) n)) = Q
  refine v_aload_n (pc := 0) 0 rfl rfl ?_
  refine v_iload_n (pc := 1) 1 rfl rfl ?_
  refine v_bipush (pc := 2) 2 rfl (by decide) ?_
  refine v_mmin (pc := 4) 3 rfl ml_X7_15 (by omega) (Nat.le_of_ble_eq_true rfl) ?_
  rw [show min (n : Int) 6 = (n : Int) by omega]
  refine v_putI (pc := 7) 4 rfl fl_X7_21 (shO ho) ?_
  refine v_iconst (pc := 10) 5 rfl ?_
  refine v_istore_n (pc := 11) 6 rfl ⟨Nat.le_of_ble_eq_true rfl, rfl⟩ ?_
  have fa : ∀ f, gI (aI (sI M o 1 (n : Int)) (o + 1) f) a = gI M a := fun f => by rw [gI_aI_ne hao.2, gI_sI_ne hao.1]
  have fo : ∀ f, gI (aI (sI M o 1 (n : Int)) (o + 1) f) o 1 = (n : Int) := fun f => by rw [gI_aI_ne (by omega), gI_sI, if_pos rfl, if_pos rfl]
  have loop := loopN (N := n) (fun m => ∀ f u, repI f (sd (gI M a) m) → V G (d + 1) mX7_sort 12 [some (.ref o), some (.ref a), some (.int (J (n : Int))), some (.int (J (m : Int))), u] [] (aI (sI M o 1 (n : Int)) (o + 1) f) Q) ?_ ?_
  · have := loop (gI (sI M o 1 (n : Int)) (o + 1)) none (fun i x hx => by simp [sd] at hx)
    rw [aI_self] at this
    exact this
  · intro f u hf
    have e1 := fo f
    refine v_iload_n (pc := 12) 7 rfl rfl ?_
    refine v_aload_n (pc := 13) 8 rfl rfl ?_
    refine v_getI (pc := 14) 9 rfl fl_X7_21 (shO ho) ?_
    refine v_ic_geT (pc := 17) 10 81 rfl (by decide) (by omega) (by omega) ?_
    exact v_ret (pc := 81) 46 rfl rfl (by rw [← hQ]; exact ⟨f, rfl, rfl, hf⟩)
  · intro m hm ih f u hf
    have e1 := fo f
    obtain ⟨A, B, a1, a2, a3, a4⟩ := insD_split (gI M a m) (sd (gI M a) m) (sd_desc _ _)
    have hlen := sd_len (gI M a) m
    have hvm := hv m hm
    rw [a1] at hf hlen
    rw [List.length_append] at hlen
    have a2 : sd (gI M a) (m + 1) = A ++ gI M a m :: B := a2
    have hrg : ∀ x, x ∈ A ++ B → -2147483648 ≤ x ∧ x ≤ 2147483647 := fun x hx => by
      rw [← a1] at hx
      obtain ⟨j, h1, h2⟩ := sd_mem hx
      rw [h2]; exact hv j (by omega)
    refine v_iload_n (pc := 12) 7 rfl rfl ?_
    refine v_aload_n (pc := 13) 8 rfl rfl ?_
    refine v_getI (pc := 14) 9 rfl fl_X7_21 (shO ho) ?_
    refine v_ic_geF (pc := 17) 10 81 rfl (by decide) (by omega) (by omega) ?_
    refine v_iload_n (pc := 20) 11 rfl rfl ?_
    refine v_istore (pc := 21) 12 rfl ⟨Nat.le_of_ble_eq_true rfl, rfl⟩ ?_
    have inner := loopN (N := B.length) (fun t => V G (d + 1) mX7_sort 23 [some (.ref o), some (.ref a), some (.int (J (n : Int))), some (.int (J (m : Int))), some (.int (J ((A.length + (B.length - t) : Nat) : Int)))] [] (aI (sI M o 1 (n : Int)) (o + 1) (shA f (A.length + (B.length - t)) (A.length + B.length))) Q) ?_ ?_
    · rw [Nat.sub_zero, shA_n, hlen] at inner
      exact inner
    · rw [show A.length + (B.length - B.length) = A.length by omega]
      have fin : V G (d + 1) mX7_sort 65 [some (.ref o), some (.ref a), some (.int (J (n : Int))), some (.int (J (m : Int))), some (.int (J (A.length : Int)))] [] (aI (sI M o 1 (n : Int)) (o + 1) (shA f A.length (A.length + B.length))) Q := by
        refine v_aload_n (pc := 65) 37 rfl rfl ?_
        refine v_getC (pc := 66) 38 rfl fl_X7_9 (shO ho) _ (rtO_0 ho) ?_
        refine v_iload (pc := 69) 39 rfl rfl ?_
        refine v_aload_n (pc := 71) 40 rfl rfl ?_
        refine v_iload_n (pc := 72) 41 rfl rfl ?_
        refine v_ialdN (pc := 73) 42 rfl ha (by omega) ?_
        rw [fa]
        refine v_iastN (pc := 74) 43 rfl (shO_0 ho) (by omega) ?_
        refine v_iinc (pc := 75) 44 rfl rfl ⟨Nat.le_of_ble_eq_true rfl, rfl⟩ ?_
        refine v_goto (pc := 78) 45 12 rfl (by decide) ?_
        have := ih (insAt f A.length (A.length + B.length) (gI M a m)) (some (.int (J (A.length : Int)))) (by rw [a2]; exact repI_ins hf)
        rw [sI_aI]
        exact this
      by_cases eA : A.length = 0
      · refine v_iload (pc := 23) 13 rfl rfl ?_
        refine v_if_leT (pc := 25) 14 65 rfl (by decide) (by omega) (by omega) ?_
        exact fin
      · obtain ⟨x, hx⟩ : ∃ x, A[A.length - 1]? = some x := ⟨_, List.getElem?_eq_getElem (by omega)⟩
        have hxA := a3 x (List.mem_of_getElem? hx)
        have hxr := hrg x (List.mem_append_left _ (List.mem_of_getElem? hx))
        have v1 : gI (aI (sI M o 1 (n : Int)) (o + 1) (shA f A.length (A.length + B.length))) (o + 1) (A.length - 1) = x := by
          rw [gI_aI, if_pos rfl, shA_lo f (by omega)]
          exact hf _ _ (by rw [List.getElem?_append_left (by omega)]; exact hx)
        refine v_iload (pc := 23) 13 rfl rfl ?_
        refine v_if_leF (pc := 25) 14 65 rfl (by decide) (by omega) (by omega) ?_
        refine v_aload_n (pc := 28) 15 rfl rfl ?_
        refine v_getC (pc := 29) 16 rfl fl_X7_9 (shO ho) _ (rtO_0 ho) ?_
        refine v_iload (pc := 32) 17 rfl rfl ?_
        refine v_iconst (pc := 34) 18 rfl ?_
        refine v_isub (pc := 35) 19 rfl ?_
        refine v_ialdE (pc := 36) 20 rfl (shO_0 ho) (A.length - 1) (by omega) ?_
        refine v_aload_n (pc := 37) 21 rfl rfl ?_
        refine v_iload_n (pc := 38) 22 rfl rfl ?_
        refine v_ialdN (pc := 39) 23 rfl ha (by omega) ?_
        rw [v1, fa]
        refine v_ic_geT (pc := 40) 24 65 rfl (by decide) (by omega) (by omega) ?_
        exact fin
    · intro t ht ih2
      obtain ⟨p, hp⟩ : ∃ p, A.length + (B.length - t) = p + 1 := ⟨A.length + (B.length - t) - 1, by omega⟩
      have hp2 : A.length + (B.length - (t + 1)) = p := by omega
      rw [hp2] at ih2
      rw [hp]
      obtain ⟨x, hx⟩ : ∃ x, B[p - A.length]? = some x := ⟨_, List.getElem?_eq_getElem (by omega)⟩
      have hxB := a4 x (List.mem_of_getElem? hx)
      have hxr := hrg x (List.mem_append_right _ (List.mem_of_getElem? hx))
      have v1 : gI (aI (sI M o 1 (n : Int)) (o + 1) (shA f (p + 1) (A.length + B.length))) (o + 1) p = x := by
        rw [gI_aI, if_pos rfl, shA_lo f (by omega)]
        exact hf _ _ (by rw [List.getElem?_append_right (by omega)]; exact hx)
      refine v_iload (pc := 23) 13 rfl rfl ?_
      refine v_if_leF (pc := 25) 14 65 rfl (by decide) (by omega) (by omega) ?_
      refine v_aload_n (pc := 28) 15 rfl rfl ?_
      refine v_getC (pc := 29) 16 rfl fl_X7_9 (shO ho) _ (rtO_0 ho) ?_
      refine v_iload (pc := 32) 17 rfl rfl ?_
      refine v_iconst (pc := 34) 18 rfl ?_
      refine v_isub (pc := 35) 19 rfl ?_
      refine v_ialdE (pc := 36) 20 rfl (shO_0 ho) p (by omega) ?_
      refine v_aload_n (pc := 37) 21 rfl rfl ?_
      refine v_iload_n (pc := 38) 22 rfl rfl ?_
      refine v_ialdN (pc := 39) 23 rfl ha (by omega) ?_
      rw [v1, fa]
      refine v_ic_geF (pc := 40) 24 65 rfl (by decide) (by omega) (by omega) ?_
      refine v_aload_n (pc := 43) 25 rfl rfl ?_
      refine v_getC (pc := 44) 26 rfl fl_X7_9 (shO ho) _ (rtO_0 ho) ?_
      refine v_iload (pc := 47) 27 rfl rfl ?_
      refine v_aload_n (pc := 49) 28 rfl rfl ?_
      refine v_getC (pc := 50) 29 rfl fl_X7_9 (shO ho) _ (rtO_0 ho) ?_
      refine v_iload (pc := 53) 30 rfl rfl ?_
      refine v_iconst (pc := 55) 31 rfl ?_
      refine v_isub (pc := 56) 32 rfl ?_
      refine v_ialdE (pc := 57) 33 rfl (shO_0 ho) p (by omega) ?_
      refine v_iastN (pc := 58) 34 rfl (shO_0 ho) (by omega) ?_
      refine v_iinc (pc := 59) 35 rfl rfl ⟨Nat.le_of_ble_eq_true rfl, rfl⟩ ?_
      refine v_goto (pc := 62) 36 23 rfl (by decide) ?_
      have e9 := shA_step f (p := p + 1) (n := A.length + B.length) (by omega) (by omega)
      rw [Nat.add_sub_cancel] at e9
      rw [sI_aI, gI_aI, if_pos rfl, e9]
      have e8 : ((p + 1 : Nat) : Int) + -1 = (p : Int) := by omega
      rw [e8]
      exact ih2
theorem c_isLess (ho : o = 15 ∨ o = 18 ∨ o = 22 ∨ o = 24) {q n : Nat} (hq : q = 15 ∨ q = 18 ∨ q = 22 ∨ q = 24) (hn : n ≤ 6) (hm : gI M o 1 = (n : Int)) (hv : ∀ j, j < n → (-2147483648 ≤ gI M (o + 1) j ∧ gI M (o + 1) j ≤ 2147483647) ∧ (-2147483648 ≤ gI M (q + 1) j ∧ gI M (q + 1) j ≤ 2147483647)) : V G d mX7_isLessThan 0 [some (.ref o), some (.ref q), none] [] M (Ret (some (.int (J (b2i (ltA (gI M (o + 1)) (gI M (q + 1)) n))))) M) := by
  refine v_iconst (pc := 0) 0 rfl ?_
  refine v_istore_n (pc := 1) 1 rfl ⟨Nat.le_of_ble_eq_true rfl, rfl⟩ ?_
  refine loopN (N := n) (fun i => exB (fun i => decide (gI M (o + 1) i ≠ gI M (q + 1) i)) i = false → V G d mX7_isLessThan 2 [some (.ref o), some (.ref q), some (.int (J (i : Int)))] [] M (Ret (some (.int (J (b2i (ltA (gI M (o + 1)) (gI M (q + 1)) n))))) M)) ?_ ?_ rfl
  · intro e
    rw [ltA_none e]
    refine v_iload_n (pc := 2) 2 rfl rfl ?_
    refine v_aload_n (pc := 3) 3 rfl rfl ?_
    refine v_getI (pc := 4) 4 rfl fl_X7_21 (shO ho) ?_
    refine v_ic_geT (pc := 7) 5 52 rfl (by decide) (by omega) (by omega) ?_
    refine v_iconst (pc := 52) 30 rfl ?_
    exact v_zret (pc := 53) 31 rfl rfl (by omega) ⟨rfl, rfl⟩
  · intro i hi ih e
    have hb := hv i hi
    refine v_iload_n (pc := 2) 2 rfl rfl ?_
    refine v_aload_n (pc := 3) 3 rfl rfl ?_
    refine v_getI (pc := 4) 4 rfl fl_X7_21 (shO ho) ?_
    refine v_ic_geF (pc := 7) 5 52 rfl (by decide) (by omega) (by omega) ?_
    refine v_aload_n (pc := 10) 6 rfl rfl ?_
    refine v_getC (pc := 11) 7 rfl fl_X7_9 (shO ho) _ (rtO_0 ho) ?_
    refine v_iload_n (pc := 14) 8 rfl rfl ?_
    refine v_ialdN (pc := 15) 9 rfl (shO_0 ho) (by omega) ?_
    refine v_aload_n (pc := 16) 10 rfl rfl ?_
    refine v_getC (pc := 17) 11 rfl fl_X7_9 (shO hq) _ (rtO_0 hq) ?_
    refine v_iload_n (pc := 20) 12 rfl rfl ?_
    refine v_ialdN (pc := 21) 13 rfl (shO_0 hq) (by omega) ?_
    refine v_ic_eq (pc := 22) 14 46 rfl (by decide) (by omega) (fun e1 => ?_) (fun e1 => ?_)
    · refine v_iinc (pc := 46) 28 rfl rfl ⟨Nat.le_of_ble_eq_true rfl, rfl⟩ ?_
      refine v_goto (pc := 49) 29 2 rfl (by decide) ?_
      exact ih (exB_succ e (decide_eq_false (fun z => z e1)))
    · rw [ltA_at hi e e1]
      refine v_aload_n (pc := 25) 15 rfl rfl ?_
      refine v_getC (pc := 26) 16 rfl fl_X7_9 (shO ho) _ (rtO_0 ho) ?_
      refine v_iload_n (pc := 29) 17 rfl rfl ?_
      refine v_ialdN (pc := 30) 18 rfl (shO_0 ho) (by omega) ?_
      refine v_aload_n (pc := 31) 19 rfl rfl ?_
      refine v_getC (pc := 32) 20 rfl fl_X7_9 (shO hq) _ (rtO_0 hq) ?_
      refine v_iload_n (pc := 35) 21 rfl rfl ?_
      refine v_ialdN (pc := 36) 22 rfl (shO_0 hq) (by omega) ?_
      refine v_ic_ge (pc := 37) 23 44 rfl (by decide) (by omega) (fun e2 => ?_) (fun e2 => ?_)
      · rw [decide_eq_false (by omega)]
        refine v_iconst (pc := 44) 26 rfl ?_
        exact v_zret (pc := 45) 27 rfl rfl (by omega) ⟨rfl, rfl⟩
      · rw [decide_eq_true (by omega)]
        refine v_iconst (pc := 40) 24 rfl ?_
        refine v_goto (pc := 41) 25 45 rfl (by decide) ?_
        exact v_zret (pc := 45) 27 rfl rfl (by omega) ⟨rfl, rfl⟩
theorem c_greatest (ho : o = 15 ∨ o = 18 ∨ o = 22 ∨ o = 24) {n : Nat} (hn : n ≤ 6) (hm : gI M o 1 = (n : Int)) : V G d mX7_greatest 0 [some (.ref o)] [] M (Ret (some (.int (J (if n = 0 then 0 else gI M (o + 1) 0)))) M) := by
  refine v_aload_n (pc := 0) 0 rfl rfl ?_
  refine v_getI (pc := 1) 1 rfl fl_X7_21 (shO ho) ?_
  refine v_if_le (pc := 4) 2 16 rfl (by decide) (by omega) (fun e1 => ?_) (fun e1 => ?_)
  · rw [if_pos (by omega)]
    refine v_iconst (pc := 16) 8 rfl ?_
    exact v_iret (pc := 17) 9 rfl rfl ⟨rfl, rfl⟩
  · rw [if_neg (by omega)]
    refine v_aload_n (pc := 7) 3 rfl rfl ?_
    refine v_getC (pc := 8) 4 rfl fl_X7_9 (shO ho) _ (rtO_0 ho) ?_
    refine v_iconst (pc := 11) 5 rfl ?_
    refine v_ialdN (kk := 0) (pc := 12) 6 rfl (shO_0 ho) (by decide) ?_
    refine v_goto (pc := 13) 7 17 rfl (by decide) ?_
    exact v_iret (pc := 17) 9 rfl rfl ⟨rfl, rfl⟩
theorem c_sumOfSquares (ho : o = 15 ∨ o = 18 ∨ o = 22 ∨ o = 24) {n : Nat} (hn : n ≤ 6) (hm : gI M o 1 = (n : Int)) (hv : ∀ j, j < n → -2147483648 ≤ gI M (o + 1) j ∧ gI M (o + 1) j ≤ 2147483647) : V G d mX7_sumOfSquares 0 [some (.ref o), none, none, none] [] M (Ret (some (.long (JL (sq (gI M (o + 1)) n)))) M) := by
  refine v_lconst (pc := 0) 0 rfl ?_
  refine v_lstore_n (pc := 1) 1 rfl ⟨Nat.le_of_ble_eq_true rfl, rfl⟩ ?_
  refine v_iconst (pc := 2) 2 rfl ?_
  refine v_istore_n (pc := 3) 3 rfl ⟨Nat.le_of_ble_eq_true rfl, rfl⟩ ?_
  refine loopN (N := n) (fun i => V G d mX7_sumOfSquares 4 [some (.ref o), some (.long (JL (sq (gI M (o + 1)) i))), none, some (.int (J (i : Int)))] [] M (Ret (some (.long (JL (sq (gI M (o + 1)) n)))) M)) ?_ ?_
  · refine v_iload_n (pc := 4) 4 rfl rfl ?_
    refine v_aload_n (pc := 5) 5 rfl rfl ?_
    refine v_getI (pc := 6) 6 rfl fl_X7_21 (shO ho) ?_
    refine v_ic_geT (pc := 9) 7 36 rfl (by decide) (by omega) (by omega) ?_
    refine v_lload_n (pc := 36) 24 rfl rfl ?_
    exact v_lret (pc := 37) 25 rfl rfl ⟨rfl, rfl⟩
  · intro i hi ih
    have hb := hv i hi
    refine v_iload_n (pc := 4) 4 rfl rfl ?_
    refine v_aload_n (pc := 5) 5 rfl rfl ?_
    refine v_getI (pc := 6) 6 rfl fl_X7_21 (shO ho) ?_
    refine v_ic_geF (pc := 9) 7 36 rfl (by decide) (by omega) (by omega) ?_
    refine v_lload_n (pc := 12) 8 rfl rfl ?_
    refine v_aload_n (pc := 13) 9 rfl rfl ?_
    refine v_getC (pc := 14) 10 rfl fl_X7_9 (shO ho) _ (rtO_0 ho) ?_
    refine v_iload_n (pc := 17) 11 rfl rfl ?_
    refine v_ialdN (pc := 18) 12 rfl (shO_0 ho) (by omega) ?_
    refine v_i2l (pc := 19) 13 rfl (by omega) ?_
    refine v_aload_n (pc := 20) 14 rfl rfl ?_
    refine v_getC (pc := 21) 15 rfl fl_X7_9 (shO ho) _ (rtO_0 ho) ?_
    refine v_iload_n (pc := 24) 16 rfl rfl ?_
    refine v_ialdN (pc := 25) 17 rfl (shO_0 ho) (by omega) ?_
    refine v_i2l (pc := 26) 18 rfl (by omega) ?_
    refine v_lmul (pc := 27) 19 rfl ?_
    refine v_ladd (pc := 28) 20 rfl ?_
    refine v_lstore_n (pc := 29) 21 rfl ⟨Nat.le_of_ble_eq_true rfl, rfl⟩ ?_
    refine v_iinc (pc := 30) 22 rfl rfl ⟨Nat.le_of_ble_eq_true rfl, rfl⟩ ?_
    refine v_goto (pc := 33) 23 4 rfl (by decide) ?_
    exact ih
end Order
