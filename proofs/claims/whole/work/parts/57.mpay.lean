/-! 57: the reference: payments -/
theorem b9_low : ∀ a : Fin 32, ∀ m : Fin 5, (a : Nat) < 2 ^ (m : Nat) → bt (a : Nat) (m : Nat) = 0 ∧ (∀ t : Fin 5, (t : Nat) < (m : Nat) → bt ((a : Nat) + 2 ^ (m : Nat) : Nat) (t : Nat) = bt (a : Nat) (t : Nat)) ∧ bt ((a : Nat) + 2 ^ (m : Nat) : Nat) (m : Nat) = 1 ∧ (a : Nat) + 2 ^ (m : Nat) < 2 ^ ((m : Nat) + 1) ∧ J (a : Nat) ||| J ((2 ^ (m : Nat) : Nat) : Int) = J (((a : Nat) + 2 ^ (m : Nat) : Nat) : Int) ∧ J (a : Nat) ||| J 0 = J (a : Nat) := by decide +kernel
theorem b9_add : ∀ s : Fin 32, ∀ z : Fin 5, bt (s : Nat) (z : Nat) = 0 → (s : Nat) + 2 ^ (z : Nat) < 32 ∧ ∀ t : Fin 5, bt ((s : Nat) + 2 ^ (z : Nat) : Nat) (t : Nat) = if (t : Nat) = (z : Nat) then 1 else bt (s : Nat) (t : Nat) := by decide +kernel
theorem b9_sub : ∀ s : Fin 32, ∀ t : Fin 5, bt (s : Nat) (t : Nat) ≠ 0 → 2 ^ (t : Nat) ≤ (s : Nat) ∧ (∀ u : Fin 5, bt ((s : Nat) - 2 ^ (t : Nat) : Nat) (u : Nat) = if (u : Nat) = (t : Nat) then 0 else bt (s : Nat) (u : Nat)) ∧ J (s : Nat) &&& J (-((2 ^ (t : Nat) : Nat) : Int) - 1) = J (((s : Nat) - 2 ^ (t : Nat) : Nat) : Int) := by decide +kernel
theorem b9_not : ∀ t : Fin 5, J ((2 ^ (t : Nat) : Nat) : Int) ^^^ J (-1) = J (-((2 ^ (t : Nat) : Nat) : Int) - 1) := by decide +kernel
theorem b9_has : ∀ s : Fin 32, ∀ n : Fin 6, (s : Nat) < 2 ^ (n : Nat) → ((s : Nat) = 0 ∨ ∃ t : Fin 5, (t : Nat) < (n : Nat) ∧ bt (s : Nat) (t : Nat) ≠ 0) ∧ ∀ t : Fin 5, (n : Nat) ≤ (t : Nat) → bt (s : Nat) (t : Nat) = 0 := by decide +kernel
theorem b9_gap : ∀ n : Fin 6, ∀ t : Fin 5, ∀ a : Fin 16, (t : Nat) < (n : Nat) → (a : Nat) < 2 ^ (t : Nat) → bt ((a : Nat) + (2 ^ (n : Nat) - 2 ^ ((t : Nat) + 1)) : Nat) (t : Nat) = 0 ∧ (a : Nat) + (2 ^ (n : Nat) - 2 ^ ((t : Nat) + 1)) < 32 ∧ 2 ^ ((t : Nat) + 1) ≤ 2 ^ (n : Nat) := by decide +kernel
theorem mg_iff {g : Nat → Int} {s : Nat} {B : Int} (n : Nat) : mg g s n ≤ B ↔ 0 ≤ B ∧ ∀ t, t < n → bt s t ≠ 0 → g (s - 2 ^ t) ≤ B := by
  induction n with
  | zero => exact ⟨fun h => ⟨h, fun t ht => by omega⟩, fun h => h.1⟩
  | succ n ih =>
    have e : mg g s (n + 1) = if bt s n = 0 then mg g s n else max (mg g s n) (g (s - 2 ^ n)) := rfl
    rw [e]
    by_cases q : bt s n = 0
    · rw [if_pos q, ih]
      refine ⟨fun h => ⟨h.1, fun t ht hb => ?_⟩, fun h => ⟨h.1, fun t ht hb => h.2 t (by omega) hb⟩⟩
      by_cases e9 : t = n
      · subst e9; exact absurd q hb
      · exact h.2 t (by omega) hb
    · rw [if_neg q]
      constructor
      · intro h
        have h1 := ih.mp (show mg g s n ≤ B by omega)
        refine ⟨h1.1, fun t ht hb => ?_⟩
        by_cases e9 : t = n
        · subst e9; omega
        · exact h1.2 t (by omega) hb
      · intro h
        have h1 := ih.mpr ⟨h.1, fun t ht hb => h.2 t (by omega) hb⟩
        have h2 := h.2 n (by omega) q
        omega
theorem sm_add (v : Nat → Int) {s z : Nat} (hs : s < 32) (hz : z < 5) (hb : bt (s : Int) (z : Int) = 0) (hv : v z = 0) : sm v (s + 2 ^ z) = sm v s := by
  have h := (b9_add ⟨s, hs⟩ ⟨z, hz⟩ hb).2
  unfold sm
  refine sumN_congr 5 (fun t ht => ?_)
  have ht9 : bt ((s + 2 ^ z : Nat) : Int) (t : Int) = if t = z then 1 else bt (s : Int) (t : Int) := h ⟨t, ht⟩
  rw [ht9]
  by_cases e : t = z
  · subst e
    rw [if_pos rfl, if_pos rfl, hv]
    split <;> rfl
  · rw [if_neg e]
/-- a town that owes nothing is a group of its own -/
theorem gr_zero (v : Nat → Int) {n z : Nat} (hn : n ≤ 5) (hz : z < n) (hv : v z = 0) (s : Nat) : s < 2 ^ n → bt (s : Int) (z : Int) = 0 → gr v n (s + 2 ^ z) = gr v n s + 1 := by
  induction s using Nat.strongRecOn with
  | ind s ih =>
    intro hs hb
    have h32 : 2 ^ n ≤ 32 := Nat.pow_le_pow_right (n := 2) (by decide) hn
    have hs32 : s < 32 := by omega
    obtain ⟨a1, a2⟩ := b9_add ⟨s, hs32⟩ ⟨z, by omega⟩ hb
    have hp : 0 < 2 ^ z := Nat.two_pow_pos z
    rw [gr_eq v n (s + 2 ^ z), if_neg (by omega), sm_add v hs32 (by omega) hb hv, gr_eq v n s]
    have key : ∀ B : Int, mg (gr v n) (s + 2 ^ z) n ≤ B ↔ 0 ≤ B ∧ gr v n s ≤ B ∧ ∀ t, t < n → bt (s : Int) (t : Int) ≠ 0 → gr v n (s - 2 ^ t) + 1 ≤ B := by
      intro B
      rw [mg_iff]
      constructor
      · rintro ⟨h1, h2⟩
        refine ⟨h1, ?_, fun t ht hb2 => ?_⟩
        · have := h2 z hz (by
            have q : bt ((s + 2 ^ z : Nat) : Int) (z : Int) = if z = z then 1 else bt (s : Int) (z : Int) := a2 ⟨z, by omega⟩
            rw [q, if_pos rfl]; decide)
          rw [Nat.add_sub_cancel] at this
          exact this
        · have hne : t ≠ z := fun q => hb2 (by rw [q]; exact hb)
          have q : bt ((s + 2 ^ z : Nat) : Int) (t : Int) = if t = z then 1 else bt (s : Int) (t : Int) := a2 ⟨t, by omega⟩
          rw [if_neg hne] at q
          have := h2 t ht (by rw [q]; exact hb2)
          obtain ⟨c1, c2, -⟩ := b9_sub ⟨s, hs32⟩ ⟨t, by omega⟩ hb2
          have c1 : 2 ^ t ≤ s := c1
          have hp2 : 0 < 2 ^ t := Nat.two_pow_pos t
          have c3 : bt ((s - 2 ^ t : Nat) : Int) (z : Int) = if z = t then 0 else bt (s : Int) (z : Int) := c2 ⟨z, by omega⟩
          have e := ih (s - 2 ^ t) (by omega) (by omega) (by rw [c3, if_neg (by omega)]; exact hb)
          rw [show s + 2 ^ z - 2 ^ t = s - 2 ^ t + 2 ^ z by omega, e] at this
          exact this
      · rintro ⟨h1, h2, h3⟩
        refine ⟨h1, fun t ht hb2 => ?_⟩
        have q : bt ((s + 2 ^ z : Nat) : Int) (t : Int) = if t = z then 1 else bt (s : Int) (t : Int) := a2 ⟨t, by omega⟩
        by_cases e9 : t = z
        · rw [e9, Nat.add_sub_cancel]; exact h2
        · rw [if_neg e9] at q
          rw [q] at hb2
          obtain ⟨c1, c2, -⟩ := b9_sub ⟨s, hs32⟩ ⟨t, by omega⟩ hb2
          have c1 : 2 ^ t ≤ s := c1
          have hp2 : 0 < 2 ^ t := Nat.two_pow_pos t
          have c3 : bt ((s - 2 ^ t : Nat) : Int) (z : Int) = if z = t then 0 else bt (s : Int) (z : Int) := c2 ⟨z, by omega⟩
          have e := ih (s - 2 ^ t) (by omega) (by omega) (by rw [c3, if_neg (by omega)]; exact hb)
          rw [show s + 2 ^ z - 2 ^ t = s - 2 ^ t + 2 ^ z by omega, e]
          exact h3 t ht hb2
    by_cases e0 : s = 0
    · subst e0
      rw [if_pos rfl]
      have g0 : gr v n 0 = 0 := by rw [gr_eq, if_pos rfl]
      have k1 := (key 0).mpr ⟨Int.le_refl _, by rw [g0]; exact Int.le_refl _, fun t ht hb2 => absurd (by simp [bt]) hb2⟩
      have k2 := ((key _).mp (Int.le_refl _)).1
      have s0 : sm v 0 = 0 := by
        unfold sm
        rw [sumN_congr (g := fun _ => 0) 5 (fun t ht => if_neg (by simp [bt]))]
        rfl
      rw [s0, if_pos rfl]
      omega
    · rw [if_neg e0]
      have gs : gr v n s = mg (gr v n) s n + if sm v s = 0 then 1 else 0 := by rw [gr_eq, if_neg e0]
      obtain ⟨t0, t1, t2⟩ := (b9_has ⟨s, hs32⟩ ⟨n, by omega⟩ hs).1.resolve_left e0
      have m0 := (mg_iff (g := gr v n) (s := s) (B := mg (gr v n) s n) n).mp (Int.le_refl _)
      have up9 : mg (gr v n) (s + 2 ^ z) n ≤ mg (gr v n) s n + 1 := (key _).mpr ⟨by have := m0.1; omega, by rw [gs]; split <;> omega, fun t ht hb2 => by have := m0.2 t ht hb2; omega⟩
      have k := (key _).mp (Int.le_refl (mg (gr v n) (s + 2 ^ z) n))
      have gb := gr_b v n (s - 2 ^ (t0 : Nat))
      have k3 := k.2.2 t0 t1 t2
      have lo : mg (gr v n) s n ≤ mg (gr v n) (s + 2 ^ z) n - 1 := (mg_iff n).mpr ⟨by omega, fun t ht hb2 => by have := k.2.2 t ht hb2; omega⟩
      split <;> omega
/-- the towns below n that owe or are owed -/
def alM (v : Nat → Int) : Nat → Nat
  | 0 => 0
  | t + 1 => if v t = 0 then alM v t else alM v t + 2 ^ t
def nzs (v : Nat → Int) (n : Nat) : Int := sumN (fun t => if v t = 0 then 0 else 1) n
theorem alM_lt (v : Nat → Int) : ∀ n, alM v n < 2 ^ n := by
  intro n
  induction n with
  | zero => exact Nat.one_pos
  | succ n ih =>
    have e : alM v (n + 1) = if v n = 0 then alM v n else alM v n + 2 ^ n := rfl
    rw [e, Nat.pow_succ]
    split <;> omega
theorem alM_bt (v : Nat → Int) : ∀ n, n ≤ 5 → ∀ t, t < n → bt (alM v n : Int) (t : Int) = if v t = 0 then 0 else 1 := by
  intro n
  induction n with
  | zero => intro _ t ht; omega
  | succ n ih =>
    intro hn t ht
    have hl := alM_lt v n
    have h32 : 2 ^ n ≤ 16 := Nat.pow_le_pow_right (n := 2) (j := 4) (by decide) (by omega)
    obtain ⟨b1, b2, b3, -, -, -⟩ := b9_low ⟨alM v n, by omega⟩ ⟨n, by omega⟩ hl
    have e : alM v (n + 1) = if v n = 0 then alM v n else alM v n + 2 ^ n := rfl
    rw [e]
    by_cases q : t = n
    · subst q
      by_cases q2 : v t = 0
      · rw [if_pos q2, if_pos q2]; exact b1
      · rw [if_neg q2, if_neg q2]; exact b3
    · by_cases q2 : v n = 0
      · rw [if_pos q2]; exact ih (by omega) t (by omega)
      · rw [if_neg q2]
        have := b2 ⟨t, by omega⟩ (show t < n by omega)
        rw [show bt ((alM v n + 2 ^ n : Nat) : Int) (t : Int) = bt (alM v n : Int) (t : Int) from this]
        exact ih (by omega) t (by omega)
theorem gr_full (v : Nat → Int) {n : Nat} (hn : n ≤ 5) : ∀ t, t ≤ n → gr v n (2 ^ n - 1) = gr v n (alM v t + (2 ^ n - 2 ^ t)) + ((t : Int) - nzs v t) := by
  intro t
  induction t with
  | zero =>
    intro _
    show gr v n (2 ^ n - 1) = gr v n (0 + (2 ^ n - 2 ^ 0)) + (((0 : Nat) : Int) - 0)
    rw [Nat.zero_add, Nat.pow_zero]; omega
  | succ t ih =>
    intro ht
    rw [ih (by omega)]
    have hl := alM_lt v t
    have h16 : 2 ^ t ≤ 16 := Nat.pow_le_pow_right (n := 2) (j := 4) (by decide) (by omega)
    obtain ⟨g1, g2, g3⟩ := b9_gap ⟨n, by omega⟩ ⟨t, by omega⟩ ⟨alM v t, by omega⟩ (show t < n by omega) hl
    have g1 : bt ((alM v t + (2 ^ n - 2 ^ (t + 1)) : Nat) : Int) (t : Int) = 0 := g1
    have g3 : 2 ^ (t + 1) ≤ 2 ^ n := g3
    have e : alM v (t + 1) = if v t = 0 then alM v t else alM v t + 2 ^ t := rfl
    have e2 : nzs v (t + 1) = nzs v t + (if v t = 0 then 0 else 1) := rfl
    have e3 : 2 ^ (t + 1) = 2 ^ t + 2 ^ t := by rw [Nat.pow_succ]; omega
    rw [e, e2]
    by_cases q : v t = 0
    · rw [if_pos q, if_pos q]
      have := gr_zero v hn (show t < n by omega) q (alM v t + (2 ^ n - 2 ^ (t + 1))) (by omega) g1
      rw [show alM v t + (2 ^ n - 2 ^ t) = alM v t + (2 ^ n - 2 ^ (t + 1)) + 2 ^ t by omega, this]
      omega
    · rw [if_neg q, if_neg q, show alM v t + 2 ^ t + (2 ^ n - 2 ^ (t + 1)) = alM v t + (2 ^ n - 2 ^ t) by omega]
      omega
theorem pay_eq (v : Nat → Int) {n : Nat} (hn : n ≤ 5) : (n : Int) - gr v n (2 ^ n - 1) = nzs v n - gr v n (alM v n) := by
  have := gr_full v hn n (Nat.le_refl _)
  rw [Nat.sub_self, Nat.add_zero] at this
  omega
theorem sumN_abs {f : Nat → Int} {B : Int} (h : ∀ k, -B ≤ f k ∧ f k ≤ B) : ∀ n : Nat, -(n * B) ≤ sumN f n ∧ sumN f n ≤ n * B := by
  intro n
  induction n with
  | zero => exact ⟨by show -(((0 : Nat) : Int) * B) ≤ 0; simp, by show 0 ≤ ((0 : Nat) : Int) * B; simp⟩
  | succ n ih =>
    have h2 := h n
    have e : ((n + 1 : Nat) : Int) * B = n * B + B := by rw [Int.natCast_add, Int.add_mul]; simp
    rw [e]
    show -(n * B + B) ≤ sumN f n + f n ∧ sumN f n + f n ≤ n * B + B
    omega
theorem sumN_cut {f : Nat → Int} {n : Nat} : ∀ r, (∀ t, n ≤ t → t < n + r → f t = 0) → sumN f (n + r) = sumN f n := by
  intro r
  induction r with
  | zero => intro _; rfl
  | succ r ih =>
    intro h
    show sumN f (n + r) + f (n + r) = sumN f n
    rw [ih (fun t h1 h2 => h t h1 (by omega)), h (n + r) (by omega) (by omega), Int.add_zero]
section MPay
variable {G : Gt} {d : Nat} {M N : Mem} {A : Ax}
set_option maxHeartbeats 4000000 in
theorem m_payments (h : MR M A) : V G (d + 3) mX12_payments 0 [some (.ref 54), none, none, none, none, none] [] M (fun r N => r = some (.int (J (sPay A))) ∧ MR N A ∧ MF M N) := by
  have h0 := h.fld (f := 0) 0 (by decide)
  have hF0 := mf_fld M 0 0
  have hT := h.2.2.2.2.2.1
  have hn5 : nT (aT A) ≤ 5 := hT.1
  have hn0 := h0.1.n.1
  unfold sPay
  have cow : ∀ (g : Nat → Int) (t : Nat), t < nT (aT A) → V G (d + 2) mX12_owedBy 0 [some (.ref 54), some (.int (J (t : Int))), none, none] [] (aI (sI M 54 0 0) 82 g) (Ret (some (.int (J (ow (aT A) (aS A) t (nT (aT A)))))) (aI (sI M 54 0 0) 82 g)) := fun g t ht => m_owedBy (h0.1.a9 g (by decide)) ht
  have hfin : ∀ g, MR (aI (sI M 54 0 0) 82 g) A ∧ MF M (aI (sI M 54 0 0) 82 g) := fun g => ⟨h0.sc0 (sc_a g (by decide)) (gI_aI_ne (by decide)), hF0.trans (sc_a g (by decide)).mf⟩
  have hvb : ∀ t, -18000 ≤ ow (aT A) (aS A) t (nT (aT A)) ∧ ow (aT A) (aS A) t (nT (aT A)) ≤ 18000 := fun t => ow_b hT (aS A) t
  have hpe := pay_eq (fun t => ow (aT A) (aS A) t (nT (aT A))) hn5
  have cow : ∀ (g : Nat → Int) (t : Nat), t < nT (aT A) → V G (d + 2) mX12_owedBy 0 [some (.ref 54), some (.int (J (t : Int))), none, none] [] (aI (sI M 54 0 0) 82 g) (Ret (some (.int (J ((fun t => ow (aT A) (aS A) t (nT (aT A))) t)))) (aI (sI M 54 0 0) 82 g)) := cow
  have hvb : ∀ t, -18000 ≤ (fun t => ow (aT A) (aS A) t (nT (aT A))) t ∧ (fun t => ow (aT A) (aS A) t (nT (aT A))) t ≤ 18000 := hvb
  rw [hpe]
  generalize (fun t => ow (aT A) (aS A) t (nT (aT A))) = v at cow hvb
  clear hpe
  generalize hnn : nT (aT A) = n at hn0 hn5 cow
  generalize hQ : (fun (r : Option Value) (N : Mem) => r = some (.int (J (nzs v n - gr v n (alM v n)))) ∧ MR N A ∧ MF M N) = Q
  have hn82 : ∀ g, gI (aI (sI M 54 0 0) 82 g) 56 0 = (n : Int) := fun g => by rw [gI_aI_ne (by decide)]; exact hn0
  refine v_aload_n (pc := 0) 0 rfl rfl ?_
  refine v_iconst (pc := 1) 1 rfl ?_
  refine v_putI (pc := 2) 2 rfl fl_X12_97 rfl ?_
  refine v_iconst (pc := 5) 3 rfl ?_
  refine v_istore_n (pc := 6) 4 rfl ⟨Nat.le_of_ble_eq_true rfl, rfl⟩ ?_
  refine v_iconst (pc := 7) 5 rfl ?_
  refine v_istore_n (pc := 8) 6 rfl ⟨Nat.le_of_ble_eq_true rfl, rfl⟩ ?_
  have e0 : sI M 54 0 0 = aI (sI M 54 0 0) 82 (gI (sI M 54 0 0) 82) := (aI_self _ _).symm
  generalize sI M 54 0 0 = M1 at *
  rw [e0]
  refine loopN (N := n) (fun t => V G (d + 3) mX12_payments 9 [some (.ref 54), some (.int (J (alM v t : Int))), some (.int (J (t : Int))), none, none, none] [] (aI M1 82 (gI M1 82)) Q) ?_ ?_
  · have e56 := hn82 (gI M1 82)
    have hal := alM_lt v n
    have h32 : 2 ^ n ≤ 32 := Nat.pow_le_pow_right (n := 2) (j := 5) (by decide) hn5
    have habt := alM_bt v n hn5
    generalize hall : alM v n = al at *
    refine v_iload_n (pc := 9) 7 rfl rfl ?_
    refine v_aload_n (pc := 10) 8 rfl rfl ?_
    refine v_getC (pc := 11) 9 rfl fl_X12_13 rfl 56 rfl ?_
    refine v_iconst (pc := 14) 10 rfl ?_
    refine v_ialdN (kk := 0) (pc := 15) 11 rfl rfl (by decide) ?_
    refine v_ic_geT (pc := 16) 12 43 rfl (by decide) (by omega) (by omega) ?_
    refine v_iconst (pc := 43) 27 rfl ?_
    refine v_istore_n (pc := 44) 28 rfl ⟨Nat.le_of_ble_eq_true rfl, rfl⟩ ?_
    refine v_iconst (pc := 45) 29 rfl ?_
    refine v_istore_n (pc := 46) 30 rfl ⟨Nat.le_of_ble_eq_true rfl, rfl⟩ ?_
    refine loopN (N := al + 1) (fun s => ∀ g u4 u5, (∀ x, x < s → g x = gr v n x) → V G (d + 3) mX12_payments 47 [some (.ref 54), some (.int (J (al : Int))), some (.int (J 0)), some (.int (J (s : Int))), u4, u5] [] (aI M1 82 g) Q) ?_ ?_ (gI M1 82) none none (fun x hx => by omega)
    · intro g u4 u5 hg
      have hgb := gr_b v n al
      have hz : ∀ t : Nat, 0 ≤ nzs v t ∧ nzs v t ≤ t := fun t => by
        have := sumN_b (f := fun t => if v t = 0 then 0 else 1) (B := 1) t (fun k _ => by split <;> omega)
        unfold nzs; omega
      have e56 := hn82 g
      refine v_iload_n (pc := 47) 31 rfl rfl ?_
      refine v_iload_n (pc := 48) 32 rfl rfl ?_
      refine v_ic_gtT (pc := 49) 33 158 rfl (by decide) (by omega) (by omega) ?_
      refine v_iconst (pc := 158) 97 rfl ?_
      refine v_istore_n (pc := 159) 98 rfl ⟨Nat.le_of_ble_eq_true rfl, rfl⟩ ?_
      refine loopN (N := n) (fun t => V G (d + 3) mX12_payments 160 [some (.ref 54), some (.int (J (al : Int))), some (.int (J (nzs v t))), some (.int (J (t : Int))), u4, u5] [] (aI M1 82 g) Q) ?_ ?_
      · have hz9 := hz n
        have eg : gI (aI M1 82 g) 82 al = gr v n al := by rw [gI_aI, if_pos rfl]; exact hg al (by omega)
        refine v_iload_n (pc := 160) 99 rfl rfl ?_
        refine v_aload_n (pc := 161) 100 rfl rfl ?_
        refine v_getC (pc := 162) 101 rfl fl_X12_13 rfl 56 rfl ?_
        refine v_iconst (pc := 165) 102 rfl ?_
        refine v_ialdN (kk := 0) (pc := 166) 103 rfl rfl (by decide) ?_
        refine v_ic_geT (pc := 167) 104 184 rfl (by decide) (by omega) (by omega) ?_
        refine v_iload_n (pc := 184) 115 rfl rfl ?_
        refine v_aload_n (pc := 185) 116 rfl rfl ?_
        refine v_getC (pc := 186) 117 rfl fl_X12_94 rfl 82 rfl ?_
        refine v_iload_n (pc := 189) 118 rfl rfl ?_
        refine v_ialdN (pc := 190) 119 rfl rfl (by omega) ?_
        rw [eg]
        refine v_isub (pc := 191) 120 rfl ?_
        refine v_iret (pc := 192) 121 rfl rfl (by rw [← hQ]; exact ⟨rfl, (hfin g).1, (hfin g).2⟩)
      · intro t ht ih
        have hz9 := hz t
        have hb := habt t ht
        have e : nzs v (t + 1) = nzs v t + (if v t = 0 then 0 else 1) := rfl
        rw [e, ← hb] at ih
        have h01 := bt_01 (al : Int) (t : Int)
        refine v_iload_n (pc := 160) 99 rfl rfl ?_
        refine v_aload_n (pc := 161) 100 rfl rfl ?_
        refine v_getC (pc := 162) 101 rfl fl_X12_13 rfl 56 rfl ?_
        refine v_iconst (pc := 165) 102 rfl ?_
        refine v_ialdN (kk := 0) (pc := 166) 103 rfl rfl (by decide) ?_
        refine v_ic_geF (pc := 167) 104 184 rfl (by decide) (by omega) (by omega) ?_
        refine v_iload_n (pc := 170) 105 rfl rfl ?_
        refine v_iload_n (pc := 171) 106 rfl rfl ?_
        refine v_iload_n (pc := 172) 107 rfl rfl ?_
        refine v_ishr (pc := 173) 108 rfl ((al : Int) / 2 ^ (t : Int).toNat) (J_shr (by omega)) ?_
        refine v_iconst (pc := 174) 109 rfl ?_
        refine v_iand (pc := 175) 110 rfl (bt (al : Int) t) (J_bt (by omega)) ?_
        refine v_iadd (pc := 176) 111 rfl ?_
        refine v_istore_n (pc := 177) 112 rfl ⟨Nat.le_of_ble_eq_true rfl, rfl⟩ ?_
        refine v_iinc (pc := 178) 113 rfl rfl ⟨Nat.le_of_ble_eq_true rfl, rfl⟩ ?_
        refine v_goto (pc := 181) 114 160 rfl (by decide) ?_
        exact ih
    · intro s hs ih g u4 u5 hg
      have hgs : ∀ x, x < s → 0 ≤ g x ∧ g x ≤ 100 := fun x hx => by rw [hg x hx]; have := gr_b v n x; omega
      have hsb := b9_has ⟨s, by omega⟩ ⟨n, by omega⟩ (show s < 2 ^ n by omega)
      have hmg : ∀ t, mg g s t = mg (gr v n) s t := fun t => mg_congr hg t
      have hmb : ∀ t, 0 ≤ mg g s t ∧ mg g s t ≤ 100 := fun t => mg_b (by omega) hgs t
      have hsa : ∀ t, t ≤ n → -90000 ≤ sumN (fun t => if bt (s : Int) (t : Int) = 1 then v t else 0) t ∧ sumN (fun t => if bt (s : Int) (t : Int) = 1 then v t else 0) t ≤ 90000 := fun t ht => by
        have := sumN_abs (f := fun t => if bt (s : Int) (t : Int) = 1 then v t else 0) (B := 18000) (fun k => by have := hvb k; split <;> omega) t
        omega
      refine v_iload_n (pc := 47) 31 rfl rfl ?_
      refine v_iload_n (pc := 48) 32 rfl rfl ?_
      refine v_ic_gtF (pc := 49) 33 158 rfl (by decide) (by omega) (by omega) ?_
      refine v_iconst (pc := 52) 34 rfl ?_
      refine v_istore (pc := 53) 35 rfl ⟨Nat.le_of_ble_eq_true rfl, rfl⟩ ?_
      refine v_aload_n (pc := 55) 36 rfl rfl ?_
      refine v_getC (pc := 56) 37 rfl fl_X12_94 rfl 82 rfl ?_
      refine v_iload_n (pc := 59) 38 rfl rfl ?_
      refine v_iconst (pc := 60) 39 rfl ?_
      refine v_iastN (pc := 61) 40 rfl rfl (by omega) ?_
      refine v_iconst (pc := 62) 41 rfl ?_
      refine v_istore (pc := 63) 42 rfl ⟨Nat.le_of_ble_eq_true rfl, rfl⟩ ?_
      rw [sI_aI]
      refine loopN (N := n) (fun t => V G (d + 3) mX12_payments 65 [some (.ref 54), some (.int (J (al : Int))), some (.int (J 0)), some (.int (J (s : Int))), some (.int (J (sumN (fun t => if bt (s : Int) (t : Int) = 1 then v t else 0) t))), some (.int (J (t : Int)))] [] (aI M1 82 (up g s (mg g s t))) Q) ?_ ?_
      · have e56 := hn82 (up g s (mg g s n))
        have hsa9 := hsa n (Nat.le_refl _)
        have esm : sumN (fun t => if bt (s : Int) (t : Int) = 1 then v t else 0) n = sm v s := by
          unfold sm
          have := sumN_cut (f := fun t => if bt (s : Int) (t : Int) = 1 then v t else 0) (n := n) (5 - n) (fun t h1 h2 => by
            have := hsb.2 ⟨t, by omega⟩ h1
            rw [show bt (s : Int) (t : Int) = 0 from this]; rfl)
          rw [show n + (5 - n) = 5 by omega] at this
          exact this.symm
        rw [esm] at hsa9 ⊢
        have ge := gr_eq v n s
        rw [← hmg n] at ge
        have no : gr v n s = mg g s n → V G (d + 3) mX12_payments 152 [some (.ref 54), some (.int (J (al : Int))), some (.int (J 0)), some (.int (J (s : Int))), some (.int (J (sm v s))), some (.int (J (n : Int)))] [] (aI M1 82 (up g s (mg g s n))) Q := by
          intro he
          refine v_iinc (pc := 152) 95 rfl rfl ⟨Nat.le_of_ble_eq_true rfl, rfl⟩ ?_
          refine v_goto (pc := 155) 96 47 rfl (by decide) ?_
          refine ih _ _ _ (fun x hx => ?_)
          unfold up
          by_cases q : x = s
          · rw [if_pos q, q, he]
          · rw [if_neg q]; exact hg x (by omega)
        refine v_iload (pc := 65) 43 rfl rfl ?_
        refine v_aload_n (pc := 67) 44 rfl rfl ?_
        refine v_getC (pc := 68) 45 rfl fl_X12_13 rfl 56 rfl ?_
        refine v_iconst (pc := 71) 46 rfl ?_
        refine v_ialdN (kk := 0) (pc := 72) 47 rfl rfl (by decide) ?_
        refine v_ic_geT (pc := 73) 48 133 rfl (by decide) (by omega) (by omega) ?_
        refine v_iload_n (pc := 133) 83 rfl rfl ?_
        refine v_if_le (pc := 134) 84 152 rfl (by decide) (by omega) (fun e1 => ?_) (fun e1 => ?_)
        · have : s = 0 := by omega
          subst this
          exact no (by
            rw [ge, if_pos rfl]
            have := (mg_iff (g := g) (s := 0) (B := 0) n).mpr ⟨Int.le_refl _, fun t ht hb => absurd (by simp [bt]) hb⟩
            have := hmb n
            omega)
        · rw [if_neg (by omega)] at ge
          refine v_iload (pc := 137) 85 rfl rfl ?_
          refine v_if_ne (pc := 139) 86 152 rfl (by decide) (by omega) (fun e2 => ?_) (fun e2 => ?_)
          · rw [if_neg e2] at ge
            exact no (by omega)
          · rw [if_pos (Decidable.not_not.mp e2)] at ge
            have e82 : gI (aI M1 82 (up g s (mg g s n))) 82 s = mg g s n := by rw [gI_aI, if_pos rfl]; unfold up; rw [if_pos rfl]
            have hmn := hmb n
            refine v_aload_n (pc := 142) 87 rfl rfl ?_
            refine v_getC (pc := 143) 88 rfl fl_X12_94 rfl 82 rfl ?_
            refine v_iload_n (pc := 146) 89 rfl rfl ?_
            refine v_dup2 (pc := 147) 90 rfl ⟨rfl, rfl⟩ ?_
            refine v_ialdN (pc := 148) 91 rfl rfl (by omega) ?_
            rw [e82]
            refine v_iconst (pc := 149) 92 rfl ?_
            refine v_iadd (pc := 150) 93 rfl ?_
            refine v_iastN (pc := 151) 94 rfl rfl (by omega) ?_
            refine v_iinc (pc := 152) 95 rfl rfl ⟨Nat.le_of_ble_eq_true rfl, rfl⟩ ?_
            refine v_goto (pc := 155) 96 47 rfl (by decide) ?_
            rw [sI_aI]
            refine ih _ _ _ (fun x hx => ?_)
            by_cases q : x = s
            · rw [if_pos q, q, ge]
            · rw [if_neg q]; unfold up; rw [if_neg q]; exact hg x (by omega)
      · intro t ht iht
        have e56 := hn82 (up g s (mg g s t))
        have hsa9 := hsa t (by omega)
        have hmt := hmb t
        have hvt := hvb t
        have h01 := bt_01 (s : Int) (t : Int)
        have eS : sumN (fun t => if bt (s : Int) (t : Int) = 1 then v t else 0) (t + 1) = sumN (fun t => if bt (s : Int) (t : Int) = 1 then v t else 0) t + (if bt (s : Int) (t : Int) = 1 then v t else 0) := rfl
        have eM : mg g s (t + 1) = if bt s t = 0 then mg g s t else max (mg g s t) (g (s - 2 ^ t)) := rfl
        rw [eS, eM] at iht
        have e82 : gI (aI M1 82 (up g s (mg g s t))) 82 s = mg g s t := by rw [gI_aI, if_pos rfl]; unfold up; rw [if_pos rfl]
        generalize sumN (fun t => if bt (s : Int) (t : Int) = 1 then v t else 0) t = sp at *
        refine v_iload (pc := 65) 43 rfl rfl ?_
        refine v_aload_n (pc := 67) 44 rfl rfl ?_
        refine v_getC (pc := 68) 45 rfl fl_X12_13 rfl 56 rfl ?_
        refine v_iconst (pc := 71) 46 rfl ?_
        refine v_ialdN (kk := 0) (pc := 72) 47 rfl rfl (by decide) ?_
        refine v_ic_geF (pc := 73) 48 133 rfl (by decide) (by omega) (by omega) ?_
        refine v_iload_n (pc := 76) 49 rfl rfl ?_
        refine v_iload (pc := 77) 50 rfl rfl ?_
        refine v_ishr (pc := 79) 51 rfl ((s : Int) / 2 ^ (t : Int).toNat) (J_shr (by omega)) ?_
        refine v_iconst (pc := 80) 52 rfl ?_
        refine v_iand (pc := 81) 53 rfl (bt (s : Int) t) (J_bt (by omega)) ?_
        refine v_if_ne (pc := 82) 54 88 rfl (by decide) (by omega) (fun e1 => ?_) (fun e1 => ?_)
        · obtain ⟨p1, -, p2⟩ := b9_sub ⟨s, by omega⟩ ⟨t, by omega⟩ e1
          have p1 : 2 ^ t ≤ s := p1
          have hp : 0 < 2 ^ t := Nat.two_pow_pos t
          rw [if_pos (by omega), if_neg e1] at iht
          have hgx := hgs (s - 2 ^ t) (by omega)
          have e82b : gI (aI M1 82 (up g s (mg g s t))) 82 (s - 2 ^ t) = g (s - 2 ^ t) := by rw [gI_aI, if_pos rfl]; unfold up; rw [if_neg (by omega)]
          refine v_iload (pc := 88) 56 rfl rfl ?_
          refine v_aload_n (pc := 90) 57 rfl rfl ?_
          refine v_iload (pc := 91) 58 rfl rfl ?_
          refine v_cV1i (pc := 93) 59 rfl cv_X12_360 rfl (Nat.le_of_ble_eq_true rfl) (Nat.le_of_ble_eq_true rfl) (cow _ t ht) ?_
          refine v_iadd (pc := 96) 60 rfl ?_
          refine v_istore (pc := 97) 61 rfl ⟨Nat.le_of_ble_eq_true rfl, rfl⟩ ?_
          refine v_aload_n (pc := 99) 62 rfl rfl ?_
          refine v_getC (pc := 100) 63 rfl fl_X12_94 rfl 82 rfl ?_
          refine v_iload_n (pc := 103) 64 rfl rfl ?_
          refine v_aload_n (pc := 104) 65 rfl rfl ?_
          refine v_getC (pc := 105) 66 rfl fl_X12_94 rfl 82 rfl ?_
          refine v_iload_n (pc := 108) 67 rfl rfl ?_
          refine v_ialdN (pc := 109) 68 rfl rfl (by omega) ?_
          rw [e82]
          refine v_aload_n (pc := 110) 69 rfl rfl ?_
          refine v_getC (pc := 111) 70 rfl fl_X12_94 rfl 82 rfl ?_
          refine v_iload_n (pc := 114) 71 rfl rfl ?_
          refine v_iconst (pc := 115) 72 rfl ?_
          refine v_iload (pc := 116) 73 rfl rfl ?_
          refine v_ishl (pc := 118) 74 rfl (((2 ^ t : Nat) : Int)) (J_shl1 (by omega)) ?_
          refine v_iconst (pc := 119) 75 rfl ?_
          refine v_ixor (pc := 120) 76 rfl ((-((2 ^ t : Nat) : Int) - 1)) (b9_not ⟨t, by omega⟩) ?_
          refine v_iand (pc := 121) 77 rfl (((s - 2 ^ t : Nat) : Int)) p2 ?_
          refine v_ialdN (pc := 122) 78 rfl rfl (by omega) ?_
          rw [e82b]
          refine v_mmax (pc := 123) 79 rfl ml_X12_363 (by omega) (Nat.le_of_ble_eq_true rfl) ?_
          refine v_iastN (pc := 126) 80 rfl rfl (by omega) ?_
          refine v_iinc (pc := 127) 81 rfl rfl ⟨Nat.le_of_ble_eq_true rfl, rfl⟩ ?_
          refine v_goto (pc := 130) 82 65 rfl (by decide) ?_
          rw [sI_aI]
          have eu : (fun j => if j = s then max (mg g s t) (g (s - 2 ^ t)) else up g s (mg g s t) j) = up g s (max (mg g s t) (g (s - 2 ^ t))) := by
            funext j
            unfold up
            by_cases q : j = s
            · rw [if_pos q, if_pos q]
            · rw [if_neg q, if_neg q, if_neg q]
          rw [eu]
          exact iht
        · have e1 := Decidable.not_not.mp e1
          rw [if_neg (by omega), if_pos e1, Int.add_zero] at iht
          refine v_goto (pc := 85) 55 127 rfl (by decide) ?_
          refine v_iinc (pc := 127) 81 rfl rfl ⟨Nat.le_of_ble_eq_true rfl, rfl⟩ ?_
          refine v_goto (pc := 130) 82 65 rfl (by decide) ?_
          exact iht
  · intro t ht ih
    have e56 := hn82 (gI M1 82)
    have hal := alM_lt v t
    have h16 : 2 ^ t ≤ 16 := Nat.pow_le_pow_right (n := 2) (j := 4) (by decide) (by omega)
    obtain ⟨-, -, -, q1, q2, q3⟩ := b9_low ⟨alM v t, by omega⟩ ⟨t, by omega⟩ hal
    have e : alM v (t + 1) = if v t = 0 then alM v t else alM v t + 2 ^ t := rfl
    rw [e] at ih
    have hvt := hvb t
    refine v_iload_n (pc := 9) 7 rfl rfl ?_
    refine v_aload_n (pc := 10) 8 rfl rfl ?_
    refine v_getC (pc := 11) 9 rfl fl_X12_13 rfl 56 rfl ?_
    refine v_iconst (pc := 14) 10 rfl ?_
    refine v_ialdN (kk := 0) (pc := 15) 11 rfl rfl (by decide) ?_
    refine v_ic_geF (pc := 16) 12 43 rfl (by decide) (by omega) (by omega) ?_
    refine v_iload_n (pc := 19) 13 rfl rfl ?_
    refine v_aload_n (pc := 20) 14 rfl rfl ?_
    refine v_iload_n (pc := 21) 15 rfl rfl ?_
    refine v_cV1i (pc := 22) 16 rfl cv_X12_360 rfl (Nat.le_of_ble_eq_true rfl) (Nat.le_of_ble_eq_true rfl) (cow _ t ht) ?_
    refine v_if_eq (pc := 25) 17 34 rfl (by decide) (by omega) (fun e1 => ?_) (fun e1 => ?_)
    · rw [if_pos e1] at ih
      refine v_iconst (pc := 34) 22 rfl ?_
      refine v_ior (pc := 35) 23 rfl ((alM v t : Int)) q3 ?_
      refine v_istore_n (pc := 36) 24 rfl ⟨Nat.le_of_ble_eq_true rfl, rfl⟩ ?_
      refine v_iinc (pc := 37) 25 rfl rfl ⟨Nat.le_of_ble_eq_true rfl, rfl⟩ ?_
      refine v_goto (pc := 40) 26 9 rfl (by decide) ?_
      exact ih
    · rw [if_neg e1] at ih
      refine v_iconst (pc := 28) 18 rfl ?_
      refine v_iload_n (pc := 29) 19 rfl rfl ?_
      refine v_ishl (pc := 30) 20 rfl (((2 ^ t : Nat) : Int)) (J_shl1 (by omega)) ?_
      refine v_goto (pc := 31) 21 35 rfl (by decide) ?_
      refine v_ior (pc := 35) 23 rfl (((alM v t + 2 ^ t : Nat) : Int)) q2 ?_
      refine v_istore_n (pc := 36) 24 rfl ⟨Nat.le_of_ble_eq_true rfl, rfl⟩ ?_
      refine v_iinc (pc := 37) 25 rfl rfl ⟨Nat.le_of_ble_eq_true rfl, rfl⟩ ?_
      refine v_goto (pc := 40) 26 9 rfl (by decide) ?_
      exact ih
end MPay
