/-! 23: what towns lent, owe, pay: the class -/
def lnt (T : Tx) (S : Sx) (a b : Int) (n : Nat) : Int := sumN (fun k => if S.1 k ≠ -1 ∧ tw T k = b ∧ hm T (S.1 k).toNat = a then le T k else 0) n
def ow (T : Tx) (S : Sx) (t : Nat) (n : Nat) : Int := sumN (fun o => if o = t then 0 else lnt T S o t (nK T) - lnt T S t o (nK T)) n
theorem lnt_b {T : Tx} (hT : TOk T) (S : Sx) (a b : Int) : 0 ≤ lnt T S a b (nK T) ∧ lnt T S a b (nK T) ≤ 3600 := by
  have h := sumN_b (f := fun k => if S.1 k ≠ -1 ∧ tw T k = b ∧ hm T (S.1 k).toNat = a then le T k else 0) (B := 300) (nK T) (fun k hk => by
    have := (hT.2.2.2.2.1 k hk).2.2.2.1
    split <;> omega)
  have := hT.2.2.1
  unfold lnt
  omega
theorem ow_b {T : Tx} (hT : TOk T) (S : Sx) (t : Nat) : -18000 ≤ ow T S t (nT T) ∧ ow T S t (nT T) ≤ 18000 := by
  have key : ∀ n : Nat, n ≤ 5 → -(3600 * (n : Int)) ≤ ow T S t n ∧ ow T S t n ≤ 3600 * (n : Int) := by
    intro n
    induction n with
    | zero => intro _; exact ⟨by show -(3600 * (0 : Int)) ≤ 0; omega, by show (0 : Int) ≤ 3600 * 0; omega⟩
    | succ n ih =>
      intro hn
      have ih := ih (by omega)
      have h1 := lnt_b hT S n t
      have h2 := lnt_b hT S t n
      show -(3600 * ((n + 1 : Nat) : Int)) ≤ ow T S t n + (if n = t then 0 else lnt T S n t (nK T) - lnt T S t n (nK T)) ∧ ow T S t n + (if n = t then 0 else lnt T S n t (nK T) - lnt T S t n (nK T)) ≤ 3600 * ((n + 1 : Nat) : Int)
      split <;> omega
  have h5 := hT.1
  have := key (nT T) h5
  omega
/-- the greatest number of groups of s less one town -/
def mg (g : Nat → Int) (s : Nat) : Nat → Int
  | 0 => 0
  | t + 1 => if bt s t = 0 then mg g s t else max (mg g s t) (g (s - 2 ^ t))
def sm (v : Nat → Int) (s : Nat) : Int := sumN (fun t => if bt s t = 1 then v t else 0) 5
def grT (v : Nat → Int) (n : Nat) : Nat → Nat → Int
  | 0 => fun _ => 0
  | k + 1 => up (grT v n k) k (if k = 0 then 0 else mg (grT v n k) k n + if sm v k = 0 then 1 else 0)
def gr (v : Nat → Int) (n : Nat) (s : Nat) : Int := grT v n (s + 1) s
theorem grT_lt (v : Nat → Int) (n : Nat) {s k : Nat} (h : s < k) : grT v n k s = gr v n s := by
  induction k with
  | zero => omega
  | succ k ih =>
    by_cases e : s = k
    · rw [e]; rfl
    · show up (grT v n k) k _ s = _
      unfold up
      rw [if_neg e]; exact ih (by omega)
theorem mg_congr {g g2 : Nat → Int} {s : Nat} (h : ∀ x, x < s → g x = g2 x) (n : Nat) : mg g s n = mg g2 s n := by
  induction n with
  | zero => rfl
  | succ n ih =>
    show (if bt s n = 0 then mg g s n else max (mg g s n) (g (s - 2 ^ n))) = (if bt s n = 0 then mg g2 s n else max (mg g2 s n) (g2 (s - 2 ^ n)))
    rw [ih]
    by_cases e : bt s n = 0
    · rw [if_pos e, if_pos e]
    · rw [if_neg e, if_neg e, h]
      have hp : 0 < 2 ^ n := Nat.two_pow_pos n
      have : 0 < s := by
        rcases Nat.eq_zero_or_pos s with q | q
        · subst q; exact absurd (by simp [bt]) e
        · exact q
      omega
theorem gr_eq (v : Nat → Int) (n s : Nat) : gr v n s = if s = 0 then 0 else mg (gr v n) s n + if sm v s = 0 then 1 else 0 := by
  show up (grT v n s) s _ s = _
  unfold up
  rw [if_pos rfl, mg_congr (fun x hx => grT_lt v n hx)]
theorem mg_b {g : Nat → Int} {s : Nat} {B : Int} (hB : 0 ≤ B) (h : ∀ x, x < s → 0 ≤ g x ∧ g x ≤ B) (n : Nat) : 0 ≤ mg g s n ∧ mg g s n ≤ B := by
  induction n with
  | zero => exact ⟨Int.le_refl 0, hB⟩
  | succ n ih =>
    show 0 ≤ (if bt s n = 0 then mg g s n else max (mg g s n) (g (s - 2 ^ n))) ∧ (if bt s n = 0 then mg g s n else max (mg g s n) (g (s - 2 ^ n))) ≤ B
    by_cases e : bt s n = 0
    · rw [if_pos e]; exact ih
    · rw [if_neg e]
      have hp : 0 < 2 ^ n := Nat.two_pow_pos n
      have : 0 < s := by
        rcases Nat.eq_zero_or_pos s with q | q
        · subst q; exact absurd (by simp [bt]) e
        · exact q
      have := h (s - 2 ^ n) (by omega)
      omega
theorem gr_b (v : Nat → Int) (n s : Nat) : 0 ≤ gr v n s ∧ gr v n s ≤ s := by
  induction s using Nat.strongRecOn with
  | ind s ih =>
    rw [gr_eq]
    by_cases e : s = 0
    · rw [if_pos e]; omega
    · rw [if_neg e]
      have := mg_b (g := gr v n) (s := s) (B := (s : Int) - 1) (by omega) (fun x hx => by have := ih x hx; omega) n
      split <;> omega
theorem bt_low : ∀ s : Fin 32, (s : Nat) ≠ 0 → ∃ i : Fin 5, 2 ^ (i : Nat) ≤ (s : Nat) ∧ bt (s : Nat) (i : Nat) = 1 ∧ (∀ t : Fin 5, bt ((s : Nat) - 2 ^ (i : Nat) : Nat) (t : Nat) = if (t : Nat) = (i : Nat) then 0 else bt (s : Nat) (t : Nat)) ∧ J (s : Nat) &&& J (-((s : Nat) : Int)) = J ((2 ^ (i : Nat) : Nat) : Int) ∧ J (s : Nat) &&& J (((s : Nat) : Int) - 1) = J (((s : Nat) - 2 ^ (i : Nat) : Nat) : Int) := by decide +kernel
theorem bt_pow : ∀ i t : Fin 5, bt ((2 ^ (i : Nat) : Nat) : Int) (t : Nat) = if (t : Nat) = (i : Nat) then 1 else 0 := by decide +kernel
theorem bt_xor : ∀ s : Fin 32, ∀ t : Fin 5, bt (s : Nat) (t : Nat) ≠ 0 → 2 ^ (t : Nat) ≤ (s : Nat) ∧ J (s : Nat) ^^^ J ((2 ^ (t : Nat) : Nat) : Int) = J (((s : Nat) - 2 ^ (t : Nat) : Nat) : Int) := by decide +kernel
theorem sm_low (v : Nat → Int) {s : Nat} (hs : s < 32) (h0 : s ≠ 0) : ∃ i, i < 5 ∧ 2 ^ i ≤ s ∧ J (s : Int) &&& J (-(s : Int)) = J ((2 ^ i : Nat) : Int) ∧ J (s : Int) &&& J ((s : Int) - 1) = J ((s - 2 ^ i : Nat) : Int) ∧ sm v s = v i + sm v (s - 2 ^ i) := by
  obtain ⟨⟨i, hi⟩, h1, h2, h3, h4, h5⟩ := bt_low ⟨s, hs⟩ h0
  refine ⟨i, hi, h1, h4, h5, ?_⟩
  unfold sm sumN sumN sumN sumN sumN sumN
  have c0 : bt ((s - 2 ^ i : Nat) : Int) ((0 : Nat) : Int) = if 0 = i then 0 else bt (s : Int) ((0 : Nat) : Int) := h3 0
  have c1 : bt ((s - 2 ^ i : Nat) : Int) ((1 : Nat) : Int) = if 1 = i then 0 else bt (s : Int) ((1 : Nat) : Int) := h3 1
  have c2 : bt ((s - 2 ^ i : Nat) : Int) ((2 : Nat) : Int) = if 2 = i then 0 else bt (s : Int) ((2 : Nat) : Int) := h3 2
  have c3 : bt ((s - 2 ^ i : Nat) : Int) ((3 : Nat) : Int) = if 3 = i then 0 else bt (s : Int) ((3 : Nat) : Int) := h3 3
  have c4 : bt ((s - 2 ^ i : Nat) : Int) ((4 : Nat) : Int) = if 4 = i then 0 else bt (s : Int) ((4 : Nat) : Int) := h3 4
  have h2 : bt (s : Int) (i : Int) = 1 := h2
  rw [c0, c1, c2, c3, c4]
  rcases (show i = 0 ∨ i = 1 ∨ i = 2 ∨ i = 3 ∨ i = 4 by omega) with rfl | rfl | rfl | rfl | rfl <;> generalize bt (s : Int) ((0 : Nat) : Int) = x0 at h2 ⊢ <;> generalize bt (s : Int) ((1 : Nat) : Int) = x1 at h2 ⊢ <;> generalize bt (s : Int) ((2 : Nat) : Int) = x2 at h2 ⊢ <;> generalize bt (s : Int) ((3 : Nat) : Int) = x3 at h2 ⊢ <;> generalize bt (s : Int) ((4 : Nat) : Int) = x4 at h2 ⊢ <;> subst h2 <;> simp <;> omega
theorem sm_pow (v : Nat → Int) {i : Nat} (hi : i < 5) : sm v (2 ^ i) = v i := by
  have h := fun t : Fin 5 => bt_pow ⟨i, hi⟩ t
  have b0 : bt ((2 ^ i : Nat) : Int) ((0 : Nat) : Int) = if 0 = i then 1 else 0 := h 0
  have b1 : bt ((2 ^ i : Nat) : Int) ((1 : Nat) : Int) = if 1 = i then 1 else 0 := h 1
  have b2 : bt ((2 ^ i : Nat) : Int) ((2 : Nat) : Int) = if 2 = i then 1 else 0 := h 2
  have b3 : bt ((2 ^ i : Nat) : Int) ((3 : Nat) : Int) = if 3 = i then 1 else 0 := h 3
  have b4 : bt ((2 ^ i : Nat) : Int) ((4 : Nat) : Int) = if 4 = i then 1 else 0 := h 4
  unfold sm sumN sumN sumN sumN sumN sumN
  rw [b0, b1, b2, b3, b4]
  rcases (show i = 0 ∨ i = 1 ∨ i = 2 ∨ i = 3 ∨ i = 4 by omega) with rfl | rfl | rfl | rfl | rfl <;> simp
theorem sm_b {v : Nat → Int} {B : Int} (h : ∀ t, t < 5 → -B ≤ v t ∧ v t ≤ B) (hB : 0 ≤ B) (s : Nat) : -(5 * B) ≤ sm v s ∧ sm v s ≤ 5 * B := by
  have h0 := h 0 (by omega)
  have h1 := h 1 (by omega)
  have h2 := h 2 (by omega)
  have h3 := h 3 (by omega)
  have h4 := h 4 (by omega)
  unfold sm sumN sumN sumN sumN sumN sumN
  have k0 : -B ≤ (if bt (s : Int) ((0 : Nat) : Int) = 1 then v 0 else 0) ∧ (if bt (s : Int) ((0 : Nat) : Int) = 1 then v 0 else 0) ≤ B := by split <;> omega
  have k1 : -B ≤ (if bt (s : Int) ((1 : Nat) : Int) = 1 then v 1 else 0) ∧ (if bt (s : Int) ((1 : Nat) : Int) = 1 then v 1 else 0) ≤ B := by split <;> omega
  have k2 : -B ≤ (if bt (s : Int) ((2 : Nat) : Int) = 1 then v 2 else 0) ∧ (if bt (s : Int) ((2 : Nat) : Int) = 1 then v 2 else 0) ≤ B := by split <;> omega
  have k3 : -B ≤ (if bt (s : Int) ((3 : Nat) : Int) = 1 then v 3 else 0) ∧ (if bt (s : Int) ((3 : Nat) : Int) = 1 then v 3 else 0) ≤ B := by split <;> omega
  have k4 : -B ≤ (if bt (s : Int) ((4 : Nat) : Int) = 1 then v 4 else 0) ∧ (if bt (s : Int) ((4 : Nat) : Int) = 1 then v 4 else 0) ≤ B := by split <;> omega
  omega
section Debts
variable {G : Gt} {d : Nat} {M : Mem} {c : Nat}
theorem c_lent (h : CI M c) {a b : Int} (ha : -2147483648 ≤ a ∧ a ≤ 2147483647) (hb : -2147483648 ≤ b ∧ b ≤ 2147483647) : V G (d + 1) mX5_minutesLent 0 [some (.ref 26), some (.int (J a)), some (.int (J b)), none, none, none] [] M (Ret (some (.int (J (lnt (tOf M c) (sOf M) a b (nK (tOf M c)))))) M) := by
  have hn := h.n
  obtain ⟨hc, hca, h0, h1, h2, hT, hS⟩ := h
  refine v_aload_n (pc := 0) 0 rfl rfl ?_
  refine v_getC (pc := 1) 1 rfl fl_X5_18 rfl 8 rfl ?_
  refine v_getR (pc := 4) 2 rfl fl_X5_22 rfl _ hca ?_
  refine v_astore_n (pc := 7) 3 rfl ⟨Nat.le_of_ble_eq_true rfl, rfl⟩ ?_
  refine v_iconst (pc := 8) 4 rfl ?_
  refine v_istore (pc := 9) 5 rfl ⟨Nat.le_of_ble_eq_true rfl, rfl⟩ ?_
  refine v_iconst (pc := 11) 6 rfl ?_
  refine v_istore (pc := 12) 7 rfl ⟨Nat.le_of_ble_eq_true rfl, rfl⟩ ?_
  refine loopN (N := nK (tOf M c)) (fun k => V G (d + 1) mX5_minutesLent 14 [some (.ref 26), some (.int (J a)), some (.int (J b)), some (.ref c), some (.int (J (lnt (tOf M c) (sOf M) a b k))), some (.int (J (k : Int)))] [] M (Ret (some (.int (J (lnt (tOf M c) (sOf M) a b (nK (tOf M c)))))) M)) ?_ ?_
  · refine v_iload (pc := 14) 8 rfl rfl ?_
    refine v_aload_n (pc := 16) 9 rfl rfl ?_
    refine v_getI (pc := 17) 10 rfl fl_X5_28 (shC hc) ?_
    refine v_ic_geT (pc := 20) 11 83 rfl (by decide) (by omega) (by omega) ?_
    refine v_iload (pc := 83) 42 rfl rfl ?_
    refine v_iret (pc := 85) 43 rfl rfl ⟨rfl, rfl⟩
  · intro k hk ih
    have hb9 : (-1 ≤ gI M 9 k ∧ gI M 9 k < 6) ∧ (-1 ≤ gI M 10 k ∧ gI M 10 k ≤ 60) := hS.b hT (by omega)
    have ht2 : 0 ≤ gI M (c + 6) k ∧ gI M (c + 6) k < nT (tOf M c) := (hT.2.2.2.2.1 k hk).1
    have hm : lnt (tOf M c) (sOf M) a b (k + 1) = lnt (tOf M c) (sOf M) a b k + (if gI M 9 k ≠ -1 ∧ gI M (c + 6) k = b ∧ gI M (c + 2) (gI M 9 k).toNat = a then gI M (c + 9) k else 0) := rfl
    rw [hm] at ih
    refine v_iload (pc := 14) 8 rfl rfl ?_
    refine v_aload_n (pc := 16) 9 rfl rfl ?_
    refine v_getI (pc := 17) 10 rfl fl_X5_28 (shC hc) ?_
    refine v_ic_geF (pc := 20) 11 83 rfl (by decide) (by omega) (by omega) ?_
    refine v_aload_n (pc := 23) 12 rfl rfl ?_
    refine v_getC (pc := 24) 13 rfl fl_X5_18 rfl 8 rfl ?_
    refine v_iload (pc := 27) 14 rfl rfl ?_
    refine v_cV1i (pc := 29) 15 rfl cv_X5_34 rfl (Nat.le_of_ble_eq_true rfl) (Nat.le_of_ble_eq_true rfl) (c_hasSitting (by omega) (by omega)) ?_
    refine v_if_eq (pc := 32) 16 77 rfl (by decide) (by omega) (fun e1 => ?_) (fun e1 => ?_)
    · rw [if_neg (by omega), Int.add_zero] at ih
      refine v_iinc (pc := 77) 40 rfl rfl ⟨Nat.le_of_ble_eq_true rfl, rfl⟩ ?_
      refine v_goto (pc := 80) 41 14 rfl (by decide) ?_
      exact ih
    · refine v_aload_n (pc := 35) 17 rfl rfl ?_
      refine v_getC (pc := 36) 18 rfl fl_X5_38 (shC hc) _ (rtC_8 hc) ?_
      refine v_iload (pc := 39) 19 rfl rfl ?_
      refine v_ialdN (pc := 41) 20 rfl (shC_8 hc) (by omega) ?_
      refine v_iload_n (pc := 42) 21 rfl rfl ?_
      refine v_ic_ne (pc := 43) 22 77 rfl (by decide) (by omega) (fun e2 => ?_) (fun e2 => ?_)
      · rw [if_neg (by omega), Int.add_zero] at ih
        refine v_iinc (pc := 77) 40 rfl rfl ⟨Nat.le_of_ble_eq_true rfl, rfl⟩ ?_
        refine v_goto (pc := 80) 41 14 rfl (by decide) ?_
        exact ih
      · have hj : 0 ≤ gI M 9 k ∧ gI M 9 k < nJ (tOf M c) := by
          rcases hS k (by omega) with q | q
          · have : gI M 9 k = -1 := q.1
            omega
          · exact q.2.1
        have hh : 0 ≤ gI M (c + 2) (gI M 9 k).toNat ∧ gI M (c + 2) (gI M 9 k).toNat < nT (tOf M c) := (hT.2.2.2.1 (gI M 9 k).toNat (by omega)).1
        refine v_aload_n (pc := 46) 23 rfl rfl ?_
        refine v_getC (pc := 47) 24 rfl fl_X5_41 (shC hc) _ (rtC_4 hc) ?_
        refine v_aload_n (pc := 50) 25 rfl rfl ?_
        refine v_getC (pc := 51) 26 rfl fl_X5_18 rfl 8 rfl ?_
        refine v_getC (pc := 54) 27 rfl fl_X5_44 rfl 9 rfl ?_
        refine v_iload (pc := 57) 28 rfl rfl ?_
        refine v_ialdN (pc := 59) 29 rfl rfl (by omega) ?_
        refine v_ialdE (pc := 60) 30 rfl (shC_4 hc) (gI M 9 k).toNat (by omega) ?_
        refine v_iload_n (pc := 61) 31 rfl rfl ?_
        refine v_ic_ne (pc := 62) 32 77 rfl (by decide) (by omega) (fun e3 => ?_) (fun e3 => ?_)
        · rw [if_neg (by omega), Int.add_zero] at ih
          refine v_iinc (pc := 77) 40 rfl rfl ⟨Nat.le_of_ble_eq_true rfl, rfl⟩ ?_
          refine v_goto (pc := 80) 41 14 rfl (by decide) ?_
          exact ih
        · rw [if_pos (by omega)] at ih
          refine v_iload (pc := 65) 33 rfl rfl ?_
          refine v_aload_n (pc := 67) 34 rfl rfl ?_
          refine v_getC (pc := 68) 35 rfl fl_X5_47 (shC hc) _ (rtC_11 hc) ?_
          refine v_iload (pc := 71) 36 rfl rfl ?_
          refine v_ialdN (pc := 73) 37 rfl (shC_11 hc) (by omega) ?_
          refine v_iadd (pc := 74) 38 rfl ?_
          refine v_istore (pc := 75) 39 rfl ⟨Nat.le_of_ble_eq_true rfl, rfl⟩ ?_
          refine v_iinc (pc := 77) 40 rfl rfl ⟨Nat.le_of_ble_eq_true rfl, rfl⟩ ?_
          refine v_goto (pc := 80) 41 14 rfl (by decide) ?_
          exact ih
theorem c_owedBy (h : CI M c) {t : Nat} (ht : t < nT (tOf M c)) : V G (d + 2) mX5_owedBy 0 [some (.ref 26), some (.int (J (t : Int))), none, none] [] M (Ret (some (.int (J (ow (tOf M c) (sOf M) t (nT (tOf M c)))))) M) := by
  have hn := h.n
  have hI := h
  obtain ⟨hc, hca, h0, h1, h2, hT, hS⟩ := h
  refine v_iconst (pc := 0) 0 rfl ?_
  refine v_istore_n (pc := 1) 1 rfl ⟨Nat.le_of_ble_eq_true rfl, rfl⟩ ?_
  refine v_iconst (pc := 2) 2 rfl ?_
  refine v_istore_n (pc := 3) 3 rfl ⟨Nat.le_of_ble_eq_true rfl, rfl⟩ ?_
  refine loopN (N := nT (tOf M c)) (fun o => V G (d + 2) mX5_owedBy 4 [some (.ref 26), some (.int (J (t : Int))), some (.int (J (ow (tOf M c) (sOf M) t o))), some (.int (J (o : Int)))] [] M (Ret (some (.int (J (ow (tOf M c) (sOf M) t (nT (tOf M c)))))) M)) ?_ ?_
  · refine v_iload_n (pc := 4) 4 rfl rfl ?_
    refine v_aload_n (pc := 5) 5 rfl rfl ?_
    refine v_getC (pc := 6) 6 rfl fl_X5_18 rfl 8 rfl ?_
    refine v_getR (pc := 9) 7 rfl fl_X5_22 rfl _ hca ?_
    refine v_getI (pc := 12) 8 rfl fl_X5_50 (shC hc) ?_
    refine v_ic_geT (pc := 15) 9 45 rfl (by decide) (by omega) (by omega) ?_
    refine v_iload_n (pc := 45) 27 rfl rfl ?_
    refine v_iret (pc := 46) 28 rfl rfl ⟨rfl, rfl⟩
  · intro o ho ih
    have hm : ow (tOf M c) (sOf M) t (o + 1) = ow (tOf M c) (sOf M) t o + (if o = t then 0 else lnt (tOf M c) (sOf M) o t (nK (tOf M c)) - lnt (tOf M c) (sOf M) t o (nK (tOf M c))) := rfl
    rw [hm] at ih
    refine v_iload_n (pc := 4) 4 rfl rfl ?_
    refine v_aload_n (pc := 5) 5 rfl rfl ?_
    refine v_getC (pc := 6) 6 rfl fl_X5_18 rfl 8 rfl ?_
    refine v_getR (pc := 9) 7 rfl fl_X5_22 rfl _ hca ?_
    refine v_getI (pc := 12) 8 rfl fl_X5_50 (shC hc) ?_
    refine v_ic_geF (pc := 15) 9 45 rfl (by decide) (by omega) (by omega) ?_
    refine v_iload_n (pc := 18) 10 rfl rfl ?_
    refine v_iload_n (pc := 19) 11 rfl rfl ?_
    refine v_ic_eq (pc := 20) 12 39 rfl (by decide) (by omega) (fun e1 => ?_) (fun e1 => ?_)
    · rw [if_pos (by omega), Int.add_zero] at ih
      refine v_iinc (pc := 39) 25 rfl rfl ⟨Nat.le_of_ble_eq_true rfl, rfl⟩ ?_
      refine v_goto (pc := 42) 26 4 rfl (by decide) ?_
      exact ih
    · rw [if_neg (by omega)] at ih
      refine v_iload_n (pc := 23) 13 rfl rfl ?_
      refine v_aload_n (pc := 24) 14 rfl rfl ?_
      refine v_iload_n (pc := 25) 15 rfl rfl ?_
      refine v_iload_n (pc := 26) 16 rfl rfl ?_
      refine v_cV2i (pc := 27) 17 rfl cv_X5_53 rfl (Nat.le_of_ble_eq_true rfl) (Nat.le_of_ble_eq_true rfl) (c_lent hI (by omega) (by omega)) ?_
      refine v_aload_n (pc := 30) 18 rfl rfl ?_
      refine v_iload_n (pc := 31) 19 rfl rfl ?_
      refine v_iload_n (pc := 32) 20 rfl rfl ?_
      refine v_cV2i (pc := 33) 21 rfl cv_X5_53 rfl (Nat.le_of_ble_eq_true rfl) (Nat.le_of_ble_eq_true rfl) (c_lent hI (by omega) (by omega)) ?_
      refine v_isub (pc := 36) 22 rfl ?_
      refine v_iadd (pc := 37) 23 rfl ?_
      refine v_istore_n (pc := 38) 24 rfl ⟨Nat.le_of_ble_eq_true rfl, rfl⟩ ?_
      refine v_iinc (pc := 39) 25 rfl rfl ⟨Nat.le_of_ble_eq_true rfl, rfl⟩ ?_
      refine v_goto (pc := 42) 26 4 rfl (by decide) ?_
      exact ih
theorem sh32 : ∀ a : Fin 32, ∀ b : Fin 6, J ((a : Nat) : Int) >>> (J ((b : Nat) : Int) &&& 31) = J (((a : Nat) : Int) / 2 ^ (b : Nat)) := by decide +kernel
theorem c_mostGroups {s n : Nat} (hs : s < 32) (hn : n ≤ 5) {g : Nat → Int} (hg : ∀ x, x < s → gI M 28 x = g x ∧ 0 ≤ g x ∧ g x ≤ 100) : V G (d + 1) mX5_mostGroups 0 [some (.ref 26), some (.int (J (s : Int))), some (.int (J (n : Int))), none, none] [] M (Ret (some (.int (J (mg g s n)))) M) := by
  refine v_iconst (pc := 0) 0 rfl ?_
  refine v_istore_n (pc := 1) 1 rfl ⟨Nat.le_of_ble_eq_true rfl, rfl⟩ ?_
  refine v_iconst (pc := 2) 2 rfl ?_
  refine v_istore (pc := 3) 3 rfl ⟨Nat.le_of_ble_eq_true rfl, rfl⟩ ?_
  refine loopN (N := n) (fun t => V G (d + 1) mX5_mostGroups 5 [some (.ref 26), some (.int (J (s : Int))), some (.int (J (n : Int))), some (.int (J (mg g s t))), some (.int (J (t : Int)))] [] M (Ret (some (.int (J (mg g s n)))) M)) ?_ ?_
  · refine v_iload (pc := 5) 4 rfl rfl ?_
    refine v_iload_n (pc := 7) 5 rfl rfl ?_
    refine v_ic_geT (pc := 8) 6 42 rfl (by decide) (by omega) (by omega) ?_
    refine v_iload_n (pc := 42) 26 rfl rfl ?_
    refine v_iret (pc := 43) 27 rfl rfl ⟨rfl, rfl⟩
  · intro t ht ih
    have hb := mg_b (g := g) (s := s) (B := 100) (by omega) (fun x hx => (hg x hx).2) t
    have hm : mg g s (t + 1) = if bt s t = 0 then mg g s t else max (mg g s t) (g (s - 2 ^ t)) := rfl
    have h01 := bt_01 (s : Int) (t : Int)
    rw [hm] at ih
    refine v_iload (pc := 5) 4 rfl rfl ?_
    refine v_iload_n (pc := 7) 5 rfl rfl ?_
    refine v_ic_geF (pc := 8) 6 42 rfl (by decide) (by omega) (by omega) ?_
    refine v_iload_n (pc := 11) 7 rfl rfl ?_
    refine v_iload (pc := 12) 8 rfl rfl ?_
    refine v_ishr (pc := 14) 9 rfl ((s : Int) / 2 ^ (t : Int).toNat) (J_shr (by omega)) ?_
    refine v_iconst (pc := 15) 10 rfl ?_
    refine v_iand (pc := 16) 11 rfl (bt (s : Int) t) (J_bt (by omega)) ?_
    refine v_if_eq (pc := 17) 12 36 rfl (by decide) (by omega) (fun e1 => ?_) (fun e1 => ?_)
    · rw [if_pos e1] at ih
      refine v_iinc (pc := 36) 24 rfl rfl ⟨Nat.le_of_ble_eq_true rfl, rfl⟩ ?_
      refine v_goto (pc := 39) 25 5 rfl (by decide) ?_
      exact ih
    · rw [if_neg e1] at ih
      obtain ⟨p1, p2⟩ := bt_xor ⟨s, hs⟩ ⟨t, by omega⟩ e1
      have p1 : 2 ^ t ≤ s := p1
      have hp : 0 < 2 ^ t := Nat.two_pow_pos t
      have hgx := hg (s - 2 ^ t) (by omega)
      refine v_iload_n (pc := 20) 13 rfl rfl ?_
      refine v_aload_n (pc := 21) 14 rfl rfl ?_
      refine v_getC (pc := 22) 15 rfl fl_X5_15 rfl 28 rfl ?_
      refine v_iload_n (pc := 25) 16 rfl rfl ?_
      refine v_iconst (pc := 26) 17 rfl ?_
      refine v_iload (pc := 27) 18 rfl rfl ?_
      refine v_ishl (pc := 29) 19 rfl (((2 ^ t : Nat) : Int)) (J_shl1 (by omega)) ?_
      refine v_ixor (pc := 30) 20 rfl (((s - 2 ^ t : Nat) : Int)) p2 ?_
      refine v_ialdN (pc := 31) 21 rfl rfl (by omega) ?_
      rw [hgx.1]
      refine v_mmax (pc := 32) 22 rfl ml_X5_64 (by omega) (Nat.le_of_ble_eq_true rfl) ?_
      refine v_istore_n (pc := 35) 23 rfl ⟨Nat.le_of_ble_eq_true rfl, rfl⟩ ?_
      refine v_iinc (pc := 36) 24 rfl rfl ⟨Nat.le_of_ble_eq_true rfl, rfl⟩ ?_
      refine v_goto (pc := 39) 25 5 rfl (by decide) ?_
      exact ih
theorem CI.s27 {M : Mem} {c : Nat} (f g : Nat → Int) (h : CI M c) : CI (aI (aI M 27 f) 28 g) c ∧ tOf (aI (aI M 27 f) 28 g) c = tOf M c ∧ sOf (aI (aI M 27 f) 28 g) = sOf M := by
  have hne : ∀ a, a ≠ 27 → a ≠ 28 → gI (aI (aI M 27 f) 28 g) a = gI M a := fun a h1 h2 => by rw [gI_aI_ne h2, gI_aI_ne h1]
  have e1 : ∀ j, j ≤ 10 → gI (aI (aI M 27 f) 28 g) (c + j) = gI M (c + j) := fun j hj => hne _ (by rcases h.1 with e | e <;> omega) (by rcases h.1 with e | e <;> omega)
  have e2 : sOf (aI (aI M 27 f) 28 g) = sOf M := by unfold sOf; rw [hne 9 (by decide) (by decide), hne 10 (by decide) (by decide)]
  exact ⟨h.keep e1 rfl (by rw [e2]; exact h.2.2.2.2.2.2), tOf_eq e1, e2⟩
theorem s27_27 (M : Mem) (f g : Nat → Int) (i : Nat) (v : Int) : sI (aI (aI M 27 f) 28 g) 27 i v = aI (aI M 27 (up f i v)) 28 g := by
  refine Mem_ext (fun a b => ?_) (fun _ _ => rfl) (fun _ _ => rfl)
  by_cases e : a = 27
  · subst e
    rw [gI_sI, if_pos rfl, gI_aI_ne (by decide), gI_aI, if_pos rfl, gI_aI_ne (by decide), gI_aI, if_pos rfl]
    rfl
  · rw [gI_sI_ne e]
    by_cases e2 : a = 28
    · rw [e2, gI_aI, if_pos rfl, gI_aI, if_pos rfl]
    · rw [gI_aI_ne e2, gI_aI_ne e2, gI_aI_ne e, gI_aI_ne e]
theorem s27_28 (M : Mem) (f g : Nat → Int) (i : Nat) (v : Int) : sI (aI (aI M 27 f) 28 g) 28 i v = aI (aI M 27 f) 28 (up g i v) := sI_aI _ _ _ _ _
theorem shl1n : ∀ b : Fin 6, J 1 <<< (J ((b : Nat) : Int) &&& 31) = J ((2 ^ (b : Nat) : Nat) : Int) := by decide +kernel
set_option maxHeartbeats 4000000 in
theorem c_payments (h : CI M c) : V G (d + 3) mX5_fewestPayments 0 [some (.ref 26), none, none, none] [] M (fun r N => r = some (.int (J ((nT (tOf M c) : Int) - gr (fun t => ow (tOf M c) (sOf M) t (nT (tOf M c))) (nT (tOf M c)) (2 ^ nT (tOf M c) - 1)))) ∧ ∃ f g, N = aI (aI M 27 f) 28 g) := by
  have hn := h.n
  have hI := h
  obtain ⟨hc, hca, h0, h1, h2, hT, hS⟩ := h
  generalize hv9 : (fun t => ow (tOf M c) (sOf M) t (nT (tOf M c))) = v
  have hvb : ∀ t, -18000 ≤ v t ∧ v t ≤ 18000 := fun t => by rw [← hv9]; exact ow_b hT _ t
  have hn0 := hn.1
  have hn5 : nT (tOf M c) ≤ 5 := hT.1
  generalize hnn : nT (tOf M c) = n at hn0 hn5
  have hpw : 1 ≤ 2 ^ n ∧ 2 ^ n ≤ 32 := by
    rcases (show n = 0 ∨ n = 1 ∨ n = 2 ∨ n = 3 ∨ n = 4 ∨ n = 5 by omega) with e | e | e | e | e | e <;> subst e <;> decide
  generalize hQ : (fun (r : Option Value) (N : Mem) => r = some (.int (J ((n : Int) - gr v n (2 ^ n - 1)))) ∧ ∃ f g, N = aI (aI M 27 f) 28 g) = Q
  refine v_aload_n (pc := 0) 0 rfl rfl ?_
  refine v_getC (pc := 1) 1 rfl fl_X5_18 rfl 8 rfl ?_
  refine v_getR (pc := 4) 2 rfl fl_X5_22 rfl _ hca ?_
  refine v_getI (pc := 7) 3 rfl fl_X5_50 (shC hc) ?_
  rw [hn0]
  refine v_istore_n (pc := 10) 4 rfl ⟨Nat.le_of_ble_eq_true rfl, rfl⟩ ?_
  refine v_iconst (pc := 11) 5 rfl ?_
  refine v_iload_n (pc := 12) 6 rfl rfl ?_
  refine v_ishl (pc := 13) 7 rfl (((2 ^ n : Nat) : Int)) (J_shl1 (by omega)) ?_
  refine v_istore_n (pc := 14) 8 rfl ⟨Nat.le_of_ble_eq_true rfl, rfl⟩ ?_
  refine v_aload_n (pc := 15) 9 rfl rfl ?_
  refine v_getC (pc := 16) 10 rfl fl_X5_9 rfl 27 rfl ?_
  refine v_iconst (pc := 19) 11 rfl ?_
  refine v_iconst (pc := 20) 12 rfl ?_
  refine v_iastN (kk := 0) (pc := 21) 13 rfl rfl (by decide) ?_
  refine v_aload_n (pc := 22) 14 rfl rfl ?_
  refine v_getC (pc := 23) 15 rfl fl_X5_15 rfl 28 rfl ?_
  refine v_iconst (pc := 26) 16 rfl ?_
  refine v_iconst (pc := 27) 17 rfl ?_
  refine v_iastN (kk := 0) (pc := 28) 18 rfl rfl (by decide) ?_
  refine v_iconst (pc := 29) 19 rfl ?_
  refine v_istore_n (pc := 30) 20 rfl ⟨Nat.le_of_ble_eq_true rfl, rfl⟩ ?_
  have start : sI (sI M 27 0 0) 28 0 0 = aI (aI M 27 (up (gI M 27) 0 0)) 28 (up (gI M 28) 0 0) := by
    have e : M = aI (aI M 27 (gI M 27)) 28 (gI M 28) := by
      rw [aI_self]; exact (aI_self M 28).symm
    have e2 : sI (sI M 27 0 0) 28 0 0 = sI (sI (aI (aI M 27 (gI M 27)) 28 (gI M 28)) 27 0 0) 28 0 0 := by rw [← e]
    rw [e2, s27_27, s27_28]
  rw [start]
  have l1 := loopN (N := n) (fun t => ∀ f, f 0 = 0 → (∀ i, i < t → f (2 ^ i) = v i) → V G (d + 3) mX5_fewestPayments 31 [some (.ref 26), some (.int (J (n : Int))), some (.int (J ((2 ^ n : Nat) : Int))), some (.int (J (t : Int)))] [] (aI (aI M 27 f) 28 (up (gI M 28) 0 0)) Q) ?_ ?_
  · exact l1 _ (by unfold up; rw [if_pos rfl]) (fun i hi => by omega)
  · intro f hf0 hf
    refine v_iload_n (pc := 31) 21 rfl rfl ?_
    refine v_iload_n (pc := 32) 22 rfl rfl ?_
    refine v_ic_geT (pc := 33) 23 55 rfl (by decide) (by omega) (by omega) ?_
    refine v_iconst (pc := 55) 35 rfl ?_
    refine v_istore_n (pc := 56) 36 rfl ⟨Nat.le_of_ble_eq_true rfl, rfl⟩ ?_
    have l2 := loopN (N := 2 ^ n - 1) (fun k => ∀ f g, (∀ s, s ≤ k → f s = sm v s) → (∀ i, i < n → f (2 ^ i) = v i) → (∀ s, s ≤ k → g s = gr v n s) → V G (d + 3) mX5_fewestPayments 57 [some (.ref 26), some (.int (J (n : Int))), some (.int (J ((2 ^ n : Nat) : Int))), some (.int (J ((k + 1 : Nat) : Int)))] [] (aI (aI M 27 f) 28 g) Q) ?_ ?_
    · refine l2 f _ (fun s hs => ?_) hf (fun s hs => ?_)
      · rw [show s = 0 by omega, hf0]; rfl
      · rw [show s = 0 by omega]; unfold up; rw [if_pos rfl, gr_eq, if_pos rfl]
    · intro f g hf hf2 hg
      have e9 : gI (aI (aI M 27 f) 28 g) 28 (2 ^ n - 1) = gr v n (2 ^ n - 1) := by rw [gI_aI, if_pos rfl]; exact hg _ (Nat.le_refl _)
      refine v_iload_n (pc := 57) 37 rfl rfl ?_
      refine v_iload_n (pc := 58) 38 rfl rfl ?_
      refine v_ic_geT (pc := 59) 39 121 rfl (by decide) (by omega) (by omega) ?_
      refine v_iload_n (pc := 121) 79 rfl rfl ?_
      refine v_aload_n (pc := 122) 80 rfl rfl ?_
      refine v_getC (pc := 123) 81 rfl fl_X5_15 rfl 28 rfl ?_
      refine v_iload_n (pc := 126) 82 rfl rfl ?_
      refine v_iconst (pc := 127) 83 rfl ?_
      refine v_isub (pc := 128) 84 rfl ?_
      refine v_ialdE (pc := 129) 85 rfl rfl (2 ^ n - 1) (by omega) ?_
      rw [e9]
      refine v_isub (pc := 130) 86 rfl ?_
      refine v_iret (pc := 131) 87 rfl rfl (by rw [← hQ]; exact ⟨rfl, f, g, rfl⟩)
    · intro k hk ih f g hf hf2 hg
      obtain ⟨i, i5, p1, p2, p3, p4⟩ := sm_low v (s := k + 1) (by omega) (by omega)
      have hpi : 0 < 2 ^ i := Nat.two_pow_pos i
      have hin : i < n := by
        rcases Nat.lt_or_ge i n with q | q
        · exact q
        · have := Nat.pow_le_pow_right (n := 2) (by omega) q; omega
      have f1 : gI (aI (aI M 27 f) 28 g) 27 (2 ^ i) = v i := by rw [gI_aI_ne (by decide), gI_aI, if_pos rfl]; exact hf2 i hin
      have f2 : gI (aI (aI M 27 f) 28 g) 27 (k + 1 - 2 ^ i) = sm v (k + 1 - 2 ^ i) := by rw [gI_aI_ne (by decide), gI_aI, if_pos rfl]; exact hf _ (by omega)
      refine v_iload_n (pc := 57) 37 rfl rfl ?_
      refine v_iload_n (pc := 58) 38 rfl rfl ?_
      refine v_ic_geF (pc := 59) 39 121 rfl (by decide) (by omega) (by omega) ?_
      refine v_aload_n (pc := 62) 40 rfl rfl ?_
      refine v_getC (pc := 63) 41 rfl fl_X5_9 rfl 27 rfl ?_
      refine v_iload_n (pc := 66) 42 rfl rfl ?_
      refine v_aload_n (pc := 67) 43 rfl rfl ?_
      refine v_getC (pc := 68) 44 rfl fl_X5_9 rfl 27 rfl ?_
      refine v_iload_n (pc := 71) 45 rfl rfl ?_
      refine v_iload_n (pc := 72) 46 rfl rfl ?_
      refine v_ineg (pc := 73) 47 rfl ?_
      refine v_iand (pc := 74) 48 rfl (((2 ^ i : Nat) : Int)) p2 ?_
      refine v_ialdN (pc := 75) 49 rfl rfl (by omega) ?_
      rw [f1]
      refine v_aload_n (pc := 76) 50 rfl rfl ?_
      refine v_getC (pc := 77) 51 rfl fl_X5_9 rfl 27 rfl ?_
      refine v_iload_n (pc := 80) 52 rfl rfl ?_
      refine v_iload_n (pc := 81) 53 rfl rfl ?_
      refine v_iconst (pc := 82) 54 rfl ?_
      refine v_isub (pc := 83) 55 rfl ?_
      refine v_iand (pc := 84) 56 rfl (((k + 1 - 2 ^ i : Nat) : Int)) p3 ?_
      refine v_ialdN (pc := 85) 57 rfl rfl (by omega) ?_
      rw [f2]
      refine v_iadd (pc := 86) 58 rfl ?_
      refine v_iastN (pc := 87) 59 rfl rfl (by omega) ?_
      rw [← p4, s27_27]
      have hgr := fun s => gr_b v n s
      have e28 : ∀ x, x < k + 1 → gI (aI (aI M 27 (up f (k + 1) (sm v (k + 1)))) 28 g) 28 x = gr v n x ∧ 0 ≤ gr v n x ∧ gr v n x ≤ 100 := fun x hx => by
        rw [gI_aI, if_pos rfl]
        have := hgr x
        exact ⟨hg x (by omega), by omega, by omega⟩
      have e27 : gI (aI (aI M 27 (up f (k + 1) (sm v (k + 1)))) 28 g) 27 (k + 1) = sm v (k + 1) := by
        rw [gI_aI_ne (by decide), gI_aI, if_pos rfl]; unfold up; rw [if_pos rfl]
      have hsb := sm_b (v := v) (B := 18000) (fun t _ => hvb t) (by omega) (k + 1)
      have fin : ∀ x : Int, x = (if sm v (k + 1) = 0 then 1 else 0) → V G (d + 3) mX5_fewestPayments 113 [some (.ref 26), some (.int (J (n : Int))), some (.int (J ((2 ^ n : Nat) : Int))), some (.int (J ((k + 1 : Nat) : Int)))] [.int (J x), .int (J (mg (gr v n) (k + 1) n)), .int (J ((k + 1 : Nat) : Int)), .ref 28] (aI (aI M 27 (up f (k + 1) (sm v (k + 1)))) 28 g) Q := by
        intro x hx
        refine v_iadd (pc := 113) 75 rfl ?_
        refine v_iastN (pc := 114) 76 rfl rfl (by omega) ?_
        refine v_iinc (pc := 115) 77 rfl rfl ⟨Nat.le_of_ble_eq_true rfl, rfl⟩ ?_
        refine v_goto (pc := 118) 78 57 rfl (by decide) ?_
        rw [s27_28]
        refine ih _ _ (fun s hs => ?_) (fun i hi => ?_) (fun s hs => ?_)
        · unfold up
          by_cases e : s = k + 1
          · rw [if_pos e, e]
          · rw [if_neg e]; exact hf s (by omega)
        · unfold up
          by_cases e : 2 ^ i = k + 1
          · rw [if_pos e, ← e, sm_pow v (by omega)]
          · rw [if_neg e]; exact hf2 i hi
        · unfold up
          by_cases e : s = k + 1
          · rw [if_pos e, e, gr_eq, if_neg (by omega), hx]
          · rw [if_neg e]; exact hg s (by omega)
      refine v_aload_n (pc := 88) 60 rfl rfl ?_
      refine v_getC (pc := 89) 61 rfl fl_X5_15 rfl 28 rfl ?_
      refine v_iload_n (pc := 92) 62 rfl rfl ?_
      refine v_aload_n (pc := 93) 63 rfl rfl ?_
      refine v_iload_n (pc := 94) 64 rfl rfl ?_
      refine v_iload_n (pc := 95) 65 rfl rfl ?_
      refine v_cV2i (pc := 96) 66 rfl cv_X5_61 rfl (Nat.le_of_ble_eq_true rfl) (Nat.le_of_ble_eq_true rfl) (c_mostGroups (by omega) hn5 e28) ?_
      refine v_aload_n (pc := 99) 67 rfl rfl ?_
      refine v_getC (pc := 100) 68 rfl fl_X5_9 rfl 27 rfl ?_
      refine v_iload_n (pc := 103) 69 rfl rfl ?_
      refine v_ialdN (pc := 104) 70 rfl rfl (by omega) ?_
      rw [e27]
      refine v_if_ne (pc := 105) 71 112 rfl (by decide) (by omega) (fun e1 => ?_) (fun e1 => ?_)
      · refine v_iconst (pc := 112) 74 rfl ?_
        exact fin 0 (by rw [if_neg e1])
      · refine v_iconst (pc := 108) 72 rfl ?_
        refine v_goto (pc := 109) 73 113 rfl (by decide) ?_
        exact fin 1 (by rw [if_pos (by omega)])
  · intro t ht ih f hf0 hf
    obtain ⟨hI1, eT, eS⟩ := hI.s27 f (up (gI M 28) 0 0)
    have cl := c_owedBy (G := G) (d := d) hI1 (t := t) (by rw [eT, hnn]; exact ht)
    rw [eT, eS] at cl
    have ev : ow (tOf M c) (sOf M) t (nT (tOf M c)) = v t := by rw [← hv9]
    rw [ev] at cl
    have hpt : 1 ≤ 2 ^ t ∧ 2 ^ t < 32 := by
      rcases (show t = 0 ∨ t = 1 ∨ t = 2 ∨ t = 3 ∨ t = 4 by omega) with e | e | e | e | e <;> subst e <;> decide
    refine v_iload_n (pc := 31) 21 rfl rfl ?_
    refine v_iload_n (pc := 32) 22 rfl rfl ?_
    refine v_ic_geF (pc := 33) 23 55 rfl (by decide) (by omega) (by omega) ?_
    refine v_aload_n (pc := 36) 24 rfl rfl ?_
    refine v_getC (pc := 37) 25 rfl fl_X5_9 rfl 27 rfl ?_
    refine v_iconst (pc := 40) 26 rfl ?_
    refine v_iload_n (pc := 41) 27 rfl rfl ?_
    refine v_ishl (pc := 42) 28 rfl (((2 ^ t : Nat) : Int)) (J_shl1 (by omega)) ?_
    refine v_aload_n (pc := 43) 29 rfl rfl ?_
    refine v_iload_n (pc := 44) 30 rfl rfl ?_
    refine v_cV1i (pc := 45) 31 rfl cv_X5_57 rfl (Nat.le_of_ble_eq_true rfl) (Nat.le_of_ble_eq_true rfl) (cl) ?_
    refine v_iastN (pc := 48) 32 rfl rfl (by omega) ?_
    refine v_iinc (pc := 49) 33 rfl rfl ⟨Nat.le_of_ble_eq_true rfl, rfl⟩ ?_
    refine v_goto (pc := 52) 34 31 rfl (by decide) ?_
    rw [s27_27]
    refine ih _ ?_ (fun i hi => ?_)
    · unfold up; rw [if_neg (by omega)]; exact hf0
    · unfold up
      by_cases e : i = t
      · rw [e, if_pos rfl]
      · rw [if_neg (fun q => e ((Nat.pow_right_inj (by decide)).mp q))]; exact hf i (by omega)
end Debts
