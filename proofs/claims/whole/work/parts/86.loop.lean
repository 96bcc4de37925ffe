/-! 86: the law's loop -/
section LawL
variable {G : Gt} {b L : Nat} {xs : Nat → Int32}
theorem law_sw {nc ns i : Nat} {M : Mem} {A : Ax} {l5 l6 : Option Value} {c c2 : Nat} {a9 : Int} (ha : -2147483648 ≤ a9 ∧ a9 ≤ 2147483647) (hG : ga G 140 = b) (hL : L ≤ 3072) (hi : i + 6 ≤ L) (hr : nc + 1 ≤ 601024 ∧ ns + 6 ≤ 7293034) (hl : (gl G).stackTraces = false) (nx : LwN G b L xs nc ns i) (h : CRc M A c c2) (hm : MR M A) : U G (XL b L xs) nc ns mL 40 (LwS i l5 l6) [.int (J a9)] M := by
  by_cases e0 : a9 = 0
  · subst e0
    exact u_tswIn (pc := 40) _ 168 (lk1 11 rfl) (by decide) rfl (by decide) (lc_feed hG hL hi hr hl nx h hm)
  by_cases e1 : a9 = 1
  · subst e1
    exact u_tswIn (pc := 40) _ 241 (lk1 11 rfl) (by decide) rfl (by decide) (lc_courts hG hL hi hr hl nx h hm)
  by_cases e2 : a9 = 2
  · subst e2
    exact u_tswIn (pc := 40) _ 266 (lk1 11 rfl) (by decide) rfl (by decide) (lc_travel hG hL hi hr hl nx h hm)
  by_cases e3 : a9 = 3
  · subst e3
    exact u_tswIn (pc := 40) _ 303 (lk1 11 rfl) (by decide) rfl (by decide) (lc_judge hG hL hi hr hl nx h hm)
  by_cases e4 : a9 = 4
  · subst e4
    exact u_tswIn (pc := 40) _ 371 (lk1 11 rfl) (by decide) rfl (by decide) (lc_file hG hL hi hr hl nx h hm)
  by_cases e5 : a9 = 5
  · subst e5
    exact u_tswIn (pc := 40) _ 439 (lk1 11 rfl) (by decide) rfl (by decide) (lc_why hG hL hi hr hl nx h hm)
  by_cases e6 : a9 = 6
  · subst e6
    exact u_tswIn (pc := 40) _ 488 (lk1 11 rfl) (by decide) rfl (by decide) (lc_set hG hL hi hr hl nx h hm)
  by_cases e7 : a9 = 7
  · subst e7
    exact u_tswIn (pc := 40) _ 537 (lk1 11 rfl) (by decide) rfl (by decide) (lc_clear hG hL hi hr hl nx h hm)
  by_cases e8 : a9 = 8
  · subst e8
    exact u_tswIn (pc := 40) _ 562 (lk1 11 rfl) (by decide) rfl (by decide) (lc_sits hG hL hi hr hl nx h hm)
  by_cases e9 : a9 = 9
  · subst e9
    exact u_tswIn (pc := 40) _ 599 (lk1 11 rfl) (by decide) rfl (by decide) (lc_minutes hG hL hi hr hl nx h hm)
  by_cases e10 : a9 = 10
  · subst e10
    exact u_tswIn (pc := 40) _ 636 (lk1 11 rfl) (by decide) rfl (by decide) (lc_open hG hL hi hr hl nx h hm)
  by_cases e11 : a9 = 11
  · subst e11
    exact u_tswIn (pc := 40) _ 673 (lk1 11 rfl) (by decide) rfl (by decide) (lc_go hG hL hi hr hl nx h hm)
  by_cases e12 : a9 = 12
  · subst e12
    exact u_tswIn (pc := 40) _ 710 (lk1 11 rfl) (by decide) rfl (by decide) (lc_best hG hL hi hr hl nx h hm)
  by_cases e13 : a9 = 13
  · subst e13
    exact u_tswIn (pc := 40) _ 760 (lk1 11 rfl) (by decide) rfl (by decide) (lc_bestOf hG hL hi hr hl nx h hm)
  by_cases e14 : a9 = 14
  · subst e14
    exact u_tswIn (pc := 40) _ 809 (lk1 11 rfl) (by decide) rfl (by decide) (lc_take hG hL hi hr hl nx h hm)
  by_cases e15 : a9 = 15
  · subst e15
    exact u_tswIn (pc := 40) _ 846 (lk1 11 rfl) (by decide) rfl (by decide) (lc_load hG hL hi hr hl nx h hm)
  by_cases e16 : a9 = 16
  · subst e16
    exact u_tswIn (pc := 40) _ 871 (lk1 11 rfl) (by decide) rfl (by decide) (lc_ranked hG hL hi hr hl nx h hm)
  by_cases e17 : a9 = 17
  · subst e17
    exact u_tswIn (pc := 40) _ 896 (lk1 11 rfl) (by decide) rfl (by decide) (lc_fairer hG hL hi hr hl nx h hm)
  by_cases e18 : a9 = 18
  · subst e18
    exact u_tswIn (pc := 40) _ 921 (lk1 11 rfl) (by decide) rfl (by decide) (lc_even hG hL hi hr hl nx h hm)
  by_cases e19 : a9 = 19
  · subst e19
    exact u_tswIn (pc := 40) _ 946 (lk1 11 rfl) (by decide) rfl (by decide) (lc_lent hG hL hi hr hl nx h hm)
  by_cases e20 : a9 = 20
  · subst e20
    exact u_tswIn (pc := 40) _ 983 (lk1 11 rfl) (by decide) rfl (by decide) (lc_owed hG hL hi hr hl nx h hm)
  by_cases e21 : a9 = 21
  · subst e21
    exact u_tswIn (pc := 40) _ 1039 (lk1 11 rfl) (by decide) rfl (by decide) (lc_payments hG hL hi hr hl nx h hm)
  by_cases e22 : a9 = 22
  · subst e22
    exact u_tswIn (pc := 40) _ 1052 (lk1 11 rfl) (by decide) rfl (by decide) (lc_share hG hL hi hr hl nx h hm)
  by_cases e23 : a9 = 23
  · subst e23
    exact u_tswIn (pc := 40) _ 1077 (lk1 11 rfl) (by decide) rfl (by decide) (lc_spread hG hL hi hr hl nx h hm)
  by_cases e24 : a9 = 24
  · subst e24
    exact u_tswIn (pc := 40) _ 1091 (lk1 11 rfl) (by decide) rfl (by decide) (lc_waited hG hL hi hr hl nx h hm)
  by_cases e25 : a9 = 25
  · subst e25
    exact u_tswIn (pc := 40) _ 1104 (lk1 11 rfl) (by decide) rfl (by decide) (lc_undo hG hL hi hr hl nx h hm)
  by_cases e26 : a9 = 26
  · subst e26
    exact u_tswIn (pc := 40) _ 1117 (lk1 11 rfl) (by decide) rfl (by decide) (lc_keep hG hL hi hr hl nx h hm)
  by_cases e27 : a9 = 27
  · subst e27
    exact u_tswIn (pc := 40) _ 1170 (lk1 11 rfl) (by decide) rfl (by decide) (lc_count hG hL hi hr hl nx h hm)
  exact u_tswOut (pc := 40) _ 1195 (lk1 11 rfl) ⟨ha, by omega⟩ (by decide) (u_wide (Nat.le_succ _) (Nat.le_add_right _ 6) (nx _ _ _ _ ⟨c, c2, h⟩ hm))
theorem law_loop {c0 c1 : Nat} (hc : c0 ≤ 590000 ∧ c1 ≤ 7000000) (hG : ga G 140 = b) (hL : L ≤ 3072) (hl : (gl G).stackTraces = false) : ∀ (n i : Nat) (l5 l6 : Option Value) (M : Mem) (A : Ax), L + 6 ≤ i + n → i ≤ 3078 → CR M A → MR M A → U G (XL b L xs) (c0 + i) (c1 + i) mL 23 (LwS i l5 l6) [] M := by
  intro n
  induction n with
  | zero =>
    intro i l5 l6 M A h1 h2 h3 h4
    refine u_iload (pc := 23) _ (lk1 0 rfl) rfl ?_
    refine u_aload_n (pc := 25) _ (lk1 1 rfl) rfl ?_
    refine u_slen hG (pc := 26) _ (lk1 2 rfl) ?_
    refine u_bipush (pc := 27) _ (lk1 3 rfl) (by decide) ?_
    refine u_isub (pc := 29) _ (lk1 4 rfl) ?_
    refine u_ic_gtT (pc := 30) _ 1201 (lk1 5 rfl) (by decide) (by omega) (by omega) ?_
    refine u_iconst (pc := 1201) _ (lk30 2 rfl) ?_
    exact u_end (pc := 1202) _ (lk30 3 rfl) (by omega) (by omega)
  | succ n ih =>
    intro i l5 l6 M A h1 h2 h3 h4
    refine u_iload (pc := 23) _ (lk1 0 rfl) rfl ?_
    refine u_aload_n (pc := 25) _ (lk1 1 rfl) rfl ?_
    refine u_slen hG (pc := 26) _ (lk1 2 rfl) ?_
    refine u_bipush (pc := 27) _ (lk1 3 rfl) (by decide) ?_
    refine u_isub (pc := 29) _ (lk1 4 rfl) ?_
    refine u_ic_gt (pc := 30) _ 1201 (lk1 5 rfl) (by decide) (by omega) (fun e => ?_) (fun e => ?_)
    · refine u_iconst (pc := 1201) _ (lk30 2 rfl) ?_
      exact u_end (pc := 1202) _ (lk30 3 rfl) (by omega) (by omega)
    · have hi : i + 6 ≤ L := by omega
      refine u_aload_n (pc := 33) _ (lk1 6 rfl) rfl ?_
      refine u_iload (pc := 34) _ (lk1 7 rfl) rfl ?_
      refine u_sld (z := i) hG (pc := 36) _ (lk1 8 rfl) ⟨by omega, hL⟩ ?_
      refine u_bipush (pc := 37) _ (lk1 9 rfl) (by decide) ?_
      refine u_iand (pc := 39) _ (lk1 10 rfl) ((J (xs i).toInt &&& J 31).toInt) (J_of _).symm ?_
      obtain ⟨c, c2, h⟩ := h3
      refine law_sw (J_rng _) hG hL hi (by omega) hl ?_ h h4
      intro m5 m6 N B g1 g2
      refine u_iinc (a := (i : Int)) (pc := 1195) _ (lk30 0 rfl) rfl ⟨(Nat.le_of_ble_eq_true rfl), rfl⟩ ?_
      refine u_goto (pc := 1198) _ 23 (lk30 1 rfl) (by decide) ?_
      have e2 : ((i : Int) + 6) = ((i + 6 : Nat) : Int) := by omega
      rw [e2]
      show U G (XL b L xs) (c0 + i + 1) (c1 + i + 6) mL 23 (LwS (i + 6) m5 m6) [] N
      exact u_wide (by omega) (by omega) (ih (i + 6) m5 m6 N B (by omega) (by omega) g1 g2)
end LawL
