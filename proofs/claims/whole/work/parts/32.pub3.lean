/-! 32: the class's public methods: loads, fairer ones, debts, acts -/
section Pub3
variable {G : Gt} {d : Nat} {M N : Mem} {A : Ax} {c c2 : Nat}
def sLoad (A : Ax) (j : Int) : Int := if 0 ≤ j ∧ j < nJ (aT A) then lds (aT A) (aS A) j.toNat else -1
theorem c_load (h : CRc M A c c2) {j : Int} (hj : -2147483648 ≤ j ∧ j ≤ 2147483647) : V G (d + 2) mX11_load 0 [some (.ref 0), some (.int (J j))] [] M (Ret (some (.int (J (sLoad A j)))) M) := by
  have hc := h.hc
  have hto := h.2.1
  have hn := h.nn
  unfold sLoad
  refine v_aload_n (pc := 0) 0 rfl rfl ?_
  refine v_getR (pc := 1) 1 rfl fl_X11_20 rfl _ hto ?_
  refine v_iload_n (pc := 4) 2 rfl rfl ?_
  refine v_cV1i (pc := 5) 3 rfl cv_X11_116 (shC hc) (Nat.le_of_ble_eq_true rfl) (Nat.le_of_ble_eq_true rfl) (c_hasJudge hc (by omega) hj) ?_
  refine v_if_eq (pc := 8) 4 22 rfl (by decide) (by omega) (fun e1 => ?_) (fun e1 => ?_)
  · rw [if_neg (by omega)]
    refine v_iconst (pc := 22) 10 rfl ?_
    refine v_iret (pc := 23) 11 rfl rfl ⟨rfl, rfl⟩
  · rw [if_pos (by omega)]
    obtain ⟨j1, rfl⟩ : ∃ j1 : Nat, j = (j1 : Int) := ⟨j.toNat, by omega⟩
    have cl := c_loadOf (G := G) (d := d) h.ci (j := j1) (by rw [h.eT]; omega)
    rw [h.eT, h.eS] at cl
    rw [Int.toNat_natCast]
    refine v_aload_n (pc := 11) 5 rfl rfl ?_
    refine v_getC (pc := 12) 6 rfl fl_X11_41 rfl 8 rfl ?_
    refine v_iload_n (pc := 15) 7 rfl rfl ?_
    refine v_cV1i (pc := 16) 8 rfl cv_X11_244 rfl (Nat.le_of_ble_eq_true rfl) (Nat.le_of_ble_eq_true rfl) (cl) ?_
    refine v_goto (pc := 19) 9 23 rfl (by decide) ?_
    refine v_iret (pc := 23) 11 rfl rfl ⟨rfl, rfl⟩
def sRank (A : Ax) (k : Int) : Int := fst (fun j => decide (pb (aT A) (aS A) j (nJ (aT A)) = k)) (fun j => (j : Int)) (nJ (aT A))
theorem c_ranked (h : CRc M A c c2) {k : Int} (hk : -2147483648 ≤ k ∧ k ≤ 2147483647) : V G (d + 3) mX11_ranked 0 [some (.ref 0), some (.int (J k)), none] [] M (Ret (some (.int (J (sRank A k)))) M) := by
  have hc := h.hc
  have hto := h.2.1
  have hn := h.nn
  unfold sRank
  refine v_iconst (pc := 0) 0 rfl ?_
  refine v_istore_n (pc := 1) 1 rfl ⟨Nat.le_of_ble_eq_true rfl, rfl⟩ ?_
  have loop := loopN (N := nJ (aT A)) (fun j => exB (fun j => decide (pb (aT A) (aS A) j (nJ (aT A)) = k)) j = false → V G (d + 3) mX11_ranked 2 [some (.ref 0), some (.int (J k)), some (.int (J (j : Int)))] [] M (Ret (some (.int (J (fst (fun j => decide (pb (aT A) (aS A) j (nJ (aT A)) = k)) (fun j => (j : Int)) (nJ (aT A)))))) M)) ?_ ?_
  · exact loop rfl
  · intro hx
    rw [fst_none hx]
    refine v_iload_n (pc := 2) 2 rfl rfl ?_
    refine v_aload_n (pc := 3) 3 rfl rfl ?_
    refine v_getR (pc := 4) 4 rfl fl_X11_20 rfl _ hto ?_
    refine v_getI (pc := 7) 5 rfl fl_X11_247 (shC hc) ?_
    refine v_ic_geT (pc := 10) 6 33 rfl (by decide) (by omega) (by omega) ?_
    refine v_iconst (pc := 33) 17 rfl ?_
    refine v_iret (pc := 34) 18 rfl rfl ⟨rfl, rfl⟩
  · intro j hj ih hx
    have cl := c_placeByLoad (G := G) (d := d) h.ci (j := j) (by rw [h.eT]; omega)
    rw [h.eT, h.eS] at cl
    have hb : 0 ≤ pb (aT A) (aS A) j (nJ (aT A)) ∧ pb (aT A) (aS A) j (nJ (aT A)) ≤ 6 := by
      have := sumN_b (f := fun o => if ld (aT A) (aS A) j (nK (aT A)) < ld (aT A) (aS A) o (nK (aT A)) ∨ (ld (aT A) (aS A) o (nK (aT A)) = ld (aT A) (aS A) j (nK (aT A)) ∧ o < j) then 1 else 0) (B := 1) (nJ (aT A)) (fun k hk => by split <;> omega)
      unfold pb
      omega
    refine v_iload_n (pc := 2) 2 rfl rfl ?_
    refine v_aload_n (pc := 3) 3 rfl rfl ?_
    refine v_getR (pc := 4) 4 rfl fl_X11_20 rfl _ hto ?_
    refine v_getI (pc := 7) 5 rfl fl_X11_247 (shC hc) ?_
    refine v_ic_geF (pc := 10) 6 33 rfl (by decide) (by omega) (by omega) ?_
    refine v_aload_n (pc := 13) 7 rfl rfl ?_
    refine v_getC (pc := 14) 8 rfl fl_X11_41 rfl 8 rfl ?_
    refine v_iload_n (pc := 17) 9 rfl rfl ?_
    refine v_cV1i (pc := 18) 10 rfl cv_X11_250 rfl (Nat.le_of_ble_eq_true rfl) (Nat.le_of_ble_eq_true rfl) (cl) ?_
    refine v_iload_n (pc := 21) 11 rfl rfl ?_
    refine v_ic_ne (pc := 22) 12 27 rfl (by decide) (by omega) (fun e1 => ?_) (fun e1 => ?_)
    · refine v_iinc (pc := 27) 15 rfl rfl ⟨Nat.le_of_ble_eq_true rfl, rfl⟩ ?_
      refine v_goto (pc := 30) 16 2 rfl (by decide) ?_
      exact ih (exB_succ hx (decide_eq_false e1))
    · rw [fst_at hj hx (decide_eq_true (Decidable.not_not.mp e1))]
      refine v_iload_n (pc := 25) 13 rfl rfl ?_
      refine v_iret (pc := 26) 14 rfl rfl ⟨rfl, rfl⟩
def sFair (A : Ax) (w : Int) : Int := if w = 0 then (fair (aT A) (aS A)).1 else if w = 1 then (fair (aT A) (aS A)).2.1 else -1
theorem c_fairer (h : CRc M A c c2) {w : Int} (hw : -2147483648 ≤ w ∧ w ≤ 2147483647) : V G (d + 6) mX11_fairer 0 [some (.ref 0), some (.int (J w))] [] M (fun r N => r = some (.int (J (sFair A w))) ∧ CRc N A c c2 ∧ CF M N) := by
  have cl := c_fairFind (G := G) (d := d) h.ci
  rw [h.eT] at cl
  unfold sFair
  have tl : w = 0 ∨ w = 1 → V G (d + 6) mX11_fairer 11 [some (.ref 0), some (.int (J w))] [] M (fun r N => r = some (.int (J (if w = 0 then (fair (aT A) (aS A)).1 else if w = 1 then (fair (aT A) (aS A)).2.1 else -1))) ∧ CRc N A c c2 ∧ CF M N) := by
    intro hw2
    refine v_aload_n (pc := 11) 7 rfl rfl ?_
    refine v_getC (pc := 12) 8 rfl fl_X11_57 rfl 20 rfl ?_
    refine v_cV0 (pc := 15) 9 rfl cv_X11_253 rfl (Nat.le_of_ble_eq_true rfl) (Nat.le_of_ble_eq_true rfl) (cl) (fun r9 N9 hq9 => ?_)
    obtain ⟨rfl, hb⟩ := hq9
    obtain ⟨hN, hcf⟩ := h.fs hb
    rw [h.eS] at hb
    obtain ⟨-, -, -, -, b5, b6, -, -⟩ := hb
    show V G (d + 6) mX11_fairer (15 + 3) _ [] _ _
    refine v_iload_n (pc := 18) 10 rfl rfl ?_
    refine v_if_ne (pc := 19) 11 32 rfl (by decide) (by omega) (fun e1 => ?_) (fun e1 => ?_)
    · rw [if_neg e1, if_pos (by omega)]
      refine v_aload_n (pc := 32) 16 rfl rfl ?_
      refine v_getC (pc := 33) 17 rfl fl_X11_57 rfl 20 rfl ?_
      refine v_getI (pc := 36) 18 rfl fl_X11_258 rfl ?_
      rw [b6]
      refine v_iret (pc := 39) 19 rfl rfl ⟨rfl, hN, hcf⟩
    · rw [if_pos (Decidable.not_not.mp e1)]
      refine v_aload_n (pc := 22) 12 rfl rfl ?_
      refine v_getC (pc := 23) 13 rfl fl_X11_57 rfl 20 rfl ?_
      refine v_getI (pc := 26) 14 rfl fl_X11_255 rfl ?_
      rw [b5]
      refine v_goto (pc := 29) 15 39 rfl (by decide) ?_
      refine v_iret (pc := 39) 19 rfl rfl ⟨rfl, hN, hcf⟩
  refine v_iload_n (pc := 0) 0 rfl rfl ?_
  refine v_if_eq (pc := 1) 1 11 rfl (by decide) (by omega) (fun e1 => ?_) (fun e1 => ?_)
  · exact tl (Or.inl e1)
  · refine v_iload_n (pc := 4) 2 rfl rfl ?_
    refine v_iconst (pc := 5) 3 rfl ?_
    refine v_ic_eq (pc := 6) 4 11 rfl (by decide) (by omega) (fun e2 => ?_) (fun e2 => ?_)
    · exact tl (Or.inr e2)
    · rw [if_neg e1, if_neg e2]
      refine v_iconst (pc := 9) 5 rfl ?_
      refine v_iret (pc := 10) 6 rfl rfl ⟨rfl, h, CF.rfl9 M⟩
def evR (T : Tx) : Nat → Int → Sx → Int × Sx
  | 0, i, S => (i, S)
  | r + 1, i, S => if (fair T S).1 = -1 then (i, S) else evR T r (i + 1) (setS S (fair T S).1.toNat (fair T S).2.1 (S.2 (fair T S).1.toNat))
def sEven (A : Ax) (n : Int) : Int × Ax := if 1 ≤ n ∧ n ≤ 50 then ((evR (aT A) n.toNat 0 (aS A)).1, (A.1, aT A, (evR (aT A) n.toNat 0 (aS A)).2, push (aU A) (aS A), aK A)) else (-1, A)
theorem fair_sit {T : Tx} {S : Sx} (k : Nat) : (frK T S k).1 = -1 ∨ ∃ i, i < k ∧ (frK T S k).1 = (i : Int) ∧ S.1 i ≠ -1 := by
  induction k with
  | zero => exact Or.inl rfl
  | succ k ih =>
    have hJ : ∀ (F : Fx) j, (frJ T S k j F).1 = F.1 ∨ (frJ T S k j F).1 = (k : Int) := by
      intro F j
      induction j with
      | zero => exact Or.inl rfl
      | succ j ihj =>
        show (if _ then _ else _ : Fx).1 = F.1 ∨ (if _ then _ else _ : Fx).1 = (k : Int)
        split
        · exact Or.inr rfl
        · exact ihj
    have e : frK T S (k + 1) = if S.1 k = -1 then frK T S k else frJ T S k (nJ T) (frK T S k) := rfl
    rw [e]
    have ih2 : (frK T S k).1 = -1 ∨ ∃ i, i < k + 1 ∧ (frK T S k).1 = (i : Int) ∧ S.1 i ≠ -1 := by
      rcases ih with q | ⟨i, q1, q2, q3⟩
      · exact Or.inl q
      · exact Or.inr ⟨i, by omega, q2, q3⟩
    split
    · exact ih2
    · rename_i e2
      rcases hJ (frK T S k) (nJ T) with q | q
      · rw [q]; exact ih2
      · exact Or.inr ⟨k, by omega, q, e2⟩
theorem c_evenL (r : Nat) : ∀ (M N : Mem) (A : Ax) (i n : Nat), CRc N A c c2 → CF M N → n = i + r → n ≤ 50 → V G (d + 6) mX11_even 22 [some (.ref 0), some (.int (J (n : Int))), some (.int (J (i : Int)))] [] N (fun x P => x = some (.int (J (evR (aT A) r i (aS A)).1)) ∧ CRc P (A.1, aT A, (evR (aT A) r i (aS A)).2, aU A, aK A) c c2 ∧ CF M P) := by
  induction r with
  | zero =>
    intro M N A i n h hcf hn h50
    subst hn
    refine v_iload_n (pc := 22) 13 rfl rfl ?_
    refine v_iload_n (pc := 23) 14 rfl rfl ?_
    refine v_ic_geT (pc := 24) 15 89 rfl (by decide) (by omega) (by omega) ?_
    refine v_iload_n (pc := 89) 44 rfl rfl ?_
    refine v_iret (pc := 90) 45 rfl rfl ⟨rfl, h, hcf⟩
  | succ r ih =>
    intro M N A i n h hcf hn h50
    have hnn := h.nn
    have hfo := frK_ok (aT A) (aS A) (nK (aT A)) (Nat.le_refl _)
    have hsit := fair_sit (T := aT A) (S := aS A) (nK (aT A))
    have cl := c_fairFind (G := G) (d := d) h.ci
    rw [h.eT] at cl
    have e : evR (aT A) (r + 1) i (aS A) = if (fair (aT A) (aS A)).1 = -1 then ((i : Int), aS A) else evR (aT A) r ((i : Int) + 1) (setS (aS A) (fair (aT A) (aS A)).1.toNat (fair (aT A) (aS A)).2.1 ((aS A).2 (fair (aT A) (aS A)).1.toNat)) := rfl
    rw [e]
    refine v_iload_n (pc := 22) 13 rfl rfl ?_
    refine v_iload_n (pc := 23) 14 rfl rfl ?_
    refine v_ic_geF (pc := 24) 15 89 rfl (by decide) (by omega) (by omega) ?_
    refine v_aload_n (pc := 27) 16 rfl rfl ?_
    refine v_getC (pc := 28) 17 rfl fl_X11_57 rfl 20 rfl ?_
    refine v_cV0 (pc := 31) 18 rfl cv_X11_253 rfl (Nat.le_of_ble_eq_true rfl) (Nat.le_of_ble_eq_true rfl) (cl) (fun r9 N9 hq9 => ?_)
    obtain ⟨rfl, hb⟩ := hq9
    obtain ⟨hN, hcf2⟩ := h.fs hb
    rw [h.eS] at hb
    obtain ⟨-, -, -, -, b5, b6, -, -⟩ := hb
    change FOk (aT A) (fair (aT A) (aS A)) at hfo
    change (fair (aT A) (aS A)).1 = -1 ∨ ∃ i, i < nK (aT A) ∧ (fair (aT A) (aS A)).1 = (i : Int) ∧ (aS A).1 i ≠ -1 at hsit
    generalize fair (aT A) (aS A) = F at *
    have hF := hfo.2
    show V G (d + 6) mX11_even (31 + 3) _ [] _ _
    refine v_aload_n (pc := 34) 19 rfl rfl ?_
    refine v_getC (pc := 35) 20 rfl fl_X11_57 rfl 20 rfl ?_
    refine v_getI (pc := 38) 21 rfl fl_X11_255 rfl ?_
    refine v_iconst (pc := 41) 22 rfl ?_
    refine v_ic_ne (pc := 42) 23 47 rfl (by decide) (by omega) (fun e1 => ?_) (fun e1 => ?_)
    · rw [if_neg (by omega)]
      obtain ⟨k, hk, ek, hs⟩ := hsit.resolve_left (by omega)
      rw [ek, Int.toNat_natCast]
      have hSk := (h.sok k (by omega)).resolve_left (fun q => hs q.1)
      have e10 : gI N9 10 = (aS A).2 := by rw [← hN.eS]
      refine v_aload_n (pc := 47) 26 rfl rfl ?_
      refine v_getC (pc := 48) 27 rfl fl_X11_41 rfl 8 rfl ?_
      refine v_aload_n (pc := 51) 28 rfl rfl ?_
      refine v_getC (pc := 52) 29 rfl fl_X11_57 rfl 20 rfl ?_
      refine v_getI (pc := 55) 30 rfl fl_X11_255 rfl ?_
      rw [b5, ek]
      refine v_aload_n (pc := 58) 31 rfl rfl ?_
      refine v_getC (pc := 59) 32 rfl fl_X11_57 rfl 20 rfl ?_
      refine v_getI (pc := 62) 33 rfl fl_X11_258 rfl ?_
      rw [b6]
      refine v_aload_n (pc := 65) 34 rfl rfl ?_
      refine v_getC (pc := 66) 35 rfl fl_X11_41 rfl 8 rfl ?_
      refine v_getC (pc := 69) 36 rfl fl_X11_164 rfl 10 rfl ?_
      refine v_aload_n (pc := 72) 37 rfl rfl ?_
      refine v_getC (pc := 73) 38 rfl fl_X11_57 rfl 20 rfl ?_
      refine v_getI (pc := 76) 39 rfl fl_X11_255 rfl ?_
      rw [b5, ek]
      refine v_ialdN (pc := 79) 40 rfl rfl (by omega) ?_
      rw [e10]
      refine v_cV3v (pc := 80) 41 rfl cv_X11_182 rfl (Nat.le_of_ble_eq_true rfl) (Nat.le_of_ble_eq_true rfl) (c_place (by omega) _ _) ?_
      refine v_iinc (pc := 83) 42 rfl rfl ⟨Nat.le_of_ble_eq_true rfl, rfl⟩ ?_
      refine v_goto (pc := 86) 43 22 rfl (by decide) ?_
      have ih2 := ih M _ _ (i + 1) n (hN.pl (k := k) (j := F.2.1) (t := (aS A).2 k) (by omega) (by omega) hSk.2.2) ((hcf.trans hcf2).trans (pl_cf _ _ _ _)) (by omega) h50
      exact ih2
    · rw [if_pos (by omega)]
      refine v_iload_n (pc := 45) 24 rfl rfl ?_
      refine v_iret (pc := 46) 25 rfl rfl ⟨rfl, hN, hcf.trans hcf2⟩
theorem c_even (h : CRc M A c c2) {n : Int} (hn : -2147483648 ≤ n ∧ n ≤ 2147483647) : V G (d + 6) mX11_even 0 [some (.ref 0), some (.int (J n)), none] [] M (fun r N => r = some (.int (J (sEven A n).1)) ∧ CRc N (sEven A n).2 c c2 ∧ CF M N) := by
  unfold sEven
  refine v_iload_n (pc := 0) 0 rfl rfl ?_
  refine v_iconst (pc := 1) 1 rfl ?_
  refine v_ic_lt (pc := 2) 2 11 rfl (by decide) (by omega) (fun e1 => ?_) (fun e1 => ?_)
  · rw [if_neg (by omega)]
    refine v_iconst (pc := 11) 6 rfl ?_
    refine v_iret (pc := 12) 7 rfl rfl ⟨rfl, h, CF.rfl9 M⟩
  · refine v_iload_n (pc := 5) 3 rfl rfl ?_
    refine v_bipush (pc := 6) 4 rfl (by decide) ?_
    refine v_ic_le (pc := 8) 5 13 rfl (by decide) (by omega) (fun e2 => ?_) (fun e2 => ?_)
    · rw [if_pos (by omega)]
      obtain ⟨n1, rfl⟩ : ∃ n1 : Nat, n = (n1 : Int) := ⟨n.toNat, by omega⟩
      rw [Int.toNat_natCast]
      refine v_aload_n (pc := 13) 8 rfl rfl ?_
      refine v_getC (pc := 14) 9 rfl fl_X11_71 rfl 29 rfl ?_
      refine v_cV0v (pc := 17) 10 rfl cv_X11_179 rfl (Nat.le_of_ble_eq_true rfl) (Nat.le_of_ble_eq_true rfl) (c_beg h) ?_
      refine v_iconst (pc := 20) 11 rfl ?_
      refine v_istore_n (pc := 21) 12 rfl ⟨Nat.le_of_ble_eq_true rfl, rfl⟩ ?_
      exact c_evenL n1 M _ _ 0 n1 (beg_cr h) (beg_cf M) (by omega) (by omega)
    · rw [if_neg (by omega)]
      refine v_iconst (pc := 11) 6 rfl ?_
      refine v_iret (pc := 12) 7 rfl rfl ⟨rfl, h, CF.rfl9 M⟩
def sLent (A : Ax) (a b : Int) : Int := if (0 ≤ a ∧ a < nT (aT A)) ∧ (0 ≤ b ∧ b < nT (aT A)) ∧ a ≠ b then lnt (aT A) (aS A) a b (nK (aT A)) else -1
theorem c_lent9 (h : CRc M A c c2) {a b : Int} (ha : -2147483648 ≤ a ∧ a ≤ 2147483647) (hb : -2147483648 ≤ b ∧ b ≤ 2147483647) : V G (d + 2) mX11_lent 0 [some (.ref 0), some (.int (J a)), some (.int (J b))] [] M (Ret (some (.int (J (sLent A a b)))) M) := by
  have hc := h.hc
  have hto := h.2.1
  have hn := h.nn
  unfold sLent
  refine v_aload_n (pc := 0) 0 rfl rfl ?_
  refine v_getR (pc := 1) 1 rfl fl_X11_20 rfl _ hto ?_
  refine v_iload_n (pc := 4) 2 rfl rfl ?_
  refine v_cV1i (pc := 5) 3 rfl cv_X11_108 (shC hc) (Nat.le_of_ble_eq_true rfl) (Nat.le_of_ble_eq_true rfl) (c_hasTown hc (by omega) ha) ?_
  refine v_if_eq (pc := 8) 4 27 rfl (by decide) (by omega) (fun e1 => ?_) (fun e1 => ?_)
  · rw [if_neg (by omega)]
    refine v_iconst (pc := 27) 13 rfl ?_
    refine v_iret (pc := 28) 14 rfl rfl ⟨rfl, rfl⟩
  · refine v_aload_n (pc := 11) 5 rfl rfl ?_
    refine v_getR (pc := 12) 6 rfl fl_X11_20 rfl _ hto ?_
    refine v_iload_n (pc := 15) 7 rfl rfl ?_
    refine v_cV1i (pc := 16) 8 rfl cv_X11_108 (shC hc) (Nat.le_of_ble_eq_true rfl) (Nat.le_of_ble_eq_true rfl) (c_hasTown hc (by omega) hb) ?_
    refine v_if_eq (pc := 19) 9 27 rfl (by decide) (by omega) (fun e2 => ?_) (fun e2 => ?_)
    · rw [if_neg (by omega)]
      refine v_iconst (pc := 27) 13 rfl ?_
      refine v_iret (pc := 28) 14 rfl rfl ⟨rfl, rfl⟩
    · refine v_iload_n (pc := 22) 10 rfl rfl ?_
      refine v_iload_n (pc := 23) 11 rfl rfl ?_
      refine v_ic_ne (pc := 24) 12 29 rfl (by decide) (by omega) (fun e3 => ?_) (fun e3 => ?_)
      · rw [if_pos (by omega)]
        have cl := c_lent (G := G) (d := d) h.ci ha hb
        rw [h.eT, h.eS] at cl
        refine v_aload_n (pc := 29) 15 rfl rfl ?_
        refine v_getC (pc := 30) 16 rfl fl_X11_64 rfl 26 rfl ?_
        refine v_iload_n (pc := 33) 17 rfl rfl ?_
        refine v_iload_n (pc := 34) 18 rfl rfl ?_
        refine v_cV2i (pc := 35) 19 rfl cv_X11_261 rfl (Nat.le_of_ble_eq_true rfl) (Nat.le_of_ble_eq_true rfl) (cl) ?_
        refine v_iret (pc := 38) 20 rfl rfl ⟨rfl, rfl⟩
      · rw [if_neg (by omega)]
        refine v_iconst (pc := 27) 13 rfl ?_
        refine v_iret (pc := 28) 14 rfl rfl ⟨rfl, rfl⟩
def sPay (A : Ax) : Int := (nT (aT A) : Int) - gr (fun t => ow (aT A) (aS A) t (nT (aT A))) (nT (aT A)) (2 ^ nT (aT A) - 1)
theorem c_pay (h : CRc M A c c2) : V G (d + 4) mX11_payments 0 [some (.ref 0)] [] M (fun r N => r = some (.int (J (sPay A))) ∧ CRc N A c c2 ∧ CF M N) := by
  have cl := c_payments (G := G) (d := d) h.ci
  rw [h.eT, h.eS] at cl
  refine v_aload_n (pc := 0) 0 rfl rfl ?_
  refine v_getC (pc := 1) 1 rfl fl_X11_64 rfl 26 rfl ?_
  refine v_cV0 (pc := 4) 2 rfl cv_X11_269 rfl (Nat.le_of_ble_eq_true rfl) (Nat.le_of_ble_eq_true rfl) (cl) (fun r9 N9 hq9 => ?_)
  obtain ⟨rfl, f, g, rfl⟩ := hq9
  have e : ∀ q, q ≠ 27 → q ≠ 28 → gI (aI (aI M 27 f) 28 g) q = gI M q := fun q q1 q2 => by rw [gI_aI_ne q2, gI_aI_ne q1]
  show V G (d + 4) mX11_payments (4 + 3) _ [.int (J (sPay A))] _ _
  refine v_iret (pc := 7) 3 rfl rfl ⟨rfl, h.same (fun q hq => e q (by omega) (by omega)) rfl, fun q hq => ⟨e q (by omega) (by omega), rfl⟩⟩
def sUndo (A : Ax) : Int × Ax := if aU A = [] then (-1, A) else ((aU A).length - 1, (A.1, aT A, (aU A).getD ((aU A).length - 1) s0, (aU A).dropLast, aK A))
theorem fe_s {s : Nat} {S : Sx} (h9 : SF (sOf M)) (hS : SF S) (hr : ∀ j, j < 12 → gI M 30 (s * 12 + j) = S.1 j ∧ gI M 31 (s * 12 + j) = S.2 j) : sOf (feM M s) = S := by
  refine Prod.ext (funext fun j => ?_) (funext fun j => ?_)
  · show gI (feM M s) 9 j = _
    rw [fe_9]
    by_cases e : j < 12
    · rw [if_pos e]; exact (hr j e).1
    · rw [if_neg e, (hS j (by omega)).1]; exact (h9 j (by omega)).1
  · show gI (feM M s) 10 j = _
    rw [fe_10]
    by_cases e : j < 12
    · rw [if_pos e]; exact (hr j e).2
    · rw [if_neg e, (hS j (by omega)).2]; exact (h9 j (by omega)).2
theorem getD_mem {U : List Sx} {i : Nat} (h : i < U.length) : U.getD i s0 ∈ U := by
  rw [List.getD_eq_getElem?_getD, List.getElem?_eq_getElem h]; exact List.getElem_mem _
theorem dropL_at {U : List Sx} {i : Nat} (h : i < U.length - 1) : U.dropLast.getD i s0 = U.getD i s0 := by
  rw [List.getD_eq_getElem?_getD, List.getD_eq_getElem?_getD, List.dropLast_eq_take, List.getElem?_take, if_pos h]
theorem c_undo (h : CRc M A c c2) : V G (d + 3) mX11_undo 0 [some (.ref 0)] [] M (fun r N => r = some (.int (J (sUndo A).1)) ∧ CRc N (sUndo A).2 c c2 ∧ CF M N) := by
  obtain ⟨u1, u2, u3, u4⟩ := h.ur
  unfold sUndo
  by_cases e : aU A = []
  · rw [if_pos e]
    rw [e] at u2
    refine v_aload_n (pc := 0) 0 rfl rfl ?_
    refine v_getC (pc := 1) 1 rfl fl_X11_71 rfl 29 rfl ?_
    refine v_cV0i (pc := 4) 2 rfl cv_X11_296 rfl (Nat.le_of_ble_eq_true rfl) (Nat.le_of_ble_eq_true rfl) (c_takeBack0 u2) ?_
    refine v_iret (pc := 7) 3 rfl rfl ⟨rfl, h, CF.rfl9 M⟩
  · rw [if_neg e]
    have hl : 0 < (aU A).length := List.length_pos_iff.mpr e
    obtain ⟨x, hx⟩ : ∃ x : Nat, gI M 29 4 = (x : Int) := ⟨(gI M 29 4).toNat, by omega⟩
    obtain ⟨n, hn⟩ : ∃ n : Nat, (n : Int) = if 0 < gI M 29 4 then gI M 29 4 - 1 else 11 := ⟨(x + 11) % 12, by rw [hx]; split <;> omega⟩
    have hn2 : n = (x + 11) % 12 := by rw [hx] at hn u1; split at hn <;> omega
    rw [hx, Int.toNat_natCast] at u4
    rw [hx] at u1
    have cl := c_takeBack (G := G) (d := d) (M := M) (by omega) (by omega) hn
    rw [u2] at cl
    have hS := h.ok.2.2.1 _ (getD_mem (U := aU A) (i := (aU A).length - 1) (by omega))
    generalize hN : sI (feM (sI M 29 4 (n : Int)) n) 29 5 (((aU A).length : Int) - 1) = N1 at cl
    have g1 : ∀ q, q ≠ 9 → q ≠ 10 → q ≠ 29 → gI N1 q = gI M q := fun q q1 q2 q3 => by rw [← hN, gI_sI_ne q3, fe_ne ⟨q1, q2⟩, gI_sI_ne q3]
    have g2 : gI N1 29 4 = (n : Int) ∧ gI N1 29 5 = ((aU A).length : Int) - 1 ∧ gI N1 29 3 = gI M 29 3 := by
      rw [← hN]
      refine ⟨?_, ?_, ?_⟩
      · rw [gI_sI, if_pos rfl, if_neg (by decide), fe_ne (by decide), gI_sI, if_pos rfl, if_pos rfl]
      · rw [gI_sI, if_pos rfl, if_pos rfl]
      · rw [gI_sI, if_pos rfl, if_neg (by decide), fe_ne (by decide), gI_sI, if_pos rfl, if_neg (by decide)]
    have gs : sOf N1 = (aU A).getD ((aU A).length - 1) s0 := by
      have e1 : sOf (sI M 29 4 (n : Int)) = aS A := by rw [← h.eS]; unfold sOf; rw [gI_sI_ne (by decide), gI_sI_ne (by decide)]
      rw [← hN]
      show (gI (sI (feM (sI M 29 4 (n : Int)) n) 29 5 (((aU A).length : Int) - 1)) 9, gI (sI (feM (sI M 29 4 (n : Int)) n) 29 5 (((aU A).length : Int) - 1)) 10) = _
      rw [gI_sI_ne (by decide), gI_sI_ne (by decide)]
      refine fe_s (M := sI M 29 4 (n : Int)) (by rw [e1]; exact h.sf) hS.2 (fun j hj => ?_)
      rw [gI_sI_ne (by decide), gI_sI_ne (by decide)]
      have := u4 ((aU A).length - 1) (by omega) j hj
      unfold slt at this
      rw [show (x + 12 - (aU A).length + ((aU A).length - 1)) % 12 = n by omega] at this
      exact this
    have gr9 : gR N1 = gR M := by rw [← hN]; rfl
    have hB : CRc N1 (A.1, aT A, (aU A).getD ((aU A).length - 1) s0, (aU A).dropLast, aK A) c c2 := by
      obtain ⟨h1, h2, h3, h4, h5, h6, h7, h8, h9, h10⟩ := h
      have eT : ∀ j, j ≤ 10 → gI N1 (c + j) = gI M (c + j) := fun j hj => g1 _ (by omega) (by omega) (by omega)
      refine ⟨h1, by rw [gr9]; exact h2, by rw [gr9]; exact h3, h4.keep eT (by rw [gr9]) (by rw [gs, h5]; exact hS.1), (tOf_eq eT).trans h5, gs, ?_, ?_, ?_, ⟨h10.1, hS, fun S hS => h10.2.2.1 S ((List.dropLast_sublist _).subset hS), h10.2.2.2⟩⟩
      · rw [g1 0 (by decide) (by decide) (by decide), g1 1 (by decide) (by decide) (by decide)]; exact h7
      · have hlen : (aU A).dropLast.length = (aU A).length - 1 := List.length_dropLast
        refine ⟨by rw [g2.1]; omega, ?_, by show (aU A).dropLast.length ≤ 12; omega, fun i hi j hj => ?_⟩
        · show gI N1 29 5 = (((aU A).dropLast.length : Nat) : Int); rw [g2.2.1, hlen]; omega
        · change i < (aU A).dropLast.length at hi
          show gI N1 30 (slt (gI N1 29 4).toNat (aU A).dropLast.length i * 12 + j) = ((aU A).dropLast.getD i s0).1 j ∧ gI N1 31 (slt (gI N1 29 4).toNat (aU A).dropLast.length i * 12 + j) = ((aU A).dropLast.getD i s0).2 j
          rw [hlen] at hi ⊢
          rw [g2.1, Int.toNat_natCast, dropL_at hi, g1 30 (by decide) (by decide) (by decide), g1 31 (by decide) (by decide) (by decide)]
          have := u4 i (by omega) j hj
          unfold slt at this ⊢
          rw [show (n + 12 - ((aU A).length - 1) + i) % 12 = (x + 12 - (aU A).length + i) % 12 by omega]
          exact this
      · obtain ⟨k1, k2⟩ := h9
        unfold KR
        rw [g2.2.2, g1 30 (by decide) (by decide) (by decide), g1 31 (by decide) (by decide) (by decide)]
        exact ⟨k1, k2⟩
    refine v_aload_n (pc := 0) 0 rfl rfl ?_
    refine v_getC (pc := 1) 1 rfl fl_X11_71 rfl 29 rfl ?_
    refine v_cV0i (pc := 4) 2 rfl cv_X11_296 rfl (Nat.le_of_ble_eq_true rfl) (Nat.le_of_ble_eq_true rfl) (cl) ?_
    refine v_iret (pc := 7) 3 rfl rfl ⟨rfl, hB, fun q hq => ⟨g1 q (by omega) (by omega) (by omega), by rw [← hN]; rfl⟩⟩
def upK (K : Nat → Option Sx) (k : Nat) (S : Option Sx) : Nat → Option Sx := fun i => if i = k then S else K i
def sKeep (A : Ax) (k : Int) (b : Bool) : Int × Ax := if 0 ≤ k ∧ k < 2 then (if b = true then (match aK A k.toNat with | none => (0, A) | some S => (1, (A.1, aT A, S, [], aK A))) else (1, (A.1, aT A, aS A, aU A, upK (aK A) k.toNat (some (aS A))))) else (0, A)
theorem bt4 : ∀ a : Fin 4, ∀ k : Fin 2, ∀ j : Fin 2, (0 ≤ setb ((a : Nat) : Int) k ∧ setb ((a : Nat) : Int) k < 4) ∧ bt (setb ((a : Nat) : Int) k) ((j : Nat) : Int) = if (j : Nat) = (k : Nat) then 1 else bt ((a : Nat) : Int) ((j : Nat) : Int) := by decide +kernel
theorem setb_f {a : Int} {k : Nat} (ha : 0 ≤ a ∧ a < 4) (hk : k < 2) : (0 ≤ setb a k ∧ setb a k < 4) ∧ ∀ j : Nat, j < 2 → bt (setb a k) (j : Int) = if j = k then 1 else bt a (j : Int) := by
  have e1 : ((a.toNat : Nat) : Int) = a := by omega
  have h0 := bt4 ⟨a.toNat, by omega⟩ ⟨k, hk⟩ ⟨0, by decide⟩
  simp only [e1] at h0
  refine ⟨h0.1, fun j hj => ?_⟩
  have h1 := bt4 ⟨a.toNat, by omega⟩ ⟨k, hk⟩ ⟨j, hj⟩
  simp only [e1] at h1
  exact h1.2
theorem c_keep (h : CRc M A c c2) {k : Int} {b : Bool} (hk : -2147483648 ≤ k ∧ k ≤ 2147483647) : V G (d + 3) mX11_keep 0 [some (.ref 0), some (.int (J k)), some (.int (J (b2i b)))] [] M (fun r N => r = some (.int (J (sKeep A k b).1)) ∧ CRc N (sKeep A k b).2 c c2 ∧ CF M N) := by
  obtain ⟨k1, k2⟩ := h.kr
  have hb9 := b2i_01 b
  unfold sKeep
  refine v_iload_n (pc := 0) 0 rfl rfl ?_
  refine v_if_lt (pc := 1) 1 9 rfl (by decide) (by omega) (fun e1 => ?_) (fun e1 => ?_)
  · rw [if_neg (by omega)]
    refine v_iconst (pc := 9) 5 rfl ?_
    refine v_zret (pc := 10) 6 rfl rfl (by decide) ⟨rfl, h, CF.rfl9 M⟩
  · refine v_iload_n (pc := 4) 2 rfl rfl ?_
    refine v_iconst (pc := 5) 3 rfl ?_
    refine v_ic_lt (pc := 6) 4 11 rfl (by decide) (by omega) (fun e2 => ?_) (fun e2 => ?_)
    · rw [if_pos (by omega)]
      obtain ⟨n, rfl⟩ : ∃ n : Nat, k = (n : Int) := ⟨k.toNat, by omega⟩
      rw [Int.toNat_natCast]
      have hn2 : n < 2 := by omega
      cases b with
      | false =>
        rw [if_neg (by decide)]
        have hs9 := setb_f k1 hn2
        generalize hN : sI (stM M (12 + n)) 29 3 (setb (gI M 29 3) n) = N1
        have g1 : ∀ q, q ≠ 29 → q ≠ 30 → q ≠ 31 → gI N1 q = gI M q := fun q q1 q2 q3 => by rw [← hN, gI_sI_ne q1, st_ne ⟨q2, q3⟩]
        have g3 : gI N1 29 3 = setb (gI M 29 3) n := by rw [← hN, gI_sI, if_pos rfl, if_pos rfl]
        have g4 : ∀ i, i ≠ 3 → gI N1 29 i = gI M 29 i := fun i hi => by rw [← hN, gI_sI, if_pos rfl, if_neg hi, st_ne (by decide)]
        have g30 : ∀ j, gI N1 30 j = if (12 + n) * 12 ≤ j ∧ j < (12 + n) * 12 + 12 then gI M 9 (j - (12 + n) * 12) else gI M 30 j := fun j => by rw [← hN, gI_sI_ne (by decide), st_30]
        have g31 : ∀ j, gI N1 31 j = if (12 + n) * 12 ≤ j ∧ j < (12 + n) * 12 + 12 then gI M 10 (j - (12 + n) * 12) else gI M 31 j := fun j => by rw [← hN, gI_sI_ne (by decide), st_31]
        have gr9 : gR N1 = gR M := by rw [← hN]; rfl
        have gl9 : gL N1 = gL M := by rw [← hN]; rfl
        have gs : sOf N1 = sOf M := by unfold sOf; rw [g1 9 (by decide) (by decide) (by decide), g1 10 (by decide) (by decide) (by decide)]
        have hB : CRc N1 (A.1, aT A, aS A, aU A, upK (aK A) n (some (aS A))) c c2 := by
          obtain ⟨h1, h2, h3, h4, h5, h6, h7, h8, h9, h10⟩ := h
          have eT : ∀ j, j ≤ 10 → gI N1 (c + j) = gI M (c + j) := fun j hj => g1 _ (by omega) (by omega) (by omega)
          refine ⟨h1, by rw [gr9]; exact h2, by rw [gr9]; exact h3, h4.keep eT (by rw [gr9]) (by rw [gs]; exact h4.2.2.2.2.2.2), (tOf_eq eT).trans h5, gs.trans h6, ?_, ?_, ?_, ⟨h10.1, h10.2.1, h10.2.2.1, fun j hj S hS => ?_⟩⟩
          · rw [g1 0 (by decide) (by decide) (by decide), g1 1 (by decide) (by decide) (by decide)]; exact h7
          · obtain ⟨u1, u2, u3, u4⟩ := h8
            refine ⟨by rw [g4 4 (by decide)]; exact u1, by rw [g4 5 (by decide)]; exact u2, u3, fun i hi j hj => ?_⟩
            have := u4 i hi j hj
            rw [g4 4 (by decide), g30, g31]
            have hlt : slt (gI M 29 4).toNat (aU A).length i < 12 := Nat.mod_lt _ (by decide)
            have hng : ¬ ((12 + n) * 12 ≤ slt (gI M 29 4).toNat (aU A).length i * 12 + j ∧ slt (gI M 29 4).toNat (aU A).length i * 12 + j < (12 + n) * 12 + 12) := by omega
            show (if _ then _ else _) = _ ∧ (if _ then _ else _) = _
            rw [if_neg hng, if_neg hng]
            exact this
          · refine ⟨by rw [g3]; exact hs9.1, fun j hj => ?_⟩
            rw [g3, hs9.2 j hj]
            by_cases e : j = n
            · rw [if_pos e]
              refine Or.inr ⟨_, if_pos e, rfl, fun i hi => ?_⟩
              rw [g30, g31, e, if_pos (by omega), if_pos (by omega), show (12 + n) * 12 + i - (12 + n) * 12 = i by omega, ← h6]
              exact ⟨rfl, rfl⟩
            · rw [if_neg e]
              rcases k2 j hj with q | ⟨S, q1, q2, q3⟩
              · exact Or.inl ⟨(if_neg e).trans q.1, q.2⟩
              · refine Or.inr ⟨S, (if_neg e).trans q1, q2, fun i hi => ?_⟩
                rw [g30, g31, if_neg (by omega), if_neg (by omega)]
                exact q3 i hi
          · change upK (aK A) n (some (aS A)) j = some S at hS
            unfold upK at hS
            by_cases e : j = n
            · rw [if_pos e] at hS; cases hS; exact h10.2.1
            · rw [if_neg e] at hS; exact h10.2.2.2 j hj S hS
        have cl := c_layKeep (G := G) (d := d) (M := M) hn2 k1
        rw [hN] at cl
        refine v_iload_n (pc := 11) 7 rfl rfl ?_
        refine v_if_eqT (pc := 12) 8 26 rfl (by decide) (by omega) (by decide) ?_
        refine v_aload_n (pc := 26) 14 rfl rfl ?_
        refine v_getC (pc := 27) 15 rfl fl_X11_71 rfl 29 rfl ?_
        refine v_iload_n (pc := 30) 16 rfl rfl ?_
        refine v_cV1i (pc := 31) 17 rfl cv_X11_302 rfl (Nat.le_of_ble_eq_true rfl) (Nat.le_of_ble_eq_true rfl) (cl) ?_
        refine v_zret (pc := 34) 18 rfl rfl (by decide) ⟨rfl, hB, fun q hq => ⟨g1 q (by omega) (by omega) (by omega), by rw [gl9]⟩⟩
      | true =>
        rw [if_pos rfl]
        rcases k2 n hn2 with ⟨q1, q2⟩ | ⟨S, q1, q2, q3⟩
        · rw [q1]
          refine v_iload_n (pc := 11) 7 rfl rfl ?_
          refine v_if_eqF (pc := 12) 8 26 rfl (by decide) (by omega) (by decide) ?_
          refine v_aload_n (pc := 15) 9 rfl rfl ?_
          refine v_getC (pc := 16) 10 rfl fl_X11_71 rfl 29 rfl ?_
          refine v_iload_n (pc := 19) 11 rfl rfl ?_
          refine v_cV1i (pc := 20) 12 rfl cv_X11_299 rfl (Nat.le_of_ble_eq_true rfl) (Nat.le_of_ble_eq_true rfl) (c_backToKeep0 hn2 k1 q2) ?_
          refine v_goto (pc := 23) 13 34 rfl (by decide) ?_
          refine v_zret (pc := 34) 18 rfl rfl (by decide) ⟨rfl, h, CF.rfl9 M⟩
        · rw [q1]
          have hS := h.ok.2.2.2 n hn2 S q1
          have gs0 := fe_s (M := M) (s := 12 + n) (S := S) (by rw [h.eS]; exact h.sf) hS.2 q3
          have cl := c_backToKeep (G := G) (d := d) (M := M) hn2 k1 q2
          generalize hN : sI (feM M (12 + n)) 29 5 0 = N1 at cl
          have g1 : ∀ q, q ≠ 9 → q ≠ 10 → q ≠ 29 → gI N1 q = gI M q := fun q q1 q2 q3 => by rw [← hN, gI_sI_ne q3, fe_ne ⟨q1, q2⟩]
          have g5 : gI N1 29 5 = 0 := by rw [← hN, gI_sI, if_pos rfl, if_pos rfl]
          have g4 : ∀ i, i ≠ 5 → gI N1 29 i = gI M 29 i := fun i hi => by rw [← hN, gI_sI, if_pos rfl, if_neg hi, fe_ne (by decide)]
          have gr9 : gR N1 = gR M := by rw [← hN]; rfl
          have gl9 : gL N1 = gL M := by rw [← hN]; rfl
          have gs : sOf N1 = S := by
            rw [← gs0, ← hN]; unfold sOf; rw [gI_sI_ne (by decide), gI_sI_ne (by decide)]
          have hB : CRc N1 (A.1, aT A, S, [], aK A) c c2 := by
            obtain ⟨h1, h2, h3, h4, h5, h6, h7, h8, h9, h10⟩ := h
            have eT : ∀ j, j ≤ 10 → gI N1 (c + j) = gI M (c + j) := fun j hj => g1 _ (by omega) (by omega) (by omega)
            refine ⟨h1, by rw [gr9]; exact h2, by rw [gr9]; exact h3, h4.keep eT (by rw [gr9]) (by rw [gs, h5]; exact hS.1), (tOf_eq eT).trans h5, gs, ?_, ?_, ?_, ⟨h10.1, hS, fun S hS => (by cases hS), h10.2.2.2⟩⟩
            · rw [g1 0 (by decide) (by decide) (by decide), g1 1 (by decide) (by decide) (by decide)]; exact h7
            · exact ⟨by rw [g4 4 (by decide)]; exact h8.1, g5, Nat.zero_le _, fun i hi => (by cases hi)⟩
            · unfold KR
              rw [g4 3 (by decide), g1 30 (by decide) (by decide) (by decide), g1 31 (by decide) (by decide) (by decide)]
              exact ⟨k1, k2⟩
          refine v_iload_n (pc := 11) 7 rfl rfl ?_
          refine v_if_eqF (pc := 12) 8 26 rfl (by decide) (by omega) (by decide) ?_
          refine v_aload_n (pc := 15) 9 rfl rfl ?_
          refine v_getC (pc := 16) 10 rfl fl_X11_71 rfl 29 rfl ?_
          refine v_iload_n (pc := 19) 11 rfl rfl ?_
          refine v_cV1i (pc := 20) 12 rfl cv_X11_299 rfl (Nat.le_of_ble_eq_true rfl) (Nat.le_of_ble_eq_true rfl) (cl) ?_
          refine v_goto (pc := 23) 13 34 rfl (by decide) ?_
          refine v_zret (pc := 34) 18 rfl rfl (by decide) ⟨rfl, hB, fun q hq => ⟨g1 q (by omega) (by omega) (by omega), by rw [gl9]⟩⟩
    · rw [if_neg (by omega)]
      refine v_iconst (pc := 9) 5 rfl ?_
      refine v_zret (pc := 10) 6 rfl rfl (by decide) ⟨rfl, h, CF.rfl9 M⟩
def sCount (A : Ax) (w : Int) : Int := if w = 0 then (nT (aT A) : Int) else if w = 1 then (nJ (aT A) : Int) else if w = 2 then (nK (aT A) : Int) else if w = 3 then sits (aS A) (nK (aT A)) else if w = 4 then ((aU A).length : Int) else if w = 5 then (aN A : Int) else -1
theorem c_count (h : CRc M A c c2) {w : Int} (hw : -2147483648 ≤ w ∧ w ≤ 2147483647) : V G (d + 2) mX11_count 0 [some (.ref 0), some (.int (J w))] [] M (Ret (some (.int (J (sCount A w)))) M) := by
  have hc := h.hc
  have hto := h.2.1
  have hn := h.nn
  have hu := h.ur.2.1
  have ht := h.tp.1
  unfold sCount
  by_cases q : w < 0 ∨ 5 < w
  · rw [if_neg (by omega), if_neg (by omega), if_neg (by omega), if_neg (by omega), if_neg (by omega), if_neg (by omega)]
    refine v_iload_n (pc := 0) 0 rfl rfl ?_
    refine v_tswOut (pc := 1) 1 85 rfl ⟨hw, q⟩ (by decide) ?_
    refine v_iconst (pc := 85) 25 rfl ?_
    refine v_iret (pc := 86) 26 rfl rfl ⟨rfl, rfl⟩
  · rcases (by omega : w = 0 ∨ w = 1 ∨ w = 2 ∨ w = 3 ∨ w = 4 ∨ w = 5) with rfl | rfl | rfl | rfl | rfl | rfl
    · refine v_iload_n (pc := 0) 0 rfl rfl ?_
      refine v_tswIn (pc := 1) 1 40 rfl (by decide) rfl (by decide) ?_
      refine v_aload_n (pc := 40) 2 rfl rfl ?_
      refine v_getR (pc := 41) 3 rfl fl_X11_20 rfl _ hto ?_
      refine v_getI (pc := 44) 4 rfl fl_X11_305 (shC hc) ?_
      rw [hn.1]
      refine v_iret (pc := 47) 5 rfl rfl ⟨rfl, rfl⟩
    · refine v_iload_n (pc := 0) 0 rfl rfl ?_
      refine v_tswIn (pc := 1) 1 48 rfl (by decide) rfl (by decide) ?_
      refine v_aload_n (pc := 48) 6 rfl rfl ?_
      refine v_getR (pc := 49) 7 rfl fl_X11_20 rfl _ hto ?_
      refine v_getI (pc := 52) 8 rfl fl_X11_247 (shC hc) ?_
      rw [hn.2.1]
      refine v_iret (pc := 55) 9 rfl rfl ⟨rfl, rfl⟩
    · refine v_iload_n (pc := 0) 0 rfl rfl ?_
      refine v_tswIn (pc := 1) 1 56 rfl (by decide) rfl (by decide) ?_
      refine v_aload_n (pc := 56) 10 rfl rfl ?_
      refine v_getR (pc := 57) 11 rfl fl_X11_20 rfl _ hto ?_
      refine v_getI (pc := 60) 12 rfl fl_X11_308 (shC hc) ?_
      rw [hn.2.2.1]
      refine v_iret (pc := 63) 13 rfl rfl ⟨rfl, rfl⟩
    · have cl := c_sittings (G := G) (d := d) h.ci
      rw [h.eT, h.eS] at cl
      refine v_iload_n (pc := 0) 0 rfl rfl ?_
      refine v_tswIn (pc := 1) 1 64 rfl (by decide) rfl (by decide) ?_
      refine v_aload_n (pc := 64) 14 rfl rfl ?_
      refine v_getC (pc := 65) 15 rfl fl_X11_41 rfl 8 rfl ?_
      refine v_cV0i (pc := 68) 16 rfl cv_X11_289 rfl (Nat.le_of_ble_eq_true rfl) (Nat.le_of_ble_eq_true rfl) (cl) ?_
      refine v_iret (pc := 71) 17 rfl rfl ⟨rfl, rfl⟩
    · refine v_iload_n (pc := 0) 0 rfl rfl ?_
      refine v_tswIn (pc := 1) 1 72 rfl (by decide) rfl (by decide) ?_
      refine v_aload_n (pc := 72) 18 rfl rfl ?_
      refine v_getC (pc := 73) 19 rfl fl_X11_71 rfl 29 rfl ?_
      refine v_getI (pc := 76) 20 rfl fl_X11_311 rfl ?_
      rw [hu]
      refine v_iret (pc := 79) 21 rfl rfl ⟨rfl, rfl⟩
    · refine v_iload_n (pc := 0) 0 rfl rfl ?_
      refine v_tswIn (pc := 1) 1 80 rfl (by decide) rfl (by decide) ?_
      refine v_aload_n (pc := 80) 22 rfl rfl ?_
      refine v_getI (pc := 81) 23 rfl fl_X11_13 rfl ?_
      rw [ht]
      refine v_iret (pc := 84) 24 rfl rfl ⟨rfl, rfl⟩
end Pub3
