/-! 67: the reference: ways; courts -/
/-- ways behind the towns told are none -/
def Ex (D : Nat → Int) (n : Nat) : Prop := ∀ a b, a < 5 → b < 5 → (0 ≤ D (a * 5 + b) ∧ D (a * 5 + b) ≤ 1000) ∧ (a = b → D (a * 5 + b) = 0) ∧ ((n ≤ a ∨ n ≤ b) → a ≠ b → D (a * 5 + b) = 1000)
/-- D and E are the same ways -/
def Sm (D E : Nat → Int) : Prop := ∀ a b, a < 5 → b < 5 → D (a * 5 + b) = E (a * 5 + b)
theorem ix5 {a b c e : Nat} (ha : a < 5) (hb : b < 5) (hc : c < 5) (he : e < 5) : (a * 5 + b = c * 5 + e) ↔ (a = c ∧ b = e) := by omega
theorem fwS_at (D : Nat → Int) {m a b x y : Nat} (ha : a < 5) (hb : b < 5) (hx : x < 5) (hy : y < 5) : fwS D m a b (x * 5 + y) = if x = a ∧ y = b then min (D (a * 5 + b)) (D (a * 5 + m) + D (m * 5 + b)) else D (x * 5 + y) := by
  unfold fwS up
  by_cases g : x = a ∧ y = b
  · rw [if_pos g, if_pos ((ix5 hx hy ha hb).mpr g)]
  · rw [if_neg g, if_neg (fun z => g ((ix5 hx hy ha hb).mp z))]
theorem fwS_id {D : Nat → Int} {n m a b : Nat} (h : Ex D n) (hm : m < 5) (ha : a < 5) (hb : b < 5) (ho : n ≤ m ∨ n ≤ a ∨ n ≤ b) : Sm (fwS D m a b) D := by
  intro x y hx hy
  rw [fwS_at D ha hb hx hy]
  by_cases g : x = a ∧ y = b
  · rw [if_pos g, g.1, g.2]
    have h1 := h a b ha hb
    have h2 := h a m ha hm
    have h3 := h m b hm hb
    by_cases e1 : a = m
    · subst e1
      have := h2.2.1 rfl
      omega
    · by_cases e2 : m = b
      · subst e2
        have := h3.2.1 rfl
        omega
      · rcases ho with q | q | q
        · have := h2.2.2 (Or.inr q) e1
          omega
        · have := h2.2.2 (Or.inl q) e1
          omega
        · have := h3.2.2 (Or.inr q) e2
          omega
  · rw [if_neg g]
theorem fwS_ex {D : Nat → Int} {n m a b : Nat} (h : Ex D n) (hm : m < 5) (ha : a < 5) (hb : b < 5) : Ex (fwS D m a b) n := by
  intro x y hx hy
  have hid := fun ho => fwS_id (m := m) (a := a) (b := b) h hm ha hb ho x y hx hy
  have h0 := h x y hx hy
  have h1 := h a b ha hb
  have h2 := h a m ha hm
  have h3 := h m b hm hb
  by_cases ho : n ≤ m ∨ n ≤ a ∨ n ≤ b
  · rw [hid ho]; exact h0
  · rw [fwS_at D ha hb hx hy]
    by_cases g : x = a ∧ y = b
    · rw [if_pos g]
      refine ⟨by omega, fun q => ?_, fun q => by omega⟩
      have := h1.2.1 (by omega)
      omega
    · rw [if_neg g]; exact h0
theorem fwS_sm {D E : Nat → Int} {m a b : Nat} (h : Sm D E) (hm : m < 5) (ha : a < 5) (hb : b < 5) : Sm (fwS D m a b) (fwS E m a b) := by
  intro x y hx hy
  rw [fwS_at D ha hb hx hy, fwS_at E ha hb hx hy, h a b ha hb, h a m ha hm, h m b hm hb, h x y hx hy]
theorem fwB_ex {D : Nat → Int} {n m a : Nat} (h : Ex D n) (hm : m < 5) (ha : a < 5) : ∀ b, b ≤ 5 → Ex (fwB D m a b) n := by
  intro b
  induction b with
  | zero => intro _; exact h
  | succ b ih => intro hb; exact fwS_ex (ih (by omega)) hm ha (by omega)
theorem fwB_sm {D E : Nat → Int} {m a : Nat} (h : Sm D E) (hm : m < 5) (ha : a < 5) : ∀ b, b ≤ 5 → Sm (fwB D m a b) (fwB E m a b) := by
  intro b
  induction b with
  | zero => intro _; exact h
  | succ b ih => intro hb; exact fwS_sm (ih (by omega)) hm ha (by omega)
theorem Sm.rfl9 (D : Nat → Int) : Sm D D := fun _ _ _ _ => rfl
theorem Sm.trans {D E F : Nat → Int} (h1 : Sm D E) (h2 : Sm E F) : Sm D F := fun a b ha hb => (h1 a b ha hb).trans (h2 a b ha hb)
theorem fwB_up {D : Nat → Int} {n m a : Nat} (h : Ex D n) (hm : m < 5) (ha : a < 5) : ∀ r, n + r ≤ 5 → Sm (fwB D m a (n + r)) (fwB D m a n) := by
  intro r
  induction r with
  | zero => intro _; exact Sm.rfl9 _
  | succ r ih => intro hr; exact (fwS_id (b := n + r) (fwB_ex h hm ha (n + r) (by omega)) hm ha (by omega) (Or.inr (Or.inr (by omega)))).trans (ih (by omega))
theorem fwB_id {D : Nat → Int} {n m a : Nat} (h : Ex D n) (hm : m < 5) (ha : a < 5) (ho : n ≤ m ∨ n ≤ a) : ∀ b, b ≤ 5 → Sm (fwB D m a b) D := by
  intro b
  induction b with
  | zero => intro _; exact Sm.rfl9 _
  | succ b ih => intro hb; exact (fwS_id (fwB_ex h hm ha b (by omega)) hm ha (by omega) (by omega)).trans (ih (by omega))
theorem fwA_ex {D : Nat → Int} {n m N : Nat} (h : Ex D n) (hm : m < 5) (hN : N ≤ 5) : ∀ a, a ≤ 5 → Ex (fwA D m N a) n := by
  intro a
  induction a with
  | zero => intro _; exact h
  | succ a ih => intro ha; exact fwB_ex (ih (by omega)) hm (by omega) N hN
theorem fwA_sm {D E : Nat → Int} {n m : Nat} (hE : Ex E n) (hn : n ≤ 5) (h : Sm D E) (hD : Ex D n) (hm : m < 5) : ∀ a, a ≤ n → Sm (fwA D m 5 a) (fwA E m n a) := by
  intro a
  induction a with
  | zero => intro _; exact h
  | succ a ih =>
    intro ha
    have i1 := ih (by omega)
    have x1 := fwA_ex hD hm (Nat.le_refl 5) a (by omega)
    have u := fwB_up x1 hm (a := a) (by omega) (5 - n) (by omega)
    rw [show n + (5 - n) = 5 by omega] at u
    exact u.trans (fwB_sm i1 hm (by omega) n hn)
theorem fwA_up {D : Nat → Int} {n m : Nat} (hD : Ex D n) (hm : m < 5) : ∀ r, n + r ≤ 5 → Sm (fwA D m 5 (n + r)) (fwA D m 5 n) := by
  intro r
  induction r with
  | zero => intro _; exact Sm.rfl9 _
  | succ r ih => intro hr; exact (fwB_id (a := n + r) (fwA_ex hD hm (Nat.le_refl 5) (n + r) (by omega)) hm (by omega) (Or.inr (by omega)) 5 (Nat.le_refl 5)).trans (ih (by omega))
theorem fwA_id {D : Nat → Int} {n m : Nat} (hD : Ex D n) (hm : m < 5) (ho : n ≤ m) : ∀ a, a ≤ 5 → Sm (fwA D m 5 a) D := by
  intro a
  induction a with
  | zero => intro _; exact Sm.rfl9 _
  | succ a ih => intro ha; exact (fwB_id (fwA_ex hD hm (Nat.le_refl 5) a (by omega)) hm (by omega) (Or.inl ho) 5 (Nat.le_refl 5)).trans (ih (by omega))
theorem fwM_ex {D : Nat → Int} {n N : Nat} (h : Ex D n) (hN : N ≤ 5) : ∀ m, m ≤ 5 → Ex (fwM D N m) n := by
  intro m
  induction m with
  | zero => intro _; exact h
  | succ m ih => intro hm; exact fwA_ex (ih (by omega)) (by omega) hN N hN
theorem fwM_sm {D E : Nat → Int} {n : Nat} (hn : n ≤ 5) (h : Sm D E) (hD : Ex D n) (hE : Ex E n) : ∀ m, m ≤ n → Sm (fwM D 5 m) (fwM E n m) := by
  intro m
  induction m with
  | zero => intro _; exact h
  | succ m ih =>
    intro hm
    have x1 := fwM_ex hD (Nat.le_refl 5) m (by omega)
    have x2 := fwM_ex hE hn m (by omega)
    have u := fwA_up x1 (m := m) (by omega) (5 - n) (by omega)
    rw [show n + (5 - n) = 5 by omega] at u
    exact u.trans (fwA_sm x2 hn (ih (by omega)) x1 (by omega) n (Nat.le_refl n))
theorem fwM_up {D : Nat → Int} {n : Nat} (hD : Ex D n) : ∀ r, n + r ≤ 5 → Sm (fwM D 5 (n + r)) (fwM D 5 n) := by
  intro r
  induction r with
  | zero => intro _; exact Sm.rfl9 _
  | succ r ih => intro hr; exact (fwA_id (m := n + r) (fwM_ex hD (Nat.le_refl 5) (n + r) (by omega)) (by omega) (by omega) 5 (Nat.le_refl 5)).trans (ih (by omega))
theorem fw_sm {D E : Nat → Int} {n : Nat} (hn : n ≤ 5) (h : Sm D E) (hD : Ex D n) (hE : Ex E n) : Sm (fw D 5) (fw E n) := by
  have u := fwM_up hD (5 - n) (by omega)
  rw [show n + (5 - n) = 5 by omega] at u
  exact u.trans (fwM_sm hn h hD hE n (Nat.le_refl n))
theorem Ex.inM {D : Nat → Int} {n : Nat} (h : Ex D n) : InM D 5 := fun a b ha hb => (h a b ha hb).1
/-- the ways as the reference begins them, the first i of them laid -/
def wyF (R F : Nat → Int) (i : Nat) : Nat → Int := fun x => if x < i then (if x / 5 = x % 5 then 0 else R x) else F x
section MCourts
variable {G : Gt} {d : Nat} {M N : Mem} {A : Ax}
theorem m_laysWays {n : Nat} (hR : ∀ x, x < 25 → x / 5 ≠ x % 5 → 0 ≤ gI N 62 x ∧ gI N 62 x ≤ 1000) (hE : Ex (wyF (gI N 62) (gI N 76) 25) n) : V G (d + 1) mX12_laysWays 0 [some (.ref 54), none, none, none] [] N (Ret none (aI N 76 (fw (wyF (gI N 62) (gI N 76) 25) 5))) := by
  generalize hQ : Ret none (aI N 76 (fw (wyF (gI N 62) (gI N 76) 25) 5)) = Q
  generalize hD : wyF (gI N 62) (gI N 76) 25 = D at hE hQ
  have floyd : ∀ v w : Option Value, V G (d + 1) mX12_laysWays 57 [some (.ref 54), some (.int (J 0)), v, w] [] (aI N 76 D) Q := by
    intro v w
    refine loopN (N := 5) (fun m => ∀ v w, V G (d + 1) mX12_laysWays 57 [some (.ref 54), some (.int (J (m : Int))), v, w] [] (aI N 76 (fwM D 5 m)) Q) ?_ ?_ v w
    · intro v w
      refine v_iload_n (pc := 57) 37 rfl rfl ?_
      refine v_iconst (pc := 58) 38 rfl ?_
      refine v_ic_geT (pc := 59) 39 138 rfl (by decide) (by omega) (by omega) ?_
      refine v_ret (pc := 138) 90 rfl rfl (by rw [← hQ]; exact ⟨rfl, rfl⟩)
    · intro m hm ihm v w
      refine v_iload_n (pc := 57) 37 rfl rfl ?_
      refine v_iconst (pc := 58) 38 rfl ?_
      refine v_ic_geF (pc := 59) 39 138 rfl (by decide) (by omega) (by omega) ?_
      refine v_iconst (pc := 62) 40 rfl ?_
      refine v_istore_n (pc := 63) 41 rfl ⟨Nat.le_of_ble_eq_true rfl, rfl⟩ ?_
      refine loopN (N := 5) (fun a => ∀ w, V G (d + 1) mX12_laysWays 64 [some (.ref 54), some (.int (J (m : Int))), some (.int (J (a : Int))), w] [] (aI N 76 (fwA (fwM D 5 m) m 5 a)) Q) ?_ ?_ w
      · intro w
        refine v_iload_n (pc := 64) 42 rfl rfl ?_
        refine v_iconst (pc := 65) 43 rfl ?_
        refine v_ic_geT (pc := 66) 44 132 rfl (by decide) (by omega) (by omega) ?_
        refine v_iinc (pc := 132) 88 rfl rfl ⟨Nat.le_of_ble_eq_true rfl, rfl⟩ ?_
        refine v_goto (pc := 135) 89 57 rfl (by decide) ?_
        exact ihm _ _
      · intro a ha iha w
        refine v_iload_n (pc := 64) 42 rfl rfl ?_
        refine v_iconst (pc := 65) 43 rfl ?_
        refine v_ic_geF (pc := 66) 44 132 rfl (by decide) (by omega) (by omega) ?_
        refine v_iconst (pc := 69) 45 rfl ?_
        refine v_istore_n (pc := 70) 46 rfl ⟨Nat.le_of_ble_eq_true rfl, rfl⟩ ?_
        refine loopN (N := 5) (fun b => V G (d + 1) mX12_laysWays 71 [some (.ref 54), some (.int (J (m : Int))), some (.int (J (a : Int))), some (.int (J (b : Int)))] [] (aI N 76 (fwB (fwA (fwM D 5 m) m 5 a) m a b)) Q) ?_ ?_
        · refine v_iload_n (pc := 71) 47 rfl rfl ?_
          refine v_iconst (pc := 72) 48 rfl ?_
          refine v_ic_geT (pc := 73) 49 126 rfl (by decide) (by omega) (by omega) ?_
          refine v_iinc (pc := 126) 86 rfl rfl ⟨Nat.le_of_ble_eq_true rfl, rfl⟩ ?_
          refine v_goto (pc := 129) 87 64 rfl (by decide) ?_
          exact iha _
        · intro b hb ihb
          have hx := fwB_ex (fwA_ex (fwM_ex hE (Nat.le_refl 5) m (by omega)) hm (Nat.le_refl 5) a (by omega)) hm ha b (by omega)
          have eS : fwB (fwA (fwM D 5 m) m 5 a) m a (b + 1) = fwS (fwB (fwA (fwM D 5 m) m 5 a) m a b) m a b := rfl
          rw [eS] at ihb
          generalize fwB (fwA (fwM D 5 m) m 5 a) m a b = E at *
          have r1 := (hx a b ha hb).1
          have r2 := (hx a m ha hm).1
          have r3 := (hx m b hm hb).1
          have e76 : ∀ x, gI (aI N 76 E) 76 x = E x := fun x => by rw [gI_aI, if_pos rfl]
          refine v_iload_n (pc := 71) 47 rfl rfl ?_
          refine v_iconst (pc := 72) 48 rfl ?_
          refine v_ic_geF (pc := 73) 49 126 rfl (by decide) (by omega) (by omega) ?_
          refine v_aload_n (pc := 76) 50 rfl rfl ?_
          refine v_getC (pc := 77) 51 rfl fl_X12_76 rfl 76 rfl ?_
          refine v_iconst (pc := 80) 52 rfl ?_
          refine v_iload_n (pc := 81) 53 rfl rfl ?_
          refine v_imul (pc := 82) 54 rfl ?_
          refine v_iload_n (pc := 83) 55 rfl rfl ?_
          refine v_iadd (pc := 84) 56 rfl ?_
          refine v_aload_n (pc := 85) 57 rfl rfl ?_
          refine v_getC (pc := 86) 58 rfl fl_X12_76 rfl 76 rfl ?_
          refine v_iconst (pc := 89) 59 rfl ?_
          refine v_iload_n (pc := 90) 60 rfl rfl ?_
          refine v_imul (pc := 91) 61 rfl ?_
          refine v_iload_n (pc := 92) 62 rfl rfl ?_
          refine v_iadd (pc := 93) 63 rfl ?_
          refine v_ialdE (pc := 94) 64 rfl rfl (a * 5 + b) (by omega) ?_
          rw [e76]
          refine v_aload_n (pc := 95) 65 rfl rfl ?_
          refine v_getC (pc := 96) 66 rfl fl_X12_76 rfl 76 rfl ?_
          refine v_iconst (pc := 99) 67 rfl ?_
          refine v_iload_n (pc := 100) 68 rfl rfl ?_
          refine v_imul (pc := 101) 69 rfl ?_
          refine v_iload_n (pc := 102) 70 rfl rfl ?_
          refine v_iadd (pc := 103) 71 rfl ?_
          refine v_ialdE (pc := 104) 72 rfl rfl (a * 5 + m) (by omega) ?_
          rw [e76]
          refine v_aload_n (pc := 105) 73 rfl rfl ?_
          refine v_getC (pc := 106) 74 rfl fl_X12_76 rfl 76 rfl ?_
          refine v_iconst (pc := 109) 75 rfl ?_
          refine v_iload_n (pc := 110) 76 rfl rfl ?_
          refine v_imul (pc := 111) 77 rfl ?_
          refine v_iload_n (pc := 112) 78 rfl rfl ?_
          refine v_iadd (pc := 113) 79 rfl ?_
          refine v_ialdE (pc := 114) 80 rfl rfl (m * 5 + b) (by omega) ?_
          rw [e76]
          refine v_iadd (pc := 115) 81 rfl ?_
          refine v_mmin (pc := 116) 82 rfl ml_X12_246 (by omega) (Nat.le_of_ble_eq_true rfl) ?_
          refine v_iastE (pc := 119) 83 rfl rfl (a * 5 + b) (by omega) ?_
          refine v_iinc (pc := 120) 84 rfl rfl ⟨Nat.le_of_ble_eq_true rfl, rfl⟩ ?_
          refine v_goto (pc := 123) 85 71 rfl (by decide) ?_
          rw [sI_aI]
          exact ihb
  refine v_iconst (pc := 0) 0 rfl ?_
  refine v_istore_n (pc := 1) 1 rfl ⟨Nat.le_of_ble_eq_true rfl, rfl⟩ ?_
  have loop := loopN (N := 5) (fun a => ∀ v, V G (d + 1) mX12_laysWays 2 [some (.ref 54), some (.int (J (a : Int))), v, none] [] (aI N 76 (wyF (gI N 62) (gI N 76) (5 * a))) Q) ?_ ?_ none
  · rw [show wyF (gI N 62) (gI N 76) (5 * 0) = gI N 76 from funext fun x => if_neg (by omega), aI_self] at loop
    exact loop
  · intro v
    rw [hD]
    refine v_iload_n (pc := 2) 2 rfl rfl ?_
    refine v_iconst (pc := 3) 3 rfl ?_
    refine v_ic_geT (pc := 4) 4 55 rfl (by decide) (by omega) (by omega) ?_
    refine v_iconst (pc := 55) 35 rfl ?_
    refine v_istore_n (pc := 56) 36 rfl ⟨Nat.le_of_ble_eq_true rfl, rfl⟩ ?_
    exact floyd _ _
  · intro a ha iha v
    refine v_iload_n (pc := 2) 2 rfl rfl ?_
    refine v_iconst (pc := 3) 3 rfl ?_
    refine v_ic_geF (pc := 4) 4 55 rfl (by decide) (by omega) (by omega) ?_
    refine v_iconst (pc := 7) 5 rfl ?_
    refine v_istore_n (pc := 8) 6 rfl ⟨Nat.le_of_ble_eq_true rfl, rfl⟩ ?_
    refine loopN (N := 5) (fun b => V G (d + 1) mX12_laysWays 9 [some (.ref 54), some (.int (J (a : Int))), some (.int (J (b : Int))), none] [] (aI N 76 (wyF (gI N 62) (gI N 76) (5 * a + b))) Q) ?_ ?_
    · refine v_iload_n (pc := 9) 7 rfl rfl ?_
      refine v_iconst (pc := 10) 8 rfl ?_
      refine v_ic_geT (pc := 11) 9 49 rfl (by decide) (by omega) (by omega) ?_
      refine v_iinc (pc := 49) 33 rfl rfl ⟨Nat.le_of_ble_eq_true rfl, rfl⟩ ?_
      refine v_goto (pc := 52) 34 2 rfl (by decide) ?_
      exact iha _
    · intro b hb ihb
      have es : (fun j => if j = 5 * a + b then (if a = b then 0 else gI N 62 (5 * a + b)) else wyF (gI N 62) (gI N 76) (5 * a + b) j) = wyF (gI N 62) (gI N 76) (5 * a + b + 1) := by
        funext j
        unfold wyF
        by_cases g : j = 5 * a + b
        · subst g
          have q1 : 5 * a + b < 5 * a + b + 1 := by omega
          rw [if_pos rfl, if_pos q1, show (5 * a + b) / 5 = a by omega, show (5 * a + b) % 5 = b by omega]
        · rw [if_neg g]
          by_cases g2 : j < 5 * a + b
          · have q2 : j < 5 * a + b + 1 := by omega
            rw [if_pos g2, if_pos q2]
          · have q3 : ¬ j < 5 * a + b + 1 := by omega
            rw [if_neg g2, if_neg q3]
      rw [show 5 * a + (b + 1) = 5 * a + b + 1 by omega, ← es] at ihb
      refine v_iload_n (pc := 9) 7 rfl rfl ?_
      refine v_iconst (pc := 10) 8 rfl ?_
      refine v_ic_geF (pc := 11) 9 49 rfl (by decide) (by omega) (by omega) ?_
      refine v_aload_n (pc := 14) 10 rfl rfl ?_
      refine v_getC (pc := 15) 11 rfl fl_X12_76 rfl 76 rfl ?_
      refine v_iconst (pc := 18) 12 rfl ?_
      refine v_iload_n (pc := 19) 13 rfl rfl ?_
      refine v_imul (pc := 20) 14 rfl ?_
      refine v_iload_n (pc := 21) 15 rfl rfl ?_
      refine v_iadd (pc := 22) 16 rfl ?_
      refine v_iload_n (pc := 23) 17 rfl rfl ?_
      refine v_iload_n (pc := 24) 18 rfl rfl ?_
      refine v_ic_ne (pc := 25) 19 32 rfl (by decide) (by omega) (fun e1 => ?_) (fun e1 => ?_)
      · have r9 := hR (5 * a + b) (by omega) (by omega)
        have e62 : gI (aI N 76 (wyF (gI N 62) (gI N 76) (5 * a + b))) 62 (5 * a + b) = gI N 62 (5 * a + b) := by rw [gI_aI_ne (by decide)]
        rw [if_neg (by omega)] at ihb
        refine v_aload_n (pc := 32) 22 rfl rfl ?_
        refine v_getC (pc := 33) 23 rfl fl_X12_33 rfl 62 rfl ?_
        refine v_iconst (pc := 36) 24 rfl ?_
        refine v_iload_n (pc := 37) 25 rfl rfl ?_
        refine v_imul (pc := 38) 26 rfl ?_
        refine v_iload_n (pc := 39) 27 rfl rfl ?_
        refine v_iadd (pc := 40) 28 rfl ?_
        refine v_ialdE (pc := 41) 29 rfl rfl (5 * a + b) (by omega) ?_
        rw [e62]
        refine v_iastE (pc := 42) 30 rfl rfl (5 * a + b) (by omega) ?_
        refine v_iinc (pc := 43) 31 rfl rfl ⟨Nat.le_of_ble_eq_true rfl, rfl⟩ ?_
        refine v_goto (pc := 46) 32 9 rfl (by decide) ?_
        rw [sI_aI]
        exact ihb
      · rw [if_pos (by omega)] at ihb
        refine v_iconst (pc := 28) 20 rfl ?_
        refine v_goto (pc := 29) 21 42 rfl (by decide) ?_
        refine v_iastE (pc := 42) 30 rfl rfl (5 * a + b) (by omega) ?_
        refine v_iinc (pc := 43) 31 rfl rfl ⟨Nat.le_of_ble_eq_true rfl, rfl⟩ ?_
        refine v_goto (pc := 46) 32 9 rfl (by decide) ?_
        rw [sI_aI]
        exact ihb
end MCourts
