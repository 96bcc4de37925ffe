/-! 22: the shortest ways, found in place -/
def fwS (D : Nat → Int) (m a b : Nat) : Nat → Int := up D (a * 5 + b) (min (D (a * 5 + b)) (D (a * 5 + m) + D (m * 5 + b)))
def fwB (D : Nat → Int) (m a : Nat) : Nat → Nat → Int
  | 0 => D
  | b + 1 => fwS (fwB D m a b) m a b
def fwA (D : Nat → Int) (m n : Nat) : Nat → Nat → Int
  | 0 => D
  | a + 1 => fwB (fwA D m n a) m a n
def fwM (D : Nat → Int) (n : Nat) : Nat → Nat → Int
  | 0 => D
  | m + 1 => fwA (fwM D n m) m n n
def fw (D : Nat → Int) (n : Nat) : Nat → Int := fwM D n n
def InM (D : Nat → Int) (n : Nat) : Prop := ∀ a b, a < n → b < n → 0 ≤ D (a * 5 + b) ∧ D (a * 5 + b) ≤ 1000
theorem fwS_in {D : Nat → Int} {n m a b : Nat} (h : InM D n) (hm : m < n) (ha : a < n) (hb : b < n) : InM (fwS D m a b) n := by
  intro x y hx hy
  unfold fwS up
  have h1 := h a b ha hb
  have h2 := h a m ha hm
  have h3 := h m b hm hb
  have h4 := h x y hx hy
  by_cases e : x * 5 + y = a * 5 + b
  · rw [if_pos e]; omega
  · rw [if_neg e]; exact h4
theorem fwB_in {D : Nat → Int} {n m a : Nat} (h : InM D n) (hm : m < n) (ha : a < n) (b : Nat) (hb : b ≤ n) : InM (fwB D m a b) n := by
  induction b with
  | zero => exact h
  | succ b ih => exact fwS_in (ih (by omega)) hm ha (by omega)
theorem fwA_in {D : Nat → Int} {n m : Nat} (h : InM D n) (hm : m < n) (a : Nat) (ha : a ≤ n) : InM (fwA D m n a) n := by
  induction a with
  | zero => exact h
  | succ a ih => exact fwB_in (ih (by omega)) hm (by omega) n (Nat.le_refl n)
theorem fwM_in {D : Nat → Int} {n : Nat} (h : InM D n) (m : Nat) (hm : m ≤ n) : InM (fwM D n m) n := by
  induction m with
  | zero => exact h
  | succ m ih => exact fwA_in (ih (by omega)) (by omega) n (Nat.le_refl n)
theorem fw_in {D : Nat → Int} {n : Nat} (h : InM D n) : InM (fw D n) n := fwM_in h n (Nat.le_refl n)
section Ways
variable {G : Gt} {d : Nat} {M : Mem} {c : Nat}
set_option maxHeartbeats 2000000 in
theorem c_findWays (hc : c = 32 ∨ c = 43) {n : Nat} (hn : gI M c 0 = (n : Int)) (hn5 : n ≤ 5) (hD : InM (gI M (c + 1)) n) : V G (d + 1) mX4_findWays 0 [some (.ref c), none, none, none, none] [] M (Ret none (aI M (c + 1) (fw (gI M (c + 1)) n))) := by
  have e0 : ∀ D, gI (aI M (c + 1) D) c 0 = (n : Int) := fun D => by rw [gI_aI_ne (by omega)]; exact hn
  have e1 : ∀ D, gI (aI M (c + 1) D) (c + 1) = D := fun D => by funext i; rw [gI_aI, if_pos rfl]
  refine v_iconst (pc := 0) 0 rfl ?_
  refine v_istore_n (pc := 1) 1 rfl ⟨Nat.le_of_ble_eq_true rfl, rfl⟩ ?_
  have lm := loopN (N := n) (fun m => ∀ u v w, V G (d + 1) mX4_findWays 2 [some (.ref c), some (.int (J (m : Int))), u, v, w] [] (aI M (c + 1) (fwM (gI M (c + 1)) n m)) (Ret none (aI M (c + 1) (fw (gI M (c + 1)) n)))) ?_ ?_
  · have := lm none none none
    rw [show fwM (gI M (c + 1)) n 0 = gI M (c + 1) from rfl, aI_self] at this
    exact this
  · intro u v w
    have f0 := e0 (fwM (gI M (c + 1)) n n)
    refine v_iload_n (pc := 2) 2 rfl rfl ?_
    refine v_aload_n (pc := 3) 3 rfl rfl ?_
    refine v_getI (pc := 4) 4 rfl fl_X4_45 (shC hc) ?_
    refine v_ic_geT (pc := 7) 5 84 rfl (by decide) (by omega) (by omega) ?_
    refine v_ret (pc := 84) 48 rfl rfl ⟨rfl, rfl⟩
  · intro m hm ihm u v w
    have f0 := e0 (fwM (gI M (c + 1)) n m)
    have hDm := fwM_in hD m (by omega)
    rw [show fwM (gI M (c + 1)) n (m + 1) = fwA (fwM (gI M (c + 1)) n m) m n n from rfl] at ihm
    generalize fwM (gI M (c + 1)) n m = D1 at hDm ihm f0 ⊢
    refine v_iload_n (pc := 2) 2 rfl rfl ?_
    refine v_aload_n (pc := 3) 3 rfl rfl ?_
    refine v_getI (pc := 4) 4 rfl fl_X4_45 (shC hc) ?_
    refine v_ic_geF (pc := 7) 5 84 rfl (by decide) (by omega) (by omega) ?_
    refine v_iconst (pc := 10) 6 rfl ?_
    refine v_istore_n (pc := 11) 7 rfl ⟨Nat.le_of_ble_eq_true rfl, rfl⟩ ?_
    have la := loopN (N := n) (fun a => ∀ v w, V G (d + 1) mX4_findWays 12 [some (.ref c), some (.int (J (m : Int))), some (.int (J (a : Int))), v, w] [] (aI M (c + 1) (fwA D1 m n a)) (Ret none (aI M (c + 1) (fw (gI M (c + 1)) n)))) ?_ ?_
    · exact la _ _
    · intro v w
      have f0 := e0 (fwA D1 m n n)
      refine v_iload_n (pc := 12) 8 rfl rfl ?_
      refine v_aload_n (pc := 13) 9 rfl rfl ?_
      refine v_getI (pc := 14) 10 rfl fl_X4_45 (shC hc) ?_
      refine v_ic_geT (pc := 17) 11 78 rfl (by decide) (by omega) (by omega) ?_
      refine v_iinc (pc := 78) 46 rfl rfl ⟨Nat.le_of_ble_eq_true rfl, rfl⟩ ?_
      refine v_goto (pc := 81) 47 2 rfl (by decide) ?_
      exact ihm _ _ _
    · intro a ha iha v w
      have f0 := e0 (fwA D1 m n a)
      have hDa := fwA_in hDm hm a (by omega)
      rw [show fwA D1 m n (a + 1) = fwB (fwA D1 m n a) m a n from rfl] at iha
      generalize fwA D1 m n a = D2 at hDa iha f0 ⊢
      refine v_iload_n (pc := 12) 8 rfl rfl ?_
      refine v_aload_n (pc := 13) 9 rfl rfl ?_
      refine v_getI (pc := 14) 10 rfl fl_X4_45 (shC hc) ?_
      refine v_ic_geF (pc := 17) 11 78 rfl (by decide) (by omega) (by omega) ?_
      refine v_iconst (pc := 20) 12 rfl ?_
      refine v_istore_n (pc := 21) 13 rfl ⟨Nat.le_of_ble_eq_true rfl, rfl⟩ ?_
      have lb := loopN (N := n) (fun b => ∀ w, V G (d + 1) mX4_findWays 22 [some (.ref c), some (.int (J (m : Int))), some (.int (J (a : Int))), some (.int (J (b : Int))), w] [] (aI M (c + 1) (fwB D2 m a b)) (Ret none (aI M (c + 1) (fw (gI M (c + 1)) n)))) ?_ ?_
      · exact lb _
      · intro w
        have f0 := e0 (fwB D2 m a n)
        refine v_iload_n (pc := 22) 14 rfl rfl ?_
        refine v_aload_n (pc := 23) 15 rfl rfl ?_
        refine v_getI (pc := 24) 16 rfl fl_X4_45 (shC hc) ?_
        refine v_ic_geT (pc := 27) 17 72 rfl (by decide) (by omega) (by omega) ?_
        refine v_iinc (pc := 72) 44 rfl rfl ⟨Nat.le_of_ble_eq_true rfl, rfl⟩ ?_
        refine v_goto (pc := 75) 45 12 rfl (by decide) ?_
        exact iha _ _
      · intro b hb ihb w
        have f0 := e0 (fwB D2 m a b)
        have hDb := fwB_in hDa hm ha b (by omega)
        rw [show fwB D2 m a (b + 1) = fwS (fwB D2 m a b) m a b from rfl] at ihb
        generalize fwB D2 m a b = D3 at hDb ihb f0 ⊢
        have g1 := hDb a b ha hb
        have g2 := hDb a m ha hm
        have g3 := hDb m b hm hb
        have w1 : ∀ x y : Nat, x < 5 → y < 5 → V G d mX4_way 0 [some (.ref c), some (.int (J (x : Int))), some (.int (J (y : Int)))] [] (aI M (c + 1) D3) (Ret (some (.int (J (D3 (x * 5 + y))))) (aI M (c + 1) D3)) := fun x y hx hy => by
          have := c_way (G := G) (d := d) (M := aI M (c + 1) D3) hc (a := (x : Int)) (b := (y : Int)) (by omega)
          rw [e1, show ((x : Int) * 5 + (y : Int)).toNat = x * 5 + y by omega] at this
          exact this
        refine v_iload_n (pc := 22) 14 rfl rfl ?_
        refine v_aload_n (pc := 23) 15 rfl rfl ?_
        refine v_getI (pc := 24) 16 rfl fl_X4_45 (shC hc) ?_
        refine v_ic_geF (pc := 27) 17 72 rfl (by decide) (by omega) (by omega) ?_
        refine v_aload_n (pc := 30) 18 rfl rfl ?_
        refine v_iload_n (pc := 31) 19 rfl rfl ?_
        refine v_iload_n (pc := 32) 20 rfl rfl ?_
        refine v_cV2i (pc := 33) 21 rfl cv_X4_55 (shC hc) (Nat.le_of_ble_eq_true rfl) (Nat.le_of_ble_eq_true rfl) (w1 a m (by omega) (by omega)) ?_
        refine v_aload_n (pc := 36) 22 rfl rfl ?_
        refine v_iload_n (pc := 37) 23 rfl rfl ?_
        refine v_iload_n (pc := 38) 24 rfl rfl ?_
        refine v_cV2i (pc := 39) 25 rfl cv_X4_55 (shC hc) (Nat.le_of_ble_eq_true rfl) (Nat.le_of_ble_eq_true rfl) (w1 m b (by omega) (by omega)) ?_
        refine v_iadd (pc := 42) 26 rfl ?_
        refine v_istore (pc := 43) 27 rfl ⟨Nat.le_of_ble_eq_true rfl, rfl⟩ ?_
        refine v_aload_n (pc := 45) 28 rfl rfl ?_
        refine v_getC (pc := 46) 29 rfl fl_X4_9 (shC hc) _ (rtC_3 hc) ?_
        refine v_iload_n (pc := 49) 30 rfl rfl ?_
        refine v_iconst (pc := 50) 31 rfl ?_
        refine v_imul (pc := 51) 32 rfl ?_
        refine v_iload_n (pc := 52) 33 rfl rfl ?_
        refine v_iadd (pc := 53) 34 rfl ?_
        refine v_aload_n (pc := 54) 35 rfl rfl ?_
        refine v_iload_n (pc := 55) 36 rfl rfl ?_
        refine v_iload_n (pc := 56) 37 rfl rfl ?_
        refine v_cV2i (pc := 57) 38 rfl cv_X4_55 (shC hc) (Nat.le_of_ble_eq_true rfl) (Nat.le_of_ble_eq_true rfl) (w1 a b (by omega) (by omega)) ?_
        refine v_iload (pc := 60) 39 rfl rfl ?_
        refine v_mmin (pc := 62) 40 rfl ml_X4_59 (by omega) (Nat.le_of_ble_eq_true rfl) ?_
        refine v_iastE (pc := 65) 41 rfl (shC_3 hc) (a * 5 + b) (by omega) ?_
        refine v_iinc (pc := 66) 42 rfl rfl ⟨Nat.le_of_ble_eq_true rfl, rfl⟩ ?_
        refine v_goto (pc := 69) 43 22 rfl (by decide) ?_
        rw [sI_aI]
        exact ihb _
end Ways
