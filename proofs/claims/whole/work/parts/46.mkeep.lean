/-! 46: the reference: acts -/
section MKeep
variable {G : Gt} {d : Nat} {M N : Mem} {A : Ax}
/-- the rows behind an act that is remembered -/
def shF (D : Nat → Int) (k : Nat) : Nat → Int := fun i => if i < k then D (i + 24) else D i
def rwF (D s : Nat → Int) (u k : Nat) : Nat → Int := fun i => if 24 * u ≤ i ∧ i < 24 * u + k then s (i - 24 * u) else D i
theorem m_keeps2 (h : MR M A) : V G d mX12_keeps 0 [some (.ref 54), none] [] M (fun r N => r = none ∧ MR N (begA A) ∧ MF M N ∧ (∀ q, q ≠ 54 → q ≠ 73 → gI N q = gI M q) ∧ ∀ i, i ≠ 33 → gI N 54 i = gI M 54 i) := by
  obtain ⟨h1, h2, ⟨u1, u2, u3⟩, h4, h5, h6⟩ := id h
  generalize hQ : (fun (r : Option Value) (N : Mem) => r = none ∧ MR N (begA A) ∧ MF M N ∧ (∀ q, q ≠ 54 → q ≠ 73 → gI N q = gI M q) ∧ ∀ i, i ≠ 33 → gI N 54 i = gI M 54 i) = Q
  -- the row is added behind the u that stay
  have fin : ∀ (u : Nat) (D : Nat → Int) (x : Option Value) (f : Int), u < 12 → (∀ i, i < u → ∀ k, k < 24 → D (24 * i + k) = gI M 73 (24 * (if (aU A).length < 12 then i else i + 1) + k)) → u + 1 = min ((aU A).length + 1) 12 → V G d mX12_keeps 49 [some (.ref 54), x] [] (sI (aI M 73 D) 54 33 (u : Int)) Q := by
    intro u D x f hu hD hul
    generalize hN : sI (aI M 73 D) 54 33 (u : Int) = N0
    have n1 : ∀ q, q ≠ 54 → q ≠ 73 → gI N0 q = gI M q := fun q q1 q2 => by rw [← hN, gI_sI_ne q1, gI_aI_ne q2]
    have n2 : gI N0 73 = D := by funext i; rw [← hN, gI_sI_ne (by decide), gI_aI, if_pos rfl]
    have n3 : ∀ i, gI N0 54 i = if i = 33 then (u : Int) else gI M 54 i := fun i => by rw [← hN, gI_sI, if_pos rfl, gI_aI_ne (by decide)]
    refine v_iconst (pc := 49) 27 rfl ?_
    refine v_istore_n (pc := 50) 28 rfl ⟨Nat.le_of_ble_eq_true rfl, rfl⟩ ?_
    have loop := loopN (N := 24) (fun k => V G d mX12_keeps 51 [some (.ref 54), some (.int (J (k : Int)))] [] (aI N0 73 (rwF D (gI M 72) u k)) Q) ?_ ?_
    · have e0 : rwF D (gI M 72) u 0 = gI N0 73 := by rw [n2]; funext i; unfold rwF; rw [if_neg (by omega)]
      rw [e0, aI_self] at loop
      exact loop
    · have eu : gI (aI N0 73 (rwF D (gI M 72) u 24)) 54 33 = (u : Int) := by rw [gI_aI_ne (by decide), n3, if_pos rfl]
      generalize hN2 : sI (aI N0 73 (rwF D (gI M 72) u 24)) 54 33 ((u : Int) + 1) = N2
      have g1 : ∀ q, q ≠ 54 → q ≠ 73 → gI N2 q = gI M q := fun q q1 q2 => by rw [← hN2, gI_sI_ne q1, gI_aI_ne q2, n1 q q1 q2]
      have g2 : gI N2 73 = rwF D (gI M 72) u 24 := by funext i; rw [← hN2, gI_sI_ne (by decide), gI_aI, if_pos rfl]
      have g3 : ∀ i, gI N2 54 i = if i = 33 then (u : Int) + 1 else gI M 54 i := fun i => by
        rw [← hN2, gI_sI, if_pos rfl, gI_aI_ne (by decide), n3]
        by_cases e : i = 33
        · rw [if_pos e, if_pos e]
        · rw [if_neg e, if_neg e, if_neg e]
      have hl := push_len (aU A) (aS A) u2
      have hR : MR N2 (begA A) := by
        refine ⟨h1.keep (fun q hq => g1 q (by omega) (by omega)), ?_, ⟨?_, by show (push (aU A) (aS A)).length ≤ 12; omega, fun i hi k hk => ?_⟩, ?_, ?_, ?_⟩
        · rw [g3, if_neg (by decide), g1 55 (by decide) (by decide)]; exact h2
        · rw [g3, if_pos rfl]; show (u : Int) + 1 = (((push (aU A) (aS A)).length : Nat) : Int); omega
        · change i < (push (aU A) (aS A)).length at hi
          show gI N2 73 (24 * i + k) = ((push (aU A) (aS A)).getD i s0).1 k ∧ gI N2 73 (24 * i + 12 + k) = ((push (aU A) (aS A)).getD i s0).2 k
          rw [g2, push_at (aU A) (aS A) u2 hi]
          have h5' := h1.2.2.2.2.1 k hk
          unfold rwF
          by_cases e : i + 1 = (push (aU A) (aS A)).length
          · rw [if_pos e, if_pos (by omega), if_pos (by omega), show 24 * i + k - 24 * u = k by omega, show 24 * i + 12 + k - 24 * u = 12 + k by omega]
            exact h5'
          · have ng1 : ¬ (24 * u ≤ 24 * i + k ∧ 24 * i + k < 24 * u + 24) := by omega
            have ng2 : ¬ (24 * u ≤ 24 * i + 12 + k ∧ 24 * i + 12 + k < 24 * u + 24) := by omega
            have d1 := hD i (by omega) k (by omega)
            have d2 := hD i (by omega) (12 + k) (by omega)
            have d3 := u3 (if (aU A).length < 12 then i else i + 1) (by split <;> omega) k hk
            rw [← Nat.add_assoc, ← Nat.add_assoc] at d2
            rw [if_neg e, if_neg ng1, if_neg ng2, d1, d2]
            exact d3
        · rw [g1 74 (by decide) (by decide), g1 75 (by decide) (by decide)]; exact h4
        · rw [g3, if_neg (by decide)]; exact h5
        · refine ⟨h6.1, h6.2.1, fun S hS => ?_, h6.2.2.2⟩
          rcases push_mem hS with q | q
          · exact h6.2.2.1 S q
          · rw [q]; exact h6.2.1
      have hF : MF M N2 := ⟨fun q hq => ⟨g1 q (by omega) (by omega), by rw [← hN2, ← hN]; rfl⟩, by rw [← hN2, ← hN]; rfl⟩
      refine v_iload_n (pc := 51) 29 rfl rfl ?_
      refine v_bipush (pc := 52) 30 rfl (by decide) ?_
      refine v_ic_geT (pc := 54) 31 83 rfl (by decide) (by omega) (by omega) ?_
      refine v_aload_n (pc := 83) 47 rfl rfl ?_
      refine v_dup (pc := 84) 48 rfl rfl ?_
      refine v_getI (pc := 85) 49 rfl fl_X12_261 rfl ?_
      rw [eu]
      refine v_iconst (pc := 88) 50 rfl ?_
      refine v_iadd (pc := 89) 51 rfl ?_
      refine v_putI (pc := 90) 52 rfl fl_X12_261 rfl ?_
      rw [hN2]
      refine v_ret (pc := 93) 53 rfl rfl (by rw [← hQ]; exact ⟨rfl, hR, hF, g1, fun i hi => by rw [g3, if_neg hi]⟩)
    · intro k hk ih
      have eu : gI (aI N0 73 (rwF D (gI M 72) u k)) 54 33 = (u : Int) := by rw [gI_aI_ne (by decide), n3, if_pos rfl]
      have es : gI (aI N0 73 (rwF D (gI M 72) u k)) 72 k = gI M 72 k := by rw [gI_aI_ne (by decide), n1 72 (by decide) (by decide)]
      have er : (fun j => if j = 24 * u + k then gI M 72 k else rwF D (gI M 72) u k j) = rwF D (gI M 72) u (k + 1) := by
        funext j
        unfold rwF
        by_cases e : j = 24 * u + k
        · rw [if_pos e, if_pos (by omega), e, show 24 * u + k - 24 * u = k by omega]
        · rw [if_neg e]
          by_cases e2 : 24 * u ≤ j ∧ j < 24 * u + k
          · rw [if_pos e2, if_pos (by omega)]
          · rw [if_neg e2, if_neg (by omega)]
      refine v_iload_n (pc := 51) 29 rfl rfl ?_
      refine v_bipush (pc := 52) 30 rfl (by decide) ?_
      refine v_ic_geF (pc := 54) 31 83 rfl (by decide) (by omega) (by omega) ?_
      refine v_aload_n (pc := 57) 32 rfl rfl ?_
      refine v_getC (pc := 58) 33 rfl fl_X12_66 rfl 73 rfl ?_
      refine v_bipush (pc := 61) 34 rfl (by decide) ?_
      refine v_aload_n (pc := 63) 35 rfl rfl ?_
      refine v_getI (pc := 64) 36 rfl fl_X12_261 rfl ?_
      refine v_imul (pc := 67) 37 rfl ?_
      refine v_iload_n (pc := 68) 38 rfl rfl ?_
      refine v_iadd (pc := 69) 39 rfl ?_
      refine v_aload_n (pc := 70) 40 rfl rfl ?_
      refine v_getC (pc := 71) 41 rfl fl_X12_63 rfl 72 rfl ?_
      refine v_iload_n (pc := 74) 42 rfl rfl ?_
      refine v_ialdN (pc := 75) 43 rfl rfl (by omega) ?_
      rw [es]
      refine v_iastE (pc := 76) 44 rfl rfl (24 * u + k) (by omega) ?_
      refine v_iinc (pc := 77) 45 rfl rfl ⟨Nat.le_of_ble_eq_true rfl, rfl⟩ ?_
      refine v_goto (pc := 80) 46 51 rfl (by decide) ?_
      rw [sI_aI, er]
      exact ih
  refine v_aload_n (pc := 0) 0 rfl rfl ?_
  refine v_getI (pc := 1) 1 rfl fl_X12_261 rfl ?_
  refine v_bipush (pc := 4) 2 rfl (by decide) ?_
  refine v_ic_ne (pc := 6) 3 49 rfl (by decide) (by omega) (fun e1 => ?_) (fun e1 => ?_)
  · have e0 : sI (aI M 73 (gI M 73)) 54 33 (((aU A).length : Nat) : Int) = M := by
      rw [aI_self]
      refine Mem_ext (fun p q => ?_) (fun _ _ => rfl) (fun _ _ => rfl)
      rw [gI_sI]
      by_cases g : p = 54
      · rw [if_pos g]
        by_cases g2 : q = 33
        · rw [if_pos g2, g, g2, u1]
        · rw [if_neg g2, g]
      · rw [if_neg g]
    have hlt : (aU A).length < 12 := by omega
    have := fin (aU A).length (gI M 73) none 0 hlt (fun i hi k hk => by rw [if_pos hlt]) (by omega)
    rw [e0] at this
    exact this
  · have h12 : (aU A).length = 12 := by omega
    refine v_iconst (pc := 9) 4 rfl ?_
    refine v_istore_n (pc := 10) 5 rfl ⟨Nat.le_of_ble_eq_true rfl, rfl⟩ ?_
    have loop := loopN (N := 264) (fun k => V G d mX12_keeps 11 [some (.ref 54), some (.int (J (k : Int)))] [] (aI M 73 (shF (gI M 73) k)) Q) ?_ ?_
    · have e0 : shF (gI M 73) 0 = gI M 73 := by funext i; unfold shF; rw [if_neg (by omega)]
      rw [e0, aI_self] at loop
      exact loop
    · have eu : gI (aI M 73 (shF (gI M 73) 264)) 54 33 = 12 := by rw [gI_aI_ne (by decide)]; omega
      refine v_iload_n (pc := 11) 6 rfl rfl ?_
      refine v_sipush (pc := 12) 7 rfl (by decide) ?_
      refine v_ic_geT (pc := 15) 8 39 rfl (by decide) (by omega) (by omega) ?_
      refine v_aload_n (pc := 39) 21 rfl rfl ?_
      refine v_dup (pc := 40) 22 rfl rfl ?_
      refine v_getI (pc := 41) 23 rfl fl_X12_261 rfl ?_
      rw [eu]
      refine v_iconst (pc := 44) 24 rfl ?_
      refine v_isub (pc := 45) 25 rfl ?_
      refine v_putI (pc := 46) 26 rfl fl_X12_261 rfl ?_
      exact fin 11 (shF (gI M 73) 264) _ 0 (by decide) (fun i hi k hk => by
        unfold shF
        rw [if_pos (by omega), if_neg (by omega), show 24 * i + k + 24 = 24 * (i + 1) + k by omega]) (by omega)
    · intro k hk ih
      have ev : gI (aI M 73 (shF (gI M 73) k)) 73 (k + 24) = gI M 73 (k + 24) := by
        rw [gI_aI, if_pos rfl]; unfold shF; rw [if_neg (by omega)]
      have er : (fun j => if j = k then gI M 73 (k + 24) else shF (gI M 73) k j) = shF (gI M 73) (k + 1) := by
        funext j
        unfold shF
        by_cases e : j = k
        · rw [if_pos e, if_pos (by omega), e]
        · rw [if_neg e]
          by_cases e2 : j < k
          · rw [if_pos e2, if_pos (by omega)]
          · rw [if_neg e2, if_neg (by omega)]
      refine v_iload_n (pc := 11) 6 rfl rfl ?_
      refine v_sipush (pc := 12) 7 rfl (by decide) ?_
      refine v_ic_geF (pc := 15) 8 39 rfl (by decide) (by omega) (by omega) ?_
      refine v_aload_n (pc := 18) 9 rfl rfl ?_
      refine v_getC (pc := 19) 10 rfl fl_X12_66 rfl 73 rfl ?_
      refine v_iload_n (pc := 22) 11 rfl rfl ?_
      refine v_aload_n (pc := 23) 12 rfl rfl ?_
      refine v_getC (pc := 24) 13 rfl fl_X12_66 rfl 73 rfl ?_
      refine v_iload_n (pc := 27) 14 rfl rfl ?_
      refine v_bipush (pc := 28) 15 rfl (by decide) ?_
      refine v_iadd (pc := 30) 16 rfl ?_
      refine v_ialdE (pc := 31) 17 rfl rfl (k + 24) (by omega) ?_
      rw [ev]
      refine v_iastN (pc := 32) 18 rfl rfl (by omega) ?_
      refine v_iinc (pc := 33) 19 rfl rfl ⟨Nat.le_of_ble_eq_true rfl, rfl⟩ ?_
      refine v_goto (pc := 36) 20 11 rfl (by decide) ?_
      rw [sI_aI, er]
      exact ih
theorem m_keeps (h : MR M A) : V G d mX12_keeps 0 [some (.ref 54), none] [] M (fun r N => r = none ∧ MR N (begA A) ∧ MF M N) := (m_keeps2 h).mono (fun _ _ q => ⟨q.1, q.2.1, q.2.2.1⟩)
end MKeep
