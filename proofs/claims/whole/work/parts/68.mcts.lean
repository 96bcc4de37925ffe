/-! 68: the reference: courts -/
section MCts
variable {G : Gt} {d : Nat} {M N : Mem} {A : Ax}
theorem FRM.mf {M N : Mem} (h : FRM M N) : MF M N := ⟨fun q hq => ⟨h.1 q (by omega), h.2.2.2.2.2.1 q hq⟩, h.2.2.2.2.2.2⟩
/-- what a reading leaves: the calendar as it was -/
theorem MR.frm {M0 : Mem} (h : MR M0 A) (f : FRM M0 N) : MR N A := by
  obtain ⟨⟨r1, r2, r3, r4, r5, rT, rS⟩, h2, h3, h4, h5, h6⟩ := h
  obtain ⟨f1, f2, f3, f4, f5, f6, f7⟩ := f
  have hT := rT.2.1
  have hK := rT.2.2.1
  refine ⟨⟨?_, ?_, fun j hj => ?_, fun k hk => ?_, ?_, rT, rS⟩, ?_, ?_, ?_, ?_, h6⟩
  · rw [f2.1, f2.2.1, f2.2.2]; exact r1
  · rw [f1 76 (by omega)]; exact r2
  · rw [f3 63 (by omega) j (by omega), f3 64 (by omega) j (by omega), f3 65 (by omega) j (by omega), f3 66 (by omega) j (by omega)]; exact r3 j hj
  · rw [f4 67 (by omega) k (by omega), f4 68 (by omega) k (by omega), f4 69 (by omega) k (by omega), f4 70 (by omega) k (by omega), f4 71 (by omega) k (by omega)]; exact r4 k hk
  · rw [f1 72 (by omega)]; exact r5
  · rw [f5 2 (by omega), f1 55 (by omega)]; exact h2
  · rw [f5 33 (by omega), f1 73 (by omega)]; exact h3
  · rw [f1 74 (by omega), f1 75 (by omega)]; exact h4
  · rw [f5 12 (by omega)]; exact h5
/-- behind a text without fault -/
theorem m_ctsEnd {M0 : Mem} {b : Nat → Int} {n p k0 i : Nat} {L : List Nm} {T : Tx} {x : Int32} {B : Nat → Int} (hP : PMs M0 k0 N b n p L T) (h2 : gI M0 54 2 = 0) (hi : i ≤ 1000) : V G (d + 11) mX12_courts 121 [some (.ref 54), some (.int x), some (.int (J (i : Int))), some (.int (J 1)), none] [] N (fun r P => r = some (.int (J (i : Int))) ∧ MR P ((0, B), fwT T, s0, [], fun _ => none) ∧ MF M0 P) := by
  obtain ⟨f1, -, -, ⟨-, -, hLI⟩, ⟨t1, t2, t3, t4⟩, -⟩ := hP
  generalize hQ : (fun (r : Option Value) (P : Mem) => r = some (.int (J (i : Int))) ∧ MR P ((0, B), fwT T, s0, [], fun _ => none) ∧ MF M0 P) = Q
  have hn5 := hLI.1.1
  have hn6 := hLI.1.2.1
  have hn12 := hLI.1.2.2.1
  refine v_aload_n (pc := 121) 71 rfl rfl ?_
  refine v_iconst (pc := 122) 72 rfl ?_
  refine v_putI (pc := 123) 73 rfl fl_X12_199 rfl ?_
  refine v_iload_n (pc := 126) 74 rfl rfl ?_
  refine v_if_neT (pc := 127) 75 146 rfl (by decide) (by omega) (by decide) ?_
  refine v_aload_n (pc := 146) 86 rfl rfl ?_
  refine v_cV0 (pc := 147) 87 rfl cv_X12_255 rfl (Nat.le_of_ble_eq_true rfl) (Nat.le_of_ble_eq_true rfl) (m_copies (G := G) (d := d + 10)) (fun r9 N9 hq9 => ?_)
  obtain ⟨rfl, c1, c2, c3, c4, c5, c6, c7⟩ := hq9
  show V G (d + 11) mX12_courts (147 + 3) _ [] _ _
  have e0 : ∀ q, q ≠ 54 → gI (sI N 54 12 0) q = gI N q := fun q hq => gI_sI_ne hq
  have hroad : ∀ a b, a < 5 → b < 5 → a ≠ b → gI N9 62 (5 * a + b) = T.2 1 (a * 5 + b) := fun a b ha hb hne => by
    rw [c3, if_pos (by omega), e0 62 (by decide)]; exact t2 a b ha hb hne
  have hEx : Ex (T.2 1) (nT T) := hLI.2.2.2.2
  have hsm : Sm (wyF (gI N9 62) (gI N9 76) 25) (T.2 1) := fun a b ha hb => by
    unfold wyF
    rw [if_pos (by omega), show (a * 5 + b) / 5 = a by omega, show (a * 5 + b) % 5 = b by omega]
    by_cases g : a = b
    · rw [if_pos g, (hEx a b ha hb).2.1 g]
    · rw [if_neg g, show a * 5 + b = 5 * a + b by omega, hroad a b ha hb g, show 5 * a + b = a * 5 + b by omega]
  have hEx2 : Ex (wyF (gI N9 62) (gI N9 76) 25) (nT T) := fun a b ha hb => by rw [hsm a b ha hb]; exact hEx a b ha hb
  have hfw := fw_sm hn5 hsm hEx2 hEx
  have hdg : ∀ x, x < 25 → x / 5 ≠ x % 5 → 0 ≤ gI N9 62 x ∧ gI N9 62 x ≤ 1000 := fun x hx hne => by
    have := hroad (x / 5) (x % 5) (by omega) (by omega) hne
    rw [show 5 * (x / 5) + x % 5 = x by omega] at this
    rw [this]
    exact (hEx (x / 5) (x % 5) (by omega) (by omega)).1
  refine v_aload_n (pc := 150) 88 rfl rfl ?_
  refine v_cV0v (pc := 151) 89 rfl cv_X12_258 rfl (Nat.le_of_ble_eq_true rfl) (Nat.le_of_ble_eq_true rfl) (m_laysWays (G := G) (d := d + 9) (n := nT T) hdg hEx2) ?_
  refine v_iconst (pc := 154) 90 rfl ?_
  refine v_istore (pc := 155) 91 rfl ⟨Nat.le_of_ble_eq_true rfl, rfl⟩ ?_
  generalize hW : aI N9 76 (fw (wyF (gI N9 62) (gI N9 76) 25) 5) = P0
  have w1 : ∀ q, q ≠ 76 → gI P0 q = gI N9 q := fun q hq => by rw [← hW, gI_aI_ne hq]
  have w2 : ∀ a b, a < 5 → b < 5 → gI P0 76 (5 * a + b) = fw (T.2 1) (nT T) (a * 5 + b) := fun a b ha hb => by
    rw [← hW, gI_aI, if_pos rfl, show 5 * a + b = a * 5 + b by omega]; exact hfw a b ha hb
  have w3 : gL P0 = gL N9 := by rw [← hW]; rfl
  have w4 : gR P0 = gR N9 := by rw [← hW]; rfl
  have loop := loopN (N := 24) (fun k => V G (d + 11) mX12_courts 157 [some (.ref 54), some (.int x), some (.int (J (i : Int))), some (.int (J 1)), some (.int (J (k : Int)))] [] (aI P0 72 (cpF (fun _ => -1) (gI P0 72) k)) Q) ?_ ?_
  · rw [cpF_0, aI_self] at loop
    exact loop
  · generalize hP1 : sI (sI (sI (aI P0 72 (cpF (fun _ => -1) (gI P0 72) 24)) 54 33 0) 75 0 0) 75 1 0 = P1
    have p1 : ∀ q, q ≠ 54 → q ≠ 72 → q ≠ 75 → gI P1 q = gI P0 q := fun q q1 q2 q3 => by rw [← hP1, gI_sI_ne q3, gI_sI_ne q3, gI_sI_ne q1, gI_aI_ne q2]
    have p2 : ∀ k, k < 24 → gI P1 72 k = -1 := fun k hk => by rw [← hP1, gI_sI_ne (by decide), gI_sI_ne (by decide), gI_sI_ne (by decide), gI_aI, if_pos rfl, cpF_lt hk]
    have p3 : ∀ j, gI P1 54 j = if j = 33 then 0 else gI P0 54 j := fun j => by rw [← hP1, gI_sI_ne (by decide), gI_sI_ne (by decide), gI_sI, if_pos rfl, gI_aI_ne (by decide)]
    have p4 : ∀ k, k < 2 → gI P1 75 k = 0 := fun k hk => by
      rw [← hP1, gI_sI, if_pos rfl]
      by_cases g : k = 1
      · rw [if_pos g]
      · rw [if_neg g, gI_sI, if_pos rfl, if_pos (by omega)]
    have p5 : gL P1 = gL P0 := by rw [← hP1]; rfl
    have p6 : gR P1 = gR P0 := by rw [← hP1]; rfl
    have z : ∀ q, q < 54 ∨ 72 < q → q ≠ 75 → q ≠ 76 → gI P1 q = gI N q := fun q hq q5 q6 => by rw [p1 q (by omega) (by omega) q5, w1 q q6, c1 q (by omega), e0 q (by omega)]
    have hR : MR P1 ((0, B), fwT T, s0, [], fun _ => none) := by
      refine ⟨⟨⟨?_, ?_, ?_⟩, fun a b ha hb => ?_, fun j hj => ?_, fun k hk => ?_, fun k hk => ⟨p2 k (by omega), p2 (12 + k) (by omega)⟩, fwT_ok hLI, fun k hk => Or.inl ⟨rfl, rfl⟩⟩, ⟨?_, Nat.zero_le _, fun i hi => absurd hi (Nat.not_lt_zero i)⟩, ⟨?_, Nat.zero_le _, fun i hi => absurd hi (Nat.not_lt_zero i)⟩, fun k hk => Or.inl ⟨rfl, p4 k hk⟩, ?_, ⟨fwT_ok hLI, ⟨fun k hk => Or.inl ⟨rfl, rfl⟩, fun j hj => ⟨rfl, rfl⟩⟩, fun S hS => absurd hS List.not_mem_nil, fun k hk S hS => by cases hS⟩⟩
      · rw [p1 56 (by decide) (by decide) (by decide), w1 56 (by decide), c2.1, e0 56 (by decide)]; exact t1.1
      · rw [p1 57 (by decide) (by decide) (by decide), w1 57 (by decide), c2.2.1, e0 57 (by decide)]; exact t1.2.1
      · rw [p1 58 (by decide) (by decide) (by decide), w1 58 (by decide), c2.2.2, e0 58 (by decide)]; exact t1.2.2
      · change a < nT T at ha
        change b < nT T at hb
        rw [p1 76 (by decide) (by decide) (by decide), w2 a b (by omega) (by omega)]; rfl
      · change j < nJ T at hj
        have key : ∀ q, 63 ≤ q ∧ q ≤ 66 → gI P1 q j = gI N q (6 + j) := fun q hq => by rw [p1 q (by omega) (by omega) (by omega), w1 q (by omega), c4 q hq, if_pos (by omega), e0 q (by omega)]
        rw [key 63 (by decide), key 64 (by decide), key 65 (by decide), key 66 (by decide)]
        exact t3 j hj
      · change k < nK T at hk
        have key : ∀ q, 67 ≤ q ∧ q ≤ 71 → gI P1 q k = gI N q (12 + k) := fun q hq => by rw [p1 q (by omega) (by omega) (by omega), w1 q (by omega), c5 q hq, if_pos (by omega), e0 q (by omega)]
        rw [key 67 (by decide), key 68 (by decide), key 69 (by decide), key 70 (by decide), key 71 (by decide)]
        exact t4 k hk
      · rw [p3, if_neg (by decide), w1 54 (by decide), c1 54 (by decide), g54, if_neg (by decide), f1.2.2.2.2.1 2 (by decide)]; exact h2
      · rw [p3, if_pos rfl]; rfl
      · rw [p3, if_neg (by decide), w1 54 (by decide), c1 54 (by decide), g54, if_pos rfl]
    have hF : MF M0 P1 := f1.mf.trans ⟨fun q hq => ⟨z q (by omega) (by omega) (by omega), by rw [p5, w3, c6 q hq]; rfl⟩, by rw [p6, w4, c7]; rfl⟩
    refine v_iload (pc := 157) 92 rfl rfl ?_
    refine v_bipush (pc := 159) 93 rfl (by decide) ?_
    refine v_ic_geT (pc := 161) 94 178 rfl (by decide) (by omega) (by omega) ?_
    refine v_aload_n (pc := 178) 102 rfl rfl ?_
    refine v_iconst (pc := 179) 103 rfl ?_
    refine v_putI (pc := 180) 104 rfl fl_X12_261 rfl ?_
    refine v_aload_n (pc := 183) 105 rfl rfl ?_
    refine v_getC (pc := 184) 106 rfl fl_X12_72 rfl 75 rfl ?_
    refine v_iconst (pc := 187) 107 rfl ?_
    refine v_iconst (pc := 188) 108 rfl ?_
    refine v_zastN (kk := 0) (pc := 189) 109 rfl rfl (by decide) (by decide) ?_
    refine v_aload_n (pc := 190) 110 rfl rfl ?_
    refine v_getC (pc := 191) 111 rfl fl_X12_72 rfl 75 rfl ?_
    refine v_iconst (pc := 194) 112 rfl ?_
    refine v_iconst (pc := 195) 113 rfl ?_
    refine v_zastN (kk := 1) (pc := 196) 114 rfl rfl (by decide) (by decide) ?_
    rw [hP1]
    refine v_iload_n (pc := 197) 115 rfl rfl ?_
    refine v_iret (pc := 198) 116 rfl rfl (by rw [← hQ]; exact ⟨rfl, hR, hF⟩)
  · intro k hk ih
    have es := cpF_s (fun _ => (-1 : Int)) (gI P0 72) k
    refine v_iload (pc := 157) 92 rfl rfl ?_
    refine v_bipush (pc := 159) 93 rfl (by decide) ?_
    refine v_ic_geF (pc := 161) 94 178 rfl (by decide) (by omega) (by omega) ?_
    refine v_aload_n (pc := 164) 95 rfl rfl ?_
    refine v_getC (pc := 165) 96 rfl fl_X12_63 rfl 72 rfl ?_
    refine v_iload (pc := 168) 97 rfl rfl ?_
    refine v_iconst (pc := 170) 98 rfl ?_
    refine v_iastN (pc := 171) 99 rfl rfl (by omega) ?_
    refine v_iinc (pc := 172) 100 rfl rfl ⟨Nat.le_of_ble_eq_true rfl, rfl⟩ ?_
    refine v_goto (pc := 175) 101 157 rfl (by decide) ?_
    rw [sI_aI, es]
    exact ih
/-- the lines one by one -/
theorem m_rdL {M0 : Mem} {b : Nat → Int} {n : Nat} {x : Int32} (hM0 : MR (sI M0 54 12 0) ((0, aB A), aT A, aS A, aU A, aK A)) (h2 : gI M0 54 2 = 0) : ∀ (f i : Nat) (L : List Nm) (T : Tx) (p : Nat) (N : Mem), PMs M0 i N b n p L T → i + f = 800 → V G (d + 11) mX12_courts 99 [some (.ref 54), some (.int x), some (.int (J (i : Int))), some (.int (J 1)), none] [] N (fun r P => onR (rdS b n f i L T p) (fun e => r = some (.int (J e)) ∧ MR P ((0, aB A), aT A, aS A, aU A, aK A) ∧ MF M0 P) (fun q => r = some (.int (J q.1)) ∧ MR P ((0, aB A), fwT q.2, s0, [], fun _ => none) ∧ MF M0 P)) := by
  intro f
  induction f with
  | zero =>
    intro i L T p N hP hf
    have hk : kd b n p = 0 := by
      have h6 := hP.2.2.2.2.2.1
      have h7 := hP.2.2.2.2.2.2.1
      have h8 := hP.2.2.2.2.2.2.2.1
      have := pl_le b h7
      exact if_pos (by omega)
    have h5 := hP.2.1.2.2.2.2.1
    show V G (d + 11) mX12_courts 99 _ _ N (fun r P => r = some (.int (J (i : Int))) ∧ MR P ((0, aB A), fwT T, s0, [], fun _ => none) ∧ MF M0 P)
    refine v_iload_n (pc := 99) 61 rfl rfl ?_
    refine v_if_eqF (pc := 100) 62 121 rfl (by decide) (by omega) (by decide) ?_
    refine v_aload_n (pc := 103) 63 rfl rfl ?_
    refine v_getI (pc := 104) 64 rfl fl_X12_121 rfl ?_
    refine v_if_eqT (pc := 107) 65 121 rfl (by decide) (by omega) (by omega) ?_
    exact m_ctsEnd hP h2 (by omega)
  | succ f ih =>
    intro i L T p N hP hf
    have h5 := hP.2.1.2.2.2.2.1
    have hkk := kd_le b n p
    have eR : rdS b n (f + 1) i L T p = if kd b n p = 0 then .inr ((i : Int), T) else match lnS b n L T p with
      | .inl e => .inl e
      | .inr q => rdS b n f ((i : Int) + 1) q.1 q.2.1 q.2.2 := rfl
    rw [eR]
    by_cases g : kd b n p = 0
    · rw [if_pos g]
      show V G (d + 11) mX12_courts 99 _ _ N (fun r P => r = some (.int (J (i : Int))) ∧ MR P ((0, aB A), fwT T, s0, [], fun _ => none) ∧ MF M0 P)
      refine v_iload_n (pc := 99) 61 rfl rfl ?_
      refine v_if_eqF (pc := 100) 62 121 rfl (by decide) (by omega) (by decide) ?_
      refine v_aload_n (pc := 103) 63 rfl rfl ?_
      refine v_getI (pc := 104) 64 rfl fl_X12_121 rfl ?_
      refine v_if_eqT (pc := 107) 65 121 rfl (by decide) (by omega) (by omega) ?_
      exact m_ctsEnd hP h2 (by omega)
    · rw [if_neg g]
      have cl := m_lineHere (G := G) (d := d) hP
      cases hR : lnS b n L T p with
      | inl e =>
        rw [hR] at cl
        refine v_iload_n (pc := 99) 61 rfl rfl ?_
        refine v_if_eqF (pc := 100) 62 121 rfl (by decide) (by omega) (by decide) ?_
        refine v_aload_n (pc := 103) 63 rfl rfl ?_
        refine v_getI (pc := 104) 64 rfl fl_X12_121 rfl ?_
        refine v_if_eqF (pc := 107) 65 121 rfl (by decide) (by omega) (by omega) ?_
        refine v_aload_n (pc := 110) 66 rfl rfl ?_
        refine v_cV0 (pc := 111) 67 rfl cv_X12_252 rfl (Nat.le_of_ble_eq_true rfl) (Nat.le_of_ble_eq_true rfl) (cl) (fun r9 N9 hq9 => ?_)
        obtain ⟨rfl, k1, k2, k3, k4⟩ := hq9
        have hfr : FRM (sI M0 54 12 0) (sI N9 54 12 0) := by
          obtain ⟨f1, f2, f3, f4, f5, f6, f7⟩ := k1
          refine ⟨fun q hq => by rw [gI_sI_ne (by omega), gI_sI_ne (by omega)]; exact f1 q hq, by rw [gI_sI_ne (by decide), gI_sI_ne (by decide), gI_sI_ne (by decide), gI_sI_ne (by decide), gI_sI_ne (by decide), gI_sI_ne (by decide)]; exact f2, fun q hq j hj => by rw [gI_sI_ne (by omega), gI_sI_ne (by omega)]; exact f3 q hq j hj, fun q hq j hj => by rw [gI_sI_ne (by omega), gI_sI_ne (by omega)]; exact f4 q hq j hj, fun j hj => ?_, f6, f7⟩
          rw [g54, g54]
          by_cases z : j = 12
          · rw [if_pos z, if_pos z]
          · rw [if_neg z, if_neg z]; exact f5 j hj
        have hMR := hM0.frm hfr
        have hMF : MF M0 (sI N9 54 12 0) := k1.mf.trans (mf_fld _ _ _)
        have e10 : gI (sI N9 54 12 0) 54 10 = gI N9 54 10 := by rw [g54, if_neg (by decide)]
        have e9 : gI (sI N9 54 12 0) 54 9 = gI N9 54 9 := by rw [g54, if_neg (by decide)]
        show V G (d + 11) mX12_courts (111 + 3) _ [.int (J 0)] _ (fun r P => r = some (.int (J e)) ∧ MR P ((0, aB A), aT A, aS A, aU A, aK A) ∧ MF M0 P)
        refine v_istore_n (pc := 114) 68 rfl ⟨Nat.le_of_ble_eq_true rfl, rfl⟩ ?_
        refine v_iinc (pc := 115) 69 rfl rfl ⟨Nat.le_of_ble_eq_true rfl, rfl⟩ ?_
        refine v_goto (pc := 118) 70 99 rfl (by decide) ?_
        refine v_iload_n (pc := 99) 61 rfl rfl ?_
        refine v_if_eqT (pc := 100) 62 121 rfl (by decide) (by omega) (by decide) ?_
        refine v_aload_n (pc := 121) 71 rfl rfl ?_
        refine v_iconst (pc := 122) 72 rfl ?_
        refine v_putI (pc := 123) 73 rfl fl_X12_199 rfl ?_
        refine v_iload_n (pc := 126) 74 rfl rfl ?_
        refine v_if_neF (pc := 127) 75 146 rfl (by decide) (by omega) (by decide) ?_
        refine v_bipush (pc := 130) 76 rfl (by decide) ?_
        refine v_bipush (pc := 132) 77 rfl (by decide) ?_
        refine v_aload_n (pc := 134) 78 rfl rfl ?_
        refine v_getI (pc := 135) 79 rfl fl_X12_148 rfl ?_
        rw [e10]
        refine v_imul (pc := 138) 80 rfl ?_
        refine v_aload_n (pc := 139) 81 rfl rfl ?_
        refine v_getI (pc := 140) 82 rfl fl_X12_145 rfl ?_
        rw [e9]
        refine v_iadd (pc := 143) 83 rfl ?_
        refine v_isub (pc := 144) 84 rfl ?_
        refine v_iret (pc := 145) 85 rfl rfl ⟨by rw [k2], hMR, hMF⟩
      | inr q =>
        rw [hR] at cl
        refine v_iload_n (pc := 99) 61 rfl rfl ?_
        refine v_if_eqF (pc := 100) 62 121 rfl (by decide) (by omega) (by decide) ?_
        refine v_aload_n (pc := 103) 63 rfl rfl ?_
        refine v_getI (pc := 104) 64 rfl fl_X12_121 rfl ?_
        refine v_if_eqF (pc := 107) 65 121 rfl (by decide) (by omega) (by omega) ?_
        refine v_aload_n (pc := 110) 66 rfl rfl ?_
        refine v_cV0 (pc := 111) 67 rfl cv_X12_252 rfl (Nat.le_of_ble_eq_true rfl) (Nat.le_of_ble_eq_true rfl) (cl) (fun r9 N9 hq9 => ?_)
        obtain ⟨rfl, hP2⟩ := hq9
        show V G (d + 11) mX12_courts (111 + 3) _ [.int (J 1)] _ (fun r P => onR (rdS b n f ((i : Int) + 1) q.1 q.2.1 q.2.2) (fun e => r = some (.int (J e)) ∧ MR P ((0, aB A), aT A, aS A, aU A, aK A) ∧ MF M0 P) (fun q => r = some (.int (J q.1)) ∧ MR P ((0, aB A), fwT q.2, s0, [], fun _ => none) ∧ MF M0 P))
        have := ih (i + 1) q.1 q.2.1 q.2.2 N9 hP2 (by omega)
        refine v_istore_n (pc := 114) 68 rfl ⟨Nat.le_of_ble_eq_true rfl, rfl⟩ ?_
        refine v_iinc (pc := 115) 69 rfl rfl ⟨Nat.le_of_ble_eq_true rfl, rfl⟩ ?_
        refine v_goto (pc := 118) 70 99 rfl (by decide) ?_
        exact this
theorem m_courts (h : MR M A) (hB : ∀ i, i < aN A → -128 ≤ aB A i ∧ aB A i < 128) {D : Nat → Nat → Int} (hD : D0ok D) {n : Int} (hn : -2147483648 ≤ n ∧ n ≤ 2147483647) : V G (d + 11) mX12_courts 0 [some (.ref 54), some (.int (J n)), none, none, none] [] M (fun r N => r = some (.int (J (sCourts A D n).1)) ∧ MR N (sCourts A D n).2 ∧ MF M N) := by
  have h0 := h.fld (f := 0) 0 (by decide)
  have hF0 := mf_fld M 0 0
  have ht := h0.2.1
  unfold sCourts
  refine v_aload_n (pc := 0) 0 rfl rfl ?_
  refine v_iconst (pc := 1) 1 rfl ?_
  refine v_putI (pc := 2) 2 rfl fl_X12_97 rfl ?_
  refine v_iload_n (pc := 5) 3 rfl rfl ?_
  refine v_i2l (pc := 6) 4 rfl (by omega) ?_
  refine v_lconst (pc := 7) 5 rfl ?_
  refine v_aload_n (pc := 8) 6 rfl rfl ?_
  refine v_getI (pc := 9) 7 rfl fl_X12_101 rfl ?_
  rw [ht.1]
  refine v_i2l (pc := 12) 8 rfl (by omega) ?_
  refine v_cS3i (pc := 13) 9 rfl cs_X12_135 (Nat.le_of_ble_eq_true rfl) (Nat.le_of_ble_eq_true rfl) (m_within (by omega) (by decide) (by omega)) ?_
  refine v_if_ne (pc := 16) 10 21 rfl (by decide) (by omega) (fun e1 => ?_) (fun e1 => ?_)
  · rw [if_pos (by omega)]
    obtain ⟨n1, rfl⟩ : ∃ n1 : Nat, n = (n1 : Int) := ⟨n.toNat, by omega⟩
    rw [Int.toNat_natCast]
    generalize sI M 54 0 0 = M1 at *
    refine v_aload_n (pc := 21) 13 rfl rfl ?_
    refine v_iconst (pc := 22) 14 rfl ?_
    refine v_putI (pc := 23) 15 rfl fl_X12_101 rfl ?_
    refine v_aload_n (pc := 26) 16 rfl rfl ?_
    refine v_iload_n (pc := 27) 17 rfl rfl ?_
    refine v_putI (pc := 28) 18 rfl fl_X12_108 rfl ?_
    refine v_aload_n (pc := 31) 19 rfl rfl ?_
    refine v_iconst (pc := 32) 20 rfl ?_
    refine v_putI (pc := 33) 21 rfl fl_X12_111 rfl ?_
    refine v_aload_n (pc := 36) 22 rfl rfl ?_
    refine v_iconst (pc := 37) 23 rfl ?_
    refine v_putI (pc := 38) 24 rfl fl_X12_145 rfl ?_
    refine v_aload_n (pc := 41) 25 rfl rfl ?_
    refine v_iconst (pc := 42) 26 rfl ?_
    refine v_putI (pc := 43) 27 rfl fl_X12_199 rfl ?_
    refine v_aload_n (pc := 46) 28 rfl rfl ?_
    refine v_getC (pc := 47) 29 rfl fl_X12_13 rfl 56 rfl ?_
    refine v_iconst (pc := 50) 30 rfl ?_
    refine v_iconst (pc := 51) 31 rfl ?_
    refine v_iastN (kk := 1) (pc := 52) 32 rfl rfl (by decide) ?_
    refine v_aload_n (pc := 53) 33 rfl rfl ?_
    refine v_getC (pc := 54) 34 rfl fl_X12_17 rfl 57 rfl ?_
    refine v_iconst (pc := 57) 35 rfl ?_
    refine v_iconst (pc := 58) 36 rfl ?_
    refine v_iastN (kk := 1) (pc := 59) 37 rfl rfl (by decide) ?_
    refine v_aload_n (pc := 60) 38 rfl rfl ?_
    refine v_getC (pc := 61) 39 rfl fl_X12_20 rfl 58 rfl ?_
    refine v_iconst (pc := 64) 40 rfl ?_
    refine v_iconst (pc := 65) 41 rfl ?_
    refine v_iastN (kk := 1) (pc := 66) 42 rfl rfl (by decide) ?_
    refine v_bipush (pc := 67) 43 rfl (by decide) ?_
    refine v_istore_n (pc := 69) 44 rfl ⟨Nat.le_of_ble_eq_true rfl, rfl⟩ ?_
    generalize hP0 : sI (sI (sI (sI (sI (sI (sI (sI M1 54 2 0) 54 3 (n1 : Int)) 54 5 0) 54 9 0) 54 12 1) 56 1 0) 57 1 0) 58 1 0 = P0
    have a1 : ∀ q, q ≠ 54 → q ≠ 56 → q ≠ 57 → q ≠ 58 → gI P0 q = gI M1 q := fun q q1 q2 q3 q4 => by rw [← hP0, gI_sI_ne q4, gI_sI_ne q3, gI_sI_ne q2, gI_sI_ne q1, gI_sI_ne q1, gI_sI_ne q1, gI_sI_ne q1, gI_sI_ne q1]
    have a2 : ∀ i, gI P0 54 i = if i = 12 then 1 else if i = 9 then 0 else if i = 5 then 0 else if i = 3 then (n1 : Int) else if i = 2 then 0 else gI M1 54 i := fun i => by rw [← hP0, gI_sI_ne (by decide), gI_sI_ne (by decide), gI_sI_ne (by decide), g54, g54, g54, g54, g54]
    have a3 : gI P0 56 1 = 0 ∧ gI P0 57 1 = 0 ∧ gI P0 58 1 = 0 ∧ gI P0 56 0 = gI M1 56 0 ∧ gI P0 57 0 = gI M1 57 0 ∧ gI P0 58 0 = gI M1 58 0 := by
      rw [← hP0]
      refine ⟨?_, ?_, ?_, ?_, ?_, ?_⟩ <;> simp [gI_sI]
    have a4 : gL P0 = gL M1 := by rw [← hP0]; rfl
    have a5 : gR P0 = gR M1 := by rw [← hP0]; rfl
    generalize hQ : (fun (r : Option Value) (N : Mem) => r = some (.int (J (match rdS (aB A) n1 800 0 [] ((0, 0, 0), D) 0 with
      | .inl e => (e, ((0, aB A), aT A, aS A, aU A, aK A))
      | .inr q => (q.1, ((0, aB A), fwT q.2, s0, [], fun _ => none))).1)) ∧ MR N (match rdS (aB A) n1 800 0 [] ((0, 0, 0), D) 0 with
      | .inl e => (e, ((0, aB A), aT A, aS A, aU A, aK A))
      | .inr q => (q.1, ((0, aB A), fwT q.2, s0, [], fun _ => none))).2 ∧ MF M N) = Q
    have loop := loopN (N := 25) (fun k => V G (d + 11) mX12_courts 70 [some (.ref 54), some (.int (J (n1 : Int))), some (.int (J ((25 + k : Nat) : Int))), none, none] [] (aI P0 62 (fun x => if 25 ≤ x ∧ x < 25 + k then 1000 else gI P0 62 x)) Q) ?_ ?_
    · have e0 : (fun x => if 25 ≤ x ∧ x < 25 + 0 then 1000 else gI P0 62 x) = gI P0 62 := funext fun x => if_neg (by omega)
      change V G (d + 11) mX12_courts 70 _ _ (aI P0 62 (fun x => if 25 ≤ x ∧ x < 25 + 0 then 1000 else gI P0 62 x)) Q at loop
      rw [e0, aI_self] at loop
      exact loop
    · show V G (d + 11) mX12_courts 70 _ _ (aI P0 62 (fun x => if 25 ≤ x ∧ x < 25 + 25 then 1000 else gI P0 62 x)) Q
      generalize hP1 : aI P0 62 (fun x => if 25 ≤ x ∧ x < 25 + 25 then 1000 else gI P0 62 x) = P1
      have b1 : ∀ q, q ≠ 62 → gI P1 q = gI P0 q := fun q hq => by rw [← hP1, gI_aI_ne hq]
      have b2 : ∀ x, 25 ≤ x → x < 50 → gI P1 62 x = 1000 := fun x h1 h2 => by rw [← hP1, gI_aI, if_pos rfl, if_pos (by omega)]
      have b3 : gL P1 = gL P0 := by rw [← hP1]; rfl
      have b4 : gR P1 = gR P0 := by rw [← hP1]; rfl
      have z54 : ∀ i, gI P1 54 i = if i = 12 then 1 else if i = 9 then 0 else if i = 5 then 0 else if i = 3 then (n1 : Int) else if i = 2 then 0 else gI M1 54 i := fun i => by rw [b1 54 (by decide)]; exact a2 i
      have ztape : ∀ i, i < n1 → gI P1 55 i = aB A i := fun i hi => by rw [b1 55 (by decide), a1 55 (by decide) (by decide) (by decide) (by decide)]; exact ht.2.2 i (by omega)
      have n800 : n1 ≤ 800 := by have := ht.2.1; omega
      have hM0 : ∀ N9, AgM P1 N9 → MR (sI N9 54 12 0) ((0, aB A), aT A, aS A, aU A, aK A) := by
        intro N9 hA
        obtain ⟨⟨r1, r2, r3, r4, r5, rT, rS⟩, q2, q3, q4, q5, q6⟩ := h0
        have y : ∀ q, q ≠ 54 → q ≠ 56 → q ≠ 57 → q ≠ 58 → q ≠ 62 → gI (sI N9 54 12 0) q = gI M1 q := fun q y1 y2 y3 y4 y5 => by rw [gI_sI_ne y1, hA.1 q y1, b1 q y5, a1 q y1 y2 y3 y4]
        have y0 : ∀ q, q = 56 ∨ q = 57 ∨ q = 58 → gI (sI N9 54 12 0) q 0 = gI M1 q 0 := fun q hq => by
          rw [gI_sI_ne (by omega), hA.1 q (by omega), b1 q (by omega)]
          rcases hq with rfl | rfl | rfl
          · exact a3.2.2.2.1
          · exact a3.2.2.2.2.1
          · exact a3.2.2.2.2.2
        refine ⟨⟨?_, ?_, ?_, ?_, ?_, rT, rS⟩, ⟨?_, Nat.zero_le _, fun i hi => absurd hi (Nat.not_lt_zero i)⟩, ?_, ?_, ?_, q6⟩
        · rw [y0 56 (by omega), y0 57 (by omega), y0 58 (by omega)]; exact r1
        · rw [y 76 (by decide) (by decide) (by decide) (by decide) (by decide)]; exact r2
        · rw [y 63 (by decide) (by decide) (by decide) (by decide) (by decide), y 64 (by decide) (by decide) (by decide) (by decide) (by decide), y 65 (by decide) (by decide) (by decide) (by decide) (by decide), y 66 (by decide) (by decide) (by decide) (by decide) (by decide)]; exact r3
        · rw [y 67 (by decide) (by decide) (by decide) (by decide) (by decide), y 68 (by decide) (by decide) (by decide) (by decide) (by decide), y 69 (by decide) (by decide) (by decide) (by decide) (by decide), y 70 (by decide) (by decide) (by decide) (by decide) (by decide), y 71 (by decide) (by decide) (by decide) (by decide) (by decide)]; exact r4
        · rw [y 72 (by decide) (by decide) (by decide) (by decide) (by decide)]; exact r5
        · rw [g54, if_neg (by decide), hA.2.1 2 (by decide) (by decide) (by decide) (by decide), z54]; rfl
        · rw [g54, if_neg (by decide), hA.2.1 33 (by decide) (by decide) (by decide) (by decide), z54, y 73 (by decide) (by decide) (by decide) (by decide) (by decide)]; exact q3
        · rw [y 74 (by decide) (by decide) (by decide) (by decide) (by decide), y 75 (by decide) (by decide) (by decide) (by decide) (by decide)]; exact q4
        · rw [g54, if_pos rfl]
      refine v_iload_n (pc := 70) 45 rfl rfl ?_
      refine v_bipush (pc := 71) 46 rfl (by decide) ?_
      refine v_ic_geT (pc := 73) 47 91 rfl (by decide) (by omega) (by omega) ?_
      refine v_aload_n (pc := 91) 55 rfl rfl ?_
      refine v_cV0 (pc := 92) 56 rfl cv_X12_196 rfl (Nat.le_of_ble_eq_true rfl) (Nat.le_of_ble_eq_true rfl) (m_steps (G := G) (d := d + 9) (M := P1) (b := aB A) (n := n1) n800 ztape (fun i hi => hB i (by omega)) (by rw [z54]; rfl) (p := 0) (Nat.zero_le _) (by rw [z54]; rfl)) (fun r9 N9 hq9 => ?_)
      obtain ⟨rfl, hA, hAt⟩ := hq9
      show V G (d + 11) mX12_courts (92 + 3) _ [] _ _
      have hPM : PMs N9 0 N9 (aB A) n1 0 [] ((0, 0, 0), D) := by
        refine ⟨FRM.rfl9 _, hAt, ⟨by rw [hA.2.1 9 (by decide) (by decide) (by decide) (by decide), z54]; rfl, by rw [hA.2.1 12 (by decide) (by decide) (by decide) (by decide), z54]; rfl⟩, ⟨fun i hi => absurd hi (Nat.not_lt_zero i), ⟨fun i hi => absurd hi (Nat.not_lt_zero i), fun i j hi => absurd hi (Nat.not_lt_zero i), fun κ hκ k hk => absurd hk (by rcases (show κ = 0 ∨ κ = 1 ∨ κ = 2 by omega) with e | e | e <;> subst e <;> exact Nat.not_lt_zero k)⟩, LI0 hD⟩, ⟨⟨?_, ?_, ?_⟩, fun x y hx hy hne => ?_, fun j hj => absurd hj (Nat.not_lt_zero j), fun j hj => absurd hj (Nat.not_lt_zero j)⟩, Nat.le_refl _, Nat.zero_le _, n800, fun i hi => hB i (by omega)⟩
        · rw [hA.1 56 (by decide), b1 56 (by decide)]; exact a3.1
        · rw [hA.1 57 (by decide), b1 57 (by decide)]; exact a3.2.1
        · rw [hA.1 58 (by decide), b1 58 (by decide)]; exact a3.2.2.1
        · rw [hA.1 62 (by decide), b2 _ (by omega) (by omega)]
          show (1000 : Int) = D 1 (x * 5 + y)
          rw [hD x y hx hy, if_neg hne]
      have hMF : MF M N9 := by
        refine hF0.trans ⟨fun q hq => ⟨?_, ?_⟩, ?_⟩
        · rw [hA.1 q (by omega), b1 q (by omega), a1 q (by omega) (by omega) (by omega) (by omega)]
        · rw [hA.2.2.1 q (by omega), b3, a4]
        · rw [hA.2.2.2.2, b4, a5]
      refine v_iconst (pc := 95) 57 rfl ?_
      refine v_istore_n (pc := 96) 58 rfl ⟨Nat.le_of_ble_eq_true rfl, rfl⟩ ?_
      refine v_iconst (pc := 97) 59 rfl ?_
      refine v_istore_n (pc := 98) 60 rfl ⟨Nat.le_of_ble_eq_true rfl, rfl⟩ ?_
      refine V.mono (m_rdL (x := J (n1 : Int)) (hM0 N9 hA) (by rw [hA.2.1 2 (by decide) (by decide) (by decide) (by decide), z54]; rfl) 800 0 [] ((0, 0, 0), D) 0 N9 hPM rfl) (fun r P hq => ?_)
      rw [← hQ]
      change onR (rdS (aB A) n1 800 0 [] ((0, 0, 0), D) 0) _ _ at hq
      cases hz : rdS (aB A) n1 800 0 [] ((0, 0, 0), D) 0 with
      | inl e => rw [hz] at hq; exact ⟨hq.1, hq.2.1, hMF.trans hq.2.2⟩
      | inr q => rw [hz] at hq; exact ⟨hq.1, hq.2.1, hMF.trans hq.2.2⟩
    · intro k hk ih
      have es : (fun j => if j = 25 + k then (1000 : Int) else (fun x => if 25 ≤ x ∧ x < 25 + k then 1000 else gI P0 62 x) j) = (fun x => if 25 ≤ x ∧ x < 25 + (k + 1) then 1000 else gI P0 62 x) := by
        funext j
        by_cases g : j = 25 + k
        · rw [if_pos g, if_pos (by omega)]
        · rw [if_neg g]
          show (if 25 ≤ j ∧ j < 25 + k then (1000 : Int) else gI P0 62 j) = _
          by_cases g2 : 25 ≤ j ∧ j < 25 + k
          · rw [if_pos g2, if_pos (by omega)]
          · rw [if_neg g2, if_neg (by omega)]
      change V G (d + 11) mX12_courts 70 [some (.ref 54), some (.int (J (n1 : Int))), some (.int (J ((25 + (k + 1) : Nat) : Int))), none, none] [] (aI P0 62 (fun x => if 25 ≤ x ∧ x < 25 + (k + 1) then 1000 else gI P0 62 x)) Q at ih
      show V G (d + 11) mX12_courts 70 _ _ (aI P0 62 (fun x => if 25 ≤ x ∧ x < 25 + k then 1000 else gI P0 62 x)) Q
      rw [show 25 + (k + 1) = (25 + k) + 1 by omega] at ih
      refine v_iload_n (pc := 70) 45 rfl rfl ?_
      refine v_bipush (pc := 71) 46 rfl (by decide) ?_
      refine v_ic_geF (pc := 73) 47 91 rfl (by decide) (by omega) (by omega) ?_
      refine v_aload_n (pc := 76) 48 rfl rfl ?_
      refine v_getC (pc := 77) 49 rfl fl_X12_33 rfl 62 rfl ?_
      refine v_iload_n (pc := 80) 50 rfl rfl ?_
      refine v_sipush (pc := 81) 51 rfl (by decide) ?_
      refine v_iastE (pc := 84) 52 rfl rfl (25 + k) (by omega) ?_
      refine v_iinc (pc := 85) 53 rfl rfl ⟨Nat.le_of_ble_eq_true rfl, rfl⟩ ?_
      refine v_goto (pc := 88) 54 70 rfl (by decide) ?_
      rw [sI_aI]
      have es2 : (fun j => if j = 25 + k then (1000 : Int) else if 25 ≤ j ∧ j < 25 + k then 1000 else gI P0 62 j) = (fun x => if 25 ≤ x ∧ x < 25 + k + 1 then 1000 else gI P0 62 x) := es
      rw [es2]
      exact ih
  · rw [if_neg (by omega)]
    refine v_iconst (pc := 19) 11 rfl ?_
    refine v_iret (pc := 20) 12 rfl rfl ⟨rfl, h0, hF0⟩
end MCts
