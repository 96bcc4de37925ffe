/-! 62: the reference: words -/
def e5F : Nat → Int → Int
  | 0, _ => 0
  | f + 1, w => if w = 0 then 0 else e5F f (w / 256) * 32 + (w % 256 - 96)
def vd : Nat → Int → Bool
  | 0, w => decide (w = 0)
  | f + 1, w => decide (w = 0) || (decide (97 ≤ w % 256) && decide (w % 256 ≤ 122) && vd f (w / 256))
def e5 (w : Int) : Int := e5F 7 w
theorem vd_s {f : Nat} {w : Int} (h : vd (f + 1) w = true) : w = 0 ∨ (97 ≤ w % 256 ∧ w % 256 ≤ 122 ∧ vd f (w / 256) = true) := by
  unfold vd at h
  simp only [Bool.or_eq_true, Bool.and_eq_true, decide_eq_true_eq] at h
  rcases h with h | h
  · exact Or.inl h
  · exact Or.inr ⟨h.1.1, h.1.2, h.2⟩
theorem vd_i {f : Nat} {w : Int} (h : 97 ≤ w % 256 ∧ w % 256 ≤ 122 ∧ vd f (w / 256) = true) : vd (f + 1) w = true := by
  unfold vd
  simp only [Bool.or_eq_true, Bool.and_eq_true, decide_eq_true_eq]
  exact Or.inr ⟨⟨h.1, h.2.1⟩, h.2.2⟩
theorem e5_b : ∀ (f : Nat) (w : Int), vd f w = true → 0 ≤ e5F f w ∧ e5F f w < 32 ^ f ∧ (w ≠ 0 → 1 ≤ e5F f w) := by
  intro f
  induction f with
  | zero =>
    intro w h
    have h := of_decide_eq_true h
    exact ⟨Int.le_refl 0, by show (0 : Int) < 32 ^ 0; decide, fun q => absurd h q⟩
  | succ f ih =>
    intro w h
    have e : e5F (f + 1) w = if w = 0 then 0 else e5F f (w / 256) * 32 + (w % 256 - 96) := rfl
    have e2 : (32 : Int) ^ (f + 1) = 32 ^ f * 32 := rfl
    have hp : (0 : Int) < 32 ^ f := by
      have : (0 : Nat) < 32 ^ f := Nat.pow_pos (by decide)
      have h2 : ((0 : Nat) : Int) < ((32 ^ f : Nat) : Int) := by omega
      rw [Int.natCast_pow] at h2
      exact h2
    rw [e, e2]
    rcases vd_s h with q | ⟨q1, q2, q3⟩
    · rw [if_pos q]; exact ⟨Int.le_refl 0, by omega, fun z => absurd q z⟩
    · have := ih _ q3
      by_cases z : w = 0
      · rw [if_pos z]; exact ⟨Int.le_refl 0, by omega, fun y => absurd z y⟩
      · rw [if_neg z]; omega
theorem e5_inj : ∀ (f : Nat) (w v : Int), vd f w = true → vd f v = true → e5F f w = e5F f v → w = v := by
  intro f
  induction f with
  | zero =>
    intro w v h1 h2 _
    have h1 : w = 0 := of_decide_eq_true h1
    have h2 : v = 0 := of_decide_eq_true h2
    omega
  | succ f ih =>
    intro w v h1 h2 he
    have b1 := e5_b _ _ h1
    have b2 := e5_b _ _ h2
    by_cases z1 : w = 0
    · by_cases z2 : v = 0
      · omega
      · have e : e5F (f + 1) w = 0 := if_pos z1
        have := b2.2.2 z2
        omega
    · by_cases z2 : v = 0
      · have e : e5F (f + 1) v = 0 := if_pos z2
        have := b1.2.2 z1
        omega
      · obtain ⟨q1, q2, q3⟩ := (vd_s h1).resolve_left z1
        obtain ⟨r1, r2, r3⟩ := (vd_s h2).resolve_left z2
        have e1 : e5F (f + 1) w = e5F f (w / 256) * 32 + (w % 256 - 96) := if_neg z1
        have e2 : e5F (f + 1) v = e5F f (v / 256) * 32 + (v % 256 - 96) := if_neg z2
        rw [e1, e2] at he
        have := ih _ _ q3 r3 (by omega)
        omega
theorem e5_enc {b : Nat → Int} {q : Nat} : ∀ (m f : Nat), m ≤ f → (∀ i, i < m → 97 ≤ b (q + i) ∧ b (q + i) ≤ 122) → e5F f (enc8 b q m) = enc5 b q m ∧ vd f (enc8 b q m) = true := by
  intro m
  induction m with
  | zero =>
    intro f _ _
    cases f with
    | zero => exact ⟨rfl, rfl⟩
    | succ f => exact ⟨rfl, rfl⟩
  | succ m ih =>
    intro f hf hl
    obtain ⟨f, rfl⟩ : ∃ g, f = g + 1 := ⟨f - 1, by omega⟩
    have h1 := ih f (by omega) (fun i hi => hl i (by omega))
    have hb := (enc8_b m (fun i hi => hl i (by omega))).1
    have hm := hl m (by omega)
    have e : enc8 b q (m + 1) = enc8 b q m * 256 + b (q + m) := rfl
    have d1 : enc8 b q (m + 1) / 256 = enc8 b q m := by rw [e]; omega
    have d2 : enc8 b q (m + 1) % 256 = b (q + m) := by rw [e]; omega
    have hz : enc8 b q (m + 1) ≠ 0 := by rw [e]; omega
    refine ⟨?_, vd_i (by rw [d1, d2]; exact ⟨hm.1, hm.2, h1.2⟩)⟩
    show (if enc8 b q (m + 1) = 0 then 0 else e5F f (enc8 b q (m + 1) / 256) * 32 + (enc8 b q (m + 1) % 256 - 96)) = enc5 b q m * 32 + (b (q + m) - 96)
    rw [if_neg hz, d1, d2, h1.1]
theorem wv_ok {b : Nat → Int} {n p : Nat} (h : kd b n p = 1) : e5 (wv b n p) = enc5 b (pl b n p) (lE b n p - pl b n p) ∧ vd 7 (wv b n p) = true := by
  have hl : lE b n p - pl b n p ≤ 7 := by
    unfold kd at h
    by_cases q1 : n ≤ pl b n p
    · rw [if_pos q1] at h; omega
    · rw [if_neg q1] at h
      by_cases q2 : isL (b (pl b n p)) = true
      · rw [if_pos q2] at h
        by_cases q3 : lE b n p - pl b n p ≤ 7
        · exact q3
        · rw [if_neg q3] at h; omega
      · rw [if_neg q2] at h
        by_cases q3 : isD (b (pl b n p)) = true
        · rw [if_pos q3] at h
          by_cases q4 : dE b n p - pl b n p ≤ 3
          · rw [if_pos q4] at h; omega
          · rw [if_neg q4] at h; omega
        · rw [if_neg q3] at h
          by_cases q4 : b (pl b n p) = 59
          · rw [if_pos q4] at h; omega
          · rw [if_neg q4] at h; omega
  exact e5_enc _ 7 hl (fun i hi => by
    have := of_decide_eq_true ((rn_ge isL b n _ (pl b n p) rfl).2.2.1 (pl b n p + i) (by omega) (by unfold lE at hi; omega)).2
    exact this)
/-- the words of the form, as the class holds them -/
def w8 (j : Nat) : Int := [1953462126, 1919902052, 457236047717, 31935733760681324, 1667330917, 426971130220, 427121274213, 112568633486457, 1818324580, 1650553459].getD j 0
def spF (j : Nat) : Nat → Int
  | 0 => 0
  | k + 1 => spF j k * 32 + (chr j k - 96)
theorem sp_fact : ∀ j : Fin 10, spF j (strLen.getD j 0) = e5F 7 (w8 j) ∧ vd 7 (w8 j) = true ∧ ∀ k : Fin 8, 0 ≤ spF j k ∧ spF j k < 34359738368 := by decide +kernel
theorem sl_fact : ∀ j : Fin 10, strLen.getD j 0 ≤ 7 := by decide +kernel
section MName
variable {G : Gt} {d : Nat} {M : Mem} {b : Nat → Int} {n p : Nat}
theorem m_spelled {j : Nat} (hsx : j < 10) : V G (d + 4) mX12_spelled 0 [some (.ref (100 + j)), none, none, none] [] M (Ret (some (.long (JL (e5 (w8 j))))) M) := by
  obtain ⟨s1, s2, s3⟩ := sp_fact ⟨j, hsx⟩
  have s1 : spF j (strLen.getD j 0) = e5 (w8 j) := s1
  have hl : strLen.getD j 0 ≤ 7 := sl_fact ⟨j, hsx⟩
  rw [← s1]
  have c1 := j_length (G := G) (d := d + 2) (M := M) hsx
  refine v_lconst (pc := 0) 0 rfl ?_
  refine v_lstore_n (pc := 1) 1 rfl ⟨Nat.le_of_ble_eq_true rfl, rfl⟩ ?_
  refine v_iconst (pc := 2) 2 rfl ?_
  refine v_istore_n (pc := 3) 3 rfl ⟨Nat.le_of_ble_eq_true rfl, rfl⟩ ?_
  refine loopN (N := strLen.getD j 0) (fun k => V G (d + 4) mX12_spelled 4 [some (.ref (100 + j)), some (.long (JL (spF j k))), none, some (.int (J (k : Int)))] [] M (Ret (some (.long (JL (spF j (strLen.getD j 0))))) M)) ?_ ?_
  · refine v_iload_n (pc := 4) 4 rfl rfl ?_
    refine v_aload_n (pc := 5) 5 rfl rfl ?_
    refine v_cW0i (pc := 6) 6 rfl cw_X12_151 hsx (Nat.le_of_ble_eq_true rfl) (Nat.le_of_ble_eq_true rfl) (c1) ?_
    refine v_ic_geT (pc := 9) 7 33 rfl (by decide) (by omega) (by omega) ?_
    refine v_lload_n (pc := 33) 21 rfl rfl ?_
    refine v_lret (pc := 34) 22 rfl rfl ⟨rfl, rfl⟩
  · intro k hk ih
    have c2 := j_charAt (G := G) (d := d) (M := M) hsx hk
    have cb := (chr_ok hsx hk).2.1
    have sb := s3 ⟨k, by omega⟩
    have sb : 0 ≤ spF j k ∧ spF j k < 34359738368 := sb
    refine v_iload_n (pc := 4) 4 rfl rfl ?_
    refine v_aload_n (pc := 5) 5 rfl rfl ?_
    refine v_cW0i (pc := 6) 6 rfl cw_X12_151 hsx (Nat.le_of_ble_eq_true rfl) (Nat.le_of_ble_eq_true rfl) (c1) ?_
    refine v_ic_geF (pc := 9) 7 33 rfl (by decide) (by omega) (by omega) ?_
    refine v_lload_n (pc := 12) 8 rfl rfl ?_
    refine v_iconst (pc := 13) 9 rfl ?_
    refine v_lshl (pc := 14) 10 rfl (JL (spF j k) <<< ((J 5).toInt64 &&& 63)) rfl ?_
    refine v_aload_n (pc := 15) 11 rfl rfl ?_
    refine v_iload_n (pc := 16) 12 rfl rfl ?_
    refine v_cW1i (pc := 17) 13 rfl cw_X12_156 hsx (Nat.le_of_ble_eq_true rfl) (Nat.le_of_ble_eq_true rfl) (c2) ?_
    refine v_i2l (pc := 20) 14 rfl (by omega) ?_
    refine v_ldc2J (pc := 21) 15 rfl kcLong_X12_139 (96) (by decide) ?_
    refine v_lsub (pc := 24) 16 rfl ?_
    refine v_lor (pc := 25) 17 rfl (JL (spF j k * 32 + (chr j k - 96))) (JL_or5 (by omega) (by omega)) ?_
    refine v_lstore_n (pc := 26) 18 rfl ⟨Nat.le_of_ble_eq_true rfl, rfl⟩ ?_
    refine v_iinc (pc := 27) 19 rfl rfl ⟨Nat.le_of_ble_eq_true rfl, rfl⟩ ?_
    refine v_goto (pc := 30) 20 4 rfl (by decide) ?_
    exact ih
theorem m_is (h : AtM M b n p) {j : Nat} (hsx : j < 10) : V G (d + 5) mX12_is 0 [some (.ref 54), some (.ref (100 + j))] [] M (Ret (some (.int (J (b2i (isW b n p (w8 j)))))) M) := by
  obtain ⟨h1, h2, h3, h4, h5, h6, h7⟩ := h
  have hk := kd_le b n p
  unfold isW
  refine v_aload_n (pc := 0) 0 rfl rfl ?_
  refine v_getI (pc := 1) 1 rfl fl_X12_121 rfl ?_
  refine v_iconst (pc := 4) 2 rfl ?_
  refine v_ic_ne (pc := 5) 3 24 rfl (by decide) (by omega) (fun e1 => ?_) (fun e1 => ?_)
  · rw [decide_eq_false (by omega)]
    refine v_iconst (pc := 24) 12 rfl ?_
    refine v_zret (pc := 25) 13 rfl rfl (by decide) ⟨rfl, rfl⟩
  · have k1 : kd b n p = 1 := by omega
    obtain ⟨w1, w2⟩ := wv_ok k1
    have v2 : vd 7 (w8 j) = true := (sp_fact ⟨j, hsx⟩).2.1
    have b1 := e5_b 7 _ w2
    have b2 := e5_b 7 _ v2
    have p32 : (32 : Int) ^ 7 = 34359738368 := by decide
    rw [p32] at b1 b2
    have e8 : gL M 54 8 = JL (e5 (wv b n p)) := by rw [h6 k1, w1]
    have zr := lz_r (e5 (wv b n p)) (e5 (w8 j))
    unfold e5 at *
    refine v_aload_n (pc := 8) 4 rfl rfl ?_
    refine v_getL (pc := 9) 5 rfl fl_X12_127 rfl ?_
    rw [e8]
    refine v_aload_n (pc := 12) 6 rfl rfl ?_
    refine v_cS1l (pc := 13) 7 rfl cs_X12_160 (Nat.le_of_ble_eq_true rfl) (Nat.le_of_ble_eq_true rfl) (m_spelled hsx) ?_
    refine v_lcmp (pc := 16) 8 rfl (lz (e5F 7 (wv b n p)) (e5F 7 (w8 j))) (J_lcmp ⟨by omega, by unfold e5; omega⟩) ?_
    refine v_if_ne (pc := 17) 9 24 rfl (by decide) (by omega) (fun e2 => ?_) (fun e2 => ?_)
    · rw [decide_eq_false (fun q => e2 (lz_0.mpr (by rw [q.2])))]
      refine v_iconst (pc := 24) 12 rfl ?_
      refine v_zret (pc := 25) 13 rfl rfl (by decide) ⟨rfl, rfl⟩
    · have := lz_0.mp (Decidable.not_not.mp e2)
      rw [decide_eq_true ⟨k1, e5_inj 7 _ _ w2 v2 this⟩]
      refine v_iconst (pc := 20) 10 rfl ?_
      refine v_goto (pc := 21) 11 25 rfl (by decide) ?_
      refine v_zret (pc := 25) 13 rfl rfl (by decide) ⟨rfl, rfl⟩
theorem isW_t {w : Int} : isW b n p w = true ↔ kd b n p = 1 ∧ wv b n p = w := by unfold isW; exact decide_eq_true_iff
theorem m_sortHere (h : AtM M b n p) : V G (d + 6) mX12_sortHere 0 [some (.ref 54)] [] M (Ret (some (.int (J (srt b n p)))) M) := by
  have c5 := m_is (G := G) (d := d) h (j := 5) (by decide)
  have c6 := m_is (G := G) (d := d) h (j := 6) (by decide)
  have c7 := m_is (G := G) (d := d) h (j := 7) (by decide)
  have c8 := m_is (G := G) (d := d) h (j := 8) (by decide)
  have x5 : isW b n p (w8 5) = true ↔ kd b n p = 1 ∧ wv b n p = 426971130220 := isW_t
  have x6 : isW b n p (w8 6) = true ↔ kd b n p = 1 ∧ wv b n p = 427121274213 := isW_t
  have x7 : isW b n p (w8 7) = true ↔ kd b n p = 1 ∧ wv b n p = 112568633486457 := isW_t
  have x8 : isW b n p (w8 8) = true ↔ kd b n p = 1 ∧ wv b n p = 1818324580 := isW_t
  have bt9 := b2i_r true
  have bf9 := b2i_r false
  unfold srt
  cases q5 : isW b n p (w8 5) with
  | true =>
    rw [q5] at c5
    have := x5.mp q5
    rw [if_neg (by omega), if_pos this.2]
    refine v_aload_n (pc := 0) 0 rfl rfl ?_
    refine v_ldcs (pc := 1) 1 rfl 5 rfl rfl ?_
    refine v_cV1i (pc := 3) 2 rfl cv_X12_166 rfl (Nat.le_of_ble_eq_true rfl) (Nat.le_of_ble_eq_true rfl) (c5) ?_
    refine v_if_eqF (pc := 6) 3 13 rfl (by decide) (by omega) (by decide) ?_
    refine v_iconst (pc := 9) 4 rfl ?_
    refine v_goto (pc := 10) 5 53 rfl (by decide) ?_
    refine v_iret (pc := 53) 25 rfl rfl ⟨rfl, rfl⟩
  | false =>
    rw [q5] at c5 x5
    cases q6 : isW b n p (w8 6) with
    | true =>
      rw [q6] at c6
      have := x6.mp q6
      rw [if_neg (by omega), if_neg (fun z => absurd (x5.mpr ⟨this.1, z⟩) (by decide)), if_pos this.2]
      refine v_aload_n (pc := 0) 0 rfl rfl ?_
      refine v_ldcs (pc := 1) 1 rfl 5 rfl rfl ?_
      refine v_cV1i (pc := 3) 2 rfl cv_X12_166 rfl (Nat.le_of_ble_eq_true rfl) (Nat.le_of_ble_eq_true rfl) (c5) ?_
      refine v_if_eqT (pc := 6) 3 13 rfl (by decide) (by omega) (by decide) ?_
      refine v_aload_n (pc := 13) 6 rfl rfl ?_
      refine v_ldcs (pc := 14) 7 rfl 6 rfl rfl ?_
      refine v_cV1i (pc := 16) 8 rfl cv_X12_166 rfl (Nat.le_of_ble_eq_true rfl) (Nat.le_of_ble_eq_true rfl) (c6) ?_
      refine v_if_eqF (pc := 19) 9 26 rfl (by decide) (by omega) (by decide) ?_
      refine v_iconst (pc := 22) 10 rfl ?_
      refine v_goto (pc := 23) 11 53 rfl (by decide) ?_
      refine v_iret (pc := 53) 25 rfl rfl ⟨rfl, rfl⟩
    | false =>
      rw [q6] at c6 x6
      cases q7 : isW b n p (w8 7) with
      | true =>
        rw [q7] at c7
        have := x7.mp q7
        rw [if_neg (by omega), if_neg (fun z => absurd (x5.mpr ⟨this.1, z⟩) (by decide)), if_neg (fun z => absurd (x6.mpr ⟨this.1, z⟩) (by decide)), if_pos this.2]
        refine v_aload_n (pc := 0) 0 rfl rfl ?_
        refine v_ldcs (pc := 1) 1 rfl 5 rfl rfl ?_
        refine v_cV1i (pc := 3) 2 rfl cv_X12_166 rfl (Nat.le_of_ble_eq_true rfl) (Nat.le_of_ble_eq_true rfl) (c5) ?_
        refine v_if_eqT (pc := 6) 3 13 rfl (by decide) (by omega) (by decide) ?_
        refine v_aload_n (pc := 13) 6 rfl rfl ?_
        refine v_ldcs (pc := 14) 7 rfl 6 rfl rfl ?_
        refine v_cV1i (pc := 16) 8 rfl cv_X12_166 rfl (Nat.le_of_ble_eq_true rfl) (Nat.le_of_ble_eq_true rfl) (c6) ?_
        refine v_if_eqT (pc := 19) 9 26 rfl (by decide) (by omega) (by decide) ?_
        refine v_aload_n (pc := 26) 12 rfl rfl ?_
        refine v_ldcs (pc := 27) 13 rfl 7 rfl rfl ?_
        refine v_cV1i (pc := 29) 14 rfl cv_X12_166 rfl (Nat.le_of_ble_eq_true rfl) (Nat.le_of_ble_eq_true rfl) (c7) ?_
        refine v_if_eqF (pc := 32) 15 39 rfl (by decide) (by omega) (by decide) ?_
        refine v_iconst (pc := 35) 16 rfl ?_
        refine v_goto (pc := 36) 17 53 rfl (by decide) ?_
        refine v_iret (pc := 53) 25 rfl rfl ⟨rfl, rfl⟩
      | false =>
        rw [q7] at c7 x7
        cases q8 : isW b n p (w8 8) with
        | true =>
          rw [q8] at c8
          have := x8.mp q8
          rw [if_neg (by omega), if_neg (fun z => absurd (x5.mpr ⟨this.1, z⟩) (by decide)), if_neg (fun z => absurd (x6.mpr ⟨this.1, z⟩) (by decide)), if_neg (fun z => absurd (x7.mpr ⟨this.1, z⟩) (by decide)), if_pos this.2]
          refine v_aload_n (pc := 0) 0 rfl rfl ?_
          refine v_ldcs (pc := 1) 1 rfl 5 rfl rfl ?_
          refine v_cV1i (pc := 3) 2 rfl cv_X12_166 rfl (Nat.le_of_ble_eq_true rfl) (Nat.le_of_ble_eq_true rfl) (c5) ?_
          refine v_if_eqT (pc := 6) 3 13 rfl (by decide) (by omega) (by decide) ?_
          refine v_aload_n (pc := 13) 6 rfl rfl ?_
          refine v_ldcs (pc := 14) 7 rfl 6 rfl rfl ?_
          refine v_cV1i (pc := 16) 8 rfl cv_X12_166 rfl (Nat.le_of_ble_eq_true rfl) (Nat.le_of_ble_eq_true rfl) (c6) ?_
          refine v_if_eqT (pc := 19) 9 26 rfl (by decide) (by omega) (by decide) ?_
          refine v_aload_n (pc := 26) 12 rfl rfl ?_
          refine v_ldcs (pc := 27) 13 rfl 7 rfl rfl ?_
          refine v_cV1i (pc := 29) 14 rfl cv_X12_166 rfl (Nat.le_of_ble_eq_true rfl) (Nat.le_of_ble_eq_true rfl) (c7) ?_
          refine v_if_eqT (pc := 32) 15 39 rfl (by decide) (by omega) (by decide) ?_
          refine v_aload_n (pc := 39) 18 rfl rfl ?_
          refine v_ldcs (pc := 40) 19 rfl 8 rfl rfl ?_
          refine v_cV1i (pc := 42) 20 rfl cv_X12_166 rfl (Nat.le_of_ble_eq_true rfl) (Nat.le_of_ble_eq_true rfl) (c8) ?_
          refine v_if_eqF (pc := 45) 21 52 rfl (by decide) (by omega) (by decide) ?_
          refine v_iconst (pc := 48) 22 rfl ?_
          refine v_goto (pc := 49) 23 53 rfl (by decide) ?_
          refine v_iret (pc := 53) 25 rfl rfl ⟨rfl, rfl⟩
        | false =>
          rw [q8] at c8 x8
          have e : (if kd b n p ≠ 1 then -1 else if wv b n p = 426971130220 then 0 else if wv b n p = 427121274213 then 1 else if wv b n p = 112568633486457 then 2 else if wv b n p = 1818324580 then 3 else (-1 : Int)) = -1 := by
            by_cases z : kd b n p ≠ 1
            · rw [if_pos z]
            · have z := Decidable.not_not.mp z
              rw [if_neg (fun y => y z), if_neg (fun y => absurd (x5.mpr ⟨z, y⟩) (by decide)), if_neg (fun y => absurd (x6.mpr ⟨z, y⟩) (by decide)), if_neg (fun y => absurd (x7.mpr ⟨z, y⟩) (by decide)), if_neg (fun y => absurd (x8.mpr ⟨z, y⟩) (by decide))]
          rw [e]
          refine v_aload_n (pc := 0) 0 rfl rfl ?_
          refine v_ldcs (pc := 1) 1 rfl 5 rfl rfl ?_
          refine v_cV1i (pc := 3) 2 rfl cv_X12_166 rfl (Nat.le_of_ble_eq_true rfl) (Nat.le_of_ble_eq_true rfl) (c5) ?_
          refine v_if_eqT (pc := 6) 3 13 rfl (by decide) (by omega) (by decide) ?_
          refine v_aload_n (pc := 13) 6 rfl rfl ?_
          refine v_ldcs (pc := 14) 7 rfl 6 rfl rfl ?_
          refine v_cV1i (pc := 16) 8 rfl cv_X12_166 rfl (Nat.le_of_ble_eq_true rfl) (Nat.le_of_ble_eq_true rfl) (c6) ?_
          refine v_if_eqT (pc := 19) 9 26 rfl (by decide) (by omega) (by decide) ?_
          refine v_aload_n (pc := 26) 12 rfl rfl ?_
          refine v_ldcs (pc := 27) 13 rfl 7 rfl rfl ?_
          refine v_cV1i (pc := 29) 14 rfl cv_X12_166 rfl (Nat.le_of_ble_eq_true rfl) (Nat.le_of_ble_eq_true rfl) (c7) ?_
          refine v_if_eqT (pc := 32) 15 39 rfl (by decide) (by omega) (by decide) ?_
          refine v_aload_n (pc := 39) 18 rfl rfl ?_
          refine v_ldcs (pc := 40) 19 rfl 8 rfl rfl ?_
          refine v_cV1i (pc := 42) 20 rfl cv_X12_166 rfl (Nat.le_of_ble_eq_true rfl) (Nat.le_of_ble_eq_true rfl) (c8) ?_
          refine v_if_eqT (pc := 45) 21 52 rfl (by decide) (by omega) (by decide) ?_
          refine v_iconst (pc := 52) 24 rfl ?_
          refine v_iret (pc := 53) 25 rfl rfl ⟨rfl, rfl⟩
theorem m_isName (h : AtM M b n p) : V G (d + 7) mX12_isName 0 [some (.ref 54)] [] M (Ret (some (.int (J (b2i (isNm b n p))))) M) := by
  have hk := kd_le b n p
  have h5 := h.2.2.2.2.1
  have sb := srt_b b n p
  have cs := m_sortHere (G := G) (d := d) h
  have c0 := m_is (G := G) (d := d + 1) h (j := 0) (by decide)
  have c1 := m_is (G := G) (d := d + 1) h (j := 1) (by decide)
  have c2 := m_is (G := G) (d := d + 1) h (j := 2) (by decide)
  have c3 := m_is (G := G) (d := d + 1) h (j := 3) (by decide)
  have c4 := m_is (G := G) (d := d + 1) h (j := 4) (by decide)
  have c9 := m_is (G := G) (d := d + 1) h (j := 9) (by decide)
  have x0 : isW b n p (w8 0) = true ↔ kd b n p = 1 ∧ wv b n p = 1953462126 := isW_t
  have x1 : isW b n p (w8 1) = true ↔ kd b n p = 1 ∧ wv b n p = 1919902052 := isW_t
  have x2 : isW b n p (w8 2) = true ↔ kd b n p = 1 ∧ wv b n p = 457236047717 := isW_t
  have x3 : isW b n p (w8 3) = true ↔ kd b n p = 1 ∧ wv b n p = 31935733760681324 := isW_t
  have x4 : isW b n p (w8 4) = true ↔ kd b n p = 1 ∧ wv b n p = 1667330917 := isW_t
  have x9 : isW b n p (w8 9) = true ↔ kd b n p = 1 ∧ wv b n p = 1650553459 := isW_t
  have no : isNm b n p = false → V G (d + 7) mX12_isName 73 [some (.ref 54)] [] M (Ret (some (.int (J (b2i (isNm b n p))))) M) := by
    intro q
    rw [q]
    refine v_iconst (pc := 73) 33 rfl ?_
    refine v_zret (pc := 74) 34 rfl rfl (by decide) ⟨rfl, rfl⟩
  have nf : ¬ (kd b n p = 1 ∧ srt b n p < 0 ∧ wv b n p ≠ 1953462126 ∧ wv b n p ≠ 1919902052 ∧ wv b n p ≠ 457236047717 ∧ wv b n p ≠ 31935733760681324 ∧ wv b n p ≠ 1667330917 ∧ wv b n p ≠ 1650553459) → isNm b n p = false := fun q => decide_eq_false q
  have bt9 := b2i_r true
  have bf9 := b2i_r false
  refine v_aload_n (pc := 0) 0 rfl rfl ?_
  refine v_getI (pc := 1) 1 rfl fl_X12_121 rfl ?_
  refine v_iconst (pc := 4) 2 rfl ?_
  refine v_ic_ne (pc := 5) 3 73 rfl (by decide) (by omega) (fun e1 => ?_) (fun e1 => ?_)
  · exact no (nf (fun z => by omega))
  · refine v_aload_n (pc := 8) 4 rfl rfl ?_
    refine v_cV0i (pc := 9) 5 rfl cv_X12_176 rfl (Nat.le_of_ble_eq_true rfl) (Nat.le_of_ble_eq_true rfl) (cs) ?_
    refine v_if_ge (pc := 12) 6 73 rfl (by decide) (by omega) (fun e2 => ?_) (fun e2 => ?_)
    · exact no (nf (fun z => by omega))
    · cases q0 : isW b n p (w8 0) with
      | true =>
        rw [q0] at c0
        refine v_aload_n (pc := 15) 7 rfl rfl ?_
        refine v_ldcs (pc := 16) 8 rfl 0 rfl rfl ?_
        refine v_cV1i (pc := 18) 9 rfl cv_X12_166 rfl (Nat.le_of_ble_eq_true rfl) (Nat.le_of_ble_eq_true rfl) (c0) ?_
        refine v_if_neT (pc := 21) 10 73 rfl (by decide) (by omega) (by decide) ?_
        exact no (nf (fun z => z.2.2.1 (x0.mp q0).2))
      | false =>
        rw [q0] at c0 x0
        refine v_aload_n (pc := 15) 7 rfl rfl ?_
        refine v_ldcs (pc := 16) 8 rfl 0 rfl rfl ?_
        refine v_cV1i (pc := 18) 9 rfl cv_X12_166 rfl (Nat.le_of_ble_eq_true rfl) (Nat.le_of_ble_eq_true rfl) (c0) ?_
        refine v_if_neF (pc := 21) 10 73 rfl (by decide) (by omega) (by decide) ?_
        cases q1 : isW b n p (w8 1) with
        | true =>
          rw [q1] at c1
          refine v_aload_n (pc := 24) 11 rfl rfl ?_
          refine v_ldcs (pc := 25) 12 rfl 1 rfl rfl ?_
          refine v_cV1i (pc := 27) 13 rfl cv_X12_166 rfl (Nat.le_of_ble_eq_true rfl) (Nat.le_of_ble_eq_true rfl) (c1) ?_
          refine v_if_neT (pc := 30) 14 73 rfl (by decide) (by omega) (by decide) ?_
          exact no (nf (fun z => z.2.2.2.1 (x1.mp q1).2))
        | false =>
          rw [q1] at c1 x1
          refine v_aload_n (pc := 24) 11 rfl rfl ?_
          refine v_ldcs (pc := 25) 12 rfl 1 rfl rfl ?_
          refine v_cV1i (pc := 27) 13 rfl cv_X12_166 rfl (Nat.le_of_ble_eq_true rfl) (Nat.le_of_ble_eq_true rfl) (c1) ?_
          refine v_if_neF (pc := 30) 14 73 rfl (by decide) (by omega) (by decide) ?_
          cases q2 : isW b n p (w8 2) with
          | true =>
            rw [q2] at c2
            refine v_aload_n (pc := 33) 15 rfl rfl ?_
            refine v_ldcs (pc := 34) 16 rfl 2 rfl rfl ?_
            refine v_cV1i (pc := 36) 17 rfl cv_X12_166 rfl (Nat.le_of_ble_eq_true rfl) (Nat.le_of_ble_eq_true rfl) (c2) ?_
            refine v_if_neT (pc := 39) 18 73 rfl (by decide) (by omega) (by decide) ?_
            exact no (nf (fun z => z.2.2.2.2.1 (x2.mp q2).2))
          | false =>
            rw [q2] at c2 x2
            refine v_aload_n (pc := 33) 15 rfl rfl ?_
            refine v_ldcs (pc := 34) 16 rfl 2 rfl rfl ?_
            refine v_cV1i (pc := 36) 17 rfl cv_X12_166 rfl (Nat.le_of_ble_eq_true rfl) (Nat.le_of_ble_eq_true rfl) (c2) ?_
            refine v_if_neF (pc := 39) 18 73 rfl (by decide) (by omega) (by decide) ?_
            cases q3 : isW b n p (w8 3) with
            | true =>
              rw [q3] at c3
              refine v_aload_n (pc := 42) 19 rfl rfl ?_
              refine v_ldcs (pc := 43) 20 rfl 3 rfl rfl ?_
              refine v_cV1i (pc := 45) 21 rfl cv_X12_166 rfl (Nat.le_of_ble_eq_true rfl) (Nat.le_of_ble_eq_true rfl) (c3) ?_
              refine v_if_neT (pc := 48) 22 73 rfl (by decide) (by omega) (by decide) ?_
              exact no (nf (fun z => z.2.2.2.2.2.1 (x3.mp q3).2))
            | false =>
              rw [q3] at c3 x3
              refine v_aload_n (pc := 42) 19 rfl rfl ?_
              refine v_ldcs (pc := 43) 20 rfl 3 rfl rfl ?_
              refine v_cV1i (pc := 45) 21 rfl cv_X12_166 rfl (Nat.le_of_ble_eq_true rfl) (Nat.le_of_ble_eq_true rfl) (c3) ?_
              refine v_if_neF (pc := 48) 22 73 rfl (by decide) (by omega) (by decide) ?_
              cases q4 : isW b n p (w8 4) with
              | true =>
                rw [q4] at c4
                refine v_aload_n (pc := 51) 23 rfl rfl ?_
                refine v_ldcs (pc := 52) 24 rfl 4 rfl rfl ?_
                refine v_cV1i (pc := 54) 25 rfl cv_X12_166 rfl (Nat.le_of_ble_eq_true rfl) (Nat.le_of_ble_eq_true rfl) (c4) ?_
                refine v_if_neT (pc := 57) 26 73 rfl (by decide) (by omega) (by decide) ?_
                exact no (nf (fun z => z.2.2.2.2.2.2.1 (x4.mp q4).2))
              | false =>
                rw [q4] at c4 x4
                refine v_aload_n (pc := 51) 23 rfl rfl ?_
                refine v_ldcs (pc := 52) 24 rfl 4 rfl rfl ?_
                refine v_cV1i (pc := 54) 25 rfl cv_X12_166 rfl (Nat.le_of_ble_eq_true rfl) (Nat.le_of_ble_eq_true rfl) (c4) ?_
                refine v_if_neF (pc := 57) 26 73 rfl (by decide) (by omega) (by decide) ?_
                cases q9 : isW b n p (w8 9) with
                | true =>
                  rw [q9] at c9
                  refine v_aload_n (pc := 60) 27 rfl rfl ?_
                  refine v_ldcs (pc := 61) 28 rfl 9 rfl rfl ?_
                  refine v_cV1i (pc := 63) 29 rfl cv_X12_166 rfl (Nat.le_of_ble_eq_true rfl) (Nat.le_of_ble_eq_true rfl) (c9) ?_
                  refine v_if_neT (pc := 66) 30 73 rfl (by decide) (by omega) (by decide) ?_
                  exact no (nf (fun z => z.2.2.2.2.2.2.2 (x9.mp q9).2))
                | false =>
                  rw [q9] at c9 x9
                  have k1 : kd b n p = 1 := by omega
                  have e : isNm b n p = true := decide_eq_true ⟨k1, by omega, fun y => absurd (x0.mpr ⟨k1, y⟩) (by decide), fun y => absurd (x1.mpr ⟨k1, y⟩) (by decide), fun y => absurd (x2.mpr ⟨k1, y⟩) (by decide), fun y => absurd (x3.mpr ⟨k1, y⟩) (by decide), fun y => absurd (x4.mpr ⟨k1, y⟩) (by decide), fun y => absurd (x9.mpr ⟨k1, y⟩) (by decide)⟩
                  rw [e]
                  refine v_aload_n (pc := 60) 27 rfl rfl ?_
                  refine v_ldcs (pc := 61) 28 rfl 9 rfl rfl ?_
                  refine v_cV1i (pc := 63) 29 rfl cv_X12_166 rfl (Nat.le_of_ble_eq_true rfl) (Nat.le_of_ble_eq_true rfl) (c9) ?_
                  refine v_if_neF (pc := 66) 30 73 rfl (by decide) (by omega) (by decide) ?_
                  refine v_iconst (pc := 69) 31 rfl ?_
                  refine v_goto (pc := 70) 32 74 rfl (by decide) ?_
                  refine v_zret (pc := 74) 34 rfl rfl (by decide) ⟨rfl, rfl⟩
end MName
