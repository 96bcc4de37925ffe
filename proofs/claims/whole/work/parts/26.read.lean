/-! 26: what is read of a line: the class's reader -/
def pbd {α β : Type} (x : Int ⊕ α) (g : α → Int ⊕ β) : Int ⊕ β := match x with
  | .inl f => .inl f
  | .inr a => g a
def onR {α : Type} (R : Int ⊕ α) (F : Int → Prop) (K : α → Prop) : Prop := match R with
  | .inl f => F f
  | .inr a => K a
section Pure
variable (b : Nat → Int) (n : Nat)
def rNew (L : List Nm) (κ j p : Nat) : Int ⊕ (List Nm × Nat) := if isNm b n p = false then .inl (flt b n p 1) else if hasL L (wv b n p) = true then .inl (flt b n p 2) else .inr (L ++ [(wv b n p, κ, j)], nx b n p)
def rTold (L : List Nm) (κ : Nat) (u : Int) (p : Nat) : Int ⊕ (Int × Nat) := if isNm b n p = false then .inl (flt b n p 1) else if numL L (wv b n p) κ < 0 then .inl (flt b n p 3) else if bt u (numL L (wv b n p) κ) ≠ 0 then .inl (flt b n p 2) else .inr (numL L (wv b n p) κ, nx b n p)
def rNum (lo hi : Int) (p : Nat) : Int ⊕ (Int × Nat) := if kd b n p ≠ 2 then .inl (flt b n p 1) else if vlu b n p < lo ∨ hi < vlu b n p then .inl (flt b n p 4) else .inr (vlu b n p, nx b n p)
def rSort (u : Int) (p : Nat) : Int ⊕ (Int × Nat) := if srt b n p < 0 then .inl (flt b n p 1) else if bt u (srt b n p) ≠ 0 then .inl (flt b n p 2) else .inr (srt b n p, nx b n p)
def rSorts : Nat → Int → Nat → Int ⊕ (Int × Nat)
  | 0, _, _ => .inl 0
  | f + 1, u, p => pbd (rSort b n u p) (fun q => if kd b n q.2 = 1 then rSorts f (setb u q.1.toNat) q.2 else .inr (setb u q.1.toNat, q.2))
def rBars (L : List Nm) : Nat → Int → Nat → Int ⊕ (Int × Nat)
  | 0, _, _ => .inl 0
  | f + 1, u, p => if isW b n p 1650553459 = true then pbd (rTold b n L 1 u (nx b n p)) (fun q => rBars L f (setb u q.1.toNat) q.2) else .inr (u, p)
def rEnd (p : Nat) : Int ⊕ Nat := if kd b n p = 3 then .inr (nx b n p) else .inl (flt b n p 1)
end Pure
/-- nothing but the reader's cells and those of the courts that it writes has changed -/
def AgX (c2 : Nat) (M0 N : Mem) : Prop := (∀ q, q ≠ 2 → q ≠ 3 → q ≠ 4 → q ≠ 6 → q ≠ 7 → ¬ (c2 ≤ q ∧ q ≤ c2 + 10) → gI N q = gI M0 q) ∧ (∀ q, q ≠ 3 → q ≠ 5 → gL N q = gL M0 q) ∧ gR N = gR M0
/-- the numbers of towns and judges are small; what is read has bytes -/
def NmOk (L : List Nm) : Prop := ∀ i, i < L.length → ((L.getD i (0, 0, 0)).2.1 = 0 → (L.getD i (0, 0, 0)).2.2 < 5) ∧ ((L.getD i (0, 0, 0)).2.1 = 1 → (L.getD i (0, 0, 0)).2.2 < 6)
def PS (c2 : Nat) (M0 N : Mem) (b : Nat → Int) (n p : Nat) (L : List Nm) (T : Tx) : Prop :=
  AgX c2 M0 N ∧ AtC N b n p ∧ TabR N L ∧ tOf N c2 = T ∧ (0 ≤ gI N c2 0 ∧ 0 ≤ gI N c2 1 ∧ 0 ≤ gI N c2 2) ∧ NmOk L ∧ p ≤ n ∧ n ≤ 800 ∧ ∀ i, i < n → -128 ≤ b i ∧ b i < 128
def PF (c2 : Nat) (M0 N : Mem) (f : Int) : Prop := AgX c2 M0 N ∧ gI N 2 3 = f
theorem PS.flt {c2 : Nat} (hc2 : c2 = 32 ∨ c2 = 43) {M0 N : Mem} {b : Nat → Int} {n p : Nat} {L : List Nm} {T : Tx} (h : PS c2 M0 N b n p L T) (f : Int) : PF c2 M0 (sI N 2 3 f) f :=
  ⟨⟨fun q q1 q2 q3 q4 q5 q6 => by rw [gI_sI_ne q1]; exact h.1.1 q q1 q2 q3 q4 q5 q6, h.1.2.1, h.1.2.2⟩, by rw [gI_sI, if_pos rfl, if_pos rfl]⟩
theorem PS.adv {c2 : Nat} (hc2 : c2 = 32 ∨ c2 = 43) {M0 N N2 : Mem} {b : Nat → Int} {n p : Nat} {L : List Nm} {T : Tx} (h : PS c2 M0 N b n p L T) (hA : AgS N N2) {p2 : Nat} (hp2 : p2 ≤ n) (h2 : AtC N2 b n p2) : PS c2 M0 N2 b n p2 L T := by
  obtain ⟨a1, a2, a3, a4, a5, a6, a7, a8, a9⟩ := h
  have hne : ∀ q, q ≠ 3 → gI N2 q = gI N q := hA.1
  refine ⟨⟨fun q q1 q2 q3 q4 q5 q6 => by rw [hne q q2]; exact a1.1 q q1 q2 q3 q4 q5 q6, fun q q1 q2 => by rw [hA.2.1 q q1]; exact a1.2.1 q q1 q2, hA.2.2.1.trans a1.2.2⟩, h2, ?_, ?_, ?_, a6, hp2, a8, a9⟩
  · obtain ⟨t1, t2, t3⟩ := a3
    refine ⟨by rw [hne 4 (by decide)]; exact t1, t2, fun i hi => ?_⟩
    rw [hA.2.1 5 (by decide), hne 6 (by decide), hne 7 (by decide)]; exact t3 i hi
  · rw [← a4]; exact tOf_eq (fun j hj => hne _ (by rcases hc2 with e | e <;> omega))
  · rw [hne c2 (by rcases hc2 with e | e <;> omega)]; exact a5
theorem numL_e {L : List Nm} {w : Int} {κ : Nat} (h : 0 ≤ numL L w κ) : ∃ i, i < L.length ∧ (L.getD i (0, 0, 0)).2.1 = κ ∧ numL L w κ = ((L.getD i (0, 0, 0)).2.2 : Int) := by
  have hf := fnd_b L w
  unfold numL at h ⊢
  by_cases q : fnd L w ≠ -1 ∧ (L.getD (fnd L w).toNat (0, 0, 0)).2.1 = κ
  · rw [if_pos q]
    exact ⟨(fnd L w).toNat, by omega, q.2, rfl⟩
  · rw [if_neg q] at h; omega
theorem numL_b (L : List Nm) (w : Int) (κ : Nat) (h : NmOk L) (hk : κ < 2) : -1 ≤ numL L w κ ∧ numL L w κ < 6 := by
  by_cases q : 0 ≤ numL L w κ
  · obtain ⟨i, h1, h2, h3⟩ := numL_e q
    have := h i h1
    rcases (show κ = 0 ∨ κ = 1 by omega) with e | e
    · subst e; have := this.1 h2; omega
    · subst e; have := this.2 h2; omega
  · unfold numL at q ⊢
    split <;> rename_i z
    · rw [if_pos z] at q; omega
    · omega
section Read
variable {G : Gt} {d : Nat} {M0 N : Mem} {c2 : Nat} {b : Nat → Int} {n p : Nat} {L : List Nm} {T : Tx}
theorem c_adv (hc2 : c2 = 32 ∨ c2 = 43) (h : PS c2 M0 N b n p L T) : V G (d + 1) mX10_advance 0 [some (.ref 3), none] [] N (fun r N2 => r = none ∧ AgS N N2 ∧ PS c2 M0 N2 b n (nx b n p) L T) := by
  obtain ⟨a1, a2, a3, a4, a5, a6, a7, a8, a9⟩ := id h
  refine V.mono (c_advance (b := b) (n := n) (p := nx b n p) a8 a2.1 a9 a2.2.1 (nx_le b a7).2 a2.2.2.1) (fun r N2 hq => ⟨hq.1, hq.2.1, h.adv hc2 hq.2.1 (nx_le b a7).2 hq.2.2⟩)
theorem c_lineEnd (hc2 : c2 = 32 ∨ c2 = 43) (h : PS c2 M0 N b n p L T) : V G (d + 2) mX9_lineEnd 0 [some (.ref 2)] [] N (fun r N2 => onR (rEnd b n p) (fun f => r = some (.int (J 0)) ∧ PF c2 M0 N2 f) (fun p2 => r = some (.int (J 1)) ∧ PS c2 M0 N2 b n p2 L T)) := by
  have h5 := h.2.1.2.2.2.2.1
  have hk := kd_b b n p
  unfold rEnd
  refine v_aload_n (pc := 0) 0 rfl rfl ?_
  refine v_getC (pc := 1) 1 rfl fl_X9_14 rfl 3 rfl ?_
  refine v_getI (pc := 4) 2 rfl fl_X9_42 rfl ?_
  refine v_iconst (pc := 7) 3 rfl ?_
  refine v_ic_eq (pc := 8) 4 17 rfl (by decide) (by omega) (fun e1 => ?_) (fun e1 => ?_)
  · rw [if_pos (by omega)]
    refine v_aload_n (pc := 17) 9 rfl rfl ?_
    refine v_getC (pc := 18) 10 rfl fl_X9_14 rfl 3 rfl ?_
    refine v_cV0 (pc := 21) 11 rfl cv_X9_93 rfl (Nat.le_of_ble_eq_true rfl) (Nat.le_of_ble_eq_true rfl) (c_adv hc2 h) (fun r9 N9 hq9 => ?_)
    obtain ⟨rfl, k1, k2⟩ := hq9
    show V G (d + 2) mX9_lineEnd (21 + 3) _ [] _ _
    refine v_iconst (pc := 24) 12 rfl ?_
    refine v_zret (pc := 25) 13 rfl rfl (by omega) ⟨rfl, k2⟩
  · rw [if_neg (by omega)]
    refine v_aload_n (pc := 11) 5 rfl rfl ?_
    refine v_iconst (pc := 12) 6 rfl ?_
    refine v_cV1i (pc := 13) 7 rfl cv_X9_48 rfl (Nat.le_of_ble_eq_true rfl) (Nat.le_of_ble_eq_true rfl) (c_refuse h.2.1 1) ?_
    refine v_zret (pc := 16) 8 rfl rfl (by omega) ⟨rfl, h.flt hc2 _⟩
theorem c_numberWithin (hc2 : c2 = 32 ∨ c2 = 43) (h : PS c2 M0 N b n p L T) {lo hi : Int} (hl : -1000 ≤ lo ∧ lo ≤ 1000) (hh : -1000 ≤ hi ∧ hi ≤ 1000) : V G (d + 2) mX9_numberWithin 0 [some (.ref 2), some (.int (J lo)), some (.int (J hi)), none] [] N (fun r N2 => onR (rNum b n lo hi p) (fun f => r = some (.int (J (-1))) ∧ PF c2 M0 N2 f) (fun q => r = some (.int (J q.1)) ∧ PS c2 M0 N2 b n q.2 L T)) := by
  have h5 := h.2.1.2.2.2.2.1
  have hk := kd_b b n p
  unfold rNum
  refine v_aload_n (pc := 0) 0 rfl rfl ?_
  refine v_getC (pc := 1) 1 rfl fl_X9_14 rfl 3 rfl ?_
  refine v_getI (pc := 4) 2 rfl fl_X9_42 rfl ?_
  refine v_iconst (pc := 7) 3 rfl ?_
  refine v_ic_eq (pc := 8) 4 17 rfl (by decide) (by omega) (fun e1 => ?_) (fun e1 => ?_)
  · have hk2 : kd b n p = 2 := by omega
    rw [if_neg (fun q => q hk2)]
    have h7 := h.2.1.2.2.2.2.2.2 hk2
    have hv : 0 ≤ vlu b n p ∧ vlu b n p ≤ 999 := by
      unfold vlu
      have hlen : dE b n p - pl b n p ≤ 3 := by
        unfold kd at hk2
        split at hk2
        · omega
        · split at hk2
          · split at hk2 <;> omega
          · split at hk2
            · split at hk2
              · assumption
              · omega
            · split at hk2 <;> omega
      refine valD_b (fun i hi => ?_) hlen
      have := (rn_ge isD b n _ (pl b n p) rfl).2.2.1 (pl b n p + i) (by omega) (by unfold dE at hi; omega)
      exact of_decide_eq_true this.2
    have bad : (vlu b n p < lo ∨ hi < vlu b n p) → V G (d + 2) mX9_numberWithin 35 [some (.ref 2), some (.int (J lo)), some (.int (J hi)), some (.int (J (vlu b n p)))] [] N (fun r N2 => onR (if vlu b n p < lo ∨ hi < vlu b n p then .inl (flt b n p 4) else .inr (vlu b n p, nx b n p)) (fun f => r = some (.int (J (-1))) ∧ PF c2 M0 N2 f) (fun q => r = some (.int (J q.1)) ∧ PS c2 M0 N2 b n q.2 L T)) := by
      intro q
      rw [if_pos q]
      refine v_aload_n (pc := 35) 19 rfl rfl ?_
      refine v_iconst (pc := 36) 20 rfl ?_
      refine v_cV1i (pc := 37) 21 rfl cv_X9_153 rfl (Nat.le_of_ble_eq_true rfl) (Nat.le_of_ble_eq_true rfl) (c_refuseNumber h.2.1 4) ?_
      refine v_iret (pc := 40) 22 rfl rfl ⟨rfl, h.flt hc2 _⟩
    refine v_aload_n (pc := 17) 9 rfl rfl ?_
    refine v_getC (pc := 18) 10 rfl fl_X9_14 rfl 3 rfl ?_
    refine v_getI (pc := 21) 11 rfl fl_X9_160 rfl ?_
    rw [h7]
    refine v_istore_n (pc := 24) 12 rfl ⟨Nat.le_of_ble_eq_true rfl, rfl⟩ ?_
    refine v_iload_n (pc := 25) 13 rfl rfl ?_
    refine v_iload_n (pc := 26) 14 rfl rfl ?_
    refine v_ic_lt (pc := 27) 15 35 rfl (by decide) (by omega) (fun e2 => ?_) (fun e2 => ?_)
    · exact bad (Or.inl e2)
    · refine v_iload_n (pc := 30) 16 rfl rfl ?_
      refine v_iload_n (pc := 31) 17 rfl rfl ?_
      refine v_ic_le (pc := 32) 18 41 rfl (by decide) (by omega) (fun e3 => ?_) (fun e3 => ?_)
      · rw [if_neg (by omega)]
        refine v_aload_n (pc := 41) 23 rfl rfl ?_
        refine v_getC (pc := 42) 24 rfl fl_X9_14 rfl 3 rfl ?_
        refine v_cV0 (pc := 45) 25 rfl cv_X9_93 rfl (Nat.le_of_ble_eq_true rfl) (Nat.le_of_ble_eq_true rfl) (c_adv hc2 h) (fun r9 N9 hq9 => ?_)
        obtain ⟨rfl, k1, k2⟩ := hq9
        show V G (d + 2) mX9_numberWithin (45 + 3) _ [] _ _
        refine v_iload_n (pc := 48) 26 rfl rfl ?_
        refine v_iret (pc := 49) 27 rfl rfl ⟨rfl, k2⟩
      · exact bad (Or.inr (by omega))
  · rw [if_pos (by omega)]
    refine v_aload_n (pc := 11) 5 rfl rfl ?_
    refine v_iconst (pc := 12) 6 rfl ?_
    refine v_cV1i (pc := 13) 7 rfl cv_X9_153 rfl (Nat.le_of_ble_eq_true rfl) (Nat.le_of_ble_eq_true rfl) (c_refuseNumber h.2.1 1) ?_
    refine v_iret (pc := 16) 8 rfl rfl ⟨rfl, h.flt hc2 _⟩
theorem c_unlikeSort (hc2 : c2 = 32 ∨ c2 = 43) (h : PS c2 M0 N b n p L T) {u : Int} (hu : 0 ≤ u ∧ u < 16) : V G (d + 2) mX9_unlikeSort 0 [some (.ref 2), some (.int (J u)), none] [] N (fun r N2 => onR (rSort b n u p) (fun f => r = some (.int (J (-1))) ∧ PF c2 M0 N2 f) (fun q => r = some (.int (J q.1)) ∧ PS c2 M0 N2 b n q.2 L T)) := by
  have hs := srt_b b n p
  unfold rSort
  refine v_aload_n (pc := 0) 0 rfl rfl ?_
  refine v_cV0i (pc := 1) 1 rfl cv_X9_163 rfl (Nat.le_of_ble_eq_true rfl) (Nat.le_of_ble_eq_true rfl) (c_sortHere h.2.1) ?_
  refine v_istore_n (pc := 4) 2 rfl ⟨Nat.le_of_ble_eq_true rfl, rfl⟩ ?_
  refine v_iload_n (pc := 5) 3 rfl rfl ?_
  refine v_if_ge (pc := 6) 4 15 rfl (by decide) (by omega) (fun e1 => ?_) (fun e1 => ?_)
  · rw [if_neg (by omega)]
    have hz := bt_01 u (srt b n p)
    refine v_iload_n (pc := 15) 9 rfl rfl ?_
    refine v_iload_n (pc := 16) 10 rfl rfl ?_
    refine v_ishr (pc := 17) 11 rfl (u / 2 ^ (srt b n p).toNat) (J_shr (by omega)) ?_
    refine v_iconst (pc := 18) 12 rfl ?_
    refine v_iand (pc := 19) 13 rfl (bt u (srt b n p)) (J_bt (by omega)) ?_
    refine v_if_eq (pc := 20) 14 29 rfl (by decide) (by omega) (fun e2 => ?_) (fun e2 => ?_)
    · rw [if_neg (fun q => q e2)]
      refine v_aload_n (pc := 29) 19 rfl rfl ?_
      refine v_getC (pc := 30) 20 rfl fl_X9_14 rfl 3 rfl ?_
      refine v_cV0 (pc := 33) 21 rfl cv_X9_93 rfl (Nat.le_of_ble_eq_true rfl) (Nat.le_of_ble_eq_true rfl) (c_adv hc2 h) (fun r9 N9 hq9 => ?_)
      obtain ⟨rfl, k1, k2⟩ := hq9
      show V G (d + 2) mX9_unlikeSort (33 + 3) _ [] _ _
      refine v_iload_n (pc := 36) 22 rfl rfl ?_
      refine v_iret (pc := 37) 23 rfl rfl ⟨rfl, k2⟩
    · rw [if_pos e2]
      refine v_aload_n (pc := 23) 15 rfl rfl ?_
      refine v_iconst (pc := 24) 16 rfl ?_
      refine v_cV1i (pc := 25) 17 rfl cv_X9_153 rfl (Nat.le_of_ble_eq_true rfl) (Nat.le_of_ble_eq_true rfl) (c_refuseNumber h.2.1 2) ?_
      refine v_iret (pc := 28) 18 rfl rfl ⟨rfl, h.flt hc2 _⟩
  · rw [if_pos (by omega)]
    refine v_aload_n (pc := 9) 5 rfl rfl ?_
    refine v_iconst (pc := 10) 6 rfl ?_
    refine v_cV1i (pc := 11) 7 rfl cv_X9_153 rfl (Nat.le_of_ble_eq_true rfl) (Nat.le_of_ble_eq_true rfl) (c_refuseNumber h.2.1 1) ?_
    refine v_iret (pc := 14) 8 rfl rfl ⟨rfl, h.flt hc2 _⟩
theorem c_toldName (hc2 : c2 = 32 ∨ c2 = 43) (h : PS c2 M0 N b n p L T) {κ : Nat} (hκ : κ < 2) {u : Int} (hu : 0 ≤ u ∧ u < 64) : V G (d + 2) mX9_toldName 0 [some (.ref 2), some (.int (J (κ : Int))), some (.int (J u)), none] [] N (fun r N2 => onR (rTold b n L κ u p) (fun f => r = some (.int (J (-1))) ∧ PF c2 M0 N2 f) (fun q => r = some (.int (J q.1)) ∧ PS c2 M0 N2 b n q.2 L T)) := by
  have h9 := b2i_r (isNm b n p)
  unfold rTold
  refine v_aload_n (pc := 0) 0 rfl rfl ?_
  refine v_cV0i (pc := 1) 1 rfl cv_X9_139 rfl (Nat.le_of_ble_eq_true rfl) (Nat.le_of_ble_eq_true rfl) (c_atName h.2.1) ?_
  refine v_if_ne (pc := 4) 2 13 rfl (by decide) (by omega) (fun e1 => ?_) (fun e1 => ?_)
  · have hN : isNm b n p = true := by
      cases q : isNm b n p with
      | true => rfl
      | false => rw [q] at e1; exact absurd rfl e1
    have hk1 : kd b n p = 1 := (of_decide_eq_true hN).1
    have h6 : gL N 3 5 = JL (wv b n p) := h.2.1.2.2.2.2.2.1 hk1
    have hw := wv_b hk1
    have hnb := numL_b L (wv b n p) κ h.2.2.2.2.2.1 hκ
    rw [if_neg (by rw [hN]; decide)]
    refine v_aload_n (pc := 13) 7 rfl rfl ?_
    refine v_getC (pc := 14) 8 rfl fl_X9_23 rfl 4 rfl ?_
    refine v_aload_n (pc := 17) 9 rfl rfl ?_
    refine v_getC (pc := 18) 10 rfl fl_X9_14 rfl 3 rfl ?_
    refine v_getL (pc := 21) 11 rfl fl_X9_142 rfl ?_
    rw [h6]
    refine v_iload_n (pc := 24) 12 rfl rfl ?_
    refine v_cV2i (pc := 25) 13 rfl cv_X9_156 rfl (Nat.le_of_ble_eq_true rfl) (Nat.le_of_ble_eq_true rfl) (c_namesNumber h.2.2.1 hw (by omega)) ?_
    refine v_istore_n (pc := 28) 14 rfl ⟨Nat.le_of_ble_eq_true rfl, rfl⟩ ?_
    refine v_iload_n (pc := 29) 15 rfl rfl ?_
    refine v_if_ge (pc := 30) 16 39 rfl (by decide) (by omega) (fun e2 => ?_) (fun e2 => ?_)
    · rw [if_neg (by omega)]
      have hz := bt_01 u (numL L (wv b n p) κ)
      refine v_iload_n (pc := 39) 21 rfl rfl ?_
      refine v_iload_n (pc := 40) 22 rfl rfl ?_
      refine v_ishr (pc := 41) 23 rfl (u / 2 ^ (numL L (wv b n p) κ).toNat) (J_shr (by omega)) ?_
      refine v_iconst (pc := 42) 24 rfl ?_
      refine v_iand (pc := 43) 25 rfl (bt u (numL L (wv b n p) κ)) (J_bt (by omega)) ?_
      refine v_if_eq (pc := 44) 26 53 rfl (by decide) (by omega) (fun e3 => ?_) (fun e3 => ?_)
      · rw [if_neg (fun q => q e3)]
        refine v_aload_n (pc := 53) 31 rfl rfl ?_
        refine v_getC (pc := 54) 32 rfl fl_X9_14 rfl 3 rfl ?_
        refine v_cV0 (pc := 57) 33 rfl cv_X9_93 rfl (Nat.le_of_ble_eq_true rfl) (Nat.le_of_ble_eq_true rfl) (c_adv hc2 h) (fun r9 N9 hq9 => ?_)
        obtain ⟨rfl, k1, k2⟩ := hq9
        show V G (d + 2) mX9_toldName (57 + 3) _ [] _ _
        refine v_iload_n (pc := 60) 34 rfl rfl ?_
        refine v_iret (pc := 61) 35 rfl rfl ⟨rfl, k2⟩
      · rw [if_pos e3]
        refine v_aload_n (pc := 47) 27 rfl rfl ?_
        refine v_iconst (pc := 48) 28 rfl ?_
        refine v_cV1i (pc := 49) 29 rfl cv_X9_153 rfl (Nat.le_of_ble_eq_true rfl) (Nat.le_of_ble_eq_true rfl) (c_refuseNumber h.2.1 2) ?_
        refine v_iret (pc := 52) 30 rfl rfl ⟨rfl, h.flt hc2 _⟩
    · rw [if_pos (by omega)]
      refine v_aload_n (pc := 33) 17 rfl rfl ?_
      refine v_iconst (pc := 34) 18 rfl ?_
      refine v_cV1i (pc := 35) 19 rfl cv_X9_153 rfl (Nat.le_of_ble_eq_true rfl) (Nat.le_of_ble_eq_true rfl) (c_refuseNumber h.2.1 3) ?_
      refine v_iret (pc := 38) 20 rfl rfl ⟨rfl, h.flt hc2 _⟩
  · have hN : isNm b n p = false := by
      cases q : isNm b n p with
      | false => rfl
      | true => rw [q] at e1; exact absurd (by decide) e1
    rw [if_pos hN]
    refine v_aload_n (pc := 7) 3 rfl rfl ?_
    refine v_iconst (pc := 8) 4 rfl ?_
    refine v_cV1i (pc := 9) 5 rfl cv_X9_153 rfl (Nat.le_of_ble_eq_true rfl) (Nat.le_of_ble_eq_true rfl) (c_refuseNumber h.2.1 1) ?_
    refine v_iret (pc := 12) 6 rfl rfl ⟨rfl, h.flt hc2 _⟩
theorem c_newName (hc2 : c2 = 32 ∨ c2 = 43) (h : PS c2 M0 N b n p L T) (hL : L.length < 23) {κ j : Nat} (hκ : κ < 3) (hj : j < 12) (hj2 : (κ = 0 → j < 5) ∧ (κ = 1 → j < 6)) : V G (d + 2) mX9_newName 0 [some (.ref 2), some (.int (J (κ : Int))), some (.int (J (j : Int)))] [] N (fun r N2 => onR (rNew b n L κ j p) (fun f => r = some (.int (J 0)) ∧ PF c2 M0 N2 f) (fun q => r = some (.int (J 1)) ∧ PS c2 M0 N2 b n q.2 q.1 T)) := by
  have h9 := b2i_r (isNm b n p)
  unfold rNew
  refine v_aload_n (pc := 0) 0 rfl rfl ?_
  refine v_cV0i (pc := 1) 1 rfl cv_X9_139 rfl (Nat.le_of_ble_eq_true rfl) (Nat.le_of_ble_eq_true rfl) (c_atName h.2.1) ?_
  refine v_if_ne (pc := 4) 2 13 rfl (by decide) (by omega) (fun e1 => ?_) (fun e1 => ?_)
  · have hN : isNm b n p = true := by
      cases q : isNm b n p with
      | true => rfl
      | false => rw [q] at e1; exact absurd rfl e1
    have hk1 : kd b n p = 1 := (of_decide_eq_true hN).1
    have h6 : gL N 3 5 = JL (wv b n p) := h.2.1.2.2.2.2.2.1 hk1
    have hw := wv_b hk1
    have h8 := b2i_r (hasL L (wv b n p))
    rw [if_neg (by rw [hN]; decide)]
    refine v_aload_n (pc := 13) 7 rfl rfl ?_
    refine v_getC (pc := 14) 8 rfl fl_X9_23 rfl 4 rfl ?_
    refine v_aload_n (pc := 17) 9 rfl rfl ?_
    refine v_getC (pc := 18) 10 rfl fl_X9_14 rfl 3 rfl ?_
    refine v_getL (pc := 21) 11 rfl fl_X9_142 rfl ?_
    rw [h6]
    refine v_cV1i (pc := 24) 12 rfl cv_X9_146 rfl (Nat.le_of_ble_eq_true rfl) (Nat.le_of_ble_eq_true rfl) (c_namesHas h.2.2.1 hw) ?_
    refine v_if_eq (pc := 27) 13 36 rfl (by decide) (by omega) (fun e2 => ?_) (fun e2 => ?_)
    · rw [if_neg (by intro q; rw [q] at e2; cases e2)]
      refine v_aload_n (pc := 36) 18 rfl rfl ?_
      refine v_getC (pc := 37) 19 rfl fl_X9_23 rfl 4 rfl ?_
      refine v_aload_n (pc := 40) 20 rfl rfl ?_
      refine v_getC (pc := 41) 21 rfl fl_X9_14 rfl 3 rfl ?_
      refine v_getL (pc := 44) 22 rfl fl_X9_142 rfl ?_
      rw [h6]
      refine v_iload_n (pc := 47) 23 rfl rfl ?_
      refine v_iload_n (pc := 48) 24 rfl rfl ?_
      refine v_cV3v (pc := 49) 25 rfl cv_X9_149 rfl (Nat.le_of_ble_eq_true rfl) (Nat.le_of_ble_eq_true rfl) (c_namesAdd h.2.2.1 hL) ?_
      have hb : PS c2 M0 (sI (sI (sI (sL N 5 L.length (JL (wv b n p))) 6 L.length (κ : Int)) 7 L.length (j : Int)) 4 3 ((L.length : Int) + 1)) b n p (L ++ [(wv b n p, κ, j)]) T := by
        obtain ⟨a1, a2, a3, a4, a5, a6, a7, a8, a9⟩ := id h
        have hne : ∀ q, q ≠ 4 → q ≠ 6 → q ≠ 7 → gI (sI (sI (sI (sL N 5 L.length (JL (wv b n p))) 6 L.length (κ : Int)) 7 L.length (j : Int)) 4 3 ((L.length : Int) + 1)) q = gI N q := fun q q1 q2 q3 => by rw [gI_sI_ne q1, gI_sI_ne q3, gI_sI_ne q2]; rfl
        have hnl : ∀ q, q ≠ 5 → gL (sI (sI (sI (sL N 5 L.length (JL (wv b n p))) 6 L.length (κ : Int)) 7 L.length (j : Int)) 4 3 ((L.length : Int) + 1)) q = gL N q := fun q q1 => gL_sL_ne q1
        refine ⟨⟨fun q q1 q2 q3 q4 q5 q6 => by rw [hne q q3 q4 q5]; exact a1.1 q q1 q2 q3 q4 q5 q6, fun q q1 q2 => by rw [hnl q q2]; exact a1.2.1 q q1 q2, a1.2.2⟩, ?_, a3.add hL hw hκ hj, ?_, ?_, ?_, a7, a8, a9⟩
        · unfold AtC
          rw [hne 1 (by decide) (by decide) (by decide), hne 3 (by decide) (by decide) (by decide), hnl 3 (by decide)]
          exact a2
        · rw [← a4]; exact tOf_eq (fun q hq => hne _ (by rcases hc2 with e | e <;> omega) (by rcases hc2 with e | e <;> omega) (by rcases hc2 with e | e <;> omega))
        · rw [hne c2 (by rcases hc2 with e | e <;> omega) (by rcases hc2 with e | e <;> omega) (by rcases hc2 with e | e <;> omega)]; exact a5
        · intro i hi
          rw [List.length_append] at hi
          have hi : i < L.length + 1 := hi
          rw [getD_app]
          by_cases e : i = L.length
          · rw [if_pos e]; exact hj2
          · rw [if_neg e]; exact a6 i (by omega)
      refine v_aload_n (pc := 52) 26 rfl rfl ?_
      refine v_getC (pc := 53) 27 rfl fl_X9_14 rfl 3 rfl ?_
      refine v_cV0 (pc := 56) 28 rfl cv_X9_93 rfl (Nat.le_of_ble_eq_true rfl) (Nat.le_of_ble_eq_true rfl) (c_adv hc2 hb) (fun r9 N9 hq9 => ?_)
      obtain ⟨rfl, k1, k2⟩ := hq9
      show V G (d + 2) mX9_newName (56 + 3) _ [] _ _
      refine v_iconst (pc := 59) 29 rfl ?_
      refine v_zret (pc := 60) 30 rfl rfl (by omega) ⟨rfl, k2⟩
    · rw [if_pos (by cases q : hasL L (wv b n p) with | true => rfl | false => rw [q] at e2; exact absurd rfl e2)]
      refine v_aload_n (pc := 30) 14 rfl rfl ?_
      refine v_iconst (pc := 31) 15 rfl ?_
      refine v_cV1i (pc := 32) 16 rfl cv_X9_48 rfl (Nat.le_of_ble_eq_true rfl) (Nat.le_of_ble_eq_true rfl) (c_refuse h.2.1 2) ?_
      refine v_zret (pc := 35) 17 rfl rfl (by omega) ⟨rfl, h.flt hc2 _⟩
  · have hN : isNm b n p = false := by
      cases q : isNm b n p with
      | false => rfl
      | true => rw [q] at e1; exact absurd (by decide) e1
    rw [if_pos hN]
    refine v_aload_n (pc := 7) 3 rfl rfl ?_
    refine v_iconst (pc := 8) 4 rfl ?_
    refine v_cV1i (pc := 9) 5 rfl cv_X9_48 rfl (Nat.le_of_ble_eq_true rfl) (Nat.le_of_ble_eq_true rfl) (c_refuse h.2.1 1) ?_
    refine v_zret (pc := 12) 6 rfl rfl (by omega) ⟨rfl, h.flt hc2 _⟩
/-- how many bits are set -/
def pcn (u : Int) : Int := bt u 0 + bt u 1 + bt u 2 + bt u 3 + bt u 4 + bt u 5
theorem pcn64 : ∀ u : Fin 64, ∀ s : Fin 6, bt ((u : Nat) : Int) (s : Nat) = 0 → pcn (setb ((u : Nat) : Int) (s : Nat)) = pcn ((u : Nat) : Int) + 1 := by decide +kernel
theorem pcn16 : ∀ u : Fin 16, ∀ s : Fin 4, pcn ((u : Nat) : Int) ≤ 4 ∧ 0 ≤ setb ((u : Nat) : Int) (s : Nat) ∧ setb ((u : Nat) : Int) (s : Nat) < 16 := by decide +kernel
theorem pcn_s {u : Int} (hu : 0 ≤ u ∧ u < 64) {s : Nat} (hs : s < 6) (h : bt u s = 0) : pcn (setb u s) = pcn u + 1 := by
  have h1 := pcn64 ⟨u.toNat, by omega⟩ ⟨s, hs⟩
  have e1 : ((u.toNat : Nat) : Int) = u := by omega
  simp only [e1] at h1
  exact h1 h
theorem setb16 {u : Int} (hu : 0 ≤ u ∧ u < 16) {s : Nat} (hs : s < 4) : pcn u ≤ 4 ∧ 0 ≤ setb u s ∧ setb u s < 16 := by
  have h1 := pcn16 ⟨u.toNat, by omega⟩ ⟨s, hs⟩
  have e1 : ((u.toNat : Nat) : Int) = u := by omega
  simp only [e1] at h1
  exact h1
theorem pcn_6 (u : Int) : pcn u ≤ 6 := by
  have h0 := bt_01 u 0
  have h1 := bt_01 u 1
  have h2 := bt_01 u 2
  have h3 := bt_01 u 3
  have h4 := bt_01 u 4
  have h5 := bt_01 u 5
  unfold pcn
  omega
theorem c_unlikeSorts (hc2 : c2 = 32 ∨ c2 = 43) (h : PS c2 M0 N b n p L T) : V G (d + 3) mX9_unlikeSorts 0 [some (.ref 2), none, none, none] [] N (fun r N2 => onR (rSorts b n 5 0 p) (fun f => r = some (.int (J (-1))) ∧ PF c2 M0 N2 f) (fun q => r = some (.int (J q.1)) ∧ (0 ≤ q.1 ∧ q.1 < 16) ∧ PS c2 M0 N2 b n q.2 L T)) := by
  refine v_iconst (pc := 0) 0 rfl ?_
  refine v_istore_n (pc := 1) 1 rfl ⟨Nat.le_of_ble_eq_true rfl, rfl⟩ ?_
  refine v_iconst (pc := 2) 2 rfl ?_
  refine v_istore_n (pc := 3) 3 rfl ⟨Nat.le_of_ble_eq_true rfl, rfl⟩ ?_
  have loop : ∀ (f s : Nat), s + f = 5 → ∀ u : Int, (0 ≤ u ∧ u < 16) → pcn u = (s : Int) → ∀ (v : Option Value) (p : Nat) (N : Mem), PS c2 M0 N b n p L T → V G (d + 3) mX9_unlikeSorts 4 [some (.ref 2), some (.int (J u)), some (.int (J (s : Int))), v] [] N (fun r N2 => onR (rSorts b n f u p) (fun f => r = some (.int (J (-1))) ∧ PF c2 M0 N2 f) (fun q => r = some (.int (J q.1)) ∧ (0 ≤ q.1 ∧ q.1 < 16) ∧ PS c2 M0 N2 b n q.2 L T)) := by
    intro f
    induction f with
    | zero =>
      intro s hs u hu hp v p N hP
      have := (setb16 hu (s := 0) (by decide)).1
      omega
    | succ f ih =>
      intro s hs u hu hp v p N hP
      have eS : rSorts b n (f + 1) u p = pbd (rSort b n u p) (fun q => if kd b n q.2 = 1 then rSorts b n f (setb u q.1.toNat) q.2 else .inr (setb u q.1.toNat, q.2)) := rfl
      rw [eS]
      refine v_iload_n (pc := 4) 4 rfl rfl ?_
      refine v_iconst (pc := 5) 5 rfl ?_
      refine v_ic_gtF (pc := 6) 6 47 rfl (by decide) (by omega) (by omega) ?_
      refine v_aload_n (pc := 9) 7 rfl rfl ?_
      refine v_iload_n (pc := 10) 8 rfl rfl ?_
      refine v_cV1 (pc := 11) 9 rfl cv_X9_128 rfl (Nat.le_of_ble_eq_true rfl) (Nat.le_of_ble_eq_true rfl) (c_unlikeSort hc2 hP hu) (fun r9 N9 hq9 => ?_)
      cases hR : rSort b n u p with
      | inl e =>
        rw [hR] at hq9
        obtain ⟨rfl, hF⟩ := hq9
        show V G (d + 3) mX9_unlikeSorts (11 + 3) _ [.int (J (-1))] _ _
        refine v_istore_n (pc := 14) 10 rfl ⟨Nat.le_of_ble_eq_true rfl, rfl⟩ ?_
        refine v_iload_n (pc := 15) 11 rfl rfl ?_
        refine v_if_geF (pc := 16) 12 21 rfl (by decide) (by omega) (by decide) ?_
        refine v_iconst (pc := 19) 13 rfl ?_
        refine v_iret (pc := 20) 14 rfl rfl ⟨rfl, hF⟩
      | inr q =>
        rw [hR] at hq9
        obtain ⟨rfl, hP2⟩ := hq9
        have hq : (0 ≤ q.1 ∧ q.1 < 4) ∧ bt u q.1 = 0 := by
          have hs4 := srt_b b n p
          unfold rSort at hR
          split at hR
          · cases hR
          · split at hR
            · cases hR
            · next z1 z2 =>
              cases hR
              exact ⟨⟨by omega, hs4.2⟩, Decidable.not_not.mp z2⟩
        obtain ⟨k, hk⟩ : ∃ k : Nat, q.1 = (k : Int) := ⟨q.1.toNat, by omega⟩
        have hs16 := setb16 hu (s := k) (by omega)
        have hpc := pcn_s (u := u) (by omega) (s := k) (by omega) (by rw [← hk]; exact hq.2)
        show V G (d + 3) mX9_unlikeSorts (11 + 3) _ [.int (J q.1)] _ _
        show V G (d + 3) mX9_unlikeSorts 14 _ [.int (J q.1)] _ (fun r N2 => onR (if kd b n q.2 = 1 then rSorts b n f (setb u q.1.toNat) q.2 else .inr (setb u q.1.toNat, q.2)) _ _)
        rw [hk, Int.toNat_natCast]
        have h5 := hP2.2.1.2.2.2.2.1
        have hkd := kd_b b n q.2
        refine v_istore_n (pc := 14) 10 rfl ⟨Nat.le_of_ble_eq_true rfl, rfl⟩ ?_
        refine v_iload_n (pc := 15) 11 rfl rfl ?_
        refine v_if_geT (pc := 16) 12 21 rfl (by decide) (by omega) (by omega) ?_
        refine v_iload_n (pc := 21) 15 rfl rfl ?_
        refine v_iconst (pc := 22) 16 rfl ?_
        refine v_iload_n (pc := 23) 17 rfl rfl ?_
        refine v_ishl (pc := 24) 18 rfl (((2 ^ k : Nat) : Int)) (J_shl1 (by omega)) ?_
        refine v_ior (pc := 25) 19 rfl (setb u k) (J_or64 (by omega) (by omega)) ?_
        refine v_istore_n (pc := 26) 20 rfl ⟨Nat.le_of_ble_eq_true rfl, rfl⟩ ?_
        refine v_aload_n (pc := 27) 21 rfl rfl ?_
        refine v_getC (pc := 28) 22 rfl fl_X9_14 rfl 3 rfl ?_
        refine v_getI (pc := 31) 23 rfl fl_X9_42 rfl ?_
        refine v_iconst (pc := 34) 24 rfl ?_
        refine v_ic_eq (pc := 35) 25 41 rfl (by decide) (by omega) (fun e1 => ?_) (fun e1 => ?_)
        · rw [if_pos (by omega)]
          refine v_iinc (pc := 41) 27 rfl rfl ⟨Nat.le_of_ble_eq_true rfl, rfl⟩ ?_
          refine v_goto (pc := 44) 28 4 rfl (by decide) ?_
          exact ih (s + 1) (by omega) (setb u k) hs16.2 (by omega) _ _ _ hP2
        · rw [if_neg (by omega)]
          refine v_goto (pc := 38) 26 47 rfl (by decide) ?_
          refine v_iload_n (pc := 47) 29 rfl rfl ?_
          refine v_iret (pc := 48) 30 rfl rfl ⟨rfl, hs16.2, hP2⟩
  exact loop 5 0 (by omega) 0 (by omega) (by decide) none p N h
theorem c_barredJudges (hc2 : c2 = 32 ∨ c2 = 43) (h : PS c2 M0 N b n p L T) : V G (d + 3) mX9_barredJudges 0 [some (.ref 2), none, none, none] [] N (fun r N2 => onR (rBars b n L 7 0 p) (fun f => r = some (.int (J (-1))) ∧ PF c2 M0 N2 f) (fun q => r = some (.int (J q.1)) ∧ (0 ≤ q.1 ∧ q.1 < 64) ∧ PS c2 M0 N2 b n q.2 L T)) := by
  refine v_iconst (pc := 0) 0 rfl ?_
  refine v_istore_n (pc := 1) 1 rfl ⟨Nat.le_of_ble_eq_true rfl, rfl⟩ ?_
  refine v_iconst (pc := 2) 2 rfl ?_
  refine v_istore_n (pc := 3) 3 rfl ⟨Nat.le_of_ble_eq_true rfl, rfl⟩ ?_
  have loop : ∀ (f s : Nat), s + f = 7 → ∀ u : Int, (0 ≤ u ∧ u < 64) → pcn u = (s : Int) → ∀ (v : Option Value) (p : Nat) (N : Mem), PS c2 M0 N b n p L T → V G (d + 3) mX9_barredJudges 4 [some (.ref 2), some (.int (J u)), some (.int (J (s : Int))), v] [] N (fun r N2 => onR (rBars b n L f u p) (fun f => r = some (.int (J (-1))) ∧ PF c2 M0 N2 f) (fun q => r = some (.int (J q.1)) ∧ (0 ≤ q.1 ∧ q.1 < 64) ∧ PS c2 M0 N2 b n q.2 L T)) := by
    intro f
    induction f with
    | zero =>
      intro s hs u hu hp v p N hP
      have := pcn_6 u
      omega
    | succ f ih =>
      intro s hs u hu hp v p N hP
      have eS : rBars b n L (f + 1) u p = if isW b n p 1650553459 = true then pbd (rTold b n L 1 u (nx b n p)) (fun q => rBars b n L f (setb u q.1.toNat) q.2) else .inr (u, p) := rfl
      rw [eS]
      have h9 := b2i_r (isW b n p 1650553459)
      refine v_iload_n (pc := 4) 4 rfl rfl ?_
      refine v_bipush (pc := 5) 5 rfl (by decide) ?_
      refine v_ic_gtF (pc := 7) 6 55 rfl (by decide) (by omega) (by omega) ?_
      refine v_aload_n (pc := 10) 7 rfl rfl ?_
      refine v_getC (pc := 11) 8 rfl fl_X9_14 rfl 3 rfl ?_
      refine v_ldc2J (pc := 14) 9 rfl kcLong_X9_166 (1650553459) (by decide) ?_
      refine v_cV1i (pc := 17) 10 rfl cv_X9_54 rfl (Nat.le_of_ble_eq_true rfl) (Nat.le_of_ble_eq_true rfl) (c_isWord hP.2.1 (by omega)) ?_
      refine v_if_eq (pc := 20) 11 55 rfl (by decide) (by omega) (fun e1 => ?_) (fun e1 => ?_)
      · rw [if_neg (by intro q; rw [q] at e1; cases e1)]
        refine v_iload_n (pc := 55) 32 rfl rfl ?_
        refine v_iret (pc := 56) 33 rfl rfl ⟨rfl, hu, hP⟩
      · rw [if_pos (by cases q : isW b n p 1650553459 with | true => rfl | false => rw [q] at e1; exact absurd rfl e1)]
        refine v_aload_n (pc := 23) 12 rfl rfl ?_
        refine v_getC (pc := 24) 13 rfl fl_X9_14 rfl 3 rfl ?_
        refine v_cV0 (pc := 27) 14 rfl cv_X9_93 rfl (Nat.le_of_ble_eq_true rfl) (Nat.le_of_ble_eq_true rfl) (c_adv hc2 hP) (fun r9 N9 hq9 => ?_)
        obtain ⟨rfl, k1, hP1⟩ := hq9
        show V G (d + 3) mX9_barredJudges (27 + 3) _ [] _ _
        refine v_aload_n (pc := 30) 15 rfl rfl ?_
        refine v_iconst (pc := 31) 16 rfl ?_
        refine v_iload_n (pc := 32) 17 rfl rfl ?_
        refine v_cV2 (pc := 33) 18 rfl cv_X9_106 rfl (Nat.le_of_ble_eq_true rfl) (Nat.le_of_ble_eq_true rfl) (c_toldName (κ := 1) hc2 hP1 (by decide) hu) (fun r9 N9 hq9 => ?_)
        cases hR : rTold b n L 1 u (nx b n p) with
        | inl e =>
          rw [hR] at hq9
          obtain ⟨rfl, hF⟩ := hq9
          show V G (d + 3) mX9_barredJudges (33 + 3) _ [.int (J (-1))] _ _
          refine v_istore_n (pc := 36) 19 rfl ⟨Nat.le_of_ble_eq_true rfl, rfl⟩ ?_
          refine v_iload_n (pc := 37) 20 rfl rfl ?_
          refine v_if_geF (pc := 38) 21 43 rfl (by decide) (by omega) (by decide) ?_
          refine v_iconst (pc := 41) 22 rfl ?_
          refine v_iret (pc := 42) 23 rfl rfl ⟨rfl, hF⟩
        | inr q =>
          rw [hR] at hq9
          obtain ⟨rfl, hP2⟩ := hq9
          have hq : (0 ≤ q.1 ∧ q.1 < 6) ∧ bt u q.1 = 0 := by
            have hs4 := numL_b L (wv b n (nx b n p)) 1 hP.2.2.2.2.2.1 (by decide)
            unfold rTold at hR
            split at hR
            · cases hR
            · split at hR
              · cases hR
              · split at hR
                · cases hR
                · next z0 z1 z2 =>
                  cases hR
                  exact ⟨⟨by omega, hs4.2⟩, Decidable.not_not.mp z2⟩
          obtain ⟨k, hk⟩ : ∃ k : Nat, q.1 = (k : Int) := ⟨q.1.toNat, by omega⟩
          have hs16 := setb_b hu (b := k) (by omega)
          have hpc := pcn_s hu (s := k) (by omega) (by rw [← hk]; exact hq.2)
          show V G (d + 3) mX9_barredJudges (33 + 3) _ [.int (J q.1)] _ (fun r N2 => onR (rBars b n L f (setb u q.1.toNat) q.2) _ _)
          rw [hk, Int.toNat_natCast]
          refine v_istore_n (pc := 36) 19 rfl ⟨Nat.le_of_ble_eq_true rfl, rfl⟩ ?_
          refine v_iload_n (pc := 37) 20 rfl rfl ?_
          refine v_if_geT (pc := 38) 21 43 rfl (by decide) (by omega) (by omega) ?_
          refine v_iload_n (pc := 43) 24 rfl rfl ?_
          refine v_iconst (pc := 44) 25 rfl ?_
          refine v_iload_n (pc := 45) 26 rfl rfl ?_
          refine v_ishl (pc := 46) 27 rfl (((2 ^ k : Nat) : Int)) (J_shl1 (by omega)) ?_
          refine v_ior (pc := 47) 28 rfl (setb u k) (J_or64 (by omega) (by omega)) ?_
          refine v_istore_n (pc := 48) 29 rfl ⟨Nat.le_of_ble_eq_true rfl, rfl⟩ ?_
          refine v_iinc (pc := 49) 30 rfl rfl ⟨Nat.le_of_ble_eq_true rfl, rfl⟩ ?_
          refine v_goto (pc := 52) 31 4 rfl (by decide) ?_
          exact ih (s + 1) (by omega) (setb u k) hs16 (by omega) _ _ _ hP2
  exact loop 7 0 (by omega) 0 (by omega) (by decide) none p N h
end Read
