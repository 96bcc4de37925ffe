/-! 63: the reference: what a line tells; names -/
def off (κ : Nat) : Nat := if κ = 0 then 5 else if κ = 1 then 6 else 12
def cnt (T : Tx) (κ : Nat) : Nat := if κ = 0 then nT T else if κ = 1 then nJ T else nK T
/-- names: each once, each a word, each number told -/
def NV (L : List Nm) (T : Tx) : Prop := (∀ i, i < L.length → (L.getD i (0, 0, 0)).2.1 < 3 ∧ vd 7 (L.getD i (0, 0, 0)).1 = true ∧ (L.getD i (0, 0, 0)).2.2 < cnt T (L.getD i (0, 0, 0)).2.1) ∧
  (∀ i j, i < L.length → j < L.length → i ≠ j → (L.getD i (0, 0, 0)).1 ≠ (L.getD j (0, 0, 0)).1) ∧
  (∀ κ, κ < 3 → ∀ k, k < cnt T κ → ∃ i, i < L.length ∧ (L.getD i (0, 0, 0)).2 = (κ, k))
/-- the reference's rows of names -/
def NR (N : Mem) (L : List Nm) : Prop := ∀ i, i < L.length → gL N (59 + (L.getD i (0, 0, 0)).2.1) (off (L.getD i (0, 0, 0)).2.1 + (L.getD i (0, 0, 0)).2.2) = JL (e5 (L.getD i (0, 0, 0)).1)
/-- what is told so far, on the second bench -/
def TR (N : Mem) (T : Tx) : Prop := (gI N 56 1 = (nT T : Int) ∧ gI N 57 1 = (nJ T : Int) ∧ gI N 58 1 = (nK T : Int)) ∧
  (∀ a b, a < 5 → b < 5 → a ≠ b → gI N 62 (25 + (5 * a + b)) = T.2 1 (a * 5 + b)) ∧
  (∀ j, j < nJ T → gI N 63 (6 + j) = hm T j ∧ gI N 64 (6 + j) = da T j ∧ gI N 65 (6 + j) = ss T j ∧ gI N 66 (6 + j) = qu T j) ∧
  (∀ k, k < nK T → gI N 67 (12 + k) = tw T k ∧ gI N 68 (12 + k) = so T k ∧ gI N 69 (12 + k) = fi T k ∧ gI N 70 (12 + k) = le T k ∧ gI N 71 (12 + k) = ba T k)
/-- what a reading leaves as it was -/
def FRM (M N : Mem) : Prop := (∀ q, q < 54 ∨ q = 55 ∨ 72 ≤ q → gI N q = gI M q) ∧ (gI N 56 0 = gI M 56 0 ∧ gI N 57 0 = gI M 57 0 ∧ gI N 58 0 = gI M 58 0) ∧
  (∀ q, 63 ≤ q ∧ q ≤ 66 → ∀ i, i < 6 → gI N q i = gI M q i) ∧ (∀ q, 67 ≤ q ∧ q ≤ 71 → ∀ i, i < 12 → gI N q i = gI M q i) ∧
  (∀ f, f = 0 ∨ f = 2 ∨ f = 3 ∨ f = 12 ∨ f = 33 → gI N 54 f = gI M 54 f) ∧ (∀ q, q < 54 → gL N q = gL M q) ∧ gR N = gR M
theorem FRM.rfl9 (M : Mem) : FRM M M := ⟨fun _ _ => rfl, ⟨rfl, rfl, rfl⟩, fun _ _ _ _ => rfl, fun _ _ _ _ => rfl, fun _ _ => rfl, fun _ _ => rfl, rfl⟩
theorem FRM.trans {M N P : Mem} (h1 : FRM M N) (h2 : FRM N P) : FRM M P := ⟨fun q hq => (h2.1 q hq).trans (h1.1 q hq), ⟨h2.2.1.1.trans h1.2.1.1, h2.2.1.2.1.trans h1.2.1.2.1, h2.2.1.2.2.trans h1.2.1.2.2⟩, fun q hq i hi => (h2.2.2.1 q hq i hi).trans (h1.2.2.1 q hq i hi), fun q hq i hi => (h2.2.2.2.1 q hq i hi).trans (h1.2.2.2.1 q hq i hi), fun f hf => (h2.2.2.2.2.1 f hf).trans (h1.2.2.2.2.1 f hf), fun q hq => (h2.2.2.2.2.2.1 q hq).trans (h1.2.2.2.2.2.1 q hq), h2.2.2.2.2.2.2.trans h1.2.2.2.2.2.2⟩
theorem AgM.frm {M N : Mem} (h : AgM M N) : FRM M N := ⟨fun q hq => h.1 q (by omega), ⟨by rw [h.1 56 (by decide)], by rw [h.1 57 (by decide)], by rw [h.1 58 (by decide)]⟩, fun q hq i _ => by rw [h.1 q (by omega)], fun q hq i _ => by rw [h.1 q (by omega)], fun f hf => h.2.1 f (by omega) (by omega) (by omega) (by omega), fun q hq => h.2.2.1 q (by omega), h.2.2.2.2⟩
theorem frm_f {M : Mem} {f : Nat} (v : Int) (hf : f ≠ 0 ∧ f ≠ 2 ∧ f ≠ 3 ∧ f ≠ 12 ∧ f ≠ 33) : FRM M (sI M 54 f v) := ⟨fun q hq => gI_sI_ne (by omega), ⟨by rw [gI_sI_ne (by decide)], by rw [gI_sI_ne (by decide)], by rw [gI_sI_ne (by decide)]⟩, fun q hq i _ => by rw [gI_sI_ne (by omega)], fun q hq i _ => by rw [gI_sI_ne (by omega)], fun g hg => by rw [g54, if_neg (by omega)], fun q hq => rfl, rfl⟩
theorem frm_L {M : Mem} {k f : Nat} (v : Int64) (hk : 54 ≤ k) : FRM M (sL M k f v) := ⟨fun q _ => rfl, ⟨rfl, rfl, rfl⟩, fun q _ i _ => rfl, fun q _ i _ => rfl, fun g _ => rfl, fun q hq => gL_sL_ne (by omega), rfl⟩
/-- a write into the second bench -/
theorem frm_b {M : Mem} {k i : Nat} (v : Int) (h : (56 ≤ k ∧ k ≤ 58 ∧ 1 ≤ i) ∨ k = 62 ∨ (63 ≤ k ∧ k ≤ 66 ∧ 6 ≤ i) ∨ (67 ≤ k ∧ k ≤ 71 ∧ 12 ≤ i)) : FRM M (sI M k i v) := by
  have e : ∀ q j, q ≠ k ∨ j ≠ i → gI (sI M k i v) q j = gI M q j := fun q j hq => by
    rw [gI_sI]
    by_cases g : q = k
    · rw [if_pos g, if_neg (by omega), g]
    · rw [if_neg g]
  refine ⟨fun q hq => funext fun j => e q j (by omega), ⟨e 56 0 (by omega), e 57 0 (by omega), e 58 0 (by omega)⟩, fun q hq j hj => e q j (by omega), fun q hq j hj => e q j (by omega), fun f hf => e 54 f (by omega), fun q _ => rfl, rfl⟩
/-- the reference, reading, with no fault so far -/
def PMs (M0 : Mem) (k0 : Nat) (N : Mem) (b : Nat → Int) (n p : Nat) (L : List Nm) (T : Tx) : Prop :=
  FRM M0 N ∧ AtM N b n p ∧ (gI N 54 9 = 0 ∧ gI N 54 12 = 1) ∧ (NR N L ∧ NV L T ∧ LI L T) ∧ TR N T ∧ k0 ≤ p ∧ p ≤ n ∧ n ≤ 800 ∧ ∀ i, i < n → -128 ≤ b i ∧ b i < 128
/-- the reference, refusing -/
def PMf (M0 N : Mem) (e : Int) : Prop := FRM M0 N ∧ -2 - (8 * gI N 54 10 + gI N 54 9) = e ∧ (0 ≤ gI N 54 10 ∧ gI N 54 10 ≤ 800) ∧ (1 ≤ gI N 54 9 ∧ gI N 54 9 ≤ 5)
theorem PMs.no {M0 N : Mem} {k0 : Nat} {b : Nat → Int} {n p : Nat} {L : List Nm} {T : Tx} (h : PMs M0 k0 N b n p L T) {k : Int} (hk : 1 ≤ k ∧ k ≤ 5) : PMf M0 (sI (sI N 54 9 k) 54 10 (gI N 54 4)) (flt b n p k) := by
  obtain ⟨h1, h2, h3, h4, h5, h6, h7, h8, h9⟩ := h
  have hp := pl_le b h7
  have e10 : gI (sI (sI N 54 9 k) 54 10 (gI N 54 4)) 54 10 = (pl b n p : Int) := by rw [g54, if_pos rfl]; exact h2.2.2.1
  have e9 : gI (sI (sI N 54 9 k) 54 10 (gI N 54 4)) 54 9 = k := by rw [g54, if_neg (by decide), g54, if_pos rfl]
  refine ⟨(h1.trans (frm_f _ (by decide))).trans (frm_f _ (by decide)), ?_, ?_, ?_⟩
  · rw [e10, e9]; rfl
  · rw [e10]; omega
  · rw [e9]; exact hk
theorem cnt_t (T : Tx) : cnt T 0 = nT T ∧ cnt T 1 = nJ T ∧ cnt T 2 = nK T := ⟨rfl, rfl, rfl⟩
/-- a field that a reading uses -/
theorem PMs.fld {M0 N : Mem} {k0 : Nat} {b : Nat → Int} {n p : Nat} {L : List Nm} {T : Tx} (h : PMs M0 k0 N b n p L T) {f : Nat} (v : Int) (hf : f = 11 ∨ f = 30) : PMs M0 k0 (sI N 54 f v) b n p L T := by
  obtain ⟨h1, ⟨a1, a2, a3, a4, a5, a6, a7⟩, h3, h4, h5, h6⟩ := h
  have e : ∀ i, i ≠ f → gI (sI N 54 f v) 54 i = gI N 54 i := fun i hi => by rw [g54, if_neg hi]
  have e2 : ∀ q, q ≠ 54 → gI (sI N 54 f v) q = gI N q := fun q hq => gI_sI_ne hq
  refine ⟨h1.trans (frm_f _ (by omega)), ⟨by rw [e2 55 (by decide)]; exact a1, by rw [e 3 (by omega)]; exact a2, by rw [e 4 (by omega)]; exact a3, by rw [e 5 (by omega)]; exact a4, by rw [e 6 (by omega)]; exact a5, a6, by rw [e 7 (by omega)]; exact a7⟩, by rw [e 9 (by omega), e 12 (by omega)]; exact h3, h4, ?_, h6⟩
  unfold TR
  rw [e2 56 (by decide), e2 57 (by decide), e2 58 (by decide), e2 62 (by decide), e2 63 (by decide), e2 64 (by decide), e2 65 (by decide), e2 66 (by decide), e2 67 (by decide), e2 68 (by decide), e2 69 (by decide), e2 70 (by decide), e2 71 (by decide)]
  exact h5
theorem PMs.nh {M0 N : Mem} {k0 : Nat} {b : Nat → Int} {n p : Nat} {L : List Nm} {T : Tx} (h : PMs M0 k0 N b n p L T) (v : Int64) : PMs M0 k0 (sL N 54 29 v) b n p L T := by
  obtain ⟨h1, ⟨a1, a2, a3, a4, a5, a6, a7⟩, h3, ⟨h4, h4b⟩, h5, h6⟩ := h
  refine ⟨h1.trans (frm_L _ (by decide)), ⟨a1, a2, a3, a4, a5, fun q => by rw [gL_sL, if_pos rfl, if_neg (by decide)]; exact a6 q, a7⟩, h3, ⟨fun i hi => ?_, h4b⟩, h5, h6⟩
  have := (h4b.1.1 i hi).1
  rw [gL_sL_ne (by omega)]
  exact h4 i hi
theorem PMs.adv {M0 N N2 : Mem} {k0 : Nat} {b : Nat → Int} {n p : Nat} {L : List Nm} {T : Tx} (h : PMs M0 k0 N b n p L T) (hA : AgM N N2) {p2 : Nat} (hp2 : k0 ≤ p2 ∧ p2 ≤ n) (h2 : AtM N2 b n p2) : PMs M0 k0 N2 b n p2 L T := by
  obtain ⟨h1, -, h3, ⟨h4, h4b⟩, h5, h6, h7, h8⟩ := h
  have e2 : ∀ q, q ≠ 54 → gI N2 q = gI N q := hA.1
  refine ⟨h1.trans hA.frm, h2, by rw [hA.2.1 9 (by decide) (by decide) (by decide) (by decide), hA.2.1 12 (by decide) (by decide) (by decide) (by decide)]; exact h3, ⟨fun i hi => ?_, h4b⟩, ?_, hp2.1, hp2.2, h8⟩
  · have := (h4b.1.1 i hi).1
    rw [hA.2.2.1 _ (by omega)]; exact h4 i hi
  · unfold TR
    rw [e2 56 (by decide), e2 57 (by decide), e2 58 (by decide), e2 62 (by decide), e2 63 (by decide), e2 64 (by decide), e2 65 (by decide), e2 66 (by decide), e2 67 (by decide), e2 68 (by decide), e2 69 (by decide), e2 70 (by decide), e2 71 (by decide)]
    exact h5
theorem fnd_e {L : List Nm} {w : Int} {i : Nat} (hi : i < L.length) (hw : (L.getD i (0, 0, 0)).1 = w) (hu : ∀ j, j < L.length → j ≠ i → (L.getD j (0, 0, 0)).1 ≠ w) : fnd L w = (i : Int) := by
  unfold fnd
  exact fst_at hi (exB_false (fun j hj => decide_eq_false (hu j (by omega) (by omega)))) (decide_eq_true hw)
theorem fnd_w {L : List Nm} {w : Int} (h : fnd L w ≠ -1) : (L.getD (fnd L w).toNat (0, 0, 0)).1 = w ∧ (fnd L w).toNat < L.length := by
  unfold fnd at h ⊢
  cases q : exB (fun i => decide ((L.getD i (0, 0, 0)).1 = w)) L.length with
  | false => rw [fst_none q] at h; exact absurd rfl h
  | true =>
    obtain ⟨i, h1, h2, h3⟩ := first9 q
    rw [fst_at h1 h2 h3, Int.toNat_natCast]
    exact ⟨of_decide_eq_true h3, h1⟩
theorem num_iff {L : List Nm} {T : Tx} (hV : NV L T) {N : Mem} (hN : NR N L) {w : Int} (hw : vd 7 w = true) {κ k : Nat} (hκ : κ < 3) (hk : k < cnt T κ) : gL N (59 + κ) (off κ + k) = JL (e5 w) ↔ numL L w κ = (k : Int) := by
  have p32 : (32 : Int) ^ 7 = 34359738368 := by decide
  constructor
  · intro h
    obtain ⟨i, hi, he⟩ := hV.2.2 κ hκ k hk
    have hn := hN i hi
    have hv := (hV.1 i hi).2.1
    rw [he] at hn
    have e1 : JL (e5 (L.getD i (0, 0, 0)).1) = JL (e5 w) := hn.symm.trans h
    have b1 := e5_b 7 _ hv
    have b2 := e5_b 7 _ hw
    rw [p32] at b1 b2
    have e2 : e5F 7 (L.getD i (0, 0, 0)).1 = e5F 7 w := by
      have := congrArg Int64.toInt e1
      unfold e5 at this
      rw [JL_toInt (by omega), JL_toInt (by omega)] at this
      exact this
    have e3 := e5_inj 7 _ _ hv hw e2
    have hf := fnd_e hi e3 (fun j hj hne => by rw [← e3]; exact hV.2.1 j i hj hi hne)
    unfold numL
    rw [hf, Int.toNat_natCast, if_pos ⟨by omega, by rw [he]⟩, he]
  · intro h
    unfold numL at h
    by_cases q : fnd L w ≠ -1 ∧ (L.getD (fnd L w).toNat (0, 0, 0)).2.1 = κ
    · rw [if_pos q] at h
      obtain ⟨e1, e2⟩ := fnd_w q.1
      have hn := hN _ e2
      rw [q.2, e1, show (L.getD (fnd L w).toNat (0, 0, 0)).2.2 = k by omega] at hn
      exact hn
    · rw [if_neg q] at h; omega
theorem num_r {L : List Nm} {T : Tx} (hV : NV L T) (w : Int) (κ : Nat) : -1 ≤ numL L w κ ∧ numL L w κ < cnt T κ := by
  unfold numL
  by_cases q : fnd L w ≠ -1 ∧ (L.getD (fnd L w).toNat (0, 0, 0)).2.1 = κ
  · rw [if_pos q]
    obtain ⟨e1, e2⟩ := fnd_w q.1
    have := (hV.1 _ e2).2.2
    rw [q.2] at this
    omega
  · rw [if_neg q]; omega
theorem has_iff {L : List Nm} {T : Tx} (hV : NV L T) (w : Int) : hasL L w = true ↔ (0 ≤ numL L w 0 ∨ 0 ≤ numL L w 1 ∨ 0 ≤ numL L w 2) := by
  unfold hasL
  rw [decide_eq_true_iff]
  constructor
  · intro h
    obtain ⟨e1, e2⟩ := fnd_w h
    have h3 := (hV.1 _ e2).1
    have key : ∀ κ, (L.getD (fnd L w).toNat (0, 0, 0)).2.1 = κ → 0 ≤ numL L w κ := fun κ hk => by unfold numL; rw [if_pos ⟨h, hk⟩]; omega
    rcases (show (L.getD (fnd L w).toNat (0, 0, 0)).2.1 = 0 ∨ (L.getD (fnd L w).toNat (0, 0, 0)).2.1 = 1 ∨ (L.getD (fnd L w).toNat (0, 0, 0)).2.1 = 2 by omega) with q | q | q
    · exact Or.inl (key 0 q)
    · exact Or.inr (Or.inl (key 1 q))
    · exact Or.inr (Or.inr (key 2 q))
  · intro h q
    have key : ∀ κ, numL L w κ = -1 := fun κ => by unfold numL; rw [if_neg (fun z => z.1 q)]
    rw [key, key, key] at h
    omega
theorem bt_pw : ∀ a q : Fin 6, a ≠ q → bt ((2 ^ (a : Nat) : Nat) : Int) ((q : Nat) : Int) = 0 := by decide +kernel
theorem bt_pw1 : ∀ a : Fin 6, bt ((2 ^ (a : Nat) : Nat) : Int) ((a : Nat) : Int) = 1 := by decide +kernel
section MRead
variable {G : Gt} {d : Nat} {M0 N : Mem} {k0 : Nat} {b : Nat → Int} {n p : Nat} {L : List Nm} {T : Tx}
theorem m_adv (h : PMs M0 k0 N b n p L T) (hk : kd b n p ≠ 4) : V G (d + 1) mX12_steps 0 [some (.ref 54), none] [] N (fun r N2 => r = none ∧ AgM N N2 ∧ PMs M0 k0 N2 b n (nx b n p) L T) := by
  obtain ⟨h1, h2, h3, h4, h5, h6, h7, h8, h9⟩ := id h
  have hp := pl_le b h7
  have hx := nx_le b h7
  exact V.mono (m_steps (b := b) (n := n) (p := nx b n p) h8 h2.1 h9 h2.2.1 hx.2 (h2.2.2.2.1 hk)) (fun r N2 hq => ⟨hq.1, hq.2.1, h.adv hq.2.1 ⟨by omega, hx.2⟩ hq.2.2⟩)
theorem m_takesNumber (h : PMs M0 k0 N b n p L T) {lo hi : Int} (hl : -1000 ≤ lo ∧ lo ≤ 1000) (hh : -1000 ≤ hi ∧ hi ≤ 1000) : V G (d + 2) mX12_takesNumber 0 [some (.ref 54), some (.int (J lo)), some (.int (J hi))] [] N (fun r N2 => onR (rNum b n lo hi p) (fun e => r = some (.int (J 0)) ∧ PMf M0 N2 e) (fun q => r = some (.int (J 1)) ∧ gI N2 54 11 = q.1 ∧ (∀ x, x ≠ 54 → gI N2 x = gI N x) ∧ PMs M0 k0 N2 b n q.2 L T)) := by
  obtain ⟨h1, h2, h3, h4, h5, h6, h7, h8, h9⟩ := id h
  have hk := kd_le b n p
  have hkd := h2.2.2.2.2.1
  unfold rNum
  have bt9 := b2i_r true
  have bf9 := b2i_r false
  have c1 : ∀ x : Bool, V G (d + 1) mX12_must 0 [some (.ref 54), some (.int (J (b2i x))), some (.int (J 1))] [] N (Ret (some (.int (J (b2i x)))) (if x = true then N else sI (sI N 54 9 1) 54 10 (gI N 54 4))) := fun x => m_must (by decide) h3.1
  refine v_aload_n (pc := 0) 0 rfl rfl ?_
  refine v_aload_n (pc := 1) 1 rfl rfl ?_
  refine v_getI (pc := 2) 2 rfl fl_X12_121 rfl ?_
  refine v_iconst (pc := 5) 3 rfl ?_
  refine v_ic_ne (pc := 6) 4 13 rfl (by decide) (by omega) (fun e1 => ?_) (fun e1 => ?_)
  · rw [if_pos (by omega)]
    have := c1 false
    rw [if_neg (by decide)] at this
    refine v_iconst (pc := 13) 7 rfl ?_
    refine v_iconst (pc := 14) 8 rfl ?_
    refine v_cV2i (pc := 15) 9 rfl cv_X12_189 rfl (Nat.le_of_ble_eq_true rfl) (Nat.le_of_ble_eq_true rfl) (this) ?_
    refine v_if_eqT (pc := 18) 10 41 rfl (by decide) (by omega) (by decide) ?_
    refine v_iconst (pc := 41) 23 rfl ?_
    refine v_zret (pc := 42) 24 rfl rfl (by decide) ⟨rfl, h.no (by decide)⟩
  · have k2 : kd b n p = 2 := by omega
    have ev := h2.2.2.2.2.2.2 k2
    have vb : 0 ≤ vlu b n p ∧ vlu b n p ≤ 999 := by
      have hkk := k2
      unfold kd at hkk
      by_cases q1 : n ≤ pl b n p
      · rw [if_pos q1] at hkk; omega
      · rw [if_neg q1] at hkk
        by_cases q2 : isL (b (pl b n p)) = true
        · rw [if_pos q2] at hkk
          by_cases q3 : lE b n p - pl b n p ≤ 7
          · rw [if_pos q3] at hkk; omega
          · rw [if_neg q3] at hkk; omega
        · rw [if_neg q2] at hkk
          by_cases q3 : isD (b (pl b n p)) = true
          · rw [if_pos q3] at hkk
            by_cases q4 : dE b n p - pl b n p ≤ 3
            · exact valD_b (fun i hi => by
                have := of_decide_eq_true ((rn_ge isD b n _ (pl b n p) rfl).2.2.1 (pl b n p + i) (by omega) (by unfold dE at hi; omega)).2
                omega) q4
            · rw [if_neg q4] at hkk; omega
          · rw [if_neg q3] at hkk
            by_cases q4 : b (pl b n p) = 59
            · rw [if_pos q4] at hkk; omega
            · rw [if_neg q4] at hkk; omega
    rw [if_neg (fun z => z k2)]
    have := c1 true
    rw [if_pos rfl] at this
    refine v_iconst (pc := 9) 5 rfl ?_
    refine v_goto (pc := 10) 6 14 rfl (by decide) ?_
    refine v_iconst (pc := 14) 8 rfl ?_
    refine v_cV2i (pc := 15) 9 rfl cv_X12_189 rfl (Nat.le_of_ble_eq_true rfl) (Nat.le_of_ble_eq_true rfl) (this) ?_
    refine v_if_eqF (pc := 18) 10 41 rfl (by decide) (by omega) (by decide) ?_
    refine v_aload_n (pc := 21) 11 rfl rfl ?_
    refine v_aload_n (pc := 22) 12 rfl rfl ?_
    refine v_getI (pc := 23) 13 rfl fl_X12_124 rfl ?_
    rw [ev]
    by_cases q : vlu b n p < lo ∨ hi < vlu b n p
    · rw [if_pos q]
      have c2 : V G (d + 1) mX12_must 0 [some (.ref 54), some (.int (J (b2i false))), some (.int (J 4))] [] N (Ret (some (.int (J (b2i false)))) (sI (sI N 54 9 4) 54 10 (gI N 54 4))) := by
        have := m_must (G := G) (d := d + 1) (M := N) (x := false) (k := 4) (by decide) h3.1
        rw [if_neg (by decide)] at this
        exact this
      have c3 := m_within (G := G) (d := d + 1) (M := N) (a := vlu b n p) (lo := lo) (hi := hi) (by omega) (by omega) (by omega)
      rw [if_neg (by omega)] at c3
      refine v_i2l (pc := 26) 14 rfl (by omega) ?_
      refine v_iload_n (pc := 27) 15 rfl rfl ?_
      refine v_i2l (pc := 28) 16 rfl (by omega) ?_
      refine v_iload_n (pc := 29) 17 rfl rfl ?_
      refine v_i2l (pc := 30) 18 rfl (by omega) ?_
      refine v_cS3i (pc := 31) 19 rfl cs_X12_135 (Nat.le_of_ble_eq_true rfl) (Nat.le_of_ble_eq_true rfl) (c3) ?_
      refine v_iconst (pc := 34) 20 rfl ?_
      refine v_cV2i (pc := 35) 21 rfl cv_X12_189 rfl (Nat.le_of_ble_eq_true rfl) (Nat.le_of_ble_eq_true rfl) (c2) ?_
      refine v_if_neF (pc := 38) 22 43 rfl (by decide) (by omega) (by decide) ?_
      refine v_iconst (pc := 41) 23 rfl ?_
      refine v_zret (pc := 42) 24 rfl rfl (by decide) ⟨rfl, h.no (by decide)⟩
    · rw [if_neg q]
      have c2 : V G (d + 1) mX12_must 0 [some (.ref 54), some (.int (J (b2i true))), some (.int (J 4))] [] N (Ret (some (.int (J (b2i true)))) N) := by
        have := m_must (G := G) (d := d + 1) (M := N) (x := true) (k := 4) (by decide) h3.1
        rw [if_pos rfl] at this
        exact this
      have c3 := m_within (G := G) (d := d + 1) (M := N) (a := vlu b n p) (lo := lo) (hi := hi) (by omega) (by omega) (by omega)
      rw [if_pos (by omega)] at c3
      refine v_i2l (pc := 26) 14 rfl (by omega) ?_
      refine v_iload_n (pc := 27) 15 rfl rfl ?_
      refine v_i2l (pc := 28) 16 rfl (by omega) ?_
      refine v_iload_n (pc := 29) 17 rfl rfl ?_
      refine v_i2l (pc := 30) 18 rfl (by omega) ?_
      refine v_cS3i (pc := 31) 19 rfl cs_X12_135 (Nat.le_of_ble_eq_true rfl) (Nat.le_of_ble_eq_true rfl) (c3) ?_
      refine v_iconst (pc := 34) 20 rfl ?_
      refine v_cV2i (pc := 35) 21 rfl cv_X12_189 rfl (Nat.le_of_ble_eq_true rfl) (Nat.le_of_ble_eq_true rfl) (c2) ?_
      refine v_if_neT (pc := 38) 22 43 rfl (by decide) (by omega) (by decide) ?_
      refine v_aload_n (pc := 43) 25 rfl rfl ?_
      refine v_aload_n (pc := 44) 26 rfl rfl ?_
      refine v_getI (pc := 45) 27 rfl fl_X12_124 rfl ?_
      rw [ev]
      refine v_putI (pc := 48) 28 rfl fl_X12_193 rfl ?_
      refine v_aload_n (pc := 51) 29 rfl rfl ?_
      refine v_cV0 (pc := 52) 30 rfl cv_X12_196 rfl (Nat.le_of_ble_eq_true rfl) (Nat.le_of_ble_eq_true rfl) (m_adv (h.fld (f := 11) (vlu b n p) (Or.inl rfl)) (by omega)) (fun r9 N9 hq9 => ?_)
      obtain ⟨rfl, hA, hP⟩ := hq9
      have e11 : gI N9 54 11 = vlu b n p := by rw [hA.2.1 11 (by decide) (by decide) (by decide) (by decide), g54, if_pos rfl]
      show V G (d + 2) mX12_takesNumber (52 + 3) _ [] _ _
      refine v_iconst (pc := 55) 31 rfl ?_
      refine v_zret (pc := 56) 32 rfl rfl (by decide) ⟨rfl, e11, fun x hx => by rw [hA.1 x hx, gI_sI_ne hx], hP⟩
/-- how a name is looked for -/
theorem PMs.look (h : PMs M0 k0 N b n p L T) (k1 : kd b n p = 1) {κ k : Nat} (hκ : κ < 3) (hk : k < cnt T κ) : ∃ x : Int, gL N (59 + κ) (off κ + k) = JL x ∧ (0 ≤ x ∧ x < 34359738368) ∧ gL N 54 8 = JL (e5 (wv b n p)) ∧ (0 ≤ e5 (wv b n p) ∧ e5 (wv b n p) < 34359738368) ∧ (x = e5 (wv b n p) ↔ numL L (wv b n p) κ = (k : Int)) := by
  obtain ⟨h1, h2, h3, ⟨h4, h4b, h4c⟩, h5, h6, h7, h8, h9⟩ := h
  obtain ⟨w1, w2⟩ := wv_ok k1
  have p32 : (32 : Int) ^ 7 = 34359738368 := by decide
  obtain ⟨i, hi, he⟩ := h4b.2.2 κ hκ k hk
  have hn := h4 i hi
  rw [he] at hn
  have b1 := e5_b 7 _ (h4b.1 i hi).2.1
  have b2 := e5_b 7 _ w2
  rw [p32] at b1 b2
  have hiff := num_iff h4b h4 w2 hκ hk
  refine ⟨_, hn, ⟨b1.1, b1.2.1⟩, by rw [h2.2.2.2.2.2.1 k1, w1], ⟨b2.1, b2.2.1⟩, ⟨fun q => hiff.mp (by rw [← q]; exact hn), fun q => ?_⟩⟩
  have := hn.symm.trans (hiff.mpr q)
  have := congrArg Int64.toInt this
  unfold e5 at *
  rw [JL_toInt (by omega), JL_toInt (by omega)] at this
  exact this
theorem m_townNamed (h : PMs M0 k0 N b n p L T) (k1 : kd b n p = 1) : V G d mX12_townNamed 0 [some (.ref 54), none] [] N (Ret (some (.int (J (numL L (wv b n p) 0)))) N) := by
  have hr := num_r h.2.2.2.1.2.1 (wv b n p) 0
  obtain ⟨h1, h2, h3, h4, h5, h6, h7, h8, h9⟩ := id h
  have hb := h3.2
  have hn := h5.1.1
  have hLI := h4.2.2.1
  have e0 : cnt T 0 = nT T := rfl
  generalize hw : numL L (wv b n p) 0 = w at hr
  refine v_iconst (pc := 0) 0 rfl ?_
  refine v_istore_n (pc := 1) 1 rfl ⟨Nat.le_of_ble_eq_true rfl, rfl⟩ ?_
  refine loopN (N := nT T) (fun k => (∀ j : Nat, j < k → w ≠ (j : Int)) → V G d mX12_townNamed 2 [some (.ref 54), some (.int (J (k : Int)))] [] N (Ret (some (.int (J w))) N)) ?_ ?_ (fun j hj => by omega)
  · intro hno
    have : w = -1 := by
      rcases (show w = -1 ∨ 0 ≤ w by omega) with q | q
      · exact q
      · exact absurd (show w = ((w.toNat : Nat) : Int) by omega) (hno w.toNat (by omega))
    rw [this]
    refine v_iload_n (pc := 2) 2 rfl rfl ?_
    refine v_aload_n (pc := 3) 3 rfl rfl ?_
    refine v_getC (pc := 4) 4 rfl fl_X12_13 rfl 56 rfl ?_
    refine v_aload_n (pc := 7) 5 rfl rfl ?_
    refine v_getI (pc := 8) 6 rfl fl_X12_199 rfl ?_
    rw [hb]
    refine v_ialdE (pc := 11) 7 rfl rfl 1 (by omega) ?_
    refine v_ic_geT (pc := 12) 8 44 rfl (by decide) (by omega) (by omega) ?_
    refine v_iconst (pc := 44) 26 rfl ?_
    refine v_iret (pc := 45) 27 rfl rfl ⟨rfl, rfl⟩
  · intro k hk ih hno
    obtain ⟨x, x1, x2, x3, x4, x5⟩ := h.look k1 (κ := 0) (k := k) (by decide) hk
    have zr := lz_r x (e5 (wv b n p))
    refine v_iload_n (pc := 2) 2 rfl rfl ?_
    refine v_aload_n (pc := 3) 3 rfl rfl ?_
    refine v_getC (pc := 4) 4 rfl fl_X12_13 rfl 56 rfl ?_
    refine v_aload_n (pc := 7) 5 rfl rfl ?_
    refine v_getI (pc := 8) 6 rfl fl_X12_199 rfl ?_
    rw [hb]
    refine v_ialdE (pc := 11) 7 rfl rfl 1 (by omega) ?_
    refine v_ic_geF (pc := 12) 8 44 rfl (by decide) (by omega) (by omega) ?_
    refine v_aload_n (pc := 15) 9 rfl rfl ?_
    refine v_getC (pc := 16) 10 rfl fl_X12_23 rfl 59 rfl ?_
    refine v_iconst (pc := 19) 11 rfl ?_
    refine v_aload_n (pc := 20) 12 rfl rfl ?_
    refine v_getI (pc := 21) 13 rfl fl_X12_199 rfl ?_
    rw [hb]
    refine v_imul (pc := 24) 14 rfl ?_
    refine v_iload_n (pc := 25) 15 rfl rfl ?_
    refine v_iadd (pc := 26) 16 rfl ?_
    refine v_laldE (pc := 27) 17 rfl rfl (5 + k) (by omega) ?_
    rw [show gL N 59 (5 + k) = JL x from x1]
    refine v_aload_n (pc := 28) 18 rfl rfl ?_
    refine v_getL (pc := 29) 19 rfl fl_X12_127 rfl ?_
    rw [x3]
    refine v_lcmp (pc := 32) 20 rfl (lz x (e5 (wv b n p))) (J_lcmp ⟨by omega, by omega⟩) ?_
    refine v_if_ne (pc := 33) 21 38 rfl (by decide) (by omega) (fun e1 => ?_) (fun e1 => ?_)
    · refine v_iinc (pc := 38) 24 rfl rfl ⟨Nat.le_of_ble_eq_true rfl, rfl⟩ ?_
      refine v_goto (pc := 41) 25 2 rfl (by decide) ?_
      refine ih (fun j hj => ?_)
      by_cases q : j = k
      · subst q; intro z; exact e1 (lz_0.mpr (x5.mpr (hw.trans z)))
      · exact hno j (by omega)
    · rw [show w = (k : Int) from hw.symm.trans (x5.mp (lz_0.mp (Decidable.not_not.mp e1)))]
      refine v_iload_n (pc := 36) 22 rfl rfl ?_
      refine v_iret (pc := 37) 23 rfl rfl ⟨rfl, rfl⟩
theorem m_judgeNamed (h : PMs M0 k0 N b n p L T) (k1 : kd b n p = 1) : V G d mX12_judgeNamed 0 [some (.ref 54), none] [] N (Ret (some (.int (J (numL L (wv b n p) 1)))) N) := by
  have hr := num_r h.2.2.2.1.2.1 (wv b n p) 1
  obtain ⟨h1, h2, h3, h4, h5, h6, h7, h8, h9⟩ := id h
  have hb := h3.2
  have hn := h5.1.2.1
  have hLI := h4.2.2.1
  have e0 : cnt T 1 = nJ T := rfl
  generalize hw : numL L (wv b n p) 1 = w at hr
  refine v_iconst (pc := 0) 0 rfl ?_
  refine v_istore_n (pc := 1) 1 rfl ⟨Nat.le_of_ble_eq_true rfl, rfl⟩ ?_
  refine loopN (N := nJ T) (fun k => (∀ j : Nat, j < k → w ≠ (j : Int)) → V G d mX12_judgeNamed 2 [some (.ref 54), some (.int (J (k : Int)))] [] N (Ret (some (.int (J w))) N)) ?_ ?_ (fun j hj => by omega)
  · intro hno
    have : w = -1 := by
      rcases (show w = -1 ∨ 0 ≤ w by omega) with q | q
      · exact q
      · exact absurd (show w = ((w.toNat : Nat) : Int) by omega) (hno w.toNat (by omega))
    rw [this]
    refine v_iload_n (pc := 2) 2 rfl rfl ?_
    refine v_aload_n (pc := 3) 3 rfl rfl ?_
    refine v_getC (pc := 4) 4 rfl fl_X12_17 rfl 57 rfl ?_
    refine v_aload_n (pc := 7) 5 rfl rfl ?_
    refine v_getI (pc := 8) 6 rfl fl_X12_199 rfl ?_
    rw [hb]
    refine v_ialdE (pc := 11) 7 rfl rfl 1 (by omega) ?_
    refine v_ic_geT (pc := 12) 8 45 rfl (by decide) (by omega) (by omega) ?_
    refine v_iconst (pc := 45) 26 rfl ?_
    refine v_iret (pc := 46) 27 rfl rfl ⟨rfl, rfl⟩
  · intro k hk ih hno
    obtain ⟨x, x1, x2, x3, x4, x5⟩ := h.look k1 (κ := 1) (k := k) (by decide) hk
    have zr := lz_r x (e5 (wv b n p))
    refine v_iload_n (pc := 2) 2 rfl rfl ?_
    refine v_aload_n (pc := 3) 3 rfl rfl ?_
    refine v_getC (pc := 4) 4 rfl fl_X12_17 rfl 57 rfl ?_
    refine v_aload_n (pc := 7) 5 rfl rfl ?_
    refine v_getI (pc := 8) 6 rfl fl_X12_199 rfl ?_
    rw [hb]
    refine v_ialdE (pc := 11) 7 rfl rfl 1 (by omega) ?_
    refine v_ic_geF (pc := 12) 8 45 rfl (by decide) (by omega) (by omega) ?_
    refine v_aload_n (pc := 15) 9 rfl rfl ?_
    refine v_getC (pc := 16) 10 rfl fl_X12_27 rfl 60 rfl ?_
    refine v_bipush (pc := 19) 11 rfl (by decide) ?_
    refine v_aload_n (pc := 21) 12 rfl rfl ?_
    refine v_getI (pc := 22) 13 rfl fl_X12_199 rfl ?_
    rw [hb]
    refine v_imul (pc := 25) 14 rfl ?_
    refine v_iload_n (pc := 26) 15 rfl rfl ?_
    refine v_iadd (pc := 27) 16 rfl ?_
    refine v_laldE (pc := 28) 17 rfl rfl (6 + k) (by omega) ?_
    rw [show gL N 60 (6 + k) = JL x from x1]
    refine v_aload_n (pc := 29) 18 rfl rfl ?_
    refine v_getL (pc := 30) 19 rfl fl_X12_127 rfl ?_
    rw [x3]
    refine v_lcmp (pc := 33) 20 rfl (lz x (e5 (wv b n p))) (J_lcmp ⟨by omega, by omega⟩) ?_
    refine v_if_ne (pc := 34) 21 39 rfl (by decide) (by omega) (fun e1 => ?_) (fun e1 => ?_)
    · refine v_iinc (pc := 39) 24 rfl rfl ⟨Nat.le_of_ble_eq_true rfl, rfl⟩ ?_
      refine v_goto (pc := 42) 25 2 rfl (by decide) ?_
      refine ih (fun j hj => ?_)
      by_cases q : j = k
      · subst q; intro z; exact e1 (lz_0.mpr (x5.mpr (hw.trans z)))
      · exact hno j (by omega)
    · rw [show w = (k : Int) from hw.symm.trans (x5.mp (lz_0.mp (Decidable.not_not.mp e1)))]
      refine v_iload_n (pc := 37) 22 rfl rfl ?_
      refine v_iret (pc := 38) 23 rfl rfl ⟨rfl, rfl⟩
theorem m_isCaseNamed (h : PMs M0 k0 N b n p L T) (k1 : kd b n p = 1) : V G d mX12_isCaseNamed 0 [some (.ref 54), none] [] N (Ret (some (.int (J (b2i (decide (0 ≤ numL L (wv b n p) 2)))))) N) := by
  have hr := num_r h.2.2.2.1.2.1 (wv b n p) 2
  obtain ⟨h1, h2, h3, h4, h5, h6, h7, h8, h9⟩ := id h
  have hb := h3.2
  have hn := h5.1.2.2
  have hLI := h4.2.2.1
  have e0 : cnt T 2 = nK T := rfl
  generalize hw : numL L (wv b n p) 2 = w at hr
  refine v_iconst (pc := 0) 0 rfl ?_
  refine v_istore_n (pc := 1) 1 rfl ⟨Nat.le_of_ble_eq_true rfl, rfl⟩ ?_
  refine loopN (N := nK T) (fun k => (∀ j : Nat, j < k → w ≠ (j : Int)) → V G d mX12_isCaseNamed 2 [some (.ref 54), some (.int (J (k : Int)))] [] N (Ret (some (.int (J (b2i (decide (0 ≤ w)))))) N)) ?_ ?_ (fun j hj => by omega)
  · intro hno
    have : ¬ 0 ≤ w := by
      intro q
      exact absurd (show w = ((w.toNat : Nat) : Int) by omega) (hno w.toNat (by omega))
    rw [decide_eq_false this]
    refine v_iload_n (pc := 2) 2 rfl rfl ?_
    refine v_aload_n (pc := 3) 3 rfl rfl ?_
    refine v_getC (pc := 4) 4 rfl fl_X12_20 rfl 58 rfl ?_
    refine v_aload_n (pc := 7) 5 rfl rfl ?_
    refine v_getI (pc := 8) 6 rfl fl_X12_199 rfl ?_
    rw [hb]
    refine v_ialdE (pc := 11) 7 rfl rfl 1 (by omega) ?_
    refine v_ic_geT (pc := 12) 8 45 rfl (by decide) (by omega) (by omega) ?_
    refine v_iconst (pc := 45) 26 rfl ?_
    refine v_zret (pc := 46) 27 rfl rfl (by decide) ⟨rfl, rfl⟩
  · intro k hk ih hno
    obtain ⟨x, x1, x2, x3, x4, x5⟩ := h.look k1 (κ := 2) (k := k) (by decide) hk
    have zr := lz_r x (e5 (wv b n p))
    refine v_iload_n (pc := 2) 2 rfl rfl ?_
    refine v_aload_n (pc := 3) 3 rfl rfl ?_
    refine v_getC (pc := 4) 4 rfl fl_X12_20 rfl 58 rfl ?_
    refine v_aload_n (pc := 7) 5 rfl rfl ?_
    refine v_getI (pc := 8) 6 rfl fl_X12_199 rfl ?_
    rw [hb]
    refine v_ialdE (pc := 11) 7 rfl rfl 1 (by omega) ?_
    refine v_ic_geF (pc := 12) 8 45 rfl (by decide) (by omega) (by omega) ?_
    refine v_aload_n (pc := 15) 9 rfl rfl ?_
    refine v_getC (pc := 16) 10 rfl fl_X12_30 rfl 61 rfl ?_
    refine v_bipush (pc := 19) 11 rfl (by decide) ?_
    refine v_aload_n (pc := 21) 12 rfl rfl ?_
    refine v_getI (pc := 22) 13 rfl fl_X12_199 rfl ?_
    rw [hb]
    refine v_imul (pc := 25) 14 rfl ?_
    refine v_iload_n (pc := 26) 15 rfl rfl ?_
    refine v_iadd (pc := 27) 16 rfl ?_
    refine v_laldE (pc := 28) 17 rfl rfl (12 + k) (by omega) ?_
    rw [show gL N 61 (12 + k) = JL x from x1]
    refine v_aload_n (pc := 29) 18 rfl rfl ?_
    refine v_getL (pc := 30) 19 rfl fl_X12_127 rfl ?_
    rw [x3]
    refine v_lcmp (pc := 33) 20 rfl (lz x (e5 (wv b n p))) (J_lcmp ⟨by omega, by omega⟩) ?_
    refine v_if_ne (pc := 34) 21 39 rfl (by decide) (by omega) (fun e1 => ?_) (fun e1 => ?_)
    · refine v_iinc (pc := 39) 24 rfl rfl ⟨Nat.le_of_ble_eq_true rfl, rfl⟩ ?_
      refine v_goto (pc := 42) 25 2 rfl (by decide) ?_
      refine ih (fun j hj => ?_)
      by_cases q : j = k
      · subst q; intro z; exact e1 (lz_0.mpr (x5.mpr (hw.trans z)))
      · exact hno j (by omega)
    · have : w = (k : Int) := hw.symm.trans (x5.mp (lz_0.mp (Decidable.not_not.mp e1)))
      rw [decide_eq_true (by omega)]
      refine v_iconst (pc := 37) 22 rfl ?_
      refine v_zret (pc := 38) 23 rfl rfl (by decide) ⟨rfl, rfl⟩
theorem nm_kd (h : isNm b n p = true) : kd b n p = 1 := (of_decide_eq_true h).1
theorem must_t {k : Int} (hk : k ≠ 0 ∧ -100 ≤ k ∧ k ≤ 100) (h9 : gI N 54 9 = 0) : V G d mX12_must 0 [some (.ref 54), some (.int (J 1)), some (.int (J k))] [] N (Ret (some (.int (J 1))) N) := by
  have := m_must (G := G) (d := d) (M := N) (x := true) hk h9
  rw [if_pos rfl] at this
  exact this
theorem must_f {k : Int} (hk : k ≠ 0 ∧ -100 ≤ k ∧ k ≤ 100) (h9 : gI N 54 9 = 0) : V G d mX12_must 0 [some (.ref 54), some (.int (J 0)), some (.int (J k))] [] N (Ret (some (.int (J 0))) (sI (sI N 54 9 k) 54 10 (gI N 54 4))) := by
  have := m_must (G := G) (d := d) (M := N) (x := false) hk h9
  rw [if_neg (by decide)] at this
  exact this
theorem m_newName (h : PMs M0 k0 N b n p L T) : V G (d + 8) mX12_newName 0 [some (.ref 54)] [] N (fun r N2 => if isNm b n p = false then r = some (.int (J 0)) ∧ PMf M0 N2 (flt b n p 1) else if hasL L (wv b n p) = true then r = some (.int (J 0)) ∧ PMf M0 N2 (flt b n p 2) else r = some (.int (J 1)) ∧ gL N2 54 29 = JL (e5 (wv b n p)) ∧ vd 7 (wv b n p) = true ∧ PMs M0 k0 N2 b n (nx b n p) L T) := by
  obtain ⟨h1, h2, h3, h4, h5, h6, h7, h8, h9⟩ := id h
  have ci := m_isName (G := G) (d := d) h2
  have bt9 := b2i_r true
  have bf9 := b2i_r false
  cases q : isNm b n p with
  | false =>
    rw [q] at ci
    change V G (d + 8) mX12_newName 0 _ _ N (fun r N2 => r = some (.int (J 0)) ∧ PMf M0 N2 (flt b n p 1))
    refine v_aload_n (pc := 0) 0 rfl rfl ?_
    refine v_aload_n (pc := 1) 1 rfl rfl ?_
    refine v_cV0i (pc := 2) 2 rfl cv_X12_202 rfl (Nat.le_of_ble_eq_true rfl) (Nat.le_of_ble_eq_true rfl) (ci) ?_
    refine v_iconst (pc := 5) 3 rfl ?_
    refine v_cV2i (pc := 6) 4 rfl cv_X12_189 rfl (Nat.le_of_ble_eq_true rfl) (Nat.le_of_ble_eq_true rfl) (must_f (by decide) h3.1) ?_
    refine v_if_eqT (pc := 9) 5 46 rfl (by decide) (by omega) (by decide) ?_
    refine v_iconst (pc := 46) 22 rfl ?_
    refine v_zret (pc := 47) 23 rfl rfl (by decide) ⟨rfl, h.no (by decide)⟩
  | true =>
    rw [q] at ci
    change V G (d + 8) mX12_newName 0 _ _ N (fun r N2 => if hasL L (wv b n p) = true then r = some (.int (J 0)) ∧ PMf M0 N2 (flt b n p 2) else r = some (.int (J 1)) ∧ gL N2 54 29 = JL (e5 (wv b n p)) ∧ vd 7 (wv b n p) = true ∧ PMs M0 k0 N2 b n (nx b n p) L T)
    have k1 := nm_kd q
    have c0 := m_townNamed (G := G) (d := d + 7) h k1
    have c1 := m_judgeNamed (G := G) (d := d + 7) h k1
    have c2 := m_isCaseNamed (G := G) (d := d + 7) h k1
    have r0 := num_r h4.2.1 (wv b n p) 0
    have r1 := num_r h4.2.1 (wv b n p) 1
    have r2 := num_r h4.2.1 (wv b n p) 2
    have hi := has_iff h4.2.1 (wv b n p)
    obtain ⟨x1, x2⟩ := wv_ok k1
    have hLI := h4.2.2.1
    have t0 := cnt_t T
    have e8 : gL N 54 8 = JL (e5 (wv b n p)) := by rw [h2.2.2.2.2.2.1 k1, x1]
    generalize hw : wv b n p = w at *
    have bad : hasL L w = true → V G (d + 8) mX12_newName 38 [some (.ref 54)] [.ref 54] N (fun r N2 => if hasL L w = true then r = some (.int (J 0)) ∧ PMf M0 N2 (flt b n p 2) else r = some (.int (J 1)) ∧ gL N2 54 29 = JL (e5 w) ∧ vd 7 w = true ∧ PMs M0 k0 N2 b n (nx b n p) L T) := by
      intro z
      rw [z]
      change V G (d + 8) mX12_newName 38 _ _ N (fun r N2 => r = some (.int (J 0)) ∧ PMf M0 N2 (flt b n p 2))
      refine v_iconst (pc := 38) 18 rfl ?_
      refine v_iconst (pc := 39) 19 rfl ?_
      refine v_cV2i (pc := 40) 20 rfl cv_X12_189 rfl (Nat.le_of_ble_eq_true rfl) (Nat.le_of_ble_eq_true rfl) (must_f (by decide) h3.1) ?_
      refine v_if_neF (pc := 43) 21 48 rfl (by decide) (by omega) (by decide) ?_
      refine v_iconst (pc := 46) 22 rfl ?_
      refine v_zret (pc := 47) 23 rfl rfl (by decide) ⟨rfl, h.no (by decide)⟩
    refine v_aload_n (pc := 0) 0 rfl rfl ?_
    refine v_aload_n (pc := 1) 1 rfl rfl ?_
    refine v_cV0i (pc := 2) 2 rfl cv_X12_202 rfl (Nat.le_of_ble_eq_true rfl) (Nat.le_of_ble_eq_true rfl) (ci) ?_
    refine v_iconst (pc := 5) 3 rfl ?_
    refine v_cV2i (pc := 6) 4 rfl cv_X12_189 rfl (Nat.le_of_ble_eq_true rfl) (Nat.le_of_ble_eq_true rfl) (must_t (by decide) h3.1) ?_
    refine v_if_eqF (pc := 9) 5 46 rfl (by decide) (by omega) (by decide) ?_
    refine v_aload_n (pc := 12) 6 rfl rfl ?_
    refine v_aload_n (pc := 13) 7 rfl rfl ?_
    refine v_cV0i (pc := 14) 8 rfl cv_X12_206 rfl (Nat.le_of_ble_eq_true rfl) (Nat.le_of_ble_eq_true rfl) (c0) ?_
    refine v_if_ge (pc := 17) 9 38 rfl (by decide) (by omega) (fun e1 => ?_) (fun e1 => ?_)
    · exact bad (hi.mpr (Or.inl (by omega)))
    · refine v_aload_n (pc := 20) 10 rfl rfl ?_
      refine v_cV0i (pc := 21) 11 rfl cv_X12_209 rfl (Nat.le_of_ble_eq_true rfl) (Nat.le_of_ble_eq_true rfl) (c1) ?_
      refine v_if_ge (pc := 24) 12 38 rfl (by decide) (by omega) (fun e2 => ?_) (fun e2 => ?_)
      · exact bad (hi.mpr (Or.inr (Or.inl (by omega))))
      · by_cases z : 0 ≤ numL L w 2
        · rw [decide_eq_true z] at c2
          refine v_aload_n (pc := 27) 13 rfl rfl ?_
          refine v_cV0i (pc := 28) 14 rfl cv_X12_212 rfl (Nat.le_of_ble_eq_true rfl) (Nat.le_of_ble_eq_true rfl) (c2) ?_
          refine v_if_neT (pc := 31) 15 38 rfl (by decide) (by omega) (by decide) ?_
          exact bad (hi.mpr (Or.inr (Or.inr z)))
        · rw [decide_eq_false z] at c2
          have hno : hasL L w = false := by
            cases y : hasL L w with
            | false => rfl
            | true => have := hi.mp y; omega
          rw [hno]
          change V G (d + 8) mX12_newName 27 _ _ N (fun r N2 => r = some (.int (J 1)) ∧ gL N2 54 29 = JL (e5 w) ∧ vd 7 w = true ∧ PMs M0 k0 N2 b n (nx b n p) L T)
          refine v_aload_n (pc := 27) 13 rfl rfl ?_
          refine v_cV0i (pc := 28) 14 rfl cv_X12_212 rfl (Nat.le_of_ble_eq_true rfl) (Nat.le_of_ble_eq_true rfl) (c2) ?_
          refine v_if_neF (pc := 31) 15 38 rfl (by decide) (by omega) (by decide) ?_
          refine v_iconst (pc := 34) 16 rfl ?_
          refine v_goto (pc := 35) 17 39 rfl (by decide) ?_
          refine v_iconst (pc := 39) 19 rfl ?_
          refine v_cV2i (pc := 40) 20 rfl cv_X12_189 rfl (Nat.le_of_ble_eq_true rfl) (Nat.le_of_ble_eq_true rfl) (must_t (by decide) h3.1) ?_
          refine v_if_neT (pc := 43) 21 48 rfl (by decide) (by omega) (by decide) ?_
          refine v_aload_n (pc := 48) 24 rfl rfl ?_
          refine v_aload_n (pc := 49) 25 rfl rfl ?_
          refine v_getL (pc := 50) 26 rfl fl_X12_127 rfl ?_
          rw [e8]
          refine v_putL (pc := 53) 27 rfl fl_X12_215 rfl ?_
          refine v_aload_n (pc := 56) 28 rfl rfl ?_
          refine v_cV0 (pc := 57) 29 rfl cv_X12_196 rfl (Nat.le_of_ble_eq_true rfl) (Nat.le_of_ble_eq_true rfl) (m_adv (h.nh (JL (e5 w))) (by omega)) (fun r9 N9 hq9 => ?_)
          obtain ⟨rfl, hA, hP⟩ := hq9
          have e29 : gL N9 54 29 = JL (e5 w) := by rw [hA.2.2.2.1 29 (by decide), gL_sL, if_pos rfl, if_pos rfl]
          show V G (d + 8) mX12_newName (57 + 3) _ [] _ _
          refine v_iconst (pc := 60) 30 rfl ?_
          refine v_zret (pc := 61) 31 rfl rfl (by decide) ⟨rfl, e29, x2, hP⟩
theorem m_takesTold (h : PMs M0 k0 N b n p L T) {x : Bool} {κ : Nat} (hx : κ = if x = true then 0 else 1) {bu u : Int} (hbu : (bu = -1 ∧ u = 0) ∨ ∃ a : Nat, a < 6 ∧ bu = (a : Int) ∧ u = ((2 ^ a : Nat) : Int)) : V G (d + 8) mX12_takesTold 0 [some (.ref 54), some (.int (J (b2i x))), some (.int (J bu))] [] N (fun r N2 => onR (rTold b n L κ u p) (fun e => r = some (.int (J 0)) ∧ PMf M0 N2 e) (fun q => r = some (.int (J 1)) ∧ gI N2 54 30 = q.1 ∧ (∀ x, x ≠ 54 → gI N2 x = gI N x) ∧ PMs M0 k0 N2 b n q.2 L T)) := by
  obtain ⟨h1, h2, h3, h4, h5, h6, h7, h8, h9⟩ := id h
  have ci := m_isName (G := G) (d := d) h2
  have bt9 := b2i_r true
  have bf9 := b2i_r false
  unfold rTold
  cases q : isNm b n p with
  | false =>
    rw [q] at ci
    rw [if_pos rfl]
    refine v_aload_n (pc := 0) 0 rfl rfl ?_
    refine v_aload_n (pc := 1) 1 rfl rfl ?_
    refine v_cV0i (pc := 2) 2 rfl cv_X12_202 rfl (Nat.le_of_ble_eq_true rfl) (Nat.le_of_ble_eq_true rfl) (ci) ?_
    refine v_iconst (pc := 5) 3 rfl ?_
    refine v_cV2i (pc := 6) 4 rfl cv_X12_189 rfl (Nat.le_of_ble_eq_true rfl) (Nat.le_of_ble_eq_true rfl) (must_f (by decide) h3.1) ?_
    refine v_if_neF (pc := 9) 5 14 rfl (by decide) (by omega) (by decide) ?_
    refine v_iconst (pc := 12) 6 rfl ?_
    refine v_zret (pc := 13) 7 rfl rfl (by decide) ⟨rfl, h.no (by decide)⟩
  | true =>
    rw [q] at ci
    rw [if_neg (by decide)]
    have k1 := nm_kd q
    have r0 := num_r h4.2.1 (wv b n p) κ
    have hLI := h4.2.2.1
    have t0 := cnt_t T
    have rb : numL L (wv b n p) κ < 6 := by cases x with | true => rw [if_pos rfl] at hx; subst hx; omega | false => rw [if_neg (by decide)] at hx; subst hx; omega
    have c0 : κ = 0 → V G (d + 7) mX12_townNamed 0 [some (.ref 54), none] [] N (Ret (some (.int (J (numL L (wv b n p) κ)))) N) := fun z => by subst z; exact m_townNamed h k1
    have c1 : κ = 1 → V G (d + 7) mX12_judgeNamed 0 [some (.ref 54), none] [] N (Ret (some (.int (J (numL L (wv b n p) κ)))) N) := fun z => by subst z; exact m_judgeNamed h k1
    generalize hw : numL L (wv b n p) κ = w at *
    generalize hQ : (fun (r : Option Value) (N2 : Mem) => onR (if w < 0 then Sum.inl (flt b n p 3) else if bt u w ≠ 0 then Sum.inl (flt b n p 2) else Sum.inr (w, nx b n p)) (fun e => r = some (.int (J 0)) ∧ PMf M0 N2 e) (fun q => r = some (.int (J 1)) ∧ gI N2 54 30 = q.1 ∧ (∀ x, x ≠ 54 → gI N2 x = gI N x) ∧ PMs M0 k0 N2 b n q.2 L T)) = Q
    have hP := h.fld (f := 30) w (Or.inr rfl)
    have e30 : gI (sI N 54 30 w) 54 30 = w := by rw [g54, if_pos rfl]
    have h39 := hP.2.2.1.1
    have agp : ∀ x, x ≠ 54 → gI (sI N 54 30 w) x = gI N x := fun x hx => gI_sI_ne hx
    have tail : V G (d + 8) mX12_takesTold 33 [some (.ref 54), some (.int (J (b2i x))), some (.int (J bu))] [] (sI N 54 30 w) Q := by
      generalize sI N 54 30 w = P at *
      have hbr : -2147483648 ≤ bu ∧ bu ≤ 2147483647 := by rcases hbu with ⟨rfl, rfl⟩ | ⟨a, a1, rfl, rfl⟩ <;> omega
      have good : ∀ y : Int, y = 1 → (w < 0 ∨ w ≠ bu) → V G (d + 8) mX12_takesTold 54 [some (.ref 54), some (.int (J (b2i x))), some (.int (J bu))] [.int (J y), .ref 54] P Q := by
        intro y hy hor
        subst hy
        refine v_iconst (pc := 54) 28 rfl ?_
        refine v_cV2i (pc := 55) 29 rfl cv_X12_189 rfl (Nat.le_of_ble_eq_true rfl) (Nat.le_of_ble_eq_true rfl) (must_t (by decide) h39) ?_
        refine v_if_eqF (pc := 58) 30 81 rfl (by decide) (by omega) (by decide) ?_
        refine v_aload_n (pc := 61) 31 rfl rfl ?_
        refine v_aload_n (pc := 62) 32 rfl rfl ?_
        refine v_getI (pc := 63) 33 rfl fl_X12_218 rfl ?_
        refine v_if_lt (pc := 66) 34 73 rfl (by decide) (by omega) (fun e5 => ?_) (fun e5 => ?_)
        · refine v_iconst (pc := 73) 37 rfl ?_
          refine v_iconst (pc := 74) 38 rfl ?_
          refine v_cV2i (pc := 75) 39 rfl cv_X12_189 rfl (Nat.le_of_ble_eq_true rfl) (Nat.le_of_ble_eq_true rfl) (must_f (by decide) h39) ?_
          refine v_if_neF (pc := 78) 40 83 rfl (by decide) (by omega) (by decide) ?_
          refine v_iconst (pc := 81) 41 rfl ?_
          refine v_zret (pc := 82) 42 rfl rfl (by decide) (by rw [← hQ, if_pos (by omega)]; exact ⟨rfl, hP.no (by decide)⟩)
        · have hb0 : bt u w = 0 := by
            rcases hbu with ⟨rfl, rfl⟩ | ⟨a, a1, rfl, rfl⟩
            · unfold bt; simp
            · have hne : ¬ (w = (a : Int)) := by omega
              have := bt_pw ⟨a, a1⟩ ⟨w.toNat, by omega⟩ (by intro z; have := congrArg Fin.val z; exact hne (by simp only at this; omega))
              have e9 : ((w.toNat : Nat) : Int) = w := by omega
              simp only [e9] at this
              exact this
          refine v_iconst (pc := 69) 35 rfl ?_
          refine v_goto (pc := 70) 36 74 rfl (by decide) ?_
          refine v_iconst (pc := 74) 38 rfl ?_
          refine v_cV2i (pc := 75) 39 rfl cv_X12_189 rfl (Nat.le_of_ble_eq_true rfl) (Nat.le_of_ble_eq_true rfl) (must_t (by decide) h39) ?_
          refine v_if_neT (pc := 78) 40 83 rfl (by decide) (by omega) (by decide) ?_
          refine v_aload_n (pc := 83) 43 rfl rfl ?_
          refine v_cV0 (pc := 84) 44 rfl cv_X12_196 rfl (Nat.le_of_ble_eq_true rfl) (Nat.le_of_ble_eq_true rfl) (m_adv hP (by omega)) (fun r9 N9 hq9 => ?_)
          obtain ⟨rfl, hA, hP2⟩ := hq9
          have f30 : gI N9 54 30 = w := by rw [hA.2.1 30 (by decide) (by decide) (by decide) (by decide)]; exact e30
          show V G (d + 8) mX12_takesTold (84 + 3) _ [] _ _
          refine v_iconst (pc := 87) 45 rfl ?_
          refine v_zret (pc := 88) 46 rfl rfl (by decide) (by rw [← hQ, if_neg (by omega), if_neg (fun z => z hb0)]; exact ⟨rfl, f30, fun x hx => by rw [hA.1 x hx]; exact agp x hx, hP2⟩)
      refine v_aload_n (pc := 33) 17 rfl rfl ?_
      refine v_aload_n (pc := 34) 18 rfl rfl ?_
      refine v_getI (pc := 35) 19 rfl fl_X12_218 rfl ?_
      refine v_if_lt (pc := 38) 20 49 rfl (by decide) (by omega) (fun e1 => ?_) (fun e1 => ?_)
      · refine v_iconst (pc := 49) 25 rfl ?_
        refine v_goto (pc := 50) 26 54 rfl (by decide) ?_
        exact good 1 rfl (Or.inl (by omega))
      · refine v_aload_n (pc := 41) 21 rfl rfl ?_
        refine v_getI (pc := 42) 22 rfl fl_X12_218 rfl ?_
        refine v_iload_n (pc := 45) 23 rfl rfl ?_
        refine v_ic_eq (pc := 46) 24 53 rfl (by decide) (by omega) (fun e2 => ?_) (fun e2 => ?_)
        · have hb1 : bt u w ≠ 0 := by
            rcases hbu with ⟨rfl, rfl⟩ | ⟨a, a1, rfl, rfl⟩
            · omega
            · have : w = (a : Int) := by omega
              rw [this]
              have := bt_pw1 ⟨a, a1⟩
              intro z
              exact absurd (this.symm.trans z) (by decide)
          refine v_iconst (pc := 53) 27 rfl ?_
          refine v_iconst (pc := 54) 28 rfl ?_
          refine v_cV2i (pc := 55) 29 rfl cv_X12_189 rfl (Nat.le_of_ble_eq_true rfl) (Nat.le_of_ble_eq_true rfl) (must_f (by decide) h39) ?_
          refine v_if_eqT (pc := 58) 30 81 rfl (by decide) (by omega) (by decide) ?_
          refine v_iconst (pc := 81) 41 rfl ?_
          refine v_zret (pc := 82) 42 rfl rfl (by decide) (by rw [← hQ, if_neg (by omega), if_pos hb1]; exact ⟨rfl, hP.no (by decide)⟩)
        · refine v_iconst (pc := 49) 25 rfl ?_
          refine v_goto (pc := 50) 26 54 rfl (by decide) ?_
          exact good 1 rfl (Or.inr (by omega))
    cases x with
    | true =>
      rw [if_pos rfl] at hx
      refine v_aload_n (pc := 0) 0 rfl rfl ?_
      refine v_aload_n (pc := 1) 1 rfl rfl ?_
      refine v_cV0i (pc := 2) 2 rfl cv_X12_202 rfl (Nat.le_of_ble_eq_true rfl) (Nat.le_of_ble_eq_true rfl) (ci) ?_
      refine v_iconst (pc := 5) 3 rfl ?_
      refine v_cV2i (pc := 6) 4 rfl cv_X12_189 rfl (Nat.le_of_ble_eq_true rfl) (Nat.le_of_ble_eq_true rfl) (must_t (by decide) h3.1) ?_
      refine v_if_neT (pc := 9) 5 14 rfl (by decide) (by omega) (by decide) ?_
      refine v_aload_n (pc := 14) 8 rfl rfl ?_
      refine v_iload_n (pc := 15) 9 rfl rfl ?_
      refine v_if_eqF (pc := 16) 10 26 rfl (by decide) (by omega) (by decide) ?_
      refine v_aload_n (pc := 19) 11 rfl rfl ?_
      refine v_cV0i (pc := 20) 12 rfl cv_X12_206 rfl (Nat.le_of_ble_eq_true rfl) (Nat.le_of_ble_eq_true rfl) (c0 hx) ?_
      refine v_goto (pc := 23) 13 30 rfl (by decide) ?_
      refine v_putI (pc := 30) 16 rfl fl_X12_218 rfl ?_
      exact tail
    | false =>
      rw [if_neg (by decide)] at hx
      refine v_aload_n (pc := 0) 0 rfl rfl ?_
      refine v_aload_n (pc := 1) 1 rfl rfl ?_
      refine v_cV0i (pc := 2) 2 rfl cv_X12_202 rfl (Nat.le_of_ble_eq_true rfl) (Nat.le_of_ble_eq_true rfl) (ci) ?_
      refine v_iconst (pc := 5) 3 rfl ?_
      refine v_cV2i (pc := 6) 4 rfl cv_X12_189 rfl (Nat.le_of_ble_eq_true rfl) (Nat.le_of_ble_eq_true rfl) (must_t (by decide) h3.1) ?_
      refine v_if_neT (pc := 9) 5 14 rfl (by decide) (by omega) (by decide) ?_
      refine v_aload_n (pc := 14) 8 rfl rfl ?_
      refine v_iload_n (pc := 15) 9 rfl rfl ?_
      refine v_if_eqT (pc := 16) 10 26 rfl (by decide) (by omega) (by decide) ?_
      refine v_aload_n (pc := 26) 14 rfl rfl ?_
      refine v_cV0i (pc := 27) 15 rfl cv_X12_209 rfl (Nat.le_of_ble_eq_true rfl) (Nat.le_of_ble_eq_true rfl) (c1 hx) ?_
      refine v_putI (pc := 30) 16 rfl fl_X12_218 rfl ?_
      exact tail
end MRead
