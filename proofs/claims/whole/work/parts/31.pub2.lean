/-! 31: the class's public methods, further -/
theorem gt_sf {T : Tx} {d : Int} {l : List Nat} {S : Sx} (hl : ∀ x ∈ l, x < 12) (hS : SF S) (i : Nat) (hi : i ≤ l.length) : SF (gt T d l S i).2 := by
  induction i with
  | zero => exact hS
  | succ i ih =>
    have hx : l.getD i 0 < 12 := hl _ (by rw [List.getD_eq_getElem?_getD, List.getElem?_eq_getElem (by omega)]; exact List.getElem_mem _)
    show SF (if _ then gt T d l S i else _).2
    split
    · exact ih (by omega)
    · exact (ih (by omega)).set hx _ _
theorem plA_sf {l : List Nat} {g : Nat → Int} {d : Int} {S : Sx} (hl : ∀ x ∈ l, x < 12) (hS : SF S) (i : Nat) (hi : i ≤ l.length) : SF (plA l g d S i) := by
  induction i with
  | zero => exact hS
  | succ i ih =>
    have hx : l.getD i 0 < 12 := hl _ (by rw [List.getD_eq_getElem?_getD, List.getElem?_eq_getElem (by omega)]; exact List.getElem_mem _)
    show SF (if _ then _ else _)
    split
    · exact ih (by omega)
    · exact (ih (by omega)).set hx _ _
def goR (T : Tx) (S : Sx) (a : Int) : Nat → Int × Sx
  | 0 => (0, S)
  | i + 1 => ((goR T S a i).1 + (goD T (goR T S a i).2 (a + i)).1, (goD T (goR T S a i).2 (a + i)).2)
theorem goD_ok {T : Tx} {S : Sx} {d : Int} (hT : TOk T) (hd : 0 ≤ d ∧ d ≤ 60) (hS : SOk T S) (hF : SF S) : SOk T (goD T S d).2 ∧ SF (goD T S d).2 ∧ 0 ≤ (goD T S d).1 ∧ (goD T S d).1 ≤ 12 := by
  have h12 := hT.2.2.1
  have hl := op_len hT S hd.1
  obtain ⟨g1, g2, g3⟩ := gt_ok (T := T) hd (l := opN T S d (nK T)) (fun x hx => op_lt hx) hS _ (Nat.le_refl _)
  exact ⟨g1, gt_sf (fun x hx => by have := op_lt hx; omega) hF _ (Nat.le_refl _), g2, by unfold goD; omega⟩
theorem goR_ok {T : Tx} {S : Sx} {a : Int} (hT : TOk T) (hS : SOk T S) (hF : SF S) (ha : 0 ≤ a) (i : Nat) (hi : a + i ≤ 61) : SOk T (goR T S a i).2 ∧ SF (goR T S a i).2 ∧ 0 ≤ (goR T S a i).1 ∧ (goR T S a i).1 ≤ 12 * i := by
  induction i with
  | zero => exact ⟨hS, hF, Int.le_refl _, by show (0 : Int) ≤ _; omega⟩
  | succ i ih =>
    obtain ⟨h1, h2, h3, h4⟩ := ih (by omega)
    obtain ⟨g1, g2, g3, g4⟩ := goD_ok hT (d := a + i) (by omega) h1 h2
    refine ⟨g1, g2, ?_, ?_⟩
    · show 0 ≤ (goR T S a i).1 + (goD T (goR T S a i).2 (a + i)).1; omega
    · show (goR T S a i).1 + (goD T (goR T S a i).2 (a + i)).1 ≤ _; omega
section Pub2
variable {G : Gt} {d : Nat} {M N : Mem} {A : Ax} {c c2 : Nat}
theorem CRc.ci (h : CRc M A c c2) : CI M c := h.2.2.2.1
theorem CRc.eT (h : CRc M A c c2) : tOf M c = aT A := h.2.2.2.2.1
theorem CRc.eS (h : CRc M A c c2) : sOf M = aS A := h.2.2.2.2.2.1
theorem CRc.ok (h : CRc M A c c2) : AOk A := h.2.2.2.2.2.2.2.2.2
theorem CRc.ur (h : CRc M A c c2) : UR M (aU A) := h.2.2.2.2.2.2.2.1
theorem CRc.kr (h : CRc M A c c2) : KR M (aK A) := h.2.2.2.2.2.2.2.2.1
theorem CRc.tp (h : CRc M A c c2) : gI M 0 1 = (aN A : Int) ∧ aN A ≤ 800 ∧ ∀ i, i < aN A → gI M 1 i = aB A i ∧ -128 ≤ aB A i ∧ aB A i < 128 := h.2.2.2.2.2.2.1
theorem CRc.tok (h : CRc M A c c2) : TOk (aT A) := h.ok.1
theorem CRc.sok (h : CRc M A c c2) : SOk (aT A) (aS A) := h.ok.2.1.1
theorem CRc.sf (h : CRc M A c c2) : SF (aS A) := h.ok.2.1.2
/-- other sittings, and the list of the oldest -/
theorem CRc.w (h : CRc M A c c2) {S2 : Sx} (h1 : SOk (aT A) S2) (h2 : SF S2) : CRc (wS M S2) (A.1, aT A, S2, aU A, aK A) c c2 := h.chS (wS_s _ _) h1 h2 (fun q hq => wS_ne (by omega)) rfl
theorem wS_cf (M : Mem) (S : Sx) : CF M (wS M S) := fun q hq => ⟨wS_ne (by omega), rfl⟩
theorem CRc.bs (h : CRc M A c c2) {f : Nat → Int} {dd : Int} {a : Nat} {B : Bx} (hb : BSM (aI M 11 f) N c (sOf M) dd a B) : CRc N A c c2 ∧ CF M N := by
  obtain ⟨h1, h2, h3, h4, -⟩ := hb
  have e : ∀ q, q ≠ 9 → q ≠ 10 → q ≠ 11 → ¬ (12 ≤ q ∧ q ≤ 19) → gI N q = gI M q := fun q q1 q2 q3 q4 => by rw [h1 q q1 q2 q4, gI_aI_ne q3]
  refine ⟨h.same (fun q hq => ?_) h3, fun q hq => ⟨e q (by omega) (by omega) (by omega) (by omega), by rw [h2]; rfl⟩⟩
  by_cases e9 : q = 9
  · rw [e9]; exact congrArg (fun S : Sx => S.1) h4
  · by_cases e10 : q = 10
    · rw [e10]; exact congrArg (fun S : Sx => S.2) h4
    · exact e q e9 e10 (by omega) (by omega)
theorem CRc.fs (h : CRc M A c c2) {F : Fx} (hb : FSM M N c (sOf M) F) : CRc N A c c2 ∧ CF M N := by
  obtain ⟨h1, h2, h3, h4, -⟩ := hb
  refine ⟨h.same (fun q hq => ?_) h3, fun q hq => ⟨h1 q (by omega) (by omega) (by omega), by rw [h2]⟩⟩
  by_cases e9 : q = 9
  · rw [e9]; exact congrArg (fun S : Sx => S.1) h4
  · by_cases e10 : q = 10
    · rw [e10]; exact congrArg (fun S : Sx => S.2) h4
    · exact h1 q e9 e10 (by omega)
def sGo (A : Ax) (a b : Int) : Int × Ax := if (0 ≤ a ∧ a ≤ 60) ∧ (0 ≤ b ∧ b ≤ 60) ∧ a ≤ b then ((goR (aT A) (aS A) a (b - a + 1).toNat).1, (A.1, aT A, (goR (aT A) (aS A) a (b - a + 1).toNat).2, push (aU A) (aS A), aK A)) else (-1, A)
theorem c_go (h : CRc M A c c2) {a b : Int} (ha : -2147483648 ≤ a ∧ a ≤ 2147483647) (hb : -2147483648 ≤ b ∧ b ≤ 2147483647) : V G (d + 5) mX11_go 0 [some (.ref 0), some (.int (J a)), some (.int (J b)), none, none] [] M (fun r N => r = some (.int (J (sGo A a b).1)) ∧ CRc N (sGo A a b).2 c c2 ∧ CF M N) := by
  unfold sGo
  refine v_iload_n (pc := 0) 0 rfl rfl ?_
  refine v_cS1i (pc := 1) 1 rfl cs_X11_169 (Nat.le_of_ble_eq_true rfl) (Nat.le_of_ble_eq_true rfl) (c_isDay ha) ?_
  refine v_if_eq (pc := 4) 2 19 rfl (by decide) (by omega) (fun e1 => ?_) (fun e1 => ?_)
  · rw [if_neg (by omega)]
    refine v_iconst (pc := 19) 9 rfl ?_
    refine v_iret (pc := 20) 10 rfl rfl ⟨rfl, h, CF.rfl9 M⟩
  · refine v_iload_n (pc := 7) 3 rfl rfl ?_
    refine v_cS1i (pc := 8) 4 rfl cs_X11_169 (Nat.le_of_ble_eq_true rfl) (Nat.le_of_ble_eq_true rfl) (c_isDay hb) ?_
    refine v_if_eq (pc := 11) 5 19 rfl (by decide) (by omega) (fun e2 => ?_) (fun e2 => ?_)
    · rw [if_neg (by omega)]
      refine v_iconst (pc := 19) 9 rfl ?_
      refine v_iret (pc := 20) 10 rfl rfl ⟨rfl, h, CF.rfl9 M⟩
    · refine v_iload_n (pc := 14) 6 rfl rfl ?_
      refine v_iload_n (pc := 15) 7 rfl rfl ?_
      refine v_ic_ge (pc := 16) 8 21 rfl (by decide) (by omega) (fun e3 => ?_) (fun e3 => ?_)
      · rw [if_pos (by omega)]
        obtain ⟨n, hn⟩ : ∃ n : Nat, (b - a + 1).toNat = n := ⟨_, rfl⟩
        rw [hn]
        refine v_aload_n (pc := 21) 11 rfl rfl ?_
        refine v_getC (pc := 22) 12 rfl fl_X11_71 rfl 29 rfl ?_
        refine v_cV0v (pc := 25) 13 rfl cv_X11_179 rfl (Nat.le_of_ble_eq_true rfl) (Nat.le_of_ble_eq_true rfl) (c_beg h) ?_
        refine v_iconst (pc := 28) 14 rfl ?_
        refine v_istore_n (pc := 29) 15 rfl ⟨Nat.le_of_ble_eq_true rfl, rfl⟩ ?_
        refine v_iload_n (pc := 30) 16 rfl rfl ?_
        refine v_istore (pc := 31) 17 rfl ⟨Nat.le_of_ble_eq_true rfl, rfl⟩ ?_
        have loop := loopN (N := n) (fun i => ∀ N, CRc N (A.1, aT A, (goR (aT A) (aS A) a i).2, push (aU A) (aS A), aK A) c c2 → CF M N → V G (d + 5) mX11_go 33 [some (.ref 0), some (.int (J a)), some (.int (J b)), some (.int (J (goR (aT A) (aS A) a i).1)), some (.int (J (a + i)))] [] N (fun r N => r = some (.int (J (goR (aT A) (aS A) a n).1)) ∧ CRc N (A.1, aT A, (goR (aT A) (aS A) a n).2, push (aU A) (aS A), aK A) c c2 ∧ CF M N)) ?_ ?_
        · have := loop _ (beg_cr h) (beg_cf M)
          rw [show a + ((0 : Nat) : Int) = a by omega] at this
          exact this
        · intro N1 h1 h2
          refine v_iload (pc := 33) 18 rfl rfl ?_
          refine v_iload_n (pc := 35) 19 rfl rfl ?_
          refine v_ic_gtT (pc := 36) 20 57 rfl (by decide) (by omega) (by omega) ?_
          refine v_iload_n (pc := 57) 30 rfl rfl ?_
          refine v_iret (pc := 58) 31 rfl rfl ⟨rfl, h1, h2⟩
        · intro i hi ih N1 h1 h2
          obtain ⟨k1, k2, k3, k4⟩ := goR_ok h.tok h.sok h.sf (a := a) (by omega) i (by omega)
          obtain ⟨g1, g2, g3, g4⟩ := goD_ok h.tok (d := a + i) (by omega) k1 k2
          have cl := c_goThrough (G := G) (d := d) h1.ci (dd := a + i) (by omega)
          rw [h1.eT, h1.eS] at cl
          refine v_iload (pc := 33) 18 rfl rfl ?_
          refine v_iload_n (pc := 35) 19 rfl rfl ?_
          refine v_ic_gtF (pc := 36) 20 57 rfl (by decide) (by omega) (by omega) ?_
          refine v_iload_n (pc := 39) 21 rfl rfl ?_
          refine v_aload_n (pc := 40) 22 rfl rfl ?_
          refine v_getC (pc := 41) 23 rfl fl_X11_41 rfl 8 rfl ?_
          refine v_iload (pc := 44) 24 rfl rfl ?_
          refine v_cV1 (pc := 46) 25 rfl cv_X11_205 rfl (Nat.le_of_ble_eq_true rfl) (Nat.le_of_ble_eq_true rfl) (cl) (fun r9 N9 hq9 => ?_)
          obtain ⟨f, rfl, rfl⟩ := hq9
          show V G (d + 5) mX11_go (46 + 3) _ [.int (J (goD (aT A) (goR (aT A) (aS A) a i).2 (a + i)).1), .int (J (goR (aT A) (aS A) a i).1)] _ _
          refine v_iadd (pc := 49) 26 rfl ?_
          refine v_istore_n (pc := 50) 27 rfl ⟨Nat.le_of_ble_eq_true rfl, rfl⟩ ?_
          refine v_iinc (pc := 51) 28 rfl rfl ⟨Nat.le_of_ble_eq_true rfl, rfl⟩ ?_
          refine v_goto (pc := 54) 29 33 rfl (by decide) ?_
          rw [show a + (i : Int) + 1 = a + ((i + 1 : Nat) : Int) by omega]
          exact ih _ ((h1.w (S2 := (goR (aT A) (aS A) a (i + 1)).2) g1 g2).s11 f) ((h2.trans (wS_cf _ _)).trans (a11_cf _ _))
      · rw [if_neg (by omega)]
        refine v_iconst (pc := 19) 9 rfl ?_
        refine v_iret (pc := 20) 10 rfl rfl ⟨rfl, h, CF.rfl9 M⟩
def sBest (A : Ax) (t k w : Int) : Int := if ((0 ≤ t ∧ t ≤ 60) ∧ (0 ≤ k ∧ k ≤ 5)) ∧ (0 ≤ w ∧ w ≤ 2) then (if w = 0 then (bestC (aT A) (aS A) t k.toNat).1 else if w = 1 then gd (bestC (aT A) (aS A) t k.toNat).2.1 0 else sq (gd (bestC (aT A) (aS A) t k.toNat).2.1) (nJ (aT A))) else -1
theorem sq_congr {f g : Nat → Int} {n : Nat} (h : ∀ i, i < n → f i = g i) : sq f n = sq g n := sumN_congr n (fun i hi => by rw [h i hi])
/-- what is known of the best -/
theorem best_f {T : Tx} (hT : TOk T) (S : Sx) (t : Int) {n : Nat} (hn : n ≤ 5) : (0 ≤ (bestC T S t n).1 ∧ (bestC T S t n).1 ≤ 5) ∧ (bestC T S t n).2.1.length = nJ T ∧ (∀ i, 0 ≤ gd (bestC T S t n).2.1 i ∧ gd (bestC T S t n).2.1 i ≤ 4320) ∧ ∀ i, i < askN T S t n → -1 ≤ (bestC T S t n).2.2 i ∧ (bestC T S t n).2.2 i < nJ T := by
  have h0 := bestC_heard T S t n
  obtain ⟨h1, h2⟩ := bestC_ok T S t n
  have ha : askN T S t n ≤ 5 := by unfold askN; omega
  rcases h2 with q | ⟨⟨S2, q1⟩, q2⟩
  · omega
  · refine ⟨⟨h0, by omega⟩, by rw [q1, sdl_len], fun i => ?_, q2⟩
    rw [q1]
    by_cases e : i < nJ T
    · exact sdl_b hT S2 e
    · have : gd (sdl T S2) i = 0 := by unfold gd; rw [List.getD_eq_getElem?_getD, List.getElem?_eq_none (by rw [sdl_len]; omega)]; rfl
      rw [this]; omega
theorem c_best (h : CRc M A c c2) {t k w : Int} (ht : -2147483648 ≤ t ∧ t ≤ 2147483647) (hk : -2147483648 ≤ k ∧ k ≤ 2147483647) (hw : -2147483648 ≤ w ∧ w ≤ 2147483647) : V G (d + 15) mX11_best 0 [some (.ref 0), some (.int (J t)), some (.int (J k)), some (.int (J w))] [] M (fun r N => r = some (.long (JL (sBest A t k w))) ∧ CRc N A c c2 ∧ CF M N) := by
  have hn := h.nn
  unfold sBest
  refine v_iload_n (pc := 0) 0 rfl rfl ?_
  refine v_iload_n (pc := 1) 1 rfl rfl ?_
  refine v_cS2i (pc := 2) 2 rfl cs_X11_208 (Nat.le_of_ble_eq_true rfl) (Nat.le_of_ble_eq_true rfl) (c_mayAsk ht hk) ?_
  refine v_if_eq (pc := 5) 3 17 rfl (by decide) (by omega) (fun e1 => ?_) (fun e1 => ?_)
  · rw [if_neg (by omega)]
    refine v_ldc2J (pc := 17) 9 rfl kcLong_X11_212 (-1) (by decide) ?_
    refine v_lret (pc := 20) 10 rfl rfl ⟨rfl, h, CF.rfl9 M⟩
  · refine v_iload_n (pc := 8) 4 rfl rfl ?_
    refine v_if_lt (pc := 9) 5 17 rfl (by decide) (by omega) (fun e2 => ?_) (fun e2 => ?_)
    · rw [if_neg (by omega)]
      refine v_ldc2J (pc := 17) 9 rfl kcLong_X11_212 (-1) (by decide) ?_
      refine v_lret (pc := 20) 10 rfl rfl ⟨rfl, h, CF.rfl9 M⟩
    · refine v_iload_n (pc := 12) 6 rfl rfl ?_
      refine v_iconst (pc := 13) 7 rfl ?_
      refine v_ic_le (pc := 14) 8 21 rfl (by decide) (by omega) (fun e3 => ?_) (fun e3 => ?_)
      · rw [if_pos (by omega)]
        obtain ⟨n, rfl⟩ : ∃ n : Nat, k = (n : Int) := ⟨k.toNat, by omega⟩
        rw [Int.toNat_natCast]
        have hn5 : n ≤ 5 := by omega
        have cl := c_find (G := G) (d := d) h.ci (dd := t) (by omega) hn5
        rw [h.eT] at cl
        refine v_aload_n (pc := 21) 11 rfl rfl ?_
        refine v_getC (pc := 22) 12 rfl fl_X11_50 rfl 12 rfl ?_
        refine v_iload_n (pc := 25) 13 rfl rfl ?_
        refine v_iload_n (pc := 26) 14 rfl rfl ?_
        refine v_cV2 (pc := 27) 15 rfl cv_X11_214 rfl (Nat.le_of_ble_eq_true rfl) (Nat.le_of_ble_eq_true rfl) (cl) (fun r9 N9 hq9 => ?_)
        obtain ⟨rfl, f, hf, hb⟩ := hq9
        obtain ⟨hN, hcf⟩ := h.bs hb
        rw [h.eS] at hb
        obtain ⟨f1, f2, f3, f4⟩ := best_f h.tok (aS A) t hn5
        obtain ⟨-, -, -, -, b5, b6, b7, -, b9⟩ := hb
        have eT2 : tOf (aI M 11 f) c = aT A := (h.s11 f).eT
        rw [eT2] at b9
        obtain ⟨c1, c2', c3⟩ := b9.resolve_left (by omega)
        generalize bestC (aT A) (aS A) t n = B at *
        show V G (d + 15) mX11_best (27 + 3) _ [] _ _
        rcases (by omega : w = 0 ∨ w = 1 ∨ w = 2) with rfl | rfl | rfl
        · refine v_iload_n (pc := 30) 16 rfl rfl ?_
          refine v_lsw (pc := 31) 17 56 rfl (by decide) (by decide) rfl (by decide) ?_
          refine v_aload_n (pc := 56) 18 rfl rfl ?_
          refine v_getC (pc := 57) 19 rfl fl_X11_50 rfl 12 rfl ?_
          refine v_getI (pc := 60) 20 rfl fl_X11_218 rfl ?_
          rw [b7]
          refine v_i2l (pc := 63) 21 rfl (by omega) ?_
          refine v_lret (pc := 64) 22 rfl rfl ⟨rfl, hN, hcf⟩
        · refine v_iload_n (pc := 30) 16 rfl rfl ?_
          refine v_lsw (pc := 31) 17 65 rfl (by decide) (by decide) rfl (by decide) ?_
          refine v_aload_n (pc := 65) 23 rfl rfl ?_
          refine v_getC (pc := 66) 24 rfl fl_X11_50 rfl 12 rfl ?_
          refine v_getC (pc := 69) 25 rfl fl_X11_221 rfl 18 rfl ?_
          refine v_cV0i (pc := 72) 26 rfl cv_X11_225 rfl (Nat.le_of_ble_eq_true rfl) (Nat.le_of_ble_eq_true rfl) (c_greatest (by omega) hn.2.2.2.2.1 c1) ?_
          have e : (if nJ (aT A) = 0 then 0 else gI N9 (18 + 1) 0) = gd B.2.1 0 := by
            by_cases e : nJ (aT A) = 0
            · rw [if_pos e, List.eq_nil_of_length_eq_zero (f2.trans e)]; rfl
            · rw [if_neg e]; exact repI_get c2' (by omega)
          have := f3 0
          rw [e]
          refine v_i2l (pc := 75) 27 rfl (by omega) ?_
          refine v_lret (pc := 76) 28 rfl rfl ⟨rfl, hN, hcf⟩
        · have e : sq (gI N9 (18 + 1)) (nJ (aT A)) = sq (gd B.2.1) (nJ (aT A)) := sq_congr (fun i hi => repI_get c2' (by omega))
          refine v_iload_n (pc := 30) 16 rfl rfl ?_
          refine v_lsw (pc := 31) 17 77 rfl (by decide) (by decide) rfl (by decide) ?_
          refine v_aload_n (pc := 77) 29 rfl rfl ?_
          refine v_getC (pc := 78) 30 rfl fl_X11_50 rfl 12 rfl ?_
          refine v_getC (pc := 81) 31 rfl fl_X11_221 rfl 18 rfl ?_
          refine v_cV0l (pc := 84) 32 rfl cv_X11_231 rfl (Nat.le_of_ble_eq_true rfl) (Nat.le_of_ble_eq_true rfl) (c_sumOfSquares (by omega) hn.2.2.2.2.1 c1 (fun j hj => by rw [repI_get c2' (by omega)]; have := f3 j; omega)) ?_
          rw [e]
          refine v_lret (pc := 87) 33 rfl rfl ⟨rfl, hN, hcf⟩
      · rw [if_neg (by omega)]
        refine v_ldc2J (pc := 17) 9 rfl kcLong_X11_212 (-1) (by decide) ?_
        refine v_lret (pc := 20) 10 rfl rfl ⟨rfl, h, CF.rfl9 M⟩
def sBestOf (A : Ax) (t k i : Int) : Int := if (0 ≤ t ∧ t ≤ 60) ∧ (0 ≤ k ∧ k ≤ 5) then (if 0 ≤ i ∧ i < askN (aT A) (aS A) t k.toNat then (bestC (aT A) (aS A) t k.toNat).2.2 i.toNat else -2) else -2
theorem c_bestOf (h : CRc M A c c2) {t k i : Int} (ht : -2147483648 ≤ t ∧ t ≤ 2147483647) (hk : -2147483648 ≤ k ∧ k ≤ 2147483647) (hi : -2147483648 ≤ i ∧ i ≤ 2147483647) : V G (d + 15) mX11_bestOf 0 [some (.ref 0), some (.int (J t)), some (.int (J k)), some (.int (J i))] [] M (fun r N => r = some (.int (J (sBestOf A t k i))) ∧ CRc N A c c2 ∧ CF M N) := by
  have hn := h.nn
  unfold sBestOf
  refine v_iload_n (pc := 0) 0 rfl rfl ?_
  refine v_iload_n (pc := 1) 1 rfl rfl ?_
  refine v_cS2i (pc := 2) 2 rfl cs_X11_208 (Nat.le_of_ble_eq_true rfl) (Nat.le_of_ble_eq_true rfl) (c_mayAsk ht hk) ?_
  refine v_if_ne (pc := 5) 3 11 rfl (by decide) (by omega) (fun e1 => ?_) (fun e1 => ?_)
  · rw [if_pos (by omega)]
    obtain ⟨n, rfl⟩ : ∃ n : Nat, k = (n : Int) := ⟨k.toNat, by omega⟩
    rw [Int.toNat_natCast]
    have hn5 : n ≤ 5 := by omega
    have cl := c_find (G := G) (d := d) h.ci (dd := t) (by omega) hn5
    rw [h.eT] at cl
    refine v_aload_n (pc := 11) 6 rfl rfl ?_
    refine v_getC (pc := 12) 7 rfl fl_X11_50 rfl 12 rfl ?_
    refine v_iload_n (pc := 15) 8 rfl rfl ?_
    refine v_iload_n (pc := 16) 9 rfl rfl ?_
    refine v_cV2 (pc := 17) 10 rfl cv_X11_214 rfl (Nat.le_of_ble_eq_true rfl) (Nat.le_of_ble_eq_true rfl) (cl) (fun r9 N9 hq9 => ?_)
    obtain ⟨rfl, f, hf, hb⟩ := hq9
    obtain ⟨hN, hcf⟩ := h.bs hb
    rw [h.eS] at hb
    obtain ⟨f1, f2, f3, f4⟩ := best_f h.tok (aS A) t hn5
    obtain ⟨-, -, -, -, b5, b6, b7, -, b9⟩ := hb
    have eT2 : tOf (aI M 11 f) c = aT A := (h.s11 f).eT
    rw [eT2] at b9
    obtain ⟨c1, c2', c3⟩ := b9.resolve_left (by omega)
    have ha : askN (aT A) (aS A) t n ≤ 5 := by unfold askN; omega
    generalize bestC (aT A) (aS A) t n = B at *
    show V G (d + 15) mX11_bestOf (17 + 3) _ [] _ _
    refine v_iload_n (pc := 20) 11 rfl rfl ?_
    refine v_if_lt (pc := 21) 12 47 rfl (by decide) (by omega) (fun e2 => ?_) (fun e2 => ?_)
    · rw [if_neg (by omega)]
      refine v_bipush (pc := 47) 24 rfl (by decide) ?_
      refine v_iret (pc := 49) 25 rfl rfl ⟨rfl, hN, hcf⟩
    · refine v_iload_n (pc := 24) 13 rfl rfl ?_
      refine v_aload_n (pc := 25) 14 rfl rfl ?_
      refine v_getC (pc := 26) 15 rfl fl_X11_50 rfl 12 rfl ?_
      refine v_getI (pc := 29) 16 rfl fl_X11_235 rfl ?_
      refine v_ic_ge (pc := 32) 17 47 rfl (by decide) (by omega) (fun e3 => ?_) (fun e3 => ?_)
      · rw [if_neg (by omega)]
        refine v_bipush (pc := 47) 24 rfl (by decide) ?_
        refine v_iret (pc := 49) 25 rfl rfl ⟨rfl, hN, hcf⟩
      · rw [if_pos (by omega)]
        obtain ⟨i1, rfl⟩ : ∃ i1 : Nat, i = (i1 : Int) := ⟨i.toNat, by omega⟩
        have e := c3 i1 (by omega)
        rw [Int.toNat_natCast]
        refine v_aload_n (pc := 35) 18 rfl rfl ?_
        refine v_getC (pc := 36) 19 rfl fl_X11_50 rfl 12 rfl ?_
        refine v_getC (pc := 39) 20 rfl fl_X11_238 rfl 17 rfl ?_
        refine v_iload_n (pc := 42) 21 rfl rfl ?_
        refine v_ialdN (pc := 43) 22 rfl rfl (by omega) ?_
        rw [e]
        refine v_goto (pc := 44) 23 49 rfl (by decide) ?_
        refine v_iret (pc := 49) 25 rfl rfl ⟨rfl, hN, hcf⟩
  · rw [if_neg (by omega)]
    refine v_bipush (pc := 8) 4 rfl (by decide) ?_
    refine v_iret (pc := 10) 5 rfl rfl ⟨rfl, h, CF.rfl9 M⟩
def sTake (A : Ax) (t k : Int) : Int × Ax := if (0 ≤ t ∧ t ≤ 60) ∧ (0 ≤ k ∧ k ≤ 5) then ((bestC (aT A) (aS A) t k.toNat).1, (A.1, aT A, plA (opN (aT A) (aS A) t (nK (aT A))) (bestC (aT A) (aS A) t k.toNat).2.2 t (aS A) (askN (aT A) (aS A) t k.toNat), push (aU A) (aS A), aK A)) else (-1, A)
theorem c_take (h : CRc M A c c2) {t k : Int} (ht : -2147483648 ≤ t ∧ t ≤ 2147483647) (hk : -2147483648 ≤ k ∧ k ≤ 2147483647) : V G (d + 15) mX11_take 0 [some (.ref 0), some (.int (J t)), some (.int (J k))] [] M (fun r N => r = some (.int (J (sTake A t k).1)) ∧ CRc N (sTake A t k).2 c c2 ∧ CF M N) := by
  have hn := h.nn
  unfold sTake
  refine v_iload_n (pc := 0) 0 rfl rfl ?_
  refine v_iload_n (pc := 1) 1 rfl rfl ?_
  refine v_cS2i (pc := 2) 2 rfl cs_X11_208 (Nat.le_of_ble_eq_true rfl) (Nat.le_of_ble_eq_true rfl) (c_mayAsk ht hk) ?_
  refine v_if_ne (pc := 5) 3 10 rfl (by decide) (by omega) (fun e1 => ?_) (fun e1 => ?_)
  · rw [if_pos (by omega)]
    obtain ⟨n, rfl⟩ : ∃ n : Nat, k = (n : Int) := ⟨k.toNat, by omega⟩
    rw [Int.toNat_natCast]
    have hn5 : n ≤ 5 := by omega
    have hd9 : 0 ≤ t ∧ t ≤ 60 := by omega
    have cl := c_find (G := G) (d := d) h.ci (dd := t) hd9 hn5
    rw [h.eT] at cl
    refine v_aload_n (pc := 10) 6 rfl rfl ?_
    refine v_getC (pc := 11) 7 rfl fl_X11_50 rfl 12 rfl ?_
    refine v_iload_n (pc := 14) 8 rfl rfl ?_
    refine v_iload_n (pc := 15) 9 rfl rfl ?_
    refine v_cV2 (pc := 16) 10 rfl cv_X11_214 rfl (Nat.le_of_ble_eq_true rfl) (Nat.le_of_ble_eq_true rfl) (cl) (fun r9 N9 hq9 => ?_)
    obtain ⟨rfl, f, hf, hb⟩ := hq9
    obtain ⟨hN, hcf⟩ := h.bs hb
    rw [h.eS] at hb hf
    obtain ⟨f1, f2, f3, f4⟩ := best_f h.tok (aS A) t hn5
    obtain ⟨b1, -, -, b4, b5, b6, b7, -, b9⟩ := hb
    have eT2 : tOf (aI M 11 f) c = aT A := (h.s11 f).eT
    rw [eT2] at b9
    obtain ⟨c1, c2', c3⟩ := b9.resolve_left (by omega)
    have ha : askN (aT A) (aS A) t n ≤ 5 ∧ askN (aT A) (aS A) t n ≤ (opN (aT A) (aS A) t (nK (aT A))).length := by unfold askN; omega
    have hm : ∀ x ∈ opN (aT A) (aS A) t (nK (aT A)), x < 12 := fun x hx => by have := op_lt hx; omega
    have e11 : gI N9 11 = f := by rw [b1 11 (by decide) (by decide) (by decide)]; funext i; rw [gI_aI, if_pos rfl]
    have p1 := plA_ok h.sok (l := opN (aT A) (aS A) t (nK (aT A))) (g := (bestC (aT A) (aS A) t n).2.2) (fun x hx => op_lt hx) ha.2 f4 hd9 _ (Nat.le_refl _)
    have p2 := plA_sf (g := (bestC (aT A) (aS A) t n).2.2) (d := t) hm h.sf _ ha.2
    generalize bestC (aT A) (aS A) t n = B at *
    have q2 := c_placeAll (G := G) (d := d + 13) (M := begM N9) (l := opN (aT A) (aS A) t (nK (aT A))) (g := B.2.2) (dd := t) (hd9 := B.1) ha (by rw [beg_ne (by decide), e11]; exact hf) hm (by rw [beg_ne (by decide)]; exact c3) (fun i hi => by have := f4 i hi; omega) (by rw [beg_ne (by decide)]; exact b5) (by rw [beg_ne (by decide)]; exact b6) (by rw [beg_ne (by decide)]; exact b7)
    have hB := beg_cr hN
    rw [hB.eS] at q2
    show V G (d + 15) mX11_take (16 + 3) _ [] _ _
    refine v_aload_n (pc := 19) 11 rfl rfl ?_
    refine v_getC (pc := 20) 12 rfl fl_X11_71 rfl 29 rfl ?_
    refine v_cV0v (pc := 23) 13 rfl cv_X11_179 rfl (Nat.le_of_ble_eq_true rfl) (Nat.le_of_ble_eq_true rfl) (c_beg hN) ?_
    refine v_aload_n (pc := 26) 14 rfl rfl ?_
    refine v_getC (pc := 27) 15 rfl fl_X11_50 rfl 12 rfl ?_
    refine v_cV0i (pc := 30) 16 rfl cv_X11_241 rfl (Nat.le_of_ble_eq_true rfl) (Nat.le_of_ble_eq_true rfl) (q2) ?_
    refine v_iret (pc := 33) 17 rfl rfl ⟨rfl, hB.w p1 p2, (hcf.trans (beg_cf _)).trans (wS_cf _ _)⟩
  · rw [if_neg (by omega)]
    refine v_iconst (pc := 8) 4 rfl ?_
    refine v_iret (pc := 9) 5 rfl rfl ⟨rfl, h, CF.rfl9 M⟩
end Pub2
