/-! 39: share, spread, waited -/
theorem v_ldcfw {G : Gt} {d : Nat} {k : Mth} {pc : Nat} {ls : List (Option Value)} {st : List Value} {M : Mem} {Q : Option Value → Mem → Prop} {x : Nat} {v : UInt32} (i : Nat) (hd : k.2.2.2.2.2[i]? = some (pc, .ldc_w x, 3)) (hw : Cond.constantFloat k.1 x v ∈ tb) (n : V G d k (pc + 3) ls (.float v :: st) M Q) : V G d k pc ls st M Q := by
  intro p e s m args below meth c C H locs hW hS lsR hl
  obtain ⟨hx, hb, hml, hr, hlk, hown, hts, hK, hdc⟩ := id C
  have hdg := hdc _ (List.mem_of_getElem? hd)
  have n9 := n p e s m args below meth c C H locs hW hS lsR hl
  intro T hT X
  obtain ⟨t, a, b⟩ := n9 T hT X
  refine ⟨t, ?_, b⟩
  obtain ⟨k1, cf, hk, hcf, hcp⟩ := Cond.constantFloat_spec hown (hts _ hw)
  obtain ⟨k2, hk2, he⟩ := X.warmed.alike.2.2 _ _ hk
  have hdg2 : decode c.code pc = .ok (.ldc_w x, 3) := by rw [hb]; exact hdg
  jvm_step X.here [hx, hdg2, ldc_w.wp_float (s := T) (f := F0 m pc lsR (st.map (rv (ga G)))) X.here.top hk2 (by rw [he]; exact hcf) hcp]
  exact a
theorem i2n_f {a : Int} (ha : -16777216 < a ∧ a < 0) : Nz_f (FP.i2f (J a)) true (a.natAbs * 2 ^ (23 - a.natAbs.log2)) ((a.natAbs.log2 : Int) - 23) := by
  have e : FP.Core.ofInt a = .fin true a.natAbs 0 := by unfold FP.Core.ofInt; rw [decide_eq_true (by omega)]
  have e1 : FP.i2f (J a) = UInt32.ofNat (FP.Core.encode FP.Core.b32 (FP.Core.roundRatio FP.Core.b32 true a.natAbs 1 0)) := by
    show UInt32.ofNat (FP.Core.encode FP.Core.b32 (FP.Core.round FP.Core.b32 (FP.Core.ofInt (J a).toInt))) = _
    rw [J_toInt (by omega), e]; rfl
  rw [e1]
  have hl : a.natAbs.log2 < 64 := (Nat.log2_lt (by omega)).mpr (Nat.lt_of_lt_of_le (show a.natAbs < 16777216 by omega) (by decide))
  obtain ⟨r1, r2, r3⟩ := rx_f true (num := a.natAbs) (e := 0) (by omega) (by omega) (by omega) (by omega)
  rw [r2, show (a.natAbs.log2 : Int) + 0 - 23 = (a.natAbs.log2 : Int) - 23 by omega]
  exact ⟨de_f r3 (by omega), r3, by omega, by omega⟩
theorem lg24 {n : Nat} (h : 0 < n) (h2 : n < 16777216) : n.log2 < 24 := (Nat.log2_lt (by omega)).mpr h2
/-- a share: nothing, or a number that is not above one -/
theorem shr_ok {a b : Int} (ha : 0 ≤ a ∧ a ≤ b) (hb : 0 < b ∧ b < 16777216) : FP.Core.decode FP.Core.b32 (FP.fdiv (FP.i2f (J a)) (FP.i2f (J b))).toNat = .fin false 0 (-149) ∨ ∃ c q, Nz_f (FP.fdiv (FP.i2f (J a)) (FP.i2f (J b))) false c q ∧ -140 ≤ q ∧ q ≤ -23 := by
  have nb := ((i2_f (a := b) (by omega)).resolve_left (fun z => by omega)).2
  have l2 := lg24 (n := b.toNat) (by omega) (by omega)
  by_cases h0 : a = 0
  · subst h0
    exact Or.inl (dive_f (by decide) nb)
  · have na := ((i2_f (a := a) (by omega)).resolve_left (fun z => by omega)).2
    have l1 := lg24 (n := a.toNat) (by omega) (by omega)
    have l3 : a.toNat.log2 ≤ b.toNat.log2 := (Nat.le_log2 (by omega)).mpr (Nat.le_trans (Nat.log2_self_le (by omega)) (by omega))
    obtain ⟨m, k, g1, g2, g3, g4, g5⟩ := div_f na nb (by omega) (by omega)
    refine Or.inr ⟨m, k, g1, by omega, ?_⟩
    by_cases e : a.toNat.log2 = b.toNat.log2
    · rw [e] at g4 g5 g3
      have hle : a.toNat * 2 ^ (23 - b.toNat.log2) ≤ b.toNat * 2 ^ (23 - b.toNat.log2) := Nat.mul_le_mul_right _ (by omega)
      by_cases e2 : a.toNat * 2 ^ (23 - b.toNat.log2) = b.toNat * 2 ^ (23 - b.toNat.log2)
      · have := (g5 e2).2; omega
      · have := g4 (by omega); omega
    · omega
theorem shr_no {a b : Int} (ha : 0 ≤ a ∧ a ≤ b) (hb : 0 < b ∧ b < 16777216) : vf_n32 (FP.fdiv (FP.i2f (J a)) (FP.i2f (J b))) := by
  rcases shr_ok ha hb with h | ⟨c, q, h, -⟩
  · exact no_f h
  · exact h.no
theorem sumN_ge {f : Nat → Int} {n k : Nat} (h : ∀ j, j < n → 0 ≤ f j) (hk : k < n) : f k ≤ sumN f n := by
  induction n with
  | zero => omega
  | succ n ih =>
    have h1 := h n (by omega)
    show f k ≤ sumN f n + f n
    by_cases e : k = n
    · have h2 := sumN_b (f := fun j => if 0 ≤ f j then 0 else f j) (B := 0) n (fun j hj => by have := h j (by omega); rw [if_pos this]; omega)
      have h3 : 0 ≤ sumN f n := by
        clear ih h2 hk e
        induction n with
        | zero => exact Int.le_refl _
        | succ n ih2 =>
          have h4 := h n (by omega)
          show 0 ≤ sumN f n + f n
          have := ih2 (fun j hj => h j (by omega)) h4
          omega
      rw [e]; omega
    · have := ih (fun j hj => h j (by omega)) (by omega)
      omega
theorem wai_ok {a b : Int} (ha : -16777216 < a ∧ a < 16777216) (hb : 0 < b ∧ b < 16777216) : vf_n32 (FP.fdiv (FP.i2f (J a)) (FP.i2f (J b))) ∧ vf_n32 (FP.fmul (FP.fdiv (FP.i2f (J a)) (FP.i2f (J b))) 1120403456) := by
  have nb := ((i2_f (a := b) (by omega)).resolve_left (fun z => by omega)).2
  have l2 := lg24 (n := b.toNat) (by omega) (by omega)
  by_cases h0 : a = 0
  · subst h0
    have hz := dive_f (x := FP.i2f (J 0)) (by decide) nb
    exact ⟨no_f hz, (mulz_f ⟨false, hz⟩ hun_f.1).no⟩
  · obtain ⟨s, c, q, na, hq⟩ : ∃ s c q, Nz_f (FP.i2f (J a)) s c q ∧ (-23 ≤ q ∧ q ≤ 0) := by
      by_cases g : 0 < a
      · have l1 := lg24 (n := a.toNat) (by omega) (by omega)
        exact ⟨_, _, _, ((i2_f (a := a) (by omega)).resolve_left (fun z => by omega)).2, by omega, by omega⟩
      · have l1 := lg24 (n := a.natAbs) (by omega) (by omega)
        exact ⟨_, _, _, i2n_f (by omega), by omega, by omega⟩
    obtain ⟨m, k, g1, g2, g3, -⟩ := div_f na nb (by omega) (by omega)
    obtain ⟨m2, k2, g4, -⟩ := mul_f g1 hun_f (by omega) (by omega)
    exact ⟨g1.no, g4.no⟩
def spM (T : Tx) (S : Sx) : UInt64 := FP.ddiv (FP.i2d (J (sl T S (nJ T)))) (FP.i2d (J (nJ T : Int)))
def spD (T : Tx) (S : Sx) (j : Nat) : UInt64 := FP.dsub (FP.i2d (J (lds T S j))) (spM T S)
def spR (T : Tx) (S : Sx) : Nat → UInt64
  | 0 => FP.dconst0
  | j + 1 => FP.dadd (spR T S j) (FP.dmul (spD T S j) (spD T S j))
theorem sl_r {T : Tx} (hT : TOk T) (S : Sx) : 0 ≤ sl T S (nJ T) ∧ sl T S (nJ T) ≤ 25920 := by
  have h := sumN_b (f := fun j => ld T S j (nK T)) (B := 4320) (nJ T) (fun k hk => ld_b hT S k)
  have := hT.2.1
  have e : sl T S (nJ T) = sumN (fun j => ld T S j (nK T)) (nJ T) := rfl
  rw [e]; omega
theorem spM_r {T : Tx} (hT : TOk T) (S : Sx) (hn : 0 < nJ T) : R64 (spM T S) false (-32) 32 := by
  have h6 := hT.2.1
  have hs := sl_r hT S
  have ny := ((i2_d (a := (nJ T : Int)) (by omega)).resolve_left (fun z => by omega)).2
  have l : (nJ T : Int).toNat.log2 < 31 := (Nat.log2_lt (by omega)).mpr (by omega)
  exact (div_r (i2_r (by omega)) ny (l2 := 0) (h2 := 31) (by omega) (by omega)).wd (by omega) (by omega)
theorem spD_r {T : Tx} (hT : TOk T) (S : Sx) (hn : 0 < nJ T) (j : Nat) : ∃ s, R64 (spD T S j) s (-84) 34 := by
  have hl := lds_b hT S j
  obtain ⟨s, h⟩ := sub_r ((i2_r (a := lds T S j) (by omega)).wd (lo2 := -32) (hi2 := 32) (by omega) (by omega)) (spM_r hT S hn) (by omega)
  exact ⟨s, h.wd (by omega) (by omega)⟩
theorem spQ_r {T : Tx} (hT : TOk T) (S : Sx) (hn : 0 < nJ T) (j : Nat) : R64 (FP.dmul (spD T S j) (spD T S j)) false (-168) 70 := by
  obtain ⟨s, h⟩ := spD_r hT S hn j
  exact (sqr_r h (by omega)).wd (by omega) (by omega)
theorem spR_r {T : Tx} (hT : TOk T) (S : Sx) (hn : 0 < nJ T) (j : Nat) (hj : j ≤ 6) : R64 (spR T S j) false (-168) (70 + 2 * j) := by
  induction j with
  | zero =>
    refine Or.inl ?_
    show FP.Core.decode FP.Core.b64 (FP.dconst0).toNat = _
    decide
  | succ j ih => exact (add_r (ih (by omega)) ((spQ_r hT S hn j).wd (by omega) (by omega)) (by omega)).wd (by omega) (by omega)
theorem spF_r {T : Tx} (hT : TOk T) (S : Sx) (hn : 0 < nJ T) : R64 (FP.ddiv (spR T S (nJ T)) (FP.i2d (J (nJ T : Int)))) false (-700) 700 := by
  have h6 := hT.2.1
  have ny := ((i2_d (a := (nJ T : Int)) (by omega)).resolve_left (fun z => by omega)).2
  have l : (nJ T : Int).toNat.log2 < 31 := (Nat.log2_lt (by omega)).mpr (by omega)
  exact (div_r (spR_r hT S hn (nJ T) h6) ny (l2 := 0) (h2 := 31) (by omega) (by omega)).wd (by omega) (by omega)
def sShare (A : Ax) (j : Int) : Int := if 0 ≤ j ∧ j < nJ (aT A) then (if sl (aT A) (aS A) (nJ (aT A)) = 0 then 2143289344 else ((FP.fdiv (FP.i2f (J (lds (aT A) (aS A) j.toNat))) (FP.i2f (J (sl (aT A) (aS A) (nJ (aT A)))))).toNat : Int)) else -2147483648
def sSpread (A : Ax) : Int := if nJ (aT A) = 0 then 9221120237041090560 else ((FP.ddiv (spR (aT A) (aS A) (nJ (aT A))) (FP.i2d (J (nJ (aT A) : Int)))).toNat : Int)
def sWait (A : Ax) : Int := if sits (aS A) (nK (aT A)) = 0 then -1 else (FP.f2i (FP.fmul (FP.fdiv (FP.i2f (J (ages (aT A) (aS A) (nK (aT A))))) (FP.i2f (J (sits (aS A) (nK (aT A)))))) 1120403456)).toInt
section Share
variable {G : Gt} {d : Nat} {M N : Mem} {A : Ax} {c c2 : Nat}
theorem c_share (h : CRc M A c c2) {j : Int} (hj : -2147483648 ≤ j ∧ j ≤ 2147483647) : V G (d + 3) mX11_share 0 [some (.ref 0), some (.int (J j)), none] [] M (Ret (some (.int (J (sShare A j)))) M) := by
  have hc := h.hc
  have hto := h.2.1
  have hn := h.nn
  have hs := sl_r h.tok (aS A)
  have cs := c_sumOfLoads (G := G) (d := d) h.ci
  rw [h.eT, h.eS] at cs
  unfold sShare
  refine v_aload_n (pc := 0) 0 rfl rfl ?_
  refine v_getR (pc := 1) 1 rfl fl_X11_20 rfl _ hto ?_
  refine v_iload_n (pc := 4) 2 rfl rfl ?_
  refine v_cV1i (pc := 5) 3 rfl cv_X11_116 (shC hc) (Nat.le_of_ble_eq_true rfl) (Nat.le_of_ble_eq_true rfl) (c_hasJudge hc (by omega) hj) ?_
  refine v_if_ne (pc := 8) 4 15 rfl (by decide) (by omega) (fun e1 => ?_) (fun e1 => ?_)
  · rw [if_pos (by omega)]
    refine v_aload_n (pc := 15) 7 rfl rfl ?_
    refine v_getC (pc := 16) 8 rfl fl_X11_41 rfl 8 rfl ?_
    refine v_cV0i (pc := 19) 9 rfl cv_X11_273 rfl (Nat.le_of_ble_eq_true rfl) (Nat.le_of_ble_eq_true rfl) (cs) ?_
    refine v_istore_n (pc := 22) 10 rfl ⟨Nat.le_of_ble_eq_true rfl, rfl⟩ ?_
    refine v_iload_n (pc := 23) 11 rfl rfl ?_
    refine v_if_gt (pc := 24) 12 31 rfl (by decide) (by omega) (fun e2 => ?_) (fun e2 => ?_)
    · rw [if_neg (by omega)]
      obtain ⟨j1, rfl⟩ : ∃ j1 : Nat, j = (j1 : Int) := ⟨j.toNat, by omega⟩
      rw [Int.toNat_natCast]
      have hl : 0 ≤ lds (aT A) (aS A) j1 ∧ lds (aT A) (aS A) j1 ≤ sl (aT A) (aS A) (nJ (aT A)) := ⟨(lds_b h.tok _ _).1, sumN_ge (f := fun j => ld (aT A) (aS A) j (nK (aT A))) (fun j _ => (ld_b h.tok _ _).1) (by omega)⟩
      have cl := c_loadOf (G := G) (d := d + 1) h.ci (j := j1) (by rw [h.eT]; omega)
      rw [h.eT, h.eS] at cl
      have cf := c_ofFloat (G := G) (d := d + 2) (M := M) (shr_ok hl (by omega))
      refine v_aload_n (pc := 31) 15 rfl rfl ?_
      refine v_getC (pc := 32) 16 rfl fl_X11_41 rfl 8 rfl ?_
      refine v_iload_n (pc := 35) 17 rfl rfl ?_
      refine v_cV1i (pc := 36) 18 rfl cv_X11_244 rfl (Nat.le_of_ble_eq_true rfl) (Nat.le_of_ble_eq_true rfl) (cl) ?_
      refine v_i2f (pc := 39) 19 rfl ?_
      refine v_iload_n (pc := 40) 20 rfl rfl ?_
      refine v_i2f (pc := 41) 21 rfl ?_
      refine v_fdiv (pc := 42) 22 rfl (shr_no hl (by omega)) ?_
      refine v_cS1i (pc := 43) 23 rfl cs_X11_277 (Nat.le_of_ble_eq_true rfl) (Nat.le_of_ble_eq_true rfl) (cf) ?_
      refine v_iret (pc := 46) 24 rfl rfl ⟨rfl, rfl⟩
    · rw [if_pos (by omega)]
      refine v_ldcw (pc := 27) 13 rfl kc_X11_276 (2143289344) (by decide) ?_
      refine v_iret (pc := 30) 14 rfl rfl ⟨rfl, rfl⟩
  · rw [if_neg (by omega)]
    refine v_ldcw (pc := 11) 5 rfl kc_X11_272 (-2147483648) (by decide) ?_
    refine v_iret (pc := 14) 6 rfl rfl ⟨rfl, rfl⟩
theorem c_waited (h : CRc M A c c2) : V G (d + 2) mX11_waited 0 [some (.ref 0), none, none] [] M (Ret (some (.int (J (sWait A)))) M) := by
  have hn := h.nn
  have hk := h.tok.2.2.1
  have b1 : 0 ≤ sits (aS A) (nK (aT A)) ∧ sits (aS A) (nK (aT A)) ≤ 12 := by
    have := sumN_b (f := fun k => if (aS A).1 k = -1 then 0 else 1) (B := 1) (nK (aT A)) (fun k hk => by split <;> omega)
    unfold sits; omega
  have b2 : -720 ≤ ages (aT A) (aS A) (nK (aT A)) ∧ ages (aT A) (aS A) (nK (aT A)) ≤ 720 := by
    have g : ∀ n : Nat, n ≤ nK (aT A) → -60 * (n : Int) ≤ ages (aT A) (aS A) n ∧ ages (aT A) (aS A) n ≤ 60 * (n : Int) := by
      intro n
      induction n with
      | zero => intro _; exact ⟨by show (_ : Int) ≤ 0; omega, by show (0 : Int) ≤ _; omega⟩
      | succ n ih =>
        intro hn2
        have ih := ih (by omega)
        have e : ages (aT A) (aS A) (n + 1) = ages (aT A) (aS A) n + (if (aS A).1 n = -1 then 0 else (aS A).2 n - fi (aT A) n) := rfl
        have hf := (h.tok.2.2.2.2.1 n (by omega)).2.2.1
        have hS := h.sok n (by omega)
        rw [e]
        split <;> omega
    have := g _ (Nat.le_refl _)
    omega
  have c1 := c_sittings (G := G) (d := d) h.ci
  have c2 := c_sumOfAges (G := G) (d := d) h.ci
  rw [h.eT, h.eS] at c1 c2
  unfold sWait
  refine v_aload_n (pc := 0) 0 rfl rfl ?_
  refine v_getC (pc := 1) 1 rfl fl_X11_41 rfl 8 rfl ?_
  refine v_cV0i (pc := 4) 2 rfl cv_X11_289 rfl (Nat.le_of_ble_eq_true rfl) (Nat.le_of_ble_eq_true rfl) (c1) ?_
  refine v_istore_n (pc := 7) 3 rfl ⟨Nat.le_of_ble_eq_true rfl, rfl⟩ ?_
  refine v_iload_n (pc := 8) 4 rfl rfl ?_
  refine v_if_gt (pc := 9) 5 14 rfl (by decide) (by omega) (fun e1 => ?_) (fun e1 => ?_)
  · rw [if_neg (by omega)]
    have hw := wai_ok (a := ages (aT A) (aS A) (nK (aT A))) (b := sits (aS A) (nK (aT A))) (by omega) (by omega)
    refine v_aload_n (pc := 14) 8 rfl rfl ?_
    refine v_getC (pc := 15) 9 rfl fl_X11_41 rfl 8 rfl ?_
    refine v_cV0i (pc := 18) 10 rfl cv_X11_292 rfl (Nat.le_of_ble_eq_true rfl) (Nat.le_of_ble_eq_true rfl) (c2) ?_
    refine v_i2f (pc := 21) 11 rfl ?_
    refine v_iload_n (pc := 22) 12 rfl rfl ?_
    refine v_i2f (pc := 23) 13 rfl ?_
    refine v_fdiv (pc := 24) 14 rfl hw.1 ?_
    refine v_fstore_n (pc := 25) 15 rfl ⟨Nat.le_of_ble_eq_true rfl, rfl⟩ ?_
    refine v_fload_n (pc := 26) 16 rfl rfl ?_
    refine v_ldcfw (pc := 27) 17 rfl kcFloat_X11_295 ?_
    refine v_fmul (pc := 30) 18 rfl hw.2 ?_
    refine v_f2i (pc := 31) 19 rfl ((FP.f2i (FP.fmul (FP.fdiv (FP.i2f (J (ages (aT A) (aS A) (nK (aT A))))) (FP.i2f (J (sits (aS A) (nK (aT A)))))) 1120403456)).toInt) (J_of _).symm ?_
    refine v_iret (pc := 32) 20 rfl rfl ⟨rfl, rfl⟩
  · rw [if_pos (by omega)]
    refine v_iconst (pc := 12) 6 rfl ?_
    refine v_iret (pc := 13) 7 rfl rfl ⟨rfl, rfl⟩
theorem c_spread (h : CRc M A c c2) : V G (d + 3) mX11_spread 0 [some (.ref 0), none, none, none, none, none, none, none, none, none] [] M (Ret (some (.long (JL (sSpread A)))) M) := by
  have hc := h.hc
  have hto := h.2.1
  have hn := h.nn
  have cs := c_sumOfLoads (G := G) (d := d) h.ci
  rw [h.eT, h.eS] at cs
  unfold sSpread
  refine v_aload_n (pc := 0) 0 rfl rfl ?_
  refine v_getR (pc := 1) 1 rfl fl_X11_20 rfl _ hto ?_
  refine v_getI (pc := 4) 2 rfl fl_X11_247 (shC hc) ?_
  refine v_if_gt (pc := 7) 3 14 rfl (by decide) (by omega) (fun e1 => ?_) (fun e1 => ?_)
  · rw [if_neg (by omega)]
    have hp : 0 < nJ (aT A) := by omega
    have r1 := spM_r h.tok (aS A) hp
    refine v_aload_n (pc := 14) 6 rfl rfl ?_
    refine v_getR (pc := 15) 7 rfl fl_X11_20 rfl _ hto ?_
    refine v_getI (pc := 18) 8 rfl fl_X11_247 (shC hc) ?_
    rw [hn.2.1]
    refine v_i2d (pc := 21) 9 rfl ?_
    refine v_dstore_n (pc := 22) 10 rfl ⟨Nat.le_of_ble_eq_true rfl, rfl⟩ ?_
    refine v_aload_n (pc := 23) 11 rfl rfl ?_
    refine v_getC (pc := 24) 12 rfl fl_X11_41 rfl 8 rfl ?_
    refine v_cV0i (pc := 27) 13 rfl cv_X11_273 rfl (Nat.le_of_ble_eq_true rfl) (Nat.le_of_ble_eq_true rfl) (cs) ?_
    refine v_i2d (pc := 30) 14 rfl ?_
    refine v_dload_n (pc := 31) 15 rfl rfl ?_
    refine v_ddiv (pc := 32) 16 rfl r1.no ?_
    refine v_dstore_n (pc := 33) 17 rfl ⟨Nat.le_of_ble_eq_true rfl, rfl⟩ ?_
    refine v_dconst0 (pc := 34) 18 rfl ?_
    refine v_dstore (pc := 35) 19 rfl ⟨Nat.le_of_ble_eq_true rfl, rfl⟩ ?_
    refine v_iconst (pc := 37) 20 rfl ?_
    refine v_istore (pc := 38) 21 rfl ⟨Nat.le_of_ble_eq_true rfl, rfl⟩ ?_
    have loop := loopN (N := nJ (aT A)) (fun j => ∀ u, V G (d + 3) mX11_spread 40 [some (.ref 0), some (.double (FP.i2d (J (nJ (aT A) : Int)))), none, some (.double (spM (aT A) (aS A))), none, some (.double (spR (aT A) (aS A) j)), none, some (.int (J (j : Int))), u, none] [] M (Ret (some (.long (JL ((FP.ddiv (spR (aT A) (aS A) (nJ (aT A))) (FP.i2d (J (nJ (aT A) : Int)))).toNat : Int)))) M)) ?_ ?_
    · exact loop none
    · intro u
      refine v_iload (pc := 40) 22 rfl rfl ?_
      refine v_aload_n (pc := 42) 23 rfl rfl ?_
      refine v_getR (pc := 43) 24 rfl fl_X11_20 rfl _ hto ?_
      refine v_getI (pc := 46) 25 rfl fl_X11_247 (shC hc) ?_
      refine v_ic_geT (pc := 49) 26 82 rfl (by decide) (by omega) (by omega) ?_
      refine v_dload (pc := 82) 43 rfl rfl ?_
      refine v_dload_n (pc := 84) 44 rfl rfl ?_
      refine v_ddiv (pc := 85) 45 rfl (spF_r h.tok (aS A) hp).no ?_
      refine v_cS1l (pc := 86) 46 rfl cs_X11_285 (Nat.le_of_ble_eq_true rfl) (Nat.le_of_ble_eq_true rfl) (c_ofDouble (spF_r h.tok (aS A) hp)) ?_
      refine v_lret (pc := 89) 47 rfl rfl ⟨rfl, rfl⟩
    · intro j hj ih u
      have cl := c_loadOf (G := G) (d := d + 1) h.ci (j := j) (by rw [h.eT]; exact hj)
      rw [h.eT, h.eS] at cl
      obtain ⟨s, rd⟩ := spD_r h.tok (aS A) hp j
      refine v_iload (pc := 40) 22 rfl rfl ?_
      refine v_aload_n (pc := 42) 23 rfl rfl ?_
      refine v_getR (pc := 43) 24 rfl fl_X11_20 rfl _ hto ?_
      refine v_getI (pc := 46) 25 rfl fl_X11_247 (shC hc) ?_
      refine v_ic_geF (pc := 49) 26 82 rfl (by decide) (by omega) (by omega) ?_
      refine v_aload_n (pc := 52) 27 rfl rfl ?_
      refine v_getC (pc := 53) 28 rfl fl_X11_41 rfl 8 rfl ?_
      refine v_iload (pc := 56) 29 rfl rfl ?_
      refine v_cV1i (pc := 58) 30 rfl cv_X11_244 rfl (Nat.le_of_ble_eq_true rfl) (Nat.le_of_ble_eq_true rfl) (cl) ?_
      refine v_i2d (pc := 61) 31 rfl ?_
      refine v_dload_n (pc := 62) 32 rfl rfl ?_
      refine v_dsub (pc := 63) 33 rfl rd.no ?_
      refine v_dstore (pc := 64) 34 rfl ⟨Nat.le_of_ble_eq_true rfl, rfl⟩ ?_
      refine v_dload (pc := 66) 35 rfl rfl ?_
      refine v_dload (pc := 68) 36 rfl rfl ?_
      refine v_dload (pc := 70) 37 rfl rfl ?_
      refine v_dmul (pc := 72) 38 rfl (spQ_r h.tok (aS A) hp j).no ?_
      refine v_dadd (pc := 73) 39 rfl (spR_r h.tok (aS A) hp (j + 1) (by omega)).no ?_
      refine v_dstore (pc := 74) 40 rfl ⟨Nat.le_of_ble_eq_true rfl, rfl⟩ ?_
      refine v_iinc (pc := 76) 41 rfl rfl ⟨Nat.le_of_ble_eq_true rfl, rfl⟩ ?_
      refine v_goto (pc := 79) 42 40 rfl (by decide) ?_
      exact ih _
  · rw [if_pos (by omega)]
    refine v_ldc2J (pc := 10) 4 rfl kcLong_X11_283 (9221120237041090560) (by decide) ?_
    refine v_lret (pc := 13) 5 rfl rfl ⟨rfl, rfl⟩
end Share
