/-! 38: bits of floats; share, spread, waited -/
def cz (r : Ordering) : Int := match r with
  | .gt => 1
  | .eq => 0
  | .lt => -1
theorem cz_e (r : Ordering) (op : CmpOp) : Op.cmpValue (some r) op = J (cz r) := by cases r <;> rfl
theorem cz_b (r : Ordering) : -1 ≤ cz r ∧ cz r ≤ 1 := by cases r <;> decide
theorem one_f : Nz_f FP.fconst1 false 8388608 (-23) := by unfold Nz_f; decide
theorem two_f : FP.Core.decode FP.Core.b32 (FP.fconst2).toNat = .fin false 8388608 (-22) := by decide
theorem big_f : FP.Core.decode FP.Core.b32 (1258291200 : UInt32).toNat = .fin false 8388608 0 := by decide
theorem hun_f : Nz_f 1120403456 false 13107200 (-17) := by unfold Nz_f; decide
theorem one_d : Nz_d FP.dconst1 false 4503599627370496 (-52) := by unfold Nz_d; decide
theorem two_d : Nz_d 4611686018427387904 false 4503599627370496 (-51) := by unfold Nz_d; decide
theorem big_d : FP.Core.decode FP.Core.b64 (4841369599423283200 : UInt64).toNat = .fin false 4503599627370496 0 := by decide
theorem lt1 {q r : Int} {c d : Nat} (h : q < r) : cz (if q < r then .lt else if r < q then .gt else compare (c : Int) (d : Int)) = -1 := by rw [if_pos h]; rfl
theorem ge1 {q r : Int} {c d : Nat} (h : ¬ q < r) (hcd : d ≤ c) : 0 ≤ cz (if q < r then .lt else if r < q then .gt else compare (c : Int) (d : Int)) := by
  rw [if_neg h]
  by_cases g : r < q
  · rw [if_pos g]; decide
  · rw [if_neg g]
    by_cases e : c = d
    · rw [e, Int.compare_eq_eq.mpr rfl]; decide
    · rw [Int.compare_eq_gt.mpr (by omega)]; decide
theorem sh23 : ∀ e : Fin 256, J ((e : Nat) : Int) <<< (J 23 &&& 31) = J (((e : Nat) : Int) * 8388608) := by decide +kernel
theorem tr_f {x : UInt32} {t : Nat} (ht : 0 < t ∧ t < 8388608) (h : Nz_f x false (t * 2 ^ (23 - t.log2)) ((t.log2 : Int) - 23)) (hl : t.log2 ≤ 23) : FP.f2i x = J (t : Int) := by
  show FP.Core.toI (FP.Core.decode FP.Core.b32 x.toNat) = _
  rw [h.1]
  show Int32.ofInt (max (-2 ^ 31) (min (2 ^ 31 - 1) (FP.Core.truncate false (t * 2 ^ (23 - t.log2)) ((t.log2 : Int) - 23)))) = _
  have e : FP.Core.truncate false (t * 2 ^ (23 - t.log2)) ((t.log2 : Int) - 23) = (t : Int) := by
    unfold FP.Core.truncate
    rw [show ((t.log2 : Int) - 23).toNat = 0 by omega, show (-((t.log2 : Int) - 23)).toNat = 23 - t.log2 by omega, Nat.pow_zero, Nat.mul_one, Nat.mul_div_cancel _ (Nat.two_pow_pos _)]
    rfl
  rw [e, show max (-2 ^ 31) (min (2 ^ 31 - 1) (t : Int)) = (t : Int) by omega]
  rfl
theorem tr_d {x : UInt64} {t : Nat} (ht : 0 < t ∧ t < 4503599627370496) (h : Nz_d x false (t * 2 ^ (52 - t.log2)) ((t.log2 : Int) - 52)) (hl : t.log2 ≤ 52) : FP.d2l x = JL (t : Int) := by
  show FP.Core.toL (FP.Core.decode FP.Core.b64 x.toNat) = _
  rw [h.1]
  show Int64.ofInt (max (-2 ^ 63) (min (2 ^ 63 - 1) (FP.Core.truncate false (t * 2 ^ (52 - t.log2)) ((t.log2 : Int) - 52)))) = _
  have e : FP.Core.truncate false (t * 2 ^ (52 - t.log2)) ((t.log2 : Int) - 52) = (t : Int) := by
    unfold FP.Core.truncate
    rw [show ((t.log2 : Int) - 52).toNat = 0 by omega, show (-((t.log2 : Int) - 52)).toNat = 52 - t.log2 by omega, Nat.pow_zero, Nat.mul_one, Nat.mul_div_cancel _ (Nat.two_pow_pos _)]
    rfl
  rw [e, show max (-2 ^ 63) (min (2 ^ 63 - 1) (t : Int)) = (t : Int) by omega]
  rfl
/-- what is above one, as a whole number of the last digits -/
theorem fr_f {x : UInt32} {c : Nat} (hx : Nz_f x false c (-23)) : vf_n32 (FP.fsub x FP.fconst1) ∧ vf_n32 (FP.fmul (FP.fsub x FP.fconst1) 1258291200) ∧ FP.f2i (FP.fmul (FP.fsub x FP.fconst1) 1258291200) = J ((c : Int) - 8388608) := by
  have hc := hx.2.1
  rcases sub1_f hx one_f.1 with ⟨h1, h2⟩ | ⟨h1, h2, h3⟩
  · have hz := mulz_f ⟨false, h2⟩ big_f
    refine ⟨no_f h2, hz.no, ?_⟩
    obtain ⟨s, hs⟩ := hz
    show FP.Core.toI (FP.Core.decode FP.Core.b32 _) = _
    rw [hs, show (c : Int) - 8388608 = 0 by omega]
    cases s <;> decide
  · have hm := mulp_f h2 big_f (by omega) (by omega)
    have hm2 : Nz_f (FP.fmul (FP.fsub x FP.fconst1) 1258291200) false ((c - 8388608) * 2 ^ (23 - (c - 8388608).log2)) (((c - 8388608).log2 : Int) - 23) := by
      rw [show ((c - 8388608).log2 : Int) - 46 + 0 + 23 = ((c - 8388608).log2 : Int) - 23 by omega] at hm
      exact hm
    refine ⟨h2.no, hm2.no, ?_⟩
    rw [tr_f (by omega) hm2 h3]
    congr 1; omega
theorem fr_d {x : UInt64} {c : Nat} (hx : Nz_d x false c (-52)) : vf_n64 (FP.dsub x FP.dconst1) ∧ vf_n64 (FP.dmul (FP.dsub x FP.dconst1) 4841369599423283200) ∧ FP.d2l (FP.dmul (FP.dsub x FP.dconst1) 4841369599423283200) = JL ((c : Int) - 4503599627370496) := by
  have hc := hx.2.1
  rcases sub1_d hx one_d.1 with ⟨h1, h2⟩ | ⟨h1, h2, h3⟩
  · have hz := mulz_d ⟨false, h2⟩ big_d
    refine ⟨no_d h2, hz.no, ?_⟩
    obtain ⟨s, hs⟩ := hz
    have e0 : FP.Core.truncate s 0 (-1074) = 0 := by
      unfold FP.Core.truncate
      rw [Nat.zero_mul, Nat.zero_div]
      cases s <;> rfl
    show FP.Core.toL (FP.Core.decode FP.Core.b64 _) = _
    rw [hs, show (c : Int) - 4503599627370496 = 0 by omega]
    show Int64.ofInt (max (-2 ^ 63) (min (2 ^ 63 - 1) (FP.Core.truncate s 0 (-1074)))) = _
    rw [e0]
    decide
  · have hm := mulp_d h2 big_d (by omega) (by omega)
    have hm2 : Nz_d (FP.dmul (FP.dsub x FP.dconst1) 4841369599423283200) false ((c - 4503599627370496) * 2 ^ (52 - (c - 4503599627370496).log2)) (((c - 4503599627370496).log2 : Int) - 52) := by
      rw [show ((c - 4503599627370496).log2 : Int) - 104 + 0 + 52 = ((c - 4503599627370496).log2 : Int) - 52 by omega] at hm
      exact hm
    refine ⟨h2.no, hm2.no, ?_⟩
    rw [tr_d (by omega) hm2 h3]
    congr 1; omega
section Bits
variable {G : Gt} {d : Nat} {M N : Mem} {A : Ax} {c c2 : Nat}
theorem c_ofFloat {x : UInt32} (h : FP.Core.decode FP.Core.b32 x.toNat = .fin false 0 (-149) ∨ ∃ c q, Nz_f x false c q ∧ -140 ≤ q ∧ q ≤ -23) : V G d mX2_ofFloat 0 [some (.float x), none, none] [] M (Ret (some (.int (J (x.toNat : Int)))) M) := by
  rcases h with h | ⟨m, q, hx, hq⟩
  · rw [zb_f h]
    have e := cmpz_f ⟨false, h⟩
    refine v_fload_n (pc := 0) 0 rfl rfl ?_
    refine v_fconst0 (pc := 1) 1 rfl ?_
    refine v_fcmp (pc := 2) 2 rfl (0) (by rw [e]; rfl) ?_
    refine v_if_gtF (pc := 3) 3 8 rfl (by decide) (by omega) (by decide) ?_
    refine v_iconst (pc := 6) 4 rfl ?_
    refine v_iret (pc := 7) 5 rfl rfl ⟨rfl, rfl⟩
  · have e := cmp0_f hx
    refine v_fload_n (pc := 0) 0 rfl rfl ?_
    refine v_fconst0 (pc := 1) 1 rfl ?_
    refine v_fcmp (pc := 2) 2 rfl (1) (by rw [e]; rfl) ?_
    refine v_if_gtT (pc := 3) 3 8 rfl (by decide) (by omega) (by decide) ?_
    refine v_fload_n (pc := 8) 6 rfl rfl ?_
    refine v_fstore_n (pc := 9) 7 rfl ⟨Nat.le_of_ble_eq_true rfl, rfl⟩ ?_
    refine v_bipush (pc := 10) 8 rfl (by decide) ?_
    refine v_istore_n (pc := 12) 9 rfl ⟨Nat.le_of_ble_eq_true rfl, rfl⟩ ?_
    have loop : ∀ (k : Nat) (y : UInt32) (r : Int), Nz_f y false m r → (k : Int) = -23 - r → r ≤ -23 ∧ q ≤ r → V G d mX2_ofFloat 13 [some (.float x), some (.float y), some (.int (J (127 + q - r)))] [] M (Ret (some (.int (J (x.toNat : Int)))) M) := by
      intro k
      induction k with
      | zero =>
        intro y r hy hk hr
        have hr0 : r = -23 := by omega
        subst hr0
        have e1 := cmp_f hy one_f
        have e2 := ge1 (c := m) (d := 8388608) (show ¬ (-23 : Int) < -23 by omega) hy.2.1.1
        have eb := cz_b (if (-23 : Int) < -23 then .lt else if (-23 : Int) < -23 then .gt else compare (m : Int) (8388608 : Nat))
        obtain ⟨g1, g2, g3⟩ := fr_f hy
        have hb := hx.bits
        have hm := hy.2.1
        obtain ⟨ex, hex⟩ : ∃ ex : Nat, 127 + q - -23 = (ex : Int) := ⟨(127 + q - -23).toNat, by omega⟩
        rw [hex]
        refine v_fload_n (pc := 13) 10 rfl rfl ?_
        refine v_fconst1 (pc := 14) 11 rfl ?_
        refine v_fcmp (pc := 15) 12 rfl (cz (if (-23 : Int) < -23 then .lt else if (-23 : Int) < -23 then .gt else compare (m : Int) (8388608 : Nat))) (by rw [e1]; exact cz_e _ _) ?_
        refine v_if_geT (pc := 16) 13 34 rfl (by decide) (by omega) (by omega) ?_
        refine v_iload_n (pc := 34) 23 rfl rfl ?_
        refine v_bipush (pc := 35) 24 rfl (by decide) ?_
        refine v_ishl (pc := 37) 25 rfl ((ex : Int) * 8388608) (sh23 ⟨ex, by omega⟩) ?_
        refine v_fload_n (pc := 38) 26 rfl rfl ?_
        refine v_fconst1 (pc := 39) 27 rfl ?_
        refine v_fsub (pc := 40) 28 rfl g1 ?_
        refine v_ldcf (pc := 41) 29 rfl kcFloat_X2_9 ?_
        refine v_fmul (pc := 43) 30 rfl g2 ?_
        refine v_f2i (pc := 44) 31 rfl ((m : Int) - 8388608) g3 ?_
        refine v_iadd (pc := 45) 32 rfl ?_
        rw [show (ex : Int) * 8388608 + ((m : Int) - 8388608) = (x.toNat : Int) by omega]
        refine v_iret (pc := 46) 33 rfl rfl ⟨rfl, rfl⟩
      | succ k ih =>
        intro y r hy hk hr
        have e1 := cmp_f hy one_f
        have e2 := lt1 (c := m) (d := 8388608) (show r < (-23 : Int) by omega)
        have hn := mulp_f hy two_f (by omega) (by omega)
        have ih2 := ih (FP.fmul y FP.fconst2) (r + -22 + 23) hn (by omega) (by omega)
        rw [show 127 + q - (r + -22 + 23) = 127 + q - r + -1 by omega] at ih2
        refine v_fload_n (pc := 13) 10 rfl rfl ?_
        refine v_fconst1 (pc := 14) 11 rfl ?_
        refine v_fcmp (pc := 15) 12 rfl (-1) (by rw [e1, cz_e, e2]) ?_
        refine v_if_geF (pc := 16) 13 34 rfl (by decide) (by omega) (by decide) ?_
        refine v_iload_n (pc := 19) 14 rfl rfl ?_
        refine v_iconst (pc := 20) 15 rfl ?_
        refine v_ic_leF (pc := 21) 16 34 rfl (by decide) (by omega) (by omega) ?_
        refine v_fload_n (pc := 24) 17 rfl rfl ?_
        refine v_fconst2 (pc := 25) 18 rfl ?_
        refine v_fmul (pc := 26) 19 rfl hn.no ?_
        refine v_fstore_n (pc := 27) 20 rfl ⟨Nat.le_of_ble_eq_true rfl, rfl⟩ ?_
        refine v_iinc (pc := 28) 21 rfl rfl ⟨Nat.le_of_ble_eq_true rfl, rfl⟩ ?_
        refine v_goto (pc := 31) 22 13 rfl (by decide) ?_
        exact ih2
    have l0 := loop (-23 - q).toNat x q hx (by omega) (by omega)
    rw [show 127 + q - q = 127 by omega] at l0
    exact l0
theorem JL_sh {e : Nat} (h : e < 2047) : JL (e : Int) <<< ((J 52).toInt64 &&& 63) = JL ((e : Int) * 4503599627370496) := by
  have e1 : ((J 52).toInt64 &&& 63) = 52 := by decide
  rw [e1, ← Int64.toInt_inj, JL_toInt (by omega)]
  show (JL (e : Int) <<< (52 : Int64)).toBitVec.toInt = _
  rw [Int64.toBitVec_shiftLeft, show (52 : Int64).toBitVec.smod 64 = BitVec.ofNat 64 52 by decide, BitVec.shiftLeft_eq', BitVec.toInt_shiftLeft]
  show (((JL (e : Int)).toBitVec.toNat <<< (BitVec.ofNat 64 52).toNat : Nat) : Int).bmod (2 ^ 64) = _
  have e2 : (JL (e : Int)).toBitVec.toNat = e := by
    show (BitVec.ofInt 64 (e : Int)).toNat = e
    rw [BitVec.toNat_ofInt]; omega
  rw [e2, show (BitVec.ofNat 64 52).toNat = 52 by decide, Nat.shiftLeft_eq, show (2 : Nat) ^ 52 = 4503599627370496 by decide, Int.natCast_mul]
  rw [Int.bmod_eq_of_le (by omega) (by omega)]
  rfl
/-- by a power of two -/
theorem divp_d {x y : UInt64} {m : Nat} {q r : Int} (hx : Nz_d x false m q) (hy : Nz_d y false 4503599627370496 r) (h1 : -1074 ≤ q - r - 52) (h2 : q - r - 52 ≤ 971) : Nz_d (FP.ddiv x y) false m (q - r - 52) := by
  obtain ⟨f1, f2, f3, f4, f5, f6⟩ := fm_d
  have hc := hx.2.1
  have l1 : m.log2 = 52 := log2_of (by rw [show (2 : Nat) ^ 52 = 4503599627370496 by decide]; omega) (by rw [show (2 : Nat) ^ (52 + 1) = 9007199254740992 by decide]; omega)
  have l2 : (4503599627370496 : Nat).log2 = 52 := log2_of (by decide) (by decide)
  have hle : FP.Core.leading m 4503599627370496 = 0 := by
    unfold FP.Core.leading
    rw [l1, l2]
    show (if 4503599627370496 * 2 ^ (((52 : Nat) : Int) - ((52 : Nat) : Int)).toNat ≤ m * 2 ^ (-(((52 : Nat) : Int) - ((52 : Nat) : Int))).toNat then _ else _) = _
    rw [show (((52 : Nat) : Int) - ((52 : Nat) : Int)).toNat = 0 by decide, show (-(((52 : Nat) : Int) - ((52 : Nat) : Int))).toNat = 0 by decide, Nat.pow_zero, Nat.mul_one, Nat.mul_one, if_pos hc.1]
    rfl
  have e : FP.ddiv x y = UInt64.ofNat (FP.Core.encode FP.Core.b64 (FP.Core.roundRatio FP.Core.b64 false m 4503599627370496 (q - r))) := by
    show UInt64.ofNat (FP.Core.encode FP.Core.b64 (FP.Core.quotient FP.Core.b64 (FP.Core.decode FP.Core.b64 x.toNat) (FP.Core.decode FP.Core.b64 y.toNat))) = _
    rw [hx.1, hy.1]
    show UInt64.ofNat (FP.Core.encode FP.Core.b64 (if (4503599627370496 : Nat) = 0 then (if m = 0 then .nan else .inf (false != false)) else FP.Core.roundRatio FP.Core.b64 (false != false) m 4503599627370496 (q - r))) = _
    rw [if_neg (by decide)]
    rfl
  have e2 : FP.Core.roundRatio FP.Core.b64 false m 4503599627370496 (q - r) = .fin false m (q - r - 52) := by
    unfold FP.Core.roundRatio FP.Core.roundAt FP.Core.quantum
    rw [if_neg (by omega), hle, f2, f6, show max (-1074) (0 + (q - r) - ((52 : Int) + 1 - 1)) = q - r - 52 by omega]
    unfold FP.Core.unitsNum FP.Core.unitsDen
    rw [show (q - r - (q - r - 52)).toNat = 52 by omega, show (q - r - 52 - (q - r)).toNat = 0 by omega, Nat.pow_zero, Nat.mul_one, show (2 : Nat) ^ 52 = 4503599627370496 by decide, nr_x m (by decide)]
    unfold FP.Core.settle FP.Core.bound
    rw [f5, f3, if_pos hc.2, if_pos h2]
  rw [e, e2]
  exact ⟨de_d hc ⟨h1, h2⟩, hc, h1, h2⟩
theorem c_ofDouble {x : UInt64} (h : R64 x false (-700) 700) : V G d mX2_ofDouble 0 [some (.double x), none, none, none, none] [] M (Ret (some (.long (JL (x.toNat : Int)))) M) := by
  rcases h with h | ⟨m, q, hx, hq⟩
  · rw [zb_d h]
    have e := cmpz_d ⟨false, h⟩
    refine v_dload_n (pc := 0) 0 rfl rfl ?_
    refine v_dconst0 (pc := 1) 1 rfl ?_
    refine v_dcmp (pc := 2) 2 rfl (0) (by rw [e]; rfl) ?_
    refine v_if_gtF (pc := 3) 3 8 rfl (by decide) (by omega) (by decide) ?_
    refine v_lconst (pc := 6) 4 rfl ?_
    refine v_lret (pc := 7) 5 rfl rfl ⟨rfl, rfl⟩
  · have e := cmp0_d hx
    have hm := hx.2.1
    have hb := hx.bits
    have fin : ∀ y, Nz_d y false m (-52) → V G d mX2_ofDouble 67 [some (.double x), none, some (.double y), none, some (.int (J (1075 + q)))] [] M (Ret (some (.long (JL (x.toNat : Int)))) M) := by
      intro y hy
      obtain ⟨g1, g2, g3⟩ := fr_d hy
      obtain ⟨ex, hex⟩ : ∃ ex : Nat, 1075 + q = (ex : Int) := ⟨(1075 + q).toNat, by omega⟩
      rw [hex]
      refine v_iload (pc := 67) 36 rfl rfl ?_
      refine v_i2l (pc := 69) 37 rfl (by omega) ?_
      refine v_bipush (pc := 70) 38 rfl (by decide) ?_
      refine v_lshl (pc := 72) 39 rfl ((JL ((ex : Int) * 4503599627370496))) (JL_sh (by omega)) ?_
      refine v_dload_n (pc := 73) 40 rfl rfl ?_
      refine v_dconst1 (pc := 74) 41 rfl ?_
      refine v_dsub (pc := 75) 42 rfl g1 ?_
      refine v_ldc2d (pc := 76) 43 rfl kcDouble_X2_12 ?_
      refine v_dmul (pc := 79) 44 rfl g2 ?_
      refine v_d2l (pc := 80) 45 rfl ?_
      rw [g3]
      refine v_ladd (pc := 81) 46 rfl ?_
      rw [show (ex : Int) * 4503599627370496 + ((m : Int) - 4503599627370496) = (x.toNat : Int) by omega]
      refine v_lret (pc := 82) 47 rfl rfl ⟨rfl, rfl⟩
    have dn : ∀ (k : Nat) (y : UInt64) (r : Int), Nz_d y false m r → (k : Int) = r + 52 → r ≤ 700 → V G d mX2_ofDouble 39 [some (.double x), none, some (.double y), none, some (.int (J (1023 + q - r)))] [] M (Ret (some (.long (JL (x.toNat : Int)))) M) := by
      intro k
      induction k with
      | zero =>
        intro y r hy hk hr
        have hr0 : r = -52 := by omega
        subst hr0
        have e1 := cmp_d hy two_d
        have e2 := lt1 (c := m) (d := 4503599627370496) (show (-52 : Int) < -51 by omega)
        rw [show 1023 + q - -52 = 1075 + q by omega]
        refine v_dload_n (pc := 39) 23 rfl rfl ?_
        refine v_ldc2d (pc := 40) 24 rfl kcDouble_X2_10 ?_
        refine v_dcmp (pc := 43) 25 rfl (-1) (by rw [e1, cz_e, e2]) ?_
        refine v_if_ltT (pc := 44) 26 67 rfl (by decide) (by omega) (by decide) ?_
        exact fin y hy
      | succ k ih =>
        intro y r hy hk hr
        have e1 := cmp_d hy two_d
        have e2 := ge1 (c := m) (d := 4503599627370496) (show ¬ r < (-51 : Int) by omega) hy.2.1.1
        have eb := cz_b (if r < (-51 : Int) then .lt else if (-51 : Int) < r then .gt else compare (m : Int) (4503599627370496 : Nat))
        have hn := divp_d hy two_d (by omega) (by omega)
        have ih2 := ih (FP.ddiv y 4611686018427387904) (r - -51 - 52) hn (by omega) (by omega)
        rw [show 1023 + q - (r - -51 - 52) = 1023 + q - r + 1 by omega] at ih2
        refine v_dload_n (pc := 39) 23 rfl rfl ?_
        refine v_ldc2d (pc := 40) 24 rfl kcDouble_X2_10 ?_
        refine v_dcmp (pc := 43) 25 rfl (cz (if r < (-51 : Int) then .lt else if (-51 : Int) < r then .gt else compare (m : Int) (4503599627370496 : Nat))) (by rw [e1]; exact cz_e _ _) ?_
        refine v_if_ltF (pc := 44) 26 67 rfl (by decide) (by omega) (by omega) ?_
        refine v_iload (pc := 47) 27 rfl rfl ?_
        refine v_sipush (pc := 49) 28 rfl (by decide) ?_
        refine v_ic_geF (pc := 52) 29 67 rfl (by decide) (by omega) (by omega) ?_
        refine v_dload_n (pc := 55) 30 rfl rfl ?_
        refine v_ldc2d (pc := 56) 31 rfl kcDouble_X2_10 ?_
        refine v_ddiv (pc := 59) 32 rfl hn.no ?_
        refine v_dstore_n (pc := 60) 33 rfl ⟨Nat.le_of_ble_eq_true rfl, rfl⟩ ?_
        refine v_iinc (pc := 61) 34 rfl rfl ⟨Nat.le_of_ble_eq_true rfl, rfl⟩ ?_
        refine v_goto (pc := 64) 35 39 rfl (by decide) ?_
        exact ih2
    have up : ∀ (k : Nat) (y : UInt64) (r : Int), Nz_d y false m r → (k : Int) = -52 - r → q ≤ r → V G d mX2_ofDouble 15 [some (.double x), none, some (.double y), none, some (.int (J (1023 + q - r)))] [] M (Ret (some (.long (JL (x.toNat : Int)))) M) := by
      intro k
      induction k with
      | zero =>
        intro y r hy hk hr
        have e1 := cmp_d hy one_d
        have hr0 : r = -52 := by omega
        subst hr0
        have e2 := ge1 (c := m) (d := 4503599627370496) (show ¬ (-52 : Int) < (-52 : Int) by omega) hy.2.1.1
        have eb := cz_b (if (-52 : Int) < (-52 : Int) then .lt else if (-52 : Int) < (-52 : Int) then .gt else compare (m : Int) (4503599627370496 : Nat))
        refine v_dload_n (pc := 15) 10 rfl rfl ?_
        refine v_dconst1 (pc := 16) 11 rfl ?_
        refine v_dcmp (pc := 17) 12 rfl (cz (if (-52 : Int) < (-52 : Int) then .lt else if (-52 : Int) < (-52 : Int) then .gt else compare (m : Int) (4503599627370496 : Nat))) (by rw [e1]; exact cz_e _ _) ?_
        refine v_if_geT (pc := 18) 13 39 rfl (by decide) (by omega) (by omega) ?_
        exact dn 0 y (-52) hy (by omega) (by omega)
      | succ k ih =>
        intro y r hy hk hr
        have e1 := cmp_d hy one_d
        have e2 := lt1 (c := m) (d := 4503599627370496) (show r < (-52 : Int) by omega)
        have hn := mulp_d hy two_d.1 (by omega) (by omega)
        have ih2 := ih (FP.dmul y 4611686018427387904) (r + -51 + 52) hn (by omega) (by omega)
        rw [show 1023 + q - (r + -51 + 52) = 1023 + q - r + -1 by omega] at ih2
        refine v_dload_n (pc := 15) 10 rfl rfl ?_
        refine v_dconst1 (pc := 16) 11 rfl ?_
        refine v_dcmp (pc := 17) 12 rfl (-1) (by rw [e1, cz_e, e2]) ?_
        refine v_if_geF (pc := 18) 13 39 rfl (by decide) (by omega) (by decide) ?_
        refine v_iload (pc := 21) 14 rfl rfl ?_
        refine v_iconst (pc := 23) 15 rfl ?_
        refine v_ic_leF (pc := 24) 16 39 rfl (by decide) (by omega) (by omega) ?_
        refine v_dload_n (pc := 27) 17 rfl rfl ?_
        refine v_ldc2d (pc := 28) 18 rfl kcDouble_X2_10 ?_
        refine v_dmul (pc := 31) 19 rfl hn.no ?_
        refine v_dstore_n (pc := 32) 20 rfl ⟨Nat.le_of_ble_eq_true rfl, rfl⟩ ?_
        refine v_iinc (pc := 33) 21 rfl rfl ⟨Nat.le_of_ble_eq_true rfl, rfl⟩ ?_
        refine v_goto (pc := 36) 22 15 rfl (by decide) ?_
        exact ih2
    refine v_dload_n (pc := 0) 0 rfl rfl ?_
    refine v_dconst0 (pc := 1) 1 rfl ?_
    refine v_dcmp (pc := 2) 2 rfl (1) (by rw [e]; rfl) ?_
    refine v_if_gtT (pc := 3) 3 8 rfl (by decide) (by omega) (by decide) ?_
    refine v_dload_n (pc := 8) 6 rfl rfl ?_
    refine v_dstore_n (pc := 9) 7 rfl ⟨Nat.le_of_ble_eq_true rfl, rfl⟩ ?_
    refine v_sipush (pc := 10) 8 rfl (by decide) ?_
    refine v_istore (pc := 13) 9 rfl ⟨Nat.le_of_ble_eq_true rfl, rfl⟩ ?_
    by_cases g : q ≤ -52
    · have l0 := up (-52 - q).toNat x q hx (by omega) (by omega)
      rw [show 1023 + q - q = 1023 by omega] at l0
      exact l0
    · have e1 := cmp_d hx one_d
      have e2 := ge1 (c := m) (d := 4503599627370496) (show ¬ q < (-52 : Int) by omega) hx.2.1.1
      have eb := cz_b (if q < (-52 : Int) then .lt else if (-52 : Int) < q then .gt else compare (m : Int) (4503599627370496 : Nat))
      have l0 := dn (q + 52).toNat x q hx (by omega) (by omega)
      rw [show 1023 + q - q = 1023 by omega] at l0
      refine v_dload_n (pc := 15) 10 rfl rfl ?_
      refine v_dconst1 (pc := 16) 11 rfl ?_
      refine v_dcmp (pc := 17) 12 rfl (cz (if q < (-52 : Int) then .lt else if (-52 : Int) < q then .gt else compare (m : Int) (4503599627370496 : Nat))) (by rw [e1]; exact cz_e _ _) ?_
      refine v_if_geT (pc := 18) 13 39 rfl (by decide) (by omega) (by omega) ?_
      exact l0
end Bits
