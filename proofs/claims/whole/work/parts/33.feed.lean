/-! 33: feed -/
def byt (x : Int) (s : Nat) : Int := Int.bmod (x / 2 ^ s) 256
theorem bm_b (a : Int) : -128 ≤ Int.bmod a 256 ∧ Int.bmod a 256 < 128 := by
  have h1 := Int.le_bmod (x := a) (m := 256) (by decide)
  have h2 := Int.bmod_lt (x := a) (m := 256) (by decide)
  omega
theorem byt_b (x : Int) (s : Nat) : -128 ≤ byt x s ∧ byt x s < 128 := bm_b _
theorem sh31 : ∀ s : Fin 32, (J ((s : Nat) : Int) &&& 31).toBitVec.smod 32 = BitVec.ofNat 32 s := by decide +kernel
theorem J_shrN {x : Int} {s : Nat} (hx : -2147483648 ≤ x ∧ x ≤ 2147483647) (hs : s < 32) : J x >>> (J (s : Int) &&& 31) = J (x / 2 ^ s) := by
  have hp := pow_ge s
  have h1 : -2147483648 ≤ x / 2 ^ s ∧ x / 2 ^ s ≤ 2147483647 := by
    refine ⟨?_, ?_⟩
    · by_cases e : 0 ≤ x
      · have := Int.ediv_nonneg e (show (0 : Int) ≤ 2 ^ s by omega); omega
      · have := Int.le_ediv_of_mul_le (a := -2147483648) (b := x) (c := 2 ^ s) (by omega) (by
          have : (-2147483648 : Int) * 2 ^ s ≤ -2147483648 * 1 := Int.mul_le_mul_of_nonpos_left (by omega) (by omega)
          omega)
        exact this
    · by_cases e : 0 ≤ x
      · have := Int.ediv_le_self (2 ^ s) e; omega
      · have := Int.ediv_neg_of_neg_of_pos (a := x) (b := 2 ^ s) (by omega) (by omega); omega
  rw [← Int32.toInt_inj, J_toInt h1]
  show (J x >>> (J (s : Int) &&& 31)).toBitVec.toInt = _
  rw [Int32.toBitVec_shiftRight, sh31 ⟨s, hs⟩, BitVec.sshiftRight_eq', BitVec.toInt_sshiftRight, BitVec.toNat_ofNat, Nat.mod_eq_of_lt (by omega), Int.shiftRight_eq_div_pow]
  show (J x).toInt / _ = _
  rw [J_toInt hx, Int.natCast_pow]
  rfl
theorem J_i2b (a : Int) : (J a).toInt8.toInt32 = J (Int.bmod a 256) := by
  have e : (J a).toInt8 = Int8.ofInt a := Int32.toInt8_ofInt
  rw [e, ← Int32.toInt_inj, Int8.toInt_toInt32, Int8.toInt_ofInt, J_toInt (by have := bm_b a; omega)]
def putF (n : Nat) (x : Int) (k : Nat) (B : Nat → Int) : Nat → Int := fun i => if n ≤ i ∧ i < n + k then byt x (24 - 8 * (i - n)) else B i
def tpM (M : Mem) (o fl a n : Nat) (x : Int) (k : Nat) : Mem := sI (aI M a (putF n x k (gI M a))) o fl ((n + k : Nat) : Int)
theorem putF_0 (n : Nat) (x : Int) (B : Nat → Int) : putF n x 0 B = B := by funext i; unfold putF; rw [if_neg (by omega)]
theorem tpM_0 {M : Mem} {o fl a n : Nat} {x : Int} (h : gI M o fl = (n : Int)) : tpM M o fl a n x 0 = M := by
  unfold tpM
  rw [putF_0, aI_self]
  refine Mem_ext (fun p q => ?_) (fun _ _ => rfl) (fun _ _ => rfl)
  rw [gI_sI]
  by_cases e : p = o
  · rw [if_pos e]
    by_cases e2 : q = fl
    · rw [if_pos e2, e, e2, h]; rfl
    · rw [if_neg e2, e]
  · rw [if_neg e]
theorem tpM_s {M : Mem} {o fl a n : Nat} {x : Int} {k : Nat} (hoa : o ≠ a) : sI (sI (tpM M o fl a n x k) a (n + k) (byt x (24 - 8 * k))) o fl (((n + k : Nat) : Int) + 1) = tpM M o fl a n x (k + 1) := by
  refine Mem_ext (fun p q => ?_) (fun _ _ => rfl) (fun _ _ => rfl)
  by_cases e : p = o
  · subst e
    unfold tpM
    rw [gI_sI, if_pos rfl]
    by_cases e2 : q = fl
    · rw [if_pos e2, gI_sI, if_pos rfl, if_pos e2]; omega
    · rw [if_neg e2, gI_sI_ne hoa, gI_sI, if_pos rfl, if_neg e2, gI_aI_ne hoa, gI_sI, if_pos rfl, if_neg e2, gI_aI_ne hoa]
  · have e1 : gI (tpM M o fl a n x k) p = gI (aI M a (putF n x k (gI M a))) p := gI_sI_ne e
    have e9 : gI (tpM M o fl a n x (k + 1)) p = gI (aI M a (putF n x (k + 1) (gI M a))) p := gI_sI_ne e
    rw [gI_sI_ne e, e9, gI_aI]
    by_cases e2 : p = a
    · subst e2
      rw [gI_sI, if_pos rfl, if_pos rfl, e1, gI_aI, if_pos rfl]
      unfold putF
      by_cases e3 : q = n + k
      · rw [if_pos e3, if_pos (by omega), e3, show n + k - n = k by omega]
      · rw [if_neg e3]
        by_cases e4 : n ≤ q ∧ q < n + k
        · rw [if_pos e4, if_pos (by omega)]
        · rw [if_neg e4, if_neg (by omega)]
    · rw [if_neg e2, gI_sI_ne e2, e1, gI_aI_ne e2]
section Feed
variable {G : Gt} {d : Nat} {M N : Mem} {A : Ax} {c c2 : Nat}
theorem c_put {x : Int} {n : Nat} (hx : -2147483648 ≤ x ∧ x ≤ 2147483647) (hn : gI M 0 1 = (n : Int)) (h8 : n + 4 ≤ 800) : V G d mX11_putOnTape 0 [some (.ref 0), some (.int (J x)), none] [] M (Ret none (tpM M 0 1 1 n x 4)) := by
  refine v_bipush (pc := 0) 0 rfl (by decide) ?_
  refine v_istore_n (pc := 2) 1 rfl ⟨Nat.le_of_ble_eq_true rfl, rfl⟩ ?_
  have loop := loopN (N := 4) (fun k => V G d mX11_putOnTape 3 [some (.ref 0), some (.int (J x)), some (.int (J (24 - 8 * (k : Int))))] [] (tpM M 0 1 1 n x k) (Ret none (tpM M 0 1 1 n x 4))) ?_ ?_
  · rw [tpM_0 hn] at loop
    exact loop
  · refine v_iload_n (pc := 3) 2 rfl rfl ?_
    refine v_if_ltT (pc := 4) 3 46 rfl (by decide) (by omega) (by omega) ?_
    refine v_ret (pc := 46) 25 rfl rfl ⟨rfl, rfl⟩
  · intro k hk ih
    have e1 : gI (tpM M 0 1 1 n x k) 0 1 = ((n + k : Nat) : Int) := by unfold tpM; rw [gI_sI, if_pos rfl, if_pos rfl]
    have e2 : gI (sI (tpM M 0 1 1 n x k) 1 (n + k) (byt x (24 - 8 * k))) 0 1 = ((n + k : Nat) : Int) := by rw [gI_sI_ne (by decide)]; exact e1
    have es : (24 - 8 * (k : Int)) = ((24 - 8 * k : Nat) : Int) := by omega
    rw [← tpM_s (by decide)] at ih
    rw [show (24 - 8 * ((k + 1 : Nat) : Int)) = ((24 - 8 * k : Nat) : Int) - 8 by omega] at ih
    rw [es]
    refine v_iload_n (pc := 3) 2 rfl rfl ?_
    refine v_if_ltF (pc := 4) 3 46 rfl (by decide) (by omega) (by omega) ?_
    refine v_aload_n (pc := 7) 4 rfl rfl ?_
    refine v_getI (pc := 8) 5 rfl fl_X11_13 rfl ?_
    refine v_sipush (pc := 11) 6 rfl (by decide) ?_
    refine v_ic_geF (pc := 14) 7 46 rfl (by decide) (by omega) (by omega) ?_
    refine v_aload_n (pc := 17) 8 rfl rfl ?_
    refine v_getC (pc := 18) 9 rfl fl_X11_9 rfl 1 rfl ?_
    refine v_aload_n (pc := 21) 10 rfl rfl ?_
    refine v_getI (pc := 22) 11 rfl fl_X11_13 rfl ?_
    rw [e1]
    refine v_iload_n (pc := 25) 12 rfl rfl ?_
    refine v_iload_n (pc := 26) 13 rfl rfl ?_
    refine v_ishr (pc := 27) 14 rfl (x / 2 ^ (24 - 8 * k)) (J_shrN hx (by omega)) ?_
    refine v_i2b (pc := 28) 15 rfl (byt x (24 - 8 * k)) (J_i2b _) ?_
    refine v_bastE (pc := 29) 16 rfl rfl (n + k) (by omega) (byt_b _ _) ?_
    refine v_aload_n (pc := 30) 17 rfl rfl ?_
    refine v_dup (pc := 31) 18 rfl rfl ?_
    refine v_getI (pc := 32) 19 rfl fl_X11_13 rfl ?_
    rw [e2]
    refine v_iconst (pc := 35) 20 rfl ?_
    refine v_iadd (pc := 36) 21 rfl ?_
    refine v_putI (pc := 37) 22 rfl fl_X11_13 rfl ?_
    refine v_iinc (pc := 40) 23 rfl rfl ⟨Nat.le_of_ble_eq_true rfl, rfl⟩ ?_
    refine v_goto (pc := 43) 24 3 rfl (by decide) ?_
    exact ih
/-- the tape alone has grown -/
def puA (A : Ax) (x : Int) : Ax := ((aN A + 4, putF (aN A) x 4 (aB A)), aT A, aS A, aU A, aK A)
theorem CRc.put (h : CRc M A c c2) (x : Int) (h8 : aN A + 4 ≤ 800) : CRc (tpM M 0 1 1 (aN A) x 4) (puA A x) c c2 := by
  obtain ⟨h1, h2, h3, h4, h5, h6, h7, h8', h9, h10⟩ := h
  have e : ∀ q, q ≠ 0 → q ≠ 1 → gI (tpM M 0 1 1 (aN A) x 4) q = gI M q := fun q q1 q2 => by unfold tpM; rw [gI_sI_ne q1, gI_aI_ne q2]
  have eT : ∀ j, j ≤ 10 → gI (tpM M 0 1 1 (aN A) x 4) (c + j) = gI M (c + j) := fun j hj => e _ (by omega) (by omega)
  have es : sOf (tpM M 0 1 1 (aN A) x 4) = sOf M := by unfold sOf; rw [e 9 (by decide) (by decide), e 10 (by decide) (by decide)]
  refine ⟨h1, h2, h3, h4.keep eT rfl (by rw [es]; exact h4.2.2.2.2.2.2), (tOf_eq eT).trans h5, es.trans h6, ⟨?_, h8, fun i hi => ?_⟩, h8'.keep (e 29 (by decide) (by decide)) (e 30 (by decide) (by decide)) (e 31 (by decide) (by decide)), h9.keep (e 29 (by decide) (by decide)) (e 30 (by decide) (by decide)) (e 31 (by decide) (by decide)), h10⟩
  · unfold tpM; rw [gI_sI, if_pos rfl, if_pos rfl]; rfl
  · have hi : i < aN A + 4 := hi
    have e1 : gI (tpM M 0 1 1 (aN A) x 4) 1 i = putF (aN A) x 4 (gI M 1) i := by unfold tpM; rw [gI_sI_ne (by decide), gI_aI, if_pos rfl]
    rw [e1]
    show putF (aN A) x 4 (gI M 1) i = putF (aN A) x 4 (aB A) i ∧ -128 ≤ putF (aN A) x 4 (aB A) i ∧ putF (aN A) x 4 (aB A) i < 128
    unfold putF
    by_cases q : aN A ≤ i ∧ i < aN A + 4
    · rw [if_pos q, if_pos q]; exact ⟨rfl, byt_b _ _⟩
    · rw [if_neg q, if_neg q]; exact h7.2.2 i (by omega)
theorem tp_cf (M : Mem) (n : Nat) (x : Int) (k : Nat) : CF M (tpM M 0 1 1 n x k) := fun q hq => ⟨by unfold tpM; rw [gI_sI_ne (by omega), gI_aI_ne (by omega)], rfl⟩
def sFeed (A : Ax) (x1 x2 x3 x4 x5 : Int) : Int × Ax := if aN A + 20 ≤ 800 then ((aN A : Int) + 20, puA (puA (puA (puA (puA A x1) x2) x3) x4) x5) else (-1, A)
theorem c_feed (h : CRc M A c c2) {x1 x2 x3 x4 x5 : Int} (g1 : -2147483648 ≤ x1 ∧ x1 ≤ 2147483647) (g2 : -2147483648 ≤ x2 ∧ x2 ≤ 2147483647) (g3 : -2147483648 ≤ x3 ∧ x3 ≤ 2147483647) (g4 : -2147483648 ≤ x4 ∧ x4 ≤ 2147483647) (g5 : -2147483648 ≤ x5 ∧ x5 ≤ 2147483647) : V G (d + 1) mX11_feed 0 [some (.ref 0), some (.int (J x1)), some (.int (J x2)), some (.int (J x3)), some (.int (J x4)), some (.int (J x5))] [] M (fun r N => r = some (.int (J (sFeed A x1 x2 x3 x4 x5).1)) ∧ CRc N (sFeed A x1 x2 x3 x4 x5).2 c c2 ∧ CF M N) := by
  have ht := h.tp
  unfold sFeed
  refine v_aload_n (pc := 0) 0 rfl rfl ?_
  refine v_getI (pc := 1) 1 rfl fl_X11_13 rfl ?_
  refine v_bipush (pc := 4) 2 rfl (by decide) ?_
  refine v_iadd (pc := 6) 3 rfl ?_
  refine v_sipush (pc := 7) 4 rfl (by decide) ?_
  refine v_ic_le (pc := 10) 5 15 rfl (by decide) (by omega) (fun e1 => ?_) (fun e1 => ?_)
  · rw [if_pos (by omega)]
    have hA1 := h.put x1 (by omega)
    have hA2 := hA1.put x2 (by show aN A + 4 + 4 ≤ 800; omega)
    have hA3 := hA2.put x3 (by show aN A + 4 + 4 + 4 ≤ 800; omega)
    have hA4 := hA3.put x4 (by show aN A + 4 + 4 + 4 + 4 ≤ 800; omega)
    have hA5 := hA4.put x5 (by show aN A + 4 + 4 + 4 + 4 + 4 ≤ 800; omega)
    have e5 := hA5.tp.1
    refine v_aload_n (pc := 15) 8 rfl rfl ?_
    refine v_iload_n (pc := 16) 9 rfl rfl ?_
    refine v_cV1v (pc := 17) 10 rfl cv_X11_75 rfl (Nat.le_of_ble_eq_true rfl) (Nat.le_of_ble_eq_true rfl) (c_put g1 ht.1 (by omega)) ?_
    refine v_aload_n (pc := 20) 11 rfl rfl ?_
    refine v_iload_n (pc := 21) 12 rfl rfl ?_
    refine v_cV1v (pc := 22) 13 rfl cv_X11_75 rfl (Nat.le_of_ble_eq_true rfl) (Nat.le_of_ble_eq_true rfl) (c_put g2 hA1.tp.1 (by show aN A + 4 + 4 ≤ 800; omega)) ?_
    refine v_aload_n (pc := 25) 14 rfl rfl ?_
    refine v_iload_n (pc := 26) 15 rfl rfl ?_
    refine v_cV1v (pc := 27) 16 rfl cv_X11_75 rfl (Nat.le_of_ble_eq_true rfl) (Nat.le_of_ble_eq_true rfl) (c_put g3 hA2.tp.1 (by show aN A + 4 + 4 + 4 ≤ 800; omega)) ?_
    refine v_aload_n (pc := 30) 17 rfl rfl ?_
    refine v_iload (pc := 31) 18 rfl rfl ?_
    refine v_cV1v (pc := 33) 19 rfl cv_X11_75 rfl (Nat.le_of_ble_eq_true rfl) (Nat.le_of_ble_eq_true rfl) (c_put g4 hA3.tp.1 (by show aN A + 4 + 4 + 4 + 4 ≤ 800; omega)) ?_
    refine v_aload_n (pc := 36) 20 rfl rfl ?_
    refine v_iload (pc := 37) 21 rfl rfl ?_
    refine v_cV1v (pc := 39) 22 rfl cv_X11_75 rfl (Nat.le_of_ble_eq_true rfl) (Nat.le_of_ble_eq_true rfl) (c_put g5 hA4.tp.1 (by show aN A + 4 + 4 + 4 + 4 + 4 ≤ 800; omega)) ?_
    refine v_aload_n (pc := 42) 23 rfl rfl ?_
    refine v_getI (pc := 43) 24 rfl fl_X11_13 rfl ?_
    rw [e5]
    refine v_iret (pc := 46) 25 rfl rfl ⟨rfl, hA5, ((((tp_cf _ _ _ _).trans (tp_cf _ _ _ _)).trans (tp_cf _ _ _ _)).trans (tp_cf _ _ _ _)).trans (tp_cf _ _ _ _)⟩
  · rw [if_neg (by omega)]
    refine v_iconst (pc := 13) 6 rfl ?_
    refine v_iret (pc := 14) 7 rfl rfl ⟨rfl, h, CF.rfl9 M⟩
end Feed
