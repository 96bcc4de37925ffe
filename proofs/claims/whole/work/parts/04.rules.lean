/-! 04: the rules of V -/
section VRules
variable {G : Gt} {d : Nat} {k : Mth} {pc : Nat} {ls : List (Option Value)} {st : List Value} {M : Mem} {Q : Option Value → Mem → Prop}

theorem v_iadd {a b : Int} (i : Nat) (hd : k.2.2.2.2.2[i]? = some (pc, .iadd, 1)) (n : V G d k (pc + 1) ls (.int (J (a + b)) :: st) M Q) : V G d k pc ls (.int (J b) :: .int (J a) :: st) M Q := by
  intro p e s m args below meth c C H locs hW hS lsR hl
  obtain ⟨hx, hb, hml, hr, hlk, hown, hts, hK, hdc⟩ := id C
  have hdg := hdc _ (List.mem_of_getElem? hd)
  have n9 := n p e s m args below meth c C H locs hW hS lsR hl
  rw [← J_add] at n9
  exact lv_iadd hx hb hdg n9
theorem v_isub {a b : Int} (i : Nat) (hd : k.2.2.2.2.2[i]? = some (pc, .isub, 1)) (n : V G d k (pc + 1) ls (.int (J (a - b)) :: st) M Q) : V G d k pc ls (.int (J b) :: .int (J a) :: st) M Q := by
  intro p e s m args below meth c C H locs hW hS lsR hl
  obtain ⟨hx, hb, hml, hr, hlk, hown, hts, hK, hdc⟩ := id C
  have hdg := hdc _ (List.mem_of_getElem? hd)
  have n9 := n p e s m args below meth c C H locs hW hS lsR hl
  rw [← J_sub] at n9
  exact lv_isub hx hb hdg n9
theorem v_imul {a b : Int} (i : Nat) (hd : k.2.2.2.2.2[i]? = some (pc, .imul, 1)) (n : V G d k (pc + 1) ls (.int (J (a * b)) :: st) M Q) : V G d k pc ls (.int (J b) :: .int (J a) :: st) M Q := by
  intro p e s m args below meth c C H locs hW hS lsR hl
  obtain ⟨hx, hb, hml, hr, hlk, hown, hts, hK, hdc⟩ := id C
  have hdg := hdc _ (List.mem_of_getElem? hd)
  have n9 := n p e s m args below meth c C H locs hW hS lsR hl
  rw [← J_mul] at n9
  exact lv_imul hx hb hdg n9
theorem v_ineg {a : Int} (i : Nat) (hd : k.2.2.2.2.2[i]? = some (pc, .ineg, 1)) (n : V G d k (pc + 1) ls (.int (J (-a)) :: st) M Q) : V G d k pc ls (.int (J a) :: st) M Q := by
  intro p e s m args below meth c C H locs hW hS lsR hl
  obtain ⟨hx, hb, hml, hr, hlk, hown, hts, hK, hdc⟩ := id C
  have hdg := hdc _ (List.mem_of_getElem? hd)
  have n9 := n p e s m args below meth c C H locs hW hS lsR hl
  rw [← J_neg] at n9
  exact lv_ineg hx hb hdg n9
theorem v_ladd {a b : Int} (i : Nat) (hd : k.2.2.2.2.2[i]? = some (pc, .ladd, 1)) (n : V G d k (pc + 1) ls (.long (JL (a + b)) :: st) M Q) : V G d k pc ls (.long (JL b) :: .long (JL a) :: st) M Q := by
  intro p e s m args below meth c C H locs hW hS lsR hl
  obtain ⟨hx, hb, hml, hr, hlk, hown, hts, hK, hdc⟩ := id C
  have hdg := hdc _ (List.mem_of_getElem? hd)
  have n9 := n p e s m args below meth c C H locs hW hS lsR hl
  rw [← JL_add] at n9
  exact lv_ladd hx hb hdg n9
theorem v_lsub {a b : Int} (i : Nat) (hd : k.2.2.2.2.2[i]? = some (pc, .lsub, 1)) (n : V G d k (pc + 1) ls (.long (JL (a - b)) :: st) M Q) : V G d k pc ls (.long (JL b) :: .long (JL a) :: st) M Q := by
  intro p e s m args below meth c C H locs hW hS lsR hl
  obtain ⟨hx, hb, hml, hr, hlk, hown, hts, hK, hdc⟩ := id C
  have hdg := hdc _ (List.mem_of_getElem? hd)
  have n9 := n p e s m args below meth c C H locs hW hS lsR hl
  rw [← JL_sub] at n9
  exact lv_lsub hx hb hdg n9
theorem v_lmul {a b : Int} (i : Nat) (hd : k.2.2.2.2.2[i]? = some (pc, .lmul, 1)) (n : V G d k (pc + 1) ls (.long (JL (a * b)) :: st) M Q) : V G d k pc ls (.long (JL b) :: .long (JL a) :: st) M Q := by
  intro p e s m args below meth c C H locs hW hS lsR hl
  obtain ⟨hx, hb, hml, hr, hlk, hown, hts, hK, hdc⟩ := id C
  have hdg := hdc _ (List.mem_of_getElem? hd)
  have n9 := n p e s m args below meth c C H locs hW hS lsR hl
  rw [← JL_mul] at n9
  exact lv_lmul hx hb hdg n9
theorem v_iand {a b : Int} (i : Nat) (hd : k.2.2.2.2.2[i]? = some (pc, .iand, 1)) (z : Int) (hz : J a &&& J b = J z) (n : V G d k (pc + 1) ls (.int (J z) :: st) M Q) : V G d k pc ls (.int (J b) :: .int (J a) :: st) M Q := by
  intro p e s m args below meth c C H locs hW hS lsR hl
  obtain ⟨hx, hb, hml, hr, hlk, hown, hts, hK, hdc⟩ := id C
  have hdg := hdc _ (List.mem_of_getElem? hd)
  have n9 := n p e s m args below meth c C H locs hW hS lsR hl
  rw [← hz] at n9
  exact lv_iand hx hb hdg n9
theorem v_ior {a b : Int} (i : Nat) (hd : k.2.2.2.2.2[i]? = some (pc, .ior, 1)) (z : Int) (hz : J a ||| J b = J z) (n : V G d k (pc + 1) ls (.int (J z) :: st) M Q) : V G d k pc ls (.int (J b) :: .int (J a) :: st) M Q := by
  intro p e s m args below meth c C H locs hW hS lsR hl
  obtain ⟨hx, hb, hml, hr, hlk, hown, hts, hK, hdc⟩ := id C
  have hdg := hdc _ (List.mem_of_getElem? hd)
  have n9 := n p e s m args below meth c C H locs hW hS lsR hl
  rw [← hz] at n9
  exact lv_ior hx hb hdg n9
theorem v_ixor {a b : Int} (i : Nat) (hd : k.2.2.2.2.2[i]? = some (pc, .ixor, 1)) (z : Int) (hz : J a ^^^ J b = J z) (n : V G d k (pc + 1) ls (.int (J z) :: st) M Q) : V G d k pc ls (.int (J b) :: .int (J a) :: st) M Q := by
  intro p e s m args below meth c C H locs hW hS lsR hl
  obtain ⟨hx, hb, hml, hr, hlk, hown, hts, hK, hdc⟩ := id C
  have hdg := hdc _ (List.mem_of_getElem? hd)
  have n9 := n p e s m args below meth c C H locs hW hS lsR hl
  rw [← hz] at n9
  exact lv_ixor hx hb hdg n9
theorem v_ishl {a b : Int} (i : Nat) (hd : k.2.2.2.2.2[i]? = some (pc, .ishl, 1)) (z : Int) (hz : J a <<< (J b &&& 31) = J z) (n : V G d k (pc + 1) ls (.int (J z) :: st) M Q) : V G d k pc ls (.int (J b) :: .int (J a) :: st) M Q := by
  intro p e s m args below meth c C H locs hW hS lsR hl
  obtain ⟨hx, hb, hml, hr, hlk, hown, hts, hK, hdc⟩ := id C
  have hdg := hdc _ (List.mem_of_getElem? hd)
  have n9 := n p e s m args below meth c C H locs hW hS lsR hl
  rw [← hz] at n9
  exact lv_ishl hx hb hdg n9
theorem v_ishr {a b : Int} (i : Nat) (hd : k.2.2.2.2.2[i]? = some (pc, .ishr, 1)) (z : Int) (hz : J a >>> (J b &&& 31) = J z) (n : V G d k (pc + 1) ls (.int (J z) :: st) M Q) : V G d k pc ls (.int (J b) :: .int (J a) :: st) M Q := by
  intro p e s m args below meth c C H locs hW hS lsR hl
  obtain ⟨hx, hb, hml, hr, hlk, hown, hts, hK, hdc⟩ := id C
  have hdg := hdc _ (List.mem_of_getElem? hd)
  have n9 := n p e s m args below meth c C H locs hW hS lsR hl
  rw [← hz] at n9
  exact lv_ishr hx hb hdg n9
theorem v_lor {a b : Int64} (i : Nat) (hd : k.2.2.2.2.2[i]? = some (pc, .lor, 1)) (z : Int64) (hz : a ||| b = z) (n : V G d k (pc + 1) ls (.long z :: st) M Q) : V G d k pc ls (.long b :: .long a :: st) M Q := by
  intro p e s m args below meth c C H locs hW hS lsR hl
  obtain ⟨hx, hb, hml, hr, hlk, hown, hts, hK, hdc⟩ := id C
  have hdg := hdc _ (List.mem_of_getElem? hd)
  have n9 := n p e s m args below meth c C H locs hW hS lsR hl
  rw [← hz] at n9
  exact lv_lor hx hb hdg n9
theorem v_lshl {a : Int64} {b : Int} (i : Nat) (hd : k.2.2.2.2.2[i]? = some (pc, .lshl, 1)) (z : Int64) (hz : a <<< ((J b).toInt64 &&& 63) = z) (n : V G d k (pc + 1) ls (.long z :: st) M Q) : V G d k pc ls (.int (J b) :: .long a :: st) M Q := by
  intro p e s m args below meth c C H locs hW hS lsR hl
  obtain ⟨hx, hb, hml, hr, hlk, hown, hts, hK, hdc⟩ := id C
  have hdg := hdc _ (List.mem_of_getElem? hd)
  have n9 := n p e s m args below meth c C H locs hW hS lsR hl
  exact lv_lshl hx hb hdg hz n9
theorem v_laddR {a b : Int64} (i : Nat) (hd : k.2.2.2.2.2[i]? = some (pc, .ladd, 1)) (n : V G d k (pc + 1) ls (.long (a + b) :: st) M Q) : V G d k pc ls (.long b :: .long a :: st) M Q := by
  intro p e s m args below meth c C H locs hW hS lsR hl
  obtain ⟨hx, hb, hml, hr, hlk, hown, hts, hK, hdc⟩ := id C
  have hdg := hdc _ (List.mem_of_getElem? hd)
  have n9 := n p e s m args below meth c C H locs hW hS lsR hl
  exact lv_ladd hx hb hdg n9
theorem v_lsubR {a b : Int64} (i : Nat) (hd : k.2.2.2.2.2[i]? = some (pc, .lsub, 1)) (n : V G d k (pc + 1) ls (.long (a - b) :: st) M Q) : V G d k pc ls (.long b :: .long a :: st) M Q := by
  intro p e s m args below meth c C H locs hW hS lsR hl
  obtain ⟨hx, hb, hml, hr, hlk, hown, hts, hK, hdc⟩ := id C
  have hdg := hdc _ (List.mem_of_getElem? hd)
  have n9 := n p e s m args below meth c C H locs hW hS lsR hl
  exact lv_lsub hx hb hdg n9
theorem v_iconst {z : Int} (i : Nat) (hd : k.2.2.2.2.2[i]? = some (pc, .iconst z, 1)) (n : V G d k (pc + 1) ls (.int (J z) :: st) M Q) : V G d k pc ls (st) M Q := by
  intro p e s m args below meth c C H locs hW hS lsR hl
  obtain ⟨hx, hb, hml, hr, hlk, hown, hts, hK, hdc⟩ := id C
  have hdg := hdc _ (List.mem_of_getElem? hd)
  have n9 := n p e s m args below meth c C H locs hW hS lsR hl
  exact lv_iconst hx hb hdg rfl n9
theorem v_bipush {z : Int} (i : Nat) (hd : k.2.2.2.2.2[i]? = some (pc, .bipush z, 2)) (hz : -128 ≤ z ∧ z < 128) (n : V G d k (pc + 2) ls (.int (J z) :: st) M Q) : V G d k pc ls (st) M Q := by
  intro p e s m args below meth c C H locs hW hS lsR hl
  obtain ⟨hx, hb, hml, hr, hlk, hown, hts, hK, hdc⟩ := id C
  have hdg := hdc _ (List.mem_of_getElem? hd)
  have n9 := n p e s m args below meth c C H locs hW hS lsR hl
  exact lv_bipush hx hb hdg (J_b8 hz) n9
theorem v_sipush {z : Int} (i : Nat) (hd : k.2.2.2.2.2[i]? = some (pc, .sipush z, 3)) (hz : -32768 ≤ z ∧ z < 32768) (n : V G d k (pc + 3) ls (.int (J z) :: st) M Q) : V G d k pc ls (st) M Q := by
  intro p e s m args below meth c C H locs hW hS lsR hl
  obtain ⟨hx, hb, hml, hr, hlk, hown, hts, hK, hdc⟩ := id C
  have hdg := hdc _ (List.mem_of_getElem? hd)
  have n9 := n p e s m args below meth c C H locs hW hS lsR hl
  exact lv_sipush hx hb hdg (J_b16 hz) n9
theorem v_lconst {f : Fin 2} (i : Nat) (hd : k.2.2.2.2.2[i]? = some (pc, .lconst f, 1)) (n : V G d k (pc + 1) ls (.long (JL ((f : Nat) : Int)) :: st) M Q) : V G d k pc ls (st) M Q := by
  intro p e s m args below meth c C H locs hW hS lsR hl
  obtain ⟨hx, hb, hml, hr, hlk, hown, hts, hK, hdc⟩ := id C
  have hdg := hdc _ (List.mem_of_getElem? hd)
  have n9 := n p e s m args below meth c C H locs hW hS lsR hl
  exact lv_lconst hx hb hdg Int64.ofInt_eq_ofNat.symm n9
theorem v_ldc {x : Nat} {v : Int32} (i : Nat) (hd : k.2.2.2.2.2[i]? = some (pc, .ldc x, 2)) (hw : Cond.constant k.1 x v ∈ tb) (z : Int) (hz : v = J z) (n : V G d k (pc + 2) ls (.int (J z) :: st) M Q) : V G d k pc ls (st) M Q := by
  intro p e s m args below meth c C H locs hW hS lsR hl
  obtain ⟨hx, hb, hml, hr, hlk, hown, hts, hK, hdc⟩ := id C
  have hdg := hdc _ (List.mem_of_getElem? hd)
  have n9 := n p e s m args below meth c C H locs hW hS lsR hl
  rw [← hz] at n9
  exact lv_ldc hx hb hown (hts _ hw) hdg n9
theorem v_ldcw {x : Nat} {v : Int32} (i : Nat) (hd : k.2.2.2.2.2[i]? = some (pc, .ldc_w x, 3)) (hw : Cond.constant k.1 x v ∈ tb) (z : Int) (hz : v = J z) (n : V G d k (pc + 3) ls (.int (J z) :: st) M Q) : V G d k pc ls (st) M Q := by
  intro p e s m args below meth c C H locs hW hS lsR hl
  obtain ⟨hx, hb, hml, hr, hlk, hown, hts, hK, hdc⟩ := id C
  have hdg := hdc _ (List.mem_of_getElem? hd)
  have n9 := n p e s m args below meth c C H locs hW hS lsR hl
  rw [← hz] at n9
  exact lv_ldcw hx hb hown (hts _ hw) hdg n9
theorem v_ldc2 {x : Nat} {v : Int64} (i : Nat) (hd : k.2.2.2.2.2[i]? = some (pc, .ldc2_w x, 3)) (hw : Cond.constantLong k.1 x v ∈ tb) (n : V G d k (pc + 3) ls (.long v :: st) M Q) : V G d k pc ls (st) M Q := by
  intro p e s m args below meth c C H locs hW hS lsR hl
  obtain ⟨hx, hb, hml, hr, hlk, hown, hts, hK, hdc⟩ := id C
  have hdg := hdc _ (List.mem_of_getElem? hd)
  have n9 := n p e s m args below meth c C H locs hW hS lsR hl
  exact lv_ldc2 hx hb hown (hts _ hw) hdg n9
theorem v_ldc2J {x : Nat} {v : Int64} (i : Nat) (hd : k.2.2.2.2.2[i]? = some (pc, .ldc2_w x, 3)) (hw : Cond.constantLong k.1 x v ∈ tb) (z : Int) (hz : v = JL z) (n : V G d k (pc + 3) ls (.long (JL z) :: st) M Q) : V G d k pc ls (st) M Q := by
  intro p e s m args below meth c C H locs hW hS lsR hl
  obtain ⟨hx, hb, hml, hr, hlk, hown, hts, hK, hdc⟩ := id C
  have hdg := hdc _ (List.mem_of_getElem? hd)
  have n9 := n p e s m args below meth c C H locs hW hS lsR hl
  rw [← hz] at n9
  exact lv_ldc2 hx hb hown (hts _ hw) hdg n9
theorem v_ldcf {x : Nat} {v : UInt32} (i : Nat) (hd : k.2.2.2.2.2[i]? = some (pc, .ldc x, 2)) (hw : Cond.constantFloat k.1 x v ∈ tb) (n : V G d k (pc + 2) ls (.float v :: st) M Q) : V G d k pc ls (st) M Q := by
  intro p e s m args below meth c C H locs hW hS lsR hl
  obtain ⟨hx, hb, hml, hr, hlk, hown, hts, hK, hdc⟩ := id C
  have hdg := hdc _ (List.mem_of_getElem? hd)
  have n9 := n p e s m args below meth c C H locs hW hS lsR hl
  exact lv_ldcf hx hb hown (hts _ hw) hdg n9
theorem v_ldc2d {x : Nat} {v : UInt64} (i : Nat) (hd : k.2.2.2.2.2[i]? = some (pc, .ldc2_w x, 3)) (hw : Cond.constantDouble k.1 x v ∈ tb) (n : V G d k (pc + 3) ls (.double v :: st) M Q) : V G d k pc ls (st) M Q := by
  intro p e s m args below meth c C H locs hW hS lsR hl
  obtain ⟨hx, hb, hml, hr, hlk, hown, hts, hK, hdc⟩ := id C
  have hdg := hdc _ (List.mem_of_getElem? hd)
  have n9 := n p e s m args below meth c C H locs hW hS lsR hl
  exact lv_ldc2d hx hb hown (hts _ hw) hdg n9
theorem v_ldcs {x : Nat} {tx : String} (i : Nat) (hd : k.2.2.2.2.2[i]? = some (pc, .ldc x, 2)) (j : Nat) (hj : strL[j]? = some (x, tx)) (hk : k.1 = RX12) (n : V G d k (pc + 2) ls (.ref (100 + j) :: st) M Q) : V G d k pc ls (st) M Q := by
  intro p e s m args below meth c C H locs hW hS lsR hl
  obtain ⟨hx, hb, hml, hr, hlk, hown, hts, hK, hdc⟩ := id C
  have hdg := hdc _ (List.mem_of_getElem? hd)
  have n9 := n p e s m args below meth c C H locs hW hS lsR hl
  have hq := hK.2.2.2.1 j _ hj
  rw [← hk] at hq
  exact va_ldcS hx hb hown hq hdg n9
theorem v_fconst0 (i : Nat) (hd : k.2.2.2.2.2[i]? = some (pc, .fconst 0, 1)) (n : V G d k (pc + 1) ls (.float FP.fconst0 :: st) M Q) : V G d k pc ls (st) M Q := by
  intro p e s m args below meth c C H locs hW hS lsR hl
  obtain ⟨hx, hb, hml, hr, hlk, hown, hts, hK, hdc⟩ := id C
  have hdg := hdc _ (List.mem_of_getElem? hd)
  have n9 := n p e s m args below meth c C H locs hW hS lsR hl
  exact lv_fconst0 hx hb hdg n9
theorem v_fconst1 (i : Nat) (hd : k.2.2.2.2.2[i]? = some (pc, .fconst 1, 1)) (n : V G d k (pc + 1) ls (.float FP.fconst1 :: st) M Q) : V G d k pc ls (st) M Q := by
  intro p e s m args below meth c C H locs hW hS lsR hl
  obtain ⟨hx, hb, hml, hr, hlk, hown, hts, hK, hdc⟩ := id C
  have hdg := hdc _ (List.mem_of_getElem? hd)
  have n9 := n p e s m args below meth c C H locs hW hS lsR hl
  exact lv_fconst1 hx hb hdg n9
theorem v_fconst2 (i : Nat) (hd : k.2.2.2.2.2[i]? = some (pc, .fconst 2, 1)) (n : V G d k (pc + 1) ls (.float FP.fconst2 :: st) M Q) : V G d k pc ls (st) M Q := by
  intro p e s m args below meth c C H locs hW hS lsR hl
  obtain ⟨hx, hb, hml, hr, hlk, hown, hts, hK, hdc⟩ := id C
  have hdg := hdc _ (List.mem_of_getElem? hd)
  have n9 := n p e s m args below meth c C H locs hW hS lsR hl
  exact lv_fconst2 hx hb hdg n9
theorem v_dconst0 (i : Nat) (hd : k.2.2.2.2.2[i]? = some (pc, .dconst 0, 1)) (n : V G d k (pc + 1) ls (.double FP.dconst0 :: st) M Q) : V G d k pc ls (st) M Q := by
  intro p e s m args below meth c C H locs hW hS lsR hl
  obtain ⟨hx, hb, hml, hr, hlk, hown, hts, hK, hdc⟩ := id C
  have hdg := hdc _ (List.mem_of_getElem? hd)
  have n9 := n p e s m args below meth c C H locs hW hS lsR hl
  exact lv_dconst0 hx hb hdg n9
theorem v_dconst1 (i : Nat) (hd : k.2.2.2.2.2[i]? = some (pc, .dconst 1, 1)) (n : V G d k (pc + 1) ls (.double FP.dconst1 :: st) M Q) : V G d k pc ls (st) M Q := by
  intro p e s m args below meth c C H locs hW hS lsR hl
  obtain ⟨hx, hb, hml, hr, hlk, hown, hts, hK, hdc⟩ := id C
  have hdg := hdc _ (List.mem_of_getElem? hd)
  have n9 := n p e s m args below meth c C H locs hW hS lsR hl
  exact lv_dconst1 hx hb hdg n9
theorem v_iload_n {x : Int32} {f : Fin 4} (i : Nat) (hd : k.2.2.2.2.2[i]? = some (pc, .iload_n f, 1)) (hv : ls[(f : Nat)]? = some (some (.int x))) (n : V G d k (pc + 1) ls (.int x :: st) M Q) : V G d k pc ls (st) M Q := by
  intro p e s m args below meth c C H locs hW hS lsR hl
  obtain ⟨hx, hb, hml, hr, hlk, hown, hts, hK, hdc⟩ := id C
  have hdg := hdc _ (List.mem_of_getElem? hd)
  have n9 := n p e s m args below meth c C H locs hW hS lsR hl
  exact lv_iload_n hx hb hdg rfl (hl.2.2 _ _ hv) n9
theorem v_iload {x : Int32} {f : Nat} (i : Nat) (hd : k.2.2.2.2.2[i]? = some (pc, .iload f, 2)) (hv : ls[f]? = some (some (.int x))) (n : V G d k (pc + 2) ls (.int x :: st) M Q) : V G d k pc ls (st) M Q := by
  intro p e s m args below meth c C H locs hW hS lsR hl
  obtain ⟨hx, hb, hml, hr, hlk, hown, hts, hK, hdc⟩ := id C
  have hdg := hdc _ (List.mem_of_getElem? hd)
  have n9 := n p e s m args below meth c C H locs hW hS lsR hl
  exact lv_iload hx hb hdg (hl.2.2 _ _ hv) n9
theorem v_lload_n {x : Int64} {f : Fin 4} (i : Nat) (hd : k.2.2.2.2.2[i]? = some (pc, .lload_n f, 1)) (hv : ls[(f : Nat)]? = some (some (.long x))) (n : V G d k (pc + 1) ls (.long x :: st) M Q) : V G d k pc ls (st) M Q := by
  intro p e s m args below meth c C H locs hW hS lsR hl
  obtain ⟨hx, hb, hml, hr, hlk, hown, hts, hK, hdc⟩ := id C
  have hdg := hdc _ (List.mem_of_getElem? hd)
  have n9 := n p e s m args below meth c C H locs hW hS lsR hl
  exact lv_lload_n hx hb hdg rfl (hl.2.2 _ _ hv) n9
theorem v_lload {x : Int64} {f : Nat} (i : Nat) (hd : k.2.2.2.2.2[i]? = some (pc, .lload f, 2)) (hv : ls[f]? = some (some (.long x))) (n : V G d k (pc + 2) ls (.long x :: st) M Q) : V G d k pc ls (st) M Q := by
  intro p e s m args below meth c C H locs hW hS lsR hl
  obtain ⟨hx, hb, hml, hr, hlk, hown, hts, hK, hdc⟩ := id C
  have hdg := hdc _ (List.mem_of_getElem? hd)
  have n9 := n p e s m args below meth c C H locs hW hS lsR hl
  exact lv_lload hx hb hdg (hl.2.2 _ _ hv) n9
theorem v_aload_n {x : Nat} {f : Fin 4} (i : Nat) (hd : k.2.2.2.2.2[i]? = some (pc, .aload_n f, 1)) (hv : ls[(f : Nat)]? = some (some (.ref x))) (n : V G d k (pc + 1) ls (.ref x :: st) M Q) : V G d k pc ls (st) M Q := by
  intro p e s m args below meth c C H locs hW hS lsR hl
  obtain ⟨hx, hb, hml, hr, hlk, hown, hts, hK, hdc⟩ := id C
  have hdg := hdc _ (List.mem_of_getElem? hd)
  have n9 := n p e s m args below meth c C H locs hW hS lsR hl
  exact lv_aload_n hx hb hdg rfl (hl.2.2 _ _ hv) n9
theorem v_aload {x : Nat} {f : Nat} (i : Nat) (hd : k.2.2.2.2.2[i]? = some (pc, .aload f, 2)) (hv : ls[f]? = some (some (.ref x))) (n : V G d k (pc + 2) ls (.ref x :: st) M Q) : V G d k pc ls (st) M Q := by
  intro p e s m args below meth c C H locs hW hS lsR hl
  obtain ⟨hx, hb, hml, hr, hlk, hown, hts, hK, hdc⟩ := id C
  have hdg := hdc _ (List.mem_of_getElem? hd)
  have n9 := n p e s m args below meth c C H locs hW hS lsR hl
  exact lv_aload hx hb hdg (hl.2.2 _ _ hv) n9
theorem v_fload_n {x : UInt32} {f : Fin 4} (i : Nat) (hd : k.2.2.2.2.2[i]? = some (pc, .fload_n f, 1)) (hv : ls[(f : Nat)]? = some (some (.float x))) (n : V G d k (pc + 1) ls (.float x :: st) M Q) : V G d k pc ls (st) M Q := by
  intro p e s m args below meth c C H locs hW hS lsR hl
  obtain ⟨hx, hb, hml, hr, hlk, hown, hts, hK, hdc⟩ := id C
  have hdg := hdc _ (List.mem_of_getElem? hd)
  have n9 := n p e s m args below meth c C H locs hW hS lsR hl
  exact lv_fload_n hx hb hdg rfl (hl.2.2 _ _ hv) n9
theorem v_fload {x : UInt32} {f : Nat} (i : Nat) (hd : k.2.2.2.2.2[i]? = some (pc, .fload f, 2)) (hv : ls[f]? = some (some (.float x))) (n : V G d k (pc + 2) ls (.float x :: st) M Q) : V G d k pc ls (st) M Q := by
  intro p e s m args below meth c C H locs hW hS lsR hl
  obtain ⟨hx, hb, hml, hr, hlk, hown, hts, hK, hdc⟩ := id C
  have hdg := hdc _ (List.mem_of_getElem? hd)
  have n9 := n p e s m args below meth c C H locs hW hS lsR hl
  exact lv_fload hx hb hdg (hl.2.2 _ _ hv) n9
theorem v_dload_n {x : UInt64} {f : Fin 4} (i : Nat) (hd : k.2.2.2.2.2[i]? = some (pc, .dload_n f, 1)) (hv : ls[(f : Nat)]? = some (some (.double x))) (n : V G d k (pc + 1) ls (.double x :: st) M Q) : V G d k pc ls (st) M Q := by
  intro p e s m args below meth c C H locs hW hS lsR hl
  obtain ⟨hx, hb, hml, hr, hlk, hown, hts, hK, hdc⟩ := id C
  have hdg := hdc _ (List.mem_of_getElem? hd)
  have n9 := n p e s m args below meth c C H locs hW hS lsR hl
  exact lv_dload_n hx hb hdg rfl (hl.2.2 _ _ hv) n9
theorem v_dload {x : UInt64} {f : Nat} (i : Nat) (hd : k.2.2.2.2.2[i]? = some (pc, .dload f, 2)) (hv : ls[f]? = some (some (.double x))) (n : V G d k (pc + 2) ls (.double x :: st) M Q) : V G d k pc ls (st) M Q := by
  intro p e s m args below meth c C H locs hW hS lsR hl
  obtain ⟨hx, hb, hml, hr, hlk, hown, hts, hK, hdc⟩ := id C
  have hdg := hdc _ (List.mem_of_getElem? hd)
  have n9 := n p e s m args below meth c C H locs hW hS lsR hl
  exact lv_dload hx hb hdg (hl.2.2 _ _ hv) n9
/-- no long or double lies just below the place -/
def okSt (ls : List (Option Value)) (i : Nat) : Bool := match i with
  | 0 => true
  | j + 1 => match ls[j]? with
    | some (some w) => w.category != 2
    | _ => true
def lvOf (ad : Nat → Nat) (ls : List (Option Value)) : List (Nat × Value) := (List.range ls.length).filterMap (fun i => match ls[i]? with
  | some (some v) => some (i, rv ad v)
  | _ => none)
theorem lvOf_mem {ad : Nat → Nat} {ls : List (Option Value)} {q : Nat × Value} : q ∈ lvOf ad ls ↔ ∃ v, ls[q.1]? = some (some v) ∧ q.2 = rv ad v := by
  unfold lvOf
  rw [List.mem_filterMap]
  constructor
  · rintro ⟨i, hi, h⟩
    split at h
    · next v hv => cases h; exact ⟨v, hv, rfl⟩
    · cases h
  · rintro ⟨v, hv, h2⟩
    refine ⟨q.1, List.mem_range.mpr (List.getElem?_eq_some_iff.mp hv).1, ?_⟩
    rw [hv]
    show some (q.1, rv ad v) = some q
    rw [← h2]
theorem LvOk.has {ad : Nat → Nat} {n : Nat} {lsR : Array Slot} (h : LvOk ad n lsR ls) : lv_has lsR n (lvOf ad ls) :=
  ⟨h.1, h.2.1, fun q hq => by obtain ⟨v, h1, h2⟩ := lvOf_mem.mp hq; rw [h2]; exact h.2.2 _ _ h1⟩
theorem LvOk.st1 {ad : Nat → Nat} {n f : Nat} {lsR : Array Slot} {v : Value} (ho : okSt ls f = true) (h : lv_has lsR n ((f, rv ad v) :: (lvOf ad ls).filter (fun q => !(q.1 == f) && !(q.1 + 1 == f && q.2.category == 2)))) : LvOk ad n lsR (ls.set f (some v)) := by
  refine ⟨h.1, h.2.1, fun i w hi => ?_⟩
  rw [List.getElem?_set] at hi
  by_cases e : f = i
  · subst e
    rw [if_pos rfl] at hi
    split at hi
    · cases hi; exact h.2.2 (f, rv ad v) List.mem_cons_self
    · cases hi
  · rw [if_neg e] at hi
    refine h.2.2 (i, rv ad w) (List.mem_cons_of_mem _ (List.mem_filter.mpr ⟨lvOf_mem.mpr ⟨w, hi, rfl⟩, ?_⟩))
    have e1 : (i == f) = false := by simpa using Ne.symm e
    show (!(i == f) && !(i + 1 == f && (rv ad w).category == 2)) = true
    rw [e1, rv_cat]
    by_cases e2 : i + 1 = f
    · subst e2
      have ho : (match ls[i]? with
        | some (some w) => w.category != 2
        | _ => true) = true := ho
      rw [hi] at ho
      simpa using ho
    · have e3 : (i + 1 == f) = false := by simpa using e2
      rw [e3]; rfl
theorem LvOk.st2 {ad : Nat → Nat} {n f : Nat} {lsR : Array Slot} {v : Value} (ho : okSt ls f = true) (h : lv_has lsR n ((f, rv ad v) :: (lvOf ad ls).filter (fun q => !(q.1 == f) && (!(q.1 == f + 1) && !(q.1 + 1 == f && q.2.category == 2))))) : LvOk ad n lsR ((ls.set f (some v)).set (f + 1) none) := by
  refine ⟨h.1, h.2.1, fun i w hi => ?_⟩
  rw [List.getElem?_set] at hi
  by_cases e0 : f + 1 = i
  · subst e0
    rw [if_pos rfl] at hi
    split at hi <;> cases hi
  rw [if_neg e0, List.getElem?_set] at hi
  by_cases e : f = i
  · subst e
    rw [if_pos rfl] at hi
    split at hi
    · cases hi; exact h.2.2 (f, rv ad v) List.mem_cons_self
    · cases hi
  · rw [if_neg e] at hi
    refine h.2.2 (i, rv ad w) (List.mem_cons_of_mem _ (List.mem_filter.mpr ⟨lvOf_mem.mpr ⟨w, hi, rfl⟩, ?_⟩))
    have e1 : (i == f) = false := by simpa using Ne.symm e
    have e4 : (i == f + 1) = false := by simpa using Ne.symm e0
    show (!(i == f) && (!(i == f + 1) && !(i + 1 == f && (rv ad w).category == 2))) = true
    rw [e1, e4, rv_cat]
    by_cases e2 : i + 1 = f
    · subst e2
      have ho : (match ls[i]? with
        | some (some w) => w.category != 2
        | _ => true) = true := ho
      rw [hi] at ho
      simpa using ho
    · have e3 : (i + 1 == f) = false := by simpa using e2
      rw [e3]; rfl

theorem v_istore_n {x : Int32} {f : Fin 4} (i : Nat) (hd : k.2.2.2.2.2[i]? = some (pc, .istore_n f, 1)) (hn : ((f : Nat) < k.2.2.2.1 ∧ okSt ls (f : Nat) = true)) (n : V G d k (pc + 1) (ls.set (f : Nat) (some (.int x))) st M Q) : V G d k pc ls (.int x :: st) M Q := by
  intro p e s m args below meth c C H locs hW hS lsR hl
  obtain ⟨hx, hb, hml, hr, hlk, hown, hts, hK, hdc⟩ := id C
  have hdg := hdc _ (List.mem_of_getElem? hd)
  exact lv_istore_n hx hb hdg rfl hl.has hn.1 rfl (fun ls9 h9 => n p e s m args below meth c C H locs hW hS ls9 (LvOk.st1 (v := .int x) hn.2 h9))

theorem v_istore {x : Int32} {f : Nat} (i : Nat) (hd : k.2.2.2.2.2[i]? = some (pc, .istore f, 2)) (hn : (f < k.2.2.2.1 ∧ okSt ls f = true)) (n : V G d k (pc + 2) (ls.set f (some (.int x))) st M Q) : V G d k pc ls (.int x :: st) M Q := by
  intro p e s m args below meth c C H locs hW hS lsR hl
  obtain ⟨hx, hb, hml, hr, hlk, hown, hts, hK, hdc⟩ := id C
  have hdg := hdc _ (List.mem_of_getElem? hd)
  exact lv_istore hx hb hdg hl.has hn.1 rfl (fun ls9 h9 => n p e s m args below meth c C H locs hW hS ls9 (LvOk.st1 (v := .int x) hn.2 h9))

theorem v_lstore_n {x : Int64} {f : Fin 4} (i : Nat) (hd : k.2.2.2.2.2[i]? = some (pc, .lstore_n f, 1)) (hn : ((f : Nat) + 1 < k.2.2.2.1 ∧ okSt ls (f : Nat) = true)) (n : V G d k (pc + 1) ((ls.set (f : Nat) (some (.long x))).set ((f : Nat) + 1) none) st M Q) : V G d k pc ls (.long x :: st) M Q := by
  intro p e s m args below meth c C H locs hW hS lsR hl
  obtain ⟨hx, hb, hml, hr, hlk, hown, hts, hK, hdc⟩ := id C
  have hdg := hdc _ (List.mem_of_getElem? hd)
  exact lv_lstore_n hx hb hdg rfl hl.has hn.1 rfl (fun ls9 h9 => n p e s m args below meth c C H locs hW hS ls9 (LvOk.st2 (v := .long x) hn.2 h9))

theorem v_lstore {x : Int64} {f : Nat} (i : Nat) (hd : k.2.2.2.2.2[i]? = some (pc, .lstore f, 2)) (hn : (f + 1 < k.2.2.2.1 ∧ okSt ls f = true)) (n : V G d k (pc + 2) ((ls.set f (some (.long x))).set (f + 1) none) st M Q) : V G d k pc ls (.long x :: st) M Q := by
  intro p e s m args below meth c C H locs hW hS lsR hl
  obtain ⟨hx, hb, hml, hr, hlk, hown, hts, hK, hdc⟩ := id C
  have hdg := hdc _ (List.mem_of_getElem? hd)
  exact lv_lstore hx hb hdg hl.has hn.1 rfl (fun ls9 h9 => n p e s m args below meth c C H locs hW hS ls9 (LvOk.st2 (v := .long x) hn.2 h9))

theorem v_astore_n {x : Nat} {f : Fin 4} (i : Nat) (hd : k.2.2.2.2.2[i]? = some (pc, .astore_n f, 1)) (hn : ((f : Nat) < k.2.2.2.1 ∧ okSt ls (f : Nat) = true)) (n : V G d k (pc + 1) (ls.set (f : Nat) (some (.ref x))) st M Q) : V G d k pc ls (.ref x :: st) M Q := by
  intro p e s m args below meth c C H locs hW hS lsR hl
  obtain ⟨hx, hb, hml, hr, hlk, hown, hts, hK, hdc⟩ := id C
  have hdg := hdc _ (List.mem_of_getElem? hd)
  exact lv_astore_n hx hb hdg rfl hl.has hn.1 rfl (fun ls9 h9 => n p e s m args below meth c C H locs hW hS ls9 (LvOk.st1 (v := .ref x) hn.2 h9))

theorem v_astore {x : Nat} {f : Nat} (i : Nat) (hd : k.2.2.2.2.2[i]? = some (pc, .astore f, 2)) (hn : (f < k.2.2.2.1 ∧ okSt ls f = true)) (n : V G d k (pc + 2) (ls.set f (some (.ref x))) st M Q) : V G d k pc ls (.ref x :: st) M Q := by
  intro p e s m args below meth c C H locs hW hS lsR hl
  obtain ⟨hx, hb, hml, hr, hlk, hown, hts, hK, hdc⟩ := id C
  have hdg := hdc _ (List.mem_of_getElem? hd)
  exact lv_astore hx hb hdg hl.has hn.1 rfl (fun ls9 h9 => n p e s m args below meth c C H locs hW hS ls9 (LvOk.st1 (v := .ref x) hn.2 h9))

theorem v_fstore_n {x : UInt32} {f : Fin 4} (i : Nat) (hd : k.2.2.2.2.2[i]? = some (pc, .fstore_n f, 1)) (hn : ((f : Nat) < k.2.2.2.1 ∧ okSt ls (f : Nat) = true)) (n : V G d k (pc + 1) (ls.set (f : Nat) (some (.float x))) st M Q) : V G d k pc ls (.float x :: st) M Q := by
  intro p e s m args below meth c C H locs hW hS lsR hl
  obtain ⟨hx, hb, hml, hr, hlk, hown, hts, hK, hdc⟩ := id C
  have hdg := hdc _ (List.mem_of_getElem? hd)
  exact lv_fstore_n hx hb hdg rfl hl.has hn.1 rfl (fun ls9 h9 => n p e s m args below meth c C H locs hW hS ls9 (LvOk.st1 (v := .float x) hn.2 h9))

theorem v_fstore {x : UInt32} {f : Nat} (i : Nat) (hd : k.2.2.2.2.2[i]? = some (pc, .fstore f, 2)) (hn : (f < k.2.2.2.1 ∧ okSt ls f = true)) (n : V G d k (pc + 2) (ls.set f (some (.float x))) st M Q) : V G d k pc ls (.float x :: st) M Q := by
  intro p e s m args below meth c C H locs hW hS lsR hl
  obtain ⟨hx, hb, hml, hr, hlk, hown, hts, hK, hdc⟩ := id C
  have hdg := hdc _ (List.mem_of_getElem? hd)
  exact lv_fstore hx hb hdg hl.has hn.1 rfl (fun ls9 h9 => n p e s m args below meth c C H locs hW hS ls9 (LvOk.st1 (v := .float x) hn.2 h9))

theorem v_dstore_n {x : UInt64} {f : Fin 4} (i : Nat) (hd : k.2.2.2.2.2[i]? = some (pc, .dstore_n f, 1)) (hn : ((f : Nat) + 1 < k.2.2.2.1 ∧ okSt ls (f : Nat) = true)) (n : V G d k (pc + 1) ((ls.set (f : Nat) (some (.double x))).set ((f : Nat) + 1) none) st M Q) : V G d k pc ls (.double x :: st) M Q := by
  intro p e s m args below meth c C H locs hW hS lsR hl
  obtain ⟨hx, hb, hml, hr, hlk, hown, hts, hK, hdc⟩ := id C
  have hdg := hdc _ (List.mem_of_getElem? hd)
  exact lv_dstore_n hx hb hdg rfl hl.has hn.1 rfl (fun ls9 h9 => n p e s m args below meth c C H locs hW hS ls9 (LvOk.st2 (v := .double x) hn.2 h9))

theorem v_dstore {x : UInt64} {f : Nat} (i : Nat) (hd : k.2.2.2.2.2[i]? = some (pc, .dstore f, 2)) (hn : (f + 1 < k.2.2.2.1 ∧ okSt ls f = true)) (n : V G d k (pc + 2) ((ls.set f (some (.double x))).set (f + 1) none) st M Q) : V G d k pc ls (.double x :: st) M Q := by
  intro p e s m args below meth c C H locs hW hS lsR hl
  obtain ⟨hx, hb, hml, hr, hlk, hown, hts, hK, hdc⟩ := id C
  have hdg := hdc _ (List.mem_of_getElem? hd)
  exact lv_dstore hx hb hdg hl.has hn.1 rfl (fun ls9 h9 => n p e s m args below meth c C H locs hW hS ls9 (LvOk.st2 (v := .double x) hn.2 h9))

theorem v_iinc {a z : Int} {f : Nat} (i : Nat) (hd : k.2.2.2.2.2[i]? = some (pc, .iinc f z, 3)) (hv : ls[f]? = some (some (.int (J a)))) (hn : f < k.2.2.2.1 ∧ okSt ls f = true) (n : V G d k (pc + 3) (ls.set f (some (.int (J (a + z))))) st M Q) : V G d k pc ls st M Q := by
  intro p e s m args below meth c C H locs hW hS lsR hl
  obtain ⟨hx, hb, hml, hr, hlk, hown, hts, hK, hdc⟩ := id C
  have hdg := hdc _ (List.mem_of_getElem? hd)
  obtain ⟨j, hj⟩ := List.getElem?_of_mem (lvOf_mem (ad := ga G) (q := (f, .int (J a))).mpr ⟨.int (J a), hv, rfl⟩)
  exact lv_iinc hx hb hdg hl.has hj (show J a + Int32.ofInt z = J (a + z) from J_add a z) hn.1 rfl (fun ls9 h9 => n p e s m args below meth c C H locs hW hS ls9 (LvOk.st1 (v := .int (J (a + z))) hn.2 h9))

theorem v_i2l {a : Int} (i : Nat) (hd : k.2.2.2.2.2[i]? = some (pc, .i2l, 1)) (ha : -2147483648 ≤ a ∧ a ≤ 2147483647) (n : V G d k (pc + 1) ls (.long (JL a) :: st) M Q) : V G d k pc ls (.int (J a) :: st) M Q := by
  intro p e s m args below meth c C H locs hW hS lsR hl
  obtain ⟨hx, hb, hml, hr, hlk, hown, hts, hK, hdc⟩ := id C
  have hdg := hdc _ (List.mem_of_getElem? hd)
  have n9 := n p e s m args below meth c C H locs hW hS lsR hl
  exact lv_i2l hx hb hdg (J_long ha) n9
theorem v_i2b {a : Int} (i : Nat) (hd : k.2.2.2.2.2[i]? = some (pc, .i2b, 1)) (z : Int) (hz : (J a).toInt8.toInt32 = J z) (n : V G d k (pc + 1) ls (.int (J z) :: st) M Q) : V G d k pc ls (.int (J a) :: st) M Q := by
  intro p e s m args below meth c C H locs hW hS lsR hl
  obtain ⟨hx, hb, hml, hr, hlk, hown, hts, hK, hdc⟩ := id C
  have hdg := hdc _ (List.mem_of_getElem? hd)
  have n9 := n p e s m args below meth c C H locs hW hS lsR hl
  exact lv_i2b hx hb hdg hz n9
theorem v_i2f {x : Int32} (i : Nat) (hd : k.2.2.2.2.2[i]? = some (pc, .i2f, 1)) (n : V G d k (pc + 1) ls (.float (FP.i2f x) :: st) M Q) : V G d k pc ls (.int x :: st) M Q := by
  intro p e s m args below meth c C H locs hW hS lsR hl
  obtain ⟨hx, hb, hml, hr, hlk, hown, hts, hK, hdc⟩ := id C
  have hdg := hdc _ (List.mem_of_getElem? hd)
  have n9 := n p e s m args below meth c C H locs hW hS lsR hl
  exact lv_i2f hx hb hdg n9
theorem v_i2d {x : Int32} (i : Nat) (hd : k.2.2.2.2.2[i]? = some (pc, .i2d, 1)) (n : V G d k (pc + 1) ls (.double (FP.i2d x) :: st) M Q) : V G d k pc ls (.int x :: st) M Q := by
  intro p e s m args below meth c C H locs hW hS lsR hl
  obtain ⟨hx, hb, hml, hr, hlk, hown, hts, hK, hdc⟩ := id C
  have hdg := hdc _ (List.mem_of_getElem? hd)
  have n9 := n p e s m args below meth c C H locs hW hS lsR hl
  exact lv_i2d hx hb hdg n9
theorem v_f2i {x : UInt32} (i : Nat) (hd : k.2.2.2.2.2[i]? = some (pc, .f2i, 1)) (z : Int) (hz : FP.f2i x = J z) (n : V G d k (pc + 1) ls (.int (J z) :: st) M Q) : V G d k pc ls (.float x :: st) M Q := by
  intro p e s m args below meth c C H locs hW hS lsR hl
  obtain ⟨hx, hb, hml, hr, hlk, hown, hts, hK, hdc⟩ := id C
  have hdg := hdc _ (List.mem_of_getElem? hd)
  have n9 := n p e s m args below meth c C H locs hW hS lsR hl
  rw [← hz] at n9
  exact lv_f2i hx hb hdg n9
theorem v_d2l {x : UInt64} (i : Nat) (hd : k.2.2.2.2.2[i]? = some (pc, .d2l, 1)) (n : V G d k (pc + 1) ls (.long (FP.d2l x) :: st) M Q) : V G d k pc ls (.double x :: st) M Q := by
  intro p e s m args below meth c C H locs hW hS lsR hl
  obtain ⟨hx, hb, hml, hr, hlk, hown, hts, hK, hdc⟩ := id C
  have hdg := hdc _ (List.mem_of_getElem? hd)
  have n9 := n p e s m args below meth c C H locs hW hS lsR hl
  exact lv_d2l hx hb hdg n9
theorem v_fsub {x y : UInt32} (i : Nat) (hd : k.2.2.2.2.2[i]? = some (pc, .fsub, 1)) (hz : vf_n32 (FP.fsub x y)) (n : V G d k (pc + 1) ls (.float (FP.fsub x y) :: st) M Q) : V G d k pc ls (.float y :: .float x :: st) M Q := by
  intro p e s m args below meth c C H locs hW hS lsR hl
  obtain ⟨hx, hb, hml, hr, hlk, hown, hts, hK, hdc⟩ := id C
  have hdg := hdc _ (List.mem_of_getElem? hd)
  have n9 := n p e s m args below meth c C H locs hW hS lsR hl
  exact lv_fsub hx hb hdg hz n9
theorem v_fmul {x y : UInt32} (i : Nat) (hd : k.2.2.2.2.2[i]? = some (pc, .fmul, 1)) (hz : vf_n32 (FP.fmul x y)) (n : V G d k (pc + 1) ls (.float (FP.fmul x y) :: st) M Q) : V G d k pc ls (.float y :: .float x :: st) M Q := by
  intro p e s m args below meth c C H locs hW hS lsR hl
  obtain ⟨hx, hb, hml, hr, hlk, hown, hts, hK, hdc⟩ := id C
  have hdg := hdc _ (List.mem_of_getElem? hd)
  have n9 := n p e s m args below meth c C H locs hW hS lsR hl
  exact lv_fmul hx hb hdg hz n9
theorem v_fdiv {x y : UInt32} (i : Nat) (hd : k.2.2.2.2.2[i]? = some (pc, .fdiv, 1)) (hz : vf_n32 (FP.fdiv x y)) (n : V G d k (pc + 1) ls (.float (FP.fdiv x y) :: st) M Q) : V G d k pc ls (.float y :: .float x :: st) M Q := by
  intro p e s m args below meth c C H locs hW hS lsR hl
  obtain ⟨hx, hb, hml, hr, hlk, hown, hts, hK, hdc⟩ := id C
  have hdg := hdc _ (List.mem_of_getElem? hd)
  have n9 := n p e s m args below meth c C H locs hW hS lsR hl
  exact lv_fdiv hx hb hdg hz n9
theorem v_dadd {x y : UInt64} (i : Nat) (hd : k.2.2.2.2.2[i]? = some (pc, .dadd, 1)) (hz : vf_n64 (FP.dadd x y)) (n : V G d k (pc + 1) ls (.double (FP.dadd x y) :: st) M Q) : V G d k pc ls (.double y :: .double x :: st) M Q := by
  intro p e s m args below meth c C H locs hW hS lsR hl
  obtain ⟨hx, hb, hml, hr, hlk, hown, hts, hK, hdc⟩ := id C
  have hdg := hdc _ (List.mem_of_getElem? hd)
  have n9 := n p e s m args below meth c C H locs hW hS lsR hl
  exact lv_dadd hx hb hdg hz n9
theorem v_dsub {x y : UInt64} (i : Nat) (hd : k.2.2.2.2.2[i]? = some (pc, .dsub, 1)) (hz : vf_n64 (FP.dsub x y)) (n : V G d k (pc + 1) ls (.double (FP.dsub x y) :: st) M Q) : V G d k pc ls (.double y :: .double x :: st) M Q := by
  intro p e s m args below meth c C H locs hW hS lsR hl
  obtain ⟨hx, hb, hml, hr, hlk, hown, hts, hK, hdc⟩ := id C
  have hdg := hdc _ (List.mem_of_getElem? hd)
  have n9 := n p e s m args below meth c C H locs hW hS lsR hl
  exact lv_dsub hx hb hdg hz n9
theorem v_dmul {x y : UInt64} (i : Nat) (hd : k.2.2.2.2.2[i]? = some (pc, .dmul, 1)) (hz : vf_n64 (FP.dmul x y)) (n : V G d k (pc + 1) ls (.double (FP.dmul x y) :: st) M Q) : V G d k pc ls (.double y :: .double x :: st) M Q := by
  intro p e s m args below meth c C H locs hW hS lsR hl
  obtain ⟨hx, hb, hml, hr, hlk, hown, hts, hK, hdc⟩ := id C
  have hdg := hdc _ (List.mem_of_getElem? hd)
  have n9 := n p e s m args below meth c C H locs hW hS lsR hl
  exact lv_dmul hx hb hdg hz n9
theorem v_ddiv {x y : UInt64} (i : Nat) (hd : k.2.2.2.2.2[i]? = some (pc, .ddiv, 1)) (hz : vf_n64 (FP.ddiv x y)) (n : V G d k (pc + 1) ls (.double (FP.ddiv x y) :: st) M Q) : V G d k pc ls (.double y :: .double x :: st) M Q := by
  intro p e s m args below meth c C H locs hW hS lsR hl
  obtain ⟨hx, hb, hml, hr, hlk, hown, hts, hK, hdc⟩ := id C
  have hdg := hdc _ (List.mem_of_getElem? hd)
  have n9 := n p e s m args below meth c C H locs hW hS lsR hl
  exact lv_ddiv hx hb hdg hz n9
theorem v_fcmp {x y : UInt32} {op : CmpOp} (i : Nat) (hd : k.2.2.2.2.2[i]? = some (pc, .fcmp op, 1)) (z : Int) (hz : Op.cmpValue (FP.fcmp x y) op = J z) (n : V G d k (pc + 1) ls (.int (J z) :: st) M Q) : V G d k pc ls (.float y :: .float x :: st) M Q := by
  intro p e s m args below meth c C H locs hW hS lsR hl
  obtain ⟨hx, hb, hml, hr, hlk, hown, hts, hK, hdc⟩ := id C
  have hdg := hdc _ (List.mem_of_getElem? hd)
  have n9 := n p e s m args below meth c C H locs hW hS lsR hl
  rw [← hz] at n9
  exact lv_fcmp hx hb hdg n9
theorem v_dcmp {x y : UInt64} {op : CmpOp} (i : Nat) (hd : k.2.2.2.2.2[i]? = some (pc, .dcmp op, 1)) (z : Int) (hz : Op.cmpValue (FP.dcmp x y) op = J z) (n : V G d k (pc + 1) ls (.int (J z) :: st) M Q) : V G d k pc ls (.double y :: .double x :: st) M Q := by
  intro p e s m args below meth c C H locs hW hS lsR hl
  obtain ⟨hx, hb, hml, hr, hlk, hown, hts, hK, hdc⟩ := id C
  have hdg := hdc _ (List.mem_of_getElem? hd)
  have n9 := n p e s m args below meth c C H locs hW hS lsR hl
  rw [← hz] at n9
  exact lv_dcmp hx hb hdg n9
theorem v_lcmp {x y : Int64} (i : Nat) (hd : k.2.2.2.2.2[i]? = some (pc, .lcmp, 1)) (z : Int) (hz : lg_cmp x y = J z) (n : V G d k (pc + 1) ls (.int (J z) :: st) M Q) : V G d k pc ls (.long y :: .long x :: st) M Q := by
  intro p e s m args below meth c C H locs hW hS lsR hl
  obtain ⟨hx, hb, hml, hr, hlk, hown, hts, hK, hdc⟩ := id C
  have hdg := hdc _ (List.mem_of_getElem? hd)
  have n9 := n p e s m args below meth c C H locs hW hS lsR hl
  rw [← hz] at n9
  exact W.lcmp hx hb hdg n9
theorem v_dup {x : Value} (i : Nat) (hd : k.2.2.2.2.2[i]? = some (pc, .dup, 1)) (hx1 : x.category = 1) (n : V G d k (pc + 1) ls (x :: x :: st) M Q) : V G d k pc ls (x :: st) M Q := by
  intro p e s m args below meth c C H locs hW hS lsR hl
  obtain ⟨hx, hb, hml, hr, hlk, hown, hts, hK, hdc⟩ := id C
  have hdg := hdc _ (List.mem_of_getElem? hd)
  have n9 := n p e s m args below meth c C H locs hW hS lsR hl
  exact lv_dup hx hb hdg (by rw [rv_cat]; exact hx1) n9
theorem v_pop {x : Value} (i : Nat) (hd : k.2.2.2.2.2[i]? = some (pc, .pop, 1)) (hx1 : x.category = 1) (n : V G d k (pc + 1) ls st M Q) : V G d k pc ls (x :: st) M Q := by
  intro p e s m args below meth c C H locs hW hS lsR hl
  obtain ⟨hx, hb, hml, hr, hlk, hown, hts, hK, hdc⟩ := id C
  have hdg := hdc _ (List.mem_of_getElem? hd)
  have n9 := n p e s m args below meth c C H locs hW hS lsR hl
  exact lv_pop hx hb hdg (by rw [rv_cat]; exact hx1) n9
theorem v_dup2 {x y : Value} (i : Nat) (hd : k.2.2.2.2.2[i]? = some (pc, .dup2, 1)) (hx1 : x.category = 1 ∧ y.category = 1) (n : V G d k (pc + 1) ls (x :: y :: x :: y :: st) M Q) : V G d k pc ls (x :: y :: st) M Q := by
  intro p e s m args below meth c C H locs hW hS lsR hl
  obtain ⟨hx, hb, hml, hr, hlk, hown, hts, hK, hdc⟩ := id C
  have hdg := hdc _ (List.mem_of_getElem? hd)
  have n9 := n p e s m args below meth c C H locs hW hS lsR hl
  exact lv_dup2_11 hx hb hdg (by rw [rv_cat]; exact hx1.1) (by rw [rv_cat]; exact hx1.2) n9
theorem v_if_eq {a : Int} {off : Int} (i tgt : Nat) (hd : k.2.2.2.2.2[i]? = some (pc, .ifCond .eq off, 3)) (ht : (pc : Int) + off = (tgt : Int)) (hg : -2147483648 ≤ a ∧ a ≤ 2147483647) (nt : a = 0 → V G d k tgt ls st M Q) (nf : ¬ (a = 0) → V G d k (pc + 3) ls st M Q) : V G d k pc ls (.int (J a) :: st) M Q := by
  intro p e s m args below meth c C H locs hW hS lsR hl
  obtain ⟨hx, hb, hml, hr, hlk, hown, hts, hK, hdc⟩ := id C
  have hdg := hdc _ (List.mem_of_getElem? hd)
  have q : (J a = 0) ↔ (a = 0) := by rw [J_zero]; exact J_inj ⟨hg, by omega⟩
  refine lv_if_eq hx hb hdg ht (fun h => nt (q.mp h) p e s m args below meth c C H locs hW hS lsR hl) (fun h => nf (fun z => h (q.mpr z)) p e s m args below meth c C H locs hW hS lsR hl)

theorem v_if_eqT {a : Int} {off : Int} (i tgt : Nat) (hd : k.2.2.2.2.2[i]? = some (pc, .ifCond .eq off, 3)) (ht : (pc : Int) + off = (tgt : Int)) (hg : -2147483648 ≤ a ∧ a ≤ 2147483647) (hc : a = 0) (nt : V G d k tgt ls st M Q) : V G d k pc ls (.int (J a) :: st) M Q := v_if_eq i tgt hd ht hg (fun _ => nt) (fun h => absurd hc h)
theorem v_if_eqF {a : Int} {off : Int} (i tgt : Nat) (hd : k.2.2.2.2.2[i]? = some (pc, .ifCond .eq off, 3)) (ht : (pc : Int) + off = (tgt : Int)) (hg : -2147483648 ≤ a ∧ a ≤ 2147483647) (hc : ¬ (a = 0)) (nf : V G d k (pc + 3) ls st M Q) : V G d k pc ls (.int (J a) :: st) M Q := v_if_eq i tgt hd ht hg (fun h => absurd h hc) (fun _ => nf)
theorem v_if_ne {a : Int} {off : Int} (i tgt : Nat) (hd : k.2.2.2.2.2[i]? = some (pc, .ifCond .ne off, 3)) (ht : (pc : Int) + off = (tgt : Int)) (hg : -2147483648 ≤ a ∧ a ≤ 2147483647) (nt : ¬ a = 0 → V G d k tgt ls st M Q) (nf : ¬ (¬ a = 0) → V G d k (pc + 3) ls st M Q) : V G d k pc ls (.int (J a) :: st) M Q := by
  intro p e s m args below meth c C H locs hW hS lsR hl
  obtain ⟨hx, hb, hml, hr, hlk, hown, hts, hK, hdc⟩ := id C
  have hdg := hdc _ (List.mem_of_getElem? hd)
  have q : (J a = 0) ↔ (a = 0) := by rw [J_zero]; exact J_inj ⟨hg, by omega⟩
  refine lv_if_ne hx hb hdg ht (fun h => nt (fun z => h (q.mpr z)) p e s m args below meth c C H locs hW hS lsR hl) (fun h => nf (fun z => z (q.mp h)) p e s m args below meth c C H locs hW hS lsR hl)

theorem v_if_neT {a : Int} {off : Int} (i tgt : Nat) (hd : k.2.2.2.2.2[i]? = some (pc, .ifCond .ne off, 3)) (ht : (pc : Int) + off = (tgt : Int)) (hg : -2147483648 ≤ a ∧ a ≤ 2147483647) (hc : ¬ a = 0) (nt : V G d k tgt ls st M Q) : V G d k pc ls (.int (J a) :: st) M Q := v_if_ne i tgt hd ht hg (fun _ => nt) (fun h => absurd hc h)
theorem v_if_neF {a : Int} {off : Int} (i tgt : Nat) (hd : k.2.2.2.2.2[i]? = some (pc, .ifCond .ne off, 3)) (ht : (pc : Int) + off = (tgt : Int)) (hg : -2147483648 ≤ a ∧ a ≤ 2147483647) (hc : ¬ (¬ a = 0)) (nf : V G d k (pc + 3) ls st M Q) : V G d k pc ls (.int (J a) :: st) M Q := v_if_ne i tgt hd ht hg (fun h => absurd h hc) (fun _ => nf)
theorem v_if_lt {a : Int} {off : Int} (i tgt : Nat) (hd : k.2.2.2.2.2[i]? = some (pc, .ifCond .lt off, 3)) (ht : (pc : Int) + off = (tgt : Int)) (hg : -2147483648 ≤ a ∧ a ≤ 2147483647) (nt : a < 0 → V G d k tgt ls st M Q) (nf : ¬ (a < 0) → V G d k (pc + 3) ls st M Q) : V G d k pc ls (.int (J a) :: st) M Q := by
  intro p e s m args below meth c C H locs hW hS lsR hl
  obtain ⟨hx, hb, hml, hr, hlk, hown, hts, hK, hdc⟩ := id C
  have hdg := hdc _ (List.mem_of_getElem? hd)
  have q : (J a < 0) ↔ (a < 0) := by rw [J_zero]; exact J_lt ⟨hg, by omega⟩
  refine lv_if_lt hx hb hdg ht (fun h => nt (q.mp h) p e s m args below meth c C H locs hW hS lsR hl) (fun h => nf (fun z => h (q.mpr z)) p e s m args below meth c C H locs hW hS lsR hl)

theorem v_if_ltT {a : Int} {off : Int} (i tgt : Nat) (hd : k.2.2.2.2.2[i]? = some (pc, .ifCond .lt off, 3)) (ht : (pc : Int) + off = (tgt : Int)) (hg : -2147483648 ≤ a ∧ a ≤ 2147483647) (hc : a < 0) (nt : V G d k tgt ls st M Q) : V G d k pc ls (.int (J a) :: st) M Q := v_if_lt i tgt hd ht hg (fun _ => nt) (fun h => absurd hc h)
theorem v_if_ltF {a : Int} {off : Int} (i tgt : Nat) (hd : k.2.2.2.2.2[i]? = some (pc, .ifCond .lt off, 3)) (ht : (pc : Int) + off = (tgt : Int)) (hg : -2147483648 ≤ a ∧ a ≤ 2147483647) (hc : ¬ (a < 0)) (nf : V G d k (pc + 3) ls st M Q) : V G d k pc ls (.int (J a) :: st) M Q := v_if_lt i tgt hd ht hg (fun h => absurd h hc) (fun _ => nf)
theorem v_if_ge {a : Int} {off : Int} (i tgt : Nat) (hd : k.2.2.2.2.2[i]? = some (pc, .ifCond .ge off, 3)) (ht : (pc : Int) + off = (tgt : Int)) (hg : -2147483648 ≤ a ∧ a ≤ 2147483647) (nt : 0 ≤ a → V G d k tgt ls st M Q) (nf : ¬ (0 ≤ a) → V G d k (pc + 3) ls st M Q) : V G d k pc ls (.int (J a) :: st) M Q := by
  intro p e s m args below meth c C H locs hW hS lsR hl
  obtain ⟨hx, hb, hml, hr, hlk, hown, hts, hK, hdc⟩ := id C
  have hdg := hdc _ (List.mem_of_getElem? hd)
  have q : (0 ≤ J a) ↔ (0 ≤ a) := by rw [J_zero]; exact J_le ⟨by omega, hg⟩
  refine lv_if_ge hx hb hdg ht (fun h => nt (q.mp h) p e s m args below meth c C H locs hW hS lsR hl) (fun h => nf (fun z => h (q.mpr z)) p e s m args below meth c C H locs hW hS lsR hl)

theorem v_if_geT {a : Int} {off : Int} (i tgt : Nat) (hd : k.2.2.2.2.2[i]? = some (pc, .ifCond .ge off, 3)) (ht : (pc : Int) + off = (tgt : Int)) (hg : -2147483648 ≤ a ∧ a ≤ 2147483647) (hc : 0 ≤ a) (nt : V G d k tgt ls st M Q) : V G d k pc ls (.int (J a) :: st) M Q := v_if_ge i tgt hd ht hg (fun _ => nt) (fun h => absurd hc h)
theorem v_if_geF {a : Int} {off : Int} (i tgt : Nat) (hd : k.2.2.2.2.2[i]? = some (pc, .ifCond .ge off, 3)) (ht : (pc : Int) + off = (tgt : Int)) (hg : -2147483648 ≤ a ∧ a ≤ 2147483647) (hc : ¬ (0 ≤ a)) (nf : V G d k (pc + 3) ls st M Q) : V G d k pc ls (.int (J a) :: st) M Q := v_if_ge i tgt hd ht hg (fun h => absurd h hc) (fun _ => nf)
theorem v_if_gt {a : Int} {off : Int} (i tgt : Nat) (hd : k.2.2.2.2.2[i]? = some (pc, .ifCond .gt off, 3)) (ht : (pc : Int) + off = (tgt : Int)) (hg : -2147483648 ≤ a ∧ a ≤ 2147483647) (nt : 0 < a → V G d k tgt ls st M Q) (nf : ¬ (0 < a) → V G d k (pc + 3) ls st M Q) : V G d k pc ls (.int (J a) :: st) M Q := by
  intro p e s m args below meth c C H locs hW hS lsR hl
  obtain ⟨hx, hb, hml, hr, hlk, hown, hts, hK, hdc⟩ := id C
  have hdg := hdc _ (List.mem_of_getElem? hd)
  have q : (0 < J a) ↔ (0 < a) := by rw [J_zero]; exact J_lt ⟨by omega, hg⟩
  refine lv_if_gt hx hb hdg ht (fun h => nt (q.mp h) p e s m args below meth c C H locs hW hS lsR hl) (fun h => nf (fun z => h (q.mpr z)) p e s m args below meth c C H locs hW hS lsR hl)

theorem v_if_gtT {a : Int} {off : Int} (i tgt : Nat) (hd : k.2.2.2.2.2[i]? = some (pc, .ifCond .gt off, 3)) (ht : (pc : Int) + off = (tgt : Int)) (hg : -2147483648 ≤ a ∧ a ≤ 2147483647) (hc : 0 < a) (nt : V G d k tgt ls st M Q) : V G d k pc ls (.int (J a) :: st) M Q := v_if_gt i tgt hd ht hg (fun _ => nt) (fun h => absurd hc h)
theorem v_if_gtF {a : Int} {off : Int} (i tgt : Nat) (hd : k.2.2.2.2.2[i]? = some (pc, .ifCond .gt off, 3)) (ht : (pc : Int) + off = (tgt : Int)) (hg : -2147483648 ≤ a ∧ a ≤ 2147483647) (hc : ¬ (0 < a)) (nf : V G d k (pc + 3) ls st M Q) : V G d k pc ls (.int (J a) :: st) M Q := v_if_gt i tgt hd ht hg (fun h => absurd h hc) (fun _ => nf)
theorem v_if_le {a : Int} {off : Int} (i tgt : Nat) (hd : k.2.2.2.2.2[i]? = some (pc, .ifCond .le off, 3)) (ht : (pc : Int) + off = (tgt : Int)) (hg : -2147483648 ≤ a ∧ a ≤ 2147483647) (nt : a ≤ 0 → V G d k tgt ls st M Q) (nf : ¬ (a ≤ 0) → V G d k (pc + 3) ls st M Q) : V G d k pc ls (.int (J a) :: st) M Q := by
  intro p e s m args below meth c C H locs hW hS lsR hl
  obtain ⟨hx, hb, hml, hr, hlk, hown, hts, hK, hdc⟩ := id C
  have hdg := hdc _ (List.mem_of_getElem? hd)
  have q : (J a ≤ 0) ↔ (a ≤ 0) := by rw [J_zero]; exact J_le ⟨hg, by omega⟩
  refine lv_if_le hx hb hdg ht (fun h => nt (q.mp h) p e s m args below meth c C H locs hW hS lsR hl) (fun h => nf (fun z => h (q.mpr z)) p e s m args below meth c C H locs hW hS lsR hl)

theorem v_if_leT {a : Int} {off : Int} (i tgt : Nat) (hd : k.2.2.2.2.2[i]? = some (pc, .ifCond .le off, 3)) (ht : (pc : Int) + off = (tgt : Int)) (hg : -2147483648 ≤ a ∧ a ≤ 2147483647) (hc : a ≤ 0) (nt : V G d k tgt ls st M Q) : V G d k pc ls (.int (J a) :: st) M Q := v_if_le i tgt hd ht hg (fun _ => nt) (fun h => absurd hc h)
theorem v_if_leF {a : Int} {off : Int} (i tgt : Nat) (hd : k.2.2.2.2.2[i]? = some (pc, .ifCond .le off, 3)) (ht : (pc : Int) + off = (tgt : Int)) (hg : -2147483648 ≤ a ∧ a ≤ 2147483647) (hc : ¬ (a ≤ 0)) (nf : V G d k (pc + 3) ls st M Q) : V G d k pc ls (.int (J a) :: st) M Q := v_if_le i tgt hd ht hg (fun h => absurd h hc) (fun _ => nf)
theorem v_ic_eq {a b : Int} {off : Int} (i tgt : Nat) (hd : k.2.2.2.2.2[i]? = some (pc, .if_icmp .eq off, 3)) (ht : (pc : Int) + off = (tgt : Int)) (hg : (-2147483648 ≤ a ∧ a ≤ 2147483647) ∧ (-2147483648 ≤ b ∧ b ≤ 2147483647)) (nt : a = b → V G d k tgt ls st M Q) (nf : ¬ (a = b) → V G d k (pc + 3) ls st M Q) : V G d k pc ls (.int (J b) :: .int (J a) :: st) M Q := by
  intro p e s m args below meth c C H locs hW hS lsR hl
  obtain ⟨hx, hb, hml, hr, hlk, hown, hts, hK, hdc⟩ := id C
  have hdg := hdc _ (List.mem_of_getElem? hd)
  have q : (J a = J b) ↔ (a = b) := J_inj hg
  refine lv_icmp_eq hx hb hdg ht (fun h => nt (q.mp h) p e s m args below meth c C H locs hW hS lsR hl) (fun h => nf (fun z => h (q.mpr z)) p e s m args below meth c C H locs hW hS lsR hl)

theorem v_ic_eqT {a b : Int} {off : Int} (i tgt : Nat) (hd : k.2.2.2.2.2[i]? = some (pc, .if_icmp .eq off, 3)) (ht : (pc : Int) + off = (tgt : Int)) (hg : (-2147483648 ≤ a ∧ a ≤ 2147483647) ∧ (-2147483648 ≤ b ∧ b ≤ 2147483647)) (hc : a = b) (nt : V G d k tgt ls st M Q) : V G d k pc ls (.int (J b) :: .int (J a) :: st) M Q := v_ic_eq i tgt hd ht hg (fun _ => nt) (fun h => absurd hc h)
theorem v_ic_eqF {a b : Int} {off : Int} (i tgt : Nat) (hd : k.2.2.2.2.2[i]? = some (pc, .if_icmp .eq off, 3)) (ht : (pc : Int) + off = (tgt : Int)) (hg : (-2147483648 ≤ a ∧ a ≤ 2147483647) ∧ (-2147483648 ≤ b ∧ b ≤ 2147483647)) (hc : ¬ (a = b)) (nf : V G d k (pc + 3) ls st M Q) : V G d k pc ls (.int (J b) :: .int (J a) :: st) M Q := v_ic_eq i tgt hd ht hg (fun h => absurd h hc) (fun _ => nf)
theorem v_ic_ne {a b : Int} {off : Int} (i tgt : Nat) (hd : k.2.2.2.2.2[i]? = some (pc, .if_icmp .ne off, 3)) (ht : (pc : Int) + off = (tgt : Int)) (hg : (-2147483648 ≤ a ∧ a ≤ 2147483647) ∧ (-2147483648 ≤ b ∧ b ≤ 2147483647)) (nt : ¬ a = b → V G d k tgt ls st M Q) (nf : ¬ (¬ a = b) → V G d k (pc + 3) ls st M Q) : V G d k pc ls (.int (J b) :: .int (J a) :: st) M Q := by
  intro p e s m args below meth c C H locs hW hS lsR hl
  obtain ⟨hx, hb, hml, hr, hlk, hown, hts, hK, hdc⟩ := id C
  have hdg := hdc _ (List.mem_of_getElem? hd)
  have q : (J a = J b) ↔ (a = b) := J_inj hg
  refine lv_icmp_ne hx hb hdg ht (fun h => nt (fun z => h (q.mpr z)) p e s m args below meth c C H locs hW hS lsR hl) (fun h => nf (fun z => z (q.mp h)) p e s m args below meth c C H locs hW hS lsR hl)

theorem v_ic_neT {a b : Int} {off : Int} (i tgt : Nat) (hd : k.2.2.2.2.2[i]? = some (pc, .if_icmp .ne off, 3)) (ht : (pc : Int) + off = (tgt : Int)) (hg : (-2147483648 ≤ a ∧ a ≤ 2147483647) ∧ (-2147483648 ≤ b ∧ b ≤ 2147483647)) (hc : ¬ a = b) (nt : V G d k tgt ls st M Q) : V G d k pc ls (.int (J b) :: .int (J a) :: st) M Q := v_ic_ne i tgt hd ht hg (fun _ => nt) (fun h => absurd hc h)
theorem v_ic_neF {a b : Int} {off : Int} (i tgt : Nat) (hd : k.2.2.2.2.2[i]? = some (pc, .if_icmp .ne off, 3)) (ht : (pc : Int) + off = (tgt : Int)) (hg : (-2147483648 ≤ a ∧ a ≤ 2147483647) ∧ (-2147483648 ≤ b ∧ b ≤ 2147483647)) (hc : ¬ (¬ a = b)) (nf : V G d k (pc + 3) ls st M Q) : V G d k pc ls (.int (J b) :: .int (J a) :: st) M Q := v_ic_ne i tgt hd ht hg (fun h => absurd h hc) (fun _ => nf)
theorem v_ic_lt {a b : Int} {off : Int} (i tgt : Nat) (hd : k.2.2.2.2.2[i]? = some (pc, .if_icmp .lt off, 3)) (ht : (pc : Int) + off = (tgt : Int)) (hg : (-2147483648 ≤ a ∧ a ≤ 2147483647) ∧ (-2147483648 ≤ b ∧ b ≤ 2147483647)) (nt : a < b → V G d k tgt ls st M Q) (nf : ¬ (a < b) → V G d k (pc + 3) ls st M Q) : V G d k pc ls (.int (J b) :: .int (J a) :: st) M Q := by
  intro p e s m args below meth c C H locs hW hS lsR hl
  obtain ⟨hx, hb, hml, hr, hlk, hown, hts, hK, hdc⟩ := id C
  have hdg := hdc _ (List.mem_of_getElem? hd)
  have q : (J a < J b) ↔ (a < b) := J_lt hg
  refine lv_icmp_lt hx hb hdg ht (fun h => nt (q.mp h) p e s m args below meth c C H locs hW hS lsR hl) (fun h => nf (fun z => h (q.mpr z)) p e s m args below meth c C H locs hW hS lsR hl)

theorem v_ic_ltT {a b : Int} {off : Int} (i tgt : Nat) (hd : k.2.2.2.2.2[i]? = some (pc, .if_icmp .lt off, 3)) (ht : (pc : Int) + off = (tgt : Int)) (hg : (-2147483648 ≤ a ∧ a ≤ 2147483647) ∧ (-2147483648 ≤ b ∧ b ≤ 2147483647)) (hc : a < b) (nt : V G d k tgt ls st M Q) : V G d k pc ls (.int (J b) :: .int (J a) :: st) M Q := v_ic_lt i tgt hd ht hg (fun _ => nt) (fun h => absurd hc h)
theorem v_ic_ltF {a b : Int} {off : Int} (i tgt : Nat) (hd : k.2.2.2.2.2[i]? = some (pc, .if_icmp .lt off, 3)) (ht : (pc : Int) + off = (tgt : Int)) (hg : (-2147483648 ≤ a ∧ a ≤ 2147483647) ∧ (-2147483648 ≤ b ∧ b ≤ 2147483647)) (hc : ¬ (a < b)) (nf : V G d k (pc + 3) ls st M Q) : V G d k pc ls (.int (J b) :: .int (J a) :: st) M Q := v_ic_lt i tgt hd ht hg (fun h => absurd h hc) (fun _ => nf)
theorem v_ic_ge {a b : Int} {off : Int} (i tgt : Nat) (hd : k.2.2.2.2.2[i]? = some (pc, .if_icmp .ge off, 3)) (ht : (pc : Int) + off = (tgt : Int)) (hg : (-2147483648 ≤ a ∧ a ≤ 2147483647) ∧ (-2147483648 ≤ b ∧ b ≤ 2147483647)) (nt : b ≤ a → V G d k tgt ls st M Q) (nf : ¬ (b ≤ a) → V G d k (pc + 3) ls st M Q) : V G d k pc ls (.int (J b) :: .int (J a) :: st) M Q := by
  intro p e s m args below meth c C H locs hW hS lsR hl
  obtain ⟨hx, hb, hml, hr, hlk, hown, hts, hK, hdc⟩ := id C
  have hdg := hdc _ (List.mem_of_getElem? hd)
  have q : (J b ≤ J a) ↔ (b ≤ a) := J_le ⟨hg.2, hg.1⟩
  refine lv_icmp_ge hx hb hdg ht (fun h => nt (q.mp h) p e s m args below meth c C H locs hW hS lsR hl) (fun h => nf (fun z => h (q.mpr z)) p e s m args below meth c C H locs hW hS lsR hl)

theorem v_ic_geT {a b : Int} {off : Int} (i tgt : Nat) (hd : k.2.2.2.2.2[i]? = some (pc, .if_icmp .ge off, 3)) (ht : (pc : Int) + off = (tgt : Int)) (hg : (-2147483648 ≤ a ∧ a ≤ 2147483647) ∧ (-2147483648 ≤ b ∧ b ≤ 2147483647)) (hc : b ≤ a) (nt : V G d k tgt ls st M Q) : V G d k pc ls (.int (J b) :: .int (J a) :: st) M Q := v_ic_ge i tgt hd ht hg (fun _ => nt) (fun h => absurd hc h)
theorem v_ic_geF {a b : Int} {off : Int} (i tgt : Nat) (hd : k.2.2.2.2.2[i]? = some (pc, .if_icmp .ge off, 3)) (ht : (pc : Int) + off = (tgt : Int)) (hg : (-2147483648 ≤ a ∧ a ≤ 2147483647) ∧ (-2147483648 ≤ b ∧ b ≤ 2147483647)) (hc : ¬ (b ≤ a)) (nf : V G d k (pc + 3) ls st M Q) : V G d k pc ls (.int (J b) :: .int (J a) :: st) M Q := v_ic_ge i tgt hd ht hg (fun h => absurd h hc) (fun _ => nf)
theorem v_ic_gt {a b : Int} {off : Int} (i tgt : Nat) (hd : k.2.2.2.2.2[i]? = some (pc, .if_icmp .gt off, 3)) (ht : (pc : Int) + off = (tgt : Int)) (hg : (-2147483648 ≤ a ∧ a ≤ 2147483647) ∧ (-2147483648 ≤ b ∧ b ≤ 2147483647)) (nt : b < a → V G d k tgt ls st M Q) (nf : ¬ (b < a) → V G d k (pc + 3) ls st M Q) : V G d k pc ls (.int (J b) :: .int (J a) :: st) M Q := by
  intro p e s m args below meth c C H locs hW hS lsR hl
  obtain ⟨hx, hb, hml, hr, hlk, hown, hts, hK, hdc⟩ := id C
  have hdg := hdc _ (List.mem_of_getElem? hd)
  have q : (J b < J a) ↔ (b < a) := J_lt ⟨hg.2, hg.1⟩
  refine lv_icmp_gt hx hb hdg ht (fun h => nt (q.mp h) p e s m args below meth c C H locs hW hS lsR hl) (fun h => nf (fun z => h (q.mpr z)) p e s m args below meth c C H locs hW hS lsR hl)

theorem v_ic_gtT {a b : Int} {off : Int} (i tgt : Nat) (hd : k.2.2.2.2.2[i]? = some (pc, .if_icmp .gt off, 3)) (ht : (pc : Int) + off = (tgt : Int)) (hg : (-2147483648 ≤ a ∧ a ≤ 2147483647) ∧ (-2147483648 ≤ b ∧ b ≤ 2147483647)) (hc : b < a) (nt : V G d k tgt ls st M Q) : V G d k pc ls (.int (J b) :: .int (J a) :: st) M Q := v_ic_gt i tgt hd ht hg (fun _ => nt) (fun h => absurd hc h)
theorem v_ic_gtF {a b : Int} {off : Int} (i tgt : Nat) (hd : k.2.2.2.2.2[i]? = some (pc, .if_icmp .gt off, 3)) (ht : (pc : Int) + off = (tgt : Int)) (hg : (-2147483648 ≤ a ∧ a ≤ 2147483647) ∧ (-2147483648 ≤ b ∧ b ≤ 2147483647)) (hc : ¬ (b < a)) (nf : V G d k (pc + 3) ls st M Q) : V G d k pc ls (.int (J b) :: .int (J a) :: st) M Q := v_ic_gt i tgt hd ht hg (fun h => absurd h hc) (fun _ => nf)
theorem v_ic_le {a b : Int} {off : Int} (i tgt : Nat) (hd : k.2.2.2.2.2[i]? = some (pc, .if_icmp .le off, 3)) (ht : (pc : Int) + off = (tgt : Int)) (hg : (-2147483648 ≤ a ∧ a ≤ 2147483647) ∧ (-2147483648 ≤ b ∧ b ≤ 2147483647)) (nt : a ≤ b → V G d k tgt ls st M Q) (nf : ¬ (a ≤ b) → V G d k (pc + 3) ls st M Q) : V G d k pc ls (.int (J b) :: .int (J a) :: st) M Q := by
  intro p e s m args below meth c C H locs hW hS lsR hl
  obtain ⟨hx, hb, hml, hr, hlk, hown, hts, hK, hdc⟩ := id C
  have hdg := hdc _ (List.mem_of_getElem? hd)
  have q : (J a ≤ J b) ↔ (a ≤ b) := J_le hg
  refine lv_icmp_le hx hb hdg ht (fun h => nt (q.mp h) p e s m args below meth c C H locs hW hS lsR hl) (fun h => nf (fun z => h (q.mpr z)) p e s m args below meth c C H locs hW hS lsR hl)

theorem v_ic_leT {a b : Int} {off : Int} (i tgt : Nat) (hd : k.2.2.2.2.2[i]? = some (pc, .if_icmp .le off, 3)) (ht : (pc : Int) + off = (tgt : Int)) (hg : (-2147483648 ≤ a ∧ a ≤ 2147483647) ∧ (-2147483648 ≤ b ∧ b ≤ 2147483647)) (hc : a ≤ b) (nt : V G d k tgt ls st M Q) : V G d k pc ls (.int (J b) :: .int (J a) :: st) M Q := v_ic_le i tgt hd ht hg (fun _ => nt) (fun h => absurd hc h)
theorem v_ic_leF {a b : Int} {off : Int} (i tgt : Nat) (hd : k.2.2.2.2.2[i]? = some (pc, .if_icmp .le off, 3)) (ht : (pc : Int) + off = (tgt : Int)) (hg : (-2147483648 ≤ a ∧ a ≤ 2147483647) ∧ (-2147483648 ≤ b ∧ b ≤ 2147483647)) (hc : ¬ (a ≤ b)) (nf : V G d k (pc + 3) ls st M Q) : V G d k pc ls (.int (J b) :: .int (J a) :: st) M Q := v_ic_le i tgt hd ht hg (fun h => absurd h hc) (fun _ => nf)
theorem v_goto {off : Int} (i tgt : Nat) (hd : k.2.2.2.2.2[i]? = some (pc, .goto off, 3)) (ht : (pc : Int) + off = (tgt : Int)) (n : V G d k tgt ls st M Q) : V G d k pc ls st M Q := by
  intro p e s m args below meth c C H locs hW hS lsR hl
  obtain ⟨hx, hb, hml, hr, hlk, hown, hts, hK, hdc⟩ := id C
  have hdg := hdc _ (List.mem_of_getElem? hd)
  have n9 := n p e s m args below meth c C H locs hW hS lsR hl
  exact lv_goto hx hb hdg ht n9
theorem v_tswIn {a lo hi dflt off : Int} {offs : Array Int} {len : Nat} (i tgt : Nat) (hd : k.2.2.2.2.2[i]? = some (pc, .tableswitch dflt lo hi offs, len)) (hg : (-2147483648 ≤ a ∧ a ≤ 2147483647) ∧ lo ≤ a ∧ a ≤ hi) (ho : offs[(a - lo).toNat]? = some off) (ht : (pc : Int) + off = (tgt : Int)) (n : V G d k tgt ls st M Q) : V G d k pc ls (.int (J a) :: st) M Q := by
  intro p e s m args below meth c C H locs hW hS lsR hl
  obtain ⟨hx, hb, hml, hr, hlk, hown, hts, hK, hdc⟩ := id C
  have hdg := hdc _ (List.mem_of_getElem? hd)
  have n9 := n p e s m args below meth c C H locs hW hS lsR hl
  exact lv_tableIn hx hb hdg (by rw [J_toInt hg.1]; omega) (by rw [J_toInt hg.1]; omega) (by rw [J_toInt hg.1]; exact ho) ht n9
theorem v_tswOut {a lo hi dflt : Int} {offs : Array Int} {len : Nat} (i tgt : Nat) (hd : k.2.2.2.2.2[i]? = some (pc, .tableswitch dflt lo hi offs, len)) (hg : (-2147483648 ≤ a ∧ a ≤ 2147483647) ∧ (a < lo ∨ hi < a)) (ht : (pc : Int) + dflt = (tgt : Int)) (n : V G d k tgt ls st M Q) : V G d k pc ls (.int (J a) :: st) M Q := by
  intro p e s m args below meth c C H locs hW hS lsR hl
  obtain ⟨hx, hb, hml, hr, hlk, hown, hts, hK, hdc⟩ := id C
  have hdg := hdc _ (List.mem_of_getElem? hd)
  have n9 := n p e s m args below meth c C H locs hW hS lsR hl
  exact lv_tableOut hx hb hdg (by rw [J_toInt hg.1]; exact hg.2) ht n9
theorem v_lsw {a dflt off : Int} {ps : Array (Int × Int)} {len : Nat} (i tgt : Nat) (hd : k.2.2.2.2.2[i]? = some (pc, .lookupswitch dflt ps, len)) (hg : -2147483648 ≤ a ∧ a ≤ 2147483647) (hp : (ps.toList.zip (ps.toList.drop 1)).all (fun (a, next) => a.1 < next.1) = true) (ho : Op.lookupswitch.offset ps.toList dflt a = off) (ht : (pc : Int) + off = (tgt : Int)) (n : V G d k tgt ls st M Q) : V G d k pc ls (.int (J a) :: st) M Q := by
  intro p e s m args below meth c C H locs hW hS lsR hl
  obtain ⟨hx, hb, hml, hr, hlk, hown, hts, hK, hdc⟩ := id C
  have hdg := hdc _ (List.mem_of_getElem? hd)
  have n9 := n p e s m args below meth c C H locs hW hS lsR hl
  exact lv_lookup hx hb hdg hp (by rw [J_toInt hg]; exact ho) ht n9
theorem v_iret {x : Int32} (i : Nat) (hd : k.2.2.2.2.2[i]? = some (pc, .ireturn, 1)) (hk : k.2.2.2.2.1 = some .int) (hQ : Q (some (.int x)) M) : V G d k pc ls [.int x] M Q := by
  intro p e s m args below meth c C H locs hW hS lsR hl
  obtain ⟨hx, hb, hml, hr, hlk, hown, hts, hK, hdc⟩ := id C
  have hdg := hdc _ (List.mem_of_getElem? hd)
  exact W.iret hx hb (hr.trans hk) (fun t ht hw => ⟨⟨some (.int x), M, rfl, hQ, by rw [ht]; exact hW⟩, hS.F ht⟩) hS.2.2 hdg hlk
theorem v_zret {a : Int} (i : Nat) (hd : k.2.2.2.2.2[i]? = some (pc, .ireturn, 1)) (hk : k.2.2.2.2.1 = some .boolean) (ha : a = 0 ∨ a = 1) (hQ : Q (some (.int (J a))) M) : V G d k pc ls [.int (J a)] M Q := by
  intro p e s m args below meth c C H locs hW hS lsR hl
  obtain ⟨hx, hb, hml, hr, hlk, hown, hts, hK, hdc⟩ := id C
  have hdg := hdc _ (List.mem_of_getElem? hd)
  exact W.zret hx hb (hr.trans hk) (by rcases ha with rfl | rfl <;> decide) (fun t ht hw => ⟨⟨some (.int (J a)), M, rfl, hQ, by rw [ht]; exact hW⟩, hS.F ht⟩) hS.2.2 hdg hlk
theorem v_lret {x : Int64} (i : Nat) (hd : k.2.2.2.2.2[i]? = some (pc, .lreturn, 1)) (hk : k.2.2.2.2.1 = some .long) (hQ : Q (some (.long x)) M) : V G d k pc ls [.long x] M Q := by
  intro p e s m args below meth c C H locs hW hS lsR hl
  obtain ⟨hx, hb, hml, hr, hlk, hown, hts, hK, hdc⟩ := id C
  have hdg := hdc _ (List.mem_of_getElem? hd)
  exact W.lret hx hb (hr.trans hk) (fun t ht hw => ⟨⟨some (.long x), M, rfl, hQ, by rw [ht]; exact hW⟩, hS.F ht⟩) hS.2.2 hdg hlk
theorem v_ret (i : Nat) (hd : k.2.2.2.2.2[i]? = some (pc, .return_, 1)) (hk : k.2.2.2.2.1 = none) (hQ : Q none M) : V G d k pc ls [] M Q := by
  intro p e s m args below meth c C H locs hW hS lsR hl
  obtain ⟨hx, hb, hml, hr, hlk, hown, hts, hK, hdc⟩ := id C
  have hdg := hdc _ (List.mem_of_getElem? hd)
  exact W.vret hx hb (hr.trans hk) (fun t ht hw => ⟨⟨none, M, rfl, hQ, by rw [ht]; exact hW⟩, hS.F ht⟩) hS.2.2 hdg hlk
theorem V.mono {Q2 : Option Value → Mem → Prop} (h : V G d k pc ls st M Q2) (hq : ∀ r N, Q2 r N → Q r N) : V G d k pc ls st M Q := by
  intro p e s m args below meth c C H locs hW hS lsR hl T hT X
  obtain ⟨t, h1, oc, h2, h3, ⟨⟨r, N, h4, h5, h6⟩, h7⟩, h8⟩ := h p e s m args below meth c C H locs hW hS lsR hl T hT X
  exact ⟨t, h1, oc, h2, h3, ⟨⟨r, N, h4, hq r N h5, h6⟩, h7⟩, h8⟩
end VRules
