/-! 70: frames with another room and another end -/
abbrev UX : Type := Room × (List Frame → Array Value → State → State → Prop) × (State → Nat → Prop) × (Program → Env → State → MethodId → Array Value → List Frame → Method → Code → Prop)
def U (G : Gt) (X : UX) (nc ns : Nat) (k : Mth) (pc : Nat) (ls : List (Option Value)) (st : List Value) (M : Mem) : Prop :=
  ∀ (p : Program) (e : Env) (s : State) (m : MethodId) (args : Array Value) (below : List Frame) (meth : Method) (c : Code), Cx G k p s m args meth c → X.2.2.2 p e s m args below meth c → (∀ q, gA G q → X.2.2.1 s q) →
    ∀ (H : Heap) (locs : List Loc), Wd G M H → va_S (X.2.2.1 s) s.heap H locs → ∀ lsR : Array Slot, LvOk (ga G) k.2.2.2.1 lsR ls →
      W p (gl G) e X.1 s m args below meth c H locs nc ns (X.2.1 below args s) (F0 m pc lsR (st.map (rv (ga G))))
section URules
variable {G : Gt} {X : UX} {nc ns d : Nat} {k : Mth} {pc : Nat} {ls : List (Option Value)} {st : List Value} {M : Mem}
theorem u_iadd {a b : Int} (i : Nat) (hd : k.2.2.2.2.2[i]? = some (pc, .iadd, 1)) (n : U G X nc ns k (pc + 1) ls (.int (J (a + b)) :: st) M) : U G X nc ns k pc ls (.int (J b) :: .int (J a) :: st) M := by
  intro p e s m args below meth c C E9 F9 H locs hW hS lsR hl
  obtain ⟨hx, hb, hml, hr, hlk, hown, hts, hK, hdc⟩ := id C
  have hdg := hdc _ (List.mem_of_getElem? hd)
  have n9 := n p e s m args below meth c C E9 F9 H locs hW hS lsR hl
  rw [← J_add] at n9
  exact lv_iadd hx hb hdg n9
theorem u_isub {a b : Int} (i : Nat) (hd : k.2.2.2.2.2[i]? = some (pc, .isub, 1)) (n : U G X nc ns k (pc + 1) ls (.int (J (a - b)) :: st) M) : U G X nc ns k pc ls (.int (J b) :: .int (J a) :: st) M := by
  intro p e s m args below meth c C E9 F9 H locs hW hS lsR hl
  obtain ⟨hx, hb, hml, hr, hlk, hown, hts, hK, hdc⟩ := id C
  have hdg := hdc _ (List.mem_of_getElem? hd)
  have n9 := n p e s m args below meth c C E9 F9 H locs hW hS lsR hl
  rw [← J_sub] at n9
  exact lv_isub hx hb hdg n9
theorem u_imul {a b : Int} (i : Nat) (hd : k.2.2.2.2.2[i]? = some (pc, .imul, 1)) (n : U G X nc ns k (pc + 1) ls (.int (J (a * b)) :: st) M) : U G X nc ns k pc ls (.int (J b) :: .int (J a) :: st) M := by
  intro p e s m args below meth c C E9 F9 H locs hW hS lsR hl
  obtain ⟨hx, hb, hml, hr, hlk, hown, hts, hK, hdc⟩ := id C
  have hdg := hdc _ (List.mem_of_getElem? hd)
  have n9 := n p e s m args below meth c C E9 F9 H locs hW hS lsR hl
  rw [← J_mul] at n9
  exact lv_imul hx hb hdg n9
theorem u_ineg {a : Int} (i : Nat) (hd : k.2.2.2.2.2[i]? = some (pc, .ineg, 1)) (n : U G X nc ns k (pc + 1) ls (.int (J (-a)) :: st) M) : U G X nc ns k pc ls (.int (J a) :: st) M := by
  intro p e s m args below meth c C E9 F9 H locs hW hS lsR hl
  obtain ⟨hx, hb, hml, hr, hlk, hown, hts, hK, hdc⟩ := id C
  have hdg := hdc _ (List.mem_of_getElem? hd)
  have n9 := n p e s m args below meth c C E9 F9 H locs hW hS lsR hl
  rw [← J_neg] at n9
  exact lv_ineg hx hb hdg n9
theorem u_ladd {a b : Int} (i : Nat) (hd : k.2.2.2.2.2[i]? = some (pc, .ladd, 1)) (n : U G X nc ns k (pc + 1) ls (.long (JL (a + b)) :: st) M) : U G X nc ns k pc ls (.long (JL b) :: .long (JL a) :: st) M := by
  intro p e s m args below meth c C E9 F9 H locs hW hS lsR hl
  obtain ⟨hx, hb, hml, hr, hlk, hown, hts, hK, hdc⟩ := id C
  have hdg := hdc _ (List.mem_of_getElem? hd)
  have n9 := n p e s m args below meth c C E9 F9 H locs hW hS lsR hl
  rw [← JL_add] at n9
  exact lv_ladd hx hb hdg n9
theorem u_lsub {a b : Int} (i : Nat) (hd : k.2.2.2.2.2[i]? = some (pc, .lsub, 1)) (n : U G X nc ns k (pc + 1) ls (.long (JL (a - b)) :: st) M) : U G X nc ns k pc ls (.long (JL b) :: .long (JL a) :: st) M := by
  intro p e s m args below meth c C E9 F9 H locs hW hS lsR hl
  obtain ⟨hx, hb, hml, hr, hlk, hown, hts, hK, hdc⟩ := id C
  have hdg := hdc _ (List.mem_of_getElem? hd)
  have n9 := n p e s m args below meth c C E9 F9 H locs hW hS lsR hl
  rw [← JL_sub] at n9
  exact lv_lsub hx hb hdg n9
theorem u_lmul {a b : Int} (i : Nat) (hd : k.2.2.2.2.2[i]? = some (pc, .lmul, 1)) (n : U G X nc ns k (pc + 1) ls (.long (JL (a * b)) :: st) M) : U G X nc ns k pc ls (.long (JL b) :: .long (JL a) :: st) M := by
  intro p e s m args below meth c C E9 F9 H locs hW hS lsR hl
  obtain ⟨hx, hb, hml, hr, hlk, hown, hts, hK, hdc⟩ := id C
  have hdg := hdc _ (List.mem_of_getElem? hd)
  have n9 := n p e s m args below meth c C E9 F9 H locs hW hS lsR hl
  rw [← JL_mul] at n9
  exact lv_lmul hx hb hdg n9
theorem u_iand {a b : Int} (i : Nat) (hd : k.2.2.2.2.2[i]? = some (pc, .iand, 1)) (z : Int) (hz : J a &&& J b = J z) (n : U G X nc ns k (pc + 1) ls (.int (J z) :: st) M) : U G X nc ns k pc ls (.int (J b) :: .int (J a) :: st) M := by
  intro p e s m args below meth c C E9 F9 H locs hW hS lsR hl
  obtain ⟨hx, hb, hml, hr, hlk, hown, hts, hK, hdc⟩ := id C
  have hdg := hdc _ (List.mem_of_getElem? hd)
  have n9 := n p e s m args below meth c C E9 F9 H locs hW hS lsR hl
  rw [← hz] at n9
  exact lv_iand hx hb hdg n9
theorem u_ior {a b : Int} (i : Nat) (hd : k.2.2.2.2.2[i]? = some (pc, .ior, 1)) (z : Int) (hz : J a ||| J b = J z) (n : U G X nc ns k (pc + 1) ls (.int (J z) :: st) M) : U G X nc ns k pc ls (.int (J b) :: .int (J a) :: st) M := by
  intro p e s m args below meth c C E9 F9 H locs hW hS lsR hl
  obtain ⟨hx, hb, hml, hr, hlk, hown, hts, hK, hdc⟩ := id C
  have hdg := hdc _ (List.mem_of_getElem? hd)
  have n9 := n p e s m args below meth c C E9 F9 H locs hW hS lsR hl
  rw [← hz] at n9
  exact lv_ior hx hb hdg n9
theorem u_ixor {a b : Int} (i : Nat) (hd : k.2.2.2.2.2[i]? = some (pc, .ixor, 1)) (z : Int) (hz : J a ^^^ J b = J z) (n : U G X nc ns k (pc + 1) ls (.int (J z) :: st) M) : U G X nc ns k pc ls (.int (J b) :: .int (J a) :: st) M := by
  intro p e s m args below meth c C E9 F9 H locs hW hS lsR hl
  obtain ⟨hx, hb, hml, hr, hlk, hown, hts, hK, hdc⟩ := id C
  have hdg := hdc _ (List.mem_of_getElem? hd)
  have n9 := n p e s m args below meth c C E9 F9 H locs hW hS lsR hl
  rw [← hz] at n9
  exact lv_ixor hx hb hdg n9
theorem u_ishl {a b : Int} (i : Nat) (hd : k.2.2.2.2.2[i]? = some (pc, .ishl, 1)) (z : Int) (hz : J a <<< (J b &&& 31) = J z) (n : U G X nc ns k (pc + 1) ls (.int (J z) :: st) M) : U G X nc ns k pc ls (.int (J b) :: .int (J a) :: st) M := by
  intro p e s m args below meth c C E9 F9 H locs hW hS lsR hl
  obtain ⟨hx, hb, hml, hr, hlk, hown, hts, hK, hdc⟩ := id C
  have hdg := hdc _ (List.mem_of_getElem? hd)
  have n9 := n p e s m args below meth c C E9 F9 H locs hW hS lsR hl
  rw [← hz] at n9
  exact lv_ishl hx hb hdg n9
theorem u_ishr {a b : Int} (i : Nat) (hd : k.2.2.2.2.2[i]? = some (pc, .ishr, 1)) (z : Int) (hz : J a >>> (J b &&& 31) = J z) (n : U G X nc ns k (pc + 1) ls (.int (J z) :: st) M) : U G X nc ns k pc ls (.int (J b) :: .int (J a) :: st) M := by
  intro p e s m args below meth c C E9 F9 H locs hW hS lsR hl
  obtain ⟨hx, hb, hml, hr, hlk, hown, hts, hK, hdc⟩ := id C
  have hdg := hdc _ (List.mem_of_getElem? hd)
  have n9 := n p e s m args below meth c C E9 F9 H locs hW hS lsR hl
  rw [← hz] at n9
  exact lv_ishr hx hb hdg n9
theorem u_lor {a b : Int64} (i : Nat) (hd : k.2.2.2.2.2[i]? = some (pc, .lor, 1)) (z : Int64) (hz : a ||| b = z) (n : U G X nc ns k (pc + 1) ls (.long z :: st) M) : U G X nc ns k pc ls (.long b :: .long a :: st) M := by
  intro p e s m args below meth c C E9 F9 H locs hW hS lsR hl
  obtain ⟨hx, hb, hml, hr, hlk, hown, hts, hK, hdc⟩ := id C
  have hdg := hdc _ (List.mem_of_getElem? hd)
  have n9 := n p e s m args below meth c C E9 F9 H locs hW hS lsR hl
  rw [← hz] at n9
  exact lv_lor hx hb hdg n9
theorem u_lshl {a : Int64} {b : Int} (i : Nat) (hd : k.2.2.2.2.2[i]? = some (pc, .lshl, 1)) (z : Int64) (hz : a <<< ((J b).toInt64 &&& 63) = z) (n : U G X nc ns k (pc + 1) ls (.long z :: st) M) : U G X nc ns k pc ls (.int (J b) :: .long a :: st) M := by
  intro p e s m args below meth c C E9 F9 H locs hW hS lsR hl
  obtain ⟨hx, hb, hml, hr, hlk, hown, hts, hK, hdc⟩ := id C
  have hdg := hdc _ (List.mem_of_getElem? hd)
  have n9 := n p e s m args below meth c C E9 F9 H locs hW hS lsR hl
  exact lv_lshl hx hb hdg hz n9
theorem u_laddR {a b : Int64} (i : Nat) (hd : k.2.2.2.2.2[i]? = some (pc, .ladd, 1)) (n : U G X nc ns k (pc + 1) ls (.long (a + b) :: st) M) : U G X nc ns k pc ls (.long b :: .long a :: st) M := by
  intro p e s m args below meth c C E9 F9 H locs hW hS lsR hl
  obtain ⟨hx, hb, hml, hr, hlk, hown, hts, hK, hdc⟩ := id C
  have hdg := hdc _ (List.mem_of_getElem? hd)
  have n9 := n p e s m args below meth c C E9 F9 H locs hW hS lsR hl
  exact lv_ladd hx hb hdg n9
theorem u_lsubR {a b : Int64} (i : Nat) (hd : k.2.2.2.2.2[i]? = some (pc, .lsub, 1)) (n : U G X nc ns k (pc + 1) ls (.long (a - b) :: st) M) : U G X nc ns k pc ls (.long b :: .long a :: st) M := by
  intro p e s m args below meth c C E9 F9 H locs hW hS lsR hl
  obtain ⟨hx, hb, hml, hr, hlk, hown, hts, hK, hdc⟩ := id C
  have hdg := hdc _ (List.mem_of_getElem? hd)
  have n9 := n p e s m args below meth c C E9 F9 H locs hW hS lsR hl
  exact lv_lsub hx hb hdg n9
theorem u_iconst {z : Int} (i : Nat) (hd : k.2.2.2.2.2[i]? = some (pc, .iconst z, 1)) (n : U G X nc ns k (pc + 1) ls (.int (J z) :: st) M) : U G X nc ns k pc ls (st) M := by
  intro p e s m args below meth c C E9 F9 H locs hW hS lsR hl
  obtain ⟨hx, hb, hml, hr, hlk, hown, hts, hK, hdc⟩ := id C
  have hdg := hdc _ (List.mem_of_getElem? hd)
  have n9 := n p e s m args below meth c C E9 F9 H locs hW hS lsR hl
  exact lv_iconst hx hb hdg rfl n9
theorem u_bipush {z : Int} (i : Nat) (hd : k.2.2.2.2.2[i]? = some (pc, .bipush z, 2)) (hz : -128 ≤ z ∧ z < 128) (n : U G X nc ns k (pc + 2) ls (.int (J z) :: st) M) : U G X nc ns k pc ls (st) M := by
  intro p e s m args below meth c C E9 F9 H locs hW hS lsR hl
  obtain ⟨hx, hb, hml, hr, hlk, hown, hts, hK, hdc⟩ := id C
  have hdg := hdc _ (List.mem_of_getElem? hd)
  have n9 := n p e s m args below meth c C E9 F9 H locs hW hS lsR hl
  exact lv_bipush hx hb hdg (J_b8 hz) n9
theorem u_sipush {z : Int} (i : Nat) (hd : k.2.2.2.2.2[i]? = some (pc, .sipush z, 3)) (hz : -32768 ≤ z ∧ z < 32768) (n : U G X nc ns k (pc + 3) ls (.int (J z) :: st) M) : U G X nc ns k pc ls (st) M := by
  intro p e s m args below meth c C E9 F9 H locs hW hS lsR hl
  obtain ⟨hx, hb, hml, hr, hlk, hown, hts, hK, hdc⟩ := id C
  have hdg := hdc _ (List.mem_of_getElem? hd)
  have n9 := n p e s m args below meth c C E9 F9 H locs hW hS lsR hl
  exact lv_sipush hx hb hdg (J_b16 hz) n9
theorem u_lconst {f : Fin 2} (i : Nat) (hd : k.2.2.2.2.2[i]? = some (pc, .lconst f, 1)) (n : U G X nc ns k (pc + 1) ls (.long (JL ((f : Nat) : Int)) :: st) M) : U G X nc ns k pc ls (st) M := by
  intro p e s m args below meth c C E9 F9 H locs hW hS lsR hl
  obtain ⟨hx, hb, hml, hr, hlk, hown, hts, hK, hdc⟩ := id C
  have hdg := hdc _ (List.mem_of_getElem? hd)
  have n9 := n p e s m args below meth c C E9 F9 H locs hW hS lsR hl
  exact lv_lconst hx hb hdg Int64.ofInt_eq_ofNat.symm n9
theorem u_ldc {x : Nat} {v : Int32} (i : Nat) (hd : k.2.2.2.2.2[i]? = some (pc, .ldc x, 2)) (hw : Cond.constant k.1 x v ∈ tb) (z : Int) (hz : v = J z) (n : U G X nc ns k (pc + 2) ls (.int (J z) :: st) M) : U G X nc ns k pc ls (st) M := by
  intro p e s m args below meth c C E9 F9 H locs hW hS lsR hl
  obtain ⟨hx, hb, hml, hr, hlk, hown, hts, hK, hdc⟩ := id C
  have hdg := hdc _ (List.mem_of_getElem? hd)
  have n9 := n p e s m args below meth c C E9 F9 H locs hW hS lsR hl
  rw [← hz] at n9
  exact lv_ldc hx hb hown (hts _ hw) hdg n9
theorem u_ldcw {x : Nat} {v : Int32} (i : Nat) (hd : k.2.2.2.2.2[i]? = some (pc, .ldc_w x, 3)) (hw : Cond.constant k.1 x v ∈ tb) (z : Int) (hz : v = J z) (n : U G X nc ns k (pc + 3) ls (.int (J z) :: st) M) : U G X nc ns k pc ls (st) M := by
  intro p e s m args below meth c C E9 F9 H locs hW hS lsR hl
  obtain ⟨hx, hb, hml, hr, hlk, hown, hts, hK, hdc⟩ := id C
  have hdg := hdc _ (List.mem_of_getElem? hd)
  have n9 := n p e s m args below meth c C E9 F9 H locs hW hS lsR hl
  rw [← hz] at n9
  exact lv_ldcw hx hb hown (hts _ hw) hdg n9
theorem u_ldc2 {x : Nat} {v : Int64} (i : Nat) (hd : k.2.2.2.2.2[i]? = some (pc, .ldc2_w x, 3)) (hw : Cond.constantLong k.1 x v ∈ tb) (n : U G X nc ns k (pc + 3) ls (.long v :: st) M) : U G X nc ns k pc ls (st) M := by
  intro p e s m args below meth c C E9 F9 H locs hW hS lsR hl
  obtain ⟨hx, hb, hml, hr, hlk, hown, hts, hK, hdc⟩ := id C
  have hdg := hdc _ (List.mem_of_getElem? hd)
  have n9 := n p e s m args below meth c C E9 F9 H locs hW hS lsR hl
  exact lv_ldc2 hx hb hown (hts _ hw) hdg n9
theorem u_ldc2J {x : Nat} {v : Int64} (i : Nat) (hd : k.2.2.2.2.2[i]? = some (pc, .ldc2_w x, 3)) (hw : Cond.constantLong k.1 x v ∈ tb) (z : Int) (hz : v = JL z) (n : U G X nc ns k (pc + 3) ls (.long (JL z) :: st) M) : U G X nc ns k pc ls (st) M := by
  intro p e s m args below meth c C E9 F9 H locs hW hS lsR hl
  obtain ⟨hx, hb, hml, hr, hlk, hown, hts, hK, hdc⟩ := id C
  have hdg := hdc _ (List.mem_of_getElem? hd)
  have n9 := n p e s m args below meth c C E9 F9 H locs hW hS lsR hl
  rw [← hz] at n9
  exact lv_ldc2 hx hb hown (hts _ hw) hdg n9
theorem u_ldcf {x : Nat} {v : UInt32} (i : Nat) (hd : k.2.2.2.2.2[i]? = some (pc, .ldc x, 2)) (hw : Cond.constantFloat k.1 x v ∈ tb) (n : U G X nc ns k (pc + 2) ls (.float v :: st) M) : U G X nc ns k pc ls (st) M := by
  intro p e s m args below meth c C E9 F9 H locs hW hS lsR hl
  obtain ⟨hx, hb, hml, hr, hlk, hown, hts, hK, hdc⟩ := id C
  have hdg := hdc _ (List.mem_of_getElem? hd)
  have n9 := n p e s m args below meth c C E9 F9 H locs hW hS lsR hl
  exact lv_ldcf hx hb hown (hts _ hw) hdg n9
theorem u_ldc2d {x : Nat} {v : UInt64} (i : Nat) (hd : k.2.2.2.2.2[i]? = some (pc, .ldc2_w x, 3)) (hw : Cond.constantDouble k.1 x v ∈ tb) (n : U G X nc ns k (pc + 3) ls (.double v :: st) M) : U G X nc ns k pc ls (st) M := by
  intro p e s m args below meth c C E9 F9 H locs hW hS lsR hl
  obtain ⟨hx, hb, hml, hr, hlk, hown, hts, hK, hdc⟩ := id C
  have hdg := hdc _ (List.mem_of_getElem? hd)
  have n9 := n p e s m args below meth c C E9 F9 H locs hW hS lsR hl
  exact lv_ldc2d hx hb hown (hts _ hw) hdg n9
theorem u_fconst0 (i : Nat) (hd : k.2.2.2.2.2[i]? = some (pc, .fconst 0, 1)) (n : U G X nc ns k (pc + 1) ls (.float FP.fconst0 :: st) M) : U G X nc ns k pc ls (st) M := by
  intro p e s m args below meth c C E9 F9 H locs hW hS lsR hl
  obtain ⟨hx, hb, hml, hr, hlk, hown, hts, hK, hdc⟩ := id C
  have hdg := hdc _ (List.mem_of_getElem? hd)
  have n9 := n p e s m args below meth c C E9 F9 H locs hW hS lsR hl
  exact lv_fconst0 hx hb hdg n9
theorem u_fconst1 (i : Nat) (hd : k.2.2.2.2.2[i]? = some (pc, .fconst 1, 1)) (n : U G X nc ns k (pc + 1) ls (.float FP.fconst1 :: st) M) : U G X nc ns k pc ls (st) M := by
  intro p e s m args below meth c C E9 F9 H locs hW hS lsR hl
  obtain ⟨hx, hb, hml, hr, hlk, hown, hts, hK, hdc⟩ := id C
  have hdg := hdc _ (List.mem_of_getElem? hd)
  have n9 := n p e s m args below meth c C E9 F9 H locs hW hS lsR hl
  exact lv_fconst1 hx hb hdg n9
theorem u_fconst2 (i : Nat) (hd : k.2.2.2.2.2[i]? = some (pc, .fconst 2, 1)) (n : U G X nc ns k (pc + 1) ls (.float FP.fconst2 :: st) M) : U G X nc ns k pc ls (st) M := by
  intro p e s m args below meth c C E9 F9 H locs hW hS lsR hl
  obtain ⟨hx, hb, hml, hr, hlk, hown, hts, hK, hdc⟩ := id C
  have hdg := hdc _ (List.mem_of_getElem? hd)
  have n9 := n p e s m args below meth c C E9 F9 H locs hW hS lsR hl
  exact lv_fconst2 hx hb hdg n9
theorem u_dconst0 (i : Nat) (hd : k.2.2.2.2.2[i]? = some (pc, .dconst 0, 1)) (n : U G X nc ns k (pc + 1) ls (.double FP.dconst0 :: st) M) : U G X nc ns k pc ls (st) M := by
  intro p e s m args below meth c C E9 F9 H locs hW hS lsR hl
  obtain ⟨hx, hb, hml, hr, hlk, hown, hts, hK, hdc⟩ := id C
  have hdg := hdc _ (List.mem_of_getElem? hd)
  have n9 := n p e s m args below meth c C E9 F9 H locs hW hS lsR hl
  exact lv_dconst0 hx hb hdg n9
theorem u_dconst1 (i : Nat) (hd : k.2.2.2.2.2[i]? = some (pc, .dconst 1, 1)) (n : U G X nc ns k (pc + 1) ls (.double FP.dconst1 :: st) M) : U G X nc ns k pc ls (st) M := by
  intro p e s m args below meth c C E9 F9 H locs hW hS lsR hl
  obtain ⟨hx, hb, hml, hr, hlk, hown, hts, hK, hdc⟩ := id C
  have hdg := hdc _ (List.mem_of_getElem? hd)
  have n9 := n p e s m args below meth c C E9 F9 H locs hW hS lsR hl
  exact lv_dconst1 hx hb hdg n9
theorem u_iload_n {x : Int32} {f : Fin 4} (i : Nat) (hd : k.2.2.2.2.2[i]? = some (pc, .iload_n f, 1)) (hv : ls[(f : Nat)]? = some (some (.int x))) (n : U G X nc ns k (pc + 1) ls (.int x :: st) M) : U G X nc ns k pc ls (st) M := by
  intro p e s m args below meth c C E9 F9 H locs hW hS lsR hl
  obtain ⟨hx, hb, hml, hr, hlk, hown, hts, hK, hdc⟩ := id C
  have hdg := hdc _ (List.mem_of_getElem? hd)
  have n9 := n p e s m args below meth c C E9 F9 H locs hW hS lsR hl
  exact lv_iload_n hx hb hdg rfl (hl.2.2 _ _ hv) n9
theorem u_iload {x : Int32} {f : Nat} (i : Nat) (hd : k.2.2.2.2.2[i]? = some (pc, .iload f, 2)) (hv : ls[f]? = some (some (.int x))) (n : U G X nc ns k (pc + 2) ls (.int x :: st) M) : U G X nc ns k pc ls (st) M := by
  intro p e s m args below meth c C E9 F9 H locs hW hS lsR hl
  obtain ⟨hx, hb, hml, hr, hlk, hown, hts, hK, hdc⟩ := id C
  have hdg := hdc _ (List.mem_of_getElem? hd)
  have n9 := n p e s m args below meth c C E9 F9 H locs hW hS lsR hl
  exact lv_iload hx hb hdg (hl.2.2 _ _ hv) n9
theorem u_lload_n {x : Int64} {f : Fin 4} (i : Nat) (hd : k.2.2.2.2.2[i]? = some (pc, .lload_n f, 1)) (hv : ls[(f : Nat)]? = some (some (.long x))) (n : U G X nc ns k (pc + 1) ls (.long x :: st) M) : U G X nc ns k pc ls (st) M := by
  intro p e s m args below meth c C E9 F9 H locs hW hS lsR hl
  obtain ⟨hx, hb, hml, hr, hlk, hown, hts, hK, hdc⟩ := id C
  have hdg := hdc _ (List.mem_of_getElem? hd)
  have n9 := n p e s m args below meth c C E9 F9 H locs hW hS lsR hl
  exact lv_lload_n hx hb hdg rfl (hl.2.2 _ _ hv) n9
theorem u_lload {x : Int64} {f : Nat} (i : Nat) (hd : k.2.2.2.2.2[i]? = some (pc, .lload f, 2)) (hv : ls[f]? = some (some (.long x))) (n : U G X nc ns k (pc + 2) ls (.long x :: st) M) : U G X nc ns k pc ls (st) M := by
  intro p e s m args below meth c C E9 F9 H locs hW hS lsR hl
  obtain ⟨hx, hb, hml, hr, hlk, hown, hts, hK, hdc⟩ := id C
  have hdg := hdc _ (List.mem_of_getElem? hd)
  have n9 := n p e s m args below meth c C E9 F9 H locs hW hS lsR hl
  exact lv_lload hx hb hdg (hl.2.2 _ _ hv) n9
theorem u_aload_n {x : Nat} {f : Fin 4} (i : Nat) (hd : k.2.2.2.2.2[i]? = some (pc, .aload_n f, 1)) (hv : ls[(f : Nat)]? = some (some (.ref x))) (n : U G X nc ns k (pc + 1) ls (.ref x :: st) M) : U G X nc ns k pc ls (st) M := by
  intro p e s m args below meth c C E9 F9 H locs hW hS lsR hl
  obtain ⟨hx, hb, hml, hr, hlk, hown, hts, hK, hdc⟩ := id C
  have hdg := hdc _ (List.mem_of_getElem? hd)
  have n9 := n p e s m args below meth c C E9 F9 H locs hW hS lsR hl
  exact lv_aload_n hx hb hdg rfl (hl.2.2 _ _ hv) n9
theorem u_aload {x : Nat} {f : Nat} (i : Nat) (hd : k.2.2.2.2.2[i]? = some (pc, .aload f, 2)) (hv : ls[f]? = some (some (.ref x))) (n : U G X nc ns k (pc + 2) ls (.ref x :: st) M) : U G X nc ns k pc ls (st) M := by
  intro p e s m args below meth c C E9 F9 H locs hW hS lsR hl
  obtain ⟨hx, hb, hml, hr, hlk, hown, hts, hK, hdc⟩ := id C
  have hdg := hdc _ (List.mem_of_getElem? hd)
  have n9 := n p e s m args below meth c C E9 F9 H locs hW hS lsR hl
  exact lv_aload hx hb hdg (hl.2.2 _ _ hv) n9
theorem u_fload_n {x : UInt32} {f : Fin 4} (i : Nat) (hd : k.2.2.2.2.2[i]? = some (pc, .fload_n f, 1)) (hv : ls[(f : Nat)]? = some (some (.float x))) (n : U G X nc ns k (pc + 1) ls (.float x :: st) M) : U G X nc ns k pc ls (st) M := by
  intro p e s m args below meth c C E9 F9 H locs hW hS lsR hl
  obtain ⟨hx, hb, hml, hr, hlk, hown, hts, hK, hdc⟩ := id C
  have hdg := hdc _ (List.mem_of_getElem? hd)
  have n9 := n p e s m args below meth c C E9 F9 H locs hW hS lsR hl
  exact lv_fload_n hx hb hdg rfl (hl.2.2 _ _ hv) n9
theorem u_fload {x : UInt32} {f : Nat} (i : Nat) (hd : k.2.2.2.2.2[i]? = some (pc, .fload f, 2)) (hv : ls[f]? = some (some (.float x))) (n : U G X nc ns k (pc + 2) ls (.float x :: st) M) : U G X nc ns k pc ls (st) M := by
  intro p e s m args below meth c C E9 F9 H locs hW hS lsR hl
  obtain ⟨hx, hb, hml, hr, hlk, hown, hts, hK, hdc⟩ := id C
  have hdg := hdc _ (List.mem_of_getElem? hd)
  have n9 := n p e s m args below meth c C E9 F9 H locs hW hS lsR hl
  exact lv_fload hx hb hdg (hl.2.2 _ _ hv) n9
theorem u_dload_n {x : UInt64} {f : Fin 4} (i : Nat) (hd : k.2.2.2.2.2[i]? = some (pc, .dload_n f, 1)) (hv : ls[(f : Nat)]? = some (some (.double x))) (n : U G X nc ns k (pc + 1) ls (.double x :: st) M) : U G X nc ns k pc ls (st) M := by
  intro p e s m args below meth c C E9 F9 H locs hW hS lsR hl
  obtain ⟨hx, hb, hml, hr, hlk, hown, hts, hK, hdc⟩ := id C
  have hdg := hdc _ (List.mem_of_getElem? hd)
  have n9 := n p e s m args below meth c C E9 F9 H locs hW hS lsR hl
  exact lv_dload_n hx hb hdg rfl (hl.2.2 _ _ hv) n9
theorem u_dload {x : UInt64} {f : Nat} (i : Nat) (hd : k.2.2.2.2.2[i]? = some (pc, .dload f, 2)) (hv : ls[f]? = some (some (.double x))) (n : U G X nc ns k (pc + 2) ls (.double x :: st) M) : U G X nc ns k pc ls (st) M := by
  intro p e s m args below meth c C E9 F9 H locs hW hS lsR hl
  obtain ⟨hx, hb, hml, hr, hlk, hown, hts, hK, hdc⟩ := id C
  have hdg := hdc _ (List.mem_of_getElem? hd)
  have n9 := n p e s m args below meth c C E9 F9 H locs hW hS lsR hl
  exact lv_dload hx hb hdg (hl.2.2 _ _ hv) n9
theorem u_istore_n {x : Int32} {f : Fin 4} (i : Nat) (hd : k.2.2.2.2.2[i]? = some (pc, .istore_n f, 1)) (hn : ((f : Nat) < k.2.2.2.1 ∧ okSt ls (f : Nat) = true)) (n : U G X nc ns k (pc + 1) (ls.set (f : Nat) (some (.int x))) st M) : U G X nc ns k pc ls (.int x :: st) M := by
  intro p e s m args below meth c C E9 F9 H locs hW hS lsR hl
  obtain ⟨hx, hb, hml, hr, hlk, hown, hts, hK, hdc⟩ := id C
  have hdg := hdc _ (List.mem_of_getElem? hd)
  exact lv_istore_n hx hb hdg rfl hl.has hn.1 rfl (fun ls9 h9 => n p e s m args below meth c C E9 F9 H locs hW hS ls9 (LvOk.st1 (v := .int x) hn.2 h9))
theorem u_istore {x : Int32} {f : Nat} (i : Nat) (hd : k.2.2.2.2.2[i]? = some (pc, .istore f, 2)) (hn : (f < k.2.2.2.1 ∧ okSt ls f = true)) (n : U G X nc ns k (pc + 2) (ls.set f (some (.int x))) st M) : U G X nc ns k pc ls (.int x :: st) M := by
  intro p e s m args below meth c C E9 F9 H locs hW hS lsR hl
  obtain ⟨hx, hb, hml, hr, hlk, hown, hts, hK, hdc⟩ := id C
  have hdg := hdc _ (List.mem_of_getElem? hd)
  exact lv_istore hx hb hdg hl.has hn.1 rfl (fun ls9 h9 => n p e s m args below meth c C E9 F9 H locs hW hS ls9 (LvOk.st1 (v := .int x) hn.2 h9))
theorem u_lstore_n {x : Int64} {f : Fin 4} (i : Nat) (hd : k.2.2.2.2.2[i]? = some (pc, .lstore_n f, 1)) (hn : ((f : Nat) + 1 < k.2.2.2.1 ∧ okSt ls (f : Nat) = true)) (n : U G X nc ns k (pc + 1) ((ls.set (f : Nat) (some (.long x))).set ((f : Nat) + 1) none) st M) : U G X nc ns k pc ls (.long x :: st) M := by
  intro p e s m args below meth c C E9 F9 H locs hW hS lsR hl
  obtain ⟨hx, hb, hml, hr, hlk, hown, hts, hK, hdc⟩ := id C
  have hdg := hdc _ (List.mem_of_getElem? hd)
  exact lv_lstore_n hx hb hdg rfl hl.has hn.1 rfl (fun ls9 h9 => n p e s m args below meth c C E9 F9 H locs hW hS ls9 (LvOk.st2 (v := .long x) hn.2 h9))
theorem u_lstore {x : Int64} {f : Nat} (i : Nat) (hd : k.2.2.2.2.2[i]? = some (pc, .lstore f, 2)) (hn : (f + 1 < k.2.2.2.1 ∧ okSt ls f = true)) (n : U G X nc ns k (pc + 2) ((ls.set f (some (.long x))).set (f + 1) none) st M) : U G X nc ns k pc ls (.long x :: st) M := by
  intro p e s m args below meth c C E9 F9 H locs hW hS lsR hl
  obtain ⟨hx, hb, hml, hr, hlk, hown, hts, hK, hdc⟩ := id C
  have hdg := hdc _ (List.mem_of_getElem? hd)
  exact lv_lstore hx hb hdg hl.has hn.1 rfl (fun ls9 h9 => n p e s m args below meth c C E9 F9 H locs hW hS ls9 (LvOk.st2 (v := .long x) hn.2 h9))
theorem u_astore_n {x : Nat} {f : Fin 4} (i : Nat) (hd : k.2.2.2.2.2[i]? = some (pc, .astore_n f, 1)) (hn : ((f : Nat) < k.2.2.2.1 ∧ okSt ls (f : Nat) = true)) (n : U G X nc ns k (pc + 1) (ls.set (f : Nat) (some (.ref x))) st M) : U G X nc ns k pc ls (.ref x :: st) M := by
  intro p e s m args below meth c C E9 F9 H locs hW hS lsR hl
  obtain ⟨hx, hb, hml, hr, hlk, hown, hts, hK, hdc⟩ := id C
  have hdg := hdc _ (List.mem_of_getElem? hd)
  exact lv_astore_n hx hb hdg rfl hl.has hn.1 rfl (fun ls9 h9 => n p e s m args below meth c C E9 F9 H locs hW hS ls9 (LvOk.st1 (v := .ref x) hn.2 h9))
theorem u_astore {x : Nat} {f : Nat} (i : Nat) (hd : k.2.2.2.2.2[i]? = some (pc, .astore f, 2)) (hn : (f < k.2.2.2.1 ∧ okSt ls f = true)) (n : U G X nc ns k (pc + 2) (ls.set f (some (.ref x))) st M) : U G X nc ns k pc ls (.ref x :: st) M := by
  intro p e s m args below meth c C E9 F9 H locs hW hS lsR hl
  obtain ⟨hx, hb, hml, hr, hlk, hown, hts, hK, hdc⟩ := id C
  have hdg := hdc _ (List.mem_of_getElem? hd)
  exact lv_astore hx hb hdg hl.has hn.1 rfl (fun ls9 h9 => n p e s m args below meth c C E9 F9 H locs hW hS ls9 (LvOk.st1 (v := .ref x) hn.2 h9))
theorem u_fstore_n {x : UInt32} {f : Fin 4} (i : Nat) (hd : k.2.2.2.2.2[i]? = some (pc, .fstore_n f, 1)) (hn : ((f : Nat) < k.2.2.2.1 ∧ okSt ls (f : Nat) = true)) (n : U G X nc ns k (pc + 1) (ls.set (f : Nat) (some (.float x))) st M) : U G X nc ns k pc ls (.float x :: st) M := by
  intro p e s m args below meth c C E9 F9 H locs hW hS lsR hl
  obtain ⟨hx, hb, hml, hr, hlk, hown, hts, hK, hdc⟩ := id C
  have hdg := hdc _ (List.mem_of_getElem? hd)
  exact lv_fstore_n hx hb hdg rfl hl.has hn.1 rfl (fun ls9 h9 => n p e s m args below meth c C E9 F9 H locs hW hS ls9 (LvOk.st1 (v := .float x) hn.2 h9))
theorem u_fstore {x : UInt32} {f : Nat} (i : Nat) (hd : k.2.2.2.2.2[i]? = some (pc, .fstore f, 2)) (hn : (f < k.2.2.2.1 ∧ okSt ls f = true)) (n : U G X nc ns k (pc + 2) (ls.set f (some (.float x))) st M) : U G X nc ns k pc ls (.float x :: st) M := by
  intro p e s m args below meth c C E9 F9 H locs hW hS lsR hl
  obtain ⟨hx, hb, hml, hr, hlk, hown, hts, hK, hdc⟩ := id C
  have hdg := hdc _ (List.mem_of_getElem? hd)
  exact lv_fstore hx hb hdg hl.has hn.1 rfl (fun ls9 h9 => n p e s m args below meth c C E9 F9 H locs hW hS ls9 (LvOk.st1 (v := .float x) hn.2 h9))
theorem u_dstore_n {x : UInt64} {f : Fin 4} (i : Nat) (hd : k.2.2.2.2.2[i]? = some (pc, .dstore_n f, 1)) (hn : ((f : Nat) + 1 < k.2.2.2.1 ∧ okSt ls (f : Nat) = true)) (n : U G X nc ns k (pc + 1) ((ls.set (f : Nat) (some (.double x))).set ((f : Nat) + 1) none) st M) : U G X nc ns k pc ls (.double x :: st) M := by
  intro p e s m args below meth c C E9 F9 H locs hW hS lsR hl
  obtain ⟨hx, hb, hml, hr, hlk, hown, hts, hK, hdc⟩ := id C
  have hdg := hdc _ (List.mem_of_getElem? hd)
  exact lv_dstore_n hx hb hdg rfl hl.has hn.1 rfl (fun ls9 h9 => n p e s m args below meth c C E9 F9 H locs hW hS ls9 (LvOk.st2 (v := .double x) hn.2 h9))
theorem u_dstore {x : UInt64} {f : Nat} (i : Nat) (hd : k.2.2.2.2.2[i]? = some (pc, .dstore f, 2)) (hn : (f + 1 < k.2.2.2.1 ∧ okSt ls f = true)) (n : U G X nc ns k (pc + 2) ((ls.set f (some (.double x))).set (f + 1) none) st M) : U G X nc ns k pc ls (.double x :: st) M := by
  intro p e s m args below meth c C E9 F9 H locs hW hS lsR hl
  obtain ⟨hx, hb, hml, hr, hlk, hown, hts, hK, hdc⟩ := id C
  have hdg := hdc _ (List.mem_of_getElem? hd)
  exact lv_dstore hx hb hdg hl.has hn.1 rfl (fun ls9 h9 => n p e s m args below meth c C E9 F9 H locs hW hS ls9 (LvOk.st2 (v := .double x) hn.2 h9))
theorem u_iinc {a z : Int} {f : Nat} (i : Nat) (hd : k.2.2.2.2.2[i]? = some (pc, .iinc f z, 3)) (hv : ls[f]? = some (some (.int (J a)))) (hn : f < k.2.2.2.1 ∧ okSt ls f = true) (n : U G X nc ns k (pc + 3) (ls.set f (some (.int (J (a + z))))) st M) : U G X nc ns k pc ls st M := by
  intro p e s m args below meth c C E9 F9 H locs hW hS lsR hl
  obtain ⟨hx, hb, hml, hr, hlk, hown, hts, hK, hdc⟩ := id C
  have hdg := hdc _ (List.mem_of_getElem? hd)
  obtain ⟨j, hj⟩ := List.getElem?_of_mem (lvOf_mem (ad := ga G) (q := (f, .int (J a))).mpr ⟨.int (J a), hv, rfl⟩)
  exact lv_iinc hx hb hdg hl.has hj (show J a + Int32.ofInt z = J (a + z) from J_add a z) hn.1 rfl (fun ls9 h9 => n p e s m args below meth c C E9 F9 H locs hW hS ls9 (LvOk.st1 (v := .int (J (a + z))) hn.2 h9))
theorem u_i2l {a : Int} (i : Nat) (hd : k.2.2.2.2.2[i]? = some (pc, .i2l, 1)) (ha : -2147483648 ≤ a ∧ a ≤ 2147483647) (n : U G X nc ns k (pc + 1) ls (.long (JL a) :: st) M) : U G X nc ns k pc ls (.int (J a) :: st) M := by
  intro p e s m args below meth c C E9 F9 H locs hW hS lsR hl
  obtain ⟨hx, hb, hml, hr, hlk, hown, hts, hK, hdc⟩ := id C
  have hdg := hdc _ (List.mem_of_getElem? hd)
  have n9 := n p e s m args below meth c C E9 F9 H locs hW hS lsR hl
  exact lv_i2l hx hb hdg (J_long ha) n9
theorem u_i2b {a : Int} (i : Nat) (hd : k.2.2.2.2.2[i]? = some (pc, .i2b, 1)) (z : Int) (hz : (J a).toInt8.toInt32 = J z) (n : U G X nc ns k (pc + 1) ls (.int (J z) :: st) M) : U G X nc ns k pc ls (.int (J a) :: st) M := by
  intro p e s m args below meth c C E9 F9 H locs hW hS lsR hl
  obtain ⟨hx, hb, hml, hr, hlk, hown, hts, hK, hdc⟩ := id C
  have hdg := hdc _ (List.mem_of_getElem? hd)
  have n9 := n p e s m args below meth c C E9 F9 H locs hW hS lsR hl
  exact lv_i2b hx hb hdg hz n9
theorem u_i2f {x : Int32} (i : Nat) (hd : k.2.2.2.2.2[i]? = some (pc, .i2f, 1)) (n : U G X nc ns k (pc + 1) ls (.float (FP.i2f x) :: st) M) : U G X nc ns k pc ls (.int x :: st) M := by
  intro p e s m args below meth c C E9 F9 H locs hW hS lsR hl
  obtain ⟨hx, hb, hml, hr, hlk, hown, hts, hK, hdc⟩ := id C
  have hdg := hdc _ (List.mem_of_getElem? hd)
  have n9 := n p e s m args below meth c C E9 F9 H locs hW hS lsR hl
  exact lv_i2f hx hb hdg n9
theorem u_i2d {x : Int32} (i : Nat) (hd : k.2.2.2.2.2[i]? = some (pc, .i2d, 1)) (n : U G X nc ns k (pc + 1) ls (.double (FP.i2d x) :: st) M) : U G X nc ns k pc ls (.int x :: st) M := by
  intro p e s m args below meth c C E9 F9 H locs hW hS lsR hl
  obtain ⟨hx, hb, hml, hr, hlk, hown, hts, hK, hdc⟩ := id C
  have hdg := hdc _ (List.mem_of_getElem? hd)
  have n9 := n p e s m args below meth c C E9 F9 H locs hW hS lsR hl
  exact lv_i2d hx hb hdg n9
theorem u_f2i {x : UInt32} (i : Nat) (hd : k.2.2.2.2.2[i]? = some (pc, .f2i, 1)) (z : Int) (hz : FP.f2i x = J z) (n : U G X nc ns k (pc + 1) ls (.int (J z) :: st) M) : U G X nc ns k pc ls (.float x :: st) M := by
  intro p e s m args below meth c C E9 F9 H locs hW hS lsR hl
  obtain ⟨hx, hb, hml, hr, hlk, hown, hts, hK, hdc⟩ := id C
  have hdg := hdc _ (List.mem_of_getElem? hd)
  have n9 := n p e s m args below meth c C E9 F9 H locs hW hS lsR hl
  rw [← hz] at n9
  exact lv_f2i hx hb hdg n9
theorem u_d2l {x : UInt64} (i : Nat) (hd : k.2.2.2.2.2[i]? = some (pc, .d2l, 1)) (n : U G X nc ns k (pc + 1) ls (.long (FP.d2l x) :: st) M) : U G X nc ns k pc ls (.double x :: st) M := by
  intro p e s m args below meth c C E9 F9 H locs hW hS lsR hl
  obtain ⟨hx, hb, hml, hr, hlk, hown, hts, hK, hdc⟩ := id C
  have hdg := hdc _ (List.mem_of_getElem? hd)
  have n9 := n p e s m args below meth c C E9 F9 H locs hW hS lsR hl
  exact lv_d2l hx hb hdg n9
theorem u_fsub {x y : UInt32} (i : Nat) (hd : k.2.2.2.2.2[i]? = some (pc, .fsub, 1)) (hz : vf_n32 (FP.fsub x y)) (n : U G X nc ns k (pc + 1) ls (.float (FP.fsub x y) :: st) M) : U G X nc ns k pc ls (.float y :: .float x :: st) M := by
  intro p e s m args below meth c C E9 F9 H locs hW hS lsR hl
  obtain ⟨hx, hb, hml, hr, hlk, hown, hts, hK, hdc⟩ := id C
  have hdg := hdc _ (List.mem_of_getElem? hd)
  have n9 := n p e s m args below meth c C E9 F9 H locs hW hS lsR hl
  exact lv_fsub hx hb hdg hz n9
theorem u_fmul {x y : UInt32} (i : Nat) (hd : k.2.2.2.2.2[i]? = some (pc, .fmul, 1)) (hz : vf_n32 (FP.fmul x y)) (n : U G X nc ns k (pc + 1) ls (.float (FP.fmul x y) :: st) M) : U G X nc ns k pc ls (.float y :: .float x :: st) M := by
  intro p e s m args below meth c C E9 F9 H locs hW hS lsR hl
  obtain ⟨hx, hb, hml, hr, hlk, hown, hts, hK, hdc⟩ := id C
  have hdg := hdc _ (List.mem_of_getElem? hd)
  have n9 := n p e s m args below meth c C E9 F9 H locs hW hS lsR hl
  exact lv_fmul hx hb hdg hz n9
theorem u_fdiv {x y : UInt32} (i : Nat) (hd : k.2.2.2.2.2[i]? = some (pc, .fdiv, 1)) (hz : vf_n32 (FP.fdiv x y)) (n : U G X nc ns k (pc + 1) ls (.float (FP.fdiv x y) :: st) M) : U G X nc ns k pc ls (.float y :: .float x :: st) M := by
  intro p e s m args below meth c C E9 F9 H locs hW hS lsR hl
  obtain ⟨hx, hb, hml, hr, hlk, hown, hts, hK, hdc⟩ := id C
  have hdg := hdc _ (List.mem_of_getElem? hd)
  have n9 := n p e s m args below meth c C E9 F9 H locs hW hS lsR hl
  exact lv_fdiv hx hb hdg hz n9
theorem u_dadd {x y : UInt64} (i : Nat) (hd : k.2.2.2.2.2[i]? = some (pc, .dadd, 1)) (hz : vf_n64 (FP.dadd x y)) (n : U G X nc ns k (pc + 1) ls (.double (FP.dadd x y) :: st) M) : U G X nc ns k pc ls (.double y :: .double x :: st) M := by
  intro p e s m args below meth c C E9 F9 H locs hW hS lsR hl
  obtain ⟨hx, hb, hml, hr, hlk, hown, hts, hK, hdc⟩ := id C
  have hdg := hdc _ (List.mem_of_getElem? hd)
  have n9 := n p e s m args below meth c C E9 F9 H locs hW hS lsR hl
  exact lv_dadd hx hb hdg hz n9
theorem u_dsub {x y : UInt64} (i : Nat) (hd : k.2.2.2.2.2[i]? = some (pc, .dsub, 1)) (hz : vf_n64 (FP.dsub x y)) (n : U G X nc ns k (pc + 1) ls (.double (FP.dsub x y) :: st) M) : U G X nc ns k pc ls (.double y :: .double x :: st) M := by
  intro p e s m args below meth c C E9 F9 H locs hW hS lsR hl
  obtain ⟨hx, hb, hml, hr, hlk, hown, hts, hK, hdc⟩ := id C
  have hdg := hdc _ (List.mem_of_getElem? hd)
  have n9 := n p e s m args below meth c C E9 F9 H locs hW hS lsR hl
  exact lv_dsub hx hb hdg hz n9
theorem u_dmul {x y : UInt64} (i : Nat) (hd : k.2.2.2.2.2[i]? = some (pc, .dmul, 1)) (hz : vf_n64 (FP.dmul x y)) (n : U G X nc ns k (pc + 1) ls (.double (FP.dmul x y) :: st) M) : U G X nc ns k pc ls (.double y :: .double x :: st) M := by
  intro p e s m args below meth c C E9 F9 H locs hW hS lsR hl
  obtain ⟨hx, hb, hml, hr, hlk, hown, hts, hK, hdc⟩ := id C
  have hdg := hdc _ (List.mem_of_getElem? hd)
  have n9 := n p e s m args below meth c C E9 F9 H locs hW hS lsR hl
  exact lv_dmul hx hb hdg hz n9
theorem u_ddiv {x y : UInt64} (i : Nat) (hd : k.2.2.2.2.2[i]? = some (pc, .ddiv, 1)) (hz : vf_n64 (FP.ddiv x y)) (n : U G X nc ns k (pc + 1) ls (.double (FP.ddiv x y) :: st) M) : U G X nc ns k pc ls (.double y :: .double x :: st) M := by
  intro p e s m args below meth c C E9 F9 H locs hW hS lsR hl
  obtain ⟨hx, hb, hml, hr, hlk, hown, hts, hK, hdc⟩ := id C
  have hdg := hdc _ (List.mem_of_getElem? hd)
  have n9 := n p e s m args below meth c C E9 F9 H locs hW hS lsR hl
  exact lv_ddiv hx hb hdg hz n9
theorem u_fcmp {x y : UInt32} {op : CmpOp} (i : Nat) (hd : k.2.2.2.2.2[i]? = some (pc, .fcmp op, 1)) (z : Int) (hz : Op.cmpValue (FP.fcmp x y) op = J z) (n : U G X nc ns k (pc + 1) ls (.int (J z) :: st) M) : U G X nc ns k pc ls (.float y :: .float x :: st) M := by
  intro p e s m args below meth c C E9 F9 H locs hW hS lsR hl
  obtain ⟨hx, hb, hml, hr, hlk, hown, hts, hK, hdc⟩ := id C
  have hdg := hdc _ (List.mem_of_getElem? hd)
  have n9 := n p e s m args below meth c C E9 F9 H locs hW hS lsR hl
  rw [← hz] at n9
  exact lv_fcmp hx hb hdg n9
theorem u_dcmp {x y : UInt64} {op : CmpOp} (i : Nat) (hd : k.2.2.2.2.2[i]? = some (pc, .dcmp op, 1)) (z : Int) (hz : Op.cmpValue (FP.dcmp x y) op = J z) (n : U G X nc ns k (pc + 1) ls (.int (J z) :: st) M) : U G X nc ns k pc ls (.double y :: .double x :: st) M := by
  intro p e s m args below meth c C E9 F9 H locs hW hS lsR hl
  obtain ⟨hx, hb, hml, hr, hlk, hown, hts, hK, hdc⟩ := id C
  have hdg := hdc _ (List.mem_of_getElem? hd)
  have n9 := n p e s m args below meth c C E9 F9 H locs hW hS lsR hl
  rw [← hz] at n9
  exact lv_dcmp hx hb hdg n9
theorem u_lcmp {x y : Int64} (i : Nat) (hd : k.2.2.2.2.2[i]? = some (pc, .lcmp, 1)) (z : Int) (hz : lg_cmp x y = J z) (n : U G X nc ns k (pc + 1) ls (.int (J z) :: st) M) : U G X nc ns k pc ls (.long y :: .long x :: st) M := by
  intro p e s m args below meth c C E9 F9 H locs hW hS lsR hl
  obtain ⟨hx, hb, hml, hr, hlk, hown, hts, hK, hdc⟩ := id C
  have hdg := hdc _ (List.mem_of_getElem? hd)
  have n9 := n p e s m args below meth c C E9 F9 H locs hW hS lsR hl
  rw [← hz] at n9
  exact W.lcmp hx hb hdg n9
theorem u_dup {x : Value} (i : Nat) (hd : k.2.2.2.2.2[i]? = some (pc, .dup, 1)) (hx1 : x.category = 1) (n : U G X nc ns k (pc + 1) ls (x :: x :: st) M) : U G X nc ns k pc ls (x :: st) M := by
  intro p e s m args below meth c C E9 F9 H locs hW hS lsR hl
  obtain ⟨hx, hb, hml, hr, hlk, hown, hts, hK, hdc⟩ := id C
  have hdg := hdc _ (List.mem_of_getElem? hd)
  have n9 := n p e s m args below meth c C E9 F9 H locs hW hS lsR hl
  exact lv_dup hx hb hdg (by rw [rv_cat]; exact hx1) n9
theorem u_pop {x : Value} (i : Nat) (hd : k.2.2.2.2.2[i]? = some (pc, .pop, 1)) (hx1 : x.category = 1) (n : U G X nc ns k (pc + 1) ls st M) : U G X nc ns k pc ls (x :: st) M := by
  intro p e s m args below meth c C E9 F9 H locs hW hS lsR hl
  obtain ⟨hx, hb, hml, hr, hlk, hown, hts, hK, hdc⟩ := id C
  have hdg := hdc _ (List.mem_of_getElem? hd)
  have n9 := n p e s m args below meth c C E9 F9 H locs hW hS lsR hl
  exact lv_pop hx hb hdg (by rw [rv_cat]; exact hx1) n9
theorem u_dup2 {x y : Value} (i : Nat) (hd : k.2.2.2.2.2[i]? = some (pc, .dup2, 1)) (hx1 : x.category = 1 ∧ y.category = 1) (n : U G X nc ns k (pc + 1) ls (x :: y :: x :: y :: st) M) : U G X nc ns k pc ls (x :: y :: st) M := by
  intro p e s m args below meth c C E9 F9 H locs hW hS lsR hl
  obtain ⟨hx, hb, hml, hr, hlk, hown, hts, hK, hdc⟩ := id C
  have hdg := hdc _ (List.mem_of_getElem? hd)
  have n9 := n p e s m args below meth c C E9 F9 H locs hW hS lsR hl
  exact lv_dup2_11 hx hb hdg (by rw [rv_cat]; exact hx1.1) (by rw [rv_cat]; exact hx1.2) n9
theorem u_if_eq {a : Int} {off : Int} (i tgt : Nat) (hd : k.2.2.2.2.2[i]? = some (pc, .ifCond .eq off, 3)) (ht : (pc : Int) + off = (tgt : Int)) (hg : -2147483648 ≤ a ∧ a ≤ 2147483647) (nt : a = 0 → U G X nc ns k tgt ls st M) (nf : ¬ (a = 0) → U G X nc ns k (pc + 3) ls st M) : U G X nc ns k pc ls (.int (J a) :: st) M := by
  intro p e s m args below meth c C E9 F9 H locs hW hS lsR hl
  obtain ⟨hx, hb, hml, hr, hlk, hown, hts, hK, hdc⟩ := id C
  have hdg := hdc _ (List.mem_of_getElem? hd)
  have q : (J a = 0) ↔ (a = 0) := by rw [J_zero]; exact J_inj ⟨hg, by omega⟩
  refine lv_if_eq hx hb hdg ht (fun h => nt (q.mp h) p e s m args below meth c C E9 F9 H locs hW hS lsR hl) (fun h => nf (fun z => h (q.mpr z)) p e s m args below meth c C E9 F9 H locs hW hS lsR hl)
theorem u_if_eqT {a : Int} {off : Int} (i tgt : Nat) (hd : k.2.2.2.2.2[i]? = some (pc, .ifCond .eq off, 3)) (ht : (pc : Int) + off = (tgt : Int)) (hg : -2147483648 ≤ a ∧ a ≤ 2147483647) (hc : a = 0) (nt : U G X nc ns k tgt ls st M) : U G X nc ns k pc ls (.int (J a) :: st) M := u_if_eq i tgt hd ht hg (fun _ => nt) (fun h => absurd hc h)
theorem u_if_eqF {a : Int} {off : Int} (i tgt : Nat) (hd : k.2.2.2.2.2[i]? = some (pc, .ifCond .eq off, 3)) (ht : (pc : Int) + off = (tgt : Int)) (hg : -2147483648 ≤ a ∧ a ≤ 2147483647) (hc : ¬ (a = 0)) (nf : U G X nc ns k (pc + 3) ls st M) : U G X nc ns k pc ls (.int (J a) :: st) M := u_if_eq i tgt hd ht hg (fun h => absurd h hc) (fun _ => nf)
theorem u_if_ne {a : Int} {off : Int} (i tgt : Nat) (hd : k.2.2.2.2.2[i]? = some (pc, .ifCond .ne off, 3)) (ht : (pc : Int) + off = (tgt : Int)) (hg : -2147483648 ≤ a ∧ a ≤ 2147483647) (nt : ¬ a = 0 → U G X nc ns k tgt ls st M) (nf : ¬ (¬ a = 0) → U G X nc ns k (pc + 3) ls st M) : U G X nc ns k pc ls (.int (J a) :: st) M := by
  intro p e s m args below meth c C E9 F9 H locs hW hS lsR hl
  obtain ⟨hx, hb, hml, hr, hlk, hown, hts, hK, hdc⟩ := id C
  have hdg := hdc _ (List.mem_of_getElem? hd)
  have q : (J a = 0) ↔ (a = 0) := by rw [J_zero]; exact J_inj ⟨hg, by omega⟩
  refine lv_if_ne hx hb hdg ht (fun h => nt (fun z => h (q.mpr z)) p e s m args below meth c C E9 F9 H locs hW hS lsR hl) (fun h => nf (fun z => z (q.mp h)) p e s m args below meth c C E9 F9 H locs hW hS lsR hl)
theorem u_if_neT {a : Int} {off : Int} (i tgt : Nat) (hd : k.2.2.2.2.2[i]? = some (pc, .ifCond .ne off, 3)) (ht : (pc : Int) + off = (tgt : Int)) (hg : -2147483648 ≤ a ∧ a ≤ 2147483647) (hc : ¬ a = 0) (nt : U G X nc ns k tgt ls st M) : U G X nc ns k pc ls (.int (J a) :: st) M := u_if_ne i tgt hd ht hg (fun _ => nt) (fun h => absurd hc h)
theorem u_if_neF {a : Int} {off : Int} (i tgt : Nat) (hd : k.2.2.2.2.2[i]? = some (pc, .ifCond .ne off, 3)) (ht : (pc : Int) + off = (tgt : Int)) (hg : -2147483648 ≤ a ∧ a ≤ 2147483647) (hc : ¬ (¬ a = 0)) (nf : U G X nc ns k (pc + 3) ls st M) : U G X nc ns k pc ls (.int (J a) :: st) M := u_if_ne i tgt hd ht hg (fun h => absurd h hc) (fun _ => nf)
theorem u_if_lt {a : Int} {off : Int} (i tgt : Nat) (hd : k.2.2.2.2.2[i]? = some (pc, .ifCond .lt off, 3)) (ht : (pc : Int) + off = (tgt : Int)) (hg : -2147483648 ≤ a ∧ a ≤ 2147483647) (nt : a < 0 → U G X nc ns k tgt ls st M) (nf : ¬ (a < 0) → U G X nc ns k (pc + 3) ls st M) : U G X nc ns k pc ls (.int (J a) :: st) M := by
  intro p e s m args below meth c C E9 F9 H locs hW hS lsR hl
  obtain ⟨hx, hb, hml, hr, hlk, hown, hts, hK, hdc⟩ := id C
  have hdg := hdc _ (List.mem_of_getElem? hd)
  have q : (J a < 0) ↔ (a < 0) := by rw [J_zero]; exact J_lt ⟨hg, by omega⟩
  refine lv_if_lt hx hb hdg ht (fun h => nt (q.mp h) p e s m args below meth c C E9 F9 H locs hW hS lsR hl) (fun h => nf (fun z => h (q.mpr z)) p e s m args below meth c C E9 F9 H locs hW hS lsR hl)
theorem u_if_ltT {a : Int} {off : Int} (i tgt : Nat) (hd : k.2.2.2.2.2[i]? = some (pc, .ifCond .lt off, 3)) (ht : (pc : Int) + off = (tgt : Int)) (hg : -2147483648 ≤ a ∧ a ≤ 2147483647) (hc : a < 0) (nt : U G X nc ns k tgt ls st M) : U G X nc ns k pc ls (.int (J a) :: st) M := u_if_lt i tgt hd ht hg (fun _ => nt) (fun h => absurd hc h)
theorem u_if_ltF {a : Int} {off : Int} (i tgt : Nat) (hd : k.2.2.2.2.2[i]? = some (pc, .ifCond .lt off, 3)) (ht : (pc : Int) + off = (tgt : Int)) (hg : -2147483648 ≤ a ∧ a ≤ 2147483647) (hc : ¬ (a < 0)) (nf : U G X nc ns k (pc + 3) ls st M) : U G X nc ns k pc ls (.int (J a) :: st) M := u_if_lt i tgt hd ht hg (fun h => absurd h hc) (fun _ => nf)
theorem u_if_ge {a : Int} {off : Int} (i tgt : Nat) (hd : k.2.2.2.2.2[i]? = some (pc, .ifCond .ge off, 3)) (ht : (pc : Int) + off = (tgt : Int)) (hg : -2147483648 ≤ a ∧ a ≤ 2147483647) (nt : 0 ≤ a → U G X nc ns k tgt ls st M) (nf : ¬ (0 ≤ a) → U G X nc ns k (pc + 3) ls st M) : U G X nc ns k pc ls (.int (J a) :: st) M := by
  intro p e s m args below meth c C E9 F9 H locs hW hS lsR hl
  obtain ⟨hx, hb, hml, hr, hlk, hown, hts, hK, hdc⟩ := id C
  have hdg := hdc _ (List.mem_of_getElem? hd)
  have q : (0 ≤ J a) ↔ (0 ≤ a) := by rw [J_zero]; exact J_le ⟨by omega, hg⟩
  refine lv_if_ge hx hb hdg ht (fun h => nt (q.mp h) p e s m args below meth c C E9 F9 H locs hW hS lsR hl) (fun h => nf (fun z => h (q.mpr z)) p e s m args below meth c C E9 F9 H locs hW hS lsR hl)
theorem u_if_geT {a : Int} {off : Int} (i tgt : Nat) (hd : k.2.2.2.2.2[i]? = some (pc, .ifCond .ge off, 3)) (ht : (pc : Int) + off = (tgt : Int)) (hg : -2147483648 ≤ a ∧ a ≤ 2147483647) (hc : 0 ≤ a) (nt : U G X nc ns k tgt ls st M) : U G X nc ns k pc ls (.int (J a) :: st) M := u_if_ge i tgt hd ht hg (fun _ => nt) (fun h => absurd hc h)
theorem u_if_geF {a : Int} {off : Int} (i tgt : Nat) (hd : k.2.2.2.2.2[i]? = some (pc, .ifCond .ge off, 3)) (ht : (pc : Int) + off = (tgt : Int)) (hg : -2147483648 ≤ a ∧ a ≤ 2147483647) (hc : ¬ (0 ≤ a)) (nf : U G X nc ns k (pc + 3) ls st M) : U G X nc ns k pc ls (.int (J a) :: st) M := u_if_ge i tgt hd ht hg (fun h => absurd h hc) (fun _ => nf)
theorem u_if_gt {a : Int} {off : Int} (i tgt : Nat) (hd : k.2.2.2.2.2[i]? = some (pc, .ifCond .gt off, 3)) (ht : (pc : Int) + off = (tgt : Int)) (hg : -2147483648 ≤ a ∧ a ≤ 2147483647) (nt : 0 < a → U G X nc ns k tgt ls st M) (nf : ¬ (0 < a) → U G X nc ns k (pc + 3) ls st M) : U G X nc ns k pc ls (.int (J a) :: st) M := by
  intro p e s m args below meth c C E9 F9 H locs hW hS lsR hl
  obtain ⟨hx, hb, hml, hr, hlk, hown, hts, hK, hdc⟩ := id C
  have hdg := hdc _ (List.mem_of_getElem? hd)
  have q : (0 < J a) ↔ (0 < a) := by rw [J_zero]; exact J_lt ⟨by omega, hg⟩
  refine lv_if_gt hx hb hdg ht (fun h => nt (q.mp h) p e s m args below meth c C E9 F9 H locs hW hS lsR hl) (fun h => nf (fun z => h (q.mpr z)) p e s m args below meth c C E9 F9 H locs hW hS lsR hl)
theorem u_if_gtT {a : Int} {off : Int} (i tgt : Nat) (hd : k.2.2.2.2.2[i]? = some (pc, .ifCond .gt off, 3)) (ht : (pc : Int) + off = (tgt : Int)) (hg : -2147483648 ≤ a ∧ a ≤ 2147483647) (hc : 0 < a) (nt : U G X nc ns k tgt ls st M) : U G X nc ns k pc ls (.int (J a) :: st) M := u_if_gt i tgt hd ht hg (fun _ => nt) (fun h => absurd hc h)
theorem u_if_gtF {a : Int} {off : Int} (i tgt : Nat) (hd : k.2.2.2.2.2[i]? = some (pc, .ifCond .gt off, 3)) (ht : (pc : Int) + off = (tgt : Int)) (hg : -2147483648 ≤ a ∧ a ≤ 2147483647) (hc : ¬ (0 < a)) (nf : U G X nc ns k (pc + 3) ls st M) : U G X nc ns k pc ls (.int (J a) :: st) M := u_if_gt i tgt hd ht hg (fun h => absurd h hc) (fun _ => nf)
theorem u_if_le {a : Int} {off : Int} (i tgt : Nat) (hd : k.2.2.2.2.2[i]? = some (pc, .ifCond .le off, 3)) (ht : (pc : Int) + off = (tgt : Int)) (hg : -2147483648 ≤ a ∧ a ≤ 2147483647) (nt : a ≤ 0 → U G X nc ns k tgt ls st M) (nf : ¬ (a ≤ 0) → U G X nc ns k (pc + 3) ls st M) : U G X nc ns k pc ls (.int (J a) :: st) M := by
  intro p e s m args below meth c C E9 F9 H locs hW hS lsR hl
  obtain ⟨hx, hb, hml, hr, hlk, hown, hts, hK, hdc⟩ := id C
  have hdg := hdc _ (List.mem_of_getElem? hd)
  have q : (J a ≤ 0) ↔ (a ≤ 0) := by rw [J_zero]; exact J_le ⟨hg, by omega⟩
  refine lv_if_le hx hb hdg ht (fun h => nt (q.mp h) p e s m args below meth c C E9 F9 H locs hW hS lsR hl) (fun h => nf (fun z => h (q.mpr z)) p e s m args below meth c C E9 F9 H locs hW hS lsR hl)
theorem u_if_leT {a : Int} {off : Int} (i tgt : Nat) (hd : k.2.2.2.2.2[i]? = some (pc, .ifCond .le off, 3)) (ht : (pc : Int) + off = (tgt : Int)) (hg : -2147483648 ≤ a ∧ a ≤ 2147483647) (hc : a ≤ 0) (nt : U G X nc ns k tgt ls st M) : U G X nc ns k pc ls (.int (J a) :: st) M := u_if_le i tgt hd ht hg (fun _ => nt) (fun h => absurd hc h)
theorem u_if_leF {a : Int} {off : Int} (i tgt : Nat) (hd : k.2.2.2.2.2[i]? = some (pc, .ifCond .le off, 3)) (ht : (pc : Int) + off = (tgt : Int)) (hg : -2147483648 ≤ a ∧ a ≤ 2147483647) (hc : ¬ (a ≤ 0)) (nf : U G X nc ns k (pc + 3) ls st M) : U G X nc ns k pc ls (.int (J a) :: st) M := u_if_le i tgt hd ht hg (fun h => absurd h hc) (fun _ => nf)
theorem u_ic_eq {a b : Int} {off : Int} (i tgt : Nat) (hd : k.2.2.2.2.2[i]? = some (pc, .if_icmp .eq off, 3)) (ht : (pc : Int) + off = (tgt : Int)) (hg : (-2147483648 ≤ a ∧ a ≤ 2147483647) ∧ (-2147483648 ≤ b ∧ b ≤ 2147483647)) (nt : a = b → U G X nc ns k tgt ls st M) (nf : ¬ (a = b) → U G X nc ns k (pc + 3) ls st M) : U G X nc ns k pc ls (.int (J b) :: .int (J a) :: st) M := by
  intro p e s m args below meth c C E9 F9 H locs hW hS lsR hl
  obtain ⟨hx, hb, hml, hr, hlk, hown, hts, hK, hdc⟩ := id C
  have hdg := hdc _ (List.mem_of_getElem? hd)
  have q : (J a = J b) ↔ (a = b) := J_inj hg
  refine lv_icmp_eq hx hb hdg ht (fun h => nt (q.mp h) p e s m args below meth c C E9 F9 H locs hW hS lsR hl) (fun h => nf (fun z => h (q.mpr z)) p e s m args below meth c C E9 F9 H locs hW hS lsR hl)
theorem u_ic_eqT {a b : Int} {off : Int} (i tgt : Nat) (hd : k.2.2.2.2.2[i]? = some (pc, .if_icmp .eq off, 3)) (ht : (pc : Int) + off = (tgt : Int)) (hg : (-2147483648 ≤ a ∧ a ≤ 2147483647) ∧ (-2147483648 ≤ b ∧ b ≤ 2147483647)) (hc : a = b) (nt : U G X nc ns k tgt ls st M) : U G X nc ns k pc ls (.int (J b) :: .int (J a) :: st) M := u_ic_eq i tgt hd ht hg (fun _ => nt) (fun h => absurd hc h)
theorem u_ic_eqF {a b : Int} {off : Int} (i tgt : Nat) (hd : k.2.2.2.2.2[i]? = some (pc, .if_icmp .eq off, 3)) (ht : (pc : Int) + off = (tgt : Int)) (hg : (-2147483648 ≤ a ∧ a ≤ 2147483647) ∧ (-2147483648 ≤ b ∧ b ≤ 2147483647)) (hc : ¬ (a = b)) (nf : U G X nc ns k (pc + 3) ls st M) : U G X nc ns k pc ls (.int (J b) :: .int (J a) :: st) M := u_ic_eq i tgt hd ht hg (fun h => absurd h hc) (fun _ => nf)
theorem u_ic_ne {a b : Int} {off : Int} (i tgt : Nat) (hd : k.2.2.2.2.2[i]? = some (pc, .if_icmp .ne off, 3)) (ht : (pc : Int) + off = (tgt : Int)) (hg : (-2147483648 ≤ a ∧ a ≤ 2147483647) ∧ (-2147483648 ≤ b ∧ b ≤ 2147483647)) (nt : ¬ a = b → U G X nc ns k tgt ls st M) (nf : ¬ (¬ a = b) → U G X nc ns k (pc + 3) ls st M) : U G X nc ns k pc ls (.int (J b) :: .int (J a) :: st) M := by
  intro p e s m args below meth c C E9 F9 H locs hW hS lsR hl
  obtain ⟨hx, hb, hml, hr, hlk, hown, hts, hK, hdc⟩ := id C
  have hdg := hdc _ (List.mem_of_getElem? hd)
  have q : (J a = J b) ↔ (a = b) := J_inj hg
  refine lv_icmp_ne hx hb hdg ht (fun h => nt (fun z => h (q.mpr z)) p e s m args below meth c C E9 F9 H locs hW hS lsR hl) (fun h => nf (fun z => z (q.mp h)) p e s m args below meth c C E9 F9 H locs hW hS lsR hl)
theorem u_ic_neT {a b : Int} {off : Int} (i tgt : Nat) (hd : k.2.2.2.2.2[i]? = some (pc, .if_icmp .ne off, 3)) (ht : (pc : Int) + off = (tgt : Int)) (hg : (-2147483648 ≤ a ∧ a ≤ 2147483647) ∧ (-2147483648 ≤ b ∧ b ≤ 2147483647)) (hc : ¬ a = b) (nt : U G X nc ns k tgt ls st M) : U G X nc ns k pc ls (.int (J b) :: .int (J a) :: st) M := u_ic_ne i tgt hd ht hg (fun _ => nt) (fun h => absurd hc h)
theorem u_ic_neF {a b : Int} {off : Int} (i tgt : Nat) (hd : k.2.2.2.2.2[i]? = some (pc, .if_icmp .ne off, 3)) (ht : (pc : Int) + off = (tgt : Int)) (hg : (-2147483648 ≤ a ∧ a ≤ 2147483647) ∧ (-2147483648 ≤ b ∧ b ≤ 2147483647)) (hc : ¬ (¬ a = b)) (nf : U G X nc ns k (pc + 3) ls st M) : U G X nc ns k pc ls (.int (J b) :: .int (J a) :: st) M := u_ic_ne i tgt hd ht hg (fun h => absurd h hc) (fun _ => nf)
theorem u_ic_lt {a b : Int} {off : Int} (i tgt : Nat) (hd : k.2.2.2.2.2[i]? = some (pc, .if_icmp .lt off, 3)) (ht : (pc : Int) + off = (tgt : Int)) (hg : (-2147483648 ≤ a ∧ a ≤ 2147483647) ∧ (-2147483648 ≤ b ∧ b ≤ 2147483647)) (nt : a < b → U G X nc ns k tgt ls st M) (nf : ¬ (a < b) → U G X nc ns k (pc + 3) ls st M) : U G X nc ns k pc ls (.int (J b) :: .int (J a) :: st) M := by
  intro p e s m args below meth c C E9 F9 H locs hW hS lsR hl
  obtain ⟨hx, hb, hml, hr, hlk, hown, hts, hK, hdc⟩ := id C
  have hdg := hdc _ (List.mem_of_getElem? hd)
  have q : (J a < J b) ↔ (a < b) := J_lt hg
  refine lv_icmp_lt hx hb hdg ht (fun h => nt (q.mp h) p e s m args below meth c C E9 F9 H locs hW hS lsR hl) (fun h => nf (fun z => h (q.mpr z)) p e s m args below meth c C E9 F9 H locs hW hS lsR hl)
theorem u_ic_ltT {a b : Int} {off : Int} (i tgt : Nat) (hd : k.2.2.2.2.2[i]? = some (pc, .if_icmp .lt off, 3)) (ht : (pc : Int) + off = (tgt : Int)) (hg : (-2147483648 ≤ a ∧ a ≤ 2147483647) ∧ (-2147483648 ≤ b ∧ b ≤ 2147483647)) (hc : a < b) (nt : U G X nc ns k tgt ls st M) : U G X nc ns k pc ls (.int (J b) :: .int (J a) :: st) M := u_ic_lt i tgt hd ht hg (fun _ => nt) (fun h => absurd hc h)
theorem u_ic_ltF {a b : Int} {off : Int} (i tgt : Nat) (hd : k.2.2.2.2.2[i]? = some (pc, .if_icmp .lt off, 3)) (ht : (pc : Int) + off = (tgt : Int)) (hg : (-2147483648 ≤ a ∧ a ≤ 2147483647) ∧ (-2147483648 ≤ b ∧ b ≤ 2147483647)) (hc : ¬ (a < b)) (nf : U G X nc ns k (pc + 3) ls st M) : U G X nc ns k pc ls (.int (J b) :: .int (J a) :: st) M := u_ic_lt i tgt hd ht hg (fun h => absurd h hc) (fun _ => nf)
theorem u_ic_ge {a b : Int} {off : Int} (i tgt : Nat) (hd : k.2.2.2.2.2[i]? = some (pc, .if_icmp .ge off, 3)) (ht : (pc : Int) + off = (tgt : Int)) (hg : (-2147483648 ≤ a ∧ a ≤ 2147483647) ∧ (-2147483648 ≤ b ∧ b ≤ 2147483647)) (nt : b ≤ a → U G X nc ns k tgt ls st M) (nf : ¬ (b ≤ a) → U G X nc ns k (pc + 3) ls st M) : U G X nc ns k pc ls (.int (J b) :: .int (J a) :: st) M := by
  intro p e s m args below meth c C E9 F9 H locs hW hS lsR hl
  obtain ⟨hx, hb, hml, hr, hlk, hown, hts, hK, hdc⟩ := id C
  have hdg := hdc _ (List.mem_of_getElem? hd)
  have q : (J b ≤ J a) ↔ (b ≤ a) := J_le ⟨hg.2, hg.1⟩
  refine lv_icmp_ge hx hb hdg ht (fun h => nt (q.mp h) p e s m args below meth c C E9 F9 H locs hW hS lsR hl) (fun h => nf (fun z => h (q.mpr z)) p e s m args below meth c C E9 F9 H locs hW hS lsR hl)
theorem u_ic_geT {a b : Int} {off : Int} (i tgt : Nat) (hd : k.2.2.2.2.2[i]? = some (pc, .if_icmp .ge off, 3)) (ht : (pc : Int) + off = (tgt : Int)) (hg : (-2147483648 ≤ a ∧ a ≤ 2147483647) ∧ (-2147483648 ≤ b ∧ b ≤ 2147483647)) (hc : b ≤ a) (nt : U G X nc ns k tgt ls st M) : U G X nc ns k pc ls (.int (J b) :: .int (J a) :: st) M := u_ic_ge i tgt hd ht hg (fun _ => nt) (fun h => absurd hc h)
theorem u_ic_geF {a b : Int} {off : Int} (i tgt : Nat) (hd : k.2.2.2.2.2[i]? = some (pc, .if_icmp .ge off, 3)) (ht : (pc : Int) + off = (tgt : Int)) (hg : (-2147483648 ≤ a ∧ a ≤ 2147483647) ∧ (-2147483648 ≤ b ∧ b ≤ 2147483647)) (hc : ¬ (b ≤ a)) (nf : U G X nc ns k (pc + 3) ls st M) : U G X nc ns k pc ls (.int (J b) :: .int (J a) :: st) M := u_ic_ge i tgt hd ht hg (fun h => absurd h hc) (fun _ => nf)
theorem u_ic_gt {a b : Int} {off : Int} (i tgt : Nat) (hd : k.2.2.2.2.2[i]? = some (pc, .if_icmp .gt off, 3)) (ht : (pc : Int) + off = (tgt : Int)) (hg : (-2147483648 ≤ a ∧ a ≤ 2147483647) ∧ (-2147483648 ≤ b ∧ b ≤ 2147483647)) (nt : b < a → U G X nc ns k tgt ls st M) (nf : ¬ (b < a) → U G X nc ns k (pc + 3) ls st M) : U G X nc ns k pc ls (.int (J b) :: .int (J a) :: st) M := by
  intro p e s m args below meth c C E9 F9 H locs hW hS lsR hl
  obtain ⟨hx, hb, hml, hr, hlk, hown, hts, hK, hdc⟩ := id C
  have hdg := hdc _ (List.mem_of_getElem? hd)
  have q : (J b < J a) ↔ (b < a) := J_lt ⟨hg.2, hg.1⟩
  refine lv_icmp_gt hx hb hdg ht (fun h => nt (q.mp h) p e s m args below meth c C E9 F9 H locs hW hS lsR hl) (fun h => nf (fun z => h (q.mpr z)) p e s m args below meth c C E9 F9 H locs hW hS lsR hl)
theorem u_ic_gtT {a b : Int} {off : Int} (i tgt : Nat) (hd : k.2.2.2.2.2[i]? = some (pc, .if_icmp .gt off, 3)) (ht : (pc : Int) + off = (tgt : Int)) (hg : (-2147483648 ≤ a ∧ a ≤ 2147483647) ∧ (-2147483648 ≤ b ∧ b ≤ 2147483647)) (hc : b < a) (nt : U G X nc ns k tgt ls st M) : U G X nc ns k pc ls (.int (J b) :: .int (J a) :: st) M := u_ic_gt i tgt hd ht hg (fun _ => nt) (fun h => absurd hc h)
theorem u_ic_gtF {a b : Int} {off : Int} (i tgt : Nat) (hd : k.2.2.2.2.2[i]? = some (pc, .if_icmp .gt off, 3)) (ht : (pc : Int) + off = (tgt : Int)) (hg : (-2147483648 ≤ a ∧ a ≤ 2147483647) ∧ (-2147483648 ≤ b ∧ b ≤ 2147483647)) (hc : ¬ (b < a)) (nf : U G X nc ns k (pc + 3) ls st M) : U G X nc ns k pc ls (.int (J b) :: .int (J a) :: st) M := u_ic_gt i tgt hd ht hg (fun h => absurd h hc) (fun _ => nf)
theorem u_ic_le {a b : Int} {off : Int} (i tgt : Nat) (hd : k.2.2.2.2.2[i]? = some (pc, .if_icmp .le off, 3)) (ht : (pc : Int) + off = (tgt : Int)) (hg : (-2147483648 ≤ a ∧ a ≤ 2147483647) ∧ (-2147483648 ≤ b ∧ b ≤ 2147483647)) (nt : a ≤ b → U G X nc ns k tgt ls st M) (nf : ¬ (a ≤ b) → U G X nc ns k (pc + 3) ls st M) : U G X nc ns k pc ls (.int (J b) :: .int (J a) :: st) M := by
  intro p e s m args below meth c C E9 F9 H locs hW hS lsR hl
  obtain ⟨hx, hb, hml, hr, hlk, hown, hts, hK, hdc⟩ := id C
  have hdg := hdc _ (List.mem_of_getElem? hd)
  have q : (J a ≤ J b) ↔ (a ≤ b) := J_le hg
  refine lv_icmp_le hx hb hdg ht (fun h => nt (q.mp h) p e s m args below meth c C E9 F9 H locs hW hS lsR hl) (fun h => nf (fun z => h (q.mpr z)) p e s m args below meth c C E9 F9 H locs hW hS lsR hl)
theorem u_ic_leT {a b : Int} {off : Int} (i tgt : Nat) (hd : k.2.2.2.2.2[i]? = some (pc, .if_icmp .le off, 3)) (ht : (pc : Int) + off = (tgt : Int)) (hg : (-2147483648 ≤ a ∧ a ≤ 2147483647) ∧ (-2147483648 ≤ b ∧ b ≤ 2147483647)) (hc : a ≤ b) (nt : U G X nc ns k tgt ls st M) : U G X nc ns k pc ls (.int (J b) :: .int (J a) :: st) M := u_ic_le i tgt hd ht hg (fun _ => nt) (fun h => absurd hc h)
theorem u_ic_leF {a b : Int} {off : Int} (i tgt : Nat) (hd : k.2.2.2.2.2[i]? = some (pc, .if_icmp .le off, 3)) (ht : (pc : Int) + off = (tgt : Int)) (hg : (-2147483648 ≤ a ∧ a ≤ 2147483647) ∧ (-2147483648 ≤ b ∧ b ≤ 2147483647)) (hc : ¬ (a ≤ b)) (nf : U G X nc ns k (pc + 3) ls st M) : U G X nc ns k pc ls (.int (J b) :: .int (J a) :: st) M := u_ic_le i tgt hd ht hg (fun h => absurd h hc) (fun _ => nf)
theorem u_goto {off : Int} (i tgt : Nat) (hd : k.2.2.2.2.2[i]? = some (pc, .goto off, 3)) (ht : (pc : Int) + off = (tgt : Int)) (n : U G X nc ns k tgt ls st M) : U G X nc ns k pc ls st M := by
  intro p e s m args below meth c C E9 F9 H locs hW hS lsR hl
  obtain ⟨hx, hb, hml, hr, hlk, hown, hts, hK, hdc⟩ := id C
  have hdg := hdc _ (List.mem_of_getElem? hd)
  have n9 := n p e s m args below meth c C E9 F9 H locs hW hS lsR hl
  exact lv_goto hx hb hdg ht n9
theorem u_tswIn {a lo hi dflt off : Int} {offs : Array Int} {len : Nat} (i tgt : Nat) (hd : k.2.2.2.2.2[i]? = some (pc, .tableswitch dflt lo hi offs, len)) (hg : (-2147483648 ≤ a ∧ a ≤ 2147483647) ∧ lo ≤ a ∧ a ≤ hi) (ho : offs[(a - lo).toNat]? = some off) (ht : (pc : Int) + off = (tgt : Int)) (n : U G X nc ns k tgt ls st M) : U G X nc ns k pc ls (.int (J a) :: st) M := by
  intro p e s m args below meth c C E9 F9 H locs hW hS lsR hl
  obtain ⟨hx, hb, hml, hr, hlk, hown, hts, hK, hdc⟩ := id C
  have hdg := hdc _ (List.mem_of_getElem? hd)
  have n9 := n p e s m args below meth c C E9 F9 H locs hW hS lsR hl
  exact lv_tableIn hx hb hdg (by rw [J_toInt hg.1]; omega) (by rw [J_toInt hg.1]; omega) (by rw [J_toInt hg.1]; exact ho) ht n9
theorem u_tswOut {a lo hi dflt : Int} {offs : Array Int} {len : Nat} (i tgt : Nat) (hd : k.2.2.2.2.2[i]? = some (pc, .tableswitch dflt lo hi offs, len)) (hg : (-2147483648 ≤ a ∧ a ≤ 2147483647) ∧ (a < lo ∨ hi < a)) (ht : (pc : Int) + dflt = (tgt : Int)) (n : U G X nc ns k tgt ls st M) : U G X nc ns k pc ls (.int (J a) :: st) M := by
  intro p e s m args below meth c C E9 F9 H locs hW hS lsR hl
  obtain ⟨hx, hb, hml, hr, hlk, hown, hts, hK, hdc⟩ := id C
  have hdg := hdc _ (List.mem_of_getElem? hd)
  have n9 := n p e s m args below meth c C E9 F9 H locs hW hS lsR hl
  exact lv_tableOut hx hb hdg (by rw [J_toInt hg.1]; exact hg.2) ht n9
theorem u_lsw {a dflt off : Int} {ps : Array (Int × Int)} {len : Nat} (i tgt : Nat) (hd : k.2.2.2.2.2[i]? = some (pc, .lookupswitch dflt ps, len)) (hg : -2147483648 ≤ a ∧ a ≤ 2147483647) (hp : (ps.toList.zip (ps.toList.drop 1)).all (fun (a, next) => a.1 < next.1) = true) (ho : Op.lookupswitch.offset ps.toList dflt a = off) (ht : (pc : Int) + off = (tgt : Int)) (n : U G X nc ns k tgt ls st M) : U G X nc ns k pc ls (.int (J a) :: st) M := by
  intro p e s m args below meth c C E9 F9 H locs hW hS lsR hl
  obtain ⟨hx, hb, hml, hr, hlk, hown, hts, hK, hdc⟩ := id C
  have hdg := hdc _ (List.mem_of_getElem? hd)
  have n9 := n p e s m args below meth c C E9 F9 H locs hW hS lsR hl
  exact lv_lookup hx hb hdg hp (by rw [J_toInt hg]; exact ho) ht n9
theorem u_wide {nc2 ns2 : Nat} (h1 : nc ≤ nc2) (h2 : ns ≤ ns2) (n : U G X nc2 ns2 k pc ls st M) : U G X nc ns k pc ls st M := by
  intro p e s m args below meth c C E9 F9 H locs hW hS lsR hl
  exact W.widen h1 h2 (n p e s m args below meth c C E9 F9 H locs hW hS lsR hl)
theorem Kx.s9 {s U : State} {H : Heap} {locs : List Loc} (hK : Kx G s s.heap) (hw : s.WarmedH U.vm) (hA : ∀ a : Nat, a < s.heap.size → ¬ gA G a → H[a]? = s.heap[a]?) : Kx G U H := hK.warm hw hA
theorem u_lald {z : Int} {a n0 : Nat} (i : Nat) (hd : k.2.2.2.2.2[i]? = some (pc, .laload, 1)) (hs : shL[a]? = some (.inl (.long, n0))) (hz : 0 ≤ z ∧ z < (n0 : Int) ∧ z ≤ 2147483647) (n : U G X nc ns k (pc + 1) ls (.long (gL M a z.toNat) :: st) M) : U G X nc ns k pc ls (.int (J z) :: .ref a :: st) M := by
  intro p e s m args below meth c C E9 F9 H locs hW hS lsR hl
  obtain ⟨hx, hb, hml, hr, hlk, hown, hts, hK, hdc⟩ := id C
  have hdg := hdc _ (List.mem_of_getElem? hd)
  have n9 := n p e s m args below meth c C E9 F9 H locs hW hS lsR hl
  rw [← J_clamp (a := z) (by omega)] at n9
  exact va_lald (f := fun j => gL M a j) hx hb hK.1 hW a 2 (ws_arr hs) rfl (J_in hz) hdg n9
theorem wsD9 {A : Nat → Prop} (hA : ∀ q, gA G q → A q) (h : ∀ i j : Nat, i < nC → j < nC → ga G i = ga G j → i = j) : va_D A (wsO G M) := ⟨(wsD G M h).1, fun k q hk => hA _ ((wsD G M h).2 k q hk)⟩
theorem u_last {z : Int} {v : Int64} {a n0 : Nat} (i : Nat) (hd : k.2.2.2.2.2[i]? = some (pc, .lastore, 1)) (hs : shL[a]? = some (.inl (.long, n0))) (hz : 0 ≤ z ∧ z < (n0 : Int) ∧ z ≤ 2147483647) (n : U G X nc ns k (pc + 1) ls st (sL M a z.toNat v)) : U G X nc ns k pc ls (.long v :: .int (J z) :: .ref a :: st) M := by
  intro p e s m args below meth c C E9 F9 H locs hW hS lsR hl
  obtain ⟨hx, hb, hml, hr, hlk, hown, hts, hK, hdc⟩ := id C
  have hdg := hdc _ (List.mem_of_getElem? hd)
  refine va_last (f := fun j => gL M a j) hx hb hK.1 hW (wsD9 F9 hK.2.1) hS a 2 (ws_arr hs) rfl (J_in hz) hdg (fun H1 locs1 p1 d1 s1 => ?_)
  have e9 : vp_updL (fun j => gL M a j) (J z).toNatClampNeg v = fun j => gL (sL M a z.toNat v) a j := by
    funext j
    rw [J_clamp (by omega), gL_sL, if_pos rfl]
    unfold vp_updL
    split <;> rfl
  have hset : (wsO G M).set a (ga G a, .inl (gc G .long, n0, .inr (.inl (fun j => gL (sL M a z.toNat v) a j)))) = wsO G (sL M a z.toNat v) := ws_set (sh_lt hs) (eC_arr hs) (fun b _ => rfl) (fun b hb => gL_sL_ne hb) (fun b _ => rfl)
  rw [e9, hset] at p1
  exact n p e s m args below meth c C E9 F9 H1 locs1 p1 s1 lsR hl
theorem u_back {Q2 : Option Value → Mem → Prop} {mc ms : Nat} {rest : List Value} {p : Program} {e : Env} {s : State} {m : MethodId} {args : Array Value} {below : List Frame} {meth : Method} {c : Code} {H : Heap} {locs : List Loc} {lsR : Array Slot} {st0 : List Value} {a9 : Array Value}
    (C : Cx G k p s m args meth c) (E9 : X.2.2.2 p e s m args below meth c) (F9 : ∀ q, gA G q → X.2.2.1 s q) (hS : va_S (X.2.2.1 s) s.heap H locs) (hl : LvOk (ga G) k.2.2.2.1 lsR ls)
    (hrun : va_Run p (gl G) e X.1 s m args below meth c H locs nc ns mc ms (F0 m pc lsR st0) (rest.map (rv (ga G))) (QV G Q2 a9) (gA G))
    (nx : ∀ r N, Q2 r N → U G X (nc + mc) (ns + ms) k (pc + 3) ls (r.toList ++ rest) N) :
    W p (gl G) e X.1 s m args below meth c H locs nc ns (X.2.1 below args s) (F0 m pc lsR st0) := by
  intro T hT X9
  obtain ⟨v, st₀, t, T', L, h0, X', hL, e1, e2, ⟨⟨r, N, hv, hq, hwd⟩, hz, hkp⟩, stp⟩ := hrun T hT X9
  have hv1 : v = r.map (rv (ga G)) := by injection hv
  rw [h0] at hz hkp
  have hS1 : va_S (X.2.2.1 s) s.heap T'.heap (locs ++ L) := by
    refine ⟨Nat.le_trans hS.1 (by rw [e1]; exact hz), fun q h1 h2 => ?_, fun q hq9 => ?_⟩
    · rw [e1, hkp q (Nat.lt_of_lt_of_le h1 hS.1) (fun z => h2 (F9 q z))]; exact hS.2.1 q h1 h2
    · rcases List.mem_append.mp hq9 with h | h
      · exact hS.2.2 q h
      · exact F9 _ (hL q h)
  obtain ⟨t2, a1, b1⟩ := nx r N hq p e s m args below meth c C E9 F9 T'.heap (locs ++ L) (by rw [e1]; exact hwd) hS1 lsR hl T' rfl X'
  refine ⟨t2, stp _ ?_, b1⟩
  have e3 : (r.toList ++ rest).map (rv (ga G)) = v.toList ++ rest.map (rv (ga G)) := by
    rw [hv1, List.map_append]
    cases r <;> rfl
  rw [e3] at a1
  exact a1
/-- what is known of the start goes on: the frame's own area may hold more than the world -/
def Kz (G : Gt) (A : State → Nat → Prop) : Prop := ∀ (s U : State) (H : Heap) (locs : List Loc), Kx G s s.heap → s.WarmedH U.vm → va_S (A s) s.heap H locs → Kx G U H
theorem u_callV {k2 : Mth} {ci n x b : Nat} {As rest : List Value} {Q2 : Option Value → Mem → Prop} (i : Nat) (hd : k.2.2.2.2.2[i]? = some (pc, .invokevirtual x, 3)) (hc : CV k.1 x k2 ci n) (hn : As.length = n) (hs : shL[b]? = some (.inr ci)) (hr : (rest.map fun v => v.category).sum ≤ 8) (hlen : (entL (.ref b :: As)).length ≤ k2.2.2.2.1)
    (hz : Kz G X.2.2.1) (hR : (d + 1 ≤ X.1.frames ∧ 64 * (d + 1) ≤ X.1.locals) ∧ nc ≤ X.1.cells ∧ ns ≤ X.1.slots)
    (hV : V G d k2 0 (ent k2.2.2.2.1 (.ref b :: As)) [] M Q2) (nx : ∀ r N, Q2 r N → U G X nc ns k (pc + 3) ls (r.toList ++ rest) N) : U G X nc ns k pc ls (As.reverse ++ .ref b :: rest) M := by
  intro p e s m args below meth c C E9 F9 H locs hW hS lsR hl
  obtain ⟨hx, hb, hml, hr9, hlk, hown, hts, hK, hdc⟩ := id C
  have hdg := hdc _ (List.mem_of_getElem? hd)
  obtain ⟨hM, ⟨T9, N9, hcl⟩, w1, w2, w3, w4⟩ := hc
  have hmet := V.met hM hlen hV
  have hst : (As.reverse ++ .ref b :: rest).map (rv (ga G)) = (As.map (rv (ga G))).reverse ++ .ref (ga G b) :: rest.map (rv (ga G)) := by
    rw [List.map_append, List.map_reverse]; rfl
  have hcw : CallW X.1 s args k.1 k2.1 x k2.2.1 k2.2.2.1 k2.2.2.2.1 k2.2.2.2.2.1 (wsK k2) (rmD d) 0 0 n := by
    refine cwV n hts (gi_tb ?_) rfl rfl rfl ⟨hM.2.1, hM.2.2.2.2.2.1.1, hM.2.2.2.2.2.1.2, w4⟩ ⟨hR.1.1, ?_⟩
    · intro w hw
      unfold wsV at hw
      rcases List.mem_append.mp hw with h | h
      · simp only [List.mem_cons, List.not_mem_nil, or_false] at h
        rcases h with rfl | rfl | rfl | rfl
        · exact w1
        · exact w2
        · exact w3
        · exact hM.2.2.2.2.1
      · exact wsK_in hM w h
    · have := hM.2.2.2.2.2.2
      have := hR.1.2
      show 8 + (k2.2.2.2.1 + 11) + 64 * d ≤ X.1.locals
      omega
  rw [hst]
  refine u_back (mc := 0) (ms := 0) C E9 F9 hS hl (va_runV (As := As.map (rv (ga G))) (rest := rest.map (rv (ga G))) ⟨hx, hb, hml, hown, hts⟩ hmet hcw ⟨PcK_blind G _ M, va_recv hK.1 hW hcl (ws_obj hs), fun U hU hw => ⟨rfl, by rw [hU]; exact hW, ?_⟩⟩ rfl (by rw [List.length_map]; exact hn) hl.1 rfl (lv_room (by rw [cat_map]; exact hr)) hdg ⟨hR.2.1, hR.2.2⟩) nx
  rw [hU]
  exact hz s U H locs hK hw hS
end URules
