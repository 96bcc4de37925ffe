/-! 80: the making of the world: frames over a growing list of cells -/
abbrev Bg : Type := Launch × va_G × (FieldType → ClassId) × Nat
def bT (g : Bg) : List (ClassId × FieldType) := [(g.2.2.1 .int, .int), (g.2.2.1 .byte, .byte), (g.2.2.1 .long, .long), (g.2.2.1 .boolean, .boolean)]
def bA (g : Bg) : Nat → Prop := fun q => g.2.2.2 ≤ q
def nestL : List (String × Nat × MethodName) := [(RX9, 22, yX8_init), (RX1, 20, yX7_init), (RX6, 17, yX7_init)]
def Nst (U : State) : Prop := ∀ q ∈ nestL, va_Nw (.methodLinkNest q.1 q.2.1 q.2.2 "SisterCourts") U
theorem Nst.warm {s U : State} (hW : s.WarmedH U.vm) (h : Nst s) : Nst U := fun q hq => va_Nw.warmM hW (h q hq)
theorem Nst.same {s U : State} (hv : s.vm = U.vm) (h : Nst s) : Nst U := fun q hq => va_Nw.same rfl hv (h q hq)
def BxC (g : Bg) (k : Mth) (p : Program) (s : State) (m : MethodId) (args : Array Value) (meth : Method) (c : Code) : Prop :=
  p.tables.exec = Jvm.exec ∧ c.code = k.2.2.1 ∧ c.maxLocals = k.2.2.2.1 ∧ meth.sig.returnType = k.2.2.2.2.1 ∧ meth.locks = false ∧ s.vm.findClass k.1 = some m.cls ∧ (∀ w ∈ tb, w.before args s = true) ∧ (va_K g.2.1 clX (bT g) s ∧ Nst s) ∧ g.2.2.2 ≤ s.heap.size ∧ (k.2.1.name = "<init>" → meth.name = "<init>") ∧ ∀ q ∈ k.2.2.2.2.2, decode k.2.2.1 q.1 = .ok (q.2.1, q.2.2)
abbrev BX : Type := Room × (List Frame → Array Value → State → State → Prop) × (Program → Env → State → MethodId → Array Value → List Frame → Method → Code → Prop)
def BJ (g : Bg) (X : BX) (nc ns : Nat) (k : Mth) (pc : Nat) (ls : List (Option Value)) (st : List Value) (ws : va_W) : Prop :=
  ∀ (p : Program) (e : Env) (s : State) (m : MethodId) (args : Array Value) (below : List Frame) (meth : Method) (c : Code), BxC g k p s m args meth c → X.2.2 p e s m args below meth c →
    ∀ (H : Heap) (locs : List Loc), va_P g.2.1 clX ws H → va_D (bA g) ws → va_S (bA g) s.heap H locs → ∀ lsR : Array Slot, LvOk id k.2.2.2.1 lsR ls →
      W p g.1 e X.1 s m args below meth c H locs nc ns (X.2.1 below args s) (F0 m pc lsR st)
def QB (g : Bg) (Q : va_W → Prop) : Array Value → State → Outcome → State → Prop := fun _ st oc t =>
  (∃ ws : va_W, oc = .returned none ∧ Q ws ∧ va_P g.2.1 clX ws t.heap ∧ va_D (bA g) ws) ∧ va_F (bA g) st t
def rmB (d mc ms : Nat) : Room := { frames := d, cells := mc, slots := ms, locals := 64 * d }
def XB (g : Bg) (d mc ms : Nat) (Q : va_W → Prop) : BX := (rmB d mc ms, fun below args s => MQ below (QB g Q) args s mc ms (bA g), fun _ _ _ _ _ _ _ _ => True)
theorem va_P.perm {D : va_G} {ws ws' : va_W} {H : Heap} (h : ws.Perm ws') (hP : va_P D clX ws H) : va_P D clX ws' H := fun k q hk => by
  obtain ⟨j, hj⟩ := List.getElem?_of_mem (h.mem_iff.mpr (List.mem_of_getElem? hk))
  exact hP j q hj
theorem bD_iff {A : Nat → Prop} {ws : va_W} : va_D A ws ↔ (ws.map Prod.fst).Nodup ∧ ∀ q ∈ ws, A q.1 := by
  constructor
  · intro h
    refine ⟨List.pairwise_iff_getElem.mpr (fun i j hi hj hij e => ?_), fun q hq => ?_⟩
    · have hi2 : i < ws.length := by rw [List.length_map] at hi; exact hi
      have hj2 : j < ws.length := by rw [List.length_map] at hj; exact hj
      rw [List.getElem_map, List.getElem_map] at e
      have := h.1 i j _ _ (List.getElem?_eq_getElem hi2) (List.getElem?_eq_getElem hj2) e
      omega
    · obtain ⟨j, hj⟩ := List.getElem?_of_mem hq
      exact h.2 j q hj
  · intro h
    refine ⟨fun i j p q hi hj e => ?_, fun k q hk => h.2 q (List.mem_of_getElem? hk)⟩
    obtain ⟨hi1, hi2⟩ := List.getElem?_eq_some_iff.mp hi
    obtain ⟨hj1, hj2⟩ := List.getElem?_eq_some_iff.mp hj
    have hp := List.pairwise_iff_getElem.mp h.1
    have hn : ∀ (i j : Nat) (hi : i < ws.length) (hj : j < ws.length), i < j → ws[i].1 ≠ ws[j].1 := fun i j hi hj hij => by
      have := hp i j (by rw [List.length_map]; exact hi) (by rw [List.length_map]; exact hj) hij
      rw [List.getElem_map, List.getElem_map] at this
      exact this
    rcases Nat.lt_trichotomy i j with h1 | h1 | h1
    · exact absurd (by rw [hi2, hj2]; exact e) (hn i j hi1 hj1 h1)
    · exact h1
    · exact absurd (by rw [hi2, hj2]; exact e.symm) (hn j i hj1 hi1 h1)
theorem va_D.perm {A : Nat → Prop} {ws ws' : va_W} (h : ws.Perm ws') (hD : va_D A ws) : va_D A ws' := by
  rw [bD_iff] at hD ⊢
  exact ⟨((h.map Prod.fst).nodup_iff).mp hD.1, fun q hq => hD.2 q (h.mem_iff.mpr hq)⟩
theorem rv_id (v : Value) : rv id v = v := by cases v <;> rfl
theorem map_rv_id (As : List Value) : As.map (rv id) = As := by
  induction As with
  | nil => rfl
  | cons a As ih => rw [List.map_cons, ih, rv_id]
def dfs (ci N : Nat) : List Value := (List.range N).map (fun j => defaultValue (tyL.getD ci (fun _ => .int) j))
theorem dfs_at {ci N j : Nat} (hj : j < N) : defaultValue (tyL.getD ci (fun _ => .int) j) = vp_V (dfs ci N) j := by
  unfold vp_V dfs
  simp [hj]
section BRules
variable {g : Bg} {X : BX} {nc ns : Nat} {k : Mth} {pc : Nat} {ls : List (Option Value)} {st : List Value} {ws : va_W}
theorem b_perm {ws' : va_W} (h : ws.Perm ws') (n : BJ g X nc ns k pc ls st ws') : BJ g X nc ns k pc ls st ws := fun p e s m args below meth c C E H locs hP hD hS lsR hl => n p e s m args below meth c C E H locs (hP.perm h) (hD.perm h) hS lsR hl
theorem b_aload_n {x : Nat} {f : Fin 4} (i : Nat) (hd : k.2.2.2.2.2[i]? = some (pc, .aload_n f, 1)) (hv : ls[(f : Nat)]? = some (some (.ref x))) (n : BJ g X nc ns k (pc + 1) ls (.ref x :: st) ws) : BJ g X nc ns k pc ls st ws := by
  intro p e s m args below meth c C E H locs hP hD hS lsR hl
  obtain ⟨hx, hb, hml, hr, hlk, hown, hts, ⟨hK, hNs⟩, hN, hnm, hdc⟩ := id C
  have hdg := hdc _ (List.mem_of_getElem? hd)
  have n9 := n p e s m args below meth c C E H locs hP hD hS lsR hl
  exact lv_aload_n hx hb hdg rfl (hl.2.2 _ _ hv) n9
theorem b_iload_n {x : Int32} {f : Fin 4} (i : Nat) (hd : k.2.2.2.2.2[i]? = some (pc, .iload_n f, 1)) (hv : ls[(f : Nat)]? = some (some (.int x))) (n : BJ g X nc ns k (pc + 1) ls (.int x :: st) ws) : BJ g X nc ns k pc ls st ws := by
  intro p e s m args below meth c C E H locs hP hD hS lsR hl
  obtain ⟨hx, hb, hml, hr, hlk, hown, hts, ⟨hK, hNs⟩, hN, hnm, hdc⟩ := id C
  have hdg := hdc _ (List.mem_of_getElem? hd)
  have n9 := n p e s m args below meth c C E H locs hP hD hS lsR hl
  exact lv_iload_n hx hb hdg rfl (hl.2.2 _ _ hv) n9
theorem b_iconst {z : Int} (i : Nat) (hd : k.2.2.2.2.2[i]? = some (pc, .iconst z, 1)) (n : BJ g X nc ns k (pc + 1) ls (.int (J z) :: st) ws) : BJ g X nc ns k pc ls st ws := by
  intro p e s m args below meth c C E H locs hP hD hS lsR hl
  obtain ⟨hx, hb, hml, hr, hlk, hown, hts, ⟨hK, hNs⟩, hN, hnm, hdc⟩ := id C
  have hdg := hdc _ (List.mem_of_getElem? hd)
  have n9 := n p e s m args below meth c C E H locs hP hD hS lsR hl
  exact lv_iconst hx hb hdg rfl n9
theorem b_bipush {z : Int} (i : Nat) (hd : k.2.2.2.2.2[i]? = some (pc, .bipush z, 2)) (hz : -128 ≤ z ∧ z < 128) (n : BJ g X nc ns k (pc + 2) ls (.int (J z) :: st) ws) : BJ g X nc ns k pc ls st ws := by
  intro p e s m args below meth c C E H locs hP hD hS lsR hl
  obtain ⟨hx, hb, hml, hr, hlk, hown, hts, ⟨hK, hNs⟩, hN, hnm, hdc⟩ := id C
  have hdg := hdc _ (List.mem_of_getElem? hd)
  have n9 := n p e s m args below meth c C E H locs hP hD hS lsR hl
  exact lv_bipush hx hb hdg (J_b8 hz) n9
theorem b_sipush {z : Int} (i : Nat) (hd : k.2.2.2.2.2[i]? = some (pc, .sipush z, 3)) (hz : -32768 ≤ z ∧ z < 32768) (n : BJ g X nc ns k (pc + 3) ls (.int (J z) :: st) ws) : BJ g X nc ns k pc ls st ws := by
  intro p e s m args below meth c C E H locs hP hD hS lsR hl
  obtain ⟨hx, hb, hml, hr, hlk, hown, hts, ⟨hK, hNs⟩, hN, hnm, hdc⟩ := id C
  have hdg := hdc _ (List.mem_of_getElem? hd)
  have n9 := n p e s m args below meth c C E H locs hP hD hS lsR hl
  exact lv_sipush hx hb hdg (J_b16 hz) n9
theorem b_dup {x : Value} (i : Nat) (hd : k.2.2.2.2.2[i]? = some (pc, .dup, 1)) (hx1 : x.category = 1) (n : BJ g X nc ns k (pc + 1) ls (x :: x :: st) ws) : BJ g X nc ns k pc ls (x :: st) ws := by
  intro p e s m args below meth c C E H locs hP hD hS lsR hl
  obtain ⟨hx, hb, hml, hr, hlk, hown, hts, ⟨hK, hNs⟩, hN, hnm, hdc⟩ := id C
  have hdg := hdc _ (List.mem_of_getElem? hd)
  have n9 := n p e s m args below meth c C E H locs hP hD hS lsR hl
  exact lv_dup hx hb hdg hx1 n9
theorem b_iadd {a b : Int} (i : Nat) (hd : k.2.2.2.2.2[i]? = some (pc, .iadd, 1)) (n : BJ g X nc ns k (pc + 1) ls (.int (J (a + b)) :: st) ws) : BJ g X nc ns k pc ls (.int (J b) :: .int (J a) :: st) ws := by
  intro p e s m args below meth c C E H locs hP hD hS lsR hl
  obtain ⟨hx, hb, hml, hr, hlk, hown, hts, ⟨hK, hNs⟩, hN, hnm, hdc⟩ := id C
  have n9 := n p e s m args below meth c C E H locs hP hD hS lsR hl
  rw [← J_add] at n9
  have hdg := hdc _ (List.mem_of_getElem? hd)
  exact lv_iadd hx hb hdg n9
theorem b_imul {a b : Int} (i : Nat) (hd : k.2.2.2.2.2[i]? = some (pc, .imul, 1)) (n : BJ g X nc ns k (pc + 1) ls (.int (J (a * b)) :: st) ws) : BJ g X nc ns k pc ls (.int (J b) :: .int (J a) :: st) ws := by
  intro p e s m args below meth c C E H locs hP hD hS lsR hl
  obtain ⟨hx, hb, hml, hr, hlk, hown, hts, ⟨hK, hNs⟩, hN, hnm, hdc⟩ := id C
  have n9 := n p e s m args below meth c C E H locs hP hD hS lsR hl
  rw [← J_mul] at n9
  have hdg := hdc _ (List.mem_of_getElem? hd)
  exact lv_imul hx hb hdg n9
theorem b_goto {off : Int} (i tgt : Nat) (hd : k.2.2.2.2.2[i]? = some (pc, .goto off, 3)) (ht : (pc : Int) + off = (tgt : Int)) (n : BJ g X nc ns k tgt ls st ws) : BJ g X nc ns k pc ls st ws := by
  intro p e s m args below meth c C E H locs hP hD hS lsR hl
  obtain ⟨hx, hb, hml, hr, hlk, hown, hts, ⟨hK, hNs⟩, hN, hnm, hdc⟩ := id C
  have hdg := hdc _ (List.mem_of_getElem? hd)
  have n9 := n p e s m args below meth c C E H locs hP hD hS lsR hl
  exact lv_goto hx hb hdg ht n9
theorem b_ic_ge {a b : Int} {off : Int} (i tgt : Nat) (hd : k.2.2.2.2.2[i]? = some (pc, .if_icmp .ge off, 3)) (ht : (pc : Int) + off = (tgt : Int)) (hg : (-2147483648 ≤ a ∧ a ≤ 2147483647) ∧ (-2147483648 ≤ b ∧ b ≤ 2147483647)) (nt : b ≤ a → BJ g X nc ns k tgt ls st ws) (nf : ¬ (b ≤ a) → BJ g X nc ns k (pc + 3) ls st ws) : BJ g X nc ns k pc ls (.int (J b) :: .int (J a) :: st) ws := by
  intro p e s m args below meth c C E H locs hP hD hS lsR hl
  obtain ⟨hx, hb, hml, hr, hlk, hown, hts, ⟨hK, hNs⟩, hN, hnm, hdc⟩ := id C
  have q : (J b ≤ J a) ↔ (b ≤ a) := J_le ⟨hg.2, hg.1⟩
  have hdg := hdc _ (List.mem_of_getElem? hd)
  exact lv_icmp_ge hx hb hdg ht (fun h => nt (q.mp h) p e s m args below meth c C E H locs hP hD hS lsR hl) (fun h => nf (fun z => h (q.mpr z)) p e s m args below meth c C E H locs hP hD hS lsR hl)
theorem b_ic_ne {a b : Int} {off : Int} (i tgt : Nat) (hd : k.2.2.2.2.2[i]? = some (pc, .if_icmp .ne off, 3)) (ht : (pc : Int) + off = (tgt : Int)) (hg : (-2147483648 ≤ a ∧ a ≤ 2147483647) ∧ (-2147483648 ≤ b ∧ b ≤ 2147483647)) (nt : a ≠ b → BJ g X nc ns k tgt ls st ws) (nf : a = b → BJ g X nc ns k (pc + 3) ls st ws) : BJ g X nc ns k pc ls (.int (J b) :: .int (J a) :: st) ws := by
  intro p e s m args below meth c C E H locs hP hD hS lsR hl
  obtain ⟨hx, hb, hml, hr, hlk, hown, hts, ⟨hK, hNs⟩, hN, hnm, hdc⟩ := id C
  have q : (J a = J b) ↔ (a = b) := J_inj hg
  have hdg := hdc _ (List.mem_of_getElem? hd)
  exact lv_icmp_ne hx hb hdg ht (fun h => nt (fun z => h (q.mpr z)) p e s m args below meth c C E H locs hP hD hS lsR hl) (fun h => nf (q.mp h) p e s m args below meth c C E H locs hP hD hS lsR hl)
theorem b_istore_n {x : Int32} {f : Fin 4} (i : Nat) (hd : k.2.2.2.2.2[i]? = some (pc, .istore_n f, 1)) (hn : ((f : Nat) < k.2.2.2.1 ∧ okSt ls (f : Nat) = true)) (n : BJ g X nc ns k (pc + 1) (ls.set (f : Nat) (some (.int x))) st ws) : BJ g X nc ns k pc ls (.int x :: st) ws := by
  intro p e s m args below meth c C E H locs hP hD hS lsR hl
  obtain ⟨hx, hb, hml, hr, hlk, hown, hts, ⟨hK, hNs⟩, hN, hnm, hdc⟩ := id C
  have hdg := hdc _ (List.mem_of_getElem? hd)
  exact lv_istore_n hx hb hdg rfl hl.has hn.1 rfl (fun ls9 h9 => n p e s m args below meth c C E H locs hP hD hS ls9 (LvOk.st1 (v := .int x) hn.2 h9))
theorem b_astore_n {x : Nat} {f : Fin 4} (i : Nat) (hd : k.2.2.2.2.2[i]? = some (pc, .astore_n f, 1)) (hn : ((f : Nat) < k.2.2.2.1 ∧ okSt ls (f : Nat) = true)) (n : BJ g X nc ns k (pc + 1) (ls.set (f : Nat) (some (.ref x))) st ws) : BJ g X nc ns k pc ls (.ref x :: st) ws := by
  intro p e s m args below meth c C E H locs hP hD hS lsR hl
  obtain ⟨hx, hb, hml, hr, hlk, hown, hts, ⟨hK, hNs⟩, hN, hnm, hdc⟩ := id C
  have hdg := hdc _ (List.mem_of_getElem? hd)
  exact lv_astore_n hx hb hdg rfl hl.has hn.1 rfl (fun ls9 h9 => n p e s m args below meth c C E H locs hP hD hS ls9 (LvOk.st1 (v := .ref x) hn.2 h9))
theorem b_istore {x : Int32} {f : Nat} (i : Nat) (hd : k.2.2.2.2.2[i]? = some (pc, .istore f, 2)) (hn : (f < k.2.2.2.1 ∧ okSt ls f = true)) (n : BJ g X nc ns k (pc + 2) (ls.set f (some (.int x))) st ws) : BJ g X nc ns k pc ls (.int x :: st) ws := by
  intro p e s m args below meth c C E H locs hP hD hS lsR hl
  obtain ⟨hx, hb, hml, hr, hlk, hown, hts, ⟨hK, hNs⟩, hN, hnm, hdc⟩ := id C
  have hdg := hdc _ (List.mem_of_getElem? hd)
  exact lv_istore hx hb hdg hl.has hn.1 rfl (fun ls9 h9 => n p e s m args below meth c C E H locs hP hD hS ls9 (LvOk.st1 (v := .int x) hn.2 h9))
theorem b_iinc {a z : Int} {f : Nat} (i : Nat) (hd : k.2.2.2.2.2[i]? = some (pc, .iinc f z, 3)) (hv : ls[f]? = some (some (.int (J a)))) (hn : f < k.2.2.2.1 ∧ okSt ls f = true) (n : BJ g X nc ns k (pc + 3) (ls.set f (some (.int (J (a + z))))) st ws) : BJ g X nc ns k pc ls st ws := by
  intro p e s m args below meth c C E H locs hP hD hS lsR hl
  obtain ⟨hx, hb, hml, hr, hlk, hown, hts, ⟨hK, hNs⟩, hN, hnm, hdc⟩ := id C
  obtain ⟨j, hj⟩ := List.getElem?_of_mem (lvOf_mem (ad := id) (q := (f, .int (J a))).mpr ⟨.int (J a), hv, rfl⟩)
  have hdg := hdc _ (List.mem_of_getElem? hd)
  exact lv_iinc hx hb hdg hl.has hj (show J a + Int32.ofInt z = J (a + z) from J_add a z) hn.1 rfl (fun ls9 h9 => n p e s m args below meth c C E H locs hP hD hS ls9 (LvOk.st1 (v := .int (J (a + z))) hn.2 h9))
theorem b_objInit {x a : Nat} (i : Nat) (hd : k.2.2.2.2.2[i]? = some (pc, .invokespecial x, 3)) (w1 : Cond.methodLink k.1 x objectInit ∈ tb) (w2 : Cond.instanceMethod objectInit ∈ tb ∧ Cond.code objectInit ⟨#[177]⟩ 1 none ∈ tb) (hr : (st.map fun v => v.category).sum ≤ 8) (hR : 1 ≤ X.1.frames ∧ 64 ≤ X.1.locals) (n : BJ g X nc ns k (pc + 3) ls st ws) : BJ g X nc ns k pc ls (.ref a :: st) ws := by
  intro p e s m args below meth c C E H locs hP hD hS lsR hl
  obtain ⟨hx, hb, hml, hr9, hlk, hown, hts, ⟨hK, hNs⟩, hN, hnm, hdc⟩ := id C
  have hdg := hdc _ (List.mem_of_getElem? hd)
  refine W.objInit hx hb hown (hts _ w1) (hts _ w2.1) (hts _ w2.2) rfl (by rw [hml]; exact hl.1) rfl hdg hR.1 ?_ ?_
  · have := hR.2
    show 2 * 0 + (st.map fun v => v.category).sum + 12 ≤ X.1.locals
    omega
  · exact n p e s m args below meth c C E H locs hP hD hS lsR hl
theorem b_new {x ci N : Nat} {Cn : String} {T : u_T} (i : Nat) (hd : k.2.2.2.2.2[i]? = some (pc, .new x, 3)) (hc : clX[ci]? = some (Cn, T, N)) (hw : Cond.classLink k.1 x Cn ∈ tb ∧ Cond.instantiable Cn N ∈ tb ∧ Cond.initialized Cn ∈ tb) (hR : nc + 1 ≤ X.1.cells ∧ ns + N ≤ X.1.slots) (n : ∀ q : Nat, BJ g X (nc + 1) (ns + N) k (pc + 3) ls (.ref q :: st) ((q, .inr (ci, dfs ci N)) :: ws)) : BJ g X nc ns k pc ls st ws := by
  intro p e s m args below meth c C E H locs hP hD hS lsR hl
  obtain ⟨hx, hb, hml, hr, hlk, hown, hts, ⟨hK, hNs⟩, hN, hnm, hdc⟩ := id C
  have hdg := hdc _ (List.mem_of_getElem? hd)
  refine va_new (ci := ci) (fs := dfs ci N) (C := Cn) (T := T) (N := N) hx hb hts (clX_in hc) (tyL.getD ci (fun _ => .int)) (clX_ty hc).1 hown (hts _ hw.1) (hts _ hw.2.1) (hts _ hw.2.2) hK hP hD hS (fun q hq => Nat.le_trans hN hq) hc (fun j hj => dfs_at hj) hR.1 hR.2 hdg (fun q H1 hP1 hD1 hS1 => ?_)
  have hp : (ws ++ [(q, (.inr (ci, dfs ci N) : va_E))]).Perm ((q, .inr (ci, dfs ci N)) :: ws) := List.perm_append_comm
  exact n q p e s m args below meth c C E H1 locs (hP1.perm hp) (hD1.perm hp) hS1 lsR hl
theorem b_newa {at9 : ArrayType} {ty : FieldType} {t0 N : Nat} {z : Int} {a0 : vp_A} (i : Nat) (hd : k.2.2.2.2.2[i]? = some (pc, .newarray at9, 2)) (hty : newarray.typeOf at9 = ty) (hw : Cond.arrayClass ty ∈ tb) (ht : (bT g)[t0]? = some (g.2.2.1 ty, ty)) (hra : ∀ (U : State) (cA : ClassId), va_RA U cA ty → U.vm.findClass ("[" ++ ty.toString) = some cA) (ha : ∀ cA : ClassId, vp_cell cA a0 = arrV cA N (fun _ => defaultValue ty)) (hz : z = (N : Int) ∧ N ≤ 1000 ∧ componentBytes ty ≤ 8) (hR : nc + 1 ≤ X.1.cells ∧ ns + N ≤ X.1.slots) (n : ∀ q : Nat, BJ g X (nc + 1) (ns + N) k (pc + 2) ls (.ref q :: st) ((q, .inl (g.2.2.1 ty, a0)) :: ws)) : BJ g X nc ns k pc ls (.int (J z) :: st) ws := by
  intro p e s m args below meth c C E H locs hP hD hS lsR hl
  obtain ⟨hx, hb, hml, hr, hlk, hown, hts, ⟨hK, hNs⟩, hN, hnm, hdc⟩ := id C
  obtain ⟨h1, h2, h3⟩ := hz
  have hlt : ¬ J z < 0 := by
    rw [J_zero, J_lt (by omega)]; omega
  have hcl : (J z).toNatClampNeg = N := by rw [J_clamp (by omega)]; omega
  subst hty
  have hdg := hdc _ (List.mem_of_getElem? hd)
  refine va_newaK hx hb (hts _ hw) rfl hdg rfl hlt hcl ?_ hR.1 hR.2 rfl (fun H1 cA e1 z1 o1 hAr hNm => ?_)
  · exact Nat.le_trans (Nat.mul_le_mul h2 h3) (by decide)
  have hcA : g.2.2.1 (newarray.typeOf at9) = cA := by
    have := hra s _ (hK.2 t0 _ ht).2
    rw [hNm] at this
    exact (Option.some.inj this).symm
  have hk : ∀ (j : Nat) (x : Nat × va_E), ws[j]? = some x → H1[x.1]? = H[x.1]? := fun j x hx => o1 x.1 ((hP j x hx).lt)
  have hp : (ws ++ [(H.size, (.inl (cA, a0) : va_E))]).Perm ((H.size, .inl (cA, a0)) :: ws) := List.perm_append_comm
  have n9 := n H.size
  rw [hcA] at n9
  refine n9 p e s m args below meth c C E H1 locs (va_P.perm hp ((hP.kept hk).app (fun j x hx => ?_))) (va_D.perm hp (hD.push hP rfl (Nat.le_trans hN hS.1))) ⟨Nat.le_trans hS.1 (by omega), fun x h1 h2 => (o1 x (Nat.lt_of_lt_of_le h1 hS.1)).trans (hS.2.1 x h1 h2), hS.2.2⟩ lsR hl
  have hz : j < 1 := (List.getElem?_eq_some_iff.mp hx).1
  rw [show j = 0 by omega] at hx
  cases hx
  show H1[H.size]? = some (vp_cell _ _)
  rw [ha]
  exact e1
theorem b_put {x ci f N a q0 : Nat} {Cn : String} {T : u_T} {fs : List Value} {v : Value} {ty : FieldType} (i : Nat) (hd : k.2.2.2.2.2[i]? = some (pc, .putfield x, 3)) (hc : clX[ci]? = some (Cn, T, N)) (hf : f < N) (hw : Cond.fieldLink k.1 x Cn (T f).2.1 (T f).2.2.1 ∈ tb) (hC : (T f).1 = Cn ∧ Cn = k.1) (hfin : (T f).2.2.2 = false ∨ ((T f).2.2.2 = true ∧ k.2.1.name = "<init>")) (he : ws[q0]? = some (a, .inr (ci, fs))) (hp : parseFieldDescriptor (T f).2.2.1 = some ty) (hn : narrow ty v = v) (hfit : fits ty v = true) (hl9 : f < fs.length) (n : BJ g X nc ns k (pc + 3) ls st (ws.set q0 (a, .inr (ci, fs.set f v)))) : BJ g X nc ns k pc ls (v :: .ref a :: st) ws := by
  intro p e s m args below meth c C E H locs hP hD hS lsR hl
  obtain ⟨hx, hb, hml, hr, hlk, hown, hts, ⟨hK, hNs⟩, hN, hnm, hdc⟩ := id C
  have hdg := hdc _ (List.mem_of_getElem? hd)
  obtain ⟨h5, h6⟩ := hC
  rcases hfin with hfin | ⟨hfin, hi⟩
  · exact va_put (D := g.2.1) (ci := ci) (v := v) (ty := ty) (C := Cn) (T := T) (N := N) hx hb hts (clX_in hc) (tyL.getD ci (fun _ => .int)) (clX_ty hc).1 (clX_ty hc).2 hown hK hP hD hS q0 he hc f hf (hts _ hw) (fun y h => by rw [h5] at h; exact h) hfin hp hn hfit hl9 hdg (fun H1 locs1 hP1 hD1 hS1 => n p e s m args below meth c C E H1 locs1 hP1 hD1 hS1 lsR hl)
  · exact va_putF (D := g.2.1) (ci := ci) (v := v) (ty := ty) (C := Cn) (T := T) (N := N) hx hb hts (clX_in hc) (tyL.getD ci (fun _ => .int)) (clX_ty hc).1 (clX_ty hc).2 hown hK hP hD hS q0 he hc f hf (hts _ hw) (fun y h => by rw [h5] at h; exact h) hfin (hnm hi) (h5.trans h6) hp hn hfit hl9 hdg (fun H1 locs1 hP1 hD1 hS1 => n p e s m args below meth c C E H1 locs1 hP1 hD1 hS1 lsR hl)
theorem b_get {x ci f N a q0 : Nat} {Cn : String} {T : u_T} {fs : List Value} {v : Value} (i : Nat) (hd : k.2.2.2.2.2[i]? = some (pc, .getfield x, 3)) (hc : clX[ci]? = some (Cn, T, N)) (hf : f < N) (hw : Cond.fieldLink k.1 x Cn (T f).2.1 (T f).2.2.1 ∈ tb) (hC : (T f).1 = Cn) (he : ws[q0]? = some (a, .inr (ci, fs))) (hv : fs[f]? = some v) (n : BJ g X nc ns k (pc + 3) ls (v :: st) ws) : BJ g X nc ns k pc ls (.ref a :: st) ws := by
  intro p e s m args below meth c C E H locs hP hD hS lsR hl
  obtain ⟨hx, hb, hml, hr, hlk, hown, hts, ⟨hK, hNs⟩, hN, hnm, hdc⟩ := id C
  have hdg := hdc _ (List.mem_of_getElem? hd)
  have n9 := n p e s m args below meth c C E H locs hP hD hS lsR hl
  exact va_get (D := g.2.1) hx hb hts (clX_in hc) hown hK hP q0 he hc f hf (hts _ hw) (fun y h => by rw [hC] at h; exact h) hv hdg n9
theorem b_iast {z : Int} {v : Int32} {a n0 q0 : Nat} {f : Nat → Int32} (i : Nat) (hd : k.2.2.2.2.2[i]? = some (pc, .iastore, 1)) (he : ws[q0]? = some (a, .inl (g.2.2.1 .int, n0, .inl f))) (hz : 0 ≤ z ∧ z < (n0 : Int) ∧ z ≤ 2147483647) (n : BJ g X nc ns k (pc + 1) ls st (ws.set q0 (a, .inl (g.2.2.1 .int, n0, .inl (upd f z.toNat v))))) : BJ g X nc ns k pc ls (.int v :: .int (J z) :: .ref a :: st) ws := by
  intro p e s m args below meth c C E H locs hP hD hS lsR hl
  obtain ⟨hx, hb, hml, hr, hlk, hown, hts, ⟨hK, hNs⟩, hN, hnm, hdc⟩ := id C
  have hdg := hdc _ (List.mem_of_getElem? hd)
  refine va_iast hx hb hK hP hD hS q0 0 he rfl (J_in hz) hdg (fun H1 locs1 hP1 hD1 hS1 => ?_)
  rw [J_clamp (by omega)] at hP1 hD1
  exact n p e s m args below meth c C E H1 locs1 hP1 hD1 hS1 lsR hl
theorem b_ret {d mc ms : Nat} {Q : va_W → Prop} (i : Nat) (hd : k.2.2.2.2.2[i]? = some (pc, .return_, 1)) (hk : k.2.2.2.2.1 = none) (h1 : nc ≤ mc) (h2 : ns ≤ ms) (hQ : Q ws) : BJ g (XB g d mc ms Q) nc ns k pc ls [] ws := by
  intro p e s m args below meth c C E H locs hP hD hS lsR hl
  obtain ⟨hx, hb, hml, hr, hlk, hown, hts, ⟨hK, hNs⟩, hN, hnm, hdc⟩ := id C
  refine W.widen h1 h2 ?_
  have hdg := hdc _ (List.mem_of_getElem? hd)
  exact W.vret hx hb (hr.trans hk) (fun t ht hw => ⟨⟨ws, rfl, hQ, by rw [ht]; exact hP, hD⟩, hS.F ht⟩) hS.2.2 hdg hlk
def PcB (g : Bg) (As : List Value) (ws : va_W) : Array Value → State → Prop := va_Pc As (fun U => va_P g.2.1 clX ws U.heap ∧ va_D (bA g) ws ∧ (va_K g.2.1 clX (bT g) U ∧ Nst U) ∧ g.2.2.2 ≤ U.heap.size)
theorem PcB_blind (g : Bg) (As : List Value) (ws : va_W) : FrameBlind (PcB g As ws) := fun a U f9 mk q => ⟨q.1, q.2.1, q.2.2.1, ⟨va_K.moved (u := U) (U := U.calling f9 mk a) (Vm.Alike.refl U.vm) q.2.2.2.1.1, Nst.same (s := U) rfl q.2.2.2.1.2⟩, q.2.2.2.2⟩
theorem BJ.met {d mc ms : Nat} {Q : va_W → Prop} (hk : MOk k) {As : List Value} (hlen : (entL As).length ≤ k.2.2.2.1) (h : BJ g (XB g d mc ms Q) 0 0 k 0 (ent k.2.2.2.1 As) [] ws) : Met g.1 k.2.1 (wsK k) (rmB d mc ms) (PcB g As ws) (QB g Q) mc ms (bA g) := by
  refine Met.ofW (cc := k.2.2.1) (maxL := k.2.2.2.1) (ret := k.2.2.2.2.1) hk.1 rfl ?_
  intro p e s m args below meth c s₁ B hml hv
  obtain ⟨rfl, hP, hD, hK, hN⟩ := hv
  have hts := atoms_spec (ws := wsK k) B.pre
  have hown : s.vm.findClass k.2.1.cls = some m.cls := findClass_of_methodNamed B.named
  rw [hk.2.1] at hown
  have hnm : meth.name = k.2.1.name := (name_of_methodNamed B.named B.method).1
  have he := ent_ok id k.2.2.2.1 As hlen
  rw [map_rv_id] at he
  rw [lg_entry_eq]
  exact h p e s m _ below meth c ⟨B.exec, B.bytes, hml, B.returns, B.notSynchronized, hown, fun w hw => hts w (List.mem_cons_of_mem _ hw), hK, hN, fun h => hnm.trans h, hk.2.2.1⟩ trivial s.heap [] hP hD va_S.rf _ he
theorem b_back {Q2 : va_W → Prop} {mc ms : Nat} {rest : List Value} {p : Program} {e : Env} {s : State} {m : MethodId} {args : Array Value} {below : List Frame} {meth : Method} {c : Code} {H : Heap} {locs : List Loc} {lsR : Array Slot} {st0 : List Value} {a9 : Array Value}
    (C : BxC g k p s m args meth c) (E9 : X.2.2 p e s m args below meth c) (hS : va_S (bA g) s.heap H locs) (hl : LvOk id k.2.2.2.1 lsR ls)
    (hrun : va_Run p g.1 e X.1 s m args below meth c H locs nc ns mc ms (F0 m pc lsR st0) rest (QB g Q2 a9) (bA g))
    (nx : ∀ ws2, Q2 ws2 → BJ g X (nc + mc) (ns + ms) k (pc + 3) ls rest ws2) :
    W p g.1 e X.1 s m args below meth c H locs nc ns (X.2.1 below args s) (F0 m pc lsR st0) := by
  intro T hT X9
  obtain ⟨v, st₀, t, T', L, h0, X', hL, e1, e2, ⟨⟨ws2, hv, hq, hwd, hdd⟩, hz, hkp⟩, stp⟩ := hrun T hT X9
  have hv1 : v = none := by injection hv
  subst hv1
  rw [h0] at hz hkp
  have hS1 : va_S (bA g) s.heap T'.heap (locs ++ L) := by
    refine ⟨Nat.le_trans hS.1 (by rw [e1]; exact hz), fun q h1 h2 => ?_, fun q hq9 => ?_⟩
    · rw [e1, hkp q (Nat.lt_of_lt_of_le h1 hS.1) h2]; exact hS.2.1 q h1 h2
    · rcases List.mem_append.mp hq9 with h | h
      · exact hS.2.2 q h
      · exact hL q h
  obtain ⟨t2, a1, b1⟩ := nx ws2 hq p e s m args below meth c C E9 T'.heap (locs ++ L) (by rw [e1]; exact hwd) hdd hS1 lsR hl T' rfl X'
  exact ⟨t2, stp _ a1, b1⟩
theorem b_callI {k2 : Mth} {n x b d mc ms : Nat} {As rest : List Value} {Q2 : va_W → Prop} (i : Nat) (hd : k.2.2.2.2.2[i]? = some (pc, .invokespecial x, 3)) (hM : MOk k2) (hw : Cond.methodLink k.1 x k2.2.1 ∈ tb ∧ Cond.instanceMethod k2.2.1 ∈ tb) (hi : k2.2.1.name = "<init>" ∧ k2.2.2.2.2.1 = none) (hpn : (parseMethodDescriptor k2.2.1.desc).map (fun d => d.parameters.length) = some n) (hn : As.length = n) (hr : (rest.map fun v => v.category).sum ≤ 8) (hlen : (entL (.ref b :: As)).length ≤ k2.2.2.2.1)
    (hR : (d + 1 ≤ X.1.frames ∧ 64 * (d + 1) ≤ X.1.locals) ∧ nc + mc ≤ X.1.cells ∧ ns + ms ≤ X.1.slots)
    (hV : BJ g (XB g d mc ms Q2) 0 0 k2 0 (ent k2.2.2.2.1 (.ref b :: As)) [] ws) (nx : ∀ ws2, Q2 ws2 → BJ g X (nc + mc) (ns + ms) k (pc + 3) ls rest ws2) : BJ g X nc ns k pc ls (As.reverse ++ .ref b :: rest) ws := by
  intro p e s m args below meth c C E H locs hP hD hS lsR hl
  obtain ⟨hx, hb, hml, hr9, hlk, hown, hts, ⟨hK, hNs⟩, hN, hnm, hdc⟩ := id C
  have hdg := hdc _ (List.mem_of_getElem? hd)
  have hmet := BJ.met hM hlen hV
  have hws : wsK k2 = Cond.code k2.2.1 k2.2.2.1 k2.2.2.2.1 none :: tb := by unfold wsK; rw [hi.2]
  have hcw := cwI (s := s) (R := X.1) (args := args) (Ts := tb) (ws := wsK k2) (ws' := tb) (y := k2.2.1) (bytes := k2.2.2.1) (maxL := k2.2.2.2.1) (index := x) (mc := mc) (ms := ms) (own := k.1) (rm := rmB d mc ms) n hts (gi_tb (wsK_in hM)) hws rfl rfl (by rw [hM.2.1]; exact hts _ hM.2.2.2.2.1) (hts _ hw.1) (hts _ hw.2) hi.1 ⟨hM.2.2.2.2.2.1.1, hM.2.2.2.2.2.1.2, hpn⟩ ⟨hR.1.1, by
    have := hM.2.2.2.2.2.2
    have := hR.1.2
    show 8 + (k2.2.2.2.1 + 11) + 64 * d ≤ X.1.locals
    omega⟩
  refine b_back (mc := mc) (ms := ms) C E hS hl (va_runI (As := As) (rest := rest) ⟨hx, hb, hml, hown, hts⟩ hmet hcw ⟨PcB_blind g _ ws, fun U hU hw9 => ⟨rfl, by rw [hU]; exact hP, hD, ⟨va_K.moved hw9.alike hK, hNs.warm hw9⟩, by rw [hU]; exact Nat.le_trans hN hS.1⟩⟩ rfl hn hl.1 rfl (lv_room hr) hdg ⟨hR.2.1, hR.2.2⟩) nx
theorem b_callN {k2 : Mth} {n x b d mc ms : Nat} {As rest : List Value} {Q2 : va_W → Prop} (i : Nat) (hd : k.2.2.2.2.2[i]? = some (pc, .invokespecial x, 3)) (hM : MOk k2) (hw : (k.1, x, k2.2.1) ∈ nestL ∧ Cond.instanceMethod k2.2.1 ∈ tb) (hi : k2.2.1.name = "<init>" ∧ k2.2.2.2.2.1 = none) (hpn : (parseMethodDescriptor k2.2.1.desc).map (fun d => d.parameters.length) = some n) (hn : As.length = n) (hr : (rest.map fun v => v.category).sum ≤ 8) (hlen : (entL (.ref b :: As)).length ≤ k2.2.2.2.1)
    (hR : (d + 1 ≤ X.1.frames ∧ 64 * (d + 1) ≤ X.1.locals) ∧ nc + mc ≤ X.1.cells ∧ ns + ms ≤ X.1.slots)
    (hV : BJ g (XB g d mc ms Q2) 0 0 k2 0 (ent k2.2.2.2.1 (.ref b :: As)) [] ws) (nx : ∀ ws2, Q2 ws2 → BJ g X (nc + mc) (ns + ms) k (pc + 3) ls rest ws2) : BJ g X nc ns k pc ls (As.reverse ++ .ref b :: rest) ws := by
  intro p e s m args below meth c C E H locs hP hD hS lsR hl
  obtain ⟨hx, hb, hml, hr9, hlk, hown, hts, ⟨hK, hNs⟩, hN, hnm, hdc⟩ := id C
  have hdg := hdc _ (List.mem_of_getElem? hd)
  have hmet := BJ.met hM hlen hV
  have hws : wsK k2 = Cond.code k2.2.1 k2.2.2.1 k2.2.2.2.1 none :: tb := by unfold wsK; rw [hi.2]
  have hcw := va_cnB (s := s) (R := X.1) (args := args) (Ts := tb) (ws := wsK k2) (ws' := tb) (y := k2.2.1) (host := "SisterCourts") (bytes := k2.2.2.1) (maxL := k2.2.2.2.1) (index := x) (mc := mc) (ms := ms) (own := k.1) (ret := none) (rm := rmB d mc ms) n hts (gi_tb (wsK_in hM)) hws rfl rfl (hNs _ hw.1) (by rw [hM.2.1]; exact hts _ hM.2.2.2.2.1) ⟨hM.2.2.2.2.2.1.1, hM.2.2.2.2.2.1.2, hpn⟩ ⟨hR.1.1, by
    have := hM.2.2.2.2.2.2
    have := hR.1.2
    show 8 + (k2.2.2.2.1 + 11) + 64 * d ≤ X.1.locals
    omega⟩
  refine b_back (mc := mc) (ms := ms) C E hS hl (va_runIN (As := As) (rest := rest) ⟨hx, hb, hml, hown, hts⟩ hmet ⟨hcw, hi.1, hts _ hw.2⟩ ⟨PcB_blind g _ ws, fun U hU hw9 => ⟨rfl, by rw [hU]; exact hP, hD, ⟨va_K.moved hw9.alike hK, hNs.warm hw9⟩, by rw [hU]; exact Nat.le_trans hN hS.1⟩⟩ rfl hn hl.1 rfl (lv_room hr) hdg ⟨hR.2.1, hR.2.2⟩) nx
theorem b_callV {k2 : Mth} {ci n x b d mc ms q0 : Nat} {fs : List Value} {As rest : List Value} {Q2 : va_W → Prop} (i : Nat) (hd : k.2.2.2.2.2[i]? = some (pc, .invokevirtual x, 3)) (hc : CV k.1 x k2 ci n) (hi : k2.2.2.2.2.1 = none) (he : ws[q0]? = some (b, .inr (ci, fs))) (hn : As.length = n) (hr : (rest.map fun v => v.category).sum ≤ 8) (hlen : (entL (.ref b :: As)).length ≤ k2.2.2.2.1)
    (hR : (d + 1 ≤ X.1.frames ∧ 64 * (d + 1) ≤ X.1.locals) ∧ nc + mc ≤ X.1.cells ∧ ns + ms ≤ X.1.slots)
    (hV : BJ g (XB g d mc ms Q2) 0 0 k2 0 (ent k2.2.2.2.1 (.ref b :: As)) [] ws) (nx : ∀ ws2, Q2 ws2 → BJ g X (nc + mc) (ns + ms) k (pc + 3) ls rest ws2) : BJ g X nc ns k pc ls (As.reverse ++ .ref b :: rest) ws := by
  intro p e s m args below meth c C E H locs hP hD hS lsR hl
  obtain ⟨hx, hb, hml, hr9, hlk, hown, hts, ⟨hK, hNs⟩, hN, hnm, hdc⟩ := id C
  have hdg := hdc _ (List.mem_of_getElem? hd)
  obtain ⟨hM, ⟨T9, N9, hcl⟩, w1, w2, w3, w4⟩ := hc
  have hmet := BJ.met hM hlen hV
  have hcw : CallW X.1 s args k.1 k2.1 x k2.2.1 k2.2.2.1 k2.2.2.2.1 k2.2.2.2.2.1 (wsK k2) (rmB d mc ms) mc ms n := by
    refine cwV n hts (gi_tb ?_) rfl rfl rfl ⟨hM.2.1, hM.2.2.2.2.2.1.1, hM.2.2.2.2.2.1.2, w4⟩ ⟨hR.1.1, ?_⟩
    · intro w hw
      unfold wsV at hw
      rcases List.mem_append.mp hw with h | h
      · simp only [List.mem_cons, List.not_mem_nil, or_false] at h
        rcases h with rfl | rfl | rfl | rfl
        · exact w1
        · exact w2
        · exact w3
        · exact hM.2.2.2.2.1
      · exact wsK_in hM w h
    · have := hM.2.2.2.2.2.2
      have := hR.1.2
      show 8 + (k2.2.2.2.1 + 11) + 64 * d ≤ X.1.locals
      omega
  refine b_back (mc := mc) (ms := ms) C E hS hl (va_runV (As := As) (rest := rest) ⟨hx, hb, hml, hown, hts⟩ hmet hcw ⟨PcB_blind g _ ws, va_recv hK hP hcl he, fun U hU hw9 => ⟨rfl, by rw [hU]; exact hP, hD, ⟨va_K.moved hw9.alike hK, hNs.warm hw9⟩, by rw [hU]; exact Nat.le_trans hN hS.1⟩⟩ rfl hn hl.1 rfl (lv_room hr) hdg ⟨hR.2.1, hR.2.2⟩) nx
end BRules
