/-! 03: numbers, memory, the world's cells, the judgement V -/
def J (z : Int) : Int32 := Int32.ofInt z
def JL (z : Int) : Int64 := Int64.ofInt z
theorem J_add (a b : Int) : J a + J b = J (a + b) := (Int32.ofInt_add a b).symm
theorem J_sub (a b : Int) : J a - J b = J (a - b) := (Int32.ofInt_sub a b).symm
theorem J_mul (a b : Int) : J a * J b = J (a * b) := (Int32.ofInt_mul a b).symm
theorem J_neg (a : Int) : - J a = J (-a) := (Int32.ofInt_neg a).symm
theorem JL_add (a b : Int) : JL a + JL b = JL (a + b) := (Int64.ofInt_add a b).symm
theorem JL_sub (a b : Int) : JL a - JL b = JL (a - b) := (Int64.ofInt_sub a b).symm
theorem JL_mul (a b : Int) : JL a * JL b = JL (a * b) := (Int64.ofInt_mul a b).symm
theorem J_toInt {a : Int} (h : -2147483648 ≤ a ∧ a ≤ 2147483647) : (J a).toInt = a := Int32.toInt_ofInt_of_le (by omega) (by omega)
theorem J_of (x : Int32) : J x.toInt = x := Int32.ofInt_toInt x
theorem J_rng (x : Int32) : -2147483648 ≤ x.toInt ∧ x.toInt ≤ 2147483647 := ⟨by have := Int32.le_toInt x; omega, by have := Int32.toInt_lt x; omega⟩
theorem J_lt {a b : Int} (h : (-2147483648 ≤ a ∧ a ≤ 2147483647) ∧ (-2147483648 ≤ b ∧ b ≤ 2147483647)) : J a < J b ↔ a < b := by
  rw [Int32.lt_iff_toInt_lt, J_toInt h.1, J_toInt h.2]
theorem J_le {a b : Int} (h : (-2147483648 ≤ a ∧ a ≤ 2147483647) ∧ (-2147483648 ≤ b ∧ b ≤ 2147483647)) : J a ≤ J b ↔ a ≤ b := by
  rw [Int32.le_iff_toInt_le, J_toInt h.1, J_toInt h.2]
theorem J_inj {a b : Int} (h : (-2147483648 ≤ a ∧ a ≤ 2147483647) ∧ (-2147483648 ≤ b ∧ b ≤ 2147483647)) : J a = J b ↔ a = b := by
  rw [← Int32.toInt_inj, J_toInt h.1, J_toInt h.2]
theorem J_zero : (0 : Int32) = J 0 := by decide
theorem J_clamp {a : Int} (h1 : 0 ≤ a ∧ a ≤ 2147483647) : (J a).toNatClampNeg = a.toNat := Int32.toNatClampNeg_ofInt_of_le (by omega) (by omega)
theorem J_nat (n : Nat) : J (n : Int) = nI n := Int32.ofInt_eq_ofNat
theorem JL_toInt {a : Int} (h : -9223372036854775808 ≤ a ∧ a ≤ 9223372036854775807) : (JL a).toInt = a := Int64.toInt_ofInt_of_le (by omega) (by omega)
theorem J_long {a : Int} (h : -2147483648 ≤ a ∧ a ≤ 2147483647) : (J a).toInt64 = JL a := by
  rw [← Int64.toInt_inj, Int32.toInt_toInt64, J_toInt h, JL_toInt (by omega)]
theorem J_b8 {n : Int} (h : -128 ≤ n ∧ n < 128) : (Int8.ofInt n).toInt32 = J n := by
  rw [← Int32.toInt_inj, Int8.toInt_toInt32, Int8.toInt_ofInt_of_le (by omega) (by omega), J_toInt (by omega)]
theorem J_b16 {n : Int} (h : -32768 ≤ n ∧ n < 32768) : (Int16.ofInt n).toInt32 = J n := by
  rw [← Int32.toInt_inj, Int16.toInt_toInt32, Int16.toInt_ofInt_of_le (by omega) (by omega), J_toInt (by omega)]
theorem J_in {z : Int} {n : Nat} (h : 0 ≤ z ∧ z < (n : Int) ∧ z ≤ 2147483647) : vp_in (J z) n := by
  intro q
  rcases q with q | q
  · rw [J_zero, J_lt (by omega)] at q; omega
  · rw [J_clamp (by omega)] at q; omega
/-! memory -/
abbrev Mem : Type := (Nat → Nat → Int) × (Nat → Nat → Int64) × (Nat → Nat → Nat)
def gI (M : Mem) (k i : Nat) : Int := M.1 k i
def gL (M : Mem) (k i : Nat) : Int64 := M.2.1 k i
def gR (M : Mem) (k i : Nat) : Nat := M.2.2 k i
def aI (M : Mem) (k : Nat) (f : Nat → Int) : Mem := (fun a => if a = k then f else M.1 a, M.2)
def aL (M : Mem) (k : Nat) (f : Nat → Int64) : Mem := (M.1, fun a => if a = k then f else M.2.1 a, M.2.2)
def sI (M : Mem) (k i : Nat) (v : Int) : Mem := aI M k (fun j => if j = i then v else M.1 k j)
def sL (M : Mem) (k i : Nat) (v : Int64) : Mem := aL M k (fun j => if j = i then v else M.2.1 k j)
def sR (M : Mem) (k i : Nat) (v : Nat) : Mem := (M.1, M.2.1, fun a => if a = k then (fun j => if j = i then v else M.2.2 k j) else M.2.2 a)
theorem gI_aI (M : Mem) (k : Nat) (f : Nat → Int) (a b : Nat) : gI (aI M k f) a b = if a = k then f b else gI M a b := by
  unfold gI aI; dsimp only; split <;> rfl
theorem gI_sI (M : Mem) (k i : Nat) (v : Int) (a b : Nat) : gI (sI M k i v) a b = if a = k then (if b = i then v else gI M k b) else gI M a b := by
  unfold sI; rw [gI_aI]; rfl
theorem gL_aL (M : Mem) (k : Nat) (f : Nat → Int64) (a b : Nat) : gL (aL M k f) a b = if a = k then f b else gL M a b := by
  unfold gL aL; dsimp only; split <;> rfl
theorem gL_sL (M : Mem) (k i : Nat) (v : Int64) (a b : Nat) : gL (sL M k i v) a b = if a = k then (if b = i then v else gL M k b) else gL M a b := by
  unfold sL; rw [gL_aL]; rfl
theorem gR_sR (M : Mem) (k i : Nat) (v : Nat) (a b : Nat) : gR (sR M k i v) a b = if a = k then (if b = i then v else gR M k b) else gR M a b := by
  unfold gR sR; dsimp only; split <;> rfl
theorem gL_aI (M : Mem) (k : Nat) (f : Nat → Int) : gL (aI M k f) = gL M := rfl
theorem gR_aI (M : Mem) (k : Nat) (f : Nat → Int) : gR (aI M k f) = gR M := rfl
theorem gL_sI (M : Mem) (k i : Nat) (v : Int) : gL (sI M k i v) = gL M := rfl
theorem gR_sI (M : Mem) (k i : Nat) (v : Int) : gR (sI M k i v) = gR M := rfl
theorem gI_aL (M : Mem) (k : Nat) (f : Nat → Int64) : gI (aL M k f) = gI M := rfl
theorem gR_aL (M : Mem) (k : Nat) (f : Nat → Int64) : gR (aL M k f) = gR M := rfl
theorem gI_sL (M : Mem) (k i : Nat) (v : Int64) : gI (sL M k i v) = gI M := rfl
theorem gR_sL (M : Mem) (k i : Nat) (v : Int64) : gR (sL M k i v) = gR M := rfl
theorem gI_sR (M : Mem) (k i : Nat) (v : Nat) : gI (sR M k i v) = gI M := rfl
theorem gL_sR (M : Mem) (k i : Nat) (v : Nat) : gL (sR M k i v) = gL M := rfl
theorem Mem_ext {M N : Mem} (h1 : ∀ a b, gI M a b = gI N a b) (h2 : ∀ a b, gL M a b = gL N a b) (h3 : ∀ a b, gR M a b = gR N a b) : M = N :=
  Prod.ext (funext fun a => funext fun b => h1 a b) (Prod.ext (funext fun a => funext fun b => h2 a b) (funext fun a => funext fun b => h3 a b))
/-! the words that every contract takes -/
def tb : List Cond := lw_tbl.filter goodWord
theorem tb_mem {w : Cond} (i : Nat) (h : lw_tbl[i]? = some w) (hg : goodWord w = true) : w ∈ tb := List.mem_filter.mpr ⟨List.mem_of_getElem? h, hg⟩
theorem tb_tbl {w : Cond} (h : w ∈ tb) : w ∈ lw_tbl := (List.mem_filter.mp h).1
theorem tb_good {w : Cond} (h : w ∈ tb) : goodWord w = true := (List.mem_filter.mp h).2
/-! the cells -/
abbrev Sh : Type := (FieldType × Nat) ⊕ Nat
def shL : List Sh := [.inr 11, .inl (.byte, 800), .inr 9, .inr 10, .inr 8, .inl (.long, 23), .inl (.int, 23), .inl (.int, 23), .inr 3, .inl (.int, 12), .inl (.int, 12), .inl (.int, 12), .inr 1, .inl (.int, 6), .inl (.int, 5), .inr 7, .inl (.int, 6), .inl (.int, 5), .inr 7, .inl (.int, 6), .inr 6, .inl (.int, 6), .inr 7, .inl (.int, 6), .inr 7, .inl (.int, 6), .inr 5, .inl (.int, 32), .inl (.int, 32), .inr 0, .inl (.int, 168), .inl (.int, 168), .inr 4, .inl (.int, 25), .inl (.int, 6), .inl (.int, 6), .inl (.int, 6), .inl (.int, 6), .inl (.int, 12), .inl (.int, 12), .inl (.int, 12), .inl (.int, 12), .inl (.int, 12), .inr 4, .inl (.int, 25), .inl (.int, 6), .inl (.int, 6), .inl (.int, 6), .inl (.int, 6), .inl (.int, 12), .inl (.int, 12), .inl (.int, 12), .inl (.int, 12), .inl (.int, 12), .inr 12, .inl (.byte, 800), .inl (.int, 2), .inl (.int, 2), .inl (.int, 2), .inl (.long, 10), .inl (.long, 12), .inl (.long, 24), .inl (.int, 50), .inl (.int, 12), .inl (.int, 12), .inl (.int, 12), .inl (.int, 12), .inl (.int, 24), .inl (.int, 24), .inl (.int, 24), .inl (.int, 24), .inl (.int, 24), .inl (.int, 24), .inl (.int, 288), .inl (.int, 48), .inl (.boolean, 2), .inl (.int, 25), .inl (.int, 12), .inl (.int, 6), .inl (.int, 6), .inl (.int, 5), .inl (.int, 5), .inl (.int, 32), .inl (.long, 1)]
def ftL : List (List Nat) := [[2, 2, 2, 0, 0, 0], [2, 2, 2, 2, 0, 0, 0, 2, 2], [], [3, 2, 2, 2], [0, 0, 0, 2, 2, 2, 2, 2, 2, 2, 2, 2, 2], [2, 2, 2], [2, 2, 2, 2, 0, 0], [2, 0], [2, 2, 2, 0], [2, 2, 3, 0], [2, 0, 0, 0, 0, 1, 0], [2, 0, 2, 3, 3, 2, 2, 2, 2, 2], [0, 2, 0, 0, 0, 0, 0, 0, 1, 0, 0, 0, 0, 2, 2, 2, 2, 2, 2, 2, 2, 2, 2, 2, 2, 2, 2, 2, 2, 1, 0, 2, 2, 0, 2, 2, 2, 2, 0, 2, 2, 2, 2, 0, 0, 0, 0, 2]]
def rtL : List (List Nat) := [[1, 0, 2, 0, 0, 8, 12, 20, 26, 29], [], [3, 4, 0, 0], [1, 0, 0, 0, 0, 0, 0], [5, 6, 7, 0], [], [], [], [0, 9, 10, 11], [], [], [], [8, 13, 14, 15, 0, 0, 0, 17, 18], [], [], [16, 0], [], [], [19, 0], [], [8, 21, 22, 24, 0, 0], [], [23, 0], [], [25, 0], [], [8, 27, 28], [], [], [8, 30, 31, 0, 0, 0], [], [], [0, 0, 0, 33, 34, 35, 36, 37, 38, 39, 40, 41, 42], [], [], [], [], [], [], [], [], [], [], [0, 0, 0, 44, 45, 46, 47, 48, 49, 50, 51, 52, 53], [], [], [], [], [], [], [], [], [], [], [0, 55, 0, 0, 0, 0, 0, 0, 0, 0, 0, 0, 0, 56, 57, 58, 59, 60, 61, 62, 63, 64, 65, 66, 67, 68, 69, 70, 71, 0, 0, 72, 73, 0, 74, 75, 76, 77, 0, 78, 79, 80, 81, 0, 0, 0, 0, 82], [], [], [], [], [], [], [], [], [], [], [], [], [], [], [], [], [], [], [], [], [], [], [], [], [], [], [], [], []]
def rt (k f : Nat) : Nat := (rtL.getD k []).getD f 0
def fk (ci f : Nat) : Nat := (ftL.getD ci []).getD f 9
def clX : List vw_C := [(RX0, TX0, 6), (RX1, TX1, 9), (RX0, TX2, 0), (RX3, TX3, 4), (RX4, TX4, 13), (RX5, TX5, 3), (RX6, TX6, 6), (RX7, TX7, 2), (RX8, TX8, 4), (RX9, TX9, 4), (RX10, TX10, 7), (RX11, TX11, 10), (RX12, TX12, 48)]
def nC : Nat := 84
theorem inX0 : ∀ w ∈ u_ws RX0 TX0 6, w ∈ tb := by decide +kernel
theorem inX1 : ∀ w ∈ u_ws RX1 TX1 9, w ∈ tb := by decide +kernel
theorem inX2 : ∀ w ∈ u_ws RX0 TX2 0, w ∈ tb := by decide +kernel
theorem inX3 : ∀ w ∈ u_ws RX3 TX3 4, w ∈ tb := by decide +kernel
theorem inX4 : ∀ w ∈ u_ws RX4 TX4 13, w ∈ tb := by decide +kernel
theorem inX5 : ∀ w ∈ u_ws RX5 TX5 3, w ∈ tb := by decide +kernel
theorem inX6 : ∀ w ∈ u_ws RX6 TX6 6, w ∈ tb := by decide +kernel
theorem inX7 : ∀ w ∈ u_ws RX7 TX7 2, w ∈ tb := by decide +kernel
theorem inX8 : ∀ w ∈ u_ws RX8 TX8 4, w ∈ tb := by decide +kernel
theorem inX9 : ∀ w ∈ u_ws RX9 TX9 4, w ∈ tb := by decide +kernel
theorem inX10 : ∀ w ∈ u_ws RX10 TX10 7, w ∈ tb := by decide +kernel
theorem inX11 : ∀ w ∈ u_ws RX11 TX11 10, w ∈ tb := by decide +kernel
theorem inX12 : ∀ w ∈ u_ws RX12 TX12 48, w ∈ tb := by decide +kernel
theorem clX_in0 : ∀ (ci : Nat) (q : vw_C), clX[ci]? = some q → ∀ w ∈ u_ws q.1 q.2.1 q.2.2, w ∈ tb
  | 0, q, h => by cases h; exact inX0
  | 1, q, h => by cases h; exact inX1
  | 2, q, h => by cases h; exact inX2
  | 3, q, h => by cases h; exact inX3
  | 4, q, h => by cases h; exact inX4
  | 5, q, h => by cases h; exact inX5
  | 6, q, h => by cases h; exact inX6
  | 7, q, h => by cases h; exact inX7
  | 8, q, h => by cases h; exact inX8
  | 9, q, h => by cases h; exact inX9
  | 10, q, h => by cases h; exact inX10
  | 11, q, h => by cases h; exact inX11
  | 12, q, h => by cases h; exact inX12
  | k + 13, q, h => by simp [clX] at h
theorem clX_in {ci : Nat} {C : String} {T : u_T} {N : Nat} (h : clX[ci]? = some (C, T, N)) : ∀ w ∈ u_ws C T N, w ∈ tb := clX_in0 ci _ h
def tyL : List (Nat → FieldType) := [tyX0, tyX1, tyX2, tyX3, tyX4, tyX5, tyX6, tyX7, tyX8, tyX9, tyX10, tyX11, tyX12]
theorem clX_ty0 : ∀ (ci : Nat) (q : vw_C), clX[ci]? = some q → (∀ k, k < q.2.2 → parseFieldDescriptor (q.2.1 k).2.2.1 = some (tyL.getD ci (fun _ => .int) k)) ∧ ∀ a, a < q.2.2 → ∀ b, b < q.2.2 → a ≠ b → (q.2.1 a).2.1 ≠ (q.2.1 b).2.1
  | 0, q, h => by cases h; exact ⟨tyX0_ok, nmX0⟩
  | 1, q, h => by cases h; exact ⟨tyX1_ok, nmX1⟩
  | 2, q, h => by cases h; exact ⟨fun k hk => absurd hk (Nat.not_lt_zero k), fun a ha => absurd ha (Nat.not_lt_zero a)⟩
  | 3, q, h => by cases h; exact ⟨tyX3_ok, nmX3⟩
  | 4, q, h => by cases h; exact ⟨tyX4_ok, nmX4⟩
  | 5, q, h => by cases h; exact ⟨tyX5_ok, nmX5⟩
  | 6, q, h => by cases h; exact ⟨tyX6_ok, nmX6⟩
  | 7, q, h => by cases h; exact ⟨tyX7_ok, nmX7⟩
  | 8, q, h => by cases h; exact ⟨tyX8_ok, nmX8⟩
  | 9, q, h => by cases h; exact ⟨tyX9_ok, nmX9⟩
  | 10, q, h => by cases h; exact ⟨tyX10_ok, nmX10⟩
  | 11, q, h => by cases h; exact ⟨tyX11_ok, nmX11⟩
  | 12, q, h => by cases h; exact ⟨tyX12_ok, nmX12⟩
  | k + 13, q, h => by simp [clX] at h
theorem clX_ty {ci : Nat} {C : String} {T : u_T} {N : Nat} (h : clX[ci]? = some (C, T, N)) : (∀ k, k < N → parseFieldDescriptor (T k).2.2.1 = some (tyL.getD ci (fun _ => .int) k)) ∧ ∀ a, a < N → ∀ b, b < N → a ≠ b → (T a).2.1 ≠ (T b).2.1 := clX_ty0 ci _ h
/-- launch; classes and slots; the class of an array of a type; addresses of cells (100 + i: the model's words); the words' bytes -/
abbrev Gt : Type := Launch × va_G × (FieldType → ClassId) × (Nat → Nat) × (Nat → Nat)
def gl (G : Gt) : Launch := G.1
def gD (G : Gt) : va_G := G.2.1
def gc (G : Gt) : FieldType → ClassId := G.2.2.1
def ga (G : Gt) : Nat → Nat := G.2.2.2.1
def gv (G : Gt) : Nat → Nat := G.2.2.2.2
def rv (ad : Nat → Nat) : Value → Value
  | .ref k => .ref (ad k)
  | v => v
theorem rv_cat (ad : Nat → Nat) (v : Value) : (rv ad v).category = v.category := by cases v <;> rfl
def eA (G : Gt) (M : Mem) (k : Nat) (ty : FieldType) (n : Nat) : va_E := .inl (gc G ty, n, match ty with
  | .long => .inr (.inl (fun j => gL M k j))
  | _ => .inl (fun j => J (gI M k j)))
def eV (G : Gt) (M : Mem) (k f : Nat) (kd : Nat) : Value := match kd with
  | 0 => .int (J (gI M k f))
  | 1 => .long (gL M k f)
  | 2 => .ref (ga G (rt k f))
  | _ => .ref (ga G (gR M k f))
def eF (G : Gt) (M : Mem) (k ci : Nat) : List Value := (List.range (ftL.getD ci []).length).map (fun f => eV G M k f (fk ci f))
def eC (G : Gt) (M : Mem) (k : Nat) : va_E := match shL[k]? with
  | some (.inl (ty, n)) => eA G M k ty n
  | some (.inr ci) => .inr (ci, eF G M k ci)
  | none => .inr (0, [])
def wsO (G : Gt) (M : Mem) : va_W := (List.range nC).map (fun k => (ga G k, eC G M k))
def Wd (G : Gt) (M : Mem) (H : Heap) : Prop := va_P (gD G) clX (wsO G M) H
def gA (G : Gt) : Nat → Prop := fun q => ∃ k, k < nC ∧ q = ga G k
def gT (G : Gt) : List (ClassId × FieldType) := [(gc G .int, .int), (gc G .byte, .byte), (gc G .long, .long), (gc G .boolean, .boolean)]
theorem ws_at (G : Gt) (M : Mem) {k : Nat} (hk : k < nC) : (wsO G M)[k]? = some (ga G k, eC G M k) := by
  unfold wsO; rw [List.getElem?_map, List.getElem?_range hk]; rfl
theorem ws_len (G : Gt) (M : Mem) : (wsO G M).length = nC := by unfold wsO; rw [List.length_map, List.length_range]
theorem sh_lt {k : Nat} {x : Sh} (h : shL[k]? = some x) : k < nC := by
  have h1 := (List.getElem?_eq_some_iff.mp h).1
  exact h1
theorem eC_congr {G : Gt} {M N : Mem} {k : Nat} (h1 : gI N k = gI M k) (h2 : gL N k = gL M k) (h3 : gR N k = gR M k) : eC G N k = eC G M k := by
  unfold eC eA eF eV
  rw [h1, h2, h3]
theorem ws_set {G : Gt} {M N : Mem} {k : Nat} {x : va_E} (hk : k < nC) (hx : eC G N k = x) (h1 : ∀ a, a ≠ k → gI N a = gI M a) (h2 : ∀ a, a ≠ k → gL N a = gL M a) (h3 : ∀ a, a ≠ k → gR N a = gR M a) : (wsO G M).set k (ga G k, x) = wsO G N := by
  apply List.ext_getElem?
  intro j
  by_cases hj : j < nC
  · rw [ws_at G N hj, List.getElem?_set]
    by_cases e : k = j
    · subst e
      rw [if_pos rfl, if_pos (by rw [ws_len]; exact hk), hx]
    · rw [if_neg e, ws_at G M hj, eC_congr (h1 j (Ne.symm e)) (h2 j (Ne.symm e)) (h3 j (Ne.symm e))]
  · rw [List.getElem?_eq_none (by rw [List.length_set, ws_len]; omega), List.getElem?_eq_none (by rw [ws_len]; omega)]
/-! what is known of the machine in every frame -/
def strL : List (Nat × String) := [(179, "town"), (181, "road"), (182, "judge"), (184, "quarrel"), (186, "case"), (164, "civil"), (170, "crime"), (172, "family"), (174, "land"), (188, "bars")]
def strLen : List Nat := [4, 4, 5, 7, 4, 5, 5, 6, 4, 4]
def strByt : List (List Int32) := [[116, 111, 119, 110], [114, 111, 97, 100], [106, 117, 100, 103, 101], [113, 117, 97, 114, 114, 101, 108], [99, 97, 115, 101], [99, 105, 118, 105, 108], [99, 114, 105, 109, 101], [102, 97, 109, 105, 108, 121], [108, 97, 110, 100], [98, 97, 114, 115]]
def strX : List (Nat × String) := [(121, "no such judge"), (139, "nothing such of a judge"), (144, "no such case"), (167, "nothing such of a case"), (264, "no such town")]
def iniN (C : String) : MethodName := { cls := C, name := "<init>", desc := "(Ljava/lang/String;)V" }
def nse : String := "java/util/NoSuchElementException"
/-- what a throw and the words' own classes ask of the machine -/
def Ky (G : Gt) (U : State) (H : Heap) : Prop :=
  (∃ v : Value, (v = .null ∨ v = .ref 120) ∧ va_Z "jdk/internal/util/Preconditions" "SIOOBE_FORMATTER" "Ljava/util/function/BiFunction;" (rv (ga G) v) (gA G) U H) ∧
  (∀ i : Nat, i < 10 → ga G (110 + i) = gv G i) ∧
  vx_Zq Bundle.tN "UNASSIGNED_STACK" Bundle.steD (gA G) U H ∧ vx_Zq Bundle.tN "SUPPRESSED_SENTINEL" Bundle.listD (gA G) U H ∧
  (∀ (i : Nat) (q : Nat × String), strX[i]? = some q → vk_R RX11 q.1 q.2 (ga G (130 + i)) U) ∧
  va_Nw (.declares (iniN "java/lang/RuntimeException")) U ∧ va_Nw (.declares (iniN "java/lang/Exception")) U ∧ va_Nw (.declares (iniN "java/lang/Throwable")) U ∧ va_Nw (.castable nse nse) U
theorem Ky.warm {G : Gt} {s U : State} {H H1 : Heap} (h : Ky G s H) (hW : s.WarmedH U.vm) (hq : ∀ a : Nat, a < H.size → ¬ gA G a → H1[a]? = H[a]?) : Ky G U H1 := by
  obtain ⟨⟨v, h1, h2⟩, h3, h4, h5, h6, h7, h8, h9, h10⟩ := h
  exact ⟨⟨v, h1, (va_Z.moved hW.alike h2).kept hq⟩, h3, (vx_Zq.moved hW.alike h4).kept hq, (vx_Zq.moved hW.alike h5).kept hq, fun i q hi => vk_R.warm hW (h6 i q hi), va_Nw.warmD hW h7, va_Nw.warmD hW h8, va_Nw.warmD hW h9, va_Nw.warmC hW h10⟩
theorem Ky.same {G : Gt} {s U : State} {H : Heap} (h : Ky G s H) (hv : U.vm = s.vm) : Ky G U H := by
  have ha : s.vm.Alike U.vm := by rw [hv]; exact Vm.Alike.refl s.vm
  obtain ⟨⟨v, h1, h2⟩, h3, h4, h5, h6, h7, h8, h9, h10⟩ := h
  exact ⟨⟨v, h1, va_Z.moved ha h2⟩, h3, vx_Zq.moved ha h4, vx_Zq.moved ha h5, fun i q hi => vk_R.same hv (h6 i q hi), va_Nw.same rfl hv.symm h7, va_Nw.same rfl hv.symm h8, va_Nw.same rfl hv.symm h9, va_Nw.same rfl hv.symm h10⟩
def Kx (G : Gt) (U : State) (H : Heap) : Prop :=
  va_K (gD G) clX (gT G) U ∧ (∀ i j : Nat, i < nC → j < nC → ga G i = ga G j → i = j) ∧
  vk_S 10 strLen strByt (fun i => ga G (100 + i)) (gv G) (gA G) U H ∧
  (∀ (i : Nat) (q : Nat × String), strL[i]? = some q → vk_R RX12 q.1 q.2 (ga G (100 + i)) U) ∧
  va_Z "java/lang/String" "COMPACT_STRINGS" "Z" (.int 1) (gA G) U H ∧ Ky G U H
theorem Kx.warm {G : Gt} {s U : State} {H H1 : Heap} (h : Kx G s H) (hW : s.WarmedH U.vm) (hq : ∀ a : Nat, a < H.size → ¬ gA G a → H1[a]? = H[a]?) : Kx G U H1 :=
  ⟨va_K.moved hW.alike h.1, h.2.1, (vk_S.moved hW.alike h.2.2.1).kept hq, fun i q hi => vk_R.warm hW (h.2.2.2.1 i q hi), (va_Z.moved hW.alike h.2.2.2.2.1).kept hq, h.2.2.2.2.2.warm hW hq⟩
theorem Kx.same {G : Gt} {s U : State} {H : Heap} (h : Kx G s H) (hv : U.vm = s.vm) : Kx G U H := by
  have ha : s.vm.Alike U.vm := by rw [hv]; exact Vm.Alike.refl s.vm
  exact ⟨va_K.moved ha h.1, h.2.1, vk_S.moved ha h.2.2.1, fun i q hi => vk_R.same hv (h.2.2.2.1 i q hi), va_Z.moved ha h.2.2.2.2.1, h.2.2.2.2.2.same hv⟩
theorem wsD (G : Gt) (M : Mem) (h : ∀ i j : Nat, i < nC → j < nC → ga G i = ga G j → i = j) : va_D (gA G) (wsO G M) := by
  refine ⟨fun i j p q hi hj e => ?_, fun k q hk => ?_⟩
  · have li : i < nC := by have := (List.getElem?_eq_some_iff.mp hi).1; rw [ws_len] at this; exact this
    have lj : j < nC := by have := (List.getElem?_eq_some_iff.mp hj).1; rw [ws_len] at this; exact this
    rw [ws_at G M li] at hi
    rw [ws_at G M lj] at hj
    cases hi; cases hj
    exact h i j li lj e
  · have li : k < nC := by have := (List.getElem?_eq_some_iff.mp hk).1; rw [ws_len] at this; exact this
    rw [ws_at G M li] at hk
    cases hk
    exact ⟨k, li, rfl⟩
def LvOk (ad : Nat → Nat) (n : Nat) (lsR : Array Slot) (ls : List (Option Value)) : Prop :=
  lsR.size = n ∧ lv_wf lsR ∧ ∀ (i : Nat) (v : Value), ls[i]? = some (some v) → lsR[i]? = some (.val (rv ad v))
def rmD (d : Nat) : Room := { frames := d, cells := 0, slots := 0, locals := 64 * d }
def Cx (G : Gt) (k : Mth) (p : Program) (s : State) (m : MethodId) (args : Array Value) (meth : Method) (c : Code) : Prop :=
  p.tables.exec = Jvm.exec ∧ c.code = k.2.2.1 ∧ c.maxLocals = k.2.2.2.1 ∧ meth.sig.returnType = k.2.2.2.2.1 ∧ meth.locks = false ∧ s.vm.findClass k.1 = some m.cls ∧ (∀ w ∈ tb, w.before args s = true) ∧ Kx G s s.heap ∧ ∀ q ∈ k.2.2.2.2.2, decode k.2.2.1 q.1 = .ok (q.2.1, q.2.2)
def QV (G : Gt) (Q : Option Value → Mem → Prop) : Array Value → State → Outcome → State → Prop := fun _ st oc t =>
  (∃ (r : Option Value) (M : Mem), oc = .returned (r.map (rv (ga G))) ∧ Q r M ∧ Wd G M t.heap) ∧ va_F (gA G) st t
/-- from the instruction at pc of method k, with these locals, this stack and this memory, k returns r with memory M' such that Q r M' -/
def V (G : Gt) (d : Nat) (k : Mth) (pc : Nat) (ls : List (Option Value)) (st : List Value) (M : Mem) (Q : Option Value → Mem → Prop) : Prop :=
  ∀ (p : Program) (e : Env) (s : State) (m : MethodId) (args : Array Value) (below : List Frame) (meth : Method) (c : Code), Cx G k p s m args meth c →
    ∀ (H : Heap) (locs : List Loc), Wd G M H → va_S (gA G) s.heap H locs → ∀ lsR : Array Slot, LvOk (ga G) k.2.2.2.1 lsR ls →
      W p (gl G) e (rmD d) s m args below meth c H locs 0 0 (MQ below (QV G Q) args s 0 0 (gA G)) (F0 m pc lsR (st.map (rv (ga G))))
