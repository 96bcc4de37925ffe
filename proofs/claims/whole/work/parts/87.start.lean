/-! 87: what the start gives -/
theorem kn_one {args : Array Value} {s : State} (hts : ∀ w ∈ tb, w.before args s = true) : ∀ c : Nat, ∃ p : ClassId × (Nat → Nat), ∀ q : vw_C, clX[c]? = some q → u_Kn s q.1 q.2.1 q.2.2 p.1 p.2
  | 0 => by
    obtain ⟨a, b, h⟩ := u_known (C := RX0) (T := TX0) (N := 6) (n := 6) hts (clX_in (ci := 0) rfl) (hts (.instantiable RX0 6) (tb_mem 414 (by decide +kernel) (by decide +kernel)))
    exact ⟨(a, b), fun q hq => by cases hq; exact h⟩
  | 1 => by
    obtain ⟨a, b, h⟩ := u_known (C := RX1) (T := TX1) (N := 9) (n := 9) hts (clX_in (ci := 1) rfl) (hts (.instantiable RX1 9) (tb_mem 318 (by decide +kernel) (by decide +kernel)))
    exact ⟨(a, b), fun q hq => by cases hq; exact h⟩
  | 2 => by
    obtain ⟨a, b, h⟩ := u_known (C := RX0) (T := TX2) (N := 0) (n := 6) hts (clX_in (ci := 2) rfl) (hts (.instantiable RX0 6) (tb_mem 414 (by decide +kernel) (by decide +kernel)))
    exact ⟨(a, b), fun q hq => by cases hq; exact h⟩
  | 3 => by
    obtain ⟨a, b, h⟩ := u_known (C := RX3) (T := TX3) (N := 4) (n := 4) hts (clX_in (ci := 3) rfl) (hts (.instantiable RX3 4) (tb_mem 275 (by decide +kernel) (by decide +kernel)))
    exact ⟨(a, b), fun q hq => by cases hq; exact h⟩
  | 4 => by
    obtain ⟨a, b, h⟩ := u_known (C := RX4) (T := TX4) (N := 13) (n := 13) hts (clX_in (ci := 4) rfl) (hts (.instantiable RX4 13) (tb_mem 117 (by decide +kernel) (by decide +kernel)))
    exact ⟨(a, b), fun q hq => by cases hq; exact h⟩
  | 5 => by
    obtain ⟨a, b, h⟩ := u_known (C := RX5) (T := TX5) (N := 3) (n := 3) hts (clX_in (ci := 5) rfl) (hts (.instantiable RX5 3) (tb_mem 398 (by decide +kernel) (by decide +kernel)))
    exact ⟨(a, b), fun q hq => by cases hq; exact h⟩
  | 6 => by
    obtain ⟨a, b, h⟩ := u_known (C := RX6) (T := TX6) (N := 6) (n := 6) hts (clX_in (ci := 6) rfl) (hts (.instantiable RX6 6) (tb_mem 369 (by decide +kernel) (by decide +kernel)))
    exact ⟨(a, b), fun q hq => by cases hq; exact h⟩
  | 7 => by
    obtain ⟨a, b, h⟩ := u_known (C := RX7) (T := TX7) (N := 2) (n := 2) hts (clX_in (ci := 7) rfl) (hts (.instantiable RX7 2) (tb_mem 324 (by decide +kernel) (by decide +kernel)))
    exact ⟨(a, b), fun q hq => by cases hq; exact h⟩
  | 8 => by
    obtain ⟨a, b, h⟩ := u_known (C := RX8) (T := TX8) (N := 4) (n := 4) hts (clX_in (ci := 8) rfl) (hts (.instantiable RX8 4) (tb_mem 241 (by decide +kernel) (by decide +kernel)))
    exact ⟨(a, b), fun q hq => by cases hq; exact h⟩
  | 9 => by
    obtain ⟨a, b, h⟩ := u_known (C := RX9) (T := TX9) (N := 4) (n := 4) hts (clX_in (ci := 9) rfl) (hts (.instantiable RX9 4) (tb_mem 203 (by decide +kernel) (by decide +kernel)))
    exact ⟨(a, b), fun q hq => by cases hq; exact h⟩
  | 10 => by
    obtain ⟨a, b, h⟩ := u_known (C := RX10) (T := TX10) (N := 7) (n := 7) hts (clX_in (ci := 10) rfl) (hts (.instantiable RX10 7) (tb_mem 209 (by decide +kernel) (by decide +kernel)))
    exact ⟨(a, b), fun q hq => by cases hq; exact h⟩
  | 11 => by
    obtain ⟨a, b, h⟩ := u_known (C := RX11) (T := TX11) (N := 10) (n := 10) hts (clX_in (ci := 11) rfl) (hts (.instantiable RX11 10) (tb_mem 109 (by decide +kernel) (by decide +kernel)))
    exact ⟨(a, b), fun q hq => by cases hq; exact h⟩
  | 12 => by
    obtain ⟨a, b, h⟩ := u_known (C := RX12) (T := TX12) (N := 48) (n := 48) hts (clX_in (ci := 12) rfl) (hts (.instantiable RX12 48) (tb_mem 1064 (by decide +kernel) (by decide +kernel)))
    exact ⟨(a, b), fun q hq => by cases hq; exact h⟩
  | k + 13 => ⟨(0, fun _ => 0), fun q hq => by simp [clX] at hq⟩
theorem kn_all {args : Array Value} {s : State} (hts : ∀ w ∈ tb, w.before args s = true) : ∃ D9 : va_G, ∀ (c : Nat) (q : vw_C), clX[c]? = some q → u_Kn s q.1 q.2.1 q.2.2 (D9.1 c) (D9.2 c) :=
  ⟨(fun c => (Classical.choose (kn_one hts c)).1, fun c => (Classical.choose (kn_one hts c)).2), fun c q hq => Classical.choose_spec (kn_one hts c) q hq⟩
theorem arr_one {args : Array Value} {s : State} {ty : FieldType} (h : (Cond.arrayClass ty).before args s = true) (hra : ∀ cA : ClassId, s.vm.findClass ("[" ++ ty.toString) = some cA → va_RA s cA ty) : ∃ cA : ClassId, ArrOfT s cA ty ∧ va_RA s cA ty := by
  obtain ⟨cA, kA, comp, h1, h2, h3⟩ := Cond.arrayClass_spec h
  exact ⟨cA, fun n z => ⟨fun k h => (by cases h), kA, h2, comp, h3⟩, hra cA h1⟩
theorem arr_all {args : Array Value} {s : State} (hts : ∀ w ∈ tb, w.before args s = true) : ∃ gc9 : FieldType → ClassId, ∀ (k : Nat) (q : ClassId × FieldType), [(gc9 .int, FieldType.int), (gc9 .byte, .byte), (gc9 .long, .long), (gc9 .boolean, .boolean)][k]? = some q → ArrOfT s q.1 q.2 ∧ va_RA s q.1 q.2 := by
  obtain ⟨c1, h1⟩ := arr_one (hts _ ac_int) (fun _ h => h)
  obtain ⟨c2, h2⟩ := arr_one (hts _ ac_byte) (fun _ h => h)
  obtain ⟨c3, h3⟩ := arr_one (hts _ ac_long) (fun _ h => h)
  obtain ⟨c4, h4⟩ := arr_one (hts _ ac_boolean) (fun _ h => h)
  refine ⟨fun ty => match ty with | .int => c1 | .byte => c2 | .long => c3 | _ => c4, fun k q hq => ?_⟩
  match k, hq with
  | 0, hq => cases hq; exact h1
  | 1, hq => cases hq; exact h2
  | 2, hq => cases hq; exact h3
  | 3, hq => cases hq; exact h4
  | k + 4, hq => simp at hq
theorem vk_S.cg {N : Nat} {len : List Nat} {byt : List (List Int32)} {adK adK9 adV : Nat → Nat} {A : Nat → Prop} {U : State} {H : Heap} (h : vk_S N len byt adK adV A U H) (he : ∀ i, i < N → adK9 i = adK i) : vk_S N len byt adK9 adV A U H :=
  ⟨fun i hi => by rw [he i hi]; exact h.1 i hi, fun i j hi hj e => h.2 i j hi hj (by rw [← he i hi, ← he j hj]; exact e)⟩
/-- the words that are no table's, and the strings -/
abbrev lvS : List Cond := flatC (Jvm.Cond.and given_1 narrow_1)
def tmS (i : Nat) : Term := .string "SisterCourtsModel" (strL.getD i (0, "")).1
def tmX (i : Nat) : Term := .string "SisterCourts" (strX.getD i (0, "")).1
theorem s_ex : ∀ i : Nat, i < 10 → Cond.exactly (tmS i) "java/lang/String" ∈ lvS := by decide +kernel
theorem s_co : ∀ i : Nat, i < 10 → Cond.eq (.field (tmS i) "java/lang/String" "coder" "B") (.int 0) ∈ lvS := by decide +kernel
theorem s_ar : ∀ i : Nat, i < 10 → Cond.arrayOf (.field (tmS i) "java/lang/String" "value" "[B") .byte ∈ lvS := by decide +kernel
theorem s_le : ∀ i : Nat, i < 10 → Cond.eq (.length (.field (tmS i) "java/lang/String" "value" "[B")) (.int (Int32.ofNat (strLen.getD i 0))) ∈ lvS := by decide +kernel
theorem s_el : ∀ i : Nat, i < 10 → ∀ j : Nat, j < strLen.getD i 0 → Cond.eq (.elem (.field (tmS i) "java/lang/String" "value" "[B") (.int (Int32.ofNat j))) (.int ((strByt.getD i []).getD j 0)) ∈ lvS := by decide +kernel
theorem s_ne : ∀ i : Nat, i < 10 → ∀ j : Nat, j < 10 → i ≠ j → Cond.not (Cond.eq (tmS i) (tmS j)) ∈ lvS ∨ Cond.not (Cond.eq (tmS j) (tmS i)) ∈ lvS := by decide +kernel
theorem x_ex : ∀ i : Nat, i < 5 → Cond.exactly (tmX i) "java/lang/String" ∈ lvS := by decide +kernel
theorem s_sr : ∀ i : Nat, i < 10 → Cond.stringRef "SisterCourtsModel" (strL.getD i (0, "")).1 (strL.getD i (0, "")).2 ∈ lw_tbl := by decide +kernel
theorem x_sr : ∀ i : Nat, i < 5 → Cond.stringRef "SisterCourts" (strX.getD i (0, "")).1 (strX.getD i (0, "")).2 ∈ lw_tbl := by decide +kernel
/-- what the start gives, for the area of what is made -/
def St0 (adK adV adX : Nat → Nat) (a120 : Nat) (s : State) : Prop :=
  vk_S 10 strLen strByt adK adV (fun q => s.heap.size ≤ q) s s.heap ∧ (∀ (i : Nat) (q : Nat × String), strL[i]? = some q → vk_R RX12 q.1 q.2 (adK i) s) ∧ va_Z "java/lang/String" "COMPACT_STRINGS" "Z" (.int 1) (fun q => s.heap.size ≤ q) s s.heap ∧
  (va_Z "jdk/internal/util/Preconditions" "SIOOBE_FORMATTER" "Ljava/util/function/BiFunction;" .null (fun q => s.heap.size ≤ q) s s.heap ∨ va_Z "jdk/internal/util/Preconditions" "SIOOBE_FORMATTER" "Ljava/util/function/BiFunction;" (.ref a120) (fun q => s.heap.size ≤ q) s s.heap) ∧
  vx_Zq Bundle.tN "UNASSIGNED_STACK" Bundle.steD (fun q => s.heap.size ≤ q) s s.heap ∧ vx_Zq Bundle.tN "SUPPRESSED_SENTINEL" Bundle.listD (fun q => s.heap.size ≤ q) s s.heap ∧
  (∀ (i : Nat) (q : Nat × String), strX[i]? = some q → vk_R RX11 q.1 q.2 (adX i) s) ∧
  va_Nw (.declares (iniN "java/lang/RuntimeException")) s ∧ va_Nw (.declares (iniN "java/lang/Exception")) s ∧ va_Nw (.declares (iniN "java/lang/Throwable")) s ∧ va_Nw (.castable nse nse) s
theorem st_all {args : Array Value} {s : State} (hts : ∀ w ∈ lw_tbl, w.before args s = true) (hgv : (Jvm.Cond.and given_1 narrow_1).before args s = true) : ∃ (adK adV adX : Nat → Nat) (a120 : Nat), St0 adK adV adX a120 s := by
  have hs := flat_of_before _ hgv
  have hA : ∀ a : Nat, a < s.heap.size → ¬ (fun q : Nat => s.heap.size ≤ q) a := fun a ha => Nat.not_le.mpr ha
  obtain ⟨adK, adV, hS, hE⟩ := vk_Sof (args := args) (s := s) (N := 10) (tm := tmS) (len := strLen) (byt := strByt) (A := fun q => s.heap.size ≤ q) (by decide) (fun i hi => hs _ (s_ex i hi)) (fun i hi => hs _ (s_co i hi)) (fun i hi => hs _ (s_ar i hi)) (fun i hi => hs _ (s_le i hi)) (fun i hi j hj => hs _ (s_el i hi j hj)) (fun i j hi hj hn => by
    rcases s_ne i hi j hj hn with h | h
    · exact Or.inl (hs _ h)
    · exact Or.inr (hs _ h)) hA
  have hX : ∀ i : Nat, ∃ a : Nat, i < 5 → (tmX i).eval args s none [] s = some (.ref a) := fun i => by
    by_cases hi : i < 5
    · obtain ⟨a, c, cA, kA, q1, -⟩ := Cond.exactly_spec (args := args) (first := s) (o := none) (s := s) (idx := []) (t := tmX i) (cls := "java/lang/String") (hs _ (x_ex i hi))
      exact ⟨a, fun _ => q1⟩
    · exact ⟨0, fun h => absurd h hi⟩
  obtain ⟨adX, hX⟩ : ∃ adX : Nat → Nat, ∀ i : Nat, i < 5 → (tmX i).eval args s none [] s = some (.ref (adX i)) := ⟨fun i => Classical.choose (hX i), fun i hi => Classical.choose_spec (hX i) hi⟩
  obtain ⟨vP, hvP, hrP⟩ := Cond.isRef_spec (args := args) (first := s) (s := s) (o := none) (idx := []) (t := .static "jdk/internal/util/Preconditions" "SIOOBE_FORMATTER" "Ljava/util/function/BiFunction;") (hs _ (by decide +kernel))
  obtain ⟨a120, hP⟩ : ∃ a : Nat, vP = .null ∨ vP = .ref a := by
    cases vP with
    | null => exact ⟨0, Or.inl rfl⟩
    | ref a => exact ⟨a, Or.inr rfl⟩
    | _ => simp [Value.isRef] at hrP
  have hPz : va_Z "jdk/internal/util/Preconditions" "SIOOBE_FORMATTER" "Ljava/util/function/BiFunction;" vP (fun q => s.heap.size ≤ q) s s.heap := va_Zof (hts _ (List.mem_of_getElem? (i := 1284) (by decide +kernel))) (hts _ (List.mem_of_getElem? (i := 97) (by decide +kernel))) hvP hA
  refine ⟨adK, adV, adX, a120, hS, fun i q hq => ?_, va_Zof (hts _ (List.mem_of_getElem? (i := 1268) (by decide +kernel))) (hts _ (List.mem_of_getElem? (i := 95) (by decide +kernel))) (va_eqt (hs _ (by decide +kernel))) hA, ?_, vx_Zqof (hts _ (List.mem_of_getElem? (i := 1006) (by decide +kernel))) (hts _ (List.mem_of_getElem? (i := 99) (by decide +kernel))) (hs _ (by decide +kernel)) hA, vx_Zqof (hts _ (List.mem_of_getElem? (i := 1008) (by decide +kernel))) (hts _ (List.mem_of_getElem? (i := 99) (by decide +kernel))) (hs _ (by decide +kernel)) hA, fun i q hq => ?_, va_Nw.of rfl (hts _ (List.mem_of_getElem? (i := 983) (by decide +kernel))), va_Nw.of rfl (hts _ (List.mem_of_getElem? (i := 985) (by decide +kernel))), va_Nw.of rfl (hts _ (List.mem_of_getElem? (i := 987) (by decide +kernel))), va_Nw.of rfl (hts _ (List.mem_of_getElem? (i := 981) (by decide +kernel)))⟩
  · have hi : i < 10 := (List.getElem?_eq_some_iff.mp hq).1
    have h1 := hts _ (s_sr i hi)
    have h2 := hE i hi
    unfold tmS at h2
    rw [List.getD_eq_getElem?_getD, hq] at h1 h2
    exact vk_R.of h1 h2
  · rcases hP with rfl | rfl
    · exact Or.inl hPz
    · exact Or.inr hPz
  · have hi : i < 5 := (List.getElem?_eq_some_iff.mp hq).1
    have h1 := hts _ (x_sr i hi)
    have h2 := hX i hi
    unfold tmX at h2
    rw [List.getD_eq_getElem?_getD, hq] at h1 h2
    exact vk_R.of h1 h2
theorem nst_all {args : Array Value} {s : State} (hts : ∀ w ∈ lw_tbl, w.before args s = true) : Nst s := by
  intro q hq
  have h : ∀ q ∈ nestL, Cond.methodLinkNest q.1 q.2.1 q.2.2 "SisterCourts" ∈ lw_tbl := by decide +kernel
  exact va_Nw.of rfl (hts _ (h q hq))
