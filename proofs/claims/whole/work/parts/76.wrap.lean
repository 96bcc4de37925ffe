/-! 76: the law's methods that catch -/
def XW (G : Gt) (Q : Option Value → Mem → Prop) (hh : List (Nat × Nat × Nat × Nat)) : UX := (rmX 9, fun below args s => MQ below (QV G Q) args s 1 6 (gA G), fun _ => gA G, fun _ _ _ _ _ _ _ c => c.exceptionTable.toList = tableOf hh)
section WU
variable {G : Gt} {k : Mth} {nc ns pc : Nat} {ls : List (Option Value)} {M : Mem} {Q : Option Value → Mem → Prop} {hh : List (Nat × Nat × Nat × Nat)}
theorem LvOk.st0 {ad : Nat → Nat} {n f : Nat} {lsR : Array Slot} {r : Value} (ho : okSt ls f = true) (h : lv_has lsR n ((f, r) :: (lvOf ad ls).filter (fun q => !(q.1 == f) && !(q.1 + 1 == f && q.2.category == 2)))) : LvOk ad n lsR (ls.set f none) := by
  refine ⟨h.1, h.2.1, fun i w hi => ?_⟩
  rw [List.getElem?_set] at hi
  by_cases e : f = i
  · subst e
    rw [if_pos rfl] at hi
    split at hi
    · cases hi
    · cases hi
  · rw [if_neg e] at hi
    refine h.2.2 (i, rv ad w) (List.mem_cons_of_mem _ (List.mem_filter.mpr ⟨lvOf_mem.mpr ⟨w, hi, rfl⟩, ?_⟩))
    have e1 : (i == f) = false := by simpa using Ne.symm e
    show (!(i == f) && !(i + 1 == f && (rv ad w).category == 2)) = true
    rw [e1, rv_cat]
    by_cases e2 : i + 1 = f
    · subst e2
      have ho : (match ls[i]? with
        | some (some w) => w.category != 2
        | _ => true) = true := ho
      rw [hi] at ho
      simpa using ho
    · have e3 : (i + 1 == f) = false := by simpa using e2
      rw [e3]; rfl
theorem u_i2lR {X : UX} {x : Int32} {st : List Value} (i : Nat) (hd : k.2.2.2.2.2[i]? = some (pc, .i2l, 1)) (n : U G X nc ns k (pc + 1) ls (.long x.toInt64 :: st) M) : U G X nc ns k pc ls (.int x :: st) M := by
  intro p e s m args below meth c C E9 F9 H locs hW hS lsR hl
  obtain ⟨hx, hb, hml, hr, hlk, hown, hts, hK, hdc⟩ := id C
  have hdg := hdc _ (List.mem_of_getElem? hd)
  have n9 := n p e s m args below meth c C E9 F9 H locs hW hS lsR hl
  exact lv_i2l hx hb hdg rfl n9
theorem u_iretW {x : Int32} (i : Nat) (hd : k.2.2.2.2.2[i]? = some (pc, .ireturn, 1)) (hk : k.2.2.2.2.1 = some .int) (h1 : nc ≤ 1) (h2 : ns ≤ 6) (hQ : Q (some (.int x)) M) : U G (XW G Q hh) nc ns k pc ls [.int x] M := by
  intro p e s m args below meth c C E9 F9 H locs hW hS lsR hl
  obtain ⟨hx, hb, hml, hr, hlk, hown, hts, hK, hdc⟩ := id C
  have hdg := hdc _ (List.mem_of_getElem? hd)
  refine W.widen h1 h2 ?_
  exact W.iret hx hb (hr.trans hk) (fun t ht hw => ⟨⟨some (.int x), M, rfl, hQ, by rw [ht]; exact hW⟩, hS.F ht⟩) hS.2.2 hdg hlk
theorem U.metW (hy : plainName k.2.1.cls = true ∧ k.2.1.cls = k.1) (hdc : ∀ q ∈ k.2.2.2.2.2, decode k.2.2.1 q.1 = .ok (q.2.1, q.2.2)) {As : List Value} (hlen : (entL As).length ≤ k.2.2.2.1) (h : U G (XW G Q hh) 0 0 k 0 (ent k.2.2.2.1 As) [] M) : Met (gl G) k.2.1 (Cond.codeWith k.2.1 k.2.2.1 k.2.2.2.1 k.2.2.2.2.1 hh :: tb) (rmX 9) (PcK G As M) (QV G Q) 1 6 (gA G) := by
  refine va_MetW (cc := k.2.2.1) (maxL := k.2.2.2.1) (ret := k.2.2.2.2.1) (hh := hh) hy.1 rfl ?_
  intro p e s m args below meth c s₁ B hml hv
  obtain ⟨rfl, hW, hK⟩ := hv
  have hts := atoms_spec (ws := Cond.codeWith k.2.1 k.2.2.1 k.2.2.2.1 k.2.2.2.2.1 hh :: tb) B.pre
  have hown : s.vm.findClass k.2.1.cls = some m.cls := findClass_of_methodNamed B.named
  rw [hy.2] at hown
  have ht := vx_table (x := k.2.1) B (hts _ List.mem_cons_self)
  rw [lg_entry_eq]
  exact h p e s m _ below meth c ⟨B.exec, B.bytes, hml, B.returns, B.notSynchronized, hown, fun w hw => hts w (List.mem_cons_of_mem _ hw), hK, hdc⟩ ht (fun q hq => hq) s.heap [] hW va_S.rf _ (ent_ok (ga G) _ As hlen)
theorem u_catchV {k2 : Mth} {ci n x b : Nat} {As rest : List Value} (hp : Nat × Nat × Nat × Nat) (i : Nat) (hd : k.2.2.2.2.2[i]? = some (pc, .invokevirtual x, 3)) (hc : CV k.1 x k2 ci n) (hn : As.length = n) (hs : shL[b]? = some (.inr ci)) (hr : (rest.map fun v => v.category).sum ≤ 8) (hlen : (entL (.ref b :: As)).length ≤ k2.2.2.2.1)
    (hcov : covers ⟨hp.1, hp.2.1, hp.2.2.1, hp.2.2.2⟩ pc = true) (h00 : hp.2.2.2 ≠ 0) (hlink : Cond.classLink k.1 hp.2.2.2 nse ∈ tb)
    (hT : U G (XT G 8 M) 0 0 k2 0 (ent k2.2.2.2.1 (.ref b :: As)) [] M)
    (nx : ∀ (p : Program) (e : Env) (s : State) (m : MethodId) (args : Array Value) (below : List Frame) (meth : Method) (c : Code), Cx G k p s m args meth c → c.exceptionTable.toList = tableOf [hp] → ∀ (H : Heap) (locs : List Loc), Wd G M H → va_S (gA G) s.heap H locs → ∀ lsR : Array Slot, LvOk (ga G) k.2.2.2.1 lsR ls → ∀ q : Nat, W p (gl G) e (rmX 9) s m args below meth c H locs 1 6 (MQ below (QV G Q) args s 1 6 (gA G)) (F0 m hp.2.2.1 lsR [.ref q])) : U G (XW G Q [hp]) 0 0 k pc ls (As.reverse ++ .ref b :: rest) M := by
  intro p e s m args below meth c C E9 F9 H locs hW hS lsR hl
  obtain ⟨hx, hb, hml, hr9, hlk, hown, hts, hK, hdc⟩ := id C
  have hdg := hdc _ (List.mem_of_getElem? hd)
  obtain ⟨hM, ⟨T9, N9, hcl⟩, w1, w2, w3, w4⟩ := hc
  have hmet := U.metX hM hlen hT
  have hS0 : va_S (gA G) s.heap H locs := hS
  have hst : (As.reverse ++ .ref b :: rest).map (rv (ga G)) = (As.map (rv (ga G))).reverse ++ .ref (ga G b) :: rest.map (rv (ga G)) := by
    rw [List.map_append, List.map_reverse]; rfl
  have hcw : CallW (rmX 9) s args k.1 k2.1 x k2.2.1 k2.2.2.1 k2.2.2.2.1 k2.2.2.2.2.1 (wsK k2) (rmX 8) 1 6 n := by
    refine cwV n hts (gi_tb ?_) rfl rfl rfl ⟨hM.2.1, hM.2.2.2.2.2.1.1, hM.2.2.2.2.2.1.2, w4⟩ ⟨Nat.le_refl 9, ?_⟩
    · intro w hw
      unfold wsV at hw
      rcases List.mem_append.mp hw with h | h
      · simp only [List.mem_cons, List.not_mem_nil, or_false] at h
        rcases h with rfl | rfl | rfl | rfl
        · exact w1
        · exact w2
        · exact w3
        · exact hM.2.2.2.2.1
      · exact wsK_in hM w h
    · have := hM.2.2.2.2.2.2
      show 8 + (k2.2.2.2.1 + 11) + 64 * 8 ≤ 64 * 9
      omega
  rw [hst]
  have hrun := vx_runV (p := p) (l := gl G) (e := e) (R := rmX 9) (below := below) (meth := meth) (locs := locs) (cells := 0) (slots := 0) (g := F0 m pc lsR ((As.map (rv (ga G))).reverse ++ .ref (ga G b) :: rest.map (rv (ga G)))) (As := As.map (rv (ga G))) (rest := rest.map (rv (ga G))) ⟨hx, hb, hml, hown, hts⟩ hmet hcw ⟨PcK_blind G _ M, va_recv hK.1 hW hcl (ws_obj hs), fun U hU hw => ⟨rfl, by rw [hU]; exact hW, by rw [hU]; exact hK.warm hw hS0.2.1⟩⟩ rfl (by rw [List.length_map]; exact hn) hl.1 rfl (lv_room (by rw [cat_map]; exact hr)) hdg ⟨Nat.le_refl 1, Nat.le_refl 6⟩
  intro T hT9 X9
  rcases hrun T hT9 X9 with ⟨v, st₀, t, T', L, h0, X', hL, e1, e2, ⟨⟨r, N, hv, hq, hwd⟩, -⟩, stp⟩ | ⟨q, st₀, t, T', L, E, ce, h0, X', hL, e1, e2, ⟨u, hpx, ⟨hE, hwd⟩, hF⟩, hce, hcv, hcl9, stp⟩
  · exact hq.elim
  · subst hE
    obtain ⟨k1, k2', k3⟩ := vx_keep (A0 := gA G) (A1 := gA G) (free := gA G) h0 e1 hS0 (fun q _ h => h) (fun q h => h) hL hF
    have hcast : (Cond.castable nse nse).before args s = true := va_Nw.use rfl hK.2.2.2.2.2.2.2.2.2.2.2.2.2
    have hw9 := nx p e s m args below meth c C E9 T'.heap (locs ++ L) (by rw [e1]; exact hwd) k3 lsR hl q
    have hc9 := vx_catch (p := p) (l := gl G) (e := e) (R := rmX 9) (below := below) (meth := meth) (cells := 1) (slots := 6) (Q := MQ below (QV G Q) args s 1 6 (gA G)) (pc := pc) (ls := lsR) (rest := rest.map (rv (ga G))) (name := nse) (E := nse) (ce := ce) (q := q) hown [] ⟨hp.1, hp.2.1, hp.2.2.1, hp.2.2.2⟩ [] E9 (fun z hz => absurd hz List.not_mem_nil) hcov h00 (hts _ hlink) hcast (by rw [e1]; exact hce) hcv hcl9 hw9
    obtain ⟨t2, a1, b1⟩ := hc9 T' rfl X'
    exact ⟨t2, stp.trans a1, b1⟩
theorem u_hand {f i2 hpc : Nat} (hd2 : k.2.2.2.2.2[i2]? = some (hpc, .astore f, 2)) (hn : f < k.2.2.2.1 ∧ okSt ls f = true) (n : U G (XW G Q hh) 1 6 k (hpc + 2) (ls.set f none) [] M) :
    ∀ (p : Program) (e : Env) (s : State) (m : MethodId) (args : Array Value) (below : List Frame) (meth : Method) (c : Code), Cx G k p s m args meth c → c.exceptionTable.toList = tableOf hh → ∀ (H : Heap) (locs : List Loc), Wd G M H → va_S (gA G) s.heap H locs → ∀ lsR : Array Slot, LvOk (ga G) k.2.2.2.1 lsR ls → ∀ q : Nat, W p (gl G) e (rmX 9) s m args below meth c H locs 1 6 (MQ below (QV G Q) args s 1 6 (gA G)) (F0 m hpc lsR [.ref q]) := by
  intro p e s m args below meth c C E9 H locs hW hS lsR hl q
  obtain ⟨hx, hb, hml, hr, hlk, hown, hts, hK, hdc⟩ := id C
  have hdg := hdc _ (List.mem_of_getElem? hd2)
  exact lv_astore hx hb hdg hl.has hn.1 rfl (fun ls9 h9 => n p e s m args below meth c C E9 (fun q hq => hq) H locs hW hS ls9 (LvOk.st0 hn.2 h9))
theorem u_handn {f : Fin 4} {i2 hpc : Nat} (hd2 : k.2.2.2.2.2[i2]? = some (hpc, .astore_n f, 1)) (hn : (f : Nat) < k.2.2.2.1 ∧ okSt ls (f : Nat) = true) (n : U G (XW G Q hh) 1 6 k (hpc + 1) (ls.set (f : Nat) none) [] M) :
    ∀ (p : Program) (e : Env) (s : State) (m : MethodId) (args : Array Value) (below : List Frame) (meth : Method) (c : Code), Cx G k p s m args meth c → c.exceptionTable.toList = tableOf hh → ∀ (H : Heap) (locs : List Loc), Wd G M H → va_S (gA G) s.heap H locs → ∀ lsR : Array Slot, LvOk (ga G) k.2.2.2.1 lsR ls → ∀ q : Nat, W p (gl G) e (rmX 9) s m args below meth c H locs 1 6 (MQ below (QV G Q) args s 1 6 (gA G)) (F0 m hpc lsR [.ref q]) := by
  intro p e s m args below meth c C E9 H locs hW hS lsR hl q
  obtain ⟨hx, hb, hml, hr, hlk, hown, hts, hK, hdc⟩ := id C
  have hdg := hdc _ (List.mem_of_getElem? hd2)
  exact lv_astore_n hx hb hdg rfl hl.has hn.1 rfl (fun ls9 h9 => n p e s m args below meth c C E9 (fun q hq => hq) H locs hW hS ls9 (LvOk.st0 hn.2 h9))
/-- the law calls a method of its own that catches -/
def CW (x : Nat) (k2 : Mth) (hh : List (Nat × Nat × Nat × Nat)) (n : Nat) : Prop := (plainName k2.2.1.cls = true ∧ k2.2.1.cls = k2.1) ∧ (∀ q ∈ k2.2.2.2.2.2, decode k2.2.2.1 q.1 = .ok (q.2.1, q.2.2)) ∧ Cond.codeWith k2.2.1 k2.2.2.1 k2.2.2.2.1 k2.2.2.2.2.1 hh ∈ tb ∧ Cond.methodLink "SisterCourtsLaw" x k2.2.1 ∈ tb ∧ Cond.static k2.2.1 ∈ tb ∧ Cond.initialized k2.2.1.cls ∈ tb ∧ (k2.2.1.cls ≠ "java/lang/invoke/MethodHandle" ∧ k2.2.1.cls ≠ "java/lang/invoke/VarHandle" ∧ (parseMethodDescriptor k2.2.1.desc).map (fun d => d.parameters.length) = some n) ∧ k2.2.2.2.1 ≤ 45
theorem u_callW {X : UX} {k2 : Mth} {n x : Nat} {As rest : List Value} {Q2 : Option Value → Mem → Prop} (i : Nat) (hd : k.2.2.2.2.2[i]? = some (pc, .invokestatic x, 3)) (hk1 : k.1 = "SisterCourtsLaw") (hc : CW x k2 hh n) (hn : As.length = n) (hr : (rest.map fun v => v.category).sum ≤ 8) (hlen : (entL As).length ≤ k2.2.2.2.1)
    (hz : Kz G X.2.2.1) (hR : (10 ≤ X.1.frames ∧ 640 ≤ X.1.locals) ∧ nc + 1 ≤ X.1.cells ∧ ns + 6 ≤ X.1.slots)
    (hV : U G (XW G Q2 hh) 0 0 k2 0 (ent k2.2.2.2.1 As) [] M) (nx : ∀ r N, Q2 r N → U G X (nc + 1) (ns + 6) k (pc + 3) ls (r.toList ++ rest) N) : U G X nc ns k pc ls (As.reverse ++ rest) M := by
  intro p e s m args below meth c C E9 F9 H locs hW hS lsR hl
  obtain ⟨hx, hb, hml, hr9, hlk, hown, hts, hK, hdc⟩ := id C
  have hdg := hdc _ (List.mem_of_getElem? hd)
  obtain ⟨c1, c2, c3, c4, c5, c6, c7, c8⟩ := hc
  have hmet := U.metW c1 c2 hlen hV
  have hst : (As.reverse ++ rest).map (rv (ga G)) = (As.map (rv (ga G))).reverse ++ rest.map (rv (ga G)) := by
    rw [List.map_append, List.map_reverse]
  rw [hk1] at hown
  have hcw := vx_cwSW (R := X.1) (s := s) (args := args) (own := "SisterCourtsLaw") (index := x) (maxL := k2.2.2.2.1) (mc := 1) (ms := 6) (y := k2.2.1) (bytes := k2.2.2.1) (ret := k2.2.2.2.2.1) (hh := hh) (Ts := tb) (ws := Cond.codeWith k2.2.1 k2.2.2.1 k2.2.2.2.1 k2.2.2.2.2.1 hh :: tb) (ws' := tb) (rm := rmX 9) n hts (gi_tb (fun w hw => by
    unfold va_wsS at hw
    rcases List.mem_append.mp hw with h | h
    · simp only [List.mem_cons, List.not_mem_nil, or_false] at h
      rcases h with rfl | rfl | rfl
      · first | exact c4 | exact c5 | exact c6
      · first | exact c4 | exact c5 | exact c6
      · first | exact c4 | exact c5 | exact c6
    · rcases List.mem_cons.mp h with rfl | h
      · exact c3
      · exact h)) rfl rfl rfl c7 ⟨hR.1.1, by
    have := hR.1.2
    show 8 + (k2.2.2.2.1 + 11) + 64 * 9 ≤ X.1.locals
    omega⟩
  rw [hst]
  refine u_back (mc := 1) (ms := 6) C E9 F9 hS hl (vx_runSW (As := As.map (rv (ga G))) (rest := rest.map (rv (ga G))) ⟨hx, hb, hml, hown, hts⟩ hmet hcw ⟨PcK_blind G _ M, fun U hU hw => ⟨rfl, by rw [hU]; exact hW, ?_⟩⟩ rfl (by rw [List.length_map]; exact hn) hl.1 rfl (lv_room (by rw [cat_map]; exact hr)) hdg ⟨hR.2.1, hR.2.2⟩) nx
  rw [hU]
  exact hz s U H locs hK hw hS
end WU
theorem kl13 : Cond.classLink "SisterCourtsLaw" 13 nse ∈ tb := tb_mem 974 (by decide +kernel) (by decide +kernel)
section WM
variable {G : Gt} {M : Mem} {A : Ax} {c c2 : Nat}
def mW_judge : Mth := ("SisterCourtsLaw", ({ cls := "SisterCourtsLaw", name := "judge", desc := "(LSisterCourts;II[J)I" } : Jvm.MethodName), method_3_code, 5, some .int, [(0, .aload_n 3, 1), (1, .iconst 0, 1), (2, .aload_n 0, 1), (3, .iload_n 1, 1), (4, .iload_n 2, 1), (5, .invokevirtual 7, 3), (8, .i2l, 1), (9, .lastore, 1), (10, .goto 7, 3), (13, .astore 4, 2), (15, .iconst 1, 1), (16, .ireturn, 1), (17, .iconst 0, 1), (18, .ireturn, 1)])
theorem okW_judge : ∀ q ∈ mW_judge.2.2.2.2.2, decode mW_judge.2.2.1 q.1 = .ok (q.2.1, q.2.2) := by decide +kernel
theorem cw_judge : CW 39 mW_judge [(0, 10, 13, 13)] 4 := ⟨⟨(by decide +kernel), rfl⟩, okW_judge, tb_mem 973 (by decide +kernel) (by decide +kernel), tb_mem 971 (by decide +kernel) (by decide +kernel), tb_mem 972 (by decide +kernel) (by decide +kernel), tb_mem 81 (by decide +kernel) (by decide +kernel), (by decide +kernel), (by decide +kernel)⟩
theorem w_judge (h : CRc M A c c2) {j w : Int} (hq : judOk A j w) : U G (XW G (Ret (some (.int (J 0))) (sL M 83 0 (J (sJud A j w)).toInt64)) [(0, 10, 13, 13)]) 0 0 mW_judge 0 (ent 5 [.ref 0, .int (J j), .int (J w), .ref 83]) [] M := by
  refine u_aload_n (pc := 0) 0 rfl rfl ?_
  refine u_iconst (pc := 1) 1 rfl ?_
  refine u_aload_n (pc := 2) 2 rfl rfl ?_
  refine u_iload_n (pc := 3) 3 rfl rfl ?_
  refine u_iload_n (pc := 4) 4 rfl rfl ?_
  refine u_callV (d := 1) (As := [.int (J j), .int (J w)]) (rest := [.int (J 0), .ref 83]) (pc := 5) 5 rfl cvL_7 rfl (b := 0) rfl (Nat.le_of_ble_eq_true rfl) (Nat.le_of_ble_eq_true rfl) (kzA G) ⟨⟨(by decide : 1 + 1 ≤ 9), (by decide : 64 * (1 + 1) ≤ 64 * 9)⟩, Nat.zero_le _, Nat.zero_le _⟩ (c_judge (d := 0) h hq) (fun r N hr => ?_)
  obtain ⟨rfl, rfl⟩ := hr
  refine u_i2lR (pc := 8) 6 rfl ?_
  refine u_last (pc := 9) (z := 0) (a := 83) (n0 := 1) 7 rfl rfl (by decide) ?_
  refine u_goto (pc := 10) 8 17 rfl (by decide) ?_
  refine u_iconst (pc := 17) 12 rfl ?_
  exact u_iretW (pc := 18) 13 rfl rfl (by decide) (by decide) ⟨rfl, rfl⟩
theorem w_judgeN (hl : (gl G).stackTraces = false) (h : CRc M A c c2) {j w : Int} (hj : -2147483648 ≤ j ∧ j ≤ 2147483647) (hw : -2147483648 ≤ w ∧ w ≤ 2147483647) (hq : ¬ judOk A j w) : U G (XW G (Ret (some (.int (J 1))) M) [(0, 10, 13, 13)]) 0 0 mW_judge 0 (ent 5 [.ref 0, .int (J j), .int (J w), .ref 83]) [] M := by
  refine u_aload_n (pc := 0) 0 rfl rfl ?_
  refine u_iconst (pc := 1) 1 rfl ?_
  refine u_aload_n (pc := 2) 2 rfl rfl ?_
  refine u_iload_n (pc := 3) 3 rfl rfl ?_
  refine u_iload_n (pc := 4) 4 rfl rfl ?_
  refine u_catchV (As := [.int (J j), .int (J w)]) (rest := [.int (J 0), .ref 83]) (b := 0) (pc := 5) (0, 10, 13, 13) 5 rfl cvL_7 rfl rfl (Nat.le_of_ble_eq_true rfl) (Nat.le_of_ble_eq_true rfl) (by decide) (by decide) kl13 (t_judge hl h hj hw hq) ?_
  refine u_hand (hpc := 13) (i2 := 9) rfl ⟨(Nat.le_of_ble_eq_true rfl), rfl⟩ ?_
  refine u_iconst (pc := 15) 10 rfl ?_
  exact u_iretW (pc := 16) 11 rfl rfl (by decide) (by decide) ⟨rfl, rfl⟩
def mW_file : Mth := ("SisterCourtsLaw", ({ cls := "SisterCourtsLaw", name := "file", desc := "(LSisterCourts;II[J)I" } : Jvm.MethodName), method_4_code, 5, some .int, [(0, .aload_n 3, 1), (1, .iconst 0, 1), (2, .aload_n 0, 1), (3, .iload_n 1, 1), (4, .iload_n 2, 1), (5, .invokevirtual 15, 3), (8, .i2l, 1), (9, .lastore, 1), (10, .goto 7, 3), (13, .astore 4, 2), (15, .iconst 1, 1), (16, .ireturn, 1), (17, .iconst 0, 1), (18, .ireturn, 1)])
theorem okW_file : ∀ q ∈ mW_file.2.2.2.2.2, decode mW_file.2.2.1 q.1 = .ok (q.2.1, q.2.2) := by decide +kernel
theorem cw_file : CW 49 mW_file [(0, 10, 13, 13)] 4 := ⟨⟨(by decide +kernel), rfl⟩, okW_file, tb_mem 1047 (by decide +kernel) (by decide +kernel), tb_mem 1045 (by decide +kernel) (by decide +kernel), tb_mem 1046 (by decide +kernel) (by decide +kernel), tb_mem 81 (by decide +kernel) (by decide +kernel), (by decide +kernel), (by decide +kernel)⟩
theorem w_file (h : CRc M A c c2) {j w : Int} (hq : filOk A j w) : U G (XW G (Ret (some (.int (J 0))) (sL M 83 0 (J (sFil A j w)).toInt64)) [(0, 10, 13, 13)]) 0 0 mW_file 0 (ent 5 [.ref 0, .int (J j), .int (J w), .ref 83]) [] M := by
  refine u_aload_n (pc := 0) 0 rfl rfl ?_
  refine u_iconst (pc := 1) 1 rfl ?_
  refine u_aload_n (pc := 2) 2 rfl rfl ?_
  refine u_iload_n (pc := 3) 3 rfl rfl ?_
  refine u_iload_n (pc := 4) 4 rfl rfl ?_
  refine u_callV (d := 1) (As := [.int (J j), .int (J w)]) (rest := [.int (J 0), .ref 83]) (pc := 5) 5 rfl cvL_15 rfl (b := 0) rfl (Nat.le_of_ble_eq_true rfl) (Nat.le_of_ble_eq_true rfl) (kzA G) ⟨⟨(by decide : 1 + 1 ≤ 9), (by decide : 64 * (1 + 1) ≤ 64 * 9)⟩, Nat.zero_le _, Nat.zero_le _⟩ (c_file (d := 0) h hq) (fun r N hr => ?_)
  obtain ⟨rfl, rfl⟩ := hr
  refine u_i2lR (pc := 8) 6 rfl ?_
  refine u_last (pc := 9) (z := 0) (a := 83) (n0 := 1) 7 rfl rfl (by decide) ?_
  refine u_goto (pc := 10) 8 17 rfl (by decide) ?_
  refine u_iconst (pc := 17) 12 rfl ?_
  exact u_iretW (pc := 18) 13 rfl rfl (by decide) (by decide) ⟨rfl, rfl⟩
theorem w_fileN (hl : (gl G).stackTraces = false) (h : CRc M A c c2) {j w : Int} (hj : -2147483648 ≤ j ∧ j ≤ 2147483647) (hw : -2147483648 ≤ w ∧ w ≤ 2147483647) (hq : ¬ filOk A j w) : U G (XW G (Ret (some (.int (J 1))) M) [(0, 10, 13, 13)]) 0 0 mW_file 0 (ent 5 [.ref 0, .int (J j), .int (J w), .ref 83]) [] M := by
  refine u_aload_n (pc := 0) 0 rfl rfl ?_
  refine u_iconst (pc := 1) 1 rfl ?_
  refine u_aload_n (pc := 2) 2 rfl rfl ?_
  refine u_iload_n (pc := 3) 3 rfl rfl ?_
  refine u_iload_n (pc := 4) 4 rfl rfl ?_
  refine u_catchV (As := [.int (J j), .int (J w)]) (rest := [.int (J 0), .ref 83]) (b := 0) (pc := 5) (0, 10, 13, 13) 5 rfl cvL_15 rfl rfl (Nat.le_of_ble_eq_true rfl) (Nat.le_of_ble_eq_true rfl) (by decide) (by decide) kl13 (t_file hl h hj hw hq) ?_
  refine u_hand (hpc := 13) (i2 := 9) rfl ⟨(Nat.le_of_ble_eq_true rfl), rfl⟩ ?_
  refine u_iconst (pc := 15) 10 rfl ?_
  exact u_iretW (pc := 16) 11 rfl rfl (by decide) (by decide) ⟨rfl, rfl⟩
def mW_owed : Mth := ("SisterCourtsLaw", ({ cls := "SisterCourtsLaw", name := "owed", desc := "(LSisterCourts;I[J)I" } : Jvm.MethodName), method_5_code, 4, some .int, [(0, .aload_n 2, 1), (1, .iconst 0, 1), (2, .aload_n 0, 1), (3, .iload_n 1, 1), (4, .invokevirtual 18, 3), (7, .i2l, 1), (8, .lastore, 1), (9, .goto 6, 3), (12, .astore_n 3, 1), (13, .iconst 1, 1), (14, .ireturn, 1), (15, .iconst 0, 1), (16, .ireturn, 1)])
theorem okW_owed : ∀ q ∈ mW_owed.2.2.2.2.2, decode mW_owed.2.2.1 q.1 = .ok (q.2.1, q.2.2) := by decide +kernel
theorem cw_owed : CW 115 mW_owed [(0, 9, 12, 13)] 3 := ⟨⟨(by decide +kernel), rfl⟩, okW_owed, tb_mem 1056 (by decide +kernel) (by decide +kernel), tb_mem 1054 (by decide +kernel) (by decide +kernel), tb_mem 1055 (by decide +kernel) (by decide +kernel), tb_mem 81 (by decide +kernel) (by decide +kernel), (by decide +kernel), (by decide +kernel)⟩
theorem w_owed (h : CRc M A c c2) {j : Int} (hq : owOk A j) : U G (XW G (Ret (some (.int (J 0))) (sL M 83 0 (J (sOw A j)).toInt64)) [(0, 9, 12, 13)]) 0 0 mW_owed 0 (ent 4 [.ref 0, .int (J j), .ref 83]) [] M := by
  refine u_aload_n (pc := 0) 0 rfl rfl ?_
  refine u_iconst (pc := 1) 1 rfl ?_
  refine u_aload_n (pc := 2) 2 rfl rfl ?_
  refine u_iload_n (pc := 3) 3 rfl rfl ?_
  refine u_callV (d := 3) (As := [.int (J j)]) (rest := [.int (J 0), .ref 83]) (pc := 4) 4 rfl cvL_18 rfl (b := 0) rfl (Nat.le_of_ble_eq_true rfl) (Nat.le_of_ble_eq_true rfl) (kzA G) ⟨⟨(by decide : 3 + 1 ≤ 9), (by decide : 64 * (3 + 1) ≤ 64 * 9)⟩, Nat.zero_le _, Nat.zero_le _⟩ (c_owed (d := 0) h hq) (fun r N hr => ?_)
  obtain ⟨rfl, rfl⟩ := hr
  refine u_i2lR (pc := 7) 5 rfl ?_
  refine u_last (pc := 8) (z := 0) (a := 83) (n0 := 1) 6 rfl rfl (by decide) ?_
  refine u_goto (pc := 9) 7 15 rfl (by decide) ?_
  refine u_iconst (pc := 15) 11 rfl ?_
  exact u_iretW (pc := 16) 12 rfl rfl (by decide) (by decide) ⟨rfl, rfl⟩
theorem w_owedN (hl : (gl G).stackTraces = false) (h : CRc M A c c2) {j : Int} (hj : -2147483648 ≤ j ∧ j ≤ 2147483647) (hq : ¬ owOk A j) : U G (XW G (Ret (some (.int (J 1))) M) [(0, 9, 12, 13)]) 0 0 mW_owed 0 (ent 4 [.ref 0, .int (J j), .ref 83]) [] M := by
  refine u_aload_n (pc := 0) 0 rfl rfl ?_
  refine u_iconst (pc := 1) 1 rfl ?_
  refine u_aload_n (pc := 2) 2 rfl rfl ?_
  refine u_iload_n (pc := 3) 3 rfl rfl ?_
  refine u_catchV (As := [.int (J j)]) (rest := [.int (J 0), .ref 83]) (b := 0) (pc := 4) (0, 9, 12, 13) 4 rfl cvL_18 rfl rfl (Nat.le_of_ble_eq_true rfl) (Nat.le_of_ble_eq_true rfl) (by decide) (by decide) kl13 (t_owed hl h hj hq) ?_
  refine u_handn (hpc := 12) (i2 := 8) rfl ⟨(Nat.le_of_ble_eq_true rfl), rfl⟩ ?_
  refine u_iconst (pc := 13) 9 rfl ?_
  exact u_iretW (pc := 14) 10 rfl rfl (by decide) (by decide) ⟨rfl, rfl⟩
end WM
