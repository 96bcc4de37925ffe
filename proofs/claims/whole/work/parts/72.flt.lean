/-! 72: Float.floatToIntBits: the class java/lang/Float is among those whose methods an entry may run, so it is walked by hand -/
section FOv
variable {p : Program} {l : Launch} {e : Env} {R : Room} {s : State} {m : MethodId} {args : Array Value} {below : List Frame} {meth : Method} {c : Code} {T : State} {locs : List Loc} {cells slots : Nat}
theorem ov_cur (X : Stand p l e R s m args below meth c T locs cells slots) : T.cur < T.threads.size := by
  obtain ⟨g0, hg⟩ := Option.isSome_iff_exists.mp X.here.top
  obtain ⟨r, hr⟩ := State.topJava?_eq_some.mp hg
  exact State.cur_lt_of_frames hr
theorem ov_frames (X : Stand p l e R s m args below meth c T locs cells slots) (vm : Vm) (fs : List Frame) : ((T.setVm vm).setFrames fs).frames = fs :=
  State.frames_setFrames (s := T.setVm vm) _ (show T.cur < T.threads.size from ov_cur X)
theorem ov_full (X : Stand p l e R s m args below meth c T locs cells slots) (vm : Vm) {F : List Frame} {vars n : Nat} (hF : F.length ≤ n + below.length) (hn : n ≤ R.frames) (hw : stackWeight F + vars + 11 ≤ stackWeight below + (c.maxLocals + 11) + R.locals) :
    e.platform.stackFull ((((T.setVm vm).setFrames F).threads[((T.setVm vm).setFrames F).cur]?).getD { frames := [] }) ((T.setVm vm).setFrames F).frames vars = false := by
  obtain ⟨-, r2, -, r4⟩ := State.hasRoom_stack X.room
  rw [State.localsInUse_invoking X.frames X.method X.code] at r4
  rw [X.frames, List.length_cons] at r2
  have hL : e.platform.stackLimits ((T.setVm vm).setFrames F).me = e.platform.stackLimits s.me := by
    rw [State.stackLimits_setFrames]
    exact X.limits
  refine stackFull_of (ov_frames X vm F) ?_ ?_
  · rw [hL]; omega
  · rw [hL]; omega
theorem ov_at (X : Stand p l e R s m args below meth c T locs cells slots) {vm : Vm} (hW : s.WarmedH vm) {y : MethodName} {m' : MethodId} {meth' : Method} {c' : Code} (hn : s.methodNamed? y = some m') (hm' : s.vm.method? m' = some meth') (hc' : meth'.code = some c') (hrow : ∀ p : Program, NativeRow.find? p.tables.natives y.cls y.name y.desc = none) (f0 : JFrame) (mid : List Frame) : AtOv p.tables e ((T.setVm vm).setFrames (.java f0 :: (mid ++ below))) m' c' below := by
  have hf1 := ov_frames X vm (.java f0 :: (mid ++ below))
  have ht1 := State.topJava?_of_frames hf1
  obtain ⟨k', hk', hnk⟩ := className_of_methodNamed hn
  obtain ⟨hmn, hmd⟩ := name_of_methodNamed hn hm'
  obtain ⟨k₂, hk₂, he₂⟩ := hW.alike.2.2 _ _ hk'
  have hx' : k'.methods[m'.idx]? = some meth' := by simpa [Vm.method?, hk'] using hm'
  refine ⟨by rw [ht1]; rfl, ⟨mid, by rw [hf1]; rfl⟩, X.here.running, by simpa using X.here.runnable, by simpa using X.here.alone, ?_, ?_⟩
  · rw [State.code?_eq]
    show (vm.method? m').bind _ = _
    rw [hW.alike.method?, hm']
    exact hc'
  · intro f hfm
    refine overridden_noRow _ _ (k := k₂) (x := meth') (by rw [hfm]; exact hk₂) (by rw [hfm, he₂]; exact hx') ?_
    rw [he₂, hmn, hmd]
    show NativeRow.find? p.tables.natives k'.name _ _ = none
    rw [hnk]
    exact hrow p
theorem ov_static (X : Stand p l e R s m args below meth c T locs cells slots) (hexec : p.tables.exec = Jvm.exec) {vm : Vm} (hW : s.WarmedH vm) {f : JFrame} {cF : Code} {rs : List Frame} (A : AtOv p.tables e ((T.setVm vm).setFrames (.java f :: rs)) f.method cF below)
    {own : String} {index : Nat} {x : MethodName} (hown : s.vm.findClass own = some f.method.cls) (hlink : (Cond.methodLink own index x).before args s = true)
    {m' : MethodId} {meth' : Method} {k' : Class} (hn : s.methodNamed? x = some m') (hm' : s.vm.method? m' = some meth') (hstatic : meth'.isStatic = true)
    (hk' : s.vm.classes[m'.cls]? = some k') (hinit : k'.init = .initialized)
    (hx : x.cls ≠ "java/lang/invoke/MethodHandle" ∧ x.cls ≠ "java/lang/invoke/VarHandle")
    {argsL rest : List Value} (hlen : argsL.length = meth'.sig.parameters.length) (hstack : f.stack = argsL.reverse ++ rest)
    (hdg : decode cF.code f.pc = .ok (.invokestatic index, 3)) (f' : JFrame) (hf' : f' = { f with stack := rest }) (as : Array Value) (has : as = argsL.toArray) :
    ∃ vm', s.WarmedH vm' ∧ ∀ target, (∀ acts, Steps p.tables e below (doInvoke e ((T.setVm vm').setFrames (.java f' :: rs)) acts m' as).1 target) → Steps p.tables e below ((T.setVm vm).setFrames (.java f :: rs)) target := by
  subst hf' has
  have hpl : e.platform.magicAccessors = ({} : Platform).magicAccessors := by rw [X.admits.platform]
  have hpv : e.platform.polymorphicOnlyByInvokevirtual = true := by rw [X.admits.platform]
  obtain ⟨ci, hl, hright⟩ := Cond.methodLink_spec hown hn hlink e.platform hpl
  obtain ⟨kx, hkx, hnx⟩ := className_of_methodNamed hn
  cases hk'.symm.trans hkx
  have hE : s.MethodEntry e vm f.method.cls index m' ci := State.methodEntry hW hl hright fun k hk => by
    cases hk'.symm.trans hk
    rw [hnx]; exact hx
  obtain ⟨dk, cfile, nt, mname, mdesc, via, ck, _, hd, hcf, hcp, hnt, -, -, hck, -, hnopoly, -⟩ := hl.here
  cases hk'.symm.trans hck
  have alike := hE.warmed.alike
  obtain ⟨dk₂, hdk₂, hed₂⟩ := alike.2.2 _ _ hd
  obtain ⟨k₂, hk₂, he₂⟩ := alike.2.2 _ _ hk'
  have hnone : (k'.methods.any fun y => y.name == mname && !y.isStatic && signaturePolymorphic k' y) = false := by simp [hnopoly]
  have hnone₂ : (k₂.methods.any fun y => y.name == mname && !y.isStatic && signaturePolymorphic k₂ y) = false := by rw [he₂]; exact hnone
  refine ⟨vm.called f.method.cls ci index m', hE.warmed, fun target hrest => ?_⟩
  have hS : ((T.setVm vm).setFrames (.java f :: rs)).setTop f = (T.setVm vm).setFrames (.java f :: rs) := by
    rw [State.setTop_of_frames _ (ov_frames X vm _), State.setFrames_setFrames]
  have hS2 : ∀ vm2 (f2 : JFrame), ((T.setVm vm2).setFrames (.java f :: rs)).setTop f2 = (T.setVm vm2).setFrames (.java f2 :: rs) := by
    intro vm2 f2
    rw [State.setTop_of_frames _ (ov_frames X vm2 _), State.setFrames_setFrames]
  rw [← hS]
  generalize hSS : (T.setVm vm).setFrames (.java f :: rs) = S at A
  have hSvm : S.vm = vm := by rw [← hSS]; rfl
  have hSv : ∀ vm2, S.setVm vm2 = (T.setVm vm2).setFrames (.java f :: rs) := by intro vm2; rw [← hSS]; rfl
  rw [← hSvm] at hE hW hk₂ hdk₂ alike
  refine Steps.instrAtOv (c := cF) A ?_
  rw [hdg]
  show wpRun (p.tables.exec (.invokestatic index)) _ _ e (S.setTop f)
  rw [hexec]
  simp [jvm, wpRun, exec, A.top, invokestatic.wp_cold (e := e) (s := S) (s₀ := s) (f := f) A.top hpv hW hE hd hcf hcp hnt hk' hnone,
    invokestatic.wp_ready (e := e) (s := S.setVm (S.vm.called f.method.cls ci index m')) (k := k₂) (meth := meth') (m := m') (args := argsL) (rest := rest) (f := f)
      A.top ⟨ci, mname, mdesc, via, m'.cls, k₂, memberRef_ask_via (e := e) hdk₂ (by rw [hed₂]; exact hcf) hcp hnt, hE.classReady, hk₂, hnone₂⟩ hE.ready hk₂
      (by show (S.vm.called f.method.cls ci index m').method? m' = some meth'; rw [alike.method?]; exact hm') (by rw [he₂]; exact hnopoly meth') hstatic (by rw [he₂]; exact hinit) hlen hstack]
  intro acts
  have q := hrest acts
  rw [← hS2, ← hSv, ← hSvm] at q
  exact q
theorem ov_java (X : Stand p l e R s m args below meth c T locs cells slots) {vm : Vm} (hW : s.WarmedH vm) {m' : MethodId} {meth' : Method} {c' : Code} (hm' : s.vm.method? m' = some meth') (hc' : meth'.code = some c') (hl : meth'.locks = false) {g : JFrame} {rs : List Frame} {acts : List Action} {as : Array Value}
    (hfull : e.platform.stackFull ((((T.setVm vm).setFrames (.java g :: rs)).threads[((T.setVm vm).setFrames (.java g :: rs)).cur]?).getD { frames := [] }) ((T.setVm vm).setFrames (.java g :: rs)).frames c'.maxLocals = false) :
    (doInvoke e ((T.setVm vm).setFrames (.java g :: rs)) acts m' as).1 = (T.setVm vm).setFrames (.java (entryFrame m' as c'.maxLocals) :: .java g :: rs) := by
  rw [(doInvoke_java (s := (T.setVm vm).setFrames (.java g :: rs)) (e := e) (acts := acts) (meth := meth') (code := c') (by show vm.method? m' = _; rw [hW.alike.method?]; exact hm') hc' hl hfull).1]
  rw [State.pushFrame, ov_frames X vm, State.setFrames_setFrames]
  rfl
theorem ov_top (X : Stand p l e R s m args below meth c T locs cells slots) (vm : Vm) (f f2 : JFrame) (rs : List Frame) : ((T.setVm vm).setFrames (.java f :: rs)).setTop f2 = (T.setVm vm).setFrames (.java f2 :: rs) := by
  rw [State.setTop_of_frames _ (ov_frames X vm _), State.setFrames_setFrames]
theorem ov_ret (X : Stand p l e R s m args below meth c T locs cells slots) {vm : Vm} (hW : s.WarmedH vm) {f g : JFrame} {rs : List Frame} {meth' : Method} (hm' : s.vm.method? f.method = some meth') (hl : meth'.locks = false) (h1 : f.locked = none) (h2 : f.entered = []) {cg : Code} {ig : Instr} {len : Nat} {v : Option Value}
    (hcg : ((T.setVm vm).setFrames (.java f :: .java g :: rs)).code? g.method = some cg) (hdg : decode cg.code g.pc = .ok (ig, len)) (acts : List Action) :
    (doReturn e ((T.setVm vm).setFrames (.java f :: .java g :: rs)) acts v).1 = (T.setVm vm).setFrames (.java { g with pc := g.pc + len, stack := v.toList ++ g.stack } :: rs) := by
  rw [(doReturn_java (f := f) (g := g) (r := rs) (meth := meth') (cg := cg) (ov_frames X vm _) (by show vm.method? _ = _; rw [hW.alike.method?]; exact hm') hl h1 h2 hcg hdg).1, State.setFrames_setFrames]
theorem ov_code {vm : Vm} (hW : s.WarmedH vm) {m' : MethodId} {meth' : Method} {c' : Code} (hm' : s.vm.method? m' = some meth') (hc' : meth'.code = some c') (fs : List Frame) : ((T.setVm vm).setFrames fs).code? m' = some c' := by
  rw [State.code?_eq]
  show (vm.method? m').bind _ = _
  rw [hW.alike.method?, hm']
  exact hc'
theorem ov_dn : decode prog_20_method_6_code 0 = .ok (.fload_n 0, 1) ∧ decode prog_20_method_6_code 1 = .ok (.fload_n 0, 1) ∧ decode prog_20_method_6_code 2 = .ok (.fcmp .l, 1) ∧ decode prog_20_method_6_code 3 = .ok (.ifCond .eq 7, 3) ∧ decode prog_20_method_6_code 10 = .ok (.iconst 0, 1) ∧ decode prog_20_method_6_code 11 = .ok (.ireturn, 1) := by decide +kernel
theorem ov_df : decode prog_20_method_24_code 0 = .ok (.fload_n 0, 1) ∧ decode prog_20_method_24_code 1 = .ok (.invokestatic 59, 3) ∧ decode prog_20_method_24_code 4 = .ok (.ifCond .ne 8, 3) ∧ decode prog_20_method_24_code 7 = .ok (.fload_n 0, 1) ∧ decode prog_20_method_24_code 8 = .ok (.invokestatic 74, 3) ∧ decode prog_20_method_24_code 11 = .ok (.ireturn, 1) := by decide +kernel
theorem ov_n1 : (NativeRow.find? natives "java/lang/Float" "isNaN" "(F)Z").isNone = true := by decide +kernel
theorem ov_n2 : (NativeRow.find? natives "java/lang/Float" "floatToIntBits" "(F)I").isNone = true := by decide +kernel
theorem ov_r1 (p : Program) : NativeRow.find? p.tables.natives "java/lang/Float" "isNaN" "(F)Z" = none := by
  cases p <;> exact Option.isNone_iff_eq_none.mp ov_n1
theorem ov_r2 (p : Program) : NativeRow.find? p.tables.natives "java/lang/Float" "floatToIntBits" "(F)I" = none := by
  cases p <;> exact Option.isNone_iff_eq_none.mp ov_n2
theorem ov_isNaN (X : Stand p l e R s m args below meth c T locs cells slots) (hexec : p.tables.exec = Jvm.exec) {vm : Vm} (hW : s.WarmedH vm) {mN : MethodId} {methN : Method} {cN : Code} (hn : s.methodNamed? ⟨"java/lang/Float", "isNaN", "(F)Z"⟩ = some mN) (hm' : s.vm.method? mN = some methN) (hc' : methN.code = some cN) (hb : cN.code = prog_20_method_6_code) (hl : methN.locks = false) (hret : methN.sig.returnType = some .boolean)
    {b : UInt32} (hf : FP.fcmp b b = some .eq) {g : JFrame} {mid : List Frame} {cg : Code} {ig : Instr} {len : Nat} (hcg : ∀ fs, ((T.setVm vm).setFrames fs).code? g.method = some cg) (hdg : decode cg.code g.pc = .ok (ig, len)) {target : State}
    (h : Steps p.tables e below ((T.setVm vm).setFrames (.java { g with pc := g.pc + len, stack := .int 0 :: g.stack } :: (mid ++ below))) target) :
    Steps p.tables e below ((T.setVm vm).setFrames (.java (entryFrame mN #[.float b] 1) :: .java g :: (mid ++ below))) target := by
  obtain ⟨d0, d1, d2, d3, d10, d11⟩ := ov_dn
  have hloc : argsToLocals #[.float b] 1 = #[.val (.float b)] := rfl
  have A := ov_at X hW hn hm' hc' ov_r1 (entryFrame mN #[.float b] 1) (.java g :: mid)
  have hR : ∀ (f : JFrame), f.method = mN → f.locked = none → f.entered = [] → ∀ acts, (doReturn e (((T.setVm vm).setFrames (.java (entryFrame mN #[.float b] 1) :: (.java g :: mid ++ below))).setTop f) acts (some (.int 0))).1 = (T.setVm vm).setFrames (.java { g with pc := g.pc + len, stack := .int 0 :: g.stack } :: (mid ++ below)) := by
    intro f e1 e2 e3 acts
    rw [ov_top X]
    exact ov_ret X hW (by rw [e1]; exact hm') hl e2 e3 (hcg _) hdg acts
  have hme : ((T.setVm vm).setFrames (.java (entryFrame mN #[.float b] 1) :: (.java g :: mid ++ below))).vm.method? mN = some methN := by
    show vm.method? mN = _
    rw [hW.alike.method?]; exact hm'
  rw [← ov_top X vm (entryFrame mN #[.float b] 1)]
  show Steps p.tables e below (((T.setVm vm).setFrames (.java (entryFrame mN #[.float b] 1) :: (.java g :: mid ++ below))).setTop (entryFrame mN #[.float b] 1)) target
  generalize (T.setVm vm).setFrames (.java (entryFrame mN #[.float b] 1) :: (.java g :: mid ++ below)) = S at A hR hme
  unfold entryFrame
  rw [hloc]
  refine Steps.instrAtOv (c := _) (by simpa using A) ?_
  simp [jvm, wpRun, exec, A.top, hexec, hb, d0]
  refine Steps.instrAtOv (c := _) (by simpa using A) ?_
  simp [jvm, wpRun, exec, A.top, hexec, hb, d1]
  refine Steps.instrAtOv (c := _) (by simpa using A) ?_
  simp [jvm, wpRun, exec, A.top, hexec, hb, d2, hf, Op.cmpValue]
  refine Steps.instrAtOv (c := _) (by simpa using A) ?_
  simp [jvm, wpRun, exec, A.top, hexec, hb, d3, Op.ifCond.holds]
  refine Steps.instrAtOv (c := _) (by simpa using A) ?_
  simp [jvm, wpRun, exec, A.top, hexec, hb, d10]
  refine Steps.instrAtOv (c := _) (by simpa using A) ?_
  simp [jvm, wpRun, exec, A.top, hexec, hb, d11, hme, hret, narrow]
  intro acts
  rw [hR _ rfl rfl rfl]
  exact h
theorem ov_raw (X : Stand p l e R s m args below meth c T locs cells slots) {vm : Vm} {m' : MethodId} {k' : Class} {meth' : Method} (N : NativeOf vm m' k' meth' "java/lang/Float" "floatToRawIntBits" "(F)I" true [.float]) {b : UInt32} {g : JFrame} {mid : List Frame}
    (hfull : e.platform.stackFull ((((T.setVm vm).setFrames (.java g :: (mid ++ below))).threads[((T.setVm vm).setFrames (.java g :: (mid ++ below))).cur]?).getD { frames := [] }) ((T.setVm vm).setFrames (.java g :: (mid ++ below))).frames (nativeFrameWords "java/lang/Float" "floatToRawIntBits" 1) = false)
    {cg : Code} {ig : Instr} {len : Nat} (hcg : ∀ fs, ((T.setVm vm).setFrames fs).code? g.method = some cg) (hdg : decode cg.code g.pc = .ok (ig, len)) {target : State} (acts : List Action)
    (h : Steps p.tables e below ((T.setVm vm).setFrames (.java { g with pc := g.pc + len, stack := .int b.toInt32 :: g.stack } :: (mid ++ below))) target) :
    Steps p.tables e below (doInvoke e ((T.setVm vm).setFrames (.java g :: (mid ++ below))) acts m' #[.float b]).1 target := by
  have hseen : seenByNative meth' #[.float b] = #[.float b] := by simp [seenByNative, N.static, N.sig, narrow]
  have hm : ((T.setVm vm).setFrames (.java g :: (mid ++ below))).vm.method? m' = some meth' := by
    show vm.method? m' = some meth'
    simp [Vm.method?, N.cls, N.meth]
  have hroom' : e.platform.stackFull ((((T.setVm vm).setFrames (.java g :: (mid ++ below))).threads[((T.setVm vm).setFrames (.java g :: (mid ++ below))).cur]?).getD { frames := [] }) ((T.setVm vm).setFrames (.java g :: (mid ++ below))).frames
      (nativeFrameWords (((((T.setVm vm).setFrames (.java g :: (mid ++ below))).vm.classes[m'.cls]?).map (·.name)).getD "") meth'.name (operandWords (#[Value.float b] : Array Value).toList)) = false := by
    have e1 : ((((T.setVm vm).setFrames (.java g :: (mid ++ below))).vm.classes[m'.cls]?).map (·.name)).getD "" = "java/lang/Float" := by
      show ((vm.classes[m'.cls]?).map (·.name)).getD "" = _
      rw [N.cls]; exact N.className
    rw [e1, N.name]; exact hfull
  rw [(Fast.doInvoke_native (e := e) (acts := acts) (args := #[.float b]) hm N.native N.noCode N.noLock hroom').1, hseen]
  have hfe : (((T.setVm vm).setFrames (.java g :: (mid ++ below))).pushFrame (.native { method := m', args := #[.float b], locked := none })) = (T.setVm vm).setFrames (.native { method := m', args := #[.float b], locked := none } :: .java g :: (mid ++ below)) := by
    rw [State.pushFrame, ov_frames X vm, State.setFrames_setFrames]
  rw [hfe]
  have hff := ov_frames X vm (.native { method := m', args := #[.float b], locked := none } :: .java g :: (mid ++ below))
  refine Steps.head ⟨X.here.running, by simpa using X.here.runnable, by simpa using X.here.alone⟩
    ⟨.native { method := m', args := #[.float b], locked := none } :: .java g :: mid, by rw [hff]; rfl, by simp, by simp⟩ ?_
  rw [stepThread_native (f := { method := m', args := #[.float b], locked := none }) (k := k') (x := meth') (row := Native.java_lang_Float.bits.rowFloatToRawIntBits) hff N.cls N.meth N.boot (by rw [N.className, N.name, N.desc]; exact floatToRawIntBits_row p) rfl]
  have hw : wpRun (Native.java_lang_Float.bits.rowFloatToRawIntBits.sem #[.float b]) (fun v s₁ _ => v = some (.int b.toInt32) ∧ s₁ = (T.setVm vm).setFrames (.native { method := m', args := #[.float b], locked := none } :: .java g :: (mid ++ below))) (fun _ _ _ => False) e ((T.setVm vm).setFrames (.native { method := m', args := #[.float b], locked := none } :: .java g :: (mid ++ below))) := by
    simp only [wpRun]
    exact W.floatToRawIntBits_of b ⟨rfl, rfl⟩
  have hw := (wpRun_iff_run _ _ _ _ _).mp hw
  cases hr : (Native.java_lang_Float.bits.rowFloatToRawIntBits.sem #[.float b]).run e ((T.setVm vm).setFrames (.native { method := m', args := #[.float b], locked := none } :: .java g :: (mid ++ below))) with
  | ok v s₁ acts₁ =>
    rw [hr] at hw
    obtain ⟨rfl, rfl⟩ := hw
    have hfs : handOver ((T.setVm vm).setFrames (.native { method := m', args := #[.float b], locked := none } :: .java g :: (mid ++ below))) (some (.int b.toInt32)) (.java g :: (mid ++ below))
        = some (.java { g with pc := g.pc + len, stack := .int b.toInt32 :: g.stack } :: (mid ++ below)) := by
      simp [handOver, hcg, hdg, Except.toOption]
    show Steps p.tables e below (doReturn e ((T.setVm vm).setFrames (.native { method := m', args := #[.float b], locked := none } :: .java g :: (mid ++ below))) acts₁ (some (.int b.toInt32))).1 target
    rw [doReturn_native (f := { method := m', args := #[.float b], locked := none }) hff rfl hfs, State.setFrames_setFrames]
    exact h
  | ctl x s₁ acts₁ => rw [hr] at hw; cases x <;> exact hw.elim
set_option maxHeartbeats 8000000 in
theorem ov_f2i (X : Stand p l e R s m args below meth c T locs cells slots) (hexec : p.tables.exec = Jvm.exec) (hts : ∀ w ∈ tb, w.before args s = true) {own : String} {index : Nat} (hown : s.vm.findClass own = some m.cls) (hlink : (Cond.methodLink own index ⟨"java/lang/Float", "floatToIntBits", "(F)I"⟩).before args s = true)
    {b : UInt32} (hf : FP.fcmp b b = some .eq) {g : JFrame} (hg : g.method = m) (hsize : g.locals.size = c.maxLocals) (hmr : g.monitorRoom = 0) {rest : List Value} (hstack : g.stack = .float b :: rest) (hdg : decode c.code g.pc = .ok (.invokestatic index, 3)) (hframes : 2 ≤ R.frames) (hlocals : (rest.map fun v => v.category).sum + 40 ≤ R.locals) :
    ∃ vm', Stand p l e R s m args below meth c (T.setVm vm') locs cells slots ∧ ∀ target, Steps p.tables e below ((T.setVm vm').setTop { g with pc := g.pc + 3, stack := .int b.toInt32 :: rest }) target → Steps p.tables e below (T.setTop g) target := by
  obtain ⟨d0, d1, d4, d7, d8, d11⟩ := ov_df
  have hcodeF := hts _ fw_f2b_co
  have hcodeN := hts _ fw_fnan_co
  have hinit := hts _ nt_f2i_ini
  obtain ⟨mF, hnF⟩ := Cond.code_named hcodeF
  obtain ⟨methF, cF, hmF, hcF, hbF, hlF, hretF, hlkF, -, hsigF⟩ := Cond.code_spec hnF hcodeF
  obtain ⟨mN, hnN⟩ := Cond.code_named hcodeN
  obtain ⟨methN, cN, hmN, hcN, hbN, hlN, hretN, hlkN, -, hsigN⟩ := Cond.code_spec hnN hcodeN
  have hstF : methF.isStatic = true := Cond.static_spec hnF hmF (hts _ fw_f2b_st)
  have hstN : methN.isStatic = true := Cond.static_spec hnN hmN (hts _ fw_fnan_st)
  obtain ⟨kF, hkF, -⟩ := className_of_methodNamed hnF
  obtain ⟨kN, hkN, -⟩ := className_of_methodNamed hnN
  have hiF : kF.init = .initialized := Cond.initialized_spec (findClass_of_methodNamed hnF) hkF hinit
  have hiN : kN.init = .initialized := Cond.initialized_spec (findClass_of_methodNamed hnN) hkN hinit
  obtain ⟨mS, kS, methS, hnS, hmS, hkS, NS⟩ := NativeOf.of_static (hts _ nt_f2i_na) (hts _ nt_f2i_st) (ps := [.float]) (ret := some .int) (by decide +kernel)
  have hiS : kS.init = .initialized := Cond.initialized_spec (findClass_of_methodNamed hnS) hkS hinit
  have hlen1 : ([.float b] : List Value).length = methF.sig.parameters.length := by
    have h3 : parseMethodDescriptor "(F)I" = some { parameters := [.float], returnType := some .int } := by decide +kernel
    have h4 : parseMethodDescriptor "(F)I" = some methF.sig := hsigF
    rw [h3] at h4
    rw [← Option.some.inj h4]; rfl
  have hlen2 : ([.float b] : List Value).length = methN.sig.parameters.length := by
    have h3 : parseMethodDescriptor "(F)Z" = some { parameters := [.float], returnType := some .boolean } := by decide +kernel
    have h4 : parseMethodDescriptor "(F)Z" = some methN.sig := hsigN
    rw [h3] at h4
    rw [← Option.some.inj h4]; rfl
  subst hg
  obtain ⟨vm1, X1, st1⟩ := X.invokestatic hexec hown hlink hnF hmF hstF hkF hiF (by decide) (g := g) rfl (argsL := [.float b]) (rest := rest) hlen1 hstack hdg
  have hW1 : s.WarmedH vm1 := X1.warmed
  have hT : ∀ (vm : Vm) (f2 : JFrame), (T.setVm vm).setTop f2 = (T.setVm vm).setFrames (.java f2 :: below) := by
    intro vm f2
    obtain ⟨g0, hg⟩ := Option.isSome_iff_exists.mp X.here.top
    obtain ⟨r, hr⟩ := State.topJava?_eq_some.mp hg
    have : r = below := by have := X.tail; rw [hr] at this; exact this
    subst this
    exact State.setTop_of_frames (s := T.setVm vm) _ hr
  have hlocF : argsToLocals #[.float b] 1 = #[.val (.float b)] := rfl
  -- the frame of floatToIntBits
  have AF := ov_at X hW1 hnF hmF hcF ov_r2 { method := mF, pc := 1, locals := #[.val (.float b)], stack := [.float b], locked := none } [.java { g with stack := rest }]
  obtain ⟨vm2, hW2, st2⟩ := ov_static X hexec hW1 AF (findClass_of_methodNamed hnF) (hts _ ml_Jxf58ca_59) hnN hmN hstN hkN hiN (by decide) (argsL := [.float b]) (rest := []) hlen2 rfl (by rw [hbF]; exact d1) { method := mF, pc := 1, locals := #[.val (.float b)], stack := [], locked := none } rfl #[.float b] rfl
  have AG := ov_at X hW2 hnF hmF hcF ov_r2 { method := mF, pc := 8, locals := #[.val (.float b)], stack := [.float b], locked := none } [.java { g with stack := rest }]
  obtain ⟨vm3, hW3, st3⟩ := ov_static X hexec hW2 AG (findClass_of_methodNamed hnF) (hts _ ml_Jxf58ca_74) hnS hmS NS.static hkS hiS (by decide) (argsL := [.float b]) (rest := []) (by rw [NS.sig]; rfl) rfl (by rw [hbF]; exact d8) { method := mF, pc := 8, locals := #[.val (.float b)], stack := [], locked := none } rfl #[.float b] rfl
  obtain ⟨kS', NS'⟩ := NS.alike hW3.alike
  have X3 := X.noted hW3
  refine ⟨vm3, X3, fun target h => st1 target fun acts1 => ?_⟩
  have hwt : ∀ f2 : JFrame, f2.locals.size = 1 → f2.monitorRoom = 0 → f2.stack = [] → stackWeight (.java f2 :: ([.java { g with stack := rest }] ++ below)) = stackWeight below + (c.maxLocals + 11) + (rest.map fun v => v.category).sum + 12 := by
    intro f2 e1 e2 e3
    show stackWeight (.java f2 :: .java { g with stack := rest } :: below) = _
    rw [stackWeight_java, stackWeight_java, e1, e2, e3]
    show stackWeight below + (g.locals.size + 11 + 2 * g.monitorRoom) + (rest.map fun v => v.category).sum + (1 + 11 + 2 * 0) + 0 = _
    rw [hsize, hmr]
  rw [hT vm1, ov_java X hW1 hmF hcF hlkF (ov_full X vm1 (n := 1) (by simp [Nat.add_comm]) (by omega) (by
    rw [stackWeight_java]
    show stackWeight below + (g.locals.size + 11 + 2 * g.monitorRoom) + (rest.map fun v => v.category).sum + _ + 11 ≤ _
    rw [hsize, hmr, hlF]; omega)), hlF]
  rw [← ov_top X vm1 (entryFrame mF #[.float b] 1)]
  show Steps p.tables e below (((T.setVm vm1).setFrames (.java (entryFrame mF #[.float b] 1) :: ([.java { g with stack := rest }] ++ below))).setTop (entryFrame mF #[.float b] 1)) target
  have AE := ov_at X hW1 hnF hmF hcF ov_r2 (entryFrame mF #[.float b] 1) [.java { g with stack := rest }]
  have k1 : ∀ f2 : JFrame, ((T.setVm vm1).setFrames (.java (entryFrame mF #[.float b] 1) :: ([.java { g with stack := rest }] ++ below))).setTop f2 = (T.setVm vm1).setFrames (.java f2 :: ([.java { g with stack := rest }] ++ below)) := fun f2 => ov_top X vm1 _ f2 _
  have k2 : Steps p.tables e below (((T.setVm vm1).setFrames (.java (entryFrame mF #[.float b] 1) :: ([.java { g with stack := rest }] ++ below))).setTop { method := mF, pc := 1, locals := #[.val (.float b)], stack := [.float b], locked := none }) target := by
    rw [k1]
    refine st2 target fun acts2 => ?_
    rw [ov_java X hW2 hmN hcN hlkN (ov_full X vm2 (n := 2) (by simp; omega) (by omega) (by
      rw [hwt _ rfl rfl rfl, hlN]; omega)), hlN]
    refine ov_isNaN X hexec hW2 hnN hmN hcN hbN hlkN hretN hf (cg := cF) (ig := .invokestatic 59) (len := 3) (ov_code hW2 hmF hcF) (by rw [hbF]; exact d1) ?_
    show Steps p.tables e below ((T.setVm vm2).setFrames (.java { method := mF, pc := 4, locals := #[.val (.float b)], stack := [.int 0], locked := none } :: ([.java { g with stack := rest }] ++ below))) target
    have AH := ov_at X hW2 hnF hmF hcF ov_r2 { method := mF, pc := 4, locals := #[.val (.float b)], stack := [.int 0], locked := none } [.java { g with stack := rest }]
    have k4 : Steps p.tables e below (((T.setVm vm2).setFrames (.java { method := mF, pc := 4, locals := #[.val (.float b)], stack := [.int 0], locked := none } :: ([.java { g with stack := rest }] ++ below))).setTop { method := mF, pc := 8, locals := #[.val (.float b)], stack := [.float b], locked := none }) target := by
      rw [ov_top X vm2]
      refine st3 target fun acts3 => ?_
      refine ov_raw X NS' (ov_full X vm3 (n := 2) (by simp; omega) (by omega) (by
        rw [hwt _ rfl rfl rfl]
        have : nativeFrameWords "java/lang/Float" "floatToRawIntBits" 1 = 3 := by decide
        omega)) (cg := cF) (ig := .invokestatic 74) (len := 3) (ov_code hW3 hmF hcF) (by rw [hbF]; exact d8) acts3 ?_
      have AK := ov_at X hW3 hnF hmF hcF ov_r2 { method := mF, pc := 11, locals := #[.val (.float b)], stack := [.int b.toInt32], locked := none } [.java { g with stack := rest }]
      have hme : ((T.setVm vm3).setFrames (.java { method := mF, pc := 11, locals := #[.val (.float b)], stack := [.int b.toInt32], locked := none } :: ([.java { g with stack := rest }] ++ below))).vm.method? mF = some methF := by
        show vm3.method? mF = _
        rw [hW3.alike.method?]; exact hmF
      have hR : ∀ (f : JFrame), f.method = mF → f.locked = none → f.entered = [] → ∀ acts, (doReturn e (((T.setVm vm3).setFrames (.java { method := mF, pc := 11, locals := #[.val (.float b)], stack := [.int b.toInt32], locked := none } :: ([.java { g with stack := rest }] ++ below))).setTop f) acts (some (.int b.toInt32))).1 = (T.setVm vm3).setFrames (.java { g with pc := g.pc + 3, stack := .int b.toInt32 :: rest } :: below) := by
        intro f e1 e2 e3 acts
        rw [ov_top X]
        exact ov_ret (g := { g with stack := rest }) (rs := below) X hW3 (by rw [e1]; exact hmF) hlkF e2 e3 (ov_code hW3 X.method X.code _) hdg acts
      show Steps p.tables e below ((T.setVm vm3).setFrames (.java { method := mF, pc := 11, locals := #[.val (.float b)], stack := [.int b.toInt32], locked := none } :: ([.java { g with stack := rest }] ++ below))) target
      rw [← ov_top X vm3 { method := mF, pc := 11, locals := #[.val (.float b)], stack := [.int b.toInt32], locked := none }]
      generalize (T.setVm vm3).setFrames (.java { method := mF, pc := 11, locals := #[.val (.float b)], stack := [.int b.toInt32], locked := none } :: ([.java { g with stack := rest }] ++ below)) = S at AK hR hme
      refine Steps.instrAtOv (c := _) (by simpa using AK) ?_
      simp [jvm, wpRun, exec, AK.top, hexec, hbF, d11, hme, hretF, narrow]
      intro acts
      rw [hR _ rfl rfl rfl]
      rw [hT vm3] at h
      exact h
    rw [← ov_top X vm2 { method := mF, pc := 4, locals := #[.val (.float b)], stack := [.int 0], locked := none }]
    generalize (T.setVm vm2).setFrames (.java { method := mF, pc := 4, locals := #[.val (.float b)], stack := [.int 0], locked := none } :: ([.java { g with stack := rest }] ++ below)) = S at AH k4
    refine Steps.instrAtOv (c := _) (by simpa using AH) ?_
    simp [jvm, wpRun, exec, AH.top, hexec, hbF, d4, Op.ifCond.holds]
    refine Steps.instrAtOv (c := _) (by simpa using AH) ?_
    simp [jvm, wpRun, exec, AH.top, hexec, hbF, d7]
    exact k4
  generalize (T.setVm vm1).setFrames (.java (entryFrame mF #[.float b] 1) :: ([.java { g with stack := rest }] ++ below)) = S at AE k2
  unfold entryFrame
  rw [hlocF]
  refine Steps.instrAtOv (c := _) (by simpa using AE) ?_
  simp [jvm, wpRun, exec, AE.top, hexec, hbF, d0]
  exact k2
end FOv
section FOv2
variable {G : Gt} {d : Nat} {k : Mth} {pc : Nat} {ls : List (Option Value)} {st : List Value} {M : Mem} {Q : Option Value → Mem → Prop}
theorem v_fbits {x : Nat} {b : UInt32} {s9 : Bool} {c9 : Nat} {q9 : Int} (hfin : FP.Core.decode FP.Core.b32 b.toNat = .fin s9 c9 q9) (i : Nat) (hd : k.2.2.2.2.2[i]? = some (pc, .invokestatic x, 3)) (hw : Cond.methodLink k.1 x ⟨"java/lang/Float", "floatToIntBits", "(F)I"⟩ ∈ tb) (hm : (st.map fun v => v.category).sum ≤ 8) (n : V G (d + 2) k (pc + 3) ls (.int b.toInt32 :: st) M Q) : V G (d + 2) k pc ls (.float b :: st) M Q := by
  intro p e s m args below meth c C H locs hW hS lsR hl
  obtain ⟨hx, hb, hml, hr, hlk, hown, hts, hK, hdc⟩ := id C
  have hdg := hdc _ (List.mem_of_getElem? hd)
  have n9 := n p e s m args below meth c C H locs hW hS lsR hl
  intro T hT X
  obtain ⟨vm', X', st9⟩ := ov_f2i X hx hts hown (hts _ hw) (fc_f hfin) (g := F0 m pc lsR ((.float b :: st).map (rv (ga G)))) rfl (by show lsR.size = _; rw [hml]; exact hl.1) rfl rfl (by rw [hb]; exact hdg) (by show 2 ≤ d + 2; omega) (by rw [cat_map]; show _ ≤ 64 * (d + 2); omega)
  obtain ⟨t, a1, b1⟩ := n9 (T.setVm vm') hT X'
  exact ⟨t, st9 t a1, b1⟩
end FOv2
