/-! 89: the law from its entry -/
theorem nwL_8 : Cond.classLink "SisterCourtsLaw" 8 RX11 ∈ tb ∧ Cond.instantiable RX11 10 ∈ tb ∧ Cond.initialized RX11 ∈ tb := ⟨tb_mem 108 (by decide +kernel) (by decide +kernel), tb_mem 109 (by decide +kernel) (by decide +kernel), tb_mem 82 (by decide +kernel) (by decide +kernel)⟩
theorem nwL_23 : Cond.classLink "SisterCourtsLaw" 23 RX12 ∈ tb ∧ Cond.instantiable RX12 48 ∈ tb ∧ Cond.initialized RX12 ∈ tb := ⟨tb_mem 1063 (by decide +kernel) (by decide +kernel), tb_mem 1064 (by decide +kernel) (by decide +kernel), tb_mem 93 (by decide +kernel) (by decide +kernel)⟩
theorem miL_22 : Cond.methodLink "SisterCourtsLaw" 22 yX11_init ∈ tb ∧ Cond.instanceMethod yX11_init ∈ tb := ⟨tb_mem 110 (by decide +kernel) (by decide +kernel), tb_mem 111 (by decide +kernel) (by decide +kernel)⟩
theorem miL_25 : Cond.methodLink "SisterCourtsLaw" 25 yX12_init ∈ tb ∧ Cond.instanceMethod yX12_init ∈ tb := ⟨tb_mem 1065 (by decide +kernel) (by decide +kernel), tb_mem 1066 (by decide +kernel) (by decide +kernel)⟩
abbrev A00 : Ax := ((0, fun _ => 0), tOf M00 32, (fun _ => -1, fun _ => -1), [], fun _ => none)
theorem t00 : TOk (tOf M00 32) := ⟨by decide, by decide, by decide, fun j hj => absurd hj (Nat.not_lt_zero j), fun k hk => absurd hk (Nat.not_lt_zero k), fun a b h1 h2 _ _ => absurd h2 (by show ¬ a < (0 : Int); omega)⟩
theorem s00 : SOk (tOf M00 32) (fun _ => -1, fun _ => -1) := fun k _ => Or.inl ⟨rfl, rfl⟩
theorem a00 : AOk A00 := ⟨t00, ⟨s00, fun j _ => ⟨rfl, rfl⟩⟩, fun S h => absurd h List.not_mem_nil, fun k _ S h => nomatch h⟩
theorem cr00 : CR M00 A00 := by
  refine ⟨32, 43, Or.inl ⟨rfl, rfl⟩, rfl, rfl, ⟨Or.inl rfl, rfl, Int.le_refl 0, Int.le_refl 0, Int.le_refl 0, t00, s00⟩, rfl, rfl, ⟨rfl, Nat.zero_le _, fun i hi => absurd hi (Nat.not_lt_zero i)⟩, ⟨⟨Int.le_refl 0, (by decide : (0 : Int) < 12)⟩, rfl, Nat.zero_le _, fun i hi => absurd hi (Nat.not_lt_zero i)⟩, ⟨⟨Int.le_refl 0, (by decide : (0 : Int) < 4)⟩, fun k _ => Or.inl ⟨rfl, ?_⟩⟩, a00⟩
  show (0 : Int) / 2 ^ _ % 2 = 0
  rw [Int.zero_ediv]; rfl
theorem mr00 : MR M00 A00 := by
  refine ⟨⟨⟨rfl, rfl, rfl⟩, fun a b ha => absurd ha (Nat.not_lt_zero a), fun j hj => absurd hj (Nat.not_lt_zero j), fun k hk => absurd hk (Nat.not_lt_zero k), fun k hk => ⟨?_, ?_⟩, t00, s00⟩, ⟨rfl, Nat.zero_le _, fun i hi => absurd hi (Nat.not_lt_zero i)⟩, ⟨rfl, Nat.zero_le _, fun i hi => absurd hi (Nat.not_lt_zero i)⟩, fun k _ => Or.inl ⟨rfl, rfl⟩, rfl, a00⟩
  · show (if k < 24 then (-1 : Int) else 0) = -1
    rw [if_pos (by omega)]
  · show (if 12 + k < 24 then (-1 : Int) else 0) = -1
    rw [if_pos (by omega)]
section LawE
variable {g : Bg} {ad : List Nat} {adK adV adX : Nat → Nat} {a120 b : Nat}
theorem gc_lt {k : Nat} (h : k < 84) : ga (mkG g ad adK adV adX a120 b) k = ad.getD k 0 := by
  show (if k < 84 then ad.getD k 0 else _) = _
  rw [if_pos h]
theorem gc_K {i : Nat} (h : i < 10) : ga (mkG g ad adK adV adX a120 b) (100 + i) = adK i := by
  show (if 100 + i < 84 then ad.getD (100 + i) 0 else if 100 + i < 110 then adK (100 + i - 100) else _) = _
  rw [if_neg (by omega), if_pos (by omega), Nat.add_sub_cancel_left]
theorem gc_V {i : Nat} (h : i < 10) : ga (mkG g ad adK adV adX a120 b) (110 + i) = adV i := by
  show (if 110 + i < 84 then ad.getD (110 + i) 0 else if 110 + i < 110 then adK (110 + i - 100) else if 110 + i < 120 then adV (110 + i - 110) else _) = _
  rw [if_neg (by omega), if_neg (by omega), if_pos (by omega), Nat.add_sub_cancel_left]
theorem gc_X {i : Nat} (h : i < 5) : ga (mkG g ad adK adV adX a120 b) (130 + i) = adX i := by
  show (if 130 + i < 84 then ad.getD (130 + i) 0 else if 130 + i < 110 then adK (130 + i - 100) else if 130 + i < 120 then adV (130 + i - 110) else if 130 + i < 130 then a120 else if 130 + i < 140 then adX (130 + i - 130) else b) = _
  rw [if_neg (by omega), if_neg (by omega), if_neg (by omega), if_neg (by omega), if_pos (by omega), Nat.add_sub_cancel_left]
theorem kx_all {s : State} (hK : va_K g.2.1 clX (bT g) s) (hSt : St0 adK adV adX a120 s) (hinj : ∀ i j : Nat, i < nC → j < nC → ga (mkG g ad adK adV adX a120 b) i = ga (mkG g ad adK adV adX a120 b) j → i = j) (hA : ∀ q, gA (mkG g ad adK adV adX a120 b) q → s.heap.size ≤ q) : Kx (mkG g ad adK adV adX a120 b) s s.heap := by
  obtain ⟨s1, s2, s3, s4, s5, s6, s7, s8, s9, s10, s11⟩ := hSt
  refine ⟨hK, hinj, (s1.narrow hA).cg (fun i hi => gc_K hi), fun i q hq => ?_, s3.narrow hA, ?_, fun i hi => gc_V hi, s5.narrow hA, s6.narrow hA, fun i q hq => ?_, s8, s9, s10, s11⟩
  · rw [gc_K (List.getElem?_eq_some_iff.mp hq).1]
    exact s2 i q hq
  · rcases s4 with h | h
    · exact ⟨.null, Or.inl rfl, h.narrow hA⟩
    · exact ⟨.ref 120, Or.inr rfl, h.narrow hA⟩
  · rw [gc_X (List.getElem?_eq_some_iff.mp hq).1]
    exact s7 i q hq
def XBL (b L : Nat) (xs : Nat → Int32) (g : Bg) (adK adV adX : Nat → Nat) (a120 : Nat) : BX := (room_1, fun below args s => lw_Z below args s, fun _ _ s _ args _ meth _ => args = #[Value.ref b] ∧ va_X b L xs s s.heap ∧ b < s.heap.size ∧ meth.sig.returnType = ret ∧ g.2.2.2 = s.heap.size ∧ St0 adK adV adX a120 s)
theorem law_leaf {L : Nat} {xs : Nat → Int32} (hL : L ≤ 3072) (hfl : g.1.stackTraces = false) {h0 h1 qo : Nat} {o11 o12 : va_W} (h11 : PX11 g h0 o11) (h12 : PX12 g h1 o12) : BJ g (XBL b L xs g adK adV adX a120) 84 3228 mL 23 [some (.ref b), some (.ref h0), some (.ref h1), some (.ref qo), some (.int (J 0)), none, none] [] ((qo, .inl (g.2.2.1 .long, 1, .inr (.inl (fun _ => JL 0)))) :: (o12 ++ (o11 ++ []))) := by
  intro p e s m args below meth c C E H locs hP hD hS lsR hl
  obtain ⟨ad, ⟨a0, a54, a83⟩, hpos, hmade⟩ := made (qo := qo) h11 h12
  obtain ⟨hx, hb, hml, hr, hlk, hown, hts, ⟨hK, hNs⟩, hN, hnm, hdc⟩ := id C
  obtain ⟨rfl, hX, hbl, hrt, hN0, hSt⟩ := id E
  have hS9 : va_S (AL s) s.heap H locs := by
    have e9 : bA g = AL s := by unfold bA AL; rw [hN0]
    rw [e9] at hS
    exact hS
  have hinj : ∀ i j : Nat, i < nC → j < nC → ga (mkG g ad adK adV adX a120 b) i = ga (mkG g ad adK adV adX a120 b) j → i = j := by
    intro i j hi hj e9
    rw [gc_lt hi, gc_lt hj] at e9
    obtain ⟨e1, q1⟩ := hpos i hi
    obtain ⟨e2, q2⟩ := hpos j hj
    exact pos_inj i hi j hj (hD.1 _ _ _ _ q1 q2 e9)
  have hA : ∀ q, gA (mkG g ad adK adV adX a120 b) q → s.heap.size ≤ q := by
    rintro q ⟨k, hk, rfl⟩
    rw [gc_lt hk]
    obtain ⟨e1, q1⟩ := hpos k hk
    have := hD.2 _ _ q1
    rw [← hN0]
    exact this
  have hLv : LvOk (ga (mkG g ad adK adV adX a120 b)) 7 lsR (LwS 0 none none) := by
    refine ⟨hl.1, hl.2.1, fun i v hv => ?_⟩
    match i, hv with
    | 0, hv => cases hv; exact hl.2.2 0 (.ref b) rfl
    | 1, hv => cases hv; show lsR[1]? = some (.val (.ref (ga (mkG g ad adK adV adX a120 b) 0))); rw [gc_lt (by decide), a0]; exact hl.2.2 1 (.ref h0) rfl
    | 2, hv => cases hv; show lsR[2]? = some (.val (.ref (ga (mkG g ad adK adV adX a120 b) 54))); rw [gc_lt (by decide), a54]; exact hl.2.2 2 (.ref h1) rfl
    | 3, hv => cases hv; show lsR[3]? = some (.val (.ref (ga (mkG g ad adK adV adX a120 b) 83))); rw [gc_lt (by decide), a83]; exact hl.2.2 3 (.ref qo) rfl
    | 4, hv => cases hv; exact hl.2.2 4 (.int (J 0)) rfl
    | 5, hv => cases hv
    | 6, hv => cases hv
    | k + 7, hv => simp at hv
  have hloop := law_loop (G := mkG g ad adK adV adX a120 b) (b := b) (L := L) (xs := xs) (c0 := 84) (c1 := 3228) (by decide) rfl hL hfl (L + 6) 0 none none M00 A00 (by omega) (by omega) cr00 mr00
  exact hloop p e s m _ below meth c ⟨hx, hb, hml, hr, hlk, hown, hts, kx_all hK hSt hinj hA, hdc⟩ ⟨rfl, hX, hbl, hrt⟩ hA H locs (hmade adK adV adX a120 b H hP) hS9 lsR hLv
end LawE
/-- from the entry, for every script, the law comes to its end with true -/
theorem whole_start {p : Program} {e : Env} {s : State} {m : MethodId} {below : List Frame} {meth : Method} {c : Code} (l : Launch) (hflags : l.flags = flags0) {b L : Nat} {xs : Nat → Int32} (hL : L ≤ 3072) (C0 : lw_At p s m meth c b L xs) : W p l e room_1 s m #[Value.ref b] below meth c s.heap [] 0 0 (lw_Z below #[Value.ref b] s) (entryFrame m ([Value.ref b] : List Value).toArray 7) := by
  obtain ⟨hx, hb, hr, hml, hown, hts, hX, hbl, hlocks, hgv⟩ := id C0
  have htb : ∀ w ∈ tb, w.before #[Value.ref b] s = true := fun w hw => hts w (tb_tbl hw)
  obtain ⟨D9, hD9⟩ := kn_all htb
  obtain ⟨gc9, hgc⟩ := arr_all htb
  obtain ⟨adK, adV, adX, a120, hSt⟩ := st_all hts hgv
  have hfl : l.stackTraces = false := by
    unfold Launch.stackTraces
    rw [hflags]
    decide +kernel
  obtain ⟨g, hg⟩ : ∃ g : Bg, g = (l, D9, gc9, s.heap.size) := ⟨_, rfl⟩
  have hgl : g.1.stackTraces = false := by rw [hg]; exact hfl
  have B0 : BJ g (XBL b L xs g adK adV adX a120) 0 0 mL 0 [some (.ref b), none, none, none, none, none, none] [] [] := by
    refine b_new (pc := 0) (ci := 11) (N := 10) (T := TX11) (Cn := RX11) _ (lk0 0 rfl) rfl nwL_8 ⟨(Nat.le_of_ble_eq_true rfl), (Nat.le_of_ble_eq_true rfl)⟩ (fun h0 => ?_)
    show BJ g _ 1 10 mL 3 _ [.ref h0] ((h0, .inr (11, [.null, .int (J 0), .null, .null, .null, .null, .null, .null, .null, .null])) :: [])
    refine b_dup (pc := 3) _ (lk0 1 rfl) rfl ?_
    refine b_callI (k2 := mX11_init) (n := 0) (d := 4) (mc := 53) (ms := 1646) (b := h0) (As := []) (rest := [.ref h0]) (pc := 4) _ (lk0 2 rfl) mkX11_init miL_22 ⟨rfl, rfl⟩ (by decide +kernel) rfl (Nat.le_of_ble_eq_true rfl) (Nat.le_of_ble_eq_true rfl) ⟨⟨(Nat.le_of_ble_eq_true rfl), (Nat.le_of_ble_eq_true rfl)⟩, (Nat.le_of_ble_eq_true rfl), (Nat.le_of_ble_eq_true rfl)⟩ n_X11 (fun ws9 h9 => ?_)
    obtain ⟨o11, h11, rfl⟩ := h9
    show BJ g _ 54 1656 mL 7 _ [.ref h0] (o11 ++ [])
    refine b_astore_n (pc := 7) _ (lk0 3 rfl) ⟨(Nat.le_of_ble_eq_true rfl), rfl⟩ ?_
    refine b_new (pc := 8) (ci := 12) (N := 48) (T := TX12) (Cn := RX12) _ (lk0 4 rfl) rfl nwL_23 ⟨(Nat.le_of_ble_eq_true rfl), (Nat.le_of_ble_eq_true rfl)⟩ (fun h1 => ?_)
    show BJ g _ 55 1704 mL 11 _ [.ref h1] ((h1, .inr (12, [.int (J 0), .null, .int (J 0), .int (J 0), .int (J 0), .int (J 0), .int (J 0), .int (J 0), .long (JL 0), .int (J 0), .int (J 0), .int (J 0), .int (J 0), .null, .null, .null, .null, .null, .null, .null, .null, .null, .null, .null, .null, .null, .null, .null, .null, .long (JL 0), .int (J 0), .null, .null, .int (J 0), .null, .null, .null, .null, .int (J 0), .null, .null, .null, .null, .int (J 0), .int (J 0), .int (J 0), .int (J 0), .null])) :: (o11 ++ []))
    refine b_dup (pc := 11) _ (lk0 5 rfl) rfl ?_
    refine b_callI (k2 := mX12_init) (n := 0) (d := 1) (mc := 28) (ms := 1523) (b := h1) (As := []) (rest := [.ref h1]) (pc := 12) _ (lk0 6 rfl) mkX12_init miL_25 ⟨rfl, rfl⟩ (by decide +kernel) rfl (Nat.le_of_ble_eq_true rfl) (Nat.le_of_ble_eq_true rfl) ⟨⟨(Nat.le_of_ble_eq_true rfl), (Nat.le_of_ble_eq_true rfl)⟩, (Nat.le_of_ble_eq_true rfl), (Nat.le_of_ble_eq_true rfl)⟩ n_X12 (fun ws9 h9 => ?_)
    obtain ⟨o12, h12, rfl⟩ := h9
    show BJ g _ 83 3227 mL 15 _ [.ref h1] (o12 ++ (o11 ++ []))
    refine b_astore_n (pc := 15) _ (lk0 7 rfl) ⟨(Nat.le_of_ble_eq_true rfl), rfl⟩ ?_
    refine b_iconst (pc := 16) _ (lk0 8 rfl) ?_
    refine b_newa (pc := 17) (ty := .long) (t0 := 2) (N := 1) (a0 := (1, .inr (.inl (fun _ => JL 0)))) _ (lk0 9 rfl) rfl ac_long rfl (fun _ _ h => h) (fun _ => rfl) ⟨rfl, by decide, by decide⟩ ⟨(Nat.le_of_ble_eq_true rfl), (Nat.le_of_ble_eq_true rfl)⟩ (fun qo => ?_)
    refine b_astore_n (pc := 19) _ (lk0 10 rfl) ⟨(Nat.le_of_ble_eq_true rfl), rfl⟩ ?_
    refine b_iconst (pc := 20) _ (lk0 11 rfl) ?_
    refine b_istore (pc := 21) _ (lk0 12 rfl) ⟨(Nat.le_of_ble_eq_true rfl), rfl⟩ ?_
    exact law_leaf hL hgl h11 h12
  have he := ent_ok id 7 [Value.ref b] (Nat.le_of_ble_eq_true rfl)
  rw [map_rv_id] at he
  rw [lg_entry_eq]
  subst hg
  exact B0 p e s m _ below meth c ⟨hx, hb, hml, hr, hlocks, hown, htb, ⟨⟨hD9, hgc⟩, nst_all hts⟩, Nat.le_refl _, fun h => absurd h (by decide), okL⟩ ⟨rfl, hX, hbl, hr, rfl, hSt⟩ s.heap [] (fun k q h => by simp at h) ⟨fun i j p q h => by simp at h, fun k q h => by simp at h⟩ va_S.rf _ he
set_option maxHeartbeats 4000000 in
theorem lw_walk (l : Launch) (hflags : l.flags = flags0) (b : Addr) (xs : List Int32) : MetFree l x (headSpec (Jvm.Cond.code x code maxLocals ret :: tables_1) room_1) (lw_P b xs) (fun _ _ _ _ _ => True) lw_Q := by
  refine MetFree.of_bodyS (code := code) (maxLocals := maxLocals) (ret := ret) (by decide) ?_ ?_
  · intro args s m h hn
    obtain ⟨meth, c, h1, h2, h3, h4, h5, h6, -, -⟩ := Cond.code_spec hn (atoms_spec (ws := Jvm.Cond.code x code maxLocals ret :: tables_1) h _ List.mem_cons_self)
    exact ⟨meth, c, h1, h2, h3, h4, h5, h6⟩
  · intro p e s m args below meth c s₁ B hml0 hP _
    obtain ⟨rfl, hx, hbd, hgv⟩ := hP
    obtain ⟨scr, harrAt, hlist, hof, hsmall⟩ := hx
    obtain ⟨hcb, hkn, -, -⟩ := State.arrayAt?_spec harrAt
    have hown : s.vm.findClass R_law = some m.cls := findClass_of_methodNamed B.named
    have hts0 : ∀ c ∈ (Jvm.Cond.code x code maxLocals ret :: tables_1), c.before #[Value.ref b] s = true := atoms_spec (ws := Jvm.Cond.code x code maxLocals ret :: tables_1) B.pre
    have hts : ∀ w ∈ lw_tbl, w.before #[Value.ref b] s = true := k2_hts_sels lw_privs (fun w hw => hts0 w (List.mem_cons_of_mem _ hw)) lw_privs_ok
    have hml : c.maxLocals = 7 := B.maxLocals_eq (hts0 _ List.mem_cons_self)
    have X₀ : Stand p l e room_1 s m #[Value.ref b] below meth c s₁ [] 0 0 := Stand.of_body B
    have hh0 : s₁.heap = s.heap := by rw [B.state]; rfl
    have hsz : scr.slots.size = xs.length := by rw [← Array.length_toList, hlist, List.length_map]
    have hval : ∀ j : Nat, j < xs.length → scr.slots[j]? = some (.int (xs.getD j 0)) := fun j hj => by
      rw [← Array.getElem?_toList, hlist]
      simp [hj]
    have hbl : b < s.heap.size := (Array.getElem?_eq_some_iff.mp hcb).1
    have hX : va_X b xs.length (fun j => xs.getD j 0) s s.heap := ⟨scr, hcb, hof, hkn, hsz, hval⟩
    have K : W p l e room_1 s m #[Value.ref b] below meth c s₁.heap [] 0 0 (lw_Z below #[Value.ref b] s) (entryFrame m ([Value.ref b] : List Value).toArray 7) := by
      rw [hh0]
      exact whole_start l hflags hbd ⟨B.exec, B.bytes, B.returns, hml, hown, hts, hX, hbl, B.notSynchronized, hgv⟩
    obtain ⟨t, a1, o, b1, b2, b3⟩ := K s₁ rfl X₀
    exact ⟨t, o, a1, b1, b2, b3⟩
theorem lw_pre_spec {args : Array Value} {s : State} (h : (Jvm.Cond.and given_1 narrow_1).before args s = true) (hr : rest_1_c.before args s = true) : ∃ (b : Addr) (xs : List Int32), lw_P b xs args s := by
  have hs := flat_of_before _ h
  have hq := flat_of_before _ hr
  have hc : (Cond.count 1).before args s = true := hs _ (by decide +kernel)
  have harr : (Cond.arrayOf (.arg 0) .int).before args s = true := hs _ (by decide +kernel)
  have hle : (Cond.le (.length (.arg 0)) (.int 3072)).before args s = true := hs _ (by decide +kernel)
  have hlen : (Cond.isInt (.length (.arg 0))).before args s = true := hq _ (by decide +kernel)
  have hall : (Cond.all (.arg 0) (.isInt (.elem (.arg 0) (.index 0)))).before args s = true := hq _ (by decide +kernel)
  obtain ⟨b, xs, hb, hx⟩ := State.ints_of_pre rfl harr hlen hall
  have hsm : xs.length < 2 ^ 31 := hx.choose_spec.2.2.2
  have hev : (Term.length (.arg 0)).eval args s none [] s = some (.int xs.length.toInt32) := hx.length_eval hb
  have hv := Cond.le_ints hev (show (Term.int 3072).eval args s none [] s = some (.int 3072) from rfl)
  have hd : xs.length.toInt32 ≤ 3072 := by
    simpa [Cond.before, Cond.holds, hv] using hle
  have hN : xs.length ≤ 3072 := (Int32.ofNat_le_ofNat hsm (by decide)).mp (show Int32.ofNat xs.length ≤ Int32.ofNat 3072 from hd)
  exact ⟨b, xs, Cond.one_arg hc (show args[0]? = some (.ref b) from hb), hx, hN, h⟩
theorem lw_comes (l : Launch) (hflags : l.flags = flags0) : Comes l x (Jvm.Cond.code x code maxLocals ret :: tables_1) room_1 (fun tb e args s => Calls_1 tb e args s ∧ rest_1 tb e args s ∧ Pre_1 tb e args s)
    (fun _ _ args s o t => lw_Q args s o t) := by
  intro p e ha hc hk s m args below hf hfit hheap happ hpre
  obtain ⟨b, xs, hP⟩ := lw_pre_spec hpre.2.2 hpre.2.1
  obtain ⟨k, o, h1, h2, h3, hQ⟩ := lw_walk l hflags b xs p e ha hc hk s m args below hf ((Spec.applies_iff_loose hf).mp happ).1 hP trivial
  exact ⟨k, o, h1, h2, h3, hQ⟩
theorem lw_frame {s t : State} {o : Outcome} {args : Array Value} (h : State.butDraws s t lw_cs (fun t1 => Framed s o t1 [] 601024 7293034)) :
    State.butDraws s t [Jvm.Choice.named "NaN.bits"] (fun t1 => Framed s o t1 (fieldLocs frame_1_writes args s ++ arrayLocs frame_1_arrays args s ++ staticLocs frame_1_statics s) 601024 7293034) := h
theorem lw_limb (L : Cond) (hL : ∀ (args : Array Value) (s t : State), L.after args s (.returned (some (.int 1))) t = true) :
    ArmFor flags0 classFile x code maxLocals ret World_1 tables_1 room_1 Calls_1 rest_1 Pre_1
      (fun tb e a s o t => postC L tb e a s o t ∧ State.butDraws s t [Jvm.Choice.named "NaN.bits"] (fun t1 => Framed s o t1 (fieldLocs frame_1_writes a s ++ arrayLocs frame_1_arrays a s ++ staticLocs frame_1_statics s) 601024 7293034)) := by
  intro l hflags _ _ p e ha hc hk s m args below hf hfit hheap happ hpre
  obtain ⟨k, o, h1, h2, h3, rfl, hF⟩ := lw_comes l hflags p e ha hc hk s m args below hf hfit hheap happ hpre
  exact ⟨k, _, h1, h2, h3, hL args s _, lw_frame hF⟩
theorem i_vc : Claimed_1_1 ∧ Claimed_1_2 := ⟨lw_limb limb_1_1 (fun args s t => by simp [limb_1_1, Cond.after, Cond.holds, Cond.value]), lw_limb limb_1_2 (fun args s t => Cond.after_iff.mpr (by
  first | (rw [show limb_1_2 = Cond.eq .result (.int 1) from rfl, Cond.eq_ints (x := 1) (y := 1) rfl rfl]; simp; done) | (simp [limb_1_2, Cond.value, Term.eval]; done)))⟩
