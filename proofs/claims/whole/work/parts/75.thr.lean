/-! 75: judge, file, owed where they throw; the methods of the law that catch -/
def rmX (d : Nat) : Room := { frames := d, cells := 1, slots := 6, locals := 64 * d }
def XCm (G : Gt) (M : Mem) : String → State → State → Prop := vx_X (S := Unit) (fun _ => True) (fun E _ t => E = nse ∧ Wd G M t.heap) (gA G)
def XT (G : Gt) (D : Nat) (M : Mem) : UX := (rmX D, fun below args s => vx_MQ below (QV G (fun _ _ => False)) (XCm G M) args s 1 6 (gA G), fun _ => gA G, fun _ _ _ _ _ _ _ c => ∀ x ∈ c.exceptionTable.toList, False)
theorem kzA (G : Gt) : Kz G (fun _ => gA G) := fun s U H locs hK hw hS => hK.warm hw hS.2.1
theorem Wd.grown {G : Gt} {M : Mem} {H H1 : Heap} (h : Wd G M H) (hq : ∀ q : Nat, q < H.size → H1[q]? = H[q]?) : Wd G M H1 := va_P.kept h (fun k q hk => hq _ (vx_lt h hk))
section UGet
variable {G : Gt} {X : UX} {nc ns : Nat} {k : Mth} {pc : Nat} {ls : List (Option Value)} {st : List Value} {M : Mem}
theorem u_getV {x ci f kd a : Nat} (i : Nat) (hd : k.2.2.2.2.2[i]? = some (pc, .getfield x, 3)) (hf : FL k.1 x ci f kd) (hs : shL[a]? = some (.inr ci)) {v : Value} (hv : rv (ga G) v = eV G M a f kd) (n : U G X nc ns k (pc + 3) ls (v :: st) M) : U G X nc ns k pc ls (.ref a :: st) M := by
  intro p e s m args below meth c C E9 F9 H locs hW hS lsR hl
  obtain ⟨hx, hb, hml, hr, hlk, hown, hts, hK, hdc⟩ := id C
  have hdg := hdc _ (List.mem_of_getElem? hd)
  have n9 := n p e s m args below meth c C E9 F9 H locs hW hS lsR hl
  obtain ⟨Cn, T, N, h1, h2, h3, h4, h5, h6, -⟩ := hf
  refine va_get (D := gD G) hx hb hts (clX_in h1) hown hK.1 hW a (ws_obj hs) h1 f h2 (hts _ h4) (fun y h => by rw [h5] at h; exact h) (v := rv (ga G) v) ?_ hdg n9
  rw [eF_at G M a ci (by omega), h6, hv]
theorem u_getR {x ci f a : Nat} (i : Nat) (hd : k.2.2.2.2.2[i]? = some (pc, .getfield x, 3)) (hf : FL k.1 x ci f 3) (hs : shL[a]? = some (.inr ci)) (t : Nat) (ht : gR M a f = t) (n : U G X nc ns k (pc + 3) ls (.ref t :: st) M) : U G X nc ns k pc ls (.ref a :: st) M := u_getV i hd hf hs (v := .ref t) (by rw [← ht]; rfl) n
end UGet
section TXU
variable {G : Gt} {D d : Nat} {k : Mth} {pc : Nat} {ls : List (Option Value)} {M : Mem}
theorem U.metX (hk : MOk k) {As : List Value} (hlen : (entL As).length ≤ k.2.2.2.1) (h : U G (XT G D M) 0 0 k 0 (ent k.2.2.2.1 As) [] M) : vx_Met (gl G) k.2.1 (wsK k) (rmX D) (PcK G As M) (QV G (fun _ _ => False)) (XCm G M) 1 6 (gA G) := by
  refine vx_ofW (cc := k.2.2.1) (maxL := k.2.2.2.1) (ret := k.2.2.2.2.1) hk.1 rfl ?_
  intro p e s m args below meth c s₁ B hml ht hv
  obtain ⟨rfl, hW, hK⟩ := hv
  have hts := atoms_spec (ws := wsK k) B.pre
  have hown : s.vm.findClass k.2.1.cls = some m.cls := findClass_of_methodNamed B.named
  rw [hk.2.1] at hown
  rw [lg_entry_eq]
  exact h p e s m _ below meth c ⟨B.exec, B.bytes, hml, B.returns, B.notSynchronized, hown, fun w hw => hts w (List.mem_cons_of_mem _ hw), hK, hk.2.2.1⟩ ht (fun q hq => hq) s.heap [] hW va_S.rf _ (ent_ok (ga G) _ As hlen)
theorem XCm.of {s t : State} {H : Heap} {locs : List Loc} (hW : Wd G M H) (hS : va_S (gA G) s.heap H locs) (h1 : H.size ≤ t.heap.size) (h2 : ∀ q : Nat, q < H.size → t.heap[q]? = H[q]?) : XCm G M nse s t :=
  ⟨(), trivial, ⟨rfl, hW.grown h2⟩, Nat.le_trans hS.1 h1, fun q hq hn => (h2 q (Nat.lt_of_lt_of_le hq hS.1)).trans (hS.2.1 q hq hn)⟩
theorem u_throwS {j is : Nat} {text : String} (hl : (gl G).stackTraces = false) (hk1 : k.1 = RX11) (hj : strX[j]? = some (is, text)) (hD : 6 ≤ D) (i0 i1 i2 i3 i4 : Nat) (p3 p4 p6 p9 : Nat) (d0 : k.2.2.2.2.2[i0]? = some (pc, .new 119, 3)) (d3 : k.2.2.2.2.2[i1]? = some (p3, .dup, 1)) (d4 : k.2.2.2.2.2[i2]? = some (p4, .ldc is, 2)) (e6 : p3 = pc + 3 ∧ p4 = pc + 4 ∧ p6 = pc + 6 ∧ p9 = pc + 9) (d6 : k.2.2.2.2.2[i3]? = some (p6, .invokespecial 123, 3)) (d9 : k.2.2.2.2.2[i4]? = some (p9, .athrow, 1)) : U G (XT G D M) 0 0 k pc ls [] M := by
  intro p e s m args below meth c C E9 F9 H locs hW hS lsR hl9
  obtain ⟨hx, hb, hml, hr, hlk, hown, hts, hK, hdc⟩ := id C
  obtain ⟨rfl, rfl, rfl, rfl⟩ := e6
  have e9 : ∀ x ∈ c.exceptionTable.toList, False := E9
  show W p (gl G) e (rmX D) s m args below meth c H locs 0 0 (vx_MQ below (QV G (fun _ _ => False)) (XCm G M) args s 1 6 (gA G)) (F0 m pc lsR [])
  have gd0 := hdc _ (List.mem_of_getElem? d0)
  have gd3 := hdc _ (List.mem_of_getElem? d3)
  have gd4 := hdc _ (List.mem_of_getElem? d4)
  have gd6 := hdc _ (List.mem_of_getElem? d6)
  have gd9 := hdc _ (List.mem_of_getElem? d9)
  have h6 : (rmX D).frames = D := rfl
  have h7 : (rmX D).locals = 64 * D := rfl
  refine tx_throwS (R := rmX D) (rest := []) (mc := 1) (ms := 6) (free := gA G) (XC := XCm G M) (cc := k.2.2.1) hx hb hl (hk1 ▸ hown) hts hK (hK.2.2.2.2.2.2.2.2.2.1 j _ hj) hS (hl9.1.trans hml.symm) gd0 gd3 gd4 gd6 gd9 (fun x hx => (e9 x hx).elim) (by rw [h6]; omega) (by rw [h7]; show 0 + 82 ≤ _; omega) (Nat.le_refl 1) (Nat.le_refl 6) hlk (fun t _ h1 h2 => XCm.of hW hS h1 h2) hS.2.2 (Nat.le_refl 1) (Nat.le_refl 6)
theorem u_throwW {j is : Nat} {text : String} (hl : (gl G).stackTraces = false) (hk1 : k.1 = RX11) (hj : strX[j]? = some (is, text)) (hD : 6 ≤ D) (i0 i1 i2 i3 i4 : Nat) (p3 p4 p6 p9 : Nat) (d0 : k.2.2.2.2.2[i0]? = some (pc, .new 119, 3)) (d3 : k.2.2.2.2.2[i1]? = some (p3, .dup, 1)) (d4 : k.2.2.2.2.2[i2]? = some (p4, .ldc_w is, 3)) (e6 : p3 = pc + 3 ∧ p4 = pc + 4 ∧ p6 = pc + 7 ∧ p9 = pc + 10) (d6 : k.2.2.2.2.2[i3]? = some (p6, .invokespecial 123, 3)) (d9 : k.2.2.2.2.2[i4]? = some (p9, .athrow, 1)) : U G (XT G D M) 0 0 k pc ls [] M := by
  intro p e s m args below meth c C E9 F9 H locs hW hS lsR hl9
  obtain ⟨hx, hb, hml, hr, hlk, hown, hts, hK, hdc⟩ := id C
  obtain ⟨rfl, rfl, rfl, rfl⟩ := e6
  have e9 : ∀ x ∈ c.exceptionTable.toList, False := E9
  show W p (gl G) e (rmX D) s m args below meth c H locs 0 0 (vx_MQ below (QV G (fun _ _ => False)) (XCm G M) args s 1 6 (gA G)) (F0 m pc lsR [])
  have gd0 := hdc _ (List.mem_of_getElem? d0)
  have gd3 := hdc _ (List.mem_of_getElem? d3)
  have gd4 := hdc _ (List.mem_of_getElem? d4)
  have gd6 := hdc _ (List.mem_of_getElem? d6)
  have gd9 := hdc _ (List.mem_of_getElem? d9)
  have h6 : (rmX D).frames = D := rfl
  have h7 : (rmX D).locals = 64 * D := rfl
  refine tx_throwW (R := rmX D) (rest := []) (mc := 1) (ms := 6) (free := gA G) (XC := XCm G M) (cc := k.2.2.1) hx hb hl (hk1 ▸ hown) hts hK (hK.2.2.2.2.2.2.2.2.2.1 j _ hj) hS (hl9.1.trans hml.symm) gd0 gd3 gd4 gd6 gd9 (fun x hx => (e9 x hx).elim) (by rw [h6]; omega) (by rw [h7]; show 0 + 82 ≤ _; omega) (Nat.le_refl 1) (Nat.le_refl 6) hlk (fun t _ h1 h2 => XCm.of hW hS h1 h2) hS.2.2 (Nat.le_refl 1) (Nat.le_refl 6)
theorem u_cV1i {k2 : Mth} {X : UX} {nc ns ci x b : Nat} {a1 : Value} {rest : List Value} {z : Int32} {M2 : Mem} (hz : Kz G X.2.2.1) (hR : (d + 1 ≤ X.1.frames ∧ 64 * (d + 1) ≤ X.1.locals) ∧ nc ≤ X.1.cells ∧ ns ≤ X.1.slots) (i : Nat) (hd : k.2.2.2.2.2[i]? = some (pc, .invokevirtual x, 3)) (hc : CV k.1 x k2 ci 1) (hs : shL[b]? = some (.inr ci)) (hr : (rest.map fun v => v.category).sum ≤ 8) (hlen : (entL [.ref b, a1]).length ≤ k2.2.2.2.1) (hV : V G d k2 0 (ent k2.2.2.2.1 [.ref b, a1]) [] M (Ret (some (.int z)) M2)) (nx : U G X nc ns k (pc + 3) ls (.int z :: rest) M2) : U G X nc ns k pc ls (a1 :: .ref b :: rest) M := u_callV (As := [a1]) i hd hc rfl hs hr hlen hz hR hV (fun r N h => by obtain ⟨rfl, rfl⟩ := h; exact nx)
end TXU
section TXJ
variable {G : Gt} {M : Mem} {A : Ax} {c c2 : Nat}
theorem t_judge (hl : (gl G).stackTraces = false) (h : CRc M A c c2) {j w : Int} (hj : -2147483648 ≤ j ∧ j ≤ 2147483647) (hw : -2147483648 ≤ w ∧ w ≤ 2147483647) (hq : ¬ judOk A j w) : U G (XT G 8 M) 0 0 mX11_judge 0 [some (.ref 0), some (.int (J j)), some (.int (J w))] [] M := by
  have hc := h.hc
  have hto := h.2.1
  have hn := h.nn
  unfold judOk at hq
  refine u_aload_n (pc := 0) 0 rfl rfl ?_
  refine u_getR (pc := 1) 1 rfl fl_X11_20 rfl _ hto ?_
  refine u_iload_n (pc := 4) 2 rfl rfl ?_
  refine u_cV1i (d := 0) (kzA G) ⟨⟨(by decide : 0 + 1 ≤ 8), (by decide : 64 * (0 + 1) ≤ 64 * 8)⟩, Nat.zero_le _, Nat.zero_le _⟩ (pc := 5) 3 rfl cv_X11_116 (shC hc) (Nat.le_of_ble_eq_true rfl) (Nat.le_of_ble_eq_true rfl) (c_hasJudge hc (by omega) (by omega)) ?_
  refine u_if_ne (pc := 8) 4 21 rfl (by decide) (by omega) (fun e1 => ?_) (fun e1 => ?_)
  · refine u_iload_n (pc := 21) 10 rfl rfl ?_
    refine u_tswOut (pc := 22) 11 92 rfl (by omega) (by decide) ?_
    exact u_throwS hl rfl (j := 1) rfl (by decide) (pc := 92) 36 37 38 39 40 95 96 98 101 rfl rfl rfl (by decide) rfl rfl
  · exact u_throwS hl rfl (j := 0) rfl (by decide) (pc := 11) 5 6 7 8 9 14 15 17 20 rfl rfl rfl (by decide) rfl rfl
theorem t_file (hl : (gl G).stackTraces = false) (h : CRc M A c c2) {j w : Int} (hj : -2147483648 ≤ j ∧ j ≤ 2147483647) (hw : -2147483648 ≤ w ∧ w ≤ 2147483647) (hq : ¬ filOk A j w) : U G (XT G 8 M) 0 0 mX11_file 0 [some (.ref 0), some (.int (J j)), some (.int (J w))] [] M := by
  have hc := h.hc
  have hto := h.2.1
  have hn := h.nn
  unfold filOk at hq
  refine u_aload_n (pc := 0) 0 rfl rfl ?_
  refine u_getR (pc := 1) 1 rfl fl_X11_20 rfl _ hto ?_
  refine u_iload_n (pc := 4) 2 rfl rfl ?_
  refine u_cV1i (d := 0) (kzA G) ⟨⟨(by decide : 0 + 1 ≤ 8), (by decide : 64 * (0 + 1) ≤ 64 * 8)⟩, Nat.zero_le _, Nat.zero_le _⟩ (pc := 5) 3 rfl cv_X11_141 (shC hc) (Nat.le_of_ble_eq_true rfl) (Nat.le_of_ble_eq_true rfl) (c_hasCase hc (by omega) (by omega)) ?_
  refine u_if_ne (pc := 8) 4 21 rfl (by decide) (by omega) (fun e1 => ?_) (fun e1 => ?_)
  · refine u_iload_n (pc := 21) 10 rfl rfl ?_
    refine u_tswOut (pc := 22) 11 134 rfl (by omega) (by decide) ?_
    exact u_throwS hl rfl (j := 3) rfl (by decide) (pc := 134) 54 55 56 57 58 137 138 140 143 rfl rfl rfl (by decide) rfl rfl
  · exact u_throwS hl rfl (j := 2) rfl (by decide) (pc := 11) 5 6 7 8 9 14 15 17 20 rfl rfl rfl (by decide) rfl rfl
theorem t_owed (hl : (gl G).stackTraces = false) (h : CRc M A c c2) {j : Int} (hj : -2147483648 ≤ j ∧ j ≤ 2147483647) (hq : ¬ owOk A j) : U G (XT G 8 M) 0 0 mX11_owed 0 [some (.ref 0), some (.int (J j))] [] M := by
  have hc := h.hc
  have hto := h.2.1
  have hn := h.nn
  unfold owOk at hq
  refine u_aload_n (pc := 0) 0 rfl rfl ?_
  refine u_getR (pc := 1) 1 rfl fl_X11_20 rfl _ hto ?_
  refine u_iload_n (pc := 4) 2 rfl rfl ?_
  refine u_cV1i (d := 0) (kzA G) ⟨⟨(by decide : 0 + 1 ≤ 8), (by decide : 64 * (0 + 1) ≤ 64 * 8)⟩, Nat.zero_le _, Nat.zero_le _⟩ (pc := 5) 3 rfl cv_X11_108 (shC hc) (Nat.le_of_ble_eq_true rfl) (Nat.le_of_ble_eq_true rfl) (c_hasTown hc (by omega) (by omega)) ?_
  refine u_if_neF (pc := 8) 4 22 rfl (by decide) (by omega) (by omega) ?_
  exact u_throwW hl rfl (j := 4) rfl (by decide) (pc := 11) 5 6 7 8 9 14 15 18 21 rfl rfl rfl (by decide) rfl rfl
end TXJ
