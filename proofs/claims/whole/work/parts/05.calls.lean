/-! 05: fields, arrays, calls -/
def FL (own : String) (x ci f kd : Nat) : Prop := ∃ (C : String) (T : u_T) (N : Nat), clX[ci]? = some (C, T, N) ∧ f < N ∧ N = (ftL.getD ci []).length ∧ Cond.fieldLink own x C (T f).2.1 (T f).2.2.1 ∈ tb ∧ (T f).1 = C ∧ fk ci f = kd ∧
  (kd = 0 → parseFieldDescriptor (T f).2.2.1 = some .int ∧ (T f).2.2.2 = false) ∧ (kd = 1 → parseFieldDescriptor (T f).2.2.1 = some .long ∧ (T f).2.2.2 = false) ∧ (kd = 3 → (∃ D, parseFieldDescriptor (T f).2.2.1 = some (.object D)) ∧ (T f).2.2.2 = false)
section VRules2
variable {G : Gt} {d : Nat} {k : Mth} {pc : Nat} {ls : List (Option Value)} {st : List Value} {M : Mem} {Q : Option Value → Mem → Prop}
theorem eF_at (G : Gt) (M : Mem) (a ci : Nat) {f : Nat} (hf : f < (ftL.getD ci []).length) : (eF G M a ci)[f]? = some (eV G M a f (fk ci f)) := by
  unfold eF; rw [List.getElem?_map, List.getElem?_range hf]; rfl
theorem eF_len (G : Gt) (M : Mem) (a ci : Nat) : (eF G M a ci).length = (ftL.getD ci []).length := by unfold eF; rw [List.length_map, List.length_range]
theorem eF_set {N : Mem} {a ci f : Nat} {v : Value} (hf : f < (ftL.getD ci []).length) (hv : eV G N a f (fk ci f) = v) (h : ∀ j, j ≠ f → eV G N a j (fk ci j) = eV G M a j (fk ci j)) : eF G N a ci = (eF G M a ci).set f v := by
  apply List.ext_getElem?
  intro j
  by_cases hj : j < (ftL.getD ci []).length
  · rw [eF_at G N a ci hj, List.getElem?_set]
    by_cases e : f = j
    · subst e; rw [if_pos rfl, if_pos (by rw [eF_len]; exact hf), hv]
    · rw [if_neg e, eF_at G M a ci hj, h j (Ne.symm e)]
  · rw [List.getElem?_eq_none (by rw [eF_len]; omega), List.getElem?_eq_none (by rw [List.length_set, eF_len]; omega)]
theorem ws_obj {a ci : Nat} (hs : shL[a]? = some (.inr ci)) : (wsO G M)[a]? = some (ga G a, .inr (ci, eF G M a ci)) := by
  rw [ws_at G M (sh_lt hs)]; unfold eC; rw [hs]
theorem ws_arr {a n : Nat} {ty : FieldType} (hs : shL[a]? = some (.inl (ty, n))) : (wsO G M)[a]? = some (ga G a, eA G M a ty n) := by
  rw [ws_at G M (sh_lt hs)]; unfold eC; rw [hs]
theorem eC_obj {a ci : Nat} (hs : shL[a]? = some (.inr ci)) : eC G M a = .inr (ci, eF G M a ci) := by unfold eC; rw [hs]
theorem eC_arr {a n : Nat} {ty : FieldType} (hs : shL[a]? = some (.inl (ty, n))) : eC G M a = eA G M a ty n := by unfold eC; rw [hs]
theorem gI_sI_ne {M : Mem} {a i : Nat} {v : Int} {b : Nat} (h : b ≠ a) : gI (sI M a i v) b = gI M b := by funext j; rw [gI_sI, if_neg h]
theorem gL_sL_ne {M : Mem} {a i : Nat} {v : Int64} {b : Nat} (h : b ≠ a) : gL (sL M a i v) b = gL M b := by funext j; rw [gL_sL, if_neg h]
theorem gR_sR_ne {M : Mem} {a i v : Nat} {b : Nat} (h : b ≠ a) : gR (sR M a i v) b = gR M b := by funext j; rw [gR_sR, if_neg h]
theorem gI_aI_ne {M : Mem} {a : Nat} {g : Nat → Int} {b : Nat} (h : b ≠ a) : gI (aI M a g) b = gI M b := by funext j; rw [gI_aI, if_neg h]
theorem v_getV {x ci f kd a : Nat} (i : Nat) (hd : k.2.2.2.2.2[i]? = some (pc, .getfield x, 3)) (hf : FL k.1 x ci f kd) (hs : shL[a]? = some (.inr ci)) {v : Value} (hv : rv (ga G) v = eV G M a f kd) (n : V G d k (pc + 3) ls (v :: st) M Q) : V G d k pc ls (.ref a :: st) M Q := by
  intro p e s m args below meth c C H locs hW hS lsR hl
  obtain ⟨hx, hb, hml, hr, hlk, hown, hts, hK, hdc⟩ := id C
  have hdg := hdc _ (List.mem_of_getElem? hd)
  have n9 := n p e s m args below meth c C H locs hW hS lsR hl
  obtain ⟨Cn, T, N, h1, h2, h3, h4, h5, h6, -⟩ := hf
  refine va_get (D := gD G) hx hb hts (clX_in h1) hown hK.1 hW a (ws_obj hs) h1 f h2 (hts _ h4) (fun y h => by rw [h5] at h; exact h) (v := rv (ga G) v) ?_ hdg n9
  rw [eF_at G M a ci (by omega), h6, hv]
theorem v_getI {x ci f a : Nat} (i : Nat) (hd : k.2.2.2.2.2[i]? = some (pc, .getfield x, 3)) (hf : FL k.1 x ci f 0) (hs : shL[a]? = some (.inr ci)) (n : V G d k (pc + 3) ls (.int (J (gI M a f)) :: st) M Q) : V G d k pc ls (.ref a :: st) M Q := v_getV i hd hf hs (v := .int (J (gI M a f))) rfl n
theorem v_getL {x ci f a : Nat} (i : Nat) (hd : k.2.2.2.2.2[i]? = some (pc, .getfield x, 3)) (hf : FL k.1 x ci f 1) (hs : shL[a]? = some (.inr ci)) (n : V G d k (pc + 3) ls (.long (gL M a f) :: st) M Q) : V G d k pc ls (.ref a :: st) M Q := v_getV i hd hf hs (v := .long (gL M a f)) rfl n
theorem v_getC {x ci f a : Nat} (i : Nat) (hd : k.2.2.2.2.2[i]? = some (pc, .getfield x, 3)) (hf : FL k.1 x ci f 2) (hs : shL[a]? = some (.inr ci)) (t : Nat) (ht : rt a f = t) (n : V G d k (pc + 3) ls (.ref t :: st) M Q) : V G d k pc ls (.ref a :: st) M Q := v_getV i hd hf hs (v := .ref t) (by rw [← ht]; rfl) n
theorem v_getR {x ci f a : Nat} (i : Nat) (hd : k.2.2.2.2.2[i]? = some (pc, .getfield x, 3)) (hf : FL k.1 x ci f 3) (hs : shL[a]? = some (.inr ci)) (t : Nat) (ht : gR M a f = t) (n : V G d k (pc + 3) ls (.ref t :: st) M Q) : V G d k pc ls (.ref a :: st) M Q := v_getV i hd hf hs (v := .ref t) (by rw [← ht]; rfl) n
theorem v_putV {x ci f kd a : Nat} (i : Nat) (hd : k.2.2.2.2.2[i]? = some (pc, .putfield x, 3)) (hf : FL k.1 x ci f kd) (hs : shL[a]? = some (.inr ci)) {v : Value} {N : Mem} (hn : ∀ ty : FieldType, ((kd = 0 ∧ ty = .int) ∨ (kd = 1 ∧ ty = .long) ∨ (kd = 3 ∧ ∃ D, ty = .object D)) → narrow ty (rv (ga G) v) = rv (ga G) v ∧ fits ty (rv (ga G) v) = true) (hkd : kd = 0 ∨ kd = 1 ∨ kd = 3)
    (hv : eV G N a f kd = rv (ga G) v) (ho : ∀ j, j ≠ f → ∀ q, eV G N a j q = eV G M a j q) (h1 : ∀ b, b ≠ a → gI N b = gI M b) (h2 : ∀ b, b ≠ a → gL N b = gL M b) (h3 : ∀ b, b ≠ a → gR N b = gR M b)
    (n : V G d k (pc + 3) ls st N Q) : V G d k pc ls (v :: .ref a :: st) M Q := by
  intro p e s m args below meth c C H locs hW hS lsR hl
  obtain ⟨hx, hb, hml, hr, hlk, hown, hts, hK, hdc⟩ := id C
  have hdg := hdc _ (List.mem_of_getElem? hd)
  obtain ⟨Cn, T, NN, c1, c2, c3, c4, c5, c6, k0, k1, k3⟩ := hf
  obtain ⟨ty, hty, hfin, hor⟩ : ∃ ty, parseFieldDescriptor (T f).2.2.1 = some ty ∧ (T f).2.2.2 = false ∧ ((kd = 0 ∧ ty = .int) ∨ (kd = 1 ∧ ty = .long) ∨ (kd = 3 ∧ ∃ D, ty = .object D)) := by
    rcases hkd with e | e | e
    · exact ⟨_, (k0 e).1, (k0 e).2, Or.inl ⟨e, rfl⟩⟩
    · exact ⟨_, (k1 e).1, (k1 e).2, Or.inr (Or.inl ⟨e, rfl⟩)⟩
    · obtain ⟨D, hD⟩ := (k3 e).1
      exact ⟨_, hD, (k3 e).2, Or.inr (Or.inr ⟨e, D, rfl⟩)⟩
  have hnn := hn ty hor
  have hset : (wsO G M).set a (ga G a, .inr (ci, (eF G M a ci).set f (rv (ga G) v))) = wsO G N :=
    ws_set (sh_lt hs) (by rw [eC_obj hs, eF_set (f := f) (v := rv (ga G) v) (by omega) (by rw [c6]; exact hv) (fun j hj => ho j hj _)]) h1 h2 h3
  refine va_put (D := gD G) hx hb hts (clX_in c1) _ (clX_ty c1).1 (clX_ty c1).2 hown hK.1 hW (wsD G M hK.2.1) hS a (ws_obj hs) c1 f c2 (hts _ c4) (fun y h => by rw [c5] at h; exact h) hfin hty hnn.1 hnn.2 (by rw [eF_len]; omega) hdg (fun H1 locs1 p1 d1 s1 => ?_)
  rw [hset] at p1
  exact n p e s m args below meth c C H1 locs1 p1 s1 lsR hl
theorem v_putI {x ci f a : Nat} {z : Int} (i : Nat) (hd : k.2.2.2.2.2[i]? = some (pc, .putfield x, 3)) (hf : FL k.1 x ci f 0) (hs : shL[a]? = some (.inr ci)) (n : V G d k (pc + 3) ls st (sI M a f z) Q) : V G d k pc ls (.int (J z) :: .ref a :: st) M Q := by
  refine v_putV i hd hf hs (v := .int (J z)) (N := sI M a f z) (fun ty h => ?_) (Or.inl rfl) ?_ (fun j hj q => ?_) (fun b hb => gI_sI_ne hb) (fun b _ => rfl) (fun b _ => rfl) n
  · rcases h with ⟨-, rfl⟩ | ⟨h, -⟩ | ⟨h, -⟩
    · exact ⟨rfl, rfl⟩
    · cases h
    · cases h
  · show Value.int (J (gI (sI M a f z) a f)) = .int (J z)
    rw [gI_sI, if_pos rfl, if_pos rfl]
  · unfold eV
    rw [gI_sI, if_pos rfl, if_neg hj]; rfl
theorem v_putL {x ci f a : Nat} {z : Int64} (i : Nat) (hd : k.2.2.2.2.2[i]? = some (pc, .putfield x, 3)) (hf : FL k.1 x ci f 1) (hs : shL[a]? = some (.inr ci)) (n : V G d k (pc + 3) ls st (sL M a f z) Q) : V G d k pc ls (.long z :: .ref a :: st) M Q := by
  refine v_putV i hd hf hs (v := .long z) (N := sL M a f z) (fun ty h => ?_) (Or.inr (Or.inl rfl)) ?_ (fun j hj q => ?_) (fun b _ => rfl) (fun b hb => gL_sL_ne hb) (fun b _ => rfl) n
  · rcases h with ⟨h, -⟩ | ⟨-, rfl⟩ | ⟨h, -⟩
    · cases h
    · exact ⟨rfl, rfl⟩
    · cases h
  · show Value.long (gL (sL M a f z) a f) = .long z
    rw [gL_sL, if_pos rfl, if_pos rfl]
  · unfold eV
    rw [gL_sL, if_pos rfl, if_neg hj]; rfl
theorem v_putR {x ci f a t : Nat} (i : Nat) (hd : k.2.2.2.2.2[i]? = some (pc, .putfield x, 3)) (hf : FL k.1 x ci f 3) (hs : shL[a]? = some (.inr ci)) (n : V G d k (pc + 3) ls st (sR M a f t) Q) : V G d k pc ls (.ref t :: .ref a :: st) M Q := by
  refine v_putV i hd hf hs (v := .ref t) (N := sR M a f t) (fun ty h => ?_) (Or.inr (Or.inr rfl)) ?_ (fun j hj q => ?_) (fun b _ => rfl) (fun b _ => rfl) (fun b hb => gR_sR_ne hb) n
  · rcases h with ⟨h, -⟩ | ⟨h, -⟩ | ⟨-, D, rfl⟩
    · cases h
    · cases h
    · exact ⟨rfl, rfl⟩
  · show Value.ref (ga G (gR (sR M a f t) a f)) = .ref (ga G t)
    rw [gR_sR, if_pos rfl, if_pos rfl]
  · unfold eV
    rw [gR_sR, if_pos rfl, if_neg hj]; rfl
/-! arrays -/
theorem v_iald {z : Int} {a n0 : Nat} (i : Nat) (hd : k.2.2.2.2.2[i]? = some (pc, .iaload, 1)) (hs : shL[a]? = some (.inl (.int, n0))) (hz : 0 ≤ z ∧ z < (n0 : Int) ∧ z ≤ 2147483647) (n : V G d k (pc + 1) ls (.int (J (gI M a z.toNat)) :: st) M Q) : V G d k pc ls (.int (J z) :: .ref a :: st) M Q := by
  intro p e s m args below meth c C H locs hW hS lsR hl
  obtain ⟨hx, hb, hml, hr, hlk, hown, hts, hK, hdc⟩ := id C
  have hdg := hdc _ (List.mem_of_getElem? hd)
  have n9 := n p e s m args below meth c C H locs hW hS lsR hl
  rw [← J_clamp (a := z) (by omega)] at n9
  exact va_iald (f := fun j => J (gI M a j)) hx hb hK.1 hW a 0 (ws_arr hs) rfl (J_in hz) hdg n9
theorem v_bald {z : Int} {a n0 : Nat} (i : Nat) (hd : k.2.2.2.2.2[i]? = some (pc, .baload, 1)) (hs : shL[a]? = some (.inl (.byte, n0))) (hz : 0 ≤ z ∧ z < (n0 : Int) ∧ z ≤ 2147483647) (n : V G d k (pc + 1) ls (.int (J (gI M a z.toNat)) :: st) M Q) : V G d k pc ls (.int (J z) :: .ref a :: st) M Q := by
  intro p e s m args below meth c C H locs hW hS lsR hl
  obtain ⟨hx, hb, hml, hr, hlk, hown, hts, hK, hdc⟩ := id C
  have hdg := hdc _ (List.mem_of_getElem? hd)
  have n9 := n p e s m args below meth c C H locs hW hS lsR hl
  rw [← J_clamp (a := z) (by omega)] at n9
  exact va_bald (f := fun j => J (gI M a j)) hx hb hK.1 hW a 1 (ws_arr hs) rfl (J_in hz) hdg n9
theorem v_zald {z : Int} {a n0 : Nat} (i : Nat) (hd : k.2.2.2.2.2[i]? = some (pc, .baload, 1)) (hs : shL[a]? = some (.inl (.boolean, n0))) (hz : 0 ≤ z ∧ z < (n0 : Int) ∧ z ≤ 2147483647) (n : V G d k (pc + 1) ls (.int (J (gI M a z.toNat)) :: st) M Q) : V G d k pc ls (.int (J z) :: .ref a :: st) M Q := by
  intro p e s m args below meth c C H locs hW hS lsR hl
  obtain ⟨hx, hb, hml, hr, hlk, hown, hts, hK, hdc⟩ := id C
  have hdg := hdc _ (List.mem_of_getElem? hd)
  have n9 := n p e s m args below meth c C H locs hW hS lsR hl
  rw [← J_clamp (a := z) (by omega)] at n9
  exact va_zald (f := fun j => J (gI M a j)) hx hb hK.1 hW a 3 (ws_arr hs) rfl (J_in hz) hdg n9
theorem v_lald {z : Int} {a n0 : Nat} (i : Nat) (hd : k.2.2.2.2.2[i]? = some (pc, .laload, 1)) (hs : shL[a]? = some (.inl (.long, n0))) (hz : 0 ≤ z ∧ z < (n0 : Int) ∧ z ≤ 2147483647) (n : V G d k (pc + 1) ls (.long (gL M a z.toNat) :: st) M Q) : V G d k pc ls (.int (J z) :: .ref a :: st) M Q := by
  intro p e s m args below meth c C H locs hW hS lsR hl
  obtain ⟨hx, hb, hml, hr, hlk, hown, hts, hK, hdc⟩ := id C
  have hdg := hdc _ (List.mem_of_getElem? hd)
  have n9 := n p e s m args below meth c C H locs hW hS lsR hl
  rw [← J_clamp (a := z) (by omega)] at n9
  exact va_lald (f := fun j => gL M a j) hx hb hK.1 hW a 2 (ws_arr hs) rfl (J_in hz) hdg n9
theorem upd_sI (M : Mem) (a : Nat) {z v : Int} (hz : 0 ≤ z ∧ z ≤ 2147483647) : upd (fun j => J (gI M a j)) (J z).toNatClampNeg (J v) = fun j => J (gI (sI M a z.toNat v) a j) := by
  funext j
  rw [J_clamp hz, gI_sI, if_pos rfl]
  unfold upd
  split <;> rfl
theorem v_iast {z v : Int} {a n0 : Nat} (i : Nat) (hd : k.2.2.2.2.2[i]? = some (pc, .iastore, 1)) (hs : shL[a]? = some (.inl (.int, n0))) (hz : 0 ≤ z ∧ z < (n0 : Int) ∧ z ≤ 2147483647) (n : V G d k (pc + 1) ls st (sI M a z.toNat v) Q) : V G d k pc ls (.int (J v) :: .int (J z) :: .ref a :: st) M Q := by
  intro p e s m args below meth c C H locs hW hS lsR hl
  obtain ⟨hx, hb, hml, hr, hlk, hown, hts, hK, hdc⟩ := id C
  have hdg := hdc _ (List.mem_of_getElem? hd)
  refine va_iast (f := fun j => J (gI M a j)) hx hb hK.1 hW (wsD G M hK.2.1) hS a 0 (ws_arr hs) rfl (J_in hz) hdg (fun H1 locs1 p1 d1 s1 => ?_)
  have hset : (wsO G M).set a (ga G a, .inl (gc G .int, n0, .inl (fun j => J (gI (sI M a z.toNat v) a j)))) = wsO G (sI M a z.toNat v) := ws_set (sh_lt hs) (eC_arr hs) (fun b hb => gI_sI_ne hb) (fun b _ => rfl) (fun b _ => rfl)
  rw [upd_sI M a (by omega), hset] at p1
  exact n p e s m args below meth c C H1 locs1 p1 s1 lsR hl
theorem nar_b {v : Int} (h : -128 ≤ v ∧ v < 128) : vp_nar .byte (J v) = J v := by
  have e : (J v).toInt8.toInt32 = J v := by
    rw [← Int32.toInt_inj, Int8.toInt_toInt32, Int32.toInt_toInt8, J_toInt (by omega)]
    rw [Int.bmod_eq_of_le (by omega) (by omega)]
  exact e
theorem nar_z {v : Int} (h : v = 0 ∨ v = 1) : vp_nar .boolean (J v) = J v := by
  rcases h with rfl | rfl <;> decide
theorem v_bast {z v : Int} {a n0 : Nat} (i : Nat) (hd : k.2.2.2.2.2[i]? = some (pc, .bastore, 1)) (hs : shL[a]? = some (.inl (.byte, n0))) (hz : 0 ≤ z ∧ z < (n0 : Int) ∧ z ≤ 2147483647) (hv : -128 ≤ v ∧ v < 128) (n : V G d k (pc + 1) ls st (sI M a z.toNat v) Q) : V G d k pc ls (.int (J v) :: .int (J z) :: .ref a :: st) M Q := by
  intro p e s m args below meth c C H locs hW hS lsR hl
  obtain ⟨hx, hb, hml, hr, hlk, hown, hts, hK, hdc⟩ := id C
  have hdg := hdc _ (List.mem_of_getElem? hd)
  refine va_bast (f := fun j => J (gI M a j)) hx hb hK.1 hW (wsD G M hK.2.1) hS a 1 (ws_arr hs) rfl (J_in hz) hdg (fun H1 locs1 p1 d1 s1 => ?_)
  have hset : (wsO G M).set a (ga G a, .inl (gc G .byte, n0, .inl (fun j => J (gI (sI M a z.toNat v) a j)))) = wsO G (sI M a z.toNat v) := ws_set (sh_lt hs) (eC_arr hs) (fun b hb => gI_sI_ne hb) (fun b _ => rfl) (fun b _ => rfl)
  rw [nar_b hv, upd_sI M a (by omega), hset] at p1
  exact n p e s m args below meth c C H1 locs1 p1 s1 lsR hl
theorem v_zast {z v : Int} {a n0 : Nat} (i : Nat) (hd : k.2.2.2.2.2[i]? = some (pc, .bastore, 1)) (hs : shL[a]? = some (.inl (.boolean, n0))) (hz : 0 ≤ z ∧ z < (n0 : Int) ∧ z ≤ 2147483647) (hv : v = 0 ∨ v = 1) (n : V G d k (pc + 1) ls st (sI M a z.toNat v) Q) : V G d k pc ls (.int (J v) :: .int (J z) :: .ref a :: st) M Q := by
  intro p e s m args below meth c C H locs hW hS lsR hl
  obtain ⟨hx, hb, hml, hr, hlk, hown, hts, hK, hdc⟩ := id C
  have hdg := hdc _ (List.mem_of_getElem? hd)
  refine va_zast (f := fun j => J (gI M a j)) hx hb hK.1 hW (wsD G M hK.2.1) hS a 3 (ws_arr hs) rfl (J_in hz) hdg (fun H1 locs1 p1 d1 s1 => ?_)
  have hset : (wsO G M).set a (ga G a, .inl (gc G .boolean, n0, .inl (fun j => J (gI (sI M a z.toNat v) a j)))) = wsO G (sI M a z.toNat v) := ws_set (sh_lt hs) (eC_arr hs) (fun b hb => gI_sI_ne hb) (fun b _ => rfl) (fun b _ => rfl)
  rw [nar_z hv, upd_sI M a (by omega), hset] at p1
  exact n p e s m args below meth c C H1 locs1 p1 s1 lsR hl
theorem v_last {z : Int} {v : Int64} {a n0 : Nat} (i : Nat) (hd : k.2.2.2.2.2[i]? = some (pc, .lastore, 1)) (hs : shL[a]? = some (.inl (.long, n0))) (hz : 0 ≤ z ∧ z < (n0 : Int) ∧ z ≤ 2147483647) (n : V G d k (pc + 1) ls st (sL M a z.toNat v) Q) : V G d k pc ls (.long v :: .int (J z) :: .ref a :: st) M Q := by
  intro p e s m args below meth c C H locs hW hS lsR hl
  obtain ⟨hx, hb, hml, hr, hlk, hown, hts, hK, hdc⟩ := id C
  have hdg := hdc _ (List.mem_of_getElem? hd)
  refine va_last (f := fun j => gL M a j) hx hb hK.1 hW (wsD G M hK.2.1) hS a 2 (ws_arr hs) rfl (J_in hz) hdg (fun H1 locs1 p1 d1 s1 => ?_)
  have e9 : vp_updL (fun j => gL M a j) (J z).toNatClampNeg v = fun j => gL (sL M a z.toNat v) a j := by
    funext j
    rw [J_clamp (by omega), gL_sL, if_pos rfl]
    unfold vp_updL
    split <;> rfl
  have hset : (wsO G M).set a (ga G a, .inl (gc G .long, n0, .inr (.inl (fun j => gL (sL M a z.toNat v) a j)))) = wsO G (sL M a z.toNat v) := ws_set (sh_lt hs) (eC_arr hs) (fun b _ => rfl) (fun b hb => gL_sL_ne hb) (fun b _ => rfl)
  rw [e9, hset] at p1
  exact n p e s m args below meth c C H1 locs1 p1 s1 lsR hl
theorem v_alen {a n0 : Nat} {ty : FieldType} (i : Nat) (hd : k.2.2.2.2.2[i]? = some (pc, .arraylength, 1)) (hs : shL[a]? = some (.inl (ty, n0))) (hty : ty = .int ∨ ty = .byte ∨ ty = .long ∨ ty = .boolean) (n : V G d k (pc + 1) ls (.int (J (n0 : Int)) :: st) M Q) : V G d k pc ls (.ref a :: st) M Q := by
  intro p e s m args below meth c C H locs hW hS lsR hl
  obtain ⟨hx, hb, hml, hr, hlk, hown, hts, hK, hdc⟩ := id C
  have hdg := hdc _ (List.mem_of_getElem? hd)
  have n9 := n p e s m args below meth c C H locs hW hS lsR hl
  rcases hty with rfl | rfl | rfl | rfl
  · exact va_alen hx hb hK.1 hW a 0 (ws_arr hs) rfl (J_nat n0).symm hdg n9
  · exact va_alen hx hb hK.1 hW a 1 (ws_arr hs) rfl (J_nat n0).symm hdg n9
  · exact va_alen hx hb hK.1 hW a 2 (ws_arr hs) rfl (J_nat n0).symm hdg n9
  · exact va_alen hx hb hK.1 hW a 3 (ws_arr hs) rfl (J_nat n0).symm hdg n9
/-! calls -/
def entL : List Value → List (Option Value)
  | [] => []
  | .long x :: vs => some (.long x) :: none :: entL vs
  | .double x :: vs => some (.double x) :: none :: entL vs
  | v :: vs => some v :: entL vs
def ent (n : Nat) (As : List Value) : List (Option Value) := entL As ++ List.replicate (n - (entL As).length) none
theorem entL_mem (ad : Nat → Nat) : ∀ (As : List Value) (j i : Nat) (v : Value), (entL As)[i]? = some (some v) → (j + i, rv ad v) ∈ lv_args j (As.map (rv ad)) := by
  intro As
  induction As with
  | nil => intro j i v h; simp [entL] at h
  | cons a As ih =>
    intro j i v h
    have key1 : a.category = 1 → entL (a :: As) = some a :: entL As → (j + i, rv ad v) ∈ lv_args j ((a :: As).map (rv ad)) := by
      intro hc he
      rw [he] at h
      show (j + i, rv ad v) ∈ (j, rv ad a) :: lv_args (if (rv ad a).category = 2 then j + 2 else j + 1) (As.map (rv ad))
      rw [rv_cat, hc, if_neg (by decide)]
      cases i with
      | zero => cases h; exact List.mem_cons_self
      | succ i =>
        refine List.mem_cons_of_mem _ ?_
        have := ih (j + 1) i v (by simpa using h)
        rw [show j + (i + 1) = j + 1 + i by omega]; exact this
    have key2 : a.category = 2 → entL (a :: As) = some a :: none :: entL As → (j + i, rv ad v) ∈ lv_args j ((a :: As).map (rv ad)) := by
      intro hc he
      rw [he] at h
      show (j + i, rv ad v) ∈ (j, rv ad a) :: lv_args (if (rv ad a).category = 2 then j + 2 else j + 1) (As.map (rv ad))
      rw [rv_cat, hc, if_pos rfl]
      match i, h with
      | 0, h => cases h; exact List.mem_cons_self
      | 1, h => simp at h
      | i + 2, h =>
        refine List.mem_cons_of_mem _ ?_
        have := ih (j + 2) i v (by simpa using h)
        rw [show j + (i + 2) = j + 2 + i by omega]; exact this
    cases a with
    | long x => exact key2 rfl rfl
    | double x => exact key2 rfl rfl
    | int x => exact key1 rfl rfl
    | float x => exact key1 rfl rfl
    | null => exact key1 rfl rfl
    | ref x => exact key1 rfl rfl
    | retAddr x => exact key1 rfl rfl
theorem entL_len (ad : Nat → Nat) : ∀ As : List Value, (lg_sl (As.map (rv ad))).length = (entL As).length := by
  intro As
  induction As with
  | nil => rfl
  | cons a As ih =>
    have e : lg_sl ((a :: As).map (rv ad)) = (if (rv ad a).category = 2 then [.val (rv ad a), .second] else [.val (rv ad a)]) ++ lg_sl (As.map (rv ad)) := by simp [lg_sl]
    rw [e, List.length_append, ih, rv_cat]
    cases a <;> simp [Value.category, entL] <;> omega
theorem ent_ok (ad : Nat → Nat) (n : Nat) (As : List Value) (h : (entL As).length ≤ n) : LvOk ad n ((lg_sl (As.map (rv ad)) ++ List.replicate (n - (lg_sl (As.map (rv ad))).length) Slot.unset).toArray) (ent n As) := by
  have hl := lv_entry (As.map (rv ad)) (n := n) (by rw [entL_len]; exact h)
  refine ⟨hl.1, hl.2.1, fun i v hi => ?_⟩
  have h9 : (entL As)[i]? = some (some v) := by
    unfold ent at hi
    by_cases q : i < (entL As).length
    · rw [List.getElem?_append_left q] at hi; exact hi
    · rw [List.getElem?_append_right (by omega)] at hi
      have := List.eq_of_mem_replicate (List.mem_of_getElem? hi)
      cases this
  have := entL_mem ad As 0 i v h9
  rw [Nat.zero_add] at this
  exact hl.2.2 _ this
/-- what the tables say of a method that a contract is made of -/
def MOk (k : Mth) : Prop := plainName k.2.1.cls = true ∧ k.2.1.cls = k.1 ∧ (∀ q ∈ k.2.2.2.2.2, decode k.2.2.1 q.1 = .ok (q.2.1, q.2.2)) ∧ Cond.code k.2.1 k.2.2.1 k.2.2.2.1 k.2.2.2.2.1 ∈ tb ∧ Cond.initialized k.1 ∈ tb ∧ (k.2.1.cls ≠ "java/lang/invoke/MethodHandle" ∧ k.2.1.cls ≠ "java/lang/invoke/VarHandle") ∧ k.2.2.2.1 ≤ 45
def wsK (k : Mth) : List Cond := Cond.code k.2.1 k.2.2.1 k.2.2.2.1 k.2.2.2.2.1 :: tb
def PcK (G : Gt) (As : List Value) (M : Mem) : Array Value → State → Prop := va_Pc (As.map (rv (ga G))) (fun U => Wd G M U.heap ∧ Kx G U U.heap)
theorem V.met (hk : MOk k) {As : List Value} (hlen : (entL As).length ≤ k.2.2.2.1) (h : V G d k 0 (ent k.2.2.2.1 As) [] M Q) : Met (gl G) k.2.1 (wsK k) (rmD d) (PcK G As M) (QV G Q) 0 0 (gA G) := by
  refine Met.ofW (cc := k.2.2.1) (maxL := k.2.2.2.1) (ret := k.2.2.2.2.1) hk.1 rfl ?_
  intro p e s m args below meth c s₁ B hml hv
  obtain ⟨rfl, hW, hK⟩ := hv
  have hts := atoms_spec (ws := wsK k) B.pre
  have hown : s.vm.findClass k.2.1.cls = some m.cls := findClass_of_methodNamed B.named
  rw [hk.2.1] at hown
  rw [lg_entry_eq]
  exact h p e s m _ below meth c ⟨B.exec, B.bytes, hml, B.returns, B.notSynchronized, hown, fun w hw => hts w (List.mem_cons_of_mem _ hw), hK, hk.2.2.1⟩ s.heap [] hW va_S.rf _ (ent_ok (ga G) _ As hlen)
theorem PcK_blind (G : Gt) (As : List Value) (M : Mem) : FrameBlind (PcK G As M) := fun a U g mk q => ⟨q.1, q.2.1, Kx.same (s := U) q.2.2 rfl⟩
theorem gi_tb {ws : List Cond} (h : ∀ w ∈ ws, w ∈ tb) : GoodIn tb ws := fun w hw => ⟨h w hw, good_of_word (tb_good (h w hw))⟩
def CV (own : String) (x : Nat) (k2 : Mth) (ci n : Nat) : Prop := MOk k2 ∧ (∃ (T : u_T) (N : Nat), clX[ci]? = some (k2.1, T, N)) ∧ Cond.methodLink own x k2.2.1 ∈ tb ∧ Cond.instanceMethod k2.2.1 ∈ tb ∧ Cond.selects k2.1 k2.2.1 k2.2.1 ∈ tb ∧ (parseMethodDescriptor k2.2.1.desc).map (fun d => d.parameters.length) = some n
def CS (own : String) (x : Nat) (k2 : Mth) (n : Nat) : Prop := MOk k2 ∧ Cond.methodLink own x k2.2.1 ∈ tb ∧ Cond.static k2.2.1 ∈ tb ∧ (parseMethodDescriptor k2.2.1.desc).map (fun d => d.parameters.length) = some n
theorem cat_map (ad : Nat → Nat) (rest : List Value) : ((rest.map (rv ad)).map fun v => v.category).sum = (rest.map fun v => v.category).sum := by
  rw [List.map_map]
  congr 1
  apply List.map_congr_left
  intro v _
  exact rv_cat ad v
theorem wsK_in {k2 : Mth} (h : MOk k2) : ∀ w ∈ wsK k2, w ∈ tb := fun w hw => by
  rcases List.mem_cons.mp hw with rfl | hw
  · exact h.2.2.2.1
  · exact hw
theorem v_back {Q2 : Option Value → Mem → Prop} {rest : List Value} {p : Program} {e : Env} {s : State} {m : MethodId} {args : Array Value} {below : List Frame} {meth : Method} {c : Code} {H : Heap} {locs : List Loc} {lsR : Array Slot} {st0 : List Value} {a9 : Array Value}
    (C : Cx G k p s m args meth c) (hS : va_S (gA G) s.heap H locs) (hl : LvOk (ga G) k.2.2.2.1 lsR ls)
    (hrun : va_Run p (gl G) e (rmD (d + 1)) s m args below meth c H locs 0 0 0 0 (F0 m pc lsR st0) (rest.map (rv (ga G))) (QV G Q2 a9) (gA G))
    (nx : ∀ r N, Q2 r N → V G (d + 1) k (pc + 3) ls (r.toList ++ rest) N Q) :
    W p (gl G) e (rmD (d + 1)) s m args below meth c H locs 0 0 (MQ below (QV G Q) args s 0 0 (gA G)) (F0 m pc lsR st0) := by
  intro T hT X
  obtain ⟨v, st₀, t, T', L, h0, X', hL, e1, e2, ⟨⟨r, N, hv, hq, hwd⟩, hz, hkp⟩, stp⟩ := hrun T hT X
  have hv1 : v = r.map (rv (ga G)) := by injection hv
  rw [h0] at hz hkp
  have hS1 : va_S (gA G) s.heap T'.heap (locs ++ L) := by
    refine ⟨Nat.le_trans hS.1 (by rw [e1]; exact hz), fun q h1 h2 => ?_, fun q hq9 => ?_⟩
    · rw [e1, hkp q (Nat.lt_of_lt_of_le h1 hS.1) h2]; exact hS.2.1 q h1 h2
    · rcases List.mem_append.mp hq9 with h | h
      · exact hS.2.2 q h
      · exact hL q h
  obtain ⟨t2, a1, b1⟩ := nx r N hq p e s m args below meth c C T'.heap (locs ++ L) (by rw [e1]; exact hwd) hS1 lsR hl T' rfl X'
  refine ⟨t2, stp _ ?_, b1⟩
  have e3 : (r.toList ++ rest).map (rv (ga G)) = v.toList ++ rest.map (rv (ga G)) := by
    rw [hv1, List.map_append]
    cases r <;> rfl
  rw [e3] at a1
  exact a1
theorem v_callV {k2 : Mth} {ci n x b : Nat} {As rest : List Value} {Q2 : Option Value → Mem → Prop} (i : Nat) (hd : k.2.2.2.2.2[i]? = some (pc, .invokevirtual x, 3)) (hc : CV k.1 x k2 ci n) (hn : As.length = n) (hs : shL[b]? = some (.inr ci)) (hr : (rest.map fun v => v.category).sum ≤ 8) (hlen : (entL (.ref b :: As)).length ≤ k2.2.2.2.1)
    (hV : V G d k2 0 (ent k2.2.2.2.1 (.ref b :: As)) [] M Q2) (nx : ∀ r N, Q2 r N → V G (d + 1) k (pc + 3) ls (r.toList ++ rest) N Q) : V G (d + 1) k pc ls (As.reverse ++ .ref b :: rest) M Q := by
  intro p e s m args below meth c C H locs hW hS lsR hl
  obtain ⟨hx, hb, hml, hr9, hlk, hown, hts, hK, hdc⟩ := id C
  have hdg := hdc _ (List.mem_of_getElem? hd)
  obtain ⟨hM, ⟨T9, N9, hcl⟩, w1, w2, w3, w4⟩ := hc
  have hmet := V.met hM hlen hV
  have hst : (As.reverse ++ .ref b :: rest).map (rv (ga G)) = (As.map (rv (ga G))).reverse ++ .ref (ga G b) :: rest.map (rv (ga G)) := by
    rw [List.map_append, List.map_reverse]; rfl
  have hcw : CallW (rmD (d + 1)) s args k.1 k2.1 x k2.2.1 k2.2.2.1 k2.2.2.2.1 k2.2.2.2.2.1 (wsK k2) (rmD d) 0 0 n := by
    refine cwV n hts (gi_tb ?_) rfl rfl rfl ⟨hM.2.1, hM.2.2.2.2.2.1.1, hM.2.2.2.2.2.1.2, w4⟩ ⟨Nat.le_refl _, ?_⟩
    · intro w hw
      unfold wsV at hw
      rcases List.mem_append.mp hw with h | h
      · simp only [List.mem_cons, List.not_mem_nil, or_false] at h
        rcases h with rfl | rfl | rfl | rfl
        · exact w1
        · exact w2
        · exact w3
        · exact hM.2.2.2.2.1
      · exact wsK_in hM w h
    · have := hM.2.2.2.2.2.2
      show 8 + (k2.2.2.2.1 + 11) + 64 * d ≤ 64 * (d + 1)
      omega
  rw [hst]
  refine v_back C hS hl (va_runV (As := As.map (rv (ga G))) (rest := rest.map (rv (ga G))) ⟨hx, hb, hml, hown, hts⟩ hmet hcw ⟨PcK_blind G _ M, va_recv hK.1 hW hcl (ws_obj hs), fun U hU hw => ⟨rfl, by rw [hU]; exact hW, ?_⟩⟩ rfl (by rw [List.length_map]; exact hn) hl.1 rfl (lv_room (by rw [cat_map]; exact hr)) hdg ⟨Nat.le_refl _, Nat.le_refl _⟩) nx
  rw [hU]
  exact hK.warm hw hS.2.1
theorem v_callS {k2 : Mth} {n x : Nat} {As rest : List Value} {Q2 : Option Value → Mem → Prop} (i : Nat) (hd : k.2.2.2.2.2[i]? = some (pc, .invokestatic x, 3)) (hc : CS k.1 x k2 n) (hn : As.length = n) (hr : (rest.map fun v => v.category).sum ≤ 8) (hlen : (entL As).length ≤ k2.2.2.2.1)
    (hV : V G d k2 0 (ent k2.2.2.2.1 As) [] M Q2) (nx : ∀ r N, Q2 r N → V G (d + 1) k (pc + 3) ls (r.toList ++ rest) N Q) : V G (d + 1) k pc ls (As.reverse ++ rest) M Q := by
  intro p e s m args below meth c C H locs hW hS lsR hl
  obtain ⟨hx, hb, hml, hr9, hlk, hown, hts, hK, hdc⟩ := id C
  have hdg := hdc _ (List.mem_of_getElem? hd)
  obtain ⟨hM, w1, w2, w4⟩ := hc
  have hmet := V.met hM hlen hV
  have hst : (As.reverse ++ rest).map (rv (ga G)) = (As.map (rv (ga G))).reverse ++ rest.map (rv (ga G)) := by
    rw [List.map_append, List.map_reverse]
  have hcw : CallB (rmD (d + 1)) s args k.1 x k2.2.1 k2.2.2.1 k2.2.2.2.1 k2.2.2.2.2.1 (wsK k2) (rmD d) 0 0 n ∧ (Cond.static k2.2.1).before args s = true := by
    refine va_cwS n hts (gi_tb ?_) rfl rfl rfl ⟨hM.2.2.2.2.2.1.1, hM.2.2.2.2.2.1.2, w4⟩ ⟨Nat.le_refl _, ?_⟩
    · intro w hw
      unfold va_wsS at hw
      rcases List.mem_append.mp hw with h | h
      · simp only [List.mem_cons, List.not_mem_nil, or_false] at h
        rcases h with rfl | rfl | rfl
        · exact w1
        · exact w2
        · rw [hM.2.1]; exact hM.2.2.2.2.1
      · exact wsK_in hM w h
    · have := hM.2.2.2.2.2.2
      show 8 + (k2.2.2.2.1 + 11) + 64 * d ≤ 64 * (d + 1)
      omega
  rw [hst]
  refine v_back C hS hl (va_runS (As := As.map (rv (ga G))) (rest := rest.map (rv (ga G))) ⟨hx, hb, hml, hown, hts⟩ hmet hcw ⟨PcK_blind G _ M, fun U hU hw => ⟨rfl, by rw [hU]; exact hW, ?_⟩⟩ rfl (by rw [List.length_map]; exact hn) hl.1 rfl (lv_room (by rw [cat_map]; exact hr)) hdg ⟨Nat.le_refl _, Nat.le_refl _⟩) nx
  rw [hU]
  exact hK.warm hw hS.2.1
/-- methods of a word (a string of the reference) -/
def CVs (own : String) (x : Nat) (k2 : Mth) (n : Nat) : Prop := MOk k2 ∧ k2.1 = "java/lang/String" ∧ Cond.methodLink own x k2.2.1 ∈ tb ∧ Cond.instanceMethod k2.2.1 ∈ tb ∧ Cond.selects k2.1 k2.2.1 k2.2.1 ∈ tb ∧ (parseMethodDescriptor k2.2.1.desc).map (fun d => d.parameters.length) = some n
theorem v_callVs {k2 : Mth} {n x b : Nat} {As rest : List Value} {Q2 : Option Value → Mem → Prop} (i : Nat) (hd : k.2.2.2.2.2[i]? = some (pc, .invokevirtual x, 3)) (hc : CVs k.1 x k2 n) (hn : As.length = n) (hs : b < 10) (hr : (rest.map fun v => v.category).sum ≤ 8) (hlen : (entL (.ref (100 + b) :: As)).length ≤ k2.2.2.2.1)
    (hV : V G d k2 0 (ent k2.2.2.2.1 (.ref (100 + b) :: As)) [] M Q2) (nx : ∀ r N, Q2 r N → V G (d + 1) k (pc + 3) ls (r.toList ++ rest) N Q) : V G (d + 1) k pc ls (As.reverse ++ .ref (100 + b) :: rest) M Q := by
  intro p e s m args below meth c C H locs hW hS lsR hl
  obtain ⟨hx, hb, hml, hr9, hlk, hown, hts, hK, hdc⟩ := id C
  have hdg := hdc _ (List.mem_of_getElem? hd)
  obtain ⟨hM, hcl, w1, w2, w3, w4⟩ := hc
  have hmet := V.met hM hlen hV
  have hst : (As.reverse ++ .ref (100 + b) :: rest).map (rv (ga G)) = (As.map (rv (ga G))).reverse ++ .ref (ga G (100 + b)) :: rest.map (rv (ga G)) := by
    rw [List.map_append, List.map_reverse]; rfl
  have hcw : CallW (rmD (d + 1)) s args k.1 k2.1 x k2.2.1 k2.2.2.1 k2.2.2.2.1 k2.2.2.2.2.1 (wsK k2) (rmD d) 0 0 n := by
    refine cwV n hts (gi_tb ?_) rfl rfl rfl ⟨hM.2.1, hM.2.2.2.2.2.1.1, hM.2.2.2.2.2.1.2, w4⟩ ⟨Nat.le_refl _, ?_⟩
    · intro w hw
      unfold wsV at hw
      rcases List.mem_append.mp hw with h | h
      · simp only [List.mem_cons, List.not_mem_nil, or_false] at h
        rcases h with rfl | rfl | rfl | rfl
        · exact w1
        · exact w2
        · exact w3
        · exact hM.2.2.2.2.1
      · exact wsK_in hM w h
    · have := hM.2.2.2.2.2.2
      show 8 + (k2.2.2.2.1 + 11) + 64 * d ≤ 64 * (d + 1)
      omega
  rw [hst]
  refine v_back C hS hl (va_runV (As := As.map (rv (ga G))) (rest := rest.map (rv (ga G))) ⟨hx, hb, hml, hown, hts⟩ hmet hcw ⟨PcK_blind G _ M, by rw [hcl]; exact vk_recv (adK := fun i => ga G (100 + i)) (i := b) hK.2.2.1 hs hS, fun U hU hw => ⟨rfl, by rw [hU]; exact hW, ?_⟩⟩ rfl (by rw [List.length_map]; exact hn) hl.1 rfl (lv_room (by rw [cat_map]; exact hr)) hdg ⟨Nat.le_refl _, Nat.le_refl _⟩) nx
  rw [hU]
  exact hK.warm hw hS.2.1
end VRules2
