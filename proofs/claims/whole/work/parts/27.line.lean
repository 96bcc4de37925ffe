/-! 27: a line: the class's reader -/
def upT (D : Nat → Nat → Int) (j i : Nat) (v : Int) : Nat → Nat → Int := fun a => if a = j then up (D a) i v else D a
def tTown (T : Tx) : Tx := ((nT T + 1, nJ T, nK T), T.2)
def tRoad (T : Tx) (a b : Nat) (x : Int) : Tx := (T.1, upT (upT T.2 1 (a * 5 + b) x) 1 (b * 5 + a) x)
def tJudge (T : Tx) (h m s : Int) : Tx := ((nT T, nJ T + 1, nK T), upT (upT (upT (upT T.2 2 (nJ T) h) 3 (nJ T) m) 4 (nJ T) s) 5 (nJ T) 0)
def tQuar (T : Tx) (a b : Nat) : Tx := (T.1, upT (upT T.2 5 a (setb (T.2 5 a) b)) 5 b (setb (T.2 5 b) a))
def tCase (T : Tx) (t s f l u : Int) : Tx := ((nT T, nJ T, nK T + 1), upT (upT (upT (upT (upT T.2 6 (nK T) t) 7 (nK T) s) 8 (nK T) f) 9 (nK T) l) 10 (nK T) u)
section Pure2
variable (b : Nat → Int) (n : Nat)
abbrev LR : Type := Int ⊕ (List Nm × Tx × Nat)
def lnTown (L : List Nm) (T : Tx) (p : Nat) : LR := pbd (rNew b n L 0 (nT T) (nx b n p)) (fun q => pbd (rEnd b n q.2) (fun p2 => .inr (q.1, tTown T, p2)))
def lnRoad (L : List Nm) (T : Tx) (p : Nat) : LR := pbd (rTold b n L 0 0 (nx b n p)) (fun q => pbd (rTold b n L 0 ((2 ^ q.1.toNat : Nat) : Int) q.2) (fun r => pbd (rNum b n 0 9 r.2) (fun s => pbd (rEnd b n s.2) (fun p2 => .inr (L, tRoad T q.1.toNat r.1.toNat s.1, p2)))))
def lnJudge (L : List Nm) (T : Tx) (p : Nat) : LR := pbd (rNew b n L 1 (nJ T) (nx b n p)) (fun q => pbd (rTold b n q.1 0 0 q.2) (fun r => pbd (rNum b n 60 600 r.2) (fun s => pbd (rSorts b n 5 0 s.2) (fun t => pbd (rEnd b n t.2) (fun p2 => .inr (q.1, tJudge T r.1 s.1 t.1, p2))))))
def lnQuar (L : List Nm) (T : Tx) (p : Nat) : LR := pbd (rTold b n L 1 0 (nx b n p)) (fun q => pbd (rTold b n L 1 ((2 ^ q.1.toNat : Nat) : Int) q.2) (fun r => pbd (rEnd b n r.2) (fun p2 => .inr (L, tQuar T q.1.toNat r.1.toNat, p2))))
def lnCase (L : List Nm) (T : Tx) (p : Nat) : LR := pbd (rNew b n L 2 (nK T) (nx b n p)) (fun q => pbd (rTold b n q.1 0 0 q.2) (fun r => pbd (rSort b n 0 r.2) (fun s => pbd (rNum b n 0 60 s.2) (fun f => pbd (rNum b n 10 300 f.2) (fun l => pbd (rBars b n q.1 7 0 l.2) (fun u => pbd (rEnd b n u.2) (fun p2 => .inr (q.1, tCase T r.1 s.1 f.1 l.1 u.1, p2))))))))
def lnS (L : List Nm) (T : Tx) (p : Nat) : LR :=
  if isW b n p 1953462126 = true then (if nT T < 5 then lnTown b n L T p else .inl (flt b n p 5))
  else if isW b n p 1919902052 = true then lnRoad b n L T p
  else if isW b n p 457236047717 = true then (if nJ T < 6 then lnJudge b n L T p else .inl (flt b n p 5))
  else if isW b n p 31935733760681324 = true then lnQuar b n L T p
  else if isW b n p 1667330917 = true then (if nK T < 12 then lnCase b n L T p else .inl (flt b n p 5)) else .inl (flt b n p 1)
end Pure2
theorem tOf_arr {M : Mem} {c2 : Nat} (j : Nat) (hj : 1 ≤ j ∧ j ≤ 10) (i : Nat) (v : Int) : tOf (sI M (c2 + j) i v) c2 = ((tOf M c2).1, upT (tOf M c2).2 j i v) := by
  have e0 : gI (sI M (c2 + j) i v) c2 = gI M c2 := gI_sI_ne (by omega)
  have eA : ∀ a, 1 ≤ a ∧ a ≤ 10 → gI (sI M (c2 + j) i v) (c2 + a) = if a = j then up (gI M (c2 + a)) i v else gI M (c2 + a) := by
    intro a ha
    by_cases e : a = j
    · subst e
      rw [if_pos rfl]
      funext x
      rw [gI_sI, if_pos rfl]; rfl
    · rw [if_neg e, gI_sI_ne (by omega)]
  have e : tAt (sI M (c2 + j) i v) c2 = upT (tAt M c2) j i v := by
    funext a
    match a with
    | 0 => show (fun _ => (0 : Int)) = if 0 = j then _ else _; rw [if_neg (by omega)]; rfl
    | 1 => exact eA 1 (by omega)
    | 2 => exact eA 2 (by omega)
    | 3 => exact eA 3 (by omega)
    | 4 => exact eA 4 (by omega)
    | 5 => exact eA 5 (by omega)
    | 6 => exact eA 6 (by omega)
    | 7 => exact eA 7 (by omega)
    | 8 => exact eA 8 (by omega)
    | 9 => exact eA 9 (by omega)
    | 10 => exact eA 10 (by omega)
    | a + 11 => show (fun _ => (0 : Int)) = if a + 11 = j then _ else _; rw [if_neg (by omega)]; rfl
  unfold tOf
  rw [e0, e]
/-- between two lines: names and what is told agree, and are of the form that lines give them -/
def LI (L : List Nm) (T : Tx) : Prop :=
  (nT T ≤ 5 ∧ nJ T ≤ 6 ∧ nK T ≤ 12 ∧ L.length = nT T + nJ T + nK T) ∧
  (∀ i, i < L.length → ((L.getD i (0, 0, 0)).2.1 = 0 → (L.getD i (0, 0, 0)).2.2 < nT T) ∧ ((L.getD i (0, 0, 0)).2.1 = 1 → (L.getD i (0, 0, 0)).2.2 < nJ T) ∧ ((L.getD i (0, 0, 0)).2.1 = 2 → (L.getD i (0, 0, 0)).2.2 < nK T)) ∧
  (∀ j, j < nJ T → (0 ≤ hm T j ∧ hm T j < nT T) ∧ (60 ≤ da T j ∧ da T j ≤ 600) ∧ (0 ≤ ss T j ∧ ss T j < 16) ∧ (0 ≤ qu T j ∧ qu T j < 64)) ∧
  (∀ k, k < nK T → (0 ≤ tw T k ∧ tw T k < nT T) ∧ (0 ≤ so T k ∧ so T k < 4) ∧ (0 ≤ fi T k ∧ fi T k ≤ 60) ∧ (10 ≤ le T k ∧ le T k ≤ 300) ∧ (0 ≤ ba T k ∧ ba T k < 64)) ∧
  (∀ a b, a < 5 → b < 5 → (0 ≤ T.2 1 (a * 5 + b) ∧ T.2 1 (a * 5 + b) ≤ 1000) ∧ (a = b → T.2 1 (a * 5 + b) = 0) ∧ ((nT T ≤ a ∨ nT T ≤ b) → a ≠ b → T.2 1 (a * 5 + b) = 1000))
section Line
variable {G : Gt} {d : Nat} {M0 N : Mem} {c2 : Nat} {b : Nat → Int} {n p : Nat} {L : List Nm} {T : Tx}
/-- a write into the courts that are read into -/
theorem PS.put (hc2 : c2 = 32 ∨ c2 = 43) (h : PS c2 M0 N b n p L T) (a i : Nat) (v : Int) (ha : c2 ≤ a ∧ a ≤ c2 + 10) (hv : a = c2 → 0 ≤ v) {T2 : Tx} (hT : tOf (sI N a i v) c2 = T2) : PS c2 M0 (sI N a i v) b n p L T2 := by
  obtain ⟨a1, a2, a3, a4, a5, a6, a7, a8, a9⟩ := h
  have hne : ∀ q, q ≠ a → gI (sI N a i v) q = gI N q := fun q hq => gI_sI_ne hq
  refine ⟨⟨fun q q1 q2 q3 q4 q5 q6 => by rw [hne q (by omega)]; exact a1.1 q q1 q2 q3 q4 q5 q6, a1.2.1, a1.2.2⟩, ?_, ?_, hT, ?_, a6, a7, a8, a9⟩
  · unfold AtC
    rw [hne 1 (by rcases hc2 with e | e <;> omega), hne 3 (by rcases hc2 with e | e <;> omega)]
    exact a2
  · unfold TabR
    rw [hne 4 (by rcases hc2 with e | e <;> omega), hne 6 (by rcases hc2 with e | e <;> omega), hne 7 (by rcases hc2 with e | e <;> omega)]
    exact a3
  · by_cases e : a = c2
    · subst e
      have hv := hv rfl
      rw [gI_sI, gI_sI, gI_sI, if_pos rfl, if_pos rfl, if_pos rfl]
      refine ⟨?_, ?_, ?_⟩ <;> split <;> omega
    · rw [hne c2 (Ne.symm e)]; exact a5
theorem PS.arr (hc2 : c2 = 32 ∨ c2 = 43) (h : PS c2 M0 N b n p L T) (j i : Nat) (v : Int) (hj : 1 ≤ j ∧ j ≤ 10) : PS c2 M0 (sI N (c2 + j) i v) b n p L (T.1, upT T.2 j i v) :=
  h.put hc2 (c2 + j) i v (by omega) (fun e => by omega) (by rw [tOf_arr j hj, h.2.2.2.1])
theorem PS.nz (h : PS c2 M0 N b n p L T) : gI N c2 0 = (nT T : Int) ∧ gI N c2 1 = (nJ T : Int) ∧ gI N c2 2 = (nK T : Int) ∧ ∀ j, 1 ≤ j ∧ j ≤ 10 → gI N (c2 + j) = T.2 j := by
  obtain ⟨a1, a2, a3, a4, a5, -⟩ := h
  subst a4
  refine ⟨by show _ = ((gI N c2 0).toNat : Int); omega, by show _ = ((gI N c2 1).toNat : Int); omega, by show _ = ((gI N c2 2).toNat : Int); omega, fun j hj => ?_⟩
  rcases (show j = 1 ∨ j = 2 ∨ j = 3 ∨ j = 4 ∨ j = 5 ∨ j = 6 ∨ j = 7 ∨ j = 8 ∨ j = 9 ∨ j = 10 by omega) with e | e | e | e | e | e | e | e | e | e <;> subst e <;> rfl
theorem tOf_cnt {M : Mem} {c2 k : Nat} {v : Int} : tOf (sI M c2 k v) c2 = (((gI (sI M c2 k v) c2 0).toNat, (gI (sI M c2 k v) c2 1).toNat, (gI (sI M c2 k v) c2 2).toNat), (tOf M c2).2) := by
  have e : tAt (sI M c2 k v) c2 = tAt M c2 := by
    have eA : ∀ a, 1 ≤ a → gI (sI M c2 k v) (c2 + a) = gI M (c2 + a) := fun a ha => gI_sI_ne (by omega)
    funext a
    match a with
    | 0 => rfl
    | 1 => exact eA 1 (by omega)
    | 2 => exact eA 2 (by omega)
    | 3 => exact eA 3 (by omega)
    | 4 => exact eA 4 (by omega)
    | 5 => exact eA 5 (by omega)
    | 6 => exact eA 6 (by omega)
    | 7 => exact eA 7 (by omega)
    | 8 => exact eA 8 (by omega)
    | 9 => exact eA 9 (by omega)
    | 10 => exact eA 10 (by omega)
    | a + 11 => rfl
  unfold tOf
  rw [e]
theorem PS.cnt (hc2 : c2 = 32 ∨ c2 = 43) (h : PS c2 M0 N b n p L T) (k : Nat) (hk : k < 3) (x : Nat) : PS c2 M0 (sI N c2 k (x : Int)) b n p L ((if k = 0 then x else nT T, if k = 1 then x else nJ T, if k = 2 then x else nK T), T.2) := by
  have hz := h.nz
  have h4 := h.2.2.2.1
  refine h.put hc2 c2 k (x : Int) (by omega) (fun _ => by omega) ?_
  rw [tOf_cnt, h4]
  congr 1
  rw [gI_sI, gI_sI, gI_sI, if_pos rfl, if_pos rfl, if_pos rfl, hz.1, hz.2.1, hz.2.2.1]
  rcases (show k = 0 ∨ k = 1 ∨ k = 2 by omega) with e | e | e <;> subst e <;> simp
def RB (c2 : Nat) (M0 : Mem) (b : Nat → Int) (n : Nat) (R : LR) : Option Value → Mem → Prop := fun r N2 => onR R (fun f => r = some (.int (J 0)) ∧ PF c2 M0 N2 f) (fun q => r = some (.int (J 1)) ∧ PS c2 M0 N2 b n q.2.2 q.1 q.2.1)
theorem told_b {κ : Nat} {u : Int} {q : Int × Nat} (hκ : κ < 2) (hL : NmOk L) (h : rTold b n L κ u p = .inr q) : (0 ≤ q.1 ∧ q.1 < 6) ∧ bt u q.1 = 0 ∧ ∃ i, i < L.length ∧ (L.getD i (0, 0, 0)).2.1 = κ ∧ q.1 = ((L.getD i (0, 0, 0)).2.2 : Int) := by
  have hs4 := numL_b L (wv b n p) κ hL hκ
  unfold rTold at h
  split at h
  · cases h
  · split at h
    · cases h
    · split at h
      · cases h
      · next z0 z1 z2 =>
        cases h
        exact ⟨⟨by omega, hs4.2⟩, Decidable.not_not.mp z2, numL_e (by omega)⟩
theorem bt_pow6 : ∀ a q : Fin 6, bt ((2 ^ (a : Nat) : Nat) : Int) (q : Nat) = 0 → a ≠ q := by decide +kernel
theorem c_readTown (hc2 : c2 = 32 ∨ c2 = 43) (hin : gR M0 2 2 = c2) (h : PS c2 M0 N b n p L T) (hLI : LI L T) (hc : nT T < 5) : V G (d + 3) mX9_readTown 0 [some (.ref 2)] [] N (RB c2 M0 b n (lnTown b n L T p)) := by
  unfold lnTown
  refine v_aload_n (pc := 0) 0 rfl rfl ?_
  refine v_getC (pc := 1) 1 rfl fl_X9_14 rfl 3 rfl ?_
  refine v_cV0 (pc := 4) 2 rfl cv_X9_93 rfl (Nat.le_of_ble_eq_true rfl) (Nat.le_of_ble_eq_true rfl) (c_adv hc2 h) (fun r9 N9 hq9 => ?_)
  obtain ⟨rfl, k1, hP⟩ := hq9
  show V G (d + 3) mX9_readTown (4 + 3) _ [] _ _
  have hin1 : gR N9 2 2 = c2 := by rw [hP.1.2.2]; exact hin
  have hz := hP.nz
  refine v_aload_n (pc := 7) 3 rfl rfl ?_
  refine v_iconst (pc := 8) 4 rfl ?_
  refine v_aload_n (pc := 9) 5 rfl rfl ?_
  refine v_getR (pc := 10) 6 rfl fl_X9_27 rfl _ hin1 ?_
  refine v_getI (pc := 13) 7 rfl fl_X9_58 (shC hc2) ?_
  rw [hz.1]
  refine v_cV2 (pc := 16) 8 rfl cv_X9_96 rfl (Nat.le_of_ble_eq_true rfl) (Nat.le_of_ble_eq_true rfl) (c_newName (κ := 0) (j := nT T) hc2 hP (by have := hLI.1; omega) (by decide) (by omega) ⟨fun _ => hc, fun h => by omega⟩) (fun r9 N9 hq9 => ?_)
  cases hR : rNew b n L 0 (nT T) (nx b n p) with
  | inl f =>
    rw [hR] at hq9
    obtain ⟨rfl, hF⟩ := hq9
    show V G (d + 3) mX9_readTown (16 + 3) _ [.int (J 0)] _ _
    refine v_if_neF (pc := 19) 9 24 rfl (by decide) (by omega) (by decide) ?_
    refine v_iconst (pc := 22) 10 rfl ?_
    refine v_zret (pc := 23) 11 rfl rfl (by omega) ⟨rfl, hF⟩
  | inr q =>
    rw [hR] at hq9
    obtain ⟨rfl, hP2⟩ := hq9
    show V G (d + 3) mX9_readTown (16 + 3) _ [.int (J 1)] _ (RB c2 M0 b n (pbd (rEnd b n q.2) (fun p2 => .inr (q.1, tTown T, p2))))
    have hin2 : gR N9 2 2 = c2 := by rw [hP2.1.2.2]; exact hin
    have hz2 := hP2.nz
    have hP3 := hP2.cnt hc2 0 (by decide) (nT T + 1)
    refine v_if_neT (pc := 19) 9 24 rfl (by decide) (by omega) (by decide) ?_
    refine v_aload_n (pc := 24) 12 rfl rfl ?_
    refine v_getR (pc := 25) 13 rfl fl_X9_27 rfl _ hin2 ?_
    refine v_cV0v (pc := 28) 14 rfl cv_X9_100 (shC hc2) (Nat.le_of_ble_eq_true rfl) (Nat.le_of_ble_eq_true rfl) (c_addTown hc2 (by omega)) ?_
    rw [hz2.1]
    refine v_aload_n (pc := 31) 15 rfl rfl ?_
    refine v_cV0 (pc := 32) 16 rfl cv_X9_103 rfl (Nat.le_of_ble_eq_true rfl) (Nat.le_of_ble_eq_true rfl) (c_lineEnd hc2 hP3) (fun r9 N9 hq9 => ?_)
    cases hE : rEnd b n q.2 with
    | inl f =>
      rw [hE] at hq9
      obtain ⟨rfl, hF⟩ := hq9
      show V G (d + 3) mX9_readTown (32 + 3) _ [.int (J 0)] _ _
      refine v_zret (pc := 35) 17 rfl rfl (by omega) ⟨rfl, hF⟩
    | inr p2 =>
      rw [hE] at hq9
      obtain ⟨rfl, hP4⟩ := hq9
      show V G (d + 3) mX9_readTown (32 + 3) _ [.int (J 1)] _ _
      refine v_zret (pc := 35) 17 rfl rfl (by omega) ⟨rfl, hP4⟩
theorem c_readRoad (hc2 : c2 = 32 ∨ c2 = 43) (hin : gR M0 2 2 = c2) (h : PS c2 M0 N b n p L T) (hLI : LI L T) : V G (d + 3) mX9_readRoad 0 [some (.ref 2), none, none, none] [] N (RB c2 M0 b n (lnRoad b n L T p)) := by
  have hT5 := hLI.1.1
  unfold lnRoad
  refine v_aload_n (pc := 0) 0 rfl rfl ?_
  refine v_getC (pc := 1) 1 rfl fl_X9_14 rfl 3 rfl ?_
  refine v_cV0 (pc := 4) 2 rfl cv_X9_93 rfl (Nat.le_of_ble_eq_true rfl) (Nat.le_of_ble_eq_true rfl) (c_adv hc2 h) (fun r9 N9 hq9 => ?_)
  obtain ⟨rfl, k1, hP⟩ := hq9
  show V G (d + 3) mX9_readRoad (4 + 3) _ [] _ _
  refine v_aload_n (pc := 7) 3 rfl rfl ?_
  refine v_iconst (pc := 8) 4 rfl ?_
  refine v_iconst (pc := 9) 5 rfl ?_
  refine v_cV2 (pc := 10) 6 rfl cv_X9_106 rfl (Nat.le_of_ble_eq_true rfl) (Nat.le_of_ble_eq_true rfl) (c_toldName (κ := 0) hc2 hP (by decide) (by decide)) (fun r9 N9 hq9 => ?_)
  cases hR : rTold b n L 0 0 (nx b n p) with
  | inl f =>
    rw [hR] at hq9
    obtain ⟨rfl, hF⟩ := hq9
    show V G (d + 3) mX9_readRoad (10 + 3) _ [.int (J (-1))] _ _
    refine v_istore_n (pc := 13) 7 rfl ⟨Nat.le_of_ble_eq_true rfl, rfl⟩ ?_
    refine v_iload_n (pc := 14) 8 rfl rfl ?_
    refine v_if_geF (pc := 15) 9 20 rfl (by decide) (by omega) (by decide) ?_
    refine v_iconst (pc := 18) 10 rfl ?_
    refine v_zret (pc := 19) 11 rfl rfl (by omega) ⟨rfl, hF⟩
  | inr q =>
    rw [hR] at hq9
    obtain ⟨rfl, hP1⟩ := hq9
    obtain ⟨t1, -, i1, i2, i3, i4⟩ := told_b (by decide) hP.2.2.2.2.2.1 hR
    have i5 := (hLI.2.1 i1 i2).1 i3
    show V G (d + 3) mX9_readRoad (10 + 3) _ [.int (J q.1)] _ (RB c2 M0 b n (pbd (rTold b n L 0 ((2 ^ q.1.toNat : Nat) : Int) q.2) (fun r => pbd (rNum b n 0 9 r.2) (fun s => pbd (rEnd b n s.2) (fun p2 => .inr (L, tRoad T q.1.toNat r.1.toNat s.1, p2))))))
    obtain ⟨k, hk⟩ : ∃ k : Nat, q.1 = (k : Int) := ⟨q.1.toNat, by omega⟩
    rw [hk, Int.toNat_natCast]
    have hpk : 1 ≤ 2 ^ k ∧ 2 ^ k < 64 := by rcases (show k = 0 ∨ k = 1 ∨ k = 2 ∨ k = 3 ∨ k = 4 ∨ k = 5 by omega) with e | e | e | e | e | e <;> subst e <;> decide
    refine v_istore_n (pc := 13) 7 rfl ⟨Nat.le_of_ble_eq_true rfl, rfl⟩ ?_
    refine v_iload_n (pc := 14) 8 rfl rfl ?_
    refine v_if_geT (pc := 15) 9 20 rfl (by decide) (by omega) (by omega) ?_
    refine v_aload_n (pc := 20) 12 rfl rfl ?_
    refine v_iconst (pc := 21) 13 rfl ?_
    refine v_iconst (pc := 22) 14 rfl ?_
    refine v_iload_n (pc := 23) 15 rfl rfl ?_
    refine v_ishl (pc := 24) 16 rfl (((2 ^ k : Nat) : Int)) (J_shl1 (by omega)) ?_
    refine v_cV2 (pc := 25) 17 rfl cv_X9_106 rfl (Nat.le_of_ble_eq_true rfl) (Nat.le_of_ble_eq_true rfl) (c_toldName (κ := 0) hc2 hP1 (by decide) (by omega)) (fun r9 N9 hq9 => ?_)
    cases hR2 : rTold b n L 0 ((2 ^ k : Nat) : Int) q.2 with
    | inl f =>
      rw [hR2] at hq9
      obtain ⟨rfl, hF⟩ := hq9
      show V G (d + 3) mX9_readRoad (25 + 3) _ [.int (J (-1))] _ _
      refine v_istore_n (pc := 28) 18 rfl ⟨Nat.le_of_ble_eq_true rfl, rfl⟩ ?_
      refine v_iload_n (pc := 29) 19 rfl rfl ?_
      refine v_if_geF (pc := 30) 20 35 rfl (by decide) (by omega) (by decide) ?_
      refine v_iconst (pc := 33) 21 rfl ?_
      refine v_zret (pc := 34) 22 rfl rfl (by omega) ⟨rfl, hF⟩
    | inr r =>
      rw [hR2] at hq9
      obtain ⟨rfl, hP2⟩ := hq9
      obtain ⟨t2, -, j1, j2, j3, j4⟩ := told_b (by decide) hP.2.2.2.2.2.1 hR2
      have j5 := (hLI.2.1 j1 j2).1 j3
      show V G (d + 3) mX9_readRoad (25 + 3) _ [.int (J r.1)] _ (RB c2 M0 b n (pbd (rNum b n 0 9 r.2) (fun s => pbd (rEnd b n s.2) (fun p2 => .inr (L, tRoad T k r.1.toNat s.1, p2)))))
      obtain ⟨k2, hk2⟩ : ∃ k2 : Nat, r.1 = (k2 : Int) := ⟨r.1.toNat, by omega⟩
      rw [hk2, Int.toNat_natCast]
      refine v_istore_n (pc := 28) 18 rfl ⟨Nat.le_of_ble_eq_true rfl, rfl⟩ ?_
      refine v_iload_n (pc := 29) 19 rfl rfl ?_
      refine v_if_geT (pc := 30) 20 35 rfl (by decide) (by omega) (by omega) ?_
      refine v_aload_n (pc := 35) 23 rfl rfl ?_
      refine v_iconst (pc := 36) 24 rfl ?_
      refine v_bipush (pc := 37) 25 rfl (by decide) ?_
      refine v_cV2 (pc := 39) 26 rfl cv_X9_110 rfl (Nat.le_of_ble_eq_true rfl) (Nat.le_of_ble_eq_true rfl) (c_numberWithin (lo := 0) (hi := 9) hc2 hP2 (by decide) (by decide)) (fun r9 N9 hq9 => ?_)
      cases hR3 : rNum b n 0 9 r.2 with
      | inl f =>
        rw [hR3] at hq9
        obtain ⟨rfl, hF⟩ := hq9
        show V G (d + 3) mX9_readRoad (39 + 3) _ [.int (J (-1))] _ _
        refine v_istore_n (pc := 42) 27 rfl ⟨Nat.le_of_ble_eq_true rfl, rfl⟩ ?_
        refine v_iload_n (pc := 43) 28 rfl rfl ?_
        refine v_if_geF (pc := 44) 29 49 rfl (by decide) (by omega) (by decide) ?_
        refine v_iconst (pc := 47) 30 rfl ?_
        refine v_zret (pc := 48) 31 rfl rfl (by omega) ⟨rfl, hF⟩
      | inr s =>
        rw [hR3] at hq9
        obtain ⟨rfl, hP3⟩ := hq9
        have hs : 0 ≤ s.1 ∧ s.1 ≤ 9 := by
          unfold rNum at hR3
          split at hR3
          · cases hR3
          · split at hR3
            · cases hR3
            · next z => cases hR3; show 0 ≤ vlu b n r.2 ∧ vlu b n r.2 ≤ 9; omega
        show V G (d + 3) mX9_readRoad (39 + 3) _ [.int (J s.1)] _ (RB c2 M0 b n (pbd (rEnd b n s.2) (fun p2 => .inr (L, tRoad T k k2 s.1, p2))))
        have hin2 : gR N9 2 2 = c2 := by rw [hP3.1.2.2]; exact hin
        have hP4 := (hP3.arr hc2 1 (k * 5 + k2) s.1 (by omega)).arr hc2 1 (k2 * 5 + k) s.1 (by omega)
        refine v_istore_n (pc := 42) 27 rfl ⟨Nat.le_of_ble_eq_true rfl, rfl⟩ ?_
        refine v_iload_n (pc := 43) 28 rfl rfl ?_
        refine v_if_geT (pc := 44) 29 49 rfl (by decide) (by omega) (by omega) ?_
        refine v_aload_n (pc := 49) 32 rfl rfl ?_
        refine v_getR (pc := 50) 33 rfl fl_X9_27 rfl _ hin2 ?_
        refine v_iload_n (pc := 53) 34 rfl rfl ?_
        refine v_iload_n (pc := 54) 35 rfl rfl ?_
        refine v_iload_n (pc := 55) 36 rfl rfl ?_
        refine v_cV3v (pc := 56) 37 rfl cv_X9_113 (shC hc2) (Nat.le_of_ble_eq_true rfl) (Nat.le_of_ble_eq_true rfl) (c_layRoad hc2 (by omega) (by omega)) ?_
        refine v_aload_n (pc := 59) 38 rfl rfl ?_
        refine v_cV0 (pc := 60) 39 rfl cv_X9_103 rfl (Nat.le_of_ble_eq_true rfl) (Nat.le_of_ble_eq_true rfl) (c_lineEnd hc2 hP4) (fun r9 N9 hq9 => ?_)
        cases hE : rEnd b n s.2 with
        | inl f =>
          rw [hE] at hq9
          obtain ⟨rfl, hF⟩ := hq9
          show V G (d + 3) mX9_readRoad (60 + 3) _ [.int (J 0)] _ _
          refine v_zret (pc := 63) 40 rfl rfl (by omega) ⟨rfl, hF⟩
        | inr p2 =>
          rw [hE] at hq9
          obtain ⟨rfl, hP5⟩ := hq9
          show V G (d + 3) mX9_readRoad (60 + 3) _ [.int (J 1)] _ _
          refine v_zret (pc := 63) 40 rfl rfl (by omega) ⟨rfl, hP5⟩
theorem num_b {lo hi : Int} {q : Int × Nat} (h : rNum b n lo hi p = .inr q) : lo ≤ q.1 ∧ q.1 ≤ hi := by
  unfold rNum at h
  split at h
  · cases h
  · split at h
    · cases h
    · next z => cases h; show lo ≤ vlu b n p ∧ vlu b n p ≤ hi; omega
theorem sort_b {u : Int} {q : Int × Nat} (h : rSort b n u p = .inr q) : 0 ≤ q.1 ∧ q.1 < 4 := by
  have hs4 := srt_b b n p
  unfold rSort at h
  split at h
  · cases h
  · split at h
    · cases h
    · next z1 z2 => cases h; exact ⟨by omega, hs4.2⟩
set_option maxHeartbeats 2000000 in
theorem c_readJudge (hc2 : c2 = 32 ∨ c2 = 43) (hin : gR M0 2 2 = c2) (h : PS c2 M0 N b n p L T) (hLI : LI L T) (hc : nJ T < 6) : V G (d + 4) mX9_readJudge 0 [some (.ref 2), none, none, none] [] N (RB c2 M0 b n (lnJudge b n L T p)) := by
  unfold lnJudge
  refine v_aload_n (pc := 0) 0 rfl rfl ?_
  refine v_getC (pc := 1) 1 rfl fl_X9_14 rfl 3 rfl ?_
  refine v_cV0 (pc := 4) 2 rfl cv_X9_93 rfl (Nat.le_of_ble_eq_true rfl) (Nat.le_of_ble_eq_true rfl) (c_adv hc2 h) (fun r9 N9 hq9 => ?_)
  obtain ⟨rfl, k1, hP⟩ := hq9
  show V G (d + 4) mX9_readJudge (4 + 3) _ [] _ _
  have hin1 : gR N9 2 2 = c2 := by rw [hP.1.2.2]; exact hin
  have hz := hP.nz
  refine v_aload_n (pc := 7) 3 rfl rfl ?_
  refine v_iconst (pc := 8) 4 rfl ?_
  refine v_aload_n (pc := 9) 5 rfl rfl ?_
  refine v_getR (pc := 10) 6 rfl fl_X9_27 rfl _ hin1 ?_
  refine v_getI (pc := 13) 7 rfl fl_X9_74 (shC hc2) ?_
  rw [hz.2.1]
  refine v_cV2 (pc := 16) 8 rfl cv_X9_96 rfl (Nat.le_of_ble_eq_true rfl) (Nat.le_of_ble_eq_true rfl) (c_newName (κ := 1) (j := nJ T) hc2 hP (by have := hLI.1; omega) (by decide) (by omega) ⟨fun h => by omega, fun _ => hc⟩) (fun r9 N9 hq9 => ?_)
  cases hR : rNew b n L 1 (nJ T) (nx b n p) with
  | inl f =>
    rw [hR] at hq9
    obtain ⟨rfl, hF⟩ := hq9
    show V G (d + 4) mX9_readJudge (16 + 3) _ [.int (J (0))] _ _
    refine v_if_neF (pc := 19) 9 24 rfl (by decide) (by omega) (by decide) ?_
    refine v_iconst (pc := 22) 10 rfl ?_
    refine v_zret (pc := 23) 11 rfl rfl (by omega) ⟨rfl, hF⟩
  | inr q =>
    rw [hR] at hq9
    obtain ⟨rfl, hP2⟩ := hq9
    show V G (d + 4) mX9_readJudge (16 + 3) _ [.int (J 1)] _ (RB c2 M0 b n (pbd (rTold b n q.1 0 0 q.2) (fun r => pbd (rNum b n 60 600 r.2) (fun s => pbd (rSorts b n 5 0 s.2) (fun t => pbd (rEnd b n t.2) (fun p2 => .inr (q.1, tJudge T r.1 s.1 t.1, p2)))))))
    refine v_if_neT (pc := 19) 9 24 rfl (by decide) (by omega) (by decide) ?_
    refine v_aload_n (pc := 24) 12 rfl rfl ?_
    refine v_iconst (pc := 25) 13 rfl ?_
    refine v_iconst (pc := 26) 14 rfl ?_
    refine v_cV2 (pc := 27) 15 rfl cv_X9_106 rfl (Nat.le_of_ble_eq_true rfl) (Nat.le_of_ble_eq_true rfl) (c_toldName (κ := 0) hc2 hP2 (by decide) (by decide)) (fun r9 N9 hq9 => ?_)
    cases hR2 : rTold b n q.1 0 0 q.2 with
    | inl f =>
      rw [hR2] at hq9
      obtain ⟨rfl, hF⟩ := hq9
      show V G (d + 4) mX9_readJudge (27 + 3) _ [.int (J (-1))] _ _
      refine v_istore_n (pc := 30) 16 rfl ⟨Nat.le_of_ble_eq_true rfl, rfl⟩ ?_
      refine v_iload_n (pc := 31) 17 rfl rfl ?_
      refine v_if_geF (pc := 32) 18 37 rfl (by decide) (by omega) (by decide) ?_
      refine v_iconst (pc := 35) 19 rfl ?_
      refine v_zret (pc := 36) 20 rfl rfl (by omega) ⟨rfl, hF⟩
    | inr r =>
      rw [hR2] at hq9
      obtain ⟨rfl, hP3⟩ := hq9
      obtain ⟨t1, -⟩ := told_b (by decide) hP2.2.2.2.2.2.1 hR2
      show V G (d + 4) mX9_readJudge (27 + 3) _ [.int (J r.1)] _ (RB c2 M0 b n (pbd (rNum b n 60 600 r.2) (fun s => pbd (rSorts b n 5 0 s.2) (fun t => pbd (rEnd b n t.2) (fun p2 => .inr (q.1, tJudge T r.1 s.1 t.1, p2))))))
      refine v_istore_n (pc := 30) 16 rfl ⟨Nat.le_of_ble_eq_true rfl, rfl⟩ ?_
      refine v_iload_n (pc := 31) 17 rfl rfl ?_
      refine v_if_geT (pc := 32) 18 37 rfl (by decide) (by omega) (by omega) ?_
      refine v_aload_n (pc := 37) 21 rfl rfl ?_
      refine v_bipush (pc := 38) 22 rfl (by decide) ?_
      refine v_sipush (pc := 40) 23 rfl (by decide) ?_
      refine v_cV2 (pc := 43) 24 rfl cv_X9_110 rfl (Nat.le_of_ble_eq_true rfl) (Nat.le_of_ble_eq_true rfl) (c_numberWithin (lo := 60) (hi := 600) hc2 hP3 (by decide) (by decide)) (fun r9 N9 hq9 => ?_)
      cases hR3 : rNum b n 60 600 r.2 with
      | inl f =>
        rw [hR3] at hq9
        obtain ⟨rfl, hF⟩ := hq9
        show V G (d + 4) mX9_readJudge (43 + 3) _ [.int (J (-1))] _ _
        refine v_istore_n (pc := 46) 25 rfl ⟨Nat.le_of_ble_eq_true rfl, rfl⟩ ?_
        refine v_iload_n (pc := 47) 26 rfl rfl ?_
        refine v_if_geF (pc := 48) 27 53 rfl (by decide) (by omega) (by decide) ?_
        refine v_iconst (pc := 51) 28 rfl ?_
        refine v_zret (pc := 52) 29 rfl rfl (by omega) ⟨rfl, hF⟩
      | inr s =>
        rw [hR3] at hq9
        obtain ⟨rfl, hP4⟩ := hq9
        have hs := num_b hR3
        show V G (d + 4) mX9_readJudge (43 + 3) _ [.int (J s.1)] _ (RB c2 M0 b n (pbd (rSorts b n 5 0 s.2) (fun t => pbd (rEnd b n t.2) (fun p2 => .inr (q.1, tJudge T r.1 s.1 t.1, p2)))))
        refine v_istore_n (pc := 46) 25 rfl ⟨Nat.le_of_ble_eq_true rfl, rfl⟩ ?_
        refine v_iload_n (pc := 47) 26 rfl rfl ?_
        refine v_if_geT (pc := 48) 27 53 rfl (by decide) (by omega) (by omega) ?_
        refine v_aload_n (pc := 53) 30 rfl rfl ?_
        refine v_cV0 (pc := 54) 31 rfl cv_X9_117 rfl (Nat.le_of_ble_eq_true rfl) (Nat.le_of_ble_eq_true rfl) (c_unlikeSorts hc2 hP4) (fun r9 N9 hq9 => ?_)
        cases hR4 : rSorts b n 5 0 s.2 with
        | inl f =>
          rw [hR4] at hq9
          obtain ⟨rfl, hF⟩ := hq9
          show V G (d + 4) mX9_readJudge (54 + 3) _ [.int (J (-1))] _ _
          refine v_istore_n (pc := 57) 32 rfl ⟨Nat.le_of_ble_eq_true rfl, rfl⟩ ?_
          refine v_iload_n (pc := 58) 33 rfl rfl ?_
          refine v_if_geF (pc := 59) 34 64 rfl (by decide) (by omega) (by decide) ?_
          refine v_iconst (pc := 62) 35 rfl ?_
          refine v_zret (pc := 63) 36 rfl rfl (by omega) ⟨rfl, hF⟩
        | inr t =>
          rw [hR4] at hq9
          obtain ⟨rfl, ht, hP5⟩ := hq9
          show V G (d + 4) mX9_readJudge (54 + 3) _ [.int (J t.1)] _ (RB c2 M0 b n (pbd (rEnd b n t.2) (fun p2 => .inr (q.1, tJudge T r.1 s.1 t.1, p2))))
          have hin2 : gR N9 2 2 = c2 := by rw [hP5.1.2.2]; exact hin
          have hz5 := hP5.nz
          have hP6 := ((((hP5.arr hc2 2 (nJ T) r.1 (by omega)).arr hc2 3 (nJ T) s.1 (by omega)).arr hc2 4 (nJ T) t.1 (by omega)).arr hc2 5 (nJ T) 0 (by omega)).cnt hc2 1 (by decide) (nJ T + 1)
          refine v_istore_n (pc := 57) 32 rfl ⟨Nat.le_of_ble_eq_true rfl, rfl⟩ ?_
          refine v_iload_n (pc := 58) 33 rfl rfl ?_
          refine v_if_geT (pc := 59) 34 64 rfl (by decide) (by omega) (by omega) ?_
          refine v_aload_n (pc := 64) 37 rfl rfl ?_
          refine v_getR (pc := 65) 38 rfl fl_X9_27 rfl _ hin2 ?_
          refine v_iload_n (pc := 68) 39 rfl rfl ?_
          refine v_iload_n (pc := 69) 40 rfl rfl ?_
          refine v_iload_n (pc := 70) 41 rfl rfl ?_
          refine v_cV3v (pc := 71) 42 rfl cv_X9_121 (shC hc2) (Nat.le_of_ble_eq_true rfl) (Nat.le_of_ble_eq_true rfl) (c_addJudge hc2 hz5.2.1 hc _ _ _) ?_
          refine v_aload_n (pc := 74) 43 rfl rfl ?_
          refine v_cV0 (pc := 75) 44 rfl cv_X9_103 rfl (Nat.le_of_ble_eq_true rfl) (Nat.le_of_ble_eq_true rfl) (c_lineEnd hc2 hP6) (fun r9 N9 hq9 => ?_)
          cases hE : rEnd b n t.2 with
          | inl f =>
            rw [hE] at hq9
            obtain ⟨rfl, hF⟩ := hq9
            show V G (d + 4) mX9_readJudge (75 + 3) _ [.int (J (0))] _ _
            refine v_zret (pc := 78) 45 rfl rfl (by omega) ⟨rfl, hF⟩
          | inr p2 =>
            rw [hE] at hq9
            obtain ⟨rfl, hP7⟩ := hq9
            show V G (d + 4) mX9_readJudge (75 + 3) _ [.int (J 1)] _ _
            refine v_zret (pc := 78) 45 rfl rfl (by omega) ⟨rfl, hP7⟩
set_option maxHeartbeats 2000000 in
theorem c_readQuarrel (hc2 : c2 = 32 ∨ c2 = 43) (hin : gR M0 2 2 = c2) (h : PS c2 M0 N b n p L T) (hLI : LI L T) : V G (d + 4) mX9_readQuarrel 0 [some (.ref 2), none, none] [] N (RB c2 M0 b n (lnQuar b n L T p)) := by
  unfold lnQuar
  have hJ6 := hLI.1.2.1
  refine v_aload_n (pc := 0) 0 rfl rfl ?_
  refine v_getC (pc := 1) 1 rfl fl_X9_14 rfl 3 rfl ?_
  refine v_cV0 (pc := 4) 2 rfl cv_X9_93 rfl (Nat.le_of_ble_eq_true rfl) (Nat.le_of_ble_eq_true rfl) (c_adv hc2 h) (fun r9 N9 hq9 => ?_)
  obtain ⟨rfl, k1, hP⟩ := hq9
  show V G (d + 4) mX9_readQuarrel (4 + 3) _ [] _ _
  refine v_aload_n (pc := 7) 3 rfl rfl ?_
  refine v_iconst (pc := 8) 4 rfl ?_
  refine v_iconst (pc := 9) 5 rfl ?_
  refine v_cV2 (pc := 10) 6 rfl cv_X9_106 rfl (Nat.le_of_ble_eq_true rfl) (Nat.le_of_ble_eq_true rfl) (c_toldName (κ := 1) hc2 hP (by decide) (by decide)) (fun r9 N9 hq9 => ?_)
  cases hR : rTold b n L 1 0 (nx b n p) with
  | inl f =>
    rw [hR] at hq9
    obtain ⟨rfl, hF⟩ := hq9
    show V G (d + 4) mX9_readQuarrel (10 + 3) _ [.int (J (-1))] _ _
    refine v_istore_n (pc := 13) 7 rfl ⟨Nat.le_of_ble_eq_true rfl, rfl⟩ ?_
    refine v_iload_n (pc := 14) 8 rfl rfl ?_
    refine v_if_geF (pc := 15) 9 20 rfl (by decide) (by omega) (by decide) ?_
    refine v_iconst (pc := 18) 10 rfl ?_
    refine v_zret (pc := 19) 11 rfl rfl (by omega) ⟨rfl, hF⟩
  | inr q =>
    rw [hR] at hq9
    obtain ⟨rfl, hP1⟩ := hq9
    obtain ⟨t1, -, i1, i2, i3, i4⟩ := told_b (by decide) hP.2.2.2.2.2.1 hR
    have i5 := (hLI.2.1 i1 i2).2.1 i3
    show V G (d + 4) mX9_readQuarrel (10 + 3) _ [.int (J q.1)] _ (RB c2 M0 b n (pbd (rTold b n L 1 ((2 ^ q.1.toNat : Nat) : Int) q.2) (fun r => pbd (rEnd b n r.2) (fun p2 => .inr (L, tQuar T q.1.toNat r.1.toNat, p2)))))
    obtain ⟨k, hk⟩ : ∃ k : Nat, q.1 = (k : Int) := ⟨q.1.toNat, by omega⟩
    rw [hk, Int.toNat_natCast]
    have hpk : 1 ≤ 2 ^ k ∧ 2 ^ k < 64 := by rcases (show k = 0 ∨ k = 1 ∨ k = 2 ∨ k = 3 ∨ k = 4 ∨ k = 5 by omega) with e | e | e | e | e | e <;> subst e <;> decide
    refine v_istore_n (pc := 13) 7 rfl ⟨Nat.le_of_ble_eq_true rfl, rfl⟩ ?_
    refine v_iload_n (pc := 14) 8 rfl rfl ?_
    refine v_if_geT (pc := 15) 9 20 rfl (by decide) (by omega) (by omega) ?_
    refine v_aload_n (pc := 20) 12 rfl rfl ?_
    refine v_iconst (pc := 21) 13 rfl ?_
    refine v_iconst (pc := 22) 14 rfl ?_
    refine v_iload_n (pc := 23) 15 rfl rfl ?_
    refine v_ishl (pc := 24) 16 rfl (((2 ^ k : Nat) : Int)) (J_shl1 (by omega)) ?_
    refine v_cV2 (pc := 25) 17 rfl cv_X9_106 rfl (Nat.le_of_ble_eq_true rfl) (Nat.le_of_ble_eq_true rfl) (c_toldName (κ := 1) hc2 hP1 (by decide) (by omega)) (fun r9 N9 hq9 => ?_)
    cases hR2 : rTold b n L 1 ((2 ^ k : Nat) : Int) q.2 with
    | inl f =>
      rw [hR2] at hq9
      obtain ⟨rfl, hF⟩ := hq9
      show V G (d + 4) mX9_readQuarrel (25 + 3) _ [.int (J (-1))] _ _
      refine v_istore_n (pc := 28) 18 rfl ⟨Nat.le_of_ble_eq_true rfl, rfl⟩ ?_
      refine v_iload_n (pc := 29) 19 rfl rfl ?_
      refine v_if_geF (pc := 30) 20 35 rfl (by decide) (by omega) (by decide) ?_
      refine v_iconst (pc := 33) 21 rfl ?_
      refine v_zret (pc := 34) 22 rfl rfl (by omega) ⟨rfl, hF⟩
    | inr r =>
      rw [hR2] at hq9
      obtain ⟨rfl, hP2⟩ := hq9
      obtain ⟨t2, hbt, j1, j2, j3, j4⟩ := told_b (by decide) hP.2.2.2.2.2.1 hR2
      have j5 := (hLI.2.1 j1 j2).2.1 j3
      show V G (d + 4) mX9_readQuarrel (25 + 3) _ [.int (J r.1)] _ (RB c2 M0 b n (pbd (rEnd b n r.2) (fun p2 => .inr (L, tQuar T k r.1.toNat, p2))))
      obtain ⟨k2, hk2⟩ : ∃ k2 : Nat, r.1 = (k2 : Int) := ⟨r.1.toNat, by omega⟩
      rw [hk2, Int.toNat_natCast]
      rw [hk2] at hbt
      have hne : k ≠ k2 := fun z => bt_pow6 ⟨k, by omega⟩ ⟨k2, by omega⟩ hbt (Fin.ext z)
      have hin2 : gR N9 2 2 = c2 := by rw [hP2.1.2.2]; exact hin
      have hz2 := hP2.nz.2.2.2 5 (by omega)
      have g1 : 0 ≤ gI N9 (c2 + 5) k ∧ gI N9 (c2 + 5) k < 64 := by rw [hz2]; exact (hLI.2.2.1 k (by omega)).2.2.2
      have g2 : 0 ≤ gI N9 (c2 + 5) k2 ∧ gI N9 (c2 + 5) k2 < 64 := by rw [hz2]; exact (hLI.2.2.1 k2 (by omega)).2.2.2
      have hP4 := (hP2.arr hc2 5 k (setb (T.2 5 k) k2) (by omega)).arr hc2 5 k2 (setb (T.2 5 k2) k) (by omega)
      refine v_istore_n (pc := 28) 18 rfl ⟨Nat.le_of_ble_eq_true rfl, rfl⟩ ?_
      refine v_iload_n (pc := 29) 19 rfl rfl ?_
      refine v_if_geT (pc := 30) 20 35 rfl (by decide) (by omega) (by omega) ?_
      refine v_aload_n (pc := 35) 23 rfl rfl ?_
      refine v_getR (pc := 36) 24 rfl fl_X9_27 rfl _ hin2 ?_
      refine v_iload_n (pc := 39) 25 rfl rfl ?_
      refine v_iload_n (pc := 40) 26 rfl rfl ?_
      refine v_cV2v (pc := 41) 27 rfl cv_X9_124 (shC hc2) (Nat.le_of_ble_eq_true rfl) (Nat.le_of_ble_eq_true rfl) (c_addQuarrel hc2 hne (by omega) (by omega) g1 g2) ?_
      rw [hz2]
      refine v_aload_n (pc := 44) 28 rfl rfl ?_
      refine v_cV0 (pc := 45) 29 rfl cv_X9_103 rfl (Nat.le_of_ble_eq_true rfl) (Nat.le_of_ble_eq_true rfl) (c_lineEnd hc2 hP4) (fun r9 N9 hq9 => ?_)
      cases hE : rEnd b n r.2 with
      | inl f =>
        rw [hE] at hq9
        obtain ⟨rfl, hF⟩ := hq9
        show V G (d + 4) mX9_readQuarrel (45 + 3) _ [.int (J (0))] _ _
        refine v_zret (pc := 48) 30 rfl rfl (by omega) ⟨rfl, hF⟩
      | inr p2 =>
        rw [hE] at hq9
        obtain ⟨rfl, hP7⟩ := hq9
        show V G (d + 4) mX9_readQuarrel (45 + 3) _ [.int (J 1)] _ _
        refine v_zret (pc := 48) 30 rfl rfl (by omega) ⟨rfl, hP7⟩
set_option maxHeartbeats 2000000 in
theorem c_readCase (hc2 : c2 = 32 ∨ c2 = 43) (hin : gR M0 2 2 = c2) (h : PS c2 M0 N b n p L T) (hLI : LI L T) (hc : nK T < 12) : V G (d + 4) mX9_readCase 0 [some (.ref 2), none, none, none, none, none] [] N (RB c2 M0 b n (lnCase b n L T p)) := by
  unfold lnCase
  refine v_aload_n (pc := 0) 0 rfl rfl ?_
  refine v_getC (pc := 1) 1 rfl fl_X9_14 rfl 3 rfl ?_
  refine v_cV0 (pc := 4) 2 rfl cv_X9_93 rfl (Nat.le_of_ble_eq_true rfl) (Nat.le_of_ble_eq_true rfl) (c_adv hc2 h) (fun r9 N9 hq9 => ?_)
  obtain ⟨rfl, k1, hP⟩ := hq9
  show V G (d + 4) mX9_readCase (4 + 3) _ [] _ _
  have hin1 : gR N9 2 2 = c2 := by rw [hP.1.2.2]; exact hin
  have hz := hP.nz
  refine v_aload_n (pc := 7) 3 rfl rfl ?_
  refine v_iconst (pc := 8) 4 rfl ?_
  refine v_aload_n (pc := 9) 5 rfl rfl ?_
  refine v_getR (pc := 10) 6 rfl fl_X9_27 rfl _ hin1 ?_
  refine v_getI (pc := 13) 7 rfl fl_X9_87 (shC hc2) ?_
  rw [hz.2.2.1]
  refine v_cV2 (pc := 16) 8 rfl cv_X9_96 rfl (Nat.le_of_ble_eq_true rfl) (Nat.le_of_ble_eq_true rfl) (c_newName (κ := 2) (j := nK T) hc2 hP (by have := hLI.1; omega) (by decide) (by omega) ⟨fun h => by omega, fun h => by omega⟩) (fun r9 N9 hq9 => ?_)
  cases hR : rNew b n L 2 (nK T) (nx b n p) with
  | inl f =>
    rw [hR] at hq9
    obtain ⟨rfl, hF⟩ := hq9
    show V G (d + 4) mX9_readCase (16 + 3) _ [.int (J (0))] _ _
    refine v_if_neF (pc := 19) 9 24 rfl (by decide) (by omega) (by decide) ?_
    refine v_iconst (pc := 22) 10 rfl ?_
    refine v_zret (pc := 23) 11 rfl rfl (by omega) ⟨rfl, hF⟩
  | inr q =>
    rw [hR] at hq9
    obtain ⟨rfl, hP2⟩ := hq9
    show V G (d + 4) mX9_readCase (16 + 3) _ [.int (J 1)] _ (RB c2 M0 b n (pbd (rTold b n q.1 0 0 q.2) (fun r => pbd (rSort b n 0 r.2) (fun s => pbd (rNum b n 0 60 s.2) (fun f => pbd (rNum b n 10 300 f.2) (fun l => pbd (rBars b n q.1 7 0 l.2) (fun u => pbd (rEnd b n u.2) (fun p2 => .inr (q.1, tCase T r.1 s.1 f.1 l.1 u.1, p2)))))))))
    refine v_if_neT (pc := 19) 9 24 rfl (by decide) (by omega) (by decide) ?_
    refine v_aload_n (pc := 24) 12 rfl rfl ?_
    refine v_iconst (pc := 25) 13 rfl ?_
    refine v_iconst (pc := 26) 14 rfl ?_
    refine v_cV2 (pc := 27) 15 rfl cv_X9_106 rfl (Nat.le_of_ble_eq_true rfl) (Nat.le_of_ble_eq_true rfl) (c_toldName (κ := 0) hc2 hP2 (by decide) (by decide)) (fun r9 N9 hq9 => ?_)
    cases hR2 : rTold b n q.1 0 0 q.2 with
    | inl f =>
      rw [hR2] at hq9
      obtain ⟨rfl, hF⟩ := hq9
      show V G (d + 4) mX9_readCase (27 + 3) _ [.int (J (-1))] _ _
      refine v_istore_n (pc := 30) 16 rfl ⟨Nat.le_of_ble_eq_true rfl, rfl⟩ ?_
      refine v_iload_n (pc := 31) 17 rfl rfl ?_
      refine v_if_geF (pc := 32) 18 37 rfl (by decide) (by omega) (by decide) ?_
      refine v_iconst (pc := 35) 19 rfl ?_
      refine v_zret (pc := 36) 20 rfl rfl (by omega) ⟨rfl, hF⟩
    | inr r =>
      rw [hR2] at hq9
      obtain ⟨rfl, hP3⟩ := hq9
      obtain ⟨t1, -⟩ := told_b (by decide) hP2.2.2.2.2.2.1 hR2
      show V G (d + 4) mX9_readCase (27 + 3) _ [.int (J r.1)] _ (RB c2 M0 b n (pbd (rSort b n 0 r.2) (fun s => pbd (rNum b n 0 60 s.2) (fun f => pbd (rNum b n 10 300 f.2) (fun l => pbd (rBars b n q.1 7 0 l.2) (fun u => pbd (rEnd b n u.2) (fun p2 => .inr (q.1, tCase T r.1 s.1 f.1 l.1 u.1, p2))))))))
      refine v_istore_n (pc := 30) 16 rfl ⟨Nat.le_of_ble_eq_true rfl, rfl⟩ ?_
      refine v_iload_n (pc := 31) 17 rfl rfl ?_
      refine v_if_geT (pc := 32) 18 37 rfl (by decide) (by omega) (by omega) ?_
      refine v_aload_n (pc := 37) 21 rfl rfl ?_
      refine v_iconst (pc := 38) 22 rfl ?_
      refine v_cV1 (pc := 39) 23 rfl cv_X9_128 rfl (Nat.le_of_ble_eq_true rfl) (Nat.le_of_ble_eq_true rfl) (c_unlikeSort hc2 hP3 (by decide)) (fun r9 N9 hq9 => ?_)
      cases hR3 : rSort b n 0 r.2 with
      | inl f =>
        rw [hR3] at hq9
        obtain ⟨rfl, hF⟩ := hq9
        show V G (d + 4) mX9_readCase (39 + 3) _ [.int (J (-1))] _ _
        refine v_istore_n (pc := 42) 24 rfl ⟨Nat.le_of_ble_eq_true rfl, rfl⟩ ?_
        refine v_iload_n (pc := 43) 25 rfl rfl ?_
        refine v_if_geF (pc := 44) 26 49 rfl (by decide) (by omega) (by decide) ?_
        refine v_iconst (pc := 47) 27 rfl ?_
        refine v_zret (pc := 48) 28 rfl rfl (by omega) ⟨rfl, hF⟩
      | inr s =>
        rw [hR3] at hq9
        obtain ⟨rfl, hP4⟩ := hq9
        have hs := sort_b hR3
        show V G (d + 4) mX9_readCase (39 + 3) _ [.int (J s.1)] _ (RB c2 M0 b n (pbd (rNum b n 0 60 s.2) (fun f => pbd (rNum b n 10 300 f.2) (fun l => pbd (rBars b n q.1 7 0 l.2) (fun u => pbd (rEnd b n u.2) (fun p2 => .inr (q.1, tCase T r.1 s.1 f.1 l.1 u.1, p2)))))))
        refine v_istore_n (pc := 42) 24 rfl ⟨Nat.le_of_ble_eq_true rfl, rfl⟩ ?_
        refine v_iload_n (pc := 43) 25 rfl rfl ?_
        refine v_if_geT (pc := 44) 26 49 rfl (by decide) (by omega) (by omega) ?_
        refine v_aload_n (pc := 49) 29 rfl rfl ?_
        refine v_iconst (pc := 50) 30 rfl ?_
        refine v_bipush (pc := 51) 31 rfl (by decide) ?_
        refine v_cV2 (pc := 53) 32 rfl cv_X9_110 rfl (Nat.le_of_ble_eq_true rfl) (Nat.le_of_ble_eq_true rfl) (c_numberWithin (lo := 0) (hi := 60) hc2 hP4 (by decide) (by decide)) (fun r9 N9 hq9 => ?_)
        cases hR4 : rNum b n 0 60 s.2 with
        | inl f =>
          rw [hR4] at hq9
          obtain ⟨rfl, hF⟩ := hq9
          show V G (d + 4) mX9_readCase (53 + 3) _ [.int (J (-1))] _ _
          refine v_istore_n (pc := 56) 33 rfl ⟨Nat.le_of_ble_eq_true rfl, rfl⟩ ?_
          refine v_iload_n (pc := 57) 34 rfl rfl ?_
          refine v_if_geF (pc := 58) 35 63 rfl (by decide) (by omega) (by decide) ?_
          refine v_iconst (pc := 61) 36 rfl ?_
          refine v_zret (pc := 62) 37 rfl rfl (by omega) ⟨rfl, hF⟩
        | inr f =>
          rw [hR4] at hq9
          obtain ⟨rfl, hP5⟩ := hq9
          have hf := num_b hR4
          show V G (d + 4) mX9_readCase (53 + 3) _ [.int (J f.1)] _ (RB c2 M0 b n (pbd (rNum b n 10 300 f.2) (fun l => pbd (rBars b n q.1 7 0 l.2) (fun u => pbd (rEnd b n u.2) (fun p2 => .inr (q.1, tCase T r.1 s.1 f.1 l.1 u.1, p2))))))
          refine v_istore_n (pc := 56) 33 rfl ⟨Nat.le_of_ble_eq_true rfl, rfl⟩ ?_
          refine v_iload_n (pc := 57) 34 rfl rfl ?_
          refine v_if_geT (pc := 58) 35 63 rfl (by decide) (by omega) (by omega) ?_
          refine v_aload_n (pc := 63) 38 rfl rfl ?_
          refine v_bipush (pc := 64) 39 rfl (by decide) ?_
          refine v_sipush (pc := 66) 40 rfl (by decide) ?_
          refine v_cV2 (pc := 69) 41 rfl cv_X9_110 rfl (Nat.le_of_ble_eq_true rfl) (Nat.le_of_ble_eq_true rfl) (c_numberWithin (lo := 10) (hi := 300) hc2 hP5 (by decide) (by decide)) (fun r9 N9 hq9 => ?_)
          cases hR5 : rNum b n 10 300 f.2 with
          | inl f =>
            rw [hR5] at hq9
            obtain ⟨rfl, hF⟩ := hq9
            show V G (d + 4) mX9_readCase (69 + 3) _ [.int (J (-1))] _ _
            refine v_istore (pc := 72) 42 rfl ⟨Nat.le_of_ble_eq_true rfl, rfl⟩ ?_
            refine v_iload (pc := 74) 43 rfl rfl ?_
            refine v_if_geF (pc := 76) 44 81 rfl (by decide) (by omega) (by decide) ?_
            refine v_iconst (pc := 79) 45 rfl ?_
            refine v_zret (pc := 80) 46 rfl rfl (by omega) ⟨rfl, hF⟩
          | inr l =>
            rw [hR5] at hq9
            obtain ⟨rfl, hP6⟩ := hq9
            have hl := num_b hR5
            show V G (d + 4) mX9_readCase (69 + 3) _ [.int (J l.1)] _ (RB c2 M0 b n (pbd (rBars b n q.1 7 0 l.2) (fun u => pbd (rEnd b n u.2) (fun p2 => .inr (q.1, tCase T r.1 s.1 f.1 l.1 u.1, p2)))))
            refine v_istore (pc := 72) 42 rfl ⟨Nat.le_of_ble_eq_true rfl, rfl⟩ ?_
            refine v_iload (pc := 74) 43 rfl rfl ?_
            refine v_if_geT (pc := 76) 44 81 rfl (by decide) (by omega) (by omega) ?_
            refine v_aload_n (pc := 81) 47 rfl rfl ?_
            refine v_cV0 (pc := 82) 48 rfl cv_X9_132 rfl (Nat.le_of_ble_eq_true rfl) (Nat.le_of_ble_eq_true rfl) (c_barredJudges hc2 hP6) (fun r9 N9 hq9 => ?_)
            cases hR6 : rBars b n q.1 7 0 l.2 with
            | inl f =>
              rw [hR6] at hq9
              obtain ⟨rfl, hF⟩ := hq9
              show V G (d + 4) mX9_readCase (82 + 3) _ [.int (J (-1))] _ _
              refine v_istore (pc := 85) 49 rfl ⟨Nat.le_of_ble_eq_true rfl, rfl⟩ ?_
              refine v_iload (pc := 87) 50 rfl rfl ?_
              refine v_if_geF (pc := 89) 51 94 rfl (by decide) (by omega) (by decide) ?_
              refine v_iconst (pc := 92) 52 rfl ?_
              refine v_zret (pc := 93) 53 rfl rfl (by omega) ⟨rfl, hF⟩
            | inr u =>
              rw [hR6] at hq9
              obtain ⟨rfl, hu, hP7⟩ := hq9
              show V G (d + 4) mX9_readCase (82 + 3) _ [.int (J u.1)] _ (RB c2 M0 b n (pbd (rEnd b n u.2) (fun p2 => .inr (q.1, tCase T r.1 s.1 f.1 l.1 u.1, p2))))
              have hin2 : gR N9 2 2 = c2 := by rw [hP7.1.2.2]; exact hin
              have hz7 := hP7.nz
              have hP8 := (((((hP7.arr hc2 6 (nK T) r.1 (by omega)).arr hc2 7 (nK T) s.1 (by omega)).arr hc2 8 (nK T) f.1 (by omega)).arr hc2 9 (nK T) l.1 (by omega)).arr hc2 10 (nK T) u.1 (by omega)).cnt hc2 2 (by decide) (nK T + 1)
              refine v_istore (pc := 85) 49 rfl ⟨Nat.le_of_ble_eq_true rfl, rfl⟩ ?_
              refine v_iload (pc := 87) 50 rfl rfl ?_
              refine v_if_geT (pc := 89) 51 94 rfl (by decide) (by omega) (by omega) ?_
              refine v_aload_n (pc := 94) 54 rfl rfl ?_
              refine v_getR (pc := 95) 55 rfl fl_X9_27 rfl _ hin2 ?_
              refine v_iload_n (pc := 98) 56 rfl rfl ?_
              refine v_iload_n (pc := 99) 57 rfl rfl ?_
              refine v_iload_n (pc := 100) 58 rfl rfl ?_
              refine v_iload (pc := 101) 59 rfl rfl ?_
              refine v_iload (pc := 103) 60 rfl rfl ?_
              refine v_cV5v (pc := 105) 61 rfl cv_X9_135 (shC hc2) (Nat.le_of_ble_eq_true rfl) (Nat.le_of_ble_eq_true rfl) (c_addCase hc2 hz7.2.2.1 hc _ _ _ _ _) ?_
              refine v_aload_n (pc := 108) 62 rfl rfl ?_
              refine v_cV0 (pc := 109) 63 rfl cv_X9_103 rfl (Nat.le_of_ble_eq_true rfl) (Nat.le_of_ble_eq_true rfl) (c_lineEnd hc2 hP8) (fun r9 N9 hq9 => ?_)
              cases hE : rEnd b n u.2 with
              | inl f =>
                rw [hE] at hq9
                obtain ⟨rfl, hF⟩ := hq9
                show V G (d + 4) mX9_readCase (109 + 3) _ [.int (J (0))] _ _
                refine v_zret (pc := 112) 64 rfl rfl (by omega) ⟨rfl, hF⟩
              | inr p2 =>
                rw [hE] at hq9
                obtain ⟨rfl, hP9⟩ := hq9
                show V G (d + 4) mX9_readCase (109 + 3) _ [.int (J 1)] _ _
                refine v_zret (pc := 112) 64 rfl rfl (by omega) ⟨rfl, hP9⟩
set_option maxHeartbeats 2000000 in
theorem c_readLine (hc2 : c2 = 32 ∨ c2 = 43) (hin : gR M0 2 2 = c2) (h : PS c2 M0 N b n p L T) (hLI : LI L T) : V G (d + 5) mX9_readLine 0 [some (.ref 2)] [] N (RB c2 M0 b n (lnS b n L T p)) := by
  have hin1 : gR N 2 2 = c2 := by rw [h.1.2.2]; exact hin
  have hz := h.nz
  have hl := hLI.1
  have w1 := b2i_r (isW b n p 1953462126)
  have w2 := b2i_r (isW b n p 1919902052)
  have w3 := b2i_r (isW b n p 457236047717)
  have w4 := b2i_r (isW b n p 31935733760681324)
  have w5 := b2i_r (isW b n p 1667330917)
  have tr : ∀ w : Int, ¬ b2i (isW b n p w) = 0 → isW b n p w = true := fun w hw => by
    cases q : isW b n p w with
    | true => rfl
    | false => rw [q] at hw; exact absurd rfl hw
  have fl : ∀ w : Int, b2i (isW b n p w) = 0 → ¬ isW b n p w = true := fun w hw q => by rw [q] at hw; cases hw
  have rs : ∀ (R : LR) (pc : Nat), True := fun _ _ => trivial
  have end0 : ∀ (R : LR) {r9 : Option Value} {N9 : Mem}, RB c2 M0 b n R r9 N9 → ∃ x : Int, r9 = some (.int (J x)) ∧ (x = 0 ∨ x = 1) := by
    intro R r9 N9 hq
    cases R with
    | inl f => exact ⟨0, hq.1, Or.inl rfl⟩
    | inr q => exact ⟨1, hq.1, Or.inr rfl⟩
  unfold lnS
  refine v_aload_n (pc := 0) 0 rfl rfl ?_
  refine v_getC (pc := 1) 1 rfl fl_X9_14 rfl 3 rfl ?_
  refine v_ldc2J (pc := 4) 2 rfl kcLong_X9_52 (1953462126) (by decide) ?_
  refine v_cV1i (pc := 7) 3 rfl cv_X9_54 rfl (Nat.le_of_ble_eq_true rfl) (Nat.le_of_ble_eq_true rfl) (c_isWord h.2.1 (by omega)) ?_
  refine v_if_eq (pc := 10) 4 37 rfl (by decide) (by omega) (fun e1 => ?_) (fun e1 => ?_)
  · rw [if_neg (fl _ e1)]
    refine v_aload_n (pc := 37) 17 rfl rfl ?_
    refine v_getC (pc := 38) 18 rfl fl_X9_14 rfl 3 rfl ?_
    refine v_ldc2J (pc := 41) 19 rfl kcLong_X9_67 (1919902052) (by decide) ?_
    refine v_cV1i (pc := 44) 20 rfl cv_X9_54 rfl (Nat.le_of_ble_eq_true rfl) (Nat.le_of_ble_eq_true rfl) (c_isWord h.2.1 (by omega)) ?_
    refine v_if_eq (pc := 47) 21 55 rfl (by decide) (by omega) (fun e2 => ?_) (fun e2 => ?_)
    · rw [if_neg (fl _ e2)]
      refine v_aload_n (pc := 55) 25 rfl rfl ?_
      refine v_getC (pc := 56) 26 rfl fl_X9_14 rfl 3 rfl ?_
      refine v_ldc2J (pc := 59) 27 rfl kcLong_X9_72 (457236047717) (by decide) ?_
      refine v_cV1i (pc := 62) 28 rfl cv_X9_54 rfl (Nat.le_of_ble_eq_true rfl) (Nat.le_of_ble_eq_true rfl) (c_isWord h.2.1 (by omega)) ?_
      refine v_if_eq (pc := 65) 29 93 rfl (by decide) (by omega) (fun e3 => ?_) (fun e3 => ?_)
      · rw [if_neg (fl _ e3)]
        refine v_aload_n (pc := 93) 42 rfl rfl ?_
        refine v_getC (pc := 94) 43 rfl fl_X9_14 rfl 3 rfl ?_
        refine v_ldc2J (pc := 97) 44 rfl kcLong_X9_80 (31935733760681324) (by decide) ?_
        refine v_cV1i (pc := 100) 45 rfl cv_X9_54 rfl (Nat.le_of_ble_eq_true rfl) (Nat.le_of_ble_eq_true rfl) (c_isWord h.2.1 (by omega)) ?_
        refine v_if_eq (pc := 103) 46 111 rfl (by decide) (by omega) (fun e4 => ?_) (fun e4 => ?_)
        · rw [if_neg (fl _ e4)]
          refine v_aload_n (pc := 111) 50 rfl rfl ?_
          refine v_getC (pc := 112) 51 rfl fl_X9_14 rfl 3 rfl ?_
          refine v_ldc2J (pc := 115) 52 rfl kcLong_X9_85 (1667330917) (by decide) ?_
          refine v_cV1i (pc := 118) 53 rfl cv_X9_54 rfl (Nat.le_of_ble_eq_true rfl) (Nat.le_of_ble_eq_true rfl) (c_isWord h.2.1 (by omega)) ?_
          refine v_if_eq (pc := 121) 54 149 rfl (by decide) (by omega) (fun e5 => ?_) (fun e5 => ?_)
          · rw [if_neg (fl _ e5)]
            refine v_aload_n (pc := 149) 67 rfl rfl ?_
            refine v_iconst (pc := 150) 68 rfl ?_
            refine v_cV1i (pc := 151) 69 rfl cv_X9_48 rfl (Nat.le_of_ble_eq_true rfl) (Nat.le_of_ble_eq_true rfl) (c_refuse h.2.1 1) ?_
            refine v_zret (pc := 154) 70 rfl rfl (by omega) ⟨rfl, h.flt hc2 _⟩
          · rw [if_pos (tr _ e5)]
            refine v_aload_n (pc := 124) 55 rfl rfl ?_
            refine v_getR (pc := 125) 56 rfl fl_X9_27 rfl _ hin1 ?_
            refine v_getI (pc := 128) 57 rfl fl_X9_87 (shC hc2) ?_
            rw [hz.2.2.1]
            refine v_bipush (pc := 131) 58 rfl (by decide) ?_
            refine v_ic_ge (pc := 133) 59 143 rfl (by decide) (by omega) (fun q5 => ?_) (fun q5 => ?_)
            · rw [if_neg (by omega)]
              refine v_aload_n (pc := 143) 63 rfl rfl ?_
              refine v_iconst (pc := 144) 64 rfl ?_
              refine v_cV1i (pc := 145) 65 rfl cv_X9_48 rfl (Nat.le_of_ble_eq_true rfl) (Nat.le_of_ble_eq_true rfl) (c_refuse h.2.1 5) ?_
              refine v_zret (pc := 148) 66 rfl rfl (by omega) ⟨rfl, h.flt hc2 _⟩
            · rw [if_pos (by omega)]
              refine v_aload_n (pc := 136) 60 rfl rfl ?_
              refine v_cV0 (pc := 137) 61 rfl cv_X9_90 rfl (Nat.le_of_ble_eq_true rfl) (Nat.le_of_ble_eq_true rfl) (c_readCase hc2 hin h hLI (by omega)) (fun r9 N9 hq9 => ?_)
              obtain ⟨x, rfl, hx⟩ := end0 _ hq9
              show V G (d + 5) mX9_readLine (137 + 3) _ [.int (J x)] _ _
              refine v_goto (pc := 140) 62 148 rfl (by decide) ?_
              refine v_zret (pc := 148) 66 rfl rfl (by omega) hq9
        · rw [if_pos (tr _ e4)]
          refine v_aload_n (pc := 106) 47 rfl rfl ?_
          refine v_cV0 (pc := 107) 48 rfl cv_X9_82 rfl (Nat.le_of_ble_eq_true rfl) (Nat.le_of_ble_eq_true rfl) (c_readQuarrel hc2 hin h hLI) (fun r9 N9 hq9 => ?_)
          obtain ⟨x, rfl, hx⟩ := end0 _ hq9
          show V G (d + 5) mX9_readLine (107 + 3) _ [.int (J x)] _ _
          refine v_zret (pc := 110) 49 rfl rfl (by omega) hq9
      · rw [if_pos (tr _ e3)]
        refine v_aload_n (pc := 68) 30 rfl rfl ?_
        refine v_getR (pc := 69) 31 rfl fl_X9_27 rfl _ hin1 ?_
        refine v_getI (pc := 72) 32 rfl fl_X9_74 (shC hc2) ?_
        rw [hz.2.1]
        refine v_bipush (pc := 75) 33 rfl (by decide) ?_
        refine v_ic_ge (pc := 77) 34 87 rfl (by decide) (by omega) (fun q5 => ?_) (fun q5 => ?_)
        · rw [if_neg (by omega)]
          refine v_aload_n (pc := 87) 38 rfl rfl ?_
          refine v_iconst (pc := 88) 39 rfl ?_
          refine v_cV1i (pc := 89) 40 rfl cv_X9_48 rfl (Nat.le_of_ble_eq_true rfl) (Nat.le_of_ble_eq_true rfl) (c_refuse h.2.1 5) ?_
          refine v_zret (pc := 92) 41 rfl rfl (by omega) ⟨rfl, h.flt hc2 _⟩
        · rw [if_pos (by omega)]
          refine v_aload_n (pc := 80) 35 rfl rfl ?_
          refine v_cV0 (pc := 81) 36 rfl cv_X9_77 rfl (Nat.le_of_ble_eq_true rfl) (Nat.le_of_ble_eq_true rfl) (c_readJudge hc2 hin h hLI (by omega)) (fun r9 N9 hq9 => ?_)
          obtain ⟨x, rfl, hx⟩ := end0 _ hq9
          show V G (d + 5) mX9_readLine (81 + 3) _ [.int (J x)] _ _
          refine v_goto (pc := 84) 37 92 rfl (by decide) ?_
          refine v_zret (pc := 92) 41 rfl rfl (by omega) hq9
    · rw [if_pos (tr _ e2)]
      refine v_aload_n (pc := 50) 22 rfl rfl ?_
      refine v_cV0 (pc := 51) 23 rfl cv_X9_69 rfl (Nat.le_of_ble_eq_true rfl) (Nat.le_of_ble_eq_true rfl) (c_readRoad hc2 hin h hLI) (fun r9 N9 hq9 => ?_)
      obtain ⟨x, rfl, hx⟩ := end0 _ hq9
      show V G (d + 5) mX9_readLine (51 + 3) _ [.int (J x)] _ _
      refine v_zret (pc := 54) 24 rfl rfl (by omega) hq9
  · rw [if_pos (tr _ e1)]
    refine v_aload_n (pc := 13) 5 rfl rfl ?_
    refine v_getR (pc := 14) 6 rfl fl_X9_27 rfl _ hin1 ?_
    refine v_getI (pc := 17) 7 rfl fl_X9_58 (shC hc2) ?_
    rw [hz.1]
    refine v_iconst (pc := 20) 8 rfl ?_
    refine v_ic_ge (pc := 21) 9 31 rfl (by decide) (by omega) (fun q5 => ?_) (fun q5 => ?_)
    · rw [if_neg (by omega)]
      refine v_aload_n (pc := 31) 13 rfl rfl ?_
      refine v_iconst (pc := 32) 14 rfl ?_
      refine v_cV1i (pc := 33) 15 rfl cv_X9_48 rfl (Nat.le_of_ble_eq_true rfl) (Nat.le_of_ble_eq_true rfl) (c_refuse h.2.1 5) ?_
      refine v_zret (pc := 36) 16 rfl rfl (by omega) ⟨rfl, h.flt hc2 _⟩
    · rw [if_pos (by omega)]
      refine v_aload_n (pc := 24) 10 rfl rfl ?_
      refine v_cV0 (pc := 25) 11 rfl cv_X9_63 rfl (Nat.le_of_ble_eq_true rfl) (Nat.le_of_ble_eq_true rfl) (c_readTown hc2 hin h hLI (by omega)) (fun r9 N9 hq9 => ?_)
      obtain ⟨x, rfl, hx⟩ := end0 _ hq9
      show V G (d + 5) mX9_readLine (25 + 3) _ [.int (J x)] _ _
      refine v_goto (pc := 28) 12 36 rfl (by decide) ?_
      refine v_zret (pc := 36) 16 rfl rfl (by omega) hq9
end Line
