/-! 88: the world that is made is the law's -/
def zI : Nat → Int := fun _ => 0
def mI0 : List (Nat → Int) := [zI, zI, zI, zI, zI, zI, zI, zI, zI, (fun _ => -1), (fun _ => -1), zI, zI, zI, zI, zI, zI, zI, zI, zI, (fun f => if f = 4 then -1 else if f = 5 then -1 else 0), zI, zI, zI, zI, zI, zI, zI, zI, zI, zI, zI, zI, (fun j => if j < 25 then (if j / 5 = j % 5 then 0 else 1000) else 0), zI, zI, zI, zI, zI, zI, zI, zI, zI, zI, (fun j => if j < 25 then (if j / 5 = j % 5 then 0 else 1000) else 0), zI, zI, zI, zI, zI, zI, zI, zI, zI, zI, zI, zI, zI, zI, zI, zI, zI, zI, zI, zI, zI, zI, zI, zI, zI, zI, zI, (fun j => if j < 24 then -1 else 0), zI, zI, zI, zI, zI, zI, zI, zI, zI, zI, zI]
def mR0 : List (List Nat) := [[0, 0, 0, 32, 43], [], [0, 0, 43], [], [], [], [], [], [32]]
def M00 : Mem := (fun k => mI0.getD k zI, fun _ _ => JL 0, fun k f => (mR0.getD k []).getD f 0)
def posL : List Nat := [30, 83, 55, 60, 56, 59, 58, 57, 51, 54, 53, 52, 43, 50, 49, 47, 48, 46, 44, 45, 37, 42, 40, 41, 38, 39, 34, 36, 35, 31, 33, 32, 72, 82, 81, 80, 79, 78, 77, 76, 75, 74, 73, 61, 71, 70, 69, 68, 67, 66, 65, 64, 63, 62, 1, 29, 28, 27, 26, 25, 24, 23, 22, 21, 20, 19, 18, 17, 16, 15, 14, 13, 12, 11, 10, 9, 8, 7, 6, 5, 4, 3, 2, 0]
def mkG (g : Bg) (ad : List Nat) (adK adV adX : Nat → Nat) (a120 b : Nat) : Gt := (g.1, g.2.1, g.2.2.1, fun k => if k < 84 then ad.getD k 0 else if k < 110 then adK (k - 100) else if k < 120 then adV (k - 110) else if k < 130 then a120 else if k < 140 then adX (k - 130) else b, adV)
theorem at_cg {D9 : va_G} {q n : Nat} {cA : ClassId} {f f9 : Nat → Int32} {H : Heap} (h : va_at D9 clX (q, .inl (cA, n, .inl f)) H) (he : ∀ j, j < n → f j = f9 j) : va_at D9 clX (q, .inl (cA, n, .inl f9)) H := by
  have h1 : H[q]? = some (vp_cell cA (n, .inl f)) := h
  show H[q]? = some (vp_cell cA (n, .inl f9))
  rw [h1]
  show some (arrV cA n (fun j => .int (f j))) = some (arrV cA n (fun j => .int (f9 j)))
  unfold arrV
  congr 2
  exact congrArg Array.ofFn (funext fun j => by
    show Value.int (f j.val) = Value.int (f9 j.val)
    rw [he j.val j.isLt])
theorem pos_inj : ∀ i, i < 84 → ∀ j, j < 84 → posL.getD i 0 = posL.getD j 0 → i = j := by decide +kernel
/-- what was made, cell by cell -/
def Md (g : Bg) (ad : List Nat) (ws : va_W) : Prop := (∀ k, k < 84 → ∃ e : va_E, ws[posL.getD k 0]? = some (ad.getD k 0, e)) ∧ ∀ (adK adV adX : Nat → Nat) (a120 b : Nat) (H : Heap), va_P g.2.1 clX ws H → Wd (mkG g ad adK adV adX a120 b) M00 H
theorem made {g : Bg} {h0 h1 qo : Nat} {o11 o12 : va_W} (h11 : PX11 g h0 o11) (h12 : PX12 g h1 o12) : ∃ ad : List Nat, (ad.getD 0 0 = h0 ∧ ad.getD 54 0 = h1 ∧ ad.getD 83 0 = qo) ∧ Md g ad ((qo, .inl (g.2.2.1 .long, 1, .inr (.inl (fun _ => JL 0)))) :: (o12 ++ (o11 ++ []))) := by
  obtain ⟨aq8, aq19, aq30, aq41, aq60, aq75, aq90, aq105, aq120, ao23, ao34, ao53, ao68, ao83, ao98, ao113, ao128, Hao23, Hao34, Hao53, Hao68, Hao83, Hao98, Hao113, Hao128, rfl⟩ := h11
  obtain ⟨ao128_q8, ao128_q17, rfl⟩ := Hao128
  obtain ⟨ao113_q7, ao113_q15, rfl⟩ := Hao113
  obtain ⟨ao98_q7, ao98_q13, ao98_q24, ao98_o17, ao98_o28, Hao98_o17, Hao98_o28, rfl⟩ := Hao98
  obtain ⟨ao98_o28_q7, rfl⟩ := Hao98_o28
  obtain ⟨ao98_o17_q7, rfl⟩ := Hao98_o17
  obtain ⟨ao83_q7, ao83_q14, ao83_q20, ao83_q32, ao83_q38, ao83_o24, ao83_o42, Hao83_o24, Hao83_o42, rfl⟩ := Hao83
  obtain ⟨ao83_o42_q7, rfl⟩ := Hao83_o42
  obtain ⟨ao83_o24_q7, rfl⟩ := Hao83_o24
  obtain ⟨ao68_q7, ao68_q15, ao68_q23, rfl⟩ := Hao68
  obtain ⟨ao53_q5, ao53_q17, ao53_o10, ao53_o21, Hao53_o10, Hao53_o21, rfl⟩ := Hao53
  obtain ⟨ao53_o21_q7, ao53_o21_q15, ao53_o21_q23, rfl⟩ := Hao53_o21
  obtain rfl : _ = _ := Hao53_o10
  obtain ⟨ao34_q7, ao34_q15, ao34_q23, ao34_q31, ao34_q39, ao34_q47, ao34_q55, ao34_q63, ao34_q71, ao34_q79, rfl⟩ := Hao34
  obtain ⟨ao23_q7, ao23_q15, ao23_q23, ao23_q31, ao23_q39, ao23_q47, ao23_q55, ao23_q63, ao23_q71, ao23_q79, rfl⟩ := Hao23
  obtain ⟨bq8, bq15, bq22, bq29, bq37, bq45, bq53, bq61, bq69, bq77, bq85, bq93, bq101, bq109, bq117, bq125, bq133, bq141, bq150, bq158, bq165, bq173, bq181, bq189, bq197, bq204, bq211, bq219, rfl⟩ := h12
  refine ⟨[h0, aq8, aq41, ao53_q5, ao53_q17, ao53_o21_q7, ao53_o21_q15, ao53_o21_q23, aq60, ao68_q7, ao68_q15, ao68_q23, aq75, ao83_q7, ao83_q14, ao83_q20, ao83_o24_q7, ao83_q32, ao83_q38, ao83_o42_q7, aq90, ao98_q7, ao98_q13, ao98_o17_q7, ao98_q24, ao98_o28_q7, aq105, ao113_q7, ao113_q15, aq120, ao128_q8, ao128_q17, aq19, ao23_q7, ao23_q15, ao23_q23, ao23_q31, ao23_q39, ao23_q47, ao23_q55, ao23_q63, ao23_q71, ao23_q79, aq30, ao34_q7, ao34_q15, ao34_q23, ao34_q31, ao34_q39, ao34_q47, ao34_q55, ao34_q63, ao34_q71, ao34_q79, h1, bq8, bq15, bq22, bq29, bq37, bq45, bq53, bq61, bq69, bq77, bq85, bq93, bq101, bq109, bq117, bq125, bq133, bq141, bq150, bq158, bq165, bq173, bq181, bq189, bq197, bq204, bq211, bq219, qo], ⟨rfl, rfl, rfl⟩, ?_, ?_⟩
  · intro k hk
    match k, hk with
    | 0, _ => exact ⟨_, rfl⟩
    | 1, _ => exact ⟨_, rfl⟩
    | 2, _ => exact ⟨_, rfl⟩
    | 3, _ => exact ⟨_, rfl⟩
    | 4, _ => exact ⟨_, rfl⟩
    | 5, _ => exact ⟨_, rfl⟩
    | 6, _ => exact ⟨_, rfl⟩
    | 7, _ => exact ⟨_, rfl⟩
    | 8, _ => exact ⟨_, rfl⟩
    | 9, _ => exact ⟨_, rfl⟩
    | 10, _ => exact ⟨_, rfl⟩
    | 11, _ => exact ⟨_, rfl⟩
    | 12, _ => exact ⟨_, rfl⟩
    | 13, _ => exact ⟨_, rfl⟩
    | 14, _ => exact ⟨_, rfl⟩
    | 15, _ => exact ⟨_, rfl⟩
    | 16, _ => exact ⟨_, rfl⟩
    | 17, _ => exact ⟨_, rfl⟩
    | 18, _ => exact ⟨_, rfl⟩
    | 19, _ => exact ⟨_, rfl⟩
    | 20, _ => exact ⟨_, rfl⟩
    | 21, _ => exact ⟨_, rfl⟩
    | 22, _ => exact ⟨_, rfl⟩
    | 23, _ => exact ⟨_, rfl⟩
    | 24, _ => exact ⟨_, rfl⟩
    | 25, _ => exact ⟨_, rfl⟩
    | 26, _ => exact ⟨_, rfl⟩
    | 27, _ => exact ⟨_, rfl⟩
    | 28, _ => exact ⟨_, rfl⟩
    | 29, _ => exact ⟨_, rfl⟩
    | 30, _ => exact ⟨_, rfl⟩
    | 31, _ => exact ⟨_, rfl⟩
    | 32, _ => exact ⟨_, rfl⟩
    | 33, _ => exact ⟨_, rfl⟩
    | 34, _ => exact ⟨_, rfl⟩
    | 35, _ => exact ⟨_, rfl⟩
    | 36, _ => exact ⟨_, rfl⟩
    | 37, _ => exact ⟨_, rfl⟩
    | 38, _ => exact ⟨_, rfl⟩
    | 39, _ => exact ⟨_, rfl⟩
    | 40, _ => exact ⟨_, rfl⟩
    | 41, _ => exact ⟨_, rfl⟩
    | 42, _ => exact ⟨_, rfl⟩
    | 43, _ => exact ⟨_, rfl⟩
    | 44, _ => exact ⟨_, rfl⟩
    | 45, _ => exact ⟨_, rfl⟩
    | 46, _ => exact ⟨_, rfl⟩
    | 47, _ => exact ⟨_, rfl⟩
    | 48, _ => exact ⟨_, rfl⟩
    | 49, _ => exact ⟨_, rfl⟩
    | 50, _ => exact ⟨_, rfl⟩
    | 51, _ => exact ⟨_, rfl⟩
    | 52, _ => exact ⟨_, rfl⟩
    | 53, _ => exact ⟨_, rfl⟩
    | 54, _ => exact ⟨_, rfl⟩
    | 55, _ => exact ⟨_, rfl⟩
    | 56, _ => exact ⟨_, rfl⟩
    | 57, _ => exact ⟨_, rfl⟩
    | 58, _ => exact ⟨_, rfl⟩
    | 59, _ => exact ⟨_, rfl⟩
    | 60, _ => exact ⟨_, rfl⟩
    | 61, _ => exact ⟨_, rfl⟩
    | 62, _ => exact ⟨_, rfl⟩
    | 63, _ => exact ⟨_, rfl⟩
    | 64, _ => exact ⟨_, rfl⟩
    | 65, _ => exact ⟨_, rfl⟩
    | 66, _ => exact ⟨_, rfl⟩
    | 67, _ => exact ⟨_, rfl⟩
    | 68, _ => exact ⟨_, rfl⟩
    | 69, _ => exact ⟨_, rfl⟩
    | 70, _ => exact ⟨_, rfl⟩
    | 71, _ => exact ⟨_, rfl⟩
    | 72, _ => exact ⟨_, rfl⟩
    | 73, _ => exact ⟨_, rfl⟩
    | 74, _ => exact ⟨_, rfl⟩
    | 75, _ => exact ⟨_, rfl⟩
    | 76, _ => exact ⟨_, rfl⟩
    | 77, _ => exact ⟨_, rfl⟩
    | 78, _ => exact ⟨_, rfl⟩
    | 79, _ => exact ⟨_, rfl⟩
    | 80, _ => exact ⟨_, rfl⟩
    | 81, _ => exact ⟨_, rfl⟩
    | 82, _ => exact ⟨_, rfl⟩
    | 83, _ => exact ⟨_, rfl⟩
    | k + 84, hk => exact absurd hk (by omega)
  · intro adK adV adX a120 b H hP
    obtain ⟨l8, D8, gc8, n8⟩ := g
    have all : ∀ k, k < 84 → va_at D8 clX (ga (mkG (l8, D8, gc8, n8) [h0, aq8, aq41, ao53_q5, ao53_q17, ao53_o21_q7, ao53_o21_q15, ao53_o21_q23, aq60, ao68_q7, ao68_q15, ao68_q23, aq75, ao83_q7, ao83_q14, ao83_q20, ao83_o24_q7, ao83_q32, ao83_q38, ao83_o42_q7, aq90, ao98_q7, ao98_q13, ao98_o17_q7, ao98_q24, ao98_o28_q7, aq105, ao113_q7, ao113_q15, aq120, ao128_q8, ao128_q17, aq19, ao23_q7, ao23_q15, ao23_q23, ao23_q31, ao23_q39, ao23_q47, ao23_q55, ao23_q63, ao23_q71, ao23_q79, aq30, ao34_q7, ao34_q15, ao34_q23, ao34_q31, ao34_q39, ao34_q47, ao34_q55, ao34_q63, ao34_q71, ao34_q79, h1, bq8, bq15, bq22, bq29, bq37, bq45, bq53, bq61, bq69, bq77, bq85, bq93, bq101, bq109, bq117, bq125, bq133, bq141, bq150, bq158, bq165, bq173, bq181, bq189, bq197, bq204, bq211, bq219, qo] adK adV adX a120 b) k, eC (mkG (l8, D8, gc8, n8) [h0, aq8, aq41, ao53_q5, ao53_q17, ao53_o21_q7, ao53_o21_q15, ao53_o21_q23, aq60, ao68_q7, ao68_q15, ao68_q23, aq75, ao83_q7, ao83_q14, ao83_q20, ao83_o24_q7, ao83_q32, ao83_q38, ao83_o42_q7, aq90, ao98_q7, ao98_q13, ao98_o17_q7, ao98_q24, ao98_o28_q7, aq105, ao113_q7, ao113_q15, aq120, ao128_q8, ao128_q17, aq19, ao23_q7, ao23_q15, ao23_q23, ao23_q31, ao23_q39, ao23_q47, ao23_q55, ao23_q63, ao23_q71, ao23_q79, aq30, ao34_q7, ao34_q15, ao34_q23, ao34_q31, ao34_q39, ao34_q47, ao34_q55, ao34_q63, ao34_q71, ao34_q79, h1, bq8, bq15, bq22, bq29, bq37, bq45, bq53, bq61, bq69, bq77, bq85, bq93, bq101, bq109, bq117, bq125, bq133, bq141, bq150, bq158, bq165, bq173, bq181, bq189, bq197, bq204, bq211, bq219, qo] adK adV adX a120 b) M00 k) H := by
      intro k hk
      match k, hk with
      | 0, _ => exact hP 30 _ rfl
      | 1, _ => exact hP 83 _ rfl
      | 2, _ => exact hP 55 _ rfl
      | 3, _ => exact hP 60 _ rfl
      | 4, _ => exact hP 56 _ rfl
      | 5, _ => exact hP 59 _ rfl
      | 6, _ => exact hP 58 _ rfl
      | 7, _ => exact hP 57 _ rfl
      | 8, _ => exact hP 51 _ rfl
      | 9, _ => exact at_cg (f := mfi 12) (f9 := fun _ => J (-1)) (hP 54 _ rfl) (fun j hj => by unfold mfi; rw [if_pos hj])
      | 10, _ => exact at_cg (f := mfi 12) (f9 := fun _ => J (-1)) (hP 53 _ rfl) (fun j hj => by unfold mfi; rw [if_pos hj])
      | 11, _ => exact hP 52 _ rfl
      | 12, _ => exact hP 43 _ rfl
      | 13, _ => exact hP 50 _ rfl
      | 14, _ => exact hP 49 _ rfl
      | 15, _ => exact hP 47 _ rfl
      | 16, _ => exact hP 48 _ rfl
      | 17, _ => exact hP 46 _ rfl
      | 18, _ => exact hP 44 _ rfl
      | 19, _ => exact hP 45 _ rfl
      | 20, _ => exact hP 37 _ rfl
      | 21, _ => exact hP 42 _ rfl
      | 22, _ => exact hP 40 _ rfl
      | 23, _ => exact hP 41 _ rfl
      | 24, _ => exact hP 38 _ rfl
      | 25, _ => exact hP 39 _ rfl
      | 26, _ => exact hP 34 _ rfl
      | 27, _ => exact hP 36 _ rfl
      | 28, _ => exact hP 35 _ rfl
      | 29, _ => exact hP 31 _ rfl
      | 30, _ => exact hP 33 _ rfl
      | 31, _ => exact hP 32 _ rfl
      | 32, _ => exact hP 72 _ rfl
      | 33, _ => exact hP 82 _ rfl
      | 34, _ => exact hP 81 _ rfl
      | 35, _ => exact hP 80 _ rfl
      | 36, _ => exact hP 79 _ rfl
      | 37, _ => exact hP 78 _ rfl
      | 38, _ => exact hP 77 _ rfl
      | 39, _ => exact hP 76 _ rfl
      | 40, _ => exact hP 75 _ rfl
      | 41, _ => exact hP 74 _ rfl
      | 42, _ => exact hP 73 _ rfl
      | 43, _ => exact hP 61 _ rfl
      | 44, _ => exact hP 71 _ rfl
      | 45, _ => exact hP 70 _ rfl
      | 46, _ => exact hP 69 _ rfl
      | 47, _ => exact hP 68 _ rfl
      | 48, _ => exact hP 67 _ rfl
      | 49, _ => exact hP 66 _ rfl
      | 50, _ => exact hP 65 _ rfl
      | 51, _ => exact hP 64 _ rfl
      | 52, _ => exact hP 63 _ rfl
      | 53, _ => exact hP 62 _ rfl
      | 54, _ => exact hP 1 _ rfl
      | 55, _ => exact hP 29 _ rfl
      | 56, _ => exact hP 28 _ rfl
      | 57, _ => exact hP 27 _ rfl
      | 58, _ => exact hP 26 _ rfl
      | 59, _ => exact hP 25 _ rfl
      | 60, _ => exact hP 24 _ rfl
      | 61, _ => exact hP 23 _ rfl
      | 62, _ => exact hP 22 _ rfl
      | 63, _ => exact hP 21 _ rfl
      | 64, _ => exact hP 20 _ rfl
      | 65, _ => exact hP 19 _ rfl
      | 66, _ => exact hP 18 _ rfl
      | 67, _ => exact hP 17 _ rfl
      | 68, _ => exact hP 16 _ rfl
      | 69, _ => exact hP 15 _ rfl
      | 70, _ => exact hP 14 _ rfl
      | 71, _ => exact hP 13 _ rfl
      | 72, _ => exact hP 12 _ rfl
      | 73, _ => exact hP 11 _ rfl
      | 74, _ => exact hP 10 _ rfl
      | 75, _ => exact hP 9 _ rfl
      | 76, _ => exact hP 8 _ rfl
      | 77, _ => exact hP 7 _ rfl
      | 78, _ => exact hP 6 _ rfl
      | 79, _ => exact hP 5 _ rfl
      | 80, _ => exact hP 4 _ rfl
      | 81, _ => exact hP 3 _ rfl
      | 82, _ => exact hP 2 _ rfl
      | 83, _ => exact hP 0 _ rfl
      | k + 84, hk => exact absurd hk (by omega)
    intro k q hk
    have hk9 : k < nC := by have := (List.getElem?_eq_some_iff.mp hk).1; rw [ws_len] at this; exact this
    rw [ws_at _ M00 hk9] at hk
    cases hk
    exact all k hk9
