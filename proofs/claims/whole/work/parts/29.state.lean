/-! 29: the state that both sides stand for; the class's share of it -/
abbrev Ax : Type := (Nat × (Nat → Int)) × Tx × Sx × List Sx × (Nat → Option Sx)
abbrev aN (A : Ax) : Nat := A.1.1
abbrev aB (A : Ax) : Nat → Int := A.1.2
abbrev aT (A : Ax) : Tx := A.2.1
abbrev aS (A : Ax) : Sx := A.2.2.1
abbrev aU (A : Ax) : List Sx := A.2.2.2.1
abbrev aK (A : Ax) : Nat → Option Sx := A.2.2.2.2
def SF (S : Sx) : Prop := ∀ j, 12 ≤ j → S.1 j = -1 ∧ S.2 j = -1
def s0 : Sx := (fun _ => -1, fun _ => -1)
/-- the slot of the i-th of k acts, the next one's being x -/
def slt (x k i : Nat) : Nat := (x + 12 - k + i) % 12
def UR (M : Mem) (U : List Sx) : Prop := (0 ≤ gI M 29 4 ∧ gI M 29 4 < 12) ∧ gI M 29 5 = (U.length : Int) ∧ U.length ≤ 12 ∧ ∀ i, i < U.length → ∀ j, j < 12 → gI M 30 (slt (gI M 29 4).toNat U.length i * 12 + j) = (U.getD i s0).1 j ∧ gI M 31 (slt (gI M 29 4).toNat U.length i * 12 + j) = (U.getD i s0).2 j
def KR (M : Mem) (K : Nat → Option Sx) : Prop := (0 ≤ gI M 29 3 ∧ gI M 29 3 < 4) ∧ ∀ k, k < 2 → (K k = none ∧ bt (gI M 29 3) k = 0) ∨ ∃ S, K k = some S ∧ bt (gI M 29 3) k = 1 ∧ ∀ j, j < 12 → gI M 30 ((12 + k) * 12 + j) = S.1 j ∧ gI M 31 ((12 + k) * 12 + j) = S.2 j
/-- every calendar that may come back is one -/
def AOk (A : Ax) : Prop := TOk (aT A) ∧ (SOk (aT A) (aS A) ∧ SF (aS A)) ∧ (∀ S ∈ aU A, SOk (aT A) S ∧ SF S) ∧ ∀ k, k < 2 → ∀ S, aK A k = some S → SOk (aT A) S ∧ SF S
def CRc (M : Mem) (A : Ax) (c c2 : Nat) : Prop := ((c = 32 ∧ c2 = 43) ∨ (c = 43 ∧ c2 = 32)) ∧ gR M 0 3 = c ∧ gR M 0 4 = c2 ∧ CI M c ∧ tOf M c = aT A ∧ sOf M = aS A ∧
  (gI M 0 1 = (aN A : Int) ∧ aN A ≤ 800 ∧ ∀ i, i < aN A → gI M 1 i = aB A i ∧ -128 ≤ aB A i ∧ aB A i < 128) ∧ UR M (aU A) ∧ KR M (aK A) ∧ AOk A
def CR (M : Mem) (A : Ax) : Prop := ∃ c c2, CRc M A c c2
/-- the reference's cells are as they were -/
def CF (M N : Mem) : Prop := ∀ q, 54 ≤ q → gI N q = gI M q ∧ gL N q = gL M q
theorem CF.rfl9 (M : Mem) : CF M M := fun _ _ => ⟨rfl, rfl⟩
theorem CF.trans {M N P : Mem} (h1 : CF M N) (h2 : CF N P) : CF M P := fun q hq => ⟨(h2 q hq).1.trans (h1 q hq).1, (h2 q hq).2.trans (h1 q hq).2⟩
theorem UR.keep {M N : Mem} {U : List Sx} (h : UR M U) (e29 : gI N 29 = gI M 29) (e30 : gI N 30 = gI M 30) (e31 : gI N 31 = gI M 31) : UR N U := by
  unfold UR; rw [e29, e30, e31]; exact h
theorem KR.keep {M N : Mem} {K : Nat → Option Sx} (h : KR M K) (e29 : gI N 29 = gI M 29) (e30 : gI N 30 = gI M 30) (e31 : gI N 31 = gI M 31) : KR N K := by
  unfold KR; rw [e29, e30, e31]; exact h
/-- the sittings alone are others -/
theorem CRc.chS {M N : Mem} {A : Ax} {c c2 : Nat} (h : CRc M A c c2) {S2 : Sx} (hs : sOf N = S2) (hS2 : SOk (aT A) S2) (hSF : SF S2) (e : ∀ q, q = 0 ∨ q = 1 ∨ (29 ≤ q ∧ q ≤ 53) → gI N q = gI M q) (er : gR N = gR M) : CRc N (A.1, aT A, S2, aU A, aK A) c c2 := by
  obtain ⟨h1, h2, h3, h4, h5, h6, h7, h8, h9, h10⟩ := h
  have eT : ∀ j, j ≤ 10 → gI N (c + j) = gI M (c + j) := fun j hj => e _ (by omega)
  refine ⟨h1, by rw [er]; exact h2, by rw [er]; exact h3, h4.keep eT (by rw [er]) (by rw [hs, h5]; exact hS2), (tOf_eq eT).trans h5, hs, ?_, h8.keep (e 29 (by omega)) (e 30 (by omega)) (e 31 (by omega)), h9.keep (e 29 (by omega)) (e 30 (by omega)) (e 31 (by omega)), ⟨h10.1, ⟨hS2, hSF⟩, h10.2.2⟩⟩
  rw [e 0 (by omega), e 1 (by omega)]; exact h7
theorem CRc.same {M N : Mem} {A : Ax} {c c2 : Nat} (h : CRc M A c c2) (e : ∀ q, q = 0 ∨ q = 1 ∨ q = 9 ∨ q = 10 ∨ (29 ≤ q ∧ q ≤ 53) → gI N q = gI M q) (er : gR N = gR M) : CRc N A c c2 := by
  have hs : sOf N = aS A := by rw [← h.2.2.2.2.2.1]; unfold sOf; rw [e 9 (by omega), e 10 (by omega)]
  exact h.chS hs h.2.2.2.2.2.2.2.2.2.2.1.1 h.2.2.2.2.2.2.2.2.2.2.1.2 (fun q hq => e q (by omega)) er
/-- an act begins: what is remembered of it -/
def push (U : List Sx) (S : Sx) : List Sx := if U.length < 12 then U ++ [S] else U.drop 1 ++ [S]
theorem push_len (U : List Sx) (S : Sx) (h : U.length ≤ 12) : (push U S).length = min (U.length + 1) 12 := by
  unfold push
  split
  · rw [List.length_append]; show U.length + 1 = _; omega
  · rw [List.length_append, List.length_drop]; show U.length - 1 + 1 = _; omega
theorem push_at (U : List Sx) (S : Sx) (h : U.length ≤ 12) {i : Nat} (hi : i < (push U S).length) : (push U S).getD i s0 = if i + 1 = (push U S).length then S else U.getD (if U.length < 12 then i else i + 1) s0 := by
  have hl := push_len U S h
  rw [hl] at hi ⊢
  unfold push
  by_cases e : U.length < 12
  · rw [if_pos e, if_pos e, List.getD_eq_getElem?_getD, List.getD_eq_getElem?_getD]
    by_cases e2 : i < U.length
    · rw [List.getElem?_append_left e2, if_neg (by omega)]
    · rw [List.getElem?_append_right (by omega), if_pos (by omega), show i - U.length = 0 by omega]; rfl
  · rw [if_neg e, if_neg e, List.getD_eq_getElem?_getD, List.getD_eq_getElem?_getD]
    have hd : (U.drop 1).length = U.length - 1 := List.length_drop
    by_cases e2 : i < U.length - 1
    · rw [List.getElem?_append_left (by omega), if_neg (by omega), List.getElem?_drop, Nat.add_comm 1 i]
    · rw [List.getElem?_append_right (by omega), if_pos (by omega), hd, show i - (U.length - 1) = 0 by omega]; rfl
theorem push_mem {U : List Sx} {S x : Sx} (h : x ∈ push U S) : x ∈ U ∨ x = S := by
  unfold push at h
  split at h
  · rcases List.mem_append.mp h with h | h
    · exact Or.inl h
    · exact Or.inr (by simpa using h)
  · rcases List.mem_append.mp h with h | h
    · exact Or.inl (List.mem_of_mem_drop h)
    · exact Or.inr (by simpa using h)
def begM (M : Mem) : Mem := sI (sI (stM M (gI M 29 4).toNat) 29 4 (if gI M 29 4 < 11 then gI M 29 4 + 1 else 0)) 29 5 (min (gI M 29 5 + 1) 12)
theorem beg_ne {M : Mem} {q : Nat} (h : q ≠ 29 ∧ q ≠ 30 ∧ q ≠ 31) : gI (begM M) q = gI M q := by unfold begM; rw [gI_sI_ne h.1, gI_sI_ne h.1, st_ne h.2]
theorem beg_ur {M : Mem} {U : List Sx} (h : UR M U) : UR (begM M) (push U (sOf M)) := by
  obtain ⟨h1, h2, h3, h4⟩ := h
  obtain ⟨x, hx⟩ : ∃ x : Nat, gI M 29 4 = (x : Int) := ⟨(gI M 29 4).toNat, by omega⟩
  have hl := push_len U (sOf M) h3
  have e4 : gI (begM M) 29 4 = if gI M 29 4 < 11 then gI M 29 4 + 1 else 0 := by unfold begM; rw [gI_sI, if_pos rfl, if_neg (by decide), gI_sI, if_pos rfl, if_pos rfl]
  have e5 : gI (begM M) 29 5 = min (gI M 29 5 + 1) 12 := by unfold begM; rw [gI_sI, if_pos rfl, if_pos rfl]
  have e30 : ∀ j, gI (begM M) 30 j = if x * 12 ≤ j ∧ j < x * 12 + 12 then gI M 9 (j - x * 12) else gI M 30 j := fun j => by
    unfold begM; rw [gI_sI_ne (by decide), gI_sI_ne (by decide), st_30, hx, Int.toNat_natCast]
  have e31 : ∀ j, gI (begM M) 31 j = if x * 12 ≤ j ∧ j < x * 12 + 12 then gI M 10 (j - x * 12) else gI M 31 j := fun j => by
    unfold begM; rw [gI_sI_ne (by decide), gI_sI_ne (by decide), st_31, hx, Int.toNat_natCast]
  refine ⟨?_, ?_, by rw [hl]; omega, fun i hi j hj => ?_⟩
  · rw [e4, hx]; rw [hx] at h1; split <;> omega
  · rw [e5, h2, hl]; omega
  · have hx12 : x < 12 := by omega
    have h4x := h4
    rw [hx, Int.toNat_natCast] at h4x
    have en : (gI (begM M) 29 4).toNat = (x + 1) % 12 := by
      rw [e4, hx]; split <;> omega
    rw [en, push_at U (sOf M) h3 hi, hl] 
    rw [hl] at hi
    rw [e30, e31]
    unfold slt at h4x ⊢
    by_cases e : i + 1 = min (U.length + 1) 12
    · rw [if_pos e]
      have es : ((x + 1) % 12 + 12 - min (U.length + 1) 12 + i) % 12 = x := by omega
      rw [es, if_pos (by omega), if_pos (by omega), show x * 12 + j - x * 12 = j by omega]
      exact ⟨rfl, rfl⟩
    · rw [if_neg e]
      have es : ((x + 1) % 12 + 12 - min (U.length + 1) 12 + i) % 12 = (x + 12 - U.length + (if U.length < 12 then i else i + 1)) % 12 := by split <;> omega
      have ene : ((x + 1) % 12 + 12 - min (U.length + 1) 12 + i) % 12 ≠ x := by omega
      have hng : ¬ (x * 12 ≤ ((x + 1) % 12 + 12 - min (U.length + 1) 12 + i) % 12 * 12 + j ∧ ((x + 1) % 12 + 12 - min (U.length + 1) 12 + i) % 12 * 12 + j < x * 12 + 12) := by omega
      rw [if_neg hng, if_neg hng, es]
      exact h4x (if U.length < 12 then i else i + 1) (by split <;> omega) j hj
theorem beg_kr {M : Mem} {U : List Sx} {K : Nat → Option Sx} (hU : UR M U) (h : KR M K) : KR (begM M) K := by
  obtain ⟨h1, h2⟩ := h
  have hx := hU.1
  have e3 : gI (begM M) 29 3 = gI M 29 3 := by unfold begM; rw [gI_sI, if_pos rfl, if_neg (by decide), gI_sI, if_pos rfl, if_neg (by decide), st_ne (by decide)]
  have e30 : ∀ k j, k < 2 → gI (begM M) 30 ((12 + k) * 12 + j) = gI M 30 ((12 + k) * 12 + j) := fun k j hk => by
    unfold begM; rw [gI_sI_ne (by decide), gI_sI_ne (by decide), st_30, if_neg (by omega)]
  have e31 : ∀ k j, k < 2 → gI (begM M) 31 ((12 + k) * 12 + j) = gI M 31 ((12 + k) * 12 + j) := fun k j hk => by
    unfold begM; rw [gI_sI_ne (by decide), gI_sI_ne (by decide), st_31, if_neg (by omega)]
  refine ⟨by rw [e3]; exact h1, fun k hk => ?_⟩
  rw [e3]
  rcases h2 k hk with q | ⟨S, q1, q2, q3⟩
  · exact Or.inl q
  · exact Or.inr ⟨S, q1, q2, fun j hj => by rw [e30 k j hk, e31 k j hk]; exact q3 j hj⟩
def begA (A : Ax) : Ax := (A.1, aT A, aS A, push (aU A) (aS A), aK A)
theorem beg_cr {M : Mem} {A : Ax} {c c2 : Nat} (h : CRc M A c c2) : CRc (begM M) (begA A) c c2 := by
  obtain ⟨h1, h2, h3, h4, h5, h6, h7, h8, h9, h10⟩ := h
  have eT : ∀ j, j ≤ 10 → gI (begM M) (c + j) = gI M (c + j) := fun j hj => beg_ne (by omega)
  have hs : sOf (begM M) = sOf M := by unfold sOf; rw [beg_ne (by decide), beg_ne (by decide)]
  refine ⟨h1, h2, h3, h4.keep eT rfl (by rw [hs]; exact h4.2.2.2.2.2.2), (tOf_eq eT).trans h5, hs.trans h6, ?_, by rw [show aU (begA A) = push (aU A) (aS A) from rfl, ← h6]; exact beg_ur h8, beg_kr h8 h9, h10.1, h10.2.1, fun S hS => ?_, h10.2.2.2⟩
  · rw [beg_ne (by decide), beg_ne (by decide)]; exact h7
  · rcases push_mem hS with q | q
    · exact h10.2.2.1 S q
    · rw [q]; exact h10.2.1
theorem beg_cf (M : Mem) : CF M (begM M) := fun q hq => ⟨beg_ne (by omega), rfl⟩
theorem SF.set {S : Sx} (h : SF S) {k : Nat} (hk : k < 12) (j d : Int) : SF (setS S k j d) := fun i hi => by
  unfold setS
  dsimp only
  rw [if_neg (by omega), if_neg (by omega)]
  exact h i hi
