/-! 10: what is told (T), sittings (S), and what follows from them -/
abbrev Tx : Type := (Nat × Nat × Nat) × (Nat → Nat → Int)
abbrev Sx : Type := (Nat → Int) × (Nat → Int)
abbrev nT (T : Tx) : Nat := T.1.1
abbrev nJ (T : Tx) : Nat := T.1.2.1
abbrev nK (T : Tx) : Nat := T.1.2.2
abbrev wy (T : Tx) (a b : Int) : Int := T.2 1 (a * 5 + b).toNat
abbrev hm (T : Tx) (j : Nat) : Int := T.2 2 j
abbrev da (T : Tx) (j : Nat) : Int := T.2 3 j
abbrev ss (T : Tx) (j : Nat) : Int := T.2 4 j
abbrev qu (T : Tx) (j : Nat) : Int := T.2 5 j
abbrev tw (T : Tx) (k : Nat) : Int := T.2 6 k
abbrev so (T : Tx) (k : Nat) : Int := T.2 7 k
abbrev fi (T : Tx) (k : Nat) : Int := T.2 8 k
abbrev le (T : Tx) (k : Nat) : Int := T.2 9 k
abbrev ba (T : Tx) (k : Nat) : Int := T.2 10 k
/-- T is of the form that a text without fault tells -/
def TOk (T : Tx) : Prop := nT T ≤ 5 ∧ nJ T ≤ 6 ∧ nK T ≤ 12 ∧
  (∀ j, j < nJ T → (0 ≤ hm T j ∧ hm T j < nT T) ∧ (60 ≤ da T j ∧ da T j ≤ 600) ∧ (0 ≤ ss T j ∧ ss T j < 16) ∧ (0 ≤ qu T j ∧ qu T j < 64)) ∧
  (∀ k, k < nK T → (0 ≤ tw T k ∧ tw T k < nT T) ∧ (0 ≤ so T k ∧ so T k < 4) ∧ (0 ≤ fi T k ∧ fi T k ≤ 60) ∧ (10 ≤ le T k ∧ le T k ≤ 300) ∧ (0 ≤ ba T k ∧ ba T k < 64)) ∧
  (∀ a b : Int, 0 ≤ a → a < nT T → 0 ≤ b → b < nT T → 0 ≤ wy T a b ∧ wy T a b ≤ 1000)
/-- S: a case has a judge and a day, or neither -/
def SOk (T : Tx) (S : Sx) : Prop := ∀ k, k < 12 → (S.1 k = -1 ∧ S.2 k = -1) ∨ (k < nK T ∧ (0 ≤ S.1 k ∧ S.1 k < nJ T) ∧ (0 ≤ S.2 k ∧ S.2 k ≤ 60))
theorem SOk.b {T : Tx} {S : Sx} (h : SOk T S) (hT : TOk T) {k : Nat} (hk : k < 12) : (-1 ≤ S.1 k ∧ S.1 k < 6) ∧ (-1 ≤ S.2 k ∧ S.2 k ≤ 60) := by
  have := hT.2.1
  rcases h k hk with h | h <;> omega
def sumN (f : Nat → Int) : Nat → Int
  | 0 => 0
  | n + 1 => sumN f n + f n
theorem sumN_b {f : Nat → Int} {B : Int} : ∀ n : Nat, (∀ k, k < n → 0 ≤ f k ∧ f k ≤ B) → 0 ≤ sumN f n ∧ sumN f n ≤ n * B := by
  intro n
  induction n with
  | zero => intro _; exact ⟨Int.le_refl 0, by simp [sumN]⟩
  | succ n ih =>
    intro h
    have h1 := ih (fun k hk => h k (by omega))
    have h2 := h n (by omega)
    have e : ((n + 1 : Nat) : Int) * B = n * B + B := by rw [Int.natCast_add, Int.add_mul]; simp
    rw [e]
    show 0 ≤ sumN f n + f n ∧ sumN f n + f n ≤ n * B + B
    omega
theorem sumN_congr {f g : Nat → Int} : ∀ n : Nat, (∀ k, k < n → f k = g k) → sumN f n = sumN g n := by
  intro n
  induction n with
  | zero => intro _; rfl
  | succ n ih =>
    intro h
    show sumN f n + f n = sumN g n + g n
    rw [ih (fun k hk => h k (by omega)), h n (by omega)]
def exB (p : Nat → Bool) : Nat → Bool
  | 0 => false
  | n + 1 => exB p n || p n
theorem exB_true {p : Nat → Bool} {n k : Nat} (hk : k < n) (h : p k = true) : exB p n = true := by
  induction n with
  | zero => omega
  | succ n ih =>
    show (exB p n || p n) = true
    by_cases e : k = n
    · subst e; rw [h, Bool.or_true]
    · rw [ih (by omega), Bool.true_or]
theorem exB_false {p : Nat → Bool} {n : Nat} (h : ∀ k, k < n → p k = false) : exB p n = false := by
  induction n with
  | zero => rfl
  | succ n ih =>
    show (exB p n || p n) = false
    rw [ih (fun k hk => h k (by omega)), h n (by omega)]; rfl
theorem exB_not {p : Nat → Bool} {n k : Nat} (h : exB p n = false) (hk : k < n) : p k = false := by
  cases e : p k with
  | false => rfl
  | true => rw [exB_true hk e] at h; cases h
theorem exB_succ {p : Nat → Bool} {n : Nat} (h : exB p n = false) (h2 : p n = false) : exB p (n + 1) = false := by
  show (exB p n || p n) = false
  rw [h, h2]; rfl
theorem exB_congr {p q : Nat → Bool} {n : Nat} (h : ∀ k, k < n → p k = q k) : exB p n = exB q n := by
  induction n with
  | zero => rfl
  | succ n ih =>
    show (exB p n || p n) = (exB q n || q n)
    rw [ih (fun k hk => h k (by omega)), h n (by omega)]
/-- of the first k below n with p its f, else -1 -/
def fst (p : Nat → Bool) (f : Nat → Int) : Nat → Int
  | 0 => -1
  | n + 1 => if exB p n = true then fst p f n else if p n = true then f n else -1
theorem fst_none {p : Nat → Bool} {f : Nat → Int} {n : Nat} (h : exB p n = false) : fst p f n = -1 := by
  cases n with
  | zero => rfl
  | succ n =>
    have h1 : exB p n = false := by
      cases e : exB p n with
      | false => rfl
      | true => rw [show exB p (n + 1) = (exB p n || p n) from rfl, e] at h; cases h
    show (if exB p n = true then fst p f n else if p n = true then f n else -1) = -1
    rw [h1, exB_not h (Nat.lt_succ_self n)]; rfl
theorem fst_at {p : Nat → Bool} {f : Nat → Int} {n k : Nat} (hk : k < n) (h : exB p k = false) (hp : p k = true) : fst p f n = f k := by
  induction n with
  | zero => omega
  | succ n ih =>
    show (if exB p n = true then fst p f n else if p n = true then f n else -1) = f k
    by_cases e : k = n
    · subst e; rw [h, hp]; rfl
    · rw [if_pos (exB_true (show k < n by omega) hp)]
      exact ih (by omega)
def b2i (b : Bool) : Int := if b = true then 1 else 0
theorem b2i_01 (b : Bool) : b2i b = 0 ∨ b2i b = 1 := by cases b <;> simp [b2i]
theorem b2i_r (b : Bool) : -2147483648 ≤ b2i b ∧ b2i b ≤ 2147483647 := by cases b <;> simp [b2i]
/-- the bit b of a -/
abbrev bt (a b : Int) : Int := a / 2 ^ b.toNat % 2
/-- minutes of judge j on day d -/
def mi (T : Tx) (S : Sx) (j d : Int) (n : Nat) : Int := sumN (fun k => if S.1 k = j ∧ S.2 k = d then le T k else 0) n
def farB (T : Tx) (S : Sx) (j t d : Int) (k : Nat) : Bool := decide (S.1 k = j ∧ tw T k ≠ t ∧ S.2 k - d < 1 + wy T (tw T k) t ∧ d - S.2 k < 1 + wy T (tw T k) t)
def foeB (T : Tx) (S : Sx) (j : Nat) (t d : Int) (k : Nat) : Bool := decide (S.2 k = d ∧ tw T k = t ∧ bt (qu T j) (S.1 k) ≠ 0)
/-- WHY NOT -/
def whyS (T : Tx) (S : Sx) (k j : Nat) (d : Int) : Int :=
  if S.1 k ≠ -1 then 7 else if d < fi T k then 3 else if bt (ss T j) (so T k) = 0 then 1 else if bt (ba T k) j ≠ 0 then 2
  else if exB (farB T S j (tw T k) d) (nK T) = true then 5 else if exB (foeB T S j (tw T k) d) (nK T) = true then 6
  else if da T j < mi T S j d (nK T) + le T k then 4 else 0
/-- no earlier case of the same judge and day -/
def fdB (S : Sx) (k : Nat) : Bool := !exB (fun o => decide (S.1 o = S.1 k ∧ S.2 o = S.2 k)) k
/-- LOAD of judge j -/
def ld (T : Tx) (S : Sx) (j : Nat) (n : Nat) : Int := sumN (fun k => if S.1 k = j then le T k + (if tw T k ≠ hm T j ∧ fdB S k = true then 60 else 0) else 0) n
theorem mi_b {T : Tx} (hT : TOk T) (S : Sx) (j d : Int) : 0 ≤ mi T S j d (nK T) ∧ mi T S j d (nK T) ≤ 3600 := by
  have h := sumN_b (f := fun k => if S.1 k = j ∧ S.2 k = d then le T k else 0) (B := 300) (nK T) (fun k hk => by
    have := (hT.2.2.2.2.1 k hk).2.2.2.1
    split <;> omega)
  have := hT.2.2.1
  unfold mi
  omega
theorem ld_b {T : Tx} (hT : TOk T) (S : Sx) (j : Nat) : 0 ≤ ld T S j (nK T) ∧ ld T S j (nK T) ≤ 4320 := by
  have h := sumN_b (f := fun k => if S.1 k = j then le T k + (if tw T k ≠ hm T j ∧ fdB S k = true then 60 else 0) else 0) (B := 360) (nK T) (fun k hk => by
    have := (hT.2.2.2.2.1 k hk).2.2.2.1
    split
    · split <;> omega
    · omega)
  have := hT.2.2.1
  unfold ld
  omega
theorem sh64 : ∀ a : Fin 64, ∀ b : Fin 6, J ((a : Nat) : Int) >>> (J ((b : Nat) : Int) &&& 31) = J (((a : Nat) : Int) / 2 ^ (b : Nat)) := by decide +kernel
theorem and64 : ∀ a : Fin 64, J ((a : Nat) : Int) &&& J 1 = J (((a : Nat) : Int) % 2) := by decide +kernel
theorem J_shr {a b : Int} (h : (0 ≤ a ∧ a < 64) ∧ (0 ≤ b ∧ b < 6)) : J a >>> (J b &&& 31) = J (a / 2 ^ b.toNat) := by
  have h1 := sh64 ⟨a.toNat, by omega⟩ ⟨b.toNat, by omega⟩
  have e1 : ((a.toNat : Nat) : Int) = a := by omega
  have e2 : ((b.toNat : Nat) : Int) = b := by omega
  simp only [e1, e2] at h1
  exact h1
theorem pow_ge (n : Nat) : (1 : Int) ≤ 2 ^ n := by
  have : (1 : Nat) ≤ 2 ^ n := Nat.one_le_two_pow
  have h2 : ((1 : Nat) : Int) ≤ ((2 ^ n : Nat) : Int) := by omega
  rw [Int.natCast_pow] at h2
  exact h2
theorem div_b {a : Int} (b : Int) (h : 0 ≤ a ∧ a < 64) : 0 ≤ a / 2 ^ b.toNat ∧ a / 2 ^ b.toNat < 64 := by
  have hp := pow_ge b.toNat
  refine ⟨Int.ediv_nonneg h.1 (by omega), ?_⟩
  have := Int.ediv_le_self (2 ^ b.toNat) h.1
  omega
theorem J_and1 {a : Int} (h : 0 ≤ a ∧ a < 64) : J a &&& J 1 = J (a % 2) := by
  have h1 := and64 ⟨a.toNat, by omega⟩
  have e1 : ((a.toNat : Nat) : Int) = a := by omega
  simp only [e1] at h1
  exact h1
theorem J_bt {a b : Int} (h : (0 ≤ a ∧ a < 64) ∧ (0 ≤ b ∧ b < 6)) : J (a / 2 ^ b.toNat) &&& J 1 = J (bt a b) := J_and1 (div_b b h.1)
theorem bt_01 (a b : Int) : bt a b = 0 ∨ bt a b = 1 := by unfold bt; omega
abbrev tAt (M : Mem) (c : Nat) : Nat → Nat → Int := fun j => match j with
  | 1 => gI M (c + 1)
  | 2 => gI M (c + 2)
  | 3 => gI M (c + 3)
  | 4 => gI M (c + 4)
  | 5 => gI M (c + 5)
  | 6 => gI M (c + 6)
  | 7 => gI M (c + 7)
  | 8 => gI M (c + 8)
  | 9 => gI M (c + 9)
  | 10 => gI M (c + 10)
  | _ => fun _ => 0
abbrev tOf (M : Mem) (c : Nat) : Tx := (((gI M c 0).toNat, (gI M c 1).toNat, (gI M c 2).toNat), tAt M c)
abbrev sOf (M : Mem) : Sx := (gI M 9, gI M 10)
/-- what a read of the class's calendar knows: cell c is the one told -/
def CI (M : Mem) (c : Nat) : Prop := (c = 32 ∨ c = 43) ∧ gR M 8 0 = c ∧ 0 ≤ gI M c 0 ∧ 0 ≤ gI M c 1 ∧ 0 ≤ gI M c 2 ∧ TOk (tOf M c) ∧ SOk (tOf M c) (sOf M)
theorem CI.n {M : Mem} {c : Nat} (h : CI M c) : gI M c 0 = (nT (tOf M c) : Int) ∧ gI M c 1 = (nJ (tOf M c) : Int) ∧ gI M c 2 = (nK (tOf M c) : Int) ∧ nT (tOf M c) ≤ 5 ∧ nJ (tOf M c) ≤ 6 ∧ nK (tOf M c) ≤ 12 := by
  obtain ⟨hc, hca, h0, h1, h2, hT, hS⟩ := h
  have a1 := hT.1
  have a2 := hT.2.1
  have a3 := hT.2.2.1
  refine ⟨?_, ?_, ?_, a1, a2, a3⟩
  · show gI M c 0 = ((gI M c 0).toNat : Int); omega
  · show gI M c 1 = ((gI M c 1).toNat : Int); omega
  · show gI M c 2 = ((gI M c 2).toNat : Int); omega
def setS (S : Sx) (k : Nat) (j d : Int) : Sx := (fun i => if i = k then j else S.1 i, fun i => if i = k then d else S.2 i)
def plM (M : Mem) (k : Nat) (j d : Int) : Mem := sI (sI M 9 k j) 10 k d
theorem plM_s (M : Mem) (k : Nat) (j d : Int) : sOf (plM M k j d) = setS (sOf M) k j d := by
  unfold sOf plM setS
  refine Prod.ext (funext fun i => ?_) (funext fun i => ?_)
  · show gI (sI (sI M 9 k j) 10 k d) 9 i = _
    rw [gI_sI, if_neg (by decide), gI_sI, if_pos rfl]
  · show gI (sI (sI M 9 k j) 10 k d) 10 i = _
    rw [gI_sI, if_pos rfl, gI_sI_ne (by decide)]
theorem plM_ne {M : Mem} {k : Nat} {j d : Int} {a : Nat} (h : a ≠ 9 ∧ a ≠ 10) : gI (plM M k j d) a = gI M a := by
  unfold plM
  rw [gI_sI_ne h.2, gI_sI_ne h.1]
theorem tOf_eq {M N : Mem} {c : Nat} (h : ∀ j, j ≤ 10 → gI N (c + j) = gI M (c + j)) : tOf N c = tOf M c := by
  have h0 := h 0 (by omega)
  simp only [Nat.add_zero] at h0
  have e : tAt N c = tAt M c := by
    funext j
    match j with
    | 0 => rfl
    | 1 => exact h 1 (by omega)
    | 2 => exact h 2 (by omega)
    | 3 => exact h 3 (by omega)
    | 4 => exact h 4 (by omega)
    | 5 => exact h 5 (by omega)
    | 6 => exact h 6 (by omega)
    | 7 => exact h 7 (by omega)
    | 8 => exact h 8 (by omega)
    | 9 => exact h 9 (by omega)
    | 10 => exact h 10 (by omega)
    | j + 11 => rfl
  unfold tOf
  rw [h0, e]
theorem CI.keep {M N : Mem} {c : Nat} (h : CI M c) (h1 : ∀ j, j ≤ 10 → gI N (c + j) = gI M (c + j)) (h2 : gR N 8 0 = gR M 8 0) (h3 : SOk (tOf M c) (sOf N)) : CI N c := by
  have h0 := h1 0 (by omega)
  simp only [Nat.add_zero] at h0
  obtain ⟨hc, hca, q0, q1, q2, hT, hS⟩ := h
  have e := tOf_eq h1
  exact ⟨hc, h2.trans hca, by rw [h0]; exact q0, by rw [h0]; exact q1, by rw [h0]; exact q2, by rw [e]; exact hT, by rw [e]; exact h3⟩
theorem CI.pl {M : Mem} {c k : Nat} {j d : Int} (h : CI M c) (h3 : SOk (tOf M c) (setS (sOf M) k j d)) : CI (plM M k j d) c :=
  h.keep (fun q hq => plM_ne (by rcases h.1 with rfl | rfl <;> omega)) rfl (by rw [plM_s]; exact h3)
theorem tOf_pl {M : Mem} {c k : Nat} {j d : Int} (hc : c = 32 ∨ c = 43) : tOf (plM M k j d) c = tOf M c := tOf_eq (fun q hq => plM_ne (by rcases hc with rfl | rfl <;> omega))
theorem SOk.set {T : Tx} {S : Sx} (h : SOk T S) {k : Nat} {j d : Int} (hk : (j = -1 ∧ d = -1) ∨ (k < nK T ∧ (0 ≤ j ∧ j < nJ T) ∧ (0 ≤ d ∧ d ≤ 60))) : SOk T (setS S k j d) := by
  intro i hi
  by_cases e : i = k
  · subst e
    simp only [setS, if_true]
    rcases hk with ⟨rfl, rfl⟩ | hk
    · exact Or.inl ⟨rfl, rfl⟩
    · exact Or.inr hk
  · simp only [setS, if_neg e]
    exact h i hi
