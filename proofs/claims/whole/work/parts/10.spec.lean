/-! 10: what is told (T), sittings (S), and what follows from them -/
abbrev Tx : Type := (Nat × Nat × Nat) × (Nat → Nat → Int)
abbrev Sx : Type := (Nat → Int) × (Nat → Int)
abbrev nT (T : Tx) : Nat := T.1.1
abbrev nJ (T : Tx) : Nat := T.1.2.1
abbrev nK (T : Tx) : Nat := T.1.2.2
abbrev wy (T : Tx) (a b : Int) : Int := T.2 1 (a * 5 + b).toNat
abbrev hm (T : Tx) (j : Nat) : Int := T.2 2 j
abbrev da (T : Tx) (j : Nat) : Int := T.2 3 j
abbrev ss (T : Tx) (j : Nat) : Int := T.2 4 j
abbrev qu (T : Tx) (j : Nat) : Int := T.2 5 j
abbrev tw (T : Tx) (k : Nat) : Int := T.2 6 k
abbrev so (T : Tx) (k : Nat) : Int := T.2 7 k
abbrev fi (T : Tx) (k : Nat) : Int := T.2 8 k
abbrev le (T : Tx) (k : Nat) : Int := T.2 9 k
abbrev ba (T : Tx) (k : Nat) : Int := T.2 10 k
/-- T is of the form that a text without fault tells -/
def TOk (T : Tx) : Prop := nT T ≤ 5 ∧ nJ T ≤ 6 ∧ nK T ≤ 12 ∧
  (∀ j, j < nJ T → (0 ≤ hm T j ∧ hm T j < nT T) ∧ (60 ≤ da T j ∧ da T j ≤ 600) ∧ (0 ≤ ss T j ∧ ss T j < 16) ∧ (0 ≤ qu T j ∧ qu T j < 64)) ∧
  (∀ k, k < nK T → (0 ≤ tw T k ∧ tw T k < nT T) ∧ (0 ≤ so T k ∧ so T k < 4) ∧ (0 ≤ fi T k ∧ fi T k ≤ 60) ∧ (10 ≤ le T k ∧ le T k ≤ 300) ∧ (0 ≤ ba T k ∧ ba T k < 64)) ∧
  (∀ a b : Int, 0 ≤ a → a < nT T → 0 ≤ b → b < nT T → 0 ≤ wy T a b ∧ wy T a b ≤ 1000)
/-- S: a case has a judge and a day, or neither -/
def SOk (T : Tx) (S : Sx) : Prop := ∀ k, k < 12 → (S.1 k = -1 ∧ S.2 k = -1) ∨ (k < nK T ∧ (0 ≤ S.1 k ∧ S.1 k < nJ T) ∧ (0 ≤ S.2 k ∧ S.2 k ≤ 60))
theorem SOk.b {T : Tx} {S : Sx} (h : SOk T S) (hT : TOk T) {k : Nat} (hk : k < 12) : (-1 ≤ S.1 k ∧ S.1 k < 6) ∧ (-1 ≤ S.2 k ∧ S.2 k ≤ 60) := by
  have := hT.2.1
  rcases h k hk with h | h <;> omega
def sumN (f : Nat → Int) : Nat → Int
  | 0 => 0
  | n + 1 => sumN f n + f n
def exN (p : Nat → Prop) (n : Nat) : Prop := ∃ k, k < n ∧ p k
/-- the bit b of a -/
abbrev bt (a b : Int) : Int := a / 2 ^ b.toNat % 2
/-- minutes of judge j on day d -/
def mi (T : Tx) (S : Sx) (j d : Int) (n : Nat) : Int := sumN (fun k => if S.1 k = j ∧ S.2 k = d then le T k else 0) n
def farP (T : Tx) (S : Sx) (j t d : Int) (k : Nat) : Prop := S.1 k = j ∧ tw T k ≠ t ∧ (S.2 k - d < 1 + wy T (tw T k) t ∧ d - S.2 k < 1 + wy T (tw T k) t)
def foeP (T : Tx) (S : Sx) (j : Nat) (t d : Int) (k : Nat) : Prop := S.2 k = d ∧ tw T k = t ∧ bt (qu T j) (S.1 k) ≠ 0
/-- WHY NOT, as a relation: what the answer w is -/
def whyP (T : Tx) (S : Sx) (k j : Nat) (d w : Int) : Prop :=
  (S.1 k ≠ -1 ∧ w = 7) ∨ (S.1 k = -1 ∧
  ((d < fi T k ∧ w = 3) ∨ (¬ d < fi T k ∧
  ((bt (ss T j) (so T k) = 0 ∧ w = 1) ∨ (bt (ss T j) (so T k) ≠ 0 ∧
  ((bt (ba T k) j ≠ 0 ∧ w = 2) ∨ (bt (ba T k) j = 0 ∧
  ((exN (farP T S j (tw T k) d) (nK T) ∧ w = 5) ∨ (¬ exN (farP T S j (tw T k) d) (nK T) ∧
  ((exN (foeP T S j (tw T k) d) (nK T) ∧ w = 6) ∨ (¬ exN (foeP T S j (tw T k) d) (nK T) ∧
  ((da T j < mi T S j d (nK T) + le T k ∧ w = 4) ∨ (¬ da T j < mi T S j d (nK T) + le T k ∧ w = 0)))))))))))))
theorem sh64 : ∀ a : Fin 64, ∀ b : Fin 6, J ((a : Nat) : Int) >>> (J ((b : Nat) : Int) &&& 31) = J (((a : Nat) : Int) / 2 ^ (b : Nat)) := by decide +kernel
theorem and64 : ∀ a : Fin 64, J ((a : Nat) : Int) &&& J 1 = J (((a : Nat) : Int) % 2) := by decide +kernel
theorem J_shr {a b : Int} (h : (0 ≤ a ∧ a < 64) ∧ (0 ≤ b ∧ b < 6)) : J a >>> (J b &&& 31) = J (a / 2 ^ b.toNat) := by
  have h1 := sh64 ⟨a.toNat, by omega⟩ ⟨b.toNat, by omega⟩
  have e1 : ((a.toNat : Nat) : Int) = a := by omega
  have e2 : ((b.toNat : Nat) : Int) = b := by omega
  simp only [e1, e2] at h1
  exact h1
theorem pow_ge (n : Nat) : (1 : Int) ≤ 2 ^ n := by
  have : (1 : Nat) ≤ 2 ^ n := Nat.one_le_two_pow
  have h2 : ((1 : Nat) : Int) ≤ ((2 ^ n : Nat) : Int) := by omega
  rw [Int.natCast_pow] at h2
  exact h2
theorem div_b {a : Int} (b : Int) (h : 0 ≤ a ∧ a < 64) : 0 ≤ a / 2 ^ b.toNat ∧ a / 2 ^ b.toNat < 64 := by
  have hp := pow_ge b.toNat
  refine ⟨Int.ediv_nonneg h.1 (by omega), ?_⟩
  have := Int.ediv_le_self (2 ^ b.toNat) h.1
  omega
theorem J_and1 {a : Int} (h : 0 ≤ a ∧ a < 64) : J a &&& J 1 = J (a % 2) := by
  have h1 := and64 ⟨a.toNat, by omega⟩
  have e1 : ((a.toNat : Nat) : Int) = a := by omega
  simp only [e1] at h1
  exact h1
theorem J_bt {a b : Int} (h : (0 ≤ a ∧ a < 64) ∧ (0 ≤ b ∧ b < 6)) : J (a / 2 ^ b.toNat) &&& J 1 = J (bt a b) := J_and1 (div_b b h.1)
theorem bt_01 (a b : Int) : bt a b = 0 ∨ bt a b = 1 := by unfold bt; omega
abbrev tOf (M : Mem) (c : Nat) : Tx := (((gI M c 0).toNat, (gI M c 1).toNat, (gI M c 2).toNat), fun j i => gI M (c + j) i)
abbrev sOf (M : Mem) : Sx := (gI M 9, gI M 10)
/-- what a read of the class's calendar knows: cell c is the one told -/
def CI (M : Mem) (c : Nat) : Prop := (c = 32 ∨ c = 43) ∧ gR M 8 0 = c ∧ 0 ≤ gI M c 0 ∧ 0 ≤ gI M c 1 ∧ 0 ≤ gI M c 2 ∧ TOk (tOf M c) ∧ SOk (tOf M c) (sOf M)
