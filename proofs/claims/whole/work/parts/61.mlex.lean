/-! 61: the reference: tokens -/
def enc5 (b : Nat → Int) (q : Nat) : Nat → Int
  | 0 => 0
  | m + 1 => enc5 b q m * 32 + (b (q + m) - 96)
/-- a byte as the reference sees it -/
def sv (b : Nat → Int) (n k : Nat) : Int := if k < n then b k % 256 else -1
theorem and255 : ∀ x : Fin 256, J (((x : Nat) : Int) - 128) &&& J 255 = J ((((x : Nat) : Int) - 128) % 256) := by decide +kernel
theorem J_and255 {x : Int} (h : -128 ≤ x ∧ x < 128) : J x &&& J 255 = J (x % 256) := by
  have h1 := and255 ⟨(x + 128).toNat, by omega⟩
  have e : (((x + 128).toNat : Nat) : Int) - 128 = x := by omega
  simp only [e] at h1
  exact h1
/-- the reference stands at the token that is met from p on -/
def AtM (M : Mem) (b : Nat → Int) (n p : Nat) : Prop :=
  (∀ i, i < n → gI M 55 i = b i) ∧ gI M 54 3 = (n : Int) ∧ gI M 54 4 = (pl b n p : Int) ∧ (kd b n p ≠ 4 → gI M 54 5 = (nx b n p : Int)) ∧ gI M 54 6 = (kd b n p : Int) ∧
  (kd b n p = 1 → gL M 54 8 = JL (enc5 b (pl b n p) (lE b n p - pl b n p))) ∧ (kd b n p = 2 → gI M 54 7 = vlu b n p)
def AgM (M N : Mem) : Prop := (∀ q, q ≠ 54 → gI N q = gI M q) ∧ (∀ i, i ≠ 4 → i ≠ 5 → i ≠ 6 → i ≠ 7 → gI N 54 i = gI M 54 i) ∧ (∀ q, q ≠ 54 → gL N q = gL M q) ∧ (∀ i, i ≠ 8 → gL N 54 i = gL M 54 i) ∧ gR N = gR M
theorem AgM.rfl9 (M : Mem) : AgM M M := ⟨fun _ _ => rfl, fun _ _ _ _ _ => rfl, fun _ _ => rfl, fun _ _ => rfl, rfl⟩
theorem g54 (N : Mem) (f i : Nat) (v : Int) : gI (sI N 54 f v) 54 i = if i = f then v else gI N 54 i := by rw [gI_sI, if_pos rfl]
theorem AgM.sI {M N : Mem} (h : AgM M N) {f : Nat} (v : Int) (hf : f = 4 ∨ f = 5 ∨ f = 6 ∨ f = 7) : AgM M (sI N 54 f v) := ⟨fun q hq => by rw [gI_sI_ne hq]; exact h.1 q hq, fun i i1 i2 i3 i4 => by rw [g54, if_neg (by omega)]; exact h.2.1 i i1 i2 i3 i4, h.2.2.1, h.2.2.2.1, h.2.2.2.2⟩
theorem AgM.sL {M N : Mem} (h : AgM M N) (v : Int64) : AgM M (sL N 54 8 v) := ⟨h.1, h.2.1, fun q hq => by rw [gL_sL_ne hq]; exact h.2.2.1 q hq, fun i hi => by rw [gL_sL, if_pos rfl, if_neg hi]; exact h.2.2.2.1 i hi, h.2.2.2.2⟩
theorem enc5_b {b : Nat → Int} {q : Nat} : ∀ m, (∀ i, i < m → 97 ≤ b (q + i) ∧ b (q + i) ≤ 122) → 0 ≤ enc5 b q m ∧ enc5 b q m < 32 ^ m := by
  intro m
  induction m with
  | zero => intro _; exact ⟨Int.le_refl 0, by show (0 : Int) < 32 ^ 0; decide⟩
  | succ m ih =>
    intro h
    have h1 := ih (fun i hi => h i (by omega))
    have h2 := h m (by omega)
    have e : (32 : Int) ^ (m + 1) = 32 ^ m * 32 := rfl
    rw [e]
    show 0 ≤ enc5 b q m * 32 + (b (q + m) - 96) ∧ enc5 b q m * 32 + (b (q + m) - 96) < 32 ^ m * 32
    omega
theorem enc5_s {b : Nat → Int} {q m : Nat} (hm : m ≤ 7) (h : ∀ i, i < m → 97 ≤ b (q + i) ∧ b (q + i) ≤ 122) : 0 ≤ enc5 b q m ∧ enc5 b q m < 34359738368 := by
  have h1 := enc5_b m h
  have h2 : (32 : Int) ^ m ≤ 34359738368 := by
    rcases (show m = 0 ∨ m = 1 ∨ m = 2 ∨ m = 3 ∨ m = 4 ∨ m = 5 ∨ m = 6 ∨ m = 7 by omega) with e | e | e | e | e | e | e | e <;> subst e <;> decide
  omega
section MLex
variable {G : Gt} {d : Nat} {M : Mem} {b : Nat → Int} {n : Nat}
theorem m_see (hn : n ≤ 800) (hb : ∀ i, i < n → gI M 55 i = b i) (hr : ∀ i, i < n → -128 ≤ b i ∧ b i < 128) (hs : gI M 54 3 = (n : Int)) {k : Nat} (hk : k ≤ 1000) : V G d mX12_see 0 [some (.ref 54), some (.int (J (k : Int)))] [] M (Ret (some (.int (J (sv b n k)))) M) := by
  unfold sv
  refine v_iload_n (pc := 0) 0 rfl rfl ?_
  refine v_aload_n (pc := 1) 1 rfl rfl ?_
  refine v_getI (pc := 2) 2 rfl fl_X12_108 rfl ?_
  refine v_ic_ge (pc := 5) 3 21 rfl (by decide) (by omega) (fun e1 => ?_) (fun e1 => ?_)
  · rw [if_neg (by omega)]
    refine v_iconst (pc := 21) 11 rfl ?_
    refine v_iret (pc := 22) 12 rfl rfl ⟨rfl, rfl⟩
  · rw [if_pos (by omega)]
    have e := hb k (by omega)
    have r := hr k (by omega)
    refine v_aload_n (pc := 8) 4 rfl rfl ?_
    refine v_getC (pc := 9) 5 rfl fl_X12_7 rfl 55 rfl ?_
    refine v_iload_n (pc := 12) 6 rfl rfl ?_
    refine v_baldN (pc := 13) 7 rfl rfl (by omega) ?_
    rw [e]
    refine v_sipush (pc := 14) 8 rfl (by decide) ?_
    refine v_iand (pc := 17) 9 rfl (b k % 256) (J_and255 r) ?_
    refine v_goto (pc := 18) 10 22 rfl (by decide) ?_
    refine v_iret (pc := 22) 12 rfl rfl ⟨rfl, rfl⟩
set_option maxHeartbeats 4000000 in
theorem m_steps (hn : n ≤ 800) (hb : ∀ i, i < n → gI M 55 i = b i) (hr : ∀ i, i < n → -128 ≤ b i ∧ b i < 128) (hs : gI M 54 3 = (n : Int)) {p : Nat} (hp : p ≤ n) (h2 : gI M 54 5 = (p : Int)) : V G (d + 1) mX12_steps 0 [some (.ref 54), none] [] M (fun r N => r = none ∧ AgM M N ∧ AtM N b n p) := by
  generalize hQ : (fun (r : Option Value) (N : Mem) => r = none ∧ AgM M N ∧ AtM N b n p) = Q
  have hpl := pl_le b hp
  have see9 : ∀ N, AgM M N → ∀ k : Nat, k ≤ 1000 → V G d mX12_see 0 [some (.ref 54), some (.int (J (k : Int)))] [] N (Ret (some (.int (J (sv b n k)))) N) := fun N hA k hk => m_see hn (fun i hi => by rw [hA.1 55 (by decide)]; exact hb i hi) hr (by rw [hA.2.1 3 (by decide) (by decide) (by decide) (by decide)]; exact hs) hk
  have svb : ∀ k, -1 ≤ sv b n k ∧ sv b n k < 256 := fun k => by unfold sv; split <;> omega
  have atm : ∀ N, AgM M N → gI N 54 4 = (pl b n p : Int) → (kd b n p ≠ 4 → gI N 54 5 = (nx b n p : Int)) → gI N 54 6 = (kd b n p : Int) → (kd b n p = 1 → gL N 54 8 = JL (enc5 b (pl b n p) (lE b n p - pl b n p))) → (kd b n p = 2 → gI N 54 7 = vlu b n p) → Q none N := fun N hA a1 a2 a3 a4 a5 => by
    rw [← hQ]
    exact ⟨rfl, hA, fun i hi => by rw [hA.1 55 (by decide)]; exact hb i hi, by rw [hA.2.1 3 (by decide) (by decide) (by decide) (by decide)]; exact hs, a1, a2, a3, a4, a5⟩
  -- the token's end
  have fin : ∀ N, AgM M N → gI N 54 4 = (pl b n p : Int) → V G (d + 1) mX12_steps 47 [some (.ref 54), none] [] N Q := by
    intro N hA h4
    have c1 := see9 N hA (pl b n p) (by omega)
    have sb := svb (pl b n p)
    refine v_aload_n (pc := 47) 23 rfl rfl ?_
    refine v_aload_n (pc := 48) 24 rfl rfl ?_
    refine v_getI (pc := 49) 25 rfl fl_X12_114 rfl ?_
    rw [h4]
    refine v_cV1i (pc := 52) 26 rfl cv_X12_117 rfl (Nat.le_of_ble_eq_true rfl) (Nat.le_of_ble_eq_true rfl) (c1) ?_
    refine v_istore_n (pc := 55) 27 rfl ⟨Nat.le_of_ble_eq_true rfl, rfl⟩ ?_
    refine v_aload_n (pc := 56) 28 rfl rfl ?_
    refine v_aload_n (pc := 57) 29 rfl rfl ?_
    refine v_getI (pc := 58) 30 rfl fl_X12_114 rfl ?_
    rw [h4]
    refine v_iconst (pc := 61) 31 rfl ?_
    refine v_iadd (pc := 62) 32 rfl ?_
    refine v_putI (pc := 63) 33 rfl fl_X12_111 rfl ?_
    refine v_aload_n (pc := 66) 34 rfl rfl ?_
    refine v_iconst (pc := 67) 35 rfl ?_
    refine v_putI (pc := 68) 36 rfl fl_X12_121 rfl ?_
    refine v_aload_n (pc := 71) 37 rfl rfl ?_
    refine v_iconst (pc := 72) 38 rfl ?_
    refine v_putI (pc := 73) 39 rfl fl_X12_124 rfl ?_
    refine v_aload_n (pc := 76) 40 rfl rfl ?_
    refine v_lconst (pc := 77) 41 rfl ?_
    refine v_putL (pc := 78) 42 rfl fl_X12_127 rfl ?_
    suffices key : ∀ N1, AgM M N1 → gI N1 54 4 = (pl b n p : Int) → gI N1 54 5 = (pl b n p : Int) + 1 → gI N1 54 6 = 4 → gI N1 54 7 = 0 → gL N1 54 8 = JL 0 → V G (d + 1) mX12_steps 81 [some (.ref 54), some (.int (J (sv b n (pl b n p))))] [] N1 Q from
      key _ ((((hA.sI (f := 5) ((pl b n p : Int) + 1) (by decide)).sI (f := 6) 4 (by decide)).sI (f := 7) 0 (by decide)).sL _) (by rw [gI_sL, g54, if_neg (by decide), g54, if_neg (by decide), g54, if_neg (by decide)]; exact h4) (by rw [gI_sL, g54, if_neg (by decide), g54, if_neg (by decide), g54, if_pos rfl]) (by rw [gI_sL, g54, if_neg (by decide), g54, if_pos rfl]) (by rw [gI_sL, g54, if_pos rfl]) (by rw [gL_sL, if_pos rfl, if_pos rfl]; rfl)
    intro N1 hA1 f4 f5 f6 f7 f8
    by_cases hend : n ≤ pl b n p
    · have ev : sv b n (pl b n p) = -1 := if_neg (by omega)
      have k0 : kd b n p = 0 := if_pos hend
      have n0 : nx b n p = pl b n p := if_pos hend
      rw [ev]
      refine v_iload_n (pc := 81) 43 rfl rfl ?_
      refine v_iconst (pc := 82) 44 rfl ?_
      refine v_ic_neF (pc := 83) 45 102 rfl (by decide) (by omega) (by omega) ?_
      refine v_aload_n (pc := 86) 46 rfl rfl ?_
      refine v_aload_n (pc := 87) 47 rfl rfl ?_
      refine v_getI (pc := 88) 48 rfl fl_X12_114 rfl ?_
      rw [f4]
      refine v_putI (pc := 91) 49 rfl fl_X12_111 rfl ?_
      refine v_aload_n (pc := 94) 50 rfl rfl ?_
      refine v_iconst (pc := 95) 51 rfl ?_
      refine v_putI (pc := 96) 52 rfl fl_X12_121 rfl ?_
      refine v_goto (pc := 99) 53 364 rfl (by decide) ?_
      refine v_ret (pc := 364) 185 rfl rfl (atm _ ((hA1.sI _ (by decide)).sI _ (by decide)) (by rw [g54, if_neg (by decide), g54, if_neg (by decide)]; exact f4) (fun _ => by rw [g54, if_neg (by decide), g54, if_pos rfl, n0]) (by rw [g54, if_pos rfl, k0]; rfl) (fun h => by omega) (fun h => by omega))
    · have hlt : pl b n p < n := by omega
      have rb := hr _ hlt
      have ev : sv b n (pl b n p) = b (pl b n p) % 256 := if_pos hlt
      have kE : kd b n p = if isL (b (pl b n p)) = true then (if lE b n p - pl b n p ≤ 7 then 1 else 4) else if isD (b (pl b n p)) = true then (if dE b n p - pl b n p ≤ 3 then 2 else 4) else if b (pl b n p) = 59 then 3 else 4 := if_neg hend
      have nE : nx b n p = if isL (b (pl b n p)) = true then lE b n p else if isD (b (pl b n p)) = true then dE b n p else if b (pl b n p) = 59 then pl b n p + 1 else pl b n p := if_neg hend
      refine v_iload_n (pc := 81) 43 rfl rfl ?_
      refine v_iconst (pc := 82) 44 rfl ?_
      refine v_ic_neT (pc := 83) 45 102 rfl (by decide) (by omega) (by omega) ?_
      refine v_iload_n (pc := 102) 54 rfl rfl ?_
      refine v_bipush (pc := 103) 55 rfl (by decide) ?_
      refine v_ic_ne (pc := 105) 56 116 rfl (by decide) (by omega) (fun c1 => ?_) (fun c1 => ?_)
      · refine v_iload_n (pc := 116) 61 rfl rfl ?_
        refine v_i2l (pc := 117) 62 rfl (by omega) ?_
        refine v_ldc2J (pc := 118) 63 rfl kcLong_X12_131 (97) (by decide) ?_
        refine v_ldc2J (pc := 121) 64 rfl kcLong_X12_133 (122) (by decide) ?_
        refine v_cS3i (pc := 124) 65 rfl cs_X12_135 (Nat.le_of_ble_eq_true rfl) (Nat.le_of_ble_eq_true rfl) (m_within (by omega) (by decide) (by decide)) ?_
        refine v_if_eq (pc := 127) 66 243 rfl (by decide) (by omega) (fun c2 => ?_) (fun c2 => ?_)
        · have nL : ¬ isL (b (pl b n p)) = true := fun z => by have := of_decide_eq_true z; rw [if_pos (by omega)] at c2; omega
          rw [if_neg nL] at kE nE
          refine v_iload_n (pc := 243) 124 rfl rfl ?_
          refine v_i2l (pc := 244) 125 rfl (by omega) ?_
          refine v_ldc2J (pc := 245) 126 rfl kcLong_X12_141 (48) (by decide) ?_
          refine v_ldc2J (pc := 248) 127 rfl kcLong_X12_143 (57) (by decide) ?_
          refine v_cS3i (pc := 251) 128 rfl cs_X12_135 (Nat.le_of_ble_eq_true rfl) (Nat.le_of_ble_eq_true rfl) (m_within (by omega) (by decide) (by decide)) ?_
          refine v_if_eq (pc := 254) 129 364 rfl (by decide) (by omega) (fun c3 => ?_) (fun c3 => ?_)
          · have nD : ¬ isD (b (pl b n p)) = true := fun z => by have := of_decide_eq_true z; rw [if_pos (by omega)] at c3; omega
            rw [if_neg nD, if_neg (by omega)] at kE nE
            refine v_ret (pc := 364) 185 rfl rfl (atm _ hA1 f4 (fun h => absurd kE h) (by rw [f6, kE]; rfl) (fun h => by omega) (fun h => by omega))
          · have yD : isD (b (pl b n p)) = true := decide_eq_true (by by_cases q : 48 ≤ b (pl b n p) % 256 ∧ b (pl b n p) % 256 ≤ 57; omega; rw [ev, if_neg q] at c3; exact absurd rfl c3)
            rw [if_pos yD] at kE nE
            have hdE := dE_le b hp
            have hall := (rn_ge isD b n _ (pl b n p) rfl).2.2.1
            have b3 : dE b n p - pl b n p ≤ 3 → 0 ≤ vlu b n p ∧ vlu b n p ≤ 999 := fun h => valD_b (fun i hi => by have := of_decide_eq_true (hall (pl b n p + i) (by omega) (by unfold dE at hi; omega)).2; omega) h
            refine v_aload_n (pc := 257) 130 rfl rfl ?_
            refine v_aload_n (pc := 258) 131 rfl rfl ?_
            refine v_getI (pc := 259) 132 rfl fl_X12_114 rfl ?_
            rw [f4]
            refine v_putI (pc := 262) 133 rfl fl_X12_111 rfl ?_
            have loop : ∀ m q, n - q = m → q ≤ n → pl b n p ≤ q → rn isD b n q = dE b n p → ∀ N, AgM M N → gI N 54 4 = (pl b n p : Int) → gI N 54 5 = (q : Int) → (q - pl b n p ≤ 3 → gI N 54 7 = valD b (pl b n p) (q - pl b n p)) → (0 ≤ gI N 54 7 ∧ gI N 54 7 ≤ 999) → V G (d + 1) mX12_steps 265 [some (.ref 54), some (.int (J (sv b n (pl b n p))))] [] N Q := by
              intro m
              induction m with
              | zero =>
                intro q hq hqn hpq hrn N hA h4 h5 h7 h79
                rw [rn_stop (by omega)] at hrn
                have c1 := see9 N hA q (by omega)
                have es : sv b n q = -1 := if_neg (by omega)
                refine v_aload_n (pc := 265) 134 rfl rfl ?_
                refine v_aload_n (pc := 266) 135 rfl rfl ?_
                refine v_getI (pc := 267) 136 rfl fl_X12_111 rfl ?_
                rw [h5]
                refine v_cV1i (pc := 270) 137 rfl cv_X12_117 rfl (Nat.le_of_ble_eq_true rfl) (Nat.le_of_ble_eq_true rfl) (c1) ?_
                refine v_i2l (pc := 273) 138 rfl (by omega) ?_
                refine v_ldc2J (pc := 274) 139 rfl kcLong_X12_141 (48) (by decide) ?_
                refine v_ldc2J (pc := 277) 140 rfl kcLong_X12_143 (57) (by decide) ?_
                refine v_cS3i (pc := 280) 141 rfl cs_X12_135 (Nat.le_of_ble_eq_true rfl) (Nat.le_of_ble_eq_true rfl) (m_within (by have := svb q; omega) (by decide) (by decide)) ?_
                refine v_if_eqT (pc := 283) 142 342 rfl (by decide) (by omega) (by rw [if_neg (by omega)]) ?_
                refine v_aload_n (pc := 342) 173 rfl rfl ?_
                refine v_aload_n (pc := 343) 174 rfl rfl ?_
                refine v_getI (pc := 344) 175 rfl fl_X12_111 rfl ?_
                refine v_aload_n (pc := 347) 176 rfl rfl ?_
                refine v_getI (pc := 348) 177 rfl fl_X12_114 rfl ?_
                refine v_isub (pc := 351) 178 rfl ?_
                refine v_iconst (pc := 352) 179 rfl ?_
                refine v_ic_ge (pc := 353) 180 360 rfl (by decide) (by omega) (fun g => ?_) (fun g => ?_)
                · rw [if_neg (by omega)] at kE
                  refine v_iconst (pc := 360) 183 rfl ?_
                  refine v_putI (pc := 361) 184 rfl fl_X12_121 rfl ?_
                  refine v_ret (pc := 364) 185 rfl rfl (atm _ (hA.sI _ (by decide)) (by rw [g54, if_neg (by decide)]; exact h4) (fun h => absurd kE h) (by rw [g54, if_pos rfl, kE]; rfl) (fun h => by omega) (fun h => by omega))
                · rw [if_pos (by omega)] at kE
                  refine v_iconst (pc := 356) 181 rfl ?_
                  refine v_goto (pc := 357) 182 361 rfl (by decide) ?_
                  refine v_putI (pc := 361) 184 rfl fl_X12_121 rfl ?_
                  refine v_ret (pc := 364) 185 rfl rfl (atm _ (hA.sI _ (by decide)) (by rw [g54, if_neg (by decide)]; exact h4) (fun _ => by rw [g54, if_neg (by decide), nE, ← hrn]; exact h5) (by rw [g54, if_pos rfl, kE]; rfl) (fun h => by omega) (fun h => by rw [g54, if_neg (by decide), h7 (by omega), hrn]; rfl))
              | succ m ih =>
                intro q hq hqn hpq hrn N hA h4 h5 h7 h79
                have hqn2 : q < n := by omega
                have c1 := see9 N hA q (by omega)
                have es : sv b n q = b q % 256 := if_pos hqn2
                have rq := hr q hqn2
                refine v_aload_n (pc := 265) 134 rfl rfl ?_
                refine v_aload_n (pc := 266) 135 rfl rfl ?_
                refine v_getI (pc := 267) 136 rfl fl_X12_111 rfl ?_
                rw [h5]
                refine v_cV1i (pc := 270) 137 rfl cv_X12_117 rfl (Nat.le_of_ble_eq_true rfl) (Nat.le_of_ble_eq_true rfl) (c1) ?_
                refine v_i2l (pc := 273) 138 rfl (by omega) ?_
                refine v_ldc2J (pc := 274) 139 rfl kcLong_X12_141 (48) (by decide) ?_
                refine v_ldc2J (pc := 277) 140 rfl kcLong_X12_143 (57) (by decide) ?_
                refine v_cS3i (pc := 280) 141 rfl cs_X12_135 (Nat.le_of_ble_eq_true rfl) (Nat.le_of_ble_eq_true rfl) (m_within (by have := svb q; omega) (by decide) (by decide)) ?_
                refine v_if_eq (pc := 283) 142 342 rfl (by decide) (by omega) (fun c4 => ?_) (fun c4 => ?_)
                · have nD : ¬ (48 ≤ b q ∧ b q ≤ 57) := fun z => by rw [if_pos (by omega)] at c4; omega
                  rw [rn_stop (fun h => nD (of_decide_eq_true h.2))] at hrn
                  refine v_aload_n (pc := 342) 173 rfl rfl ?_
                  refine v_aload_n (pc := 343) 174 rfl rfl ?_
                  refine v_getI (pc := 344) 175 rfl fl_X12_111 rfl ?_
                  refine v_aload_n (pc := 347) 176 rfl rfl ?_
                  refine v_getI (pc := 348) 177 rfl fl_X12_114 rfl ?_
                  refine v_isub (pc := 351) 178 rfl ?_
                  refine v_iconst (pc := 352) 179 rfl ?_
                  refine v_ic_ge (pc := 353) 180 360 rfl (by decide) (by omega) (fun g => ?_) (fun g => ?_)
                  · rw [if_neg (by omega)] at kE
                    refine v_iconst (pc := 360) 183 rfl ?_
                    refine v_putI (pc := 361) 184 rfl fl_X12_121 rfl ?_
                    refine v_ret (pc := 364) 185 rfl rfl (atm _ (hA.sI _ (by decide)) (by rw [g54, if_neg (by decide)]; exact h4) (fun h => absurd kE h) (by rw [g54, if_pos rfl, kE]; rfl) (fun h => by omega) (fun h => by omega))
                  · rw [if_pos (by omega)] at kE
                    refine v_iconst (pc := 356) 181 rfl ?_
                    refine v_goto (pc := 357) 182 361 rfl (by decide) ?_
                    refine v_putI (pc := 361) 184 rfl fl_X12_121 rfl ?_
                    refine v_ret (pc := 364) 185 rfl rfl (atm _ (hA.sI _ (by decide)) (by rw [g54, if_neg (by decide)]; exact h4) (fun _ => by rw [g54, if_neg (by decide), nE, ← hrn]; exact h5) (by rw [g54, if_pos rfl, kE]; rfl) (fun h => by omega) (fun h => by rw [g54, if_neg (by decide), h7 (by omega), hrn]; rfl))
                · have yD : 48 ≤ b q ∧ b q ≤ 57 := by by_cases z : 48 ≤ b q % 256 ∧ b q % 256 ≤ 57; omega; rw [es, if_neg z] at c4; exact absurd rfl c4
                  rw [rn_step ⟨hqn2, decide_eq_true yD⟩] at hrn
                  have hend9 : ∀ N2 v, N2 = sI (sI N 54 7 v) 54 5 ((q : Int) + 1) → (q + 1 - pl b n p ≤ 3 → v = valD b (pl b n p) (q + 1 - pl b n p)) → (0 ≤ v ∧ v ≤ 999) → V G (d + 1) mX12_steps 265 [some (.ref 54), some (.int (J (sv b n (pl b n p))))] [] N2 Q := by
                    intro N2 v e9 hv hv9
                    subst e9
                    exact ih (q + 1) (by omega) (by omega) (by omega) hrn _ ((hA.sI _ (by decide)).sI _ (by decide)) (by rw [g54, if_neg (by decide), g54, if_neg (by decide)]; exact h4) (by rw [g54, if_pos rfl]; omega) (fun h => by rw [g54, if_neg (by decide), g54, if_pos rfl]; exact hv h) (by rw [g54, if_neg (by decide), g54, if_pos rfl]; exact hv9)
                  refine v_aload_n (pc := 286) 143 rfl rfl ?_
                  refine v_aload_n (pc := 287) 144 rfl rfl ?_
                  refine v_getI (pc := 288) 145 rfl fl_X12_111 rfl ?_
                  refine v_aload_n (pc := 291) 146 rfl rfl ?_
                  refine v_getI (pc := 292) 147 rfl fl_X12_114 rfl ?_
                  refine v_isub (pc := 295) 148 rfl ?_
                  refine v_iconst (pc := 296) 149 rfl ?_
                  refine v_ic_ge (pc := 297) 150 322 rfl (by decide) (by omega) (fun c5 => ?_) (fun c5 => ?_)
                  · refine v_aload_n (pc := 322) 163 rfl rfl ?_
                    refine v_getI (pc := 323) 164 rfl fl_X12_124 rfl ?_
                    refine v_putI (pc := 326) 165 rfl fl_X12_124 rfl ?_
                    refine v_aload_n (pc := 329) 166 rfl rfl ?_
                    refine v_dup (pc := 330) 167 rfl rfl ?_
                    refine v_getI (pc := 331) 168 rfl fl_X12_111 rfl ?_
                    rw [show gI (sI N 54 7 (gI N 54 7)) 54 5 = (q : Int) by rw [g54, if_neg (by decide)]; exact h5]
                    refine v_iconst (pc := 334) 169 rfl ?_
                    refine v_iadd (pc := 335) 170 rfl ?_
                    refine v_putI (pc := 336) 171 rfl fl_X12_111 rfl ?_
                    refine v_goto (pc := 339) 172 265 rfl (by decide) ?_
                    exact hend9 _ _ rfl (fun h => by omega) h79
                  · have e7 := h7 (by omega)
                    have vb := valD_b (b := b) (q := pl b n p) (m := q - pl b n p) (fun i hi => by
                      have := of_decide_eq_true (hall (pl b n p + i) (by omega) (by
                        have := (rn_ge isD b n _ (q + 1) rfl).1
                        unfold dE at hrn; omega)).2
                      omega) (by omega)
                    have vb2 := valD_b (b := b) (q := pl b n p) (m := q + 1 - pl b n p) (fun i hi => by
                      have := of_decide_eq_true (hall (pl b n p + i) (by omega) (by
                        have := (rn_ge isD b n _ (q + 1) rfl).1
                        unfold dE at hrn; omega)).2
                      omega) (by omega)
                    have ee : valD b (pl b n p) (q + 1 - pl b n p) = valD b (pl b n p) (q - pl b n p) * 10 + (b q - 48) := by
                      rw [show q + 1 - pl b n p = (q - pl b n p) + 1 by omega]
                      show valD b (pl b n p) (q - pl b n p) * 10 + (b (pl b n p + (q - pl b n p)) - 48) = _
                      rw [show pl b n p + (q - pl b n p) = q by omega]
                    refine v_bipush (pc := 300) 151 rfl (by decide) ?_
                    refine v_aload_n (pc := 302) 152 rfl rfl ?_
                    refine v_getI (pc := 303) 153 rfl fl_X12_124 rfl ?_
                    refine v_imul (pc := 306) 154 rfl ?_
                    refine v_aload_n (pc := 307) 155 rfl rfl ?_
                    refine v_aload_n (pc := 308) 156 rfl rfl ?_
                    refine v_getI (pc := 309) 157 rfl fl_X12_111 rfl ?_
                    rw [h5]
                    refine v_cV1i (pc := 312) 158 rfl cv_X12_117 rfl (Nat.le_of_ble_eq_true rfl) (Nat.le_of_ble_eq_true rfl) (c1) ?_
                    refine v_iadd (pc := 315) 159 rfl ?_
                    refine v_bipush (pc := 316) 160 rfl (by decide) ?_
                    refine v_isub (pc := 318) 161 rfl ?_
                    refine v_goto (pc := 319) 162 326 rfl (by decide) ?_
                    refine v_putI (pc := 326) 165 rfl fl_X12_124 rfl ?_
                    refine v_aload_n (pc := 329) 166 rfl rfl ?_
                    refine v_dup (pc := 330) 167 rfl rfl ?_
                    refine v_getI (pc := 331) 168 rfl fl_X12_111 rfl ?_
                    rw [show ∀ z, gI (sI N 54 7 z) 54 5 = (q : Int) from fun z => by rw [g54, if_neg (by decide)]; exact h5]
                    refine v_iconst (pc := 334) 169 rfl ?_
                    refine v_iadd (pc := 335) 170 rfl ?_
                    refine v_putI (pc := 336) 171 rfl fl_X12_111 rfl ?_
                    refine v_goto (pc := 339) 172 265 rfl (by decide) ?_
                    exact hend9 _ _ rfl (fun h => by rw [ee]; omega) (by rw [ee] at vb2; omega)
            have := loop _ (pl b n p) rfl (by omega) (Nat.le_refl _) rfl _ (hA1.sI (f := 5) (pl b n p : Int) (by decide)) (by rw [g54, if_neg (by decide)]; exact f4) (by rw [g54, if_pos rfl]) (fun _ => by rw [g54, if_neg (by decide), f7, Nat.sub_self]; rfl) (by rw [g54, if_neg (by decide), f7]; decide)
            exact this
        · have yL : isL (b (pl b n p)) = true := decide_eq_true (by by_cases q : 97 ≤ b (pl b n p) % 256 ∧ b (pl b n p) % 256 ≤ 122; omega; rw [ev, if_neg q] at c2; exact absurd rfl c2)
          rw [if_pos yL] at kE nE
          have hlE := lE_le b hp
          have hall := (rn_ge isL b n _ (pl b n p) rfl).2.2.1
          refine v_aload_n (pc := 130) 67 rfl rfl ?_
          refine v_aload_n (pc := 131) 68 rfl rfl ?_
          refine v_getI (pc := 132) 69 rfl fl_X12_114 rfl ?_
          rw [f4]
          refine v_putI (pc := 135) 70 rfl fl_X12_111 rfl ?_
          have loop : ∀ m q, n - q = m → q ≤ n → pl b n p ≤ q → rn isL b n q = lE b n p → ∀ N, AgM M N → gI N 54 4 = (pl b n p : Int) → gI N 54 5 = (q : Int) → (q - pl b n p ≤ 7 → gL N 54 8 = JL (enc5 b (pl b n p) (q - pl b n p))) → V G (d + 1) mX12_steps 138 [some (.ref 54), some (.int (J (sv b n (pl b n p))))] [] N Q := by
            intro m
            induction m with
            | zero =>
              intro q hq hqn hpq hrn N hA h4 h5 h8
              rw [rn_stop (by omega)] at hrn
              have c1 := see9 N hA q (by omega)
              have es : sv b n q = -1 := if_neg (by omega)
              refine v_aload_n (pc := 138) 71 rfl rfl ?_
              refine v_aload_n (pc := 139) 72 rfl rfl ?_
              refine v_getI (pc := 140) 73 rfl fl_X12_111 rfl ?_
              rw [h5]
              refine v_cV1i (pc := 143) 74 rfl cv_X12_117 rfl (Nat.le_of_ble_eq_true rfl) (Nat.le_of_ble_eq_true rfl) (c1) ?_
              refine v_i2l (pc := 146) 75 rfl (by omega) ?_
              refine v_ldc2J (pc := 147) 76 rfl kcLong_X12_131 (97) (by decide) ?_
              refine v_ldc2J (pc := 150) 77 rfl kcLong_X12_133 (122) (by decide) ?_
              refine v_cS3i (pc := 153) 78 rfl cs_X12_135 (Nat.le_of_ble_eq_true rfl) (Nat.le_of_ble_eq_true rfl) (m_within (by have := svb q; omega) (by decide) (by decide)) ?_
              refine v_if_eqT (pc := 156) 79 217 rfl (by decide) (by omega) (by rw [if_neg (by omega)]) ?_
              refine v_aload_n (pc := 217) 111 rfl rfl ?_
              refine v_aload_n (pc := 218) 112 rfl rfl ?_
              refine v_getI (pc := 219) 113 rfl fl_X12_111 rfl ?_
              refine v_aload_n (pc := 222) 114 rfl rfl ?_
              refine v_getI (pc := 223) 115 rfl fl_X12_114 rfl ?_
              refine v_isub (pc := 226) 116 rfl ?_
              refine v_bipush (pc := 227) 117 rfl (by decide) ?_
              refine v_ic_ge (pc := 229) 118 236 rfl (by decide) (by omega) (fun g => ?_) (fun g => ?_)
              · rw [if_neg (by omega)] at kE
                refine v_iconst (pc := 236) 121 rfl ?_
                refine v_putI (pc := 237) 122 rfl fl_X12_121 rfl ?_
                refine v_goto (pc := 240) 123 364 rfl (by decide) ?_
                refine v_ret (pc := 364) 185 rfl rfl (atm _ (hA.sI _ (by decide)) (by rw [g54, if_neg (by decide)]; exact h4) (fun h => absurd kE h) (by rw [g54, if_pos rfl, kE]; rfl) (fun h => by omega) (fun h => by omega))
              · rw [if_pos (by omega)] at kE
                refine v_iconst (pc := 232) 119 rfl ?_
                refine v_goto (pc := 233) 120 237 rfl (by decide) ?_
                refine v_putI (pc := 237) 122 rfl fl_X12_121 rfl ?_
                refine v_goto (pc := 240) 123 364 rfl (by decide) ?_
                refine v_ret (pc := 364) 185 rfl rfl (atm _ (hA.sI _ (by decide)) (by rw [g54, if_neg (by decide)]; exact h4) (fun _ => by rw [g54, if_neg (by decide), nE, ← hrn]; exact h5) (by rw [g54, if_pos rfl, kE]; rfl) (fun h => by rw [gL_sI, h8 (by omega), hrn]) (fun h => by omega))
            | succ m ih =>
              intro q hq hqn hpq hrn N hA h4 h5 h8
              have hqn2 : q < n := by omega
              have c1 := see9 N hA q (by omega)
              have es : sv b n q = b q % 256 := if_pos hqn2
              have rq := hr q hqn2
              refine v_aload_n (pc := 138) 71 rfl rfl ?_
              refine v_aload_n (pc := 139) 72 rfl rfl ?_
              refine v_getI (pc := 140) 73 rfl fl_X12_111 rfl ?_
              rw [h5]
              refine v_cV1i (pc := 143) 74 rfl cv_X12_117 rfl (Nat.le_of_ble_eq_true rfl) (Nat.le_of_ble_eq_true rfl) (c1) ?_
              refine v_i2l (pc := 146) 75 rfl (by omega) ?_
              refine v_ldc2J (pc := 147) 76 rfl kcLong_X12_131 (97) (by decide) ?_
              refine v_ldc2J (pc := 150) 77 rfl kcLong_X12_133 (122) (by decide) ?_
              refine v_cS3i (pc := 153) 78 rfl cs_X12_135 (Nat.le_of_ble_eq_true rfl) (Nat.le_of_ble_eq_true rfl) (m_within (by have := svb q; omega) (by decide) (by decide)) ?_
              refine v_if_eq (pc := 156) 79 217 rfl (by decide) (by omega) (fun c4 => ?_) (fun c4 => ?_)
              · have nD : ¬ (97 ≤ b q ∧ b q ≤ 122) := fun z => by rw [if_pos (by omega)] at c4; omega
                rw [rn_stop (fun h => nD (of_decide_eq_true h.2))] at hrn
                refine v_aload_n (pc := 217) 111 rfl rfl ?_
                refine v_aload_n (pc := 218) 112 rfl rfl ?_
                refine v_getI (pc := 219) 113 rfl fl_X12_111 rfl ?_
                refine v_aload_n (pc := 222) 114 rfl rfl ?_
                refine v_getI (pc := 223) 115 rfl fl_X12_114 rfl ?_
                refine v_isub (pc := 226) 116 rfl ?_
                refine v_bipush (pc := 227) 117 rfl (by decide) ?_
                refine v_ic_ge (pc := 229) 118 236 rfl (by decide) (by omega) (fun g => ?_) (fun g => ?_)
                · rw [if_neg (by omega)] at kE
                  refine v_iconst (pc := 236) 121 rfl ?_
                  refine v_putI (pc := 237) 122 rfl fl_X12_121 rfl ?_
                  refine v_goto (pc := 240) 123 364 rfl (by decide) ?_
                  refine v_ret (pc := 364) 185 rfl rfl (atm _ (hA.sI _ (by decide)) (by rw [g54, if_neg (by decide)]; exact h4) (fun h => absurd kE h) (by rw [g54, if_pos rfl, kE]; rfl) (fun h => by omega) (fun h => by omega))
                · rw [if_pos (by omega)] at kE
                  refine v_iconst (pc := 232) 119 rfl ?_
                  refine v_goto (pc := 233) 120 237 rfl (by decide) ?_
                  refine v_putI (pc := 237) 122 rfl fl_X12_121 rfl ?_
                  refine v_goto (pc := 240) 123 364 rfl (by decide) ?_
                  refine v_ret (pc := 364) 185 rfl rfl (atm _ (hA.sI _ (by decide)) (by rw [g54, if_neg (by decide)]; exact h4) (fun _ => by rw [g54, if_neg (by decide), nE, ← hrn]; exact h5) (by rw [g54, if_pos rfl, kE]; rfl) (fun h => by rw [gL_sI, h8 (by omega), hrn]) (fun h => by omega))
              · have yD : 97 ≤ b q ∧ b q ≤ 122 := by by_cases z : 97 ≤ b q % 256 ∧ b q % 256 ≤ 122; omega; rw [es, if_neg z] at c4; exact absurd rfl c4
                rw [rn_step ⟨hqn2, decide_eq_true yD⟩] at hrn
                have hend9 : ∀ N2 v, N2 = sI (sL N 54 8 v) 54 5 ((q : Int) + 1) → (q + 1 - pl b n p ≤ 7 → v = JL (enc5 b (pl b n p) (q + 1 - pl b n p))) → V G (d + 1) mX12_steps 138 [some (.ref 54), some (.int (J (sv b n (pl b n p))))] [] N2 Q := by
                  intro N2 v e9 hv
                  subst e9
                  exact ih (q + 1) (by omega) (by omega) (by omega) hrn _ ((hA.sL _).sI _ (by decide)) (by rw [g54, if_neg (by decide)]; exact h4) (by rw [g54, if_pos rfl]; omega) (fun h => by rw [gL_sI, gL_sL, if_pos rfl, if_pos rfl]; exact hv h)
                have k5 : ∀ v, gI (sL N 54 8 v) 54 5 = (q : Int) := fun v => h5
                refine v_aload_n (pc := 159) 80 rfl rfl ?_
                refine v_aload_n (pc := 160) 81 rfl rfl ?_
                refine v_getI (pc := 161) 82 rfl fl_X12_111 rfl ?_
                refine v_aload_n (pc := 164) 83 rfl rfl ?_
                refine v_getI (pc := 165) 84 rfl fl_X12_114 rfl ?_
                refine v_isub (pc := 168) 85 rfl ?_
                refine v_bipush (pc := 169) 86 rfl (by decide) ?_
                refine v_ic_ge (pc := 171) 87 197 rfl (by decide) (by omega) (fun c5 => ?_) (fun c5 => ?_)
                · refine v_aload_n (pc := 197) 101 rfl rfl ?_
                  refine v_getL (pc := 198) 102 rfl fl_X12_127 rfl ?_
                  refine v_putL (pc := 201) 103 rfl fl_X12_127 rfl ?_
                  refine v_aload_n (pc := 204) 104 rfl rfl ?_
                  refine v_dup (pc := 205) 105 rfl rfl ?_
                  refine v_getI (pc := 206) 106 rfl fl_X12_111 rfl ?_
                  rw [k5]
                  refine v_iconst (pc := 209) 107 rfl ?_
                  refine v_iadd (pc := 210) 108 rfl ?_
                  refine v_putI (pc := 211) 109 rfl fl_X12_111 rfl ?_
                  refine v_goto (pc := 214) 110 138 rfl (by decide) ?_
                  exact hend9 _ _ rfl (fun h => by omega)
                · have e8 := h8 (by omega)
                  have eb := enc5_s (b := b) (q := pl b n p) (m := q - pl b n p) (by omega) (fun i hi => by
                    have := of_decide_eq_true (hall (pl b n p + i) (by omega) (by
                      have := (rn_ge isL b n _ (q + 1) rfl).1
                      unfold lE at hrn; omega)).2
                    omega)
                  have ee : enc5 b (pl b n p) (q + 1 - pl b n p) = enc5 b (pl b n p) (q - pl b n p) * 32 + (b q - 96) := by
                    rw [show q + 1 - pl b n p = (q - pl b n p) + 1 by omega]
                    show enc5 b (pl b n p) (q - pl b n p) * 32 + (b (pl b n p + (q - pl b n p)) - 96) = _
                    rw [show pl b n p + (q - pl b n p) = q by omega]
                  have sq : sv b n q - 96 = b q - 96 := by omega
                  refine v_aload_n (pc := 174) 88 rfl rfl ?_
                  refine v_getL (pc := 175) 89 rfl fl_X12_127 rfl ?_
                  rw [e8]
                  refine v_iconst (pc := 178) 90 rfl ?_
                  refine v_lshl (pc := 179) 91 rfl (JL (enc5 b (pl b n p) (q - pl b n p)) <<< ((J 5).toInt64 &&& 63)) rfl ?_
                  refine v_aload_n (pc := 180) 92 rfl rfl ?_
                  refine v_aload_n (pc := 181) 93 rfl rfl ?_
                  refine v_getI (pc := 182) 94 rfl fl_X12_111 rfl ?_
                  rw [h5]
                  refine v_cV1i (pc := 185) 95 rfl cv_X12_117 rfl (Nat.le_of_ble_eq_true rfl) (Nat.le_of_ble_eq_true rfl) (c1) ?_
                  refine v_i2l (pc := 188) 96 rfl (by omega) ?_
                  refine v_ldc2J (pc := 189) 97 rfl kcLong_X12_139 (96) (by decide) ?_
                  refine v_lsub (pc := 192) 98 rfl ?_
                  refine v_lor (pc := 193) 99 rfl (JL (enc5 b (pl b n p) (q - pl b n p) * 32 + (sv b n q - 96))) (JL_or5 (by omega) (by omega)) ?_
                  refine v_goto (pc := 194) 100 201 rfl (by decide) ?_
                  refine v_putL (pc := 201) 103 rfl fl_X12_127 rfl ?_
                  refine v_aload_n (pc := 204) 104 rfl rfl ?_
                  refine v_dup (pc := 205) 105 rfl rfl ?_
                  refine v_getI (pc := 206) 106 rfl fl_X12_111 rfl ?_
                  rw [k5]
                  refine v_iconst (pc := 209) 107 rfl ?_
                  refine v_iadd (pc := 210) 108 rfl ?_
                  refine v_putI (pc := 211) 109 rfl fl_X12_111 rfl ?_
                  refine v_goto (pc := 214) 110 138 rfl (by decide) ?_
                  exact hend9 _ _ rfl (fun h => by rw [ee, sq])
          have := loop _ (pl b n p) rfl (by omega) (Nat.le_refl _) rfl _ (hA1.sI (f := 5) (pl b n p : Int) (by decide)) (by rw [g54, if_neg (by decide)]; exact f4) (by rw [g54, if_pos rfl]) (fun _ => by rw [gL_sI, f8, Nat.sub_self]; rfl)
          exact this
      · have nL : ¬ isL (b (pl b n p)) = true := fun z => by have := of_decide_eq_true z; omega
        have nD : ¬ isD (b (pl b n p)) = true := fun z => by have := of_decide_eq_true z; omega
        rw [if_neg nL, if_neg nD, if_pos (by omega)] at kE nE
        refine v_aload_n (pc := 108) 57 rfl rfl ?_
        refine v_iconst (pc := 109) 58 rfl ?_
        refine v_putI (pc := 110) 59 rfl fl_X12_121 rfl ?_
        refine v_goto (pc := 113) 60 364 rfl (by decide) ?_
        refine v_ret (pc := 364) 185 rfl rfl (atm _ (hA1.sI _ (by decide)) (by rw [g54, if_neg (by decide)]; exact f4) (fun _ => by rw [g54, if_neg (by decide), nE, f5]; rfl) (by rw [g54, if_pos rfl, kE]; rfl) (fun h => by omega) (fun h => by omega))
  refine v_aload_n (pc := 0) 0 rfl rfl ?_
  refine v_aload_n (pc := 1) 1 rfl rfl ?_
  refine v_getI (pc := 2) 2 rfl fl_X12_111 rfl ?_
  rw [h2]
  refine v_putI (pc := 5) 3 rfl fl_X12_114 rfl ?_
  have loop : ∀ m q, n - q = m → q ≤ n → rn isB b n q = pl b n p → ∀ N, AgM M N → gI N 54 4 = (q : Int) → V G (d + 1) mX12_steps 8 [some (.ref 54), none] [] N Q := by
    intro m
    induction m with
    | zero =>
      intro q hq hqn hrn N hA h4
      rw [rn_stop (by omega)] at hrn
      have c1 := see9 N hA q (by omega)
      have es : sv b n q = -1 := if_neg (by omega)
      refine v_aload_n (pc := 8) 4 rfl rfl ?_
      refine v_aload_n (pc := 9) 5 rfl rfl ?_
      refine v_getI (pc := 10) 6 rfl fl_X12_114 rfl ?_
      rw [h4]
      refine v_cV1i (pc := 13) 7 rfl cv_X12_117 rfl (Nat.le_of_ble_eq_true rfl) (Nat.le_of_ble_eq_true rfl) (c1) ?_
      refine v_bipush (pc := 16) 8 rfl (by decide) ?_
      refine v_ic_eqF (pc := 18) 9 34 rfl (by decide) (by omega) (by omega) ?_
      refine v_aload_n (pc := 21) 10 rfl rfl ?_
      refine v_aload_n (pc := 22) 11 rfl rfl ?_
      refine v_getI (pc := 23) 12 rfl fl_X12_114 rfl ?_
      rw [h4]
      refine v_cV1i (pc := 26) 13 rfl cv_X12_117 rfl (Nat.le_of_ble_eq_true rfl) (Nat.le_of_ble_eq_true rfl) (c1) ?_
      refine v_bipush (pc := 29) 14 rfl (by decide) ?_
      refine v_ic_neT (pc := 31) 15 47 rfl (by decide) (by omega) (by omega) ?_
      exact fin N hA (by rw [← hrn]; exact h4)
    | succ m ih =>
      intro q hq hqn hrn N hA h4
      have hqn2 : q < n := by omega
      have c1 := see9 N hA q (by omega)
      have es : sv b n q = b q % 256 := if_pos hqn2
      have rq := hr q hqn2
      have go : isB (b q) = true → V G (d + 1) mX12_steps 34 [some (.ref 54), none] [] N Q := by
        intro hB
        rw [rn_step ⟨hqn2, hB⟩] at hrn
        refine v_aload_n (pc := 34) 16 rfl rfl ?_
        refine v_dup (pc := 35) 17 rfl rfl ?_
        refine v_getI (pc := 36) 18 rfl fl_X12_114 rfl ?_
        rw [h4]
        refine v_iconst (pc := 39) 19 rfl ?_
        refine v_iadd (pc := 40) 20 rfl ?_
        refine v_putI (pc := 41) 21 rfl fl_X12_114 rfl ?_
        refine v_goto (pc := 44) 22 8 rfl (by decide) ?_
        exact ih (q + 1) (by omega) (by omega) hrn _ (hA.sI _ (by decide)) (by rw [g54, if_pos rfl]; omega)
      refine v_aload_n (pc := 8) 4 rfl rfl ?_
      refine v_aload_n (pc := 9) 5 rfl rfl ?_
      refine v_getI (pc := 10) 6 rfl fl_X12_114 rfl ?_
      rw [h4]
      refine v_cV1i (pc := 13) 7 rfl cv_X12_117 rfl (Nat.le_of_ble_eq_true rfl) (Nat.le_of_ble_eq_true rfl) (c1) ?_
      refine v_bipush (pc := 16) 8 rfl (by decide) ?_
      refine v_ic_eq (pc := 18) 9 34 rfl (by decide) (by omega) (fun g1 => ?_) (fun g1 => ?_)
      · exact go (decide_eq_true (by omega))
      · refine v_aload_n (pc := 21) 10 rfl rfl ?_
        refine v_aload_n (pc := 22) 11 rfl rfl ?_
        refine v_getI (pc := 23) 12 rfl fl_X12_114 rfl ?_
        rw [h4]
        refine v_cV1i (pc := 26) 13 rfl cv_X12_117 rfl (Nat.le_of_ble_eq_true rfl) (Nat.le_of_ble_eq_true rfl) (c1) ?_
        refine v_bipush (pc := 29) 14 rfl (by decide) ?_
        refine v_ic_ne (pc := 31) 15 47 rfl (by decide) (by omega) (fun g2 => ?_) (fun g2 => ?_)
        · rw [rn_stop (fun h => by have := of_decide_eq_true h.2; omega)] at hrn
          exact fin N hA (by rw [← hrn]; exact h4)
        · exact go (decide_eq_true (by omega))
  exact loop _ p rfl hp rfl _ ((AgM.rfl9 M).sI _ (by decide)) (by rw [g54, if_pos rfl])
theorem m_must {x : Bool} {k : Int} (hk : k ≠ 0 ∧ -100 ≤ k ∧ k ≤ 100) (h9 : gI M 54 9 = 0) : V G d mX12_must 0 [some (.ref 54), some (.int (J (b2i x))), some (.int (J k))] [] M (Ret (some (.int (J (b2i x)))) (if x = true then M else sI (sI M 54 9 k) 54 10 (gI M 54 4))) := by
  have br := b2i_r x
  cases x with
  | true =>
    rw [if_pos rfl]
    refine v_aload_n (pc := 0) 0 rfl rfl ?_
    refine v_getI (pc := 1) 1 rfl fl_X12_145 rfl ?_
    refine v_if_neF (pc := 4) 2 24 rfl (by decide) (by omega) (by omega) ?_
    refine v_iload_n (pc := 7) 3 rfl rfl ?_
    refine v_if_neT (pc := 8) 4 24 rfl (by decide) (by omega) (by decide) ?_
    refine v_aload_n (pc := 24) 12 rfl rfl ?_
    refine v_getI (pc := 25) 13 rfl fl_X12_145 rfl ?_
    refine v_if_neF (pc := 28) 14 35 rfl (by decide) (by omega) (by omega) ?_
    refine v_iconst (pc := 31) 15 rfl ?_
    refine v_goto (pc := 32) 16 36 rfl (by decide) ?_
    refine v_zret (pc := 36) 18 rfl rfl (by decide) ⟨rfl, rfl⟩
  | false =>
    rw [if_neg (by decide)]
    have e4 : gI (sI M 54 9 k) 54 4 = gI M 54 4 := by rw [g54, if_neg (by decide)]
    have e9 : gI (sI (sI M 54 9 k) 54 10 (gI M 54 4)) 54 9 = k := by rw [g54, if_neg (by decide), g54, if_pos rfl]
    refine v_aload_n (pc := 0) 0 rfl rfl ?_
    refine v_getI (pc := 1) 1 rfl fl_X12_145 rfl ?_
    refine v_if_neF (pc := 4) 2 24 rfl (by decide) (by omega) (by omega) ?_
    refine v_iload_n (pc := 7) 3 rfl rfl ?_
    refine v_if_neF (pc := 8) 4 24 rfl (by decide) (by omega) (by decide) ?_
    refine v_aload_n (pc := 11) 5 rfl rfl ?_
    refine v_iload_n (pc := 12) 6 rfl rfl ?_
    refine v_putI (pc := 13) 7 rfl fl_X12_145 rfl ?_
    refine v_aload_n (pc := 16) 8 rfl rfl ?_
    refine v_aload_n (pc := 17) 9 rfl rfl ?_
    refine v_getI (pc := 18) 10 rfl fl_X12_114 rfl ?_
    rw [e4]
    refine v_putI (pc := 21) 11 rfl fl_X12_148 rfl ?_
    refine v_aload_n (pc := 24) 12 rfl rfl ?_
    refine v_getI (pc := 25) 13 rfl fl_X12_145 rfl ?_
    refine v_if_neT (pc := 28) 14 35 rfl (by decide) (by omega) (by omega) ?_
    refine v_iconst (pc := 35) 17 rfl ?_
    refine v_zret (pc := 36) 18 rfl rfl (by decide) ⟨rfl, rfl⟩
end MLex
