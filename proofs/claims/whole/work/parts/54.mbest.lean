/-! 54: the reference: loads in order; the best of a day -/
def cpF (f g : Nat → Int) (n : Nat) : Nat → Int := fun i => if i < n then f i else g i
theorem cpF_0 (f g : Nat → Int) : cpF f g 0 = g := by funext i; unfold cpF; rw [if_neg (by omega)]
theorem cpF_s (f g : Nat → Int) (n : Nat) : (fun i => if i = n then f n else cpF f g n i) = cpF f g (n + 1) := by
  funext i
  unfold cpF
  by_cases e : i = n
  · rw [if_pos e, if_pos (by omega), e]
  · rw [if_neg e]
    by_cases e2 : i < n
    · rw [if_pos e2, if_pos (by omega)]
    · rw [if_neg e2, if_neg (by omega)]
theorem cpF_lt {f g : Nat → Int} {n i : Nat} (h : i < n) : cpF f g n i = f i := if_pos h
section MBest
variable {G : Gt} {d : Nat} {M N : Mem} {T : Tx} {S : Sx} {A : Ax}
theorem RI.a9 (h : RI M T S) {k : Nat} (f : Nat → Int) (hk : 77 ≤ k ∧ k ≤ 82) : RI (aI M k f) T S := h.sc (sc_a f (Or.inr hk)) (gI_aI_ne (by omega))
set_option maxHeartbeats 2000000 in
theorem m_laysLoads (h : RI M T S) : V G (d + 1) mX12_laysLoads 0 [some (.ref 54), none, none, none] [] M (fun r N => ∃ f, r = none ∧ N = aI M 78 f ∧ repI f (sdl T S)) := by
  have hT := h.2.2.2.2.2.1
  have h6 := hT.2.1
  unfold sdl
  generalize hQ : (fun (r : Option Value) (N : Mem) => ∃ f, r = none ∧ N = aI M 78 f ∧ repI f (sd (lds T S) (nJ T))) = Q
  refine v_iconst (pc := 0) 0 rfl ?_
  refine v_istore_n (pc := 1) 1 rfl ⟨Nat.le_of_ble_eq_true rfl, rfl⟩ ?_
  have f78 : ∀ f, gI (aI M 78 f) 78 = f := fun f => by funext i; rw [gI_aI, if_pos rfl]
  have loop := loopN (N := nJ T) (fun m => ∀ f u v, repI f (sd (lds T S) m) → V G (d + 1) mX12_laysLoads 2 [some (.ref 54), some (.int (J (m : Int))), u, v] [] (aI M 78 f) Q) ?_ ?_
  · have := loop (gI M 78) none none (fun i x hx => by simp [sd] at hx)
    rw [aI_self] at this
    exact this
  · intro f u v hf
    have hn := (h.a9 (k := 78) f (by decide)).n
    refine v_iload_n (pc := 2) 2 rfl rfl ?_
    refine v_aload_n (pc := 3) 3 rfl rfl ?_
    refine v_getC (pc := 4) 4 rfl fl_X12_17 rfl 57 rfl ?_
    refine v_iconst (pc := 7) 5 rfl ?_
    refine v_ialdN (kk := 0) (pc := 8) 6 rfl rfl (by decide) ?_
    refine v_ic_geT (pc := 9) 7 69 rfl (by decide) (by omega) (by omega) ?_
    refine v_ret (pc := 69) 43 rfl rfl (by rw [← hQ]; exact ⟨f, rfl, rfl, hf⟩)
  · intro m hm ih f u v hf
    have hI := h.a9 (k := 78) f (by decide)
    have hn := hI.n
    obtain ⟨A, B, a1, a2, a3, a4⟩ := insD_split (lds T S m) (sd (lds T S) m) (sd_desc _ _)
    have hlen := sd_len (lds T S) m
    have hvm := lds_b hT S m
    rw [a1] at hf hlen
    rw [List.length_append] at hlen
    have a2 : sd (lds T S) (m + 1) = A ++ lds T S m :: B := a2
    have hrg : ∀ x, x ∈ A ++ B → 0 ≤ x ∧ x ≤ 4320 := fun x hx => by
      rw [← a1] at hx
      obtain ⟨j, h1, h2⟩ := sd_mem hx
      rw [h2]; exact lds_b hT S j
    have cl : V G d mX12_loadOf 0 [some (.ref 54), some (.int (J (m : Int))), none, none, none, none] [] (aI M 78 f) (Ret (some (.int (J (lds T S m)))) (aI M 78 f)) := m_loadOf hI hm
    generalize lds T S m = lv at a2 a3 a4 hvm cl
    refine v_iload_n (pc := 2) 2 rfl rfl ?_
    refine v_aload_n (pc := 3) 3 rfl rfl ?_
    refine v_getC (pc := 4) 4 rfl fl_X12_17 rfl 57 rfl ?_
    refine v_iconst (pc := 7) 5 rfl ?_
    refine v_ialdN (kk := 0) (pc := 8) 6 rfl rfl (by decide) ?_
    refine v_ic_geF (pc := 9) 7 69 rfl (by decide) (by omega) (by omega) ?_
    refine v_aload_n (pc := 12) 8 rfl rfl ?_
    refine v_iload_n (pc := 13) 9 rfl rfl ?_
    refine v_cV1i (pc := 14) 10 rfl cv_X12_310 rfl (Nat.le_of_ble_eq_true rfl) (Nat.le_of_ble_eq_true rfl) (cl) ?_
    refine v_istore_n (pc := 17) 11 rfl ⟨Nat.le_of_ble_eq_true rfl, rfl⟩ ?_
    refine v_iload_n (pc := 18) 12 rfl rfl ?_
    refine v_istore_n (pc := 19) 13 rfl ⟨Nat.le_of_ble_eq_true rfl, rfl⟩ ?_
    have inner := loopN (N := B.length) (fun t => V G (d + 1) mX12_laysLoads 20 [some (.ref 54), some (.int (J (m : Int))), some (.int (J lv)), some (.int (J ((A.length + (B.length - t) : Nat) : Int)))] [] (aI M 78 (shA f (A.length + (B.length - t)) (A.length + B.length))) Q) ?_ ?_
    · rw [Nat.sub_zero, shA_n, hlen] at inner
      exact inner
    · rw [show A.length + (B.length - B.length) = A.length by omega]
      have fin : V G (d + 1) mX12_laysLoads 56 [some (.ref 54), some (.int (J (m : Int))), some (.int (J lv)), some (.int (J (A.length : Int)))] [] (aI M 78 (shA f A.length (A.length + B.length))) Q := by
        refine v_aload_n (pc := 56) 36 rfl rfl ?_
        refine v_getC (pc := 57) 37 rfl fl_X12_82 rfl 78 rfl ?_
        refine v_iload_n (pc := 60) 38 rfl rfl ?_
        refine v_iload_n (pc := 61) 39 rfl rfl ?_
        refine v_iastN (pc := 62) 40 rfl rfl (by omega) ?_
        refine v_iinc (pc := 63) 41 rfl rfl ⟨Nat.le_of_ble_eq_true rfl, rfl⟩ ?_
        refine v_goto (pc := 66) 42 2 rfl (by decide) ?_
        have := ih (insAt f A.length (A.length + B.length) lv) (some (.int (J lv))) (some (.int (J (A.length : Int)))) (by rw [a2]; exact repI_ins hf)
        rw [sI_aI]
        exact this
      by_cases eA : A.length = 0
      · refine v_iload_n (pc := 20) 14 rfl rfl ?_
        refine v_if_leT (pc := 21) 15 56 rfl (by decide) (by omega) (by omega) ?_
        exact fin
      · obtain ⟨x, hx⟩ : ∃ x, A[A.length - 1]? = some x := ⟨_, List.getElem?_eq_getElem (by omega)⟩
        have hxA := a3 x (List.mem_of_getElem? hx)
        have hxr := hrg x (List.mem_append_left _ (List.mem_of_getElem? hx))
        have v1 : gI (aI M 78 (shA f A.length (A.length + B.length))) 78 (A.length - 1) = x := by
          rw [gI_aI, if_pos rfl, shA_lo f (by omega)]
          exact hf _ _ (by rw [List.getElem?_append_left (by omega)]; exact hx)
        refine v_iload_n (pc := 20) 14 rfl rfl ?_
        refine v_if_leF (pc := 21) 15 56 rfl (by decide) (by omega) (by omega) ?_
        refine v_aload_n (pc := 24) 16 rfl rfl ?_
        refine v_getC (pc := 25) 17 rfl fl_X12_82 rfl 78 rfl ?_
        refine v_iload_n (pc := 28) 18 rfl rfl ?_
        refine v_iconst (pc := 29) 19 rfl ?_
        refine v_isub (pc := 30) 20 rfl ?_
        refine v_ialdE (pc := 31) 21 rfl rfl (A.length - 1) (by omega) ?_
        rw [v1]
        refine v_iload_n (pc := 32) 22 rfl rfl ?_
        refine v_ic_geT (pc := 33) 23 56 rfl (by decide) (by omega) (by omega) ?_
        exact fin
    · intro t ht ih2
      obtain ⟨p, hp⟩ : ∃ p, A.length + (B.length - t) = p + 1 := ⟨A.length + (B.length - t) - 1, by omega⟩
      have hp2 : A.length + (B.length - (t + 1)) = p := by omega
      rw [hp2] at ih2
      rw [hp]
      obtain ⟨x, hx⟩ : ∃ x, B[p - A.length]? = some x := ⟨_, List.getElem?_eq_getElem (by omega)⟩
      have hxB := a4 x (List.mem_of_getElem? hx)
      have hxr := hrg x (List.mem_append_right _ (List.mem_of_getElem? hx))
      have v1 : gI (aI M 78 (shA f (p + 1) (A.length + B.length))) 78 p = x := by
        rw [gI_aI, if_pos rfl, shA_lo f (by omega)]
        exact hf _ _ (by rw [List.getElem?_append_right (by omega)]; exact hx)
      refine v_iload_n (pc := 20) 14 rfl rfl ?_
      refine v_if_leF (pc := 21) 15 56 rfl (by decide) (by omega) (by omega) ?_
      refine v_aload_n (pc := 24) 16 rfl rfl ?_
      refine v_getC (pc := 25) 17 rfl fl_X12_82 rfl 78 rfl ?_
      refine v_iload_n (pc := 28) 18 rfl rfl ?_
      refine v_iconst (pc := 29) 19 rfl ?_
      refine v_isub (pc := 30) 20 rfl ?_
      refine v_ialdE (pc := 31) 21 rfl rfl p (by omega) ?_
      rw [v1]
      refine v_iload_n (pc := 32) 22 rfl rfl ?_
      refine v_ic_geF (pc := 33) 23 56 rfl (by decide) (by omega) (by omega) ?_
      refine v_aload_n (pc := 36) 24 rfl rfl ?_
      refine v_getC (pc := 37) 25 rfl fl_X12_82 rfl 78 rfl ?_
      refine v_iload_n (pc := 40) 26 rfl rfl ?_
      refine v_aload_n (pc := 41) 27 rfl rfl ?_
      refine v_getC (pc := 42) 28 rfl fl_X12_82 rfl 78 rfl ?_
      refine v_iload_n (pc := 45) 29 rfl rfl ?_
      refine v_iconst (pc := 46) 30 rfl ?_
      refine v_isub (pc := 47) 31 rfl ?_
      refine v_ialdE (pc := 48) 32 rfl rfl p (by omega) ?_
      refine v_iastN (pc := 49) 33 rfl rfl (by omega) ?_
      refine v_iinc (pc := 50) 34 rfl rfl ⟨Nat.le_of_ble_eq_true rfl, rfl⟩ ?_
      refine v_goto (pc := 53) 35 20 rfl (by decide) ?_
      have e9 := shA_step f (p := p + 1) (n := A.length + B.length) (by omega) (by omega)
      rw [Nat.add_sub_cancel] at e9
      rw [sI_aI, gI_aI, if_pos rfl, e9]
      have e8 : ((p + 1 : Nat) : Int) + -1 = (p : Int) := by omega
      rw [e8]
      exact ih2
theorem m_areLess (h : RI M T S) (hv : ∀ j, j < nJ T → (-2147483648 ≤ gI M 78 j ∧ gI M 78 j ≤ 2147483647) ∧ (-2147483648 ≤ gI M 79 j ∧ gI M 79 j ≤ 2147483647)) : V G d mX12_areLess 0 [some (.ref 54), none] [] M (Ret (some (.int (J (b2i (ltA (gI M 78) (gI M 79) (nJ T)))))) M) := by
  have hn := h.n
  refine v_iconst (pc := 0) 0 rfl ?_
  refine v_istore_n (pc := 1) 1 rfl ⟨Nat.le_of_ble_eq_true rfl, rfl⟩ ?_
  refine loopN (N := nJ T) (fun i => exB (fun i => decide (gI M 78 i ≠ gI M 79 i)) i = false → V G d mX12_areLess 2 [some (.ref 54), some (.int (J (i : Int)))] [] M (Ret (some (.int (J (b2i (ltA (gI M 78) (gI M 79) (nJ T)))))) M)) ?_ ?_ rfl
  · intro e
    rw [ltA_none e]
    refine v_iload_n (pc := 2) 2 rfl rfl ?_
    refine v_aload_n (pc := 3) 3 rfl rfl ?_
    refine v_getC (pc := 4) 4 rfl fl_X12_17 rfl 57 rfl ?_
    refine v_iconst (pc := 7) 5 rfl ?_
    refine v_ialdN (kk := 0) (pc := 8) 6 rfl rfl (by decide) ?_
    refine v_ic_geT (pc := 9) 7 54 rfl (by decide) (by omega) (by omega) ?_
    refine v_iconst (pc := 54) 32 rfl ?_
    refine v_zret (pc := 55) 33 rfl rfl (by decide) ⟨rfl, rfl⟩
  · intro i hi ih e
    have hb := hv i hi
    refine v_iload_n (pc := 2) 2 rfl rfl ?_
    refine v_aload_n (pc := 3) 3 rfl rfl ?_
    refine v_getC (pc := 4) 4 rfl fl_X12_17 rfl 57 rfl ?_
    refine v_iconst (pc := 7) 5 rfl ?_
    refine v_ialdN (kk := 0) (pc := 8) 6 rfl rfl (by decide) ?_
    refine v_ic_geF (pc := 9) 7 54 rfl (by decide) (by omega) (by omega) ?_
    refine v_aload_n (pc := 12) 8 rfl rfl ?_
    refine v_getC (pc := 13) 9 rfl fl_X12_82 rfl 78 rfl ?_
    refine v_iload_n (pc := 16) 10 rfl rfl ?_
    refine v_ialdN (pc := 17) 11 rfl rfl (by omega) ?_
    refine v_aload_n (pc := 18) 12 rfl rfl ?_
    refine v_getC (pc := 19) 13 rfl fl_X12_85 rfl 79 rfl ?_
    refine v_iload_n (pc := 22) 14 rfl rfl ?_
    refine v_ialdN (pc := 23) 15 rfl rfl (by omega) ?_
    refine v_ic_eq (pc := 24) 16 48 rfl (by decide) (by omega) (fun e1 => ?_) (fun e1 => ?_)
    · refine v_iinc (pc := 48) 30 rfl rfl ⟨Nat.le_of_ble_eq_true rfl, rfl⟩ ?_
      refine v_goto (pc := 51) 31 2 rfl (by decide) ?_
      exact ih (exB_succ e (decide_eq_false (fun z => z e1)))
    · rw [ltA_at hi e e1]
      refine v_aload_n (pc := 27) 17 rfl rfl ?_
      refine v_getC (pc := 28) 18 rfl fl_X12_82 rfl 78 rfl ?_
      refine v_iload_n (pc := 31) 19 rfl rfl ?_
      refine v_ialdN (pc := 32) 20 rfl rfl (by omega) ?_
      refine v_aload_n (pc := 33) 21 rfl rfl ?_
      refine v_getC (pc := 34) 22 rfl fl_X12_85 rfl 79 rfl ?_
      refine v_iload_n (pc := 37) 23 rfl rfl ?_
      refine v_ialdN (pc := 38) 24 rfl rfl (by omega) ?_
      refine v_ic_ge (pc := 39) 25 46 rfl (by decide) (by omega) (fun e2 => ?_) (fun e2 => ?_)
      · rw [decide_eq_false (by omega)]
        refine v_iconst (pc := 46) 28 rfl ?_
        refine v_zret (pc := 47) 29 rfl rfl (by decide) ⟨rfl, rfl⟩
      · rw [decide_eq_true (by omega)]
        refine v_iconst (pc := 42) 26 rfl ?_
        refine v_goto (pc := 43) 27 47 rfl (by decide) ?_
        refine v_zret (pc := 47) 29 rfl rfl (by decide) ⟨rfl, rfl⟩
theorem m_notes (h : RI M T S) : V G d mX12_notes 0 [some (.ref 54), none] [] M (Ret none (aI M 79 (cpF (gI M 78) (gI M 79) (nJ T)))) := by
  refine v_iconst (pc := 0) 0 rfl ?_
  refine v_istore_n (pc := 1) 1 rfl ⟨Nat.le_of_ble_eq_true rfl, rfl⟩ ?_
  have loop := loopN (N := nJ T) (fun i => V G d mX12_notes 2 [some (.ref 54), some (.int (J (i : Int)))] [] (aI M 79 (cpF (gI M 78) (gI M 79) i)) (Ret none (aI M 79 (cpF (gI M 78) (gI M 79) (nJ T))))) ?_ ?_
  · rw [cpF_0, aI_self] at loop
    exact loop
  · have hn := (h.a9 (k := 79) (cpF (gI M 78) (gI M 79) (nJ T)) (by decide)).n
    refine v_iload_n (pc := 2) 2 rfl rfl ?_
    refine v_aload_n (pc := 3) 3 rfl rfl ?_
    refine v_getC (pc := 4) 4 rfl fl_X12_17 rfl 57 rfl ?_
    refine v_iconst (pc := 7) 5 rfl ?_
    refine v_ialdN (kk := 0) (pc := 8) 6 rfl rfl (by decide) ?_
    refine v_ic_geT (pc := 9) 7 30 rfl (by decide) (by omega) (by omega) ?_
    refine v_ret (pc := 30) 18 rfl rfl ⟨rfl, rfl⟩
  · intro i hi ih
    have hn := (h.a9 (k := 79) (cpF (gI M 78) (gI M 79) i) (by decide)).n
    have e : gI (aI M 79 (cpF (gI M 78) (gI M 79) i)) 78 i = gI M 78 i := by rw [gI_aI_ne (by decide)]
    refine v_iload_n (pc := 2) 2 rfl rfl ?_
    refine v_aload_n (pc := 3) 3 rfl rfl ?_
    refine v_getC (pc := 4) 4 rfl fl_X12_17 rfl 57 rfl ?_
    refine v_iconst (pc := 7) 5 rfl ?_
    refine v_ialdN (kk := 0) (pc := 8) 6 rfl rfl (by decide) ?_
    refine v_ic_geF (pc := 9) 7 30 rfl (by decide) (by omega) (by omega) ?_
    refine v_aload_n (pc := 12) 8 rfl rfl ?_
    refine v_getC (pc := 13) 9 rfl fl_X12_85 rfl 79 rfl ?_
    refine v_iload_n (pc := 16) 10 rfl rfl ?_
    refine v_aload_n (pc := 17) 11 rfl rfl ?_
    refine v_getC (pc := 18) 12 rfl fl_X12_82 rfl 78 rfl ?_
    refine v_iload_n (pc := 21) 13 rfl rfl ?_
    refine v_ialdN (pc := 22) 14 rfl rfl (by omega) ?_
    rw [e]
    refine v_iastN (pc := 23) 15 rfl rfl (by omega) ?_
    refine v_iinc (pc := 24) 16 rfl rfl ⟨Nat.le_of_ble_eq_true rfl, rfl⟩ ?_
    refine v_goto (pc := 27) 17 2 rfl (by decide) ?_
    rw [sI_aI, cpF_s]
    exact ih
end MBest
/-- the reference's search: what it holds -/
def GS (M0 N : Mem) (T : Tx) (S : Sx) (a : Nat) (f : Nat → Int) (B : Bx) : Prop := RI N T S ∧ SC M0 N ∧ gI N 77 = f ∧ gI N 54 44 = (a : Int) ∧ gI N 54 43 = B.1 ∧ (B.1 = -1 ∨ (repI (gI N 79) B.2.1 ∧ ∀ i, i < a → gI N 81 i = B.2.2 i))
theorem GS.irr {M0 N : Mem} {T : Tx} {S : Sx} {a : Nat} {f : Nat → Int} {B : Bx} (h : GS M0 N T S a f B) {k : Nat} (g : Nat → Int) (hk : k = 78 ∨ k = 80) : GS M0 (aI N k g) T S a f B := by
  obtain ⟨h1, h2, h3, h4, h5, h6⟩ := h
  have e : ∀ q, q ≠ k → gI (aI N k g) q = gI N q := fun q hq => gI_aI_ne hq
  refine ⟨h1.a9 g (by omega), h2.trans (sc_a g (by omega)), ?_, ?_, ?_, ?_⟩
  · rw [e 77 (by omega)]; exact h3
  · rw [e 54 (by omega)]; exact h4
  · rw [e 54 (by omega)]; exact h5
  · rw [e 79 (by omega), e 81 (by omega)]; exact h6
theorem GS.ms {M0 N : Mem} {T : Tx} {S : Sx} {a : Nat} {f : Nat → Int} {B : Bx} (h : GS M0 N T S a f B) {k : Nat} {j t : Int} (hk : k < 12) (h2 : SOk T (setS S k j (if j = -1 then -1 else t))) : GS M0 (msM N k j t) T (setS S k j (if j = -1 then -1 else t)) a f B := by
  obtain ⟨g1, g2, g3, g4, g5, g6⟩ := h
  refine ⟨g1.ms hk h2, g2.trans (sc_ms _ _ _ _), ?_, ?_, ?_, ?_⟩
  · rw [ms_ne (by decide)]; exact g3
  · rw [ms_ne (by decide)]; exact g4
  · rw [ms_ne (by decide)]; exact g5
  · rw [ms_ne (by decide), ms_ne (by decide)]; exact g6
theorem sI_up (M : Mem) (k i : Nat) (v : Int) : sI M k i v = aI M k (up (gI M k) i v) := by
  have := sI_aI M k (gI M k) i v
  rw [aI_self] at this
  exact this
section MGoes
variable {G : Gt} {M0 : Mem} {T : Tx} {dd : Int} {a : Nat} {l : List Nat} {f : Nat → Int}
def GoOk (G : Gt) (M0 : Mem) (T : Tx) (dd : Int) (a : Nat) (l : List Nat) (f : Nat → Int) (r : Nat) : Prop :=
  ∀ (k : Nat) (h : Int) (S : Sx) (g : Nat → Int) (B : Bx) (N : Mem) (dep : Nat), k + r = a → r + 2 ≤ dep → GS M0 N T S a f B → BOk T a B → (0 ≤ h ∧ h ≤ k) → (∀ i, i < k → gI N 80 i = g i) → (∀ i, i < k → -1 ≤ g i ∧ g i < nJ T) →
    (∀ i, k ≤ i → i < a → S.1 (l.getD i 0) = -1 ∧ S.2 (l.getD i 0) = -1) → V G dep mX12_goes 0 [some (.ref 54), some (.int (J (k : Int))), some (.int (J h)), some (.int (J dd)), none] [] N (fun ret N2 => ret = none ∧ GS M0 N2 T S a f (fs T dd l r k h S g B) ∧ ∀ i, i < k → gI N2 80 i = g i)
set_option maxHeartbeats 4000000 in
theorem m_goes (hT : TOk T) (hl : rep f l) (hnd : l.Nodup) (hmem : ∀ x ∈ l, x < nK T) (ha : a ≤ 5 ∧ a ≤ l.length) (hd : 0 ≤ dd ∧ dd ≤ 60) : ∀ r, GoOk G M0 T dd a l f r := by
  have h6 := hT.2.1
  have h12 := hT.2.2.1
  intro r
  induction r with
  | zero =>
    intro k h S g B N dep hk hdep hM hB hh hg hg2 hop
    obtain ⟨e, rfl⟩ : ∃ e, dep = e + 2 := ⟨dep - 2, by omega⟩
    obtain ⟨m1, m2, m3, m4, m5, m6⟩ := id hM
    have hk2 : k = a := by omega
    subst hk2
    have hB1 := hB.1
    have eC : fs T dd l 0 k h S g B = if mayB T S h B = true then (h, sdl T S, g) else B := rfl
    rw [eC]
    refine v_iload_n (pc := 0) 0 rfl rfl ?_
    refine v_aload_n (pc := 1) 1 rfl rfl ?_
    refine v_getI (pc := 2) 2 rfl fl_X12_319 rfl ?_
    refine v_ic_neF (pc := 5) 3 79 rfl (by decide) (by omega) (by omega) ?_
    refine v_iload_n (pc := 8) 4 rfl rfl ?_
    refine v_aload_n (pc := 9) 5 rfl rfl ?_
    refine v_getI (pc := 10) 6 rfl fl_X12_322 rfl ?_
    refine v_ic_ge (pc := 13) 7 17 rfl (by decide) (by omega) (fun e1 => ?_) (fun e1 => ?_)
    · refine v_aload_n (pc := 17) 9 rfl rfl ?_
      refine v_cV0 (pc := 18) 10 rfl cv_X12_325 rfl (Nat.le_of_ble_eq_true rfl) (Nat.le_of_ble_eq_true rfl) (m_laysLoads m1) (fun r9 N9 hq9 => ?_)
      obtain ⟨f8, rfl, rfl, hf8⟩ := hq9
      show V G (e + 2) mX12_goes (18 + 3) _ [] _ _
      have hM8 := hM.irr f8 (Or.inl rfl)
      have e78 : gI (aI N 78 f8) 78 = f8 := by funext i; rw [gI_aI, if_pos rfl]
      have e80 : gI (aI N 78 f8) 80 = gI N 80 := gI_aI_ne (by decide)
      generalize aI N 78 f8 = N8 at hM8 e78 e80 ⊢
      obtain ⟨q1, q2, q3, q4, q5, q6⟩ := id hM8
      have fin : mayB T S h B = true → V G (e + 2) mX12_goes 37 [some (.ref 54), some (.int (J (k : Int))), some (.int (J h)), some (.int (J dd)), none] [] N8 (fun ret N2 => ret = none ∧ GS M0 N2 T S k f (if mayB T S h B = true then (h, sdl T S, g) else B) ∧ ∀ i, i < k → gI N2 80 i = g i) := by
        intro hmb
        rw [if_pos hmb]
        have hI2 : RI (sI N8 54 43 h) T S := q1.sc (sc_f _ (by decide)) (gI_sI_ne (by decide))
        have c1 := m_notes (G := G) (d := e + 1) hI2
        have z78 : gI (sI N8 54 43 h) 78 = f8 := by rw [gI_sI_ne (by decide)]; exact e78
        rw [z78] at c1
        have hI3 := hI2.a9 (k := 79) (cpF f8 (gI (sI N8 54 43 h) 79) (nJ T)) (by decide)
        have x79 : gI (aI (sI N8 54 43 h) 79 (cpF f8 (gI (sI N8 54 43 h) 79) (nJ T))) 79 = cpF f8 (gI (sI N8 54 43 h) 79) (nJ T) := by funext i; rw [gI_aI, if_pos rfl]
        have x43 : gI (aI (sI N8 54 43 h) 79 (cpF f8 (gI (sI N8 54 43 h) 79) (nJ T))) 54 43 = h := by rw [gI_aI_ne (by decide), gI_sI, if_pos rfl, if_pos rfl]
        have x44 : gI (aI (sI N8 54 43 h) 79 (cpF f8 (gI (sI N8 54 43 h) 79) (nJ T))) 54 44 = (k : Int) := by rw [gI_aI_ne (by decide), gI_sI, if_pos rfl, if_neg (by decide)]; exact q4
        have x77 : gI (aI (sI N8 54 43 h) 79 (cpF f8 (gI (sI N8 54 43 h) 79) (nJ T))) 77 = f := by rw [gI_aI_ne (by decide), gI_sI_ne (by decide)]; exact q3
        have x80 : gI (aI (sI N8 54 43 h) 79 (cpF f8 (gI (sI N8 54 43 h) 79) (nJ T))) 80 = gI N 80 := by rw [gI_aI_ne (by decide), gI_sI_ne (by decide)]; exact e80
        have xsc : SC M0 (aI (sI N8 54 43 h) 79 (cpF f8 (gI (sI N8 54 43 h) 79) (nJ T))) := (q2.trans (sc_f _ (by decide))).trans (sc_a _ (by decide))
        refine v_aload_n (pc := 37) 19 rfl rfl ?_
        refine v_iload_n (pc := 38) 20 rfl rfl ?_
        refine v_putI (pc := 39) 21 rfl fl_X12_322 rfl ?_
        refine v_aload_n (pc := 42) 22 rfl rfl ?_
        refine v_cV0v (pc := 43) 23 rfl cv_X12_331 rfl (Nat.le_of_ble_eq_true rfl) (Nat.le_of_ble_eq_true rfl) (c1) ?_
        refine v_iconst (pc := 46) 24 rfl ?_
        refine v_istore (pc := 47) 25 rfl ⟨Nat.le_of_ble_eq_true rfl, rfl⟩ ?_
        generalize aI (sI N8 54 43 h) 79 (cpF f8 (gI (sI N8 54 43 h) 79) (nJ T)) = P at hI3 x79 x43 x44 x77 x80 xsc ⊢
        generalize hQ : (fun (ret : Option Value) (N2 : Mem) => ret = none ∧ GS M0 N2 T S k f (h, sdl T S, g) ∧ ∀ i, i < k → gI N2 80 i = g i) = Q
        have loop := loopN (N := k) (fun i => V G (e + 2) mX12_goes 49 [some (.ref 54), some (.int (J (k : Int))), some (.int (J h)), some (.int (J dd)), some (.int (J (i : Int)))] [] (aI P 81 (cpF (gI N 80) (gI P 81) i)) Q) ?_ ?_
        · rw [cpF_0, aI_self] at loop
          exact loop
        · have y44 : gI (aI P 81 (cpF (gI N 80) (gI P 81) k)) 54 44 = (k : Int) := by rw [gI_aI_ne (by decide)]; exact x44
          refine v_iload (pc := 49) 26 rfl rfl ?_
          refine v_aload_n (pc := 51) 27 rfl rfl ?_
          refine v_getI (pc := 52) 28 rfl fl_X12_319 rfl ?_
          refine v_ic_geT (pc := 55) 29 78 rfl (by decide) (by omega) (by omega) ?_
          refine v_ret (pc := 78) 40 rfl rfl (by
            rw [← hQ]
            refine ⟨rfl, ⟨hI3.a9 _ (by decide), xsc.trans (sc_a _ (by decide)), ?_, y44, ?_, Or.inr ⟨?_, fun i hi => ?_⟩⟩, fun i hi => ?_⟩
            · rw [gI_aI_ne (by decide)]; exact x77
            · rw [gI_aI_ne (by decide)]; exact x43
            · rw [gI_aI_ne (by decide), x79]
              intro i x hx
              have hlt := (List.getElem?_eq_some_iff.mp hx).1
              change i < (sdl T S).length at hlt
              rw [sdl_len] at hlt
              rw [cpF_lt hlt]
              exact hf8 i x hx
            · rw [gI_aI, if_pos rfl, cpF_lt hi]; exact hg i hi
            · rw [gI_aI_ne (by decide), x80]; exact hg i hi)
        · intro i hi ih
          have y44 : gI (aI P 81 (cpF (gI N 80) (gI P 81) i)) 54 44 = (k : Int) := by rw [gI_aI_ne (by decide)]; exact x44
          have y80 : gI (aI P 81 (cpF (gI N 80) (gI P 81) i)) 80 i = gI N 80 i := by rw [gI_aI_ne (by decide), x80]
          refine v_iload (pc := 49) 26 rfl rfl ?_
          refine v_aload_n (pc := 51) 27 rfl rfl ?_
          refine v_getI (pc := 52) 28 rfl fl_X12_319 rfl ?_
          refine v_ic_geF (pc := 55) 29 78 rfl (by decide) (by omega) (by omega) ?_
          refine v_aload_n (pc := 58) 30 rfl rfl ?_
          refine v_getC (pc := 59) 31 rfl fl_X12_91 rfl 81 rfl ?_
          refine v_iload (pc := 62) 32 rfl rfl ?_
          refine v_aload_n (pc := 64) 33 rfl rfl ?_
          refine v_getC (pc := 65) 34 rfl fl_X12_88 rfl 80 rfl ?_
          refine v_iload (pc := 68) 35 rfl rfl ?_
          refine v_ialdN (pc := 70) 36 rfl rfl (by omega) ?_
          rw [y80]
          refine v_iastN (pc := 71) 37 rfl rfl (by omega) ?_
          refine v_iinc (pc := 72) 38 rfl rfl ⟨Nat.le_of_ble_eq_true rfl, rfl⟩ ?_
          refine v_goto (pc := 75) 39 49 rfl (by decide) ?_
          rw [sI_aI, cpF_s]
          exact ih
      refine v_iload_n (pc := 21) 11 rfl rfl ?_
      refine v_aload_n (pc := 22) 12 rfl rfl ?_
      refine v_getI (pc := 23) 13 rfl fl_X12_322 rfl ?_
      refine v_ic_ne (pc := 26) 14 37 rfl (by decide) (by omega) (fun e2 => ?_) (fun e2 => ?_)
      · exact fin (by unfold mayB; rw [if_pos (by omega)]; exact decide_eq_true (by omega))
      · have e2 : h = B.1 := by omega
        obtain ⟨k2, k3⟩ : repI (gI N8 79) B.2.1 ∧ ∀ i, i < k → gI N8 81 i = B.2.2 i := by
          rcases q6 with q | q
          · omega
          · exact q
        obtain ⟨S2, hS2⟩ : ∃ S2, B.2.1 = sdl T S2 := by
          rcases hB.2 with q | q
          · omega
          · exact q.1
        have v1 : ∀ j, j < nJ T → gI N8 78 j = gd (sdl T S) j := fun j hj => by rw [e78]; exact repI_get hf8 (by rw [sdl_len]; exact hj)
        have v2 : ∀ j, j < nJ T → gI N8 79 j = gd B.2.1 j := fun j hj => repI_get k2 (by rw [hS2, sdl_len]; exact hj)
        have cl := m_areLess (G := G) (d := e + 1) q1 (fun j hj => by
          rw [v1 j hj, v2 j hj, hS2]
          have a1 := sdl_b hT S hj
          have a2 := sdl_b hT S2 hj
          omega)
        rw [ltA_congr v1 v2] at cl
        have em : mayB T S h B = ltA (gd (sdl T S)) (gd B.2.1) (nJ T) := by unfold mayB; rw [if_neg (fun q => q e2)]
        rw [← em] at cl
        have hbr := b2i_r (mayB T S h B)
        refine v_aload_n (pc := 29) 15 rfl rfl ?_
        refine v_cV0i (pc := 30) 16 rfl cv_X12_328 rfl (Nat.le_of_ble_eq_true rfl) (Nat.le_of_ble_eq_true rfl) (cl) ?_
        refine v_if_ne (pc := 33) 17 37 rfl (by decide) (by omega) (fun e3 => ?_) (fun e3 => ?_)
        · exact fin (by cases q : mayB T S h B with | true => rfl | false => rw [q] at e3; exact absurd rfl e3)
        · rw [if_neg (by intro q; rw [q] at e3; exact e3 (by decide))]
          refine v_ret (pc := 36) 18 rfl rfl ⟨rfl, hM8, fun i hi => by rw [e80]; exact hg i hi⟩
    · rw [mayB_lt (by omega)]
      refine v_ret (pc := 16) 8 rfl rfl ⟨rfl, hM, hg⟩
  | succ r IH =>
    intro k h S g B N dep hk hdep hM hB hh hg hg2 hop
    obtain ⟨e, rfl⟩ : ∃ e, dep = e + 2 := ⟨dep - 2, by omega⟩
    obtain ⟨m1, m2, m3, m4, m5, m6⟩ := id hM
    have eC : fs T dd l (r + 1) k h S g B = csJ (fs T dd l r (k + 1)) T dd (l.getD k 0) k h S g (nJ T) (fs T dd l r (k + 1) h S (up g k (-1)) B) := rfl
    rw [eC]
    refine v_iload_n (pc := 0) 0 rfl rfl ?_
    refine v_aload_n (pc := 1) 1 rfl rfl ?_
    refine v_getI (pc := 2) 2 rfl fl_X12_319 rfl ?_
    refine v_ic_neT (pc := 5) 3 79 rfl (by decide) (by omega) (by omega) ?_
    refine v_aload_n (pc := 79) 41 rfl rfl ?_
    refine v_getC (pc := 80) 42 rfl fl_X12_88 rfl 80 rfl ?_
    refine v_iload_n (pc := 83) 43 rfl rfl ?_
    refine v_iconst (pc := 84) 44 rfl ?_
    refine v_iastN (pc := 85) 45 rfl rfl (by omega) ?_
    rw [sI_up]
    have hb3 := hM.irr (up (gI N 80) k (-1)) (Or.inr rfl)
    have hup : ∀ i, i < k + 1 → gI (aI N 80 (up (gI N 80) k (-1))) 80 i = up g k (-1) i := fun i hi => by
      rw [gI_aI, if_pos rfl]
      unfold up
      by_cases e9 : i = k
      · rw [if_pos e9, if_pos e9]
      · rw [if_neg e9, if_neg e9]; exact hg i (by omega)
    have hup2 : ∀ i, i < k + 1 → -1 ≤ up g k (-1) i ∧ up g k (-1) i < nJ T := fun i hi => by
      unfold up
      by_cases e9 : i = k
      · rw [if_pos e9]; omega
      · rw [if_neg e9]; exact hg2 i (by omega)
    refine v_aload_n (pc := 86) 46 rfl rfl ?_
    refine v_iload_n (pc := 87) 47 rfl rfl ?_
    refine v_iconst (pc := 88) 48 rfl ?_
    refine v_iadd (pc := 89) 49 rfl ?_
    refine v_iload_n (pc := 90) 50 rfl rfl ?_
    refine v_iload_n (pc := 91) 51 rfl rfl ?_
    refine v_cV3 (pc := 92) 52 rfl cv_X12_334 rfl (Nat.le_of_ble_eq_true rfl) (Nat.le_of_ble_eq_true rfl) (IH (k + 1) h S (up g k (-1)) B _ (e + 1) (by omega) (by omega) hb3 hB (by omega) hup hup2 (fun i h1 h2 => hop i (by omega) h2)) (fun r9 N9 hq9 => ?_)
    obtain ⟨rfl, hb4, hg4⟩ := hq9
    have hB4 := cs_ok (T := T) (d := dd) (l := l) r (k + 1) h S (up g k (-1)) B (by omega) (by omega) hup2 hB
    rw [← fs_cs hT hmem _ _ _ _ _ _ (by omega)] at hB4
    show V G (e + 2) mX12_goes (92 + 3) _ [] _ _
    have hg5 : ∀ i, i < k → gI N9 80 i = g i := fun i hi => by
      rw [hg4 i (by omega)]
      unfold up
      rw [if_neg (by omega)]
    generalize fs T dd l r (k + 1) h S (up g k (-1)) B = B1 at hb4 hB4 ⊢
    have hx : l.getD k 0 < nK T := hmem _ (by rw [List.getD_eq_getElem?_getD, List.getElem?_eq_getElem (by omega)]; exact List.getElem_mem _)
    have hlx := rep_get hl (i := k) (by omega)
    obtain ⟨o1, o2⟩ := hop k (by omega) (by omega)
    have hnd2 : ∀ i, k + 1 ≤ i → i < a → l.getD i 0 ≠ l.getD k 0 := fun i h1 h2 => nodup_get hnd (by omega) (by omega) (by omega)
    refine v_iconst (pc := 95) 53 rfl ?_
    refine v_istore (pc := 96) 54 rfl ⟨Nat.le_of_ble_eq_true rfl, rfl⟩ ?_
    have loop := loopN (N := nJ T) (fun m => ∀ N, GS M0 N T S a f (csJ (fs T dd l r (k + 1)) T dd (l.getD k 0) k h S g m B1) → (∀ i, i < k → gI N 80 i = g i) → V G (e + 2) mX12_goes 98 [some (.ref 54), some (.int (J (k : Int))), some (.int (J h)), some (.int (J dd)), some (.int (J (m : Int)))] [] N (fun ret N2 => ret = none ∧ GS M0 N2 T S a f (csJ (fs T dd l r (k + 1)) T dd (l.getD k 0) k h S g (nJ T) B1) ∧ ∀ i, i < k → gI N2 80 i = g i)) ?_ ?_
    · exact loop _ hb4 hg5
    · intro N5 hb5 hg6
      have hn := hb5.1.n
      refine v_iload (pc := 98) 55 rfl rfl ?_
      refine v_aload_n (pc := 100) 56 rfl rfl ?_
      refine v_getC (pc := 101) 57 rfl fl_X12_17 rfl 57 rfl ?_
      refine v_iconst (pc := 104) 58 rfl ?_
      refine v_ialdN (kk := 0) (pc := 105) 59 rfl rfl (by decide) ?_
      refine v_ic_geT (pc := 106) 60 178 rfl (by decide) (by omega) (by omega) ?_
      refine v_ret (pc := 178) 103 rfl rfl ⟨rfl, hb5, hg6⟩
    · intro m hm ihm N5 hb5 hg6
      have hn := hb5.1.n
      obtain ⟨n1, n2, n3, n4, n5, n6⟩ := id hb5
      have v1 : gI N5 77 k = ((l.getD k 0 : Nat) : Int) := by rw [n3]; exact hlx
      have hw := whyS_b T S (l.getD k 0) m dd
      have cl := m_whyOf (G := G) (d := e) n1 (k := l.getD k 0) (j := m) hx hm hd
      have eJ : csJ (fs T dd l r (k + 1)) T dd (l.getD k 0) k h S g (m + 1) B1 = if whyS T S (l.getD k 0) m dd = 0 then fs T dd l r (k + 1) (h + 1) (setS S (l.getD k 0) m dd) (up g k m) (csJ (fs T dd l r (k + 1)) T dd (l.getD k 0) k h S g m B1) else csJ (fs T dd l r (k + 1)) T dd (l.getD k 0) k h S g m B1 := rfl
      rw [eJ] at ihm
      have hB5 := csJ_ok (T := T) (d := dd) (l := l) (r := r) (k := k) (x := l.getD k 0) (S := S) (by omega) hh hg2 hB4 m (by omega)
      rw [← csJ_congr (fun h S g B => fs_cs hT hmem _ _ _ _ _ _ (by omega))] at hB5
      generalize hx9 : l.getD k 0 = x at cl ihm v1 hw hb5 hx o1 o2 hnd2 hB5 ⊢
      refine v_iload (pc := 98) 55 rfl rfl ?_
      refine v_aload_n (pc := 100) 56 rfl rfl ?_
      refine v_getC (pc := 101) 57 rfl fl_X12_17 rfl 57 rfl ?_
      refine v_iconst (pc := 104) 58 rfl ?_
      refine v_ialdN (kk := 0) (pc := 105) 59 rfl rfl (by decide) ?_
      refine v_ic_geF (pc := 106) 60 178 rfl (by decide) (by omega) (by omega) ?_
      refine v_aload_n (pc := 109) 61 rfl rfl ?_
      refine v_aload_n (pc := 110) 62 rfl rfl ?_
      refine v_getC (pc := 111) 63 rfl fl_X12_79 rfl 77 rfl ?_
      refine v_iload_n (pc := 114) 64 rfl rfl ?_
      refine v_ialdN (pc := 115) 65 rfl rfl (by omega) ?_
      rw [v1]
      refine v_iload (pc := 116) 66 rfl rfl ?_
      refine v_iload_n (pc := 118) 67 rfl rfl ?_
      refine v_cV3i (pc := 119) 68 rfl cv_X12_293 rfl (Nat.le_of_ble_eq_true rfl) (Nat.le_of_ble_eq_true rfl) (cl) ?_
      refine v_if_eq (pc := 122) 69 128 rfl (by decide) (by omega) (fun e2 => ?_) (fun e2 => ?_)
      · rw [if_pos e2] at ihm
        have hm1 : ¬ ((m : Int) = -1) := by omega
        have hb6 := hb5.irr (up (gI N5 80) k (m : Int)) (Or.inr rfl)
        have v2 : gI (aI N5 80 (up (gI N5 80) k (m : Int))) 77 k = (x : Int) := by rw [gI_aI_ne (by decide)]; exact v1
        have hS2 : SOk T (setS S x m dd) := n1.2.2.2.2.2.2.set (Or.inr ⟨hx, by omega, hd⟩)
        have hb7 := hb6.ms (k := x) (j := (m : Int)) (t := dd) (by omega) (by rw [if_neg hm1]; exact hS2)
        rw [if_neg hm1] at hb7
        have hg7 : ∀ i, i < k + 1 → gI (msM (aI N5 80 (up (gI N5 80) k (m : Int))) x m dd) 80 i = up g k m i := fun i hi => by
          rw [ms_ne (by decide), gI_aI, if_pos rfl]
          unfold up
          by_cases e9 : i = k
          · rw [if_pos e9, if_pos e9]
          · rw [if_neg e9, if_neg e9]; exact hg6 i (by omega)
        have hg8 : ∀ i, i < k + 1 → -1 ≤ up g k m i ∧ up g k m i < nJ T := fun i hi => by
          unfold up
          by_cases e9 : i = k
          · rw [if_pos e9]; omega
          · rw [if_neg e9]; exact hg2 i (by omega)
        have ih := IH (k + 1) (h + 1) (setS S x m dd) (up g k m) (csJ (fs T dd l r (k + 1)) T dd x k h S g m B1) _ (e + 1) (by omega) (by omega) hb7 hB5 (by omega) hg7 hg8 (fun i h1 h2 => by
          have := hop i (by omega) h2
          have hne := hnd2 i h1 h2
          unfold setS
          dsimp only
          rw [if_neg hne, if_neg hne]
          exact this)
        refine v_aload_n (pc := 128) 71 rfl rfl ?_
        refine v_getC (pc := 129) 72 rfl fl_X12_88 rfl 80 rfl ?_
        refine v_iload_n (pc := 132) 73 rfl rfl ?_
        refine v_iload (pc := 133) 74 rfl rfl ?_
        refine v_iastN (pc := 135) 75 rfl rfl (by omega) ?_
        rw [sI_up]
        refine v_aload_n (pc := 136) 76 rfl rfl ?_
        refine v_aload_n (pc := 137) 77 rfl rfl ?_
        refine v_getC (pc := 138) 78 rfl fl_X12_79 rfl 77 rfl ?_
        refine v_iload_n (pc := 141) 79 rfl rfl ?_
        refine v_ialdN (pc := 142) 80 rfl rfl (by omega) ?_
        rw [v2]
        refine v_iload (pc := 143) 81 rfl rfl ?_
        refine v_iload_n (pc := 145) 82 rfl rfl ?_
        refine v_cV3v (pc := 146) 83 rfl cv_X12_300 rfl (Nat.le_of_ble_eq_true rfl) (Nat.le_of_ble_eq_true rfl) (m_sets (by omega) (by omega)) ?_
        refine v_aload_n (pc := 149) 84 rfl rfl ?_
        refine v_iload_n (pc := 150) 85 rfl rfl ?_
        refine v_iconst (pc := 151) 86 rfl ?_
        refine v_iadd (pc := 152) 87 rfl ?_
        refine v_iload_n (pc := 153) 88 rfl rfl ?_
        refine v_iconst (pc := 154) 89 rfl ?_
        refine v_iadd (pc := 155) 90 rfl ?_
        refine v_iload_n (pc := 156) 91 rfl rfl ?_
        refine v_cV3 (pc := 157) 92 rfl cv_X12_334 rfl (Nat.le_of_ble_eq_true rfl) (Nat.le_of_ble_eq_true rfl) (ih) (fun r9 N9 hq9 => ?_)
        obtain ⟨rfl, hb8, hg9⟩ := hq9
        show V G (e + 2) mX12_goes (157 + 3) _ [] _ _
        have v3 : gI N9 77 k = (x : Int) := by rw [hb8.2.2.1]; exact hx9 ▸ hlx
        have hb9 := hb8.ms (k := x) (j := -1) (t := -1) (by omega) (hb8.1.2.2.2.2.2.2.set (Or.inl ⟨rfl, rfl⟩))
        rw [if_pos rfl, set_back _ _ o1 o2] at hb9
        refine v_aload_n (pc := 160) 93 rfl rfl ?_
        refine v_aload_n (pc := 161) 94 rfl rfl ?_
        refine v_getC (pc := 162) 95 rfl fl_X12_79 rfl 77 rfl ?_
        refine v_iload_n (pc := 165) 96 rfl rfl ?_
        refine v_ialdN (pc := 166) 97 rfl rfl (by omega) ?_
        rw [v3]
        refine v_iconst (pc := 167) 98 rfl ?_
        refine v_iconst (pc := 168) 99 rfl ?_
        refine v_cV3v (pc := 169) 100 rfl cv_X12_300 rfl (Nat.le_of_ble_eq_true rfl) (Nat.le_of_ble_eq_true rfl) (m_sets (by omega) (by omega)) ?_
        refine v_iinc (pc := 172) 101 rfl rfl ⟨Nat.le_of_ble_eq_true rfl, rfl⟩ ?_
        refine v_goto (pc := 175) 102 98 rfl (by decide) ?_
        exact ihm _ hb9 (fun i hi => by rw [ms_ne (by decide), hg9 i (by omega)]; unfold up; rw [if_neg (by omega)])
      · rw [if_neg e2] at ihm
        refine v_goto (pc := 125) 70 172 rfl (by decide) ?_
        refine v_iinc (pc := 172) 101 rfl rfl ⟨Nat.le_of_ble_eq_true rfl, rfl⟩ ?_
        refine v_goto (pc := 175) 102 98 rfl (by decide) ?_
        exact ihm _ hb5 hg6
end MGoes
