/-! 48: the reference: feed -/
section MFeed
variable {G : Gt} {d : Nat} {M N : Mem} {A : Ax}
theorem MR.put (h : MR M A) (x : Int) (h8 : aN A + 4 ≤ 800) : MR (tpM M 54 2 55 (aN A) x 4) (puA A x) := by
  have e : ∀ q, q ≠ 54 → q ≠ 55 → gI (tpM M 54 2 55 (aN A) x 4) q = gI M q := fun q q1 q2 => by unfold tpM; rw [gI_sI_ne q1, gI_aI_ne q2]
  have e54 : ∀ i, gI (tpM M 54 2 55 (aN A) x 4) 54 i = if i = 2 then ((aN A + 4 : Nat) : Int) else gI M 54 i := fun i => by unfold tpM; rw [gI_sI, if_pos rfl, gI_aI_ne (by decide)]
  obtain ⟨h1, h2, h3, h4, h5, h6⟩ := h
  refine ⟨h1.keep (fun q hq => e q (by omega) (by omega)), ⟨?_, h8, fun i hi => ?_⟩, ?_, ?_, ?_, h6⟩
  · rw [e54, if_pos rfl]; rfl
  · have hi : i < aN A + 4 := hi
    have e1 : gI (tpM M 54 2 55 (aN A) x 4) 55 i = putF (aN A) x 4 (gI M 55) i := by unfold tpM; rw [gI_sI_ne (by decide), gI_aI, if_pos rfl]
    rw [e1]
    show putF (aN A) x 4 (gI M 55) i = putF (aN A) x 4 (aB A) i
    unfold putF
    by_cases q : aN A ≤ i ∧ i < aN A + 4
    · rw [if_pos q, if_pos q]
    · rw [if_neg q, if_neg q]; exact h2.2.2 i (by omega)
  · rw [e54, if_neg (by decide), e 73 (by decide) (by decide)]; exact h3
  · rw [e 74 (by decide) (by decide), e 75 (by decide) (by decide)]; exact h4
  · rw [e54, if_neg (by decide)]; exact h5
theorem tp_mf (M : Mem) (n : Nat) (x : Int) (k : Nat) : MF M (tpM M 54 2 55 n x k) := ⟨fun q hq => ⟨by unfold tpM; rw [gI_sI_ne (by omega), gI_aI_ne (by omega)], rfl⟩, rfl⟩
end MFeed
