/-! 08: array places by natural numbers -/
section VRules4
variable {G : Gt} {d : Nat} {k : Mth} {pc : Nat} {ls : List (Option Value)} {st : List Value} {M : Mem} {Q : Option Value → Mem → Prop}

theorem v_ialdE {z : Int} {a n0 : Nat} (i : Nat) (hd : k.2.2.2.2.2[i]? = some (pc, .iaload, 1)) (hs : shL[a]? = some (.inl (.int, n0))) (kk : Nat) (hz : z = (kk : Int) ∧ kk < n0 ∧ kk ≤ 2147483647) (n : V G d k (pc + 1) ls (.int (J (gI M a kk)) :: st) M Q) : V G d k pc ls (.int (J z) :: .ref a :: st) M Q := by
  obtain ⟨rfl, h1, h2⟩ := hz
  exact v_iald i hd hs (by omega) n
theorem v_ialdN {kk a n0 : Nat} (i : Nat) (hd : k.2.2.2.2.2[i]? = some (pc, .iaload, 1)) (hs : shL[a]? = some (.inl (.int, n0))) (hz : kk < n0 ∧ kk ≤ 2147483647) (n : V G d k (pc + 1) ls (.int (J (gI M a kk)) :: st) M Q) : V G d k pc ls (.int (J (kk : Int)) :: .ref a :: st) M Q := v_ialdE i hd hs kk ⟨rfl, hz⟩ n
theorem v_baldE {z : Int} {a n0 : Nat} (i : Nat) (hd : k.2.2.2.2.2[i]? = some (pc, .baload, 1)) (hs : shL[a]? = some (.inl (.byte, n0))) (kk : Nat) (hz : z = (kk : Int) ∧ kk < n0 ∧ kk ≤ 2147483647) (n : V G d k (pc + 1) ls (.int (J (gI M a kk)) :: st) M Q) : V G d k pc ls (.int (J z) :: .ref a :: st) M Q := by
  obtain ⟨rfl, h1, h2⟩ := hz
  exact v_bald i hd hs (by omega) n
theorem v_baldN {kk a n0 : Nat} (i : Nat) (hd : k.2.2.2.2.2[i]? = some (pc, .baload, 1)) (hs : shL[a]? = some (.inl (.byte, n0))) (hz : kk < n0 ∧ kk ≤ 2147483647) (n : V G d k (pc + 1) ls (.int (J (gI M a kk)) :: st) M Q) : V G d k pc ls (.int (J (kk : Int)) :: .ref a :: st) M Q := v_baldE i hd hs kk ⟨rfl, hz⟩ n
theorem v_zaldE {z : Int} {a n0 : Nat} (i : Nat) (hd : k.2.2.2.2.2[i]? = some (pc, .baload, 1)) (hs : shL[a]? = some (.inl (.boolean, n0))) (kk : Nat) (hz : z = (kk : Int) ∧ kk < n0 ∧ kk ≤ 2147483647) (n : V G d k (pc + 1) ls (.int (J (gI M a kk)) :: st) M Q) : V G d k pc ls (.int (J z) :: .ref a :: st) M Q := by
  obtain ⟨rfl, h1, h2⟩ := hz
  exact v_zald i hd hs (by omega) n
theorem v_zaldN {kk a n0 : Nat} (i : Nat) (hd : k.2.2.2.2.2[i]? = some (pc, .baload, 1)) (hs : shL[a]? = some (.inl (.boolean, n0))) (hz : kk < n0 ∧ kk ≤ 2147483647) (n : V G d k (pc + 1) ls (.int (J (gI M a kk)) :: st) M Q) : V G d k pc ls (.int (J (kk : Int)) :: .ref a :: st) M Q := v_zaldE i hd hs kk ⟨rfl, hz⟩ n
theorem v_laldE {z : Int} {a n0 : Nat} (i : Nat) (hd : k.2.2.2.2.2[i]? = some (pc, .laload, 1)) (hs : shL[a]? = some (.inl (.long, n0))) (kk : Nat) (hz : z = (kk : Int) ∧ kk < n0 ∧ kk ≤ 2147483647) (n : V G d k (pc + 1) ls (.long (gL M a kk) :: st) M Q) : V G d k pc ls (.int (J z) :: .ref a :: st) M Q := by
  obtain ⟨rfl, h1, h2⟩ := hz
  exact v_lald i hd hs (by omega) n
theorem v_laldN {kk a n0 : Nat} (i : Nat) (hd : k.2.2.2.2.2[i]? = some (pc, .laload, 1)) (hs : shL[a]? = some (.inl (.long, n0))) (hz : kk < n0 ∧ kk ≤ 2147483647) (n : V G d k (pc + 1) ls (.long (gL M a kk) :: st) M Q) : V G d k pc ls (.int (J (kk : Int)) :: .ref a :: st) M Q := v_laldE i hd hs kk ⟨rfl, hz⟩ n
theorem v_iastE {z : Int} {v : Int} {a n0 : Nat} (i : Nat) (hd : k.2.2.2.2.2[i]? = some (pc, .iastore, 1)) (hs : shL[a]? = some (.inl (.int, n0))) (kk : Nat) (hz : z = (kk : Int) ∧ kk < n0 ∧ kk ≤ 2147483647) (n : V G d k (pc + 1) ls st (sI M a kk v) Q) : V G d k pc ls (.int (J v) :: .int (J z) :: .ref a :: st) M Q := by
  obtain ⟨rfl, h1, h2⟩ := hz
  exact v_iast i hd hs (by omega) n
theorem v_iastN {kk : Nat} {v : Int} {a n0 : Nat} (i : Nat) (hd : k.2.2.2.2.2[i]? = some (pc, .iastore, 1)) (hs : shL[a]? = some (.inl (.int, n0))) (hz : kk < n0 ∧ kk ≤ 2147483647) (n : V G d k (pc + 1) ls st (sI M a kk v) Q) : V G d k pc ls (.int (J v) :: .int (J (kk : Int)) :: .ref a :: st) M Q := v_iastE i hd hs kk ⟨rfl, hz⟩ n
theorem v_bastE {z : Int} {v : Int} {a n0 : Nat} (i : Nat) (hd : k.2.2.2.2.2[i]? = some (pc, .bastore, 1)) (hs : shL[a]? = some (.inl (.byte, n0))) (kk : Nat) (hz : z = (kk : Int) ∧ kk < n0 ∧ kk ≤ 2147483647) (hv : -128 ≤ v ∧ v < 128) (n : V G d k (pc + 1) ls st (sI M a kk v) Q) : V G d k pc ls (.int (J v) :: .int (J z) :: .ref a :: st) M Q := by
  obtain ⟨rfl, h1, h2⟩ := hz
  exact v_bast i hd hs (by omega) hv n
theorem v_bastN {kk : Nat} {v : Int} {a n0 : Nat} (i : Nat) (hd : k.2.2.2.2.2[i]? = some (pc, .bastore, 1)) (hs : shL[a]? = some (.inl (.byte, n0))) (hz : kk < n0 ∧ kk ≤ 2147483647) (hv : -128 ≤ v ∧ v < 128) (n : V G d k (pc + 1) ls st (sI M a kk v) Q) : V G d k pc ls (.int (J v) :: .int (J (kk : Int)) :: .ref a :: st) M Q := v_bastE i hd hs kk ⟨rfl, hz⟩ hv n
theorem v_zastE {z : Int} {v : Int} {a n0 : Nat} (i : Nat) (hd : k.2.2.2.2.2[i]? = some (pc, .bastore, 1)) (hs : shL[a]? = some (.inl (.boolean, n0))) (kk : Nat) (hz : z = (kk : Int) ∧ kk < n0 ∧ kk ≤ 2147483647) (hv : v = 0 ∨ v = 1) (n : V G d k (pc + 1) ls st (sI M a kk v) Q) : V G d k pc ls (.int (J v) :: .int (J z) :: .ref a :: st) M Q := by
  obtain ⟨rfl, h1, h2⟩ := hz
  exact v_zast i hd hs (by omega) hv n
theorem v_zastN {kk : Nat} {v : Int} {a n0 : Nat} (i : Nat) (hd : k.2.2.2.2.2[i]? = some (pc, .bastore, 1)) (hs : shL[a]? = some (.inl (.boolean, n0))) (hz : kk < n0 ∧ kk ≤ 2147483647) (hv : v = 0 ∨ v = 1) (n : V G d k (pc + 1) ls st (sI M a kk v) Q) : V G d k pc ls (.int (J v) :: .int (J (kk : Int)) :: .ref a :: st) M Q := v_zastE i hd hs kk ⟨rfl, hz⟩ hv n
theorem v_lastE {z : Int} {v : Int64} {a n0 : Nat} (i : Nat) (hd : k.2.2.2.2.2[i]? = some (pc, .lastore, 1)) (hs : shL[a]? = some (.inl (.long, n0))) (kk : Nat) (hz : z = (kk : Int) ∧ kk < n0 ∧ kk ≤ 2147483647) (n : V G d k (pc + 1) ls st (sL M a kk v) Q) : V G d k pc ls (.long v :: .int (J z) :: .ref a :: st) M Q := by
  obtain ⟨rfl, h1, h2⟩ := hz
  exact v_last i hd hs (by omega) n
theorem v_lastN {kk : Nat} {v : Int64} {a n0 : Nat} (i : Nat) (hd : k.2.2.2.2.2[i]? = some (pc, .lastore, 1)) (hs : shL[a]? = some (.inl (.long, n0))) (hz : kk < n0 ∧ kk ≤ 2147483647) (n : V G d k (pc + 1) ls st (sL M a kk v) Q) : V G d k pc ls (.long v :: .int (J (kk : Int)) :: .ref a :: st) M Q := v_lastE i hd hs kk ⟨rfl, hz⟩ n
end VRules4
