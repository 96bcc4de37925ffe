/-! 58: the words' own methods; bits of numbers -/
section VJdk
variable {G : Gt} {d : Nat} {k : Mth} {pc : Nat} {ls : List (Option Value)} {st : List Value} {M : Mem} {Q : Option Value → Mem → Prop}
theorem v_nret {x : Int32} {ty : FieldType} (i : Nat) (hd : k.2.2.2.2.2[i]? = some (pc, .ireturn, 1)) (hk : k.2.2.2.2.1 = some ty) (hn : narrow ty (.int x) = .int x) (hQ : Q (some (.int x)) M) : V G d k pc ls [.int x] M Q := by
  intro p e s m args below meth c C H locs hW hS lsR hl
  obtain ⟨hx, hb, hml, hr, hlk, hown, hts, hK, hdc⟩ := id C
  have hdg := hdc _ (List.mem_of_getElem? hd)
  exact W.zret hx hb (hr.trans hk) hn (fun t ht hw => ⟨⟨some (.int x), M, rfl, hQ, by rw [ht]; exact hW⟩, hS.F ht⟩) hS.2.2 hdg hlk
theorem v_i2c {x v : Int32} (i : Nat) (hd : k.2.2.2.2.2[i]? = some (pc, .i2c, 1)) (hv : (x.toUInt32 % 65536).toInt32 = v) (n : V G d k (pc + 1) ls (.int v :: st) M Q) : V G d k pc ls (.int x :: st) M Q := by
  intro p e s m args below meth c C H locs hW hS lsR hl
  obtain ⟨hx, hb, hml, hr, hlk, hown, hts, hK, hdc⟩ := id C
  have hdg := hdc _ (List.mem_of_getElem? hd)
  have n9 := n p e s m args below meth c C H locs hW hS lsR hl
  exact lv_i2c hx hb hdg hv n9
theorem v_sval {x b : Nat} (i : Nat) (hd : k.2.2.2.2.2[i]? = some (pc, .getfield x, 3)) (hf : Cond.fieldLink k.1 x "java/lang/String" "value" "[B" ∈ tb) (hs : b < 10) (n : V G d k (pc + 3) ls (.ref (110 + b) :: st) M Q) : V G d k pc ls (.ref (100 + b) :: st) M Q := by
  intro p e s m args below meth c C H locs hW hS lsR hl
  obtain ⟨hx, hb, hml, hr, hlk, hown, hts, hK, hdc⟩ := id C
  have hdg := hdc _ (List.mem_of_getElem? hd)
  have n9 := n p e s m args below meth c C H locs hW hS lsR hl
  refine vk_getf hx hb (hK.2.2.1.1 b hs).2.2.1 hS hown (hts _ hf) (fun y h => h) hdg ?_
  rw [← hK.2.2.2.2.2.2.1 b hs]
  exact n9
theorem v_scod {x b : Nat} (i : Nat) (hd : k.2.2.2.2.2[i]? = some (pc, .getfield x, 3)) (hf : Cond.fieldLink k.1 x "java/lang/String" "coder" "B" ∈ tb) (hs : b < 10) (n : V G d k (pc + 3) ls (.int (J 0) :: st) M Q) : V G d k pc ls (.ref (100 + b) :: st) M Q := by
  intro p e s m args below meth c C H locs hW hS lsR hl
  obtain ⟨hx, hb, hml, hr, hlk, hown, hts, hK, hdc⟩ := id C
  have hdg := hdc _ (List.mem_of_getElem? hd)
  have n9 := n p e s m args below meth c C H locs hW hS lsR hl
  exact vk_getf hx hb (hK.2.2.1.1 b hs).2.1 hS hown (hts _ hf) (fun y h => h) hdg n9
theorem v_gcs {x : Nat} (i : Nat) (hd : k.2.2.2.2.2[i]? = some (pc, .getstatic x, 3)) (hf : Cond.fieldLink k.1 x "java/lang/String" "COMPACT_STRINGS" "Z" ∈ tb) (n : V G d k (pc + 3) ls (.int (J 1) :: st) M Q) : V G d k pc ls st M Q := by
  intro p e s m args below meth c C H locs hW hS lsR hl
  obtain ⟨hx, hb, hml, hr, hlk, hown, hts, hK, hdc⟩ := id C
  have hdg := hdc _ (List.mem_of_getElem? hd)
  have n9 := n p e s m args below meth c C H locs hW hS lsR hl
  exact va_gets hx hb hK.2.2.2.2.1 hS hown (hts _ hf) (fun y h => h) hdg n9
theorem v_gsio {x : Nat} (i : Nat) (hd : k.2.2.2.2.2[i]? = some (pc, .getstatic x, 3)) (hf : Cond.fieldLink k.1 x "jdk/internal/util/Preconditions" "SIOOBE_FORMATTER" "Ljava/util/function/BiFunction;" ∈ tb) (n : ∀ v : Value, (v = .null ∨ v = .ref 120) → V G d k (pc + 3) ls (v :: st) M Q) : V G d k pc ls st M Q := by
  intro p e s m args below meth c C H locs hW hS lsR hl
  obtain ⟨hx, hb, hml, hr, hlk, hown, hts, hK, hdc⟩ := id C
  have hdg := hdc _ (List.mem_of_getElem? hd)
  obtain ⟨v, hv, hZ⟩ := hK.2.2.2.2.2.1
  have n9 := n v hv p e s m args below meth c C H locs hW hS lsR hl
  exact va_gets hx hb hZ hS hown (hts _ hf) (fun y h => h) hdg n9
theorem v_slen {b : Nat} (i : Nat) (hd : k.2.2.2.2.2[i]? = some (pc, .arraylength, 1)) (hs : b < 10) (n : V G d k (pc + 1) ls (.int (J (strLen.getD b 0 : Nat)) :: st) M Q) : V G d k pc ls (.ref (110 + b) :: st) M Q := by
  intro p e s m args below meth c C H locs hW hS lsR hl
  obtain ⟨hx, hb, hml, hr, hlk, hown, hts, hK, hdc⟩ := id C
  have hdg := hdc _ (List.mem_of_getElem? hd)
  have n9 := n p e s m args below meth c C H locs hW hS lsR hl
  show W p (gl G) e (rmD d) s m args below meth c H locs 0 0 (MQ below (QV G Q) args s 0 0 (gA G)) (F0 m pc lsR (.ref (ga G (110 + b)) :: st.map (rv (ga G))))
  rw [hK.2.2.2.2.2.2.1 b hs]
  exact va_tlen hx hb (hK.2.2.1.1 b hs).2.2.2 hS (J_nat _).symm hdg n9
theorem v_sbal {b j : Nat} (i : Nat) (hd : k.2.2.2.2.2[i]? = some (pc, .baload, 1)) (hs : b < 10) (hj : j < strLen.getD b 0) (hj2 : j ≤ 2147483647) (n : V G d k (pc + 1) ls (.int ((strByt.getD b []).getD j 0) :: st) M Q) : V G d k pc ls (.int (J (j : Int)) :: .ref (110 + b) :: st) M Q := by
  intro p e s m args below meth c C H locs hW hS lsR hl
  obtain ⟨hx, hb, hml, hr, hlk, hown, hts, hK, hdc⟩ := id C
  have hdg := hdc _ (List.mem_of_getElem? hd)
  have n9 := n p e s m args below meth c C H locs hW hS lsR hl
  show W p (gl G) e (rmD d) s m args below meth c H locs 0 0 (MQ below (QV G Q) args s 0 0 (gA G)) (F0 m pc lsR (.int (J (j : Int)) :: .ref (ga G (110 + b)) :: st.map (rv (ga G))))
  rw [hK.2.2.2.2.2.2.1 b hs]
  refine va_tb hx hb (hK.2.2.1.1 b hs).2.2.2 hS (J_in (by omega)) (v := .int ((strByt.getD b []).getD j 0)) ?_ hdg n9
  rw [J_clamp (by omega)]; rfl
theorem v_f2i9 {x : Nat} {b : UInt32} (i : Nat) (hd : k.2.2.2.2.2[i]? = some (pc, .invokestatic x, 3)) (hw : Cond.methodLink k.1 x ⟨"java/lang/Float", "floatToRawIntBits", "(F)I"⟩ ∈ tb) (hm : (st.map fun v => v.category).sum ≤ 8) (n : V G (d + 1) k (pc + 3) ls (.int b.toInt32 :: st) M Q) : V G (d + 1) k pc ls (.float b :: st) M Q := by
  intro p e s m args below meth c C H locs hW hS lsR hl
  obtain ⟨hx, hb, hml, hr, hlk, hown, hts, hK, hdc⟩ := id C
  have hdg := hdc _ (List.mem_of_getElem? hd)
  have n9 := n p e s m args below meth c C H locs hW hS lsR hl
  refine vn_f2i hx hb (hml.trans hl.1.symm) hown (hts _ hw) (hts _ nt_f2i_na) (hts _ nt_f2i_st) (hts _ nt_f2i_ini) ?_ ?_ hdg n9
  · show 1 ≤ d + 1; omega
  · rw [cat_map]; show _ ≤ 64 * (d + 1); omega
theorem v_d2l9 {x : Nat} {b : UInt64} (i : Nat) (hd : k.2.2.2.2.2[i]? = some (pc, .invokestatic x, 3)) (hw : Cond.methodLink k.1 x ⟨"java/lang/Double", "doubleToRawLongBits", "(D)J"⟩ ∈ tb) (hm : (st.map fun v => v.category).sum ≤ 8) (n : V G (d + 1) k (pc + 3) ls (.long b.toInt64 :: st) M Q) : V G (d + 1) k pc ls (.double b :: st) M Q := by
  intro p e s m args below meth c C H locs hW hS lsR hl
  obtain ⟨hx, hb, hml, hr, hlk, hown, hts, hK, hdc⟩ := id C
  have hdg := hdc _ (List.mem_of_getElem? hd)
  have n9 := n p e s m args below meth c C H locs hW hS lsR hl
  refine vn_d2l hx hb (hml.trans hl.1.symm) hown (hts _ hw) (hts _ nt_d2l_na) (hts _ nt_d2l_st) (hts _ nt_d2l_ini) ?_ ?_ hdg n9
  · show 1 ≤ d + 1; omega
  · rw [cat_map]; show _ ≤ 64 * (d + 1); omega
theorem v_cW0i {k2 : Mth} {x b : Nat} {rest : List Value} {M2 : Mem} {z : Int32} (i : Nat) (hd : k.2.2.2.2.2[i]? = some (pc, .invokevirtual x, 3)) (hc : CVs k.1 x k2 0) (hs : b < 10) (hr : (rest.map fun v => v.category).sum ≤ 8) (hlen : (entL [.ref (100 + b)]).length ≤ k2.2.2.2.1) (hV : V G d k2 0 (ent k2.2.2.2.1 [.ref (100 + b)]) [] M (Ret (some (.int z)) M2)) (nx : V G (d + 1) k (pc + 3) ls (.int z :: rest) M2 Q) : V G (d + 1) k pc ls (.ref (100 + b) :: rest) M Q := v_callVs (As := []) i hd hc rfl hs hr hlen hV (fun r N h => by obtain ⟨rfl, rfl⟩ := h; exact nx)
theorem v_cW1i {k2 : Mth} {x b : Nat} {rest : List Value} {M2 : Mem} {a1 : Value} {z : Int32} (i : Nat) (hd : k.2.2.2.2.2[i]? = some (pc, .invokevirtual x, 3)) (hc : CVs k.1 x k2 1) (hs : b < 10) (hr : (rest.map fun v => v.category).sum ≤ 8) (hlen : (entL [.ref (100 + b), a1]).length ≤ k2.2.2.2.1) (hV : V G d k2 0 (ent k2.2.2.2.1 [.ref (100 + b), a1]) [] M (Ret (some (.int z)) M2)) (nx : V G (d + 1) k (pc + 3) ls (.int z :: rest) M2 Q) : V G (d + 1) k pc ls (a1 :: .ref (100 + b) :: rest) M Q := v_callVs (As := [a1]) i hd hc rfl hs hr hlen hV (fun r N h => by obtain ⟨rfl, rfl⟩ := h; exact nx)
end VJdk
theorem fc_f {x : UInt32} {s : Bool} {c : Nat} {q : Int} (h : FP.Core.decode FP.Core.b32 x.toNat = .fin s c q) : FP.fcmp x x = some .eq := by
  show FP.Core.order (FP.Core.decode FP.Core.b32 x.toNat) (FP.Core.decode FP.Core.b32 x.toNat) = _
  rw [h]
  show some (compare _ _) = _
  congr 1
  exact Int.compare_eq_eq.mpr rfl
theorem fc_d {x : UInt64} {s : Bool} {c : Nat} {q : Int} (h : FP.Core.decode FP.Core.b64 x.toNat = .fin s c q) : FP.dcmp x x = some .eq := by
  show FP.Core.order (FP.Core.decode FP.Core.b64 x.toNat) (FP.Core.decode FP.Core.b64 x.toNat) = _
  rw [h]
  show some (compare _ _) = _
  congr 1
  exact Int.compare_eq_eq.mpr rfl
theorem u32J (b : UInt32) : b.toInt32 = J (b.toNat : Int) := by
  rw [J_nat]
  apply Int32.toBitVec_inj.mp
  show b.toBitVec = BitVec.ofNat 32 b.toNat
  simp
theorem u64J (b : UInt64) : b.toInt64 = JL (b.toNat : Int) := by
  unfold JL
  rw [Int64.ofInt_eq_ofNat]
  apply Int64.toBitVec_inj.mp
  show b.toBitVec = BitVec.ofNat 64 b.toNat
  simp
section VJ
variable {G : Gt} {d : Nat} {M : Mem}
theorem j_isNaNd {x : UInt64} {s : Bool} {c : Nat} {q : Int} (h : FP.Core.decode FP.Core.b64 x.toNat = .fin s c q) : V G d mJxe99ae_isNaN_b9ae7 0 [some (.double x), none] [] M (Ret (some (.int (J 0))) M) := by
  refine v_dload_n (pc := 0) 0 rfl rfl ?_
  refine v_dload_n (pc := 1) 1 rfl rfl ?_
  refine v_dcmp (pc := 2) 2 rfl (0) (by rw [fc_d h]; decide) ?_
  refine v_if_eqT (pc := 3) 3 10 rfl (by decide) (by omega) (by decide) ?_
  refine v_iconst (pc := 10) 6 rfl ?_
  refine v_zret (pc := 11) 7 rfl rfl (by decide) ⟨rfl, rfl⟩
theorem j_d2l {x : UInt64} {s : Bool} {c : Nat} {q : Int} (h : FP.Core.decode FP.Core.b64 x.toNat = .fin s c q) : V G (d + 1) mJxe99ae_doubleToLongBits_ccdee 0 [some (.double x), none] [] M (Ret (some (.long (JL (x.toNat : Int)))) M) := by
  refine v_dload_n (pc := 0) 0 rfl rfl ?_
  refine v_cS1i (pc := 1) 1 rfl cs_Jxe99ae_122 (Nat.le_of_ble_eq_true rfl) (Nat.le_of_ble_eq_true rfl) (j_isNaNd h) ?_
  refine v_if_neF (pc := 4) 2 12 rfl (by decide) (by omega) (by decide) ?_
  refine v_dload_n (pc := 7) 3 rfl rfl ?_
  refine v_d2l9 (pc := 8) 4 rfl ml_Jxe99ae_134 (Nat.le_of_ble_eq_true rfl) ?_
  rw [u64J]
  refine v_lret (pc := 11) 5 rfl rfl ⟨rfl, rfl⟩
theorem j_chk3 {i n : Nat} {v : Option Value} (hi : i < n ∧ n ≤ 100) : V G d mJ3_checkIndex_8e157 0 [some (.int (J (i : Int))), some (.int (J (n : Int))), v] [] M (Ret (some (.int (J (i : Int)))) M) := by
  refine v_iload_n (pc := 0) 0 rfl rfl ?_
  refine v_if_ltF (pc := 1) 1 9 rfl (by decide) (by omega) (by omega) ?_
  refine v_iload_n (pc := 4) 2 rfl rfl ?_
  refine v_iload_n (pc := 5) 3 rfl rfl ?_
  refine v_ic_ltT (pc := 6) 4 16 rfl (by decide) (by omega) (by omega) ?_
  refine v_iload_n (pc := 16) 10 rfl rfl ?_
  refine v_iret (pc := 17) 11 rfl rfl ⟨rfl, rfl⟩
theorem j_chk {i n : Nat} (hi : i < n ∧ n ≤ 100) : V G (d + 1) mJ0_checkIndex_df160 0 [some (.int (J (i : Int))), some (.int (J (n : Int)))] [] M (Ret none M) := by
  refine v_iload_n (pc := 0) 0 rfl rfl ?_
  refine v_iload_n (pc := 1) 1 rfl rfl ?_
  refine v_gsio (pc := 2) 2 rfl fw_J0_1053 (fun v9 hv9 => ?_)
  rcases hv9 with rfl | rfl
  · refine v_cS3i (pc := 5) 3 rfl cs_J0_1059 (Nat.le_of_ble_eq_true rfl) (Nat.le_of_ble_eq_true rfl) (j_chk3 hi) ?_
    refine v_pop (pc := 8) 4 rfl rfl ?_
    refine v_ret (pc := 9) 5 rfl rfl ⟨rfl, rfl⟩
  · refine v_cS3i (pc := 5) 3 rfl cs_J0_1059 (Nat.le_of_ble_eq_true rfl) (Nat.le_of_ble_eq_true rfl) (j_chk3 hi) ?_
    refine v_pop (pc := 8) 4 rfl rfl ?_
    refine v_ret (pc := 9) 5 rfl rfl ⟨rfl, rfl⟩
theorem str_fact : ∀ b : Fin 10, strLen.getD b 0 = (strByt.getD b []).length ∧ strLen.getD b 0 ≤ 100 ∧ ∀ x ∈ strByt.getD b [], (97 ≤ x.toInt ∧ x.toInt ≤ 122) ∧ x &&& J 255 = x ∧ (x.toUInt32 % 65536).toInt32 = x ∧ narrow .char (.int x) = .int x := by decide +kernel
/-- the j-th letter of word b -/
def chr (b j : Nat) : Int := ((strByt.getD b []).getD j 0).toInt
theorem chr_ok {b j : Nat} (hb : b < 10) (hj : j < strLen.getD b 0) : (strByt.getD b []).getD j 0 = J (chr b j) ∧ (97 ≤ chr b j ∧ chr b j ≤ 122) ∧ J (chr b j) &&& J 255 = J (chr b j) ∧ ((J (chr b j)).toUInt32 % 65536).toInt32 = J (chr b j) ∧ narrow .char (.int (J (chr b j))) = .int (J (chr b j)) ∧ strLen.getD b 0 ≤ 100 := by
  obtain ⟨h1, h2, h3⟩ := str_fact ⟨b, hb⟩
  have e : (strByt.getD b []).getD j 0 = J (chr b j) := (J_of _).symm
  have hm9 : ∀ l : List Int32, j < l.length → l.getD j 0 ∈ l := fun l hl => by
    rw [List.getD_eq_getElem?_getD, List.getElem?_eq_getElem hl]; exact List.getElem_mem _
  have h1 : strLen.getD b 0 = (strByt.getD b []).length := h1
  have hm := hm9 (strByt.getD b []) (by rw [← h1]; exact hj)
  obtain ⟨k1, k2, k3, k4⟩ := h3 _ hm
  rw [← e]
  exact ⟨rfl, k1, k2, k3, k4, h2⟩
theorem j_isLatin1 {b : Nat} (hsx : b < 10) : V G d mJ0_isLatin1_aae02 0 [some (.ref (100 + b))] [] M (Ret (some (.int (J 1))) M) := by
  refine v_gcs (pc := 0) 0 rfl fw_J0_38 ?_
  refine v_if_eqF (pc := 3) 1 17 rfl (by decide) (by omega) (by decide) ?_
  refine v_aload_n (pc := 6) 2 rfl rfl ?_
  refine v_scod (pc := 7) 3 rfl fw_J0_15 hsx ?_
  refine v_if_neF (pc := 10) 4 17 rfl (by decide) (by omega) (by decide) ?_
  refine v_iconst (pc := 13) 5 rfl ?_
  refine v_goto (pc := 14) 6 18 rfl (by decide) ?_
  refine v_zret (pc := 18) 8 rfl rfl (by decide) ⟨rfl, rfl⟩
theorem j_coder {b : Nat} (hsx : b < 10) : V G d mJ0_coder_7d493 0 [some (.ref (100 + b))] [] M (Ret (some (.int (J 0))) M) := by
  refine v_gcs (pc := 0) 0 rfl fw_J0_38 ?_
  refine v_if_eqF (pc := 3) 1 13 rfl (by decide) (by omega) (by decide) ?_
  refine v_aload_n (pc := 6) 2 rfl rfl ?_
  refine v_scod (pc := 7) 3 rfl fw_J0_15 hsx ?_
  refine v_goto (pc := 10) 4 14 rfl (by decide) ?_
  refine v_nret (pc := 14) 6 rfl rfl (by decide) ⟨rfl, rfl⟩
theorem j_length {b : Nat} (hsx : b < 10) : V G (d + 1) mJ0_length_8abf5 0 [some (.ref (100 + b))] [] M (Ret (some (.int (J (strLen.getD b 0 : Nat)))) M) := by
  have hl : strLen.getD b 0 ≤ 100 := (str_fact ⟨b, hsx⟩).2.1
  have h9 : ∀ n : Fin 101, J ((n : Nat) : Int) >>> (J 0 &&& 31) = J ((n : Nat) : Int) := by decide +kernel
  have h8 := h9 ⟨strLen.getD b 0, by omega⟩
  refine v_aload_n (pc := 0) 0 rfl rfl ?_
  refine v_sval (pc := 1) 1 rfl fw_J0_9 hsx ?_
  refine v_slen (pc := 4) 2 rfl hsx ?_
  refine v_aload_n (pc := 5) 3 rfl rfl ?_
  refine v_cW0i (pc := 6) 4 rfl cw_J0_335 hsx (Nat.le_of_ble_eq_true rfl) (Nat.le_of_ble_eq_true rfl) (j_coder hsx) ?_
  refine v_ishr (pc := 9) 5 rfl ((strLen.getD b 0 : Nat)) h8 ?_
  refine v_iret (pc := 10) 6 rfl rfl ⟨rfl, rfl⟩
theorem j_charAt1 {b j : Nat} (hsx : b < 10) (hj : j < strLen.getD b 0) : V G (d + 2) mJ1_charAt_3b067 0 [some (.ref (110 + b)), some (.int (J (j : Int)))] [] M (Ret (some (.int (J (chr b j)))) M) := by
  obtain ⟨h1, h2, h3, h4, h5, h6⟩ := chr_ok hsx hj
  refine v_iload_n (pc := 0) 0 rfl rfl ?_
  refine v_aload_n (pc := 1) 1 rfl rfl ?_
  refine v_slen (pc := 2) 2 rfl hsx ?_
  refine v_cS2v (pc := 3) 3 rfl cs_J1_9 (Nat.le_of_ble_eq_true rfl) (Nat.le_of_ble_eq_true rfl) (j_chk ⟨hj, h6⟩) ?_
  refine v_aload_n (pc := 6) 4 rfl rfl ?_
  refine v_iload_n (pc := 7) 5 rfl rfl ?_
  refine v_sbal (pc := 8) 6 rfl hsx hj (by omega) ?_
  rw [h1]
  refine v_sipush (pc := 9) 7 rfl (by decide) ?_
  refine v_iand (pc := 12) 8 rfl (chr b j) h3 ?_
  refine v_i2c (pc := 13) 9 rfl h4 ?_
  refine v_nret (pc := 14) 10 rfl rfl h5 ⟨rfl, rfl⟩
theorem j_charAt {b j : Nat} (hsx : b < 10) (hj : j < strLen.getD b 0) : V G (d + 3) mJ0_charAt_5068e 0 [some (.ref (100 + b)), some (.int (J (j : Int)))] [] M (Ret (some (.int (J (chr b j)))) M) := by
  obtain ⟨h1, h2, h3, h4, h5, h6⟩ := chr_ok hsx hj
  refine v_aload_n (pc := 0) 0 rfl rfl ?_
  refine v_cW0i (pc := 1) 1 rfl cw_J0_492 hsx (Nat.le_of_ble_eq_true rfl) (Nat.le_of_ble_eq_true rfl) (j_isLatin1 hsx) ?_
  refine v_if_eqF (pc := 4) 2 16 rfl (by decide) (by omega) (by decide) ?_
  refine v_aload_n (pc := 7) 3 rfl rfl ?_
  refine v_sval (pc := 8) 4 rfl fw_J0_9 hsx ?_
  refine v_iload_n (pc := 11) 5 rfl rfl ?_
  refine v_cS2i (pc := 12) 6 rfl cs_J0_495 (Nat.le_of_ble_eq_true rfl) (Nat.le_of_ble_eq_true rfl) (j_charAt1 hsx hj) ?_
  refine v_nret (pc := 15) 7 rfl rfl h5 ⟨rfl, rfl⟩
end VJ
