/-! 85: the law's cases -/
section LawC
variable {G : Gt} {d b L : Nat} {xs : Nat → Int32} {nc ns i : Nat} {M : Mem} {A : Ax} {l5 l6 : Option Value} {c c2 : Nat}
abbrev LwS (i : Nat) (l5 l6 : Option Value) : List (Option Value) := [some (.ref 140), some (.ref 0), some (.ref 54), some (.ref 83), some (.int (J (i : Int))), l5, l6]
def LwN (G : Gt) (b L : Nat) (xs : Nat → Int32) (nc ns i : Nat) : Prop := ∀ (l5 l6 : Option Value) (M : Mem) (A : Ax), CR M A → MR M A → U G (XL b L xs) (nc + 1) (ns + 6) mL 1195 (LwS i l5 l6) [] M
theorem u_arg {kk : Int} {k pc : Nat} {st : List Value} (hG : ga G 140 = b) (hL : L ≤ 3072) (hi : i + k < L) (j0 j1 j2 j3 j4 p1 p2 p3 p4 : Nat) (d0 : mL.2.2.2.2.2[j0]? = some (pc, .aload_n 0, 1)) (d1 : mL.2.2.2.2.2[j1]? = some (p1, .iload 4, 2)) (d2 : mL.2.2.2.2.2[j2]? = some (p2, .iconst kk, 1)) (d3 : mL.2.2.2.2.2[j3]? = some (p3, .iadd, 1)) (d4 : mL.2.2.2.2.2[j4]? = some (p4, .iaload, 1)) (e : p1 = pc + 1 ∧ p2 = pc + 3 ∧ p3 = pc + 4 ∧ p4 = pc + 5) (hk : kk = (k : Int)) (n : U G (XL b L xs) nc ns mL (pc + 6) (LwS i l5 l6) (.int (J (xs (i + k)).toInt) :: st) M) : U G (XL b L xs) nc ns mL pc (LwS i l5 l6) st M := by
  obtain ⟨rfl, rfl, rfl, rfl⟩ := e
  subst hk
  refine u_aload_n j0 d0 rfl ?_
  refine u_iload j1 d1 rfl ?_
  refine u_iconst j2 d2 ?_
  refine u_iadd j3 d3 ?_
  have e2 : ((i : Int) + (k : Int)) = ((i + k : Nat) : Int) := by omega
  rw [e2]
  exact u_sld hG j4 d4 ⟨hi, hL⟩ n
theorem m_thrown {v : Int} (hv : gI M 54 0 = v) : V G d mX12_thrown 0 [some (.ref 54)] [] M (Ret (some (.int (J v))) M) := by
  refine v_aload_n (pc := 0) 0 rfl rfl ?_
  refine v_getI (pc := 1) 1 rfl fl_X12_97 rfl ?_
  rw [hv]
  exact v_iret (pc := 4) 2 rfl rfl ⟨rfl, rfl⟩
theorem MR.sl (h : MR M A) (v : Int64) : MR (sL M 83 0 v) A := by
  obtain ⟨h1, h2, h3, h4, h5, h6⟩ := h
  exact ⟨h1.keep (fun q _ => rfl), h2, h3, h4, h5, h6⟩
theorem mf_sl (M : Mem) (v : Int64) : MF M (sL M 83 0 v) := ⟨fun q hq => ⟨rfl, gL_sL_ne (by omega)⟩, rfl⟩
theorem u_laldE {X : UX} {k : Mth} {pc : Nat} {ls : List (Option Value)} {st : List Value} {v : Int64} {z : Int} {a n0 : Nat} (i : Nat) (hd : k.2.2.2.2.2[i]? = some (pc, .laload, 1)) (hs : shL[a]? = some (.inl (.long, n0))) (hz : 0 ≤ z ∧ z < (n0 : Int) ∧ z ≤ 2147483647) (hv : gL M a z.toNat = v) (n : U G X nc ns k (pc + 1) ls (.long v :: st) M) : U G X nc ns k pc ls (.int (J z) :: .ref a :: st) M := by
  subst hv
  exact u_lald i hd hs hz n
theorem CRc.bytes (h : CRc M A c c2) : ∀ i, i < aN A → -128 ≤ aB A i ∧ aB A i < 128 := fun i hi => (h.2.2.2.2.2.2.1.2.2 i hi).2
theorem lc_feed (hG : ga G 140 = b) (hL : L ≤ 3072) (hi : i + 6 ≤ L) (hr : nc + 1 ≤ 601024 ∧ ns + 6 ≤ 7293034) (hl : (gl G).stackTraces = false) (nx : LwN G b L xs nc ns i) (h : CRc M A c c2) (hm : MR M A) : U G (XL b L xs) nc ns mL 168 (LwS i l5 l6) [] M := by
  have hn : nc ≤ 601024 ∧ ns ≤ 7293034 := by omega
  refine u_aload_n (pc := 168) _ (lk2 0 rfl) rfl ?_
  refine u_arg (k := 1) (kk := 1) (pc := 169) hG hL (by omega) _ _ _ _ _ 170 172 173 174 (lk2 1 rfl) (lk2 2 rfl) (lk2 3 rfl) (lk2 4 rfl) (lk2 5 rfl) (by decide) rfl ?_
  refine u_arg (k := 2) (kk := 2) (pc := 175) hG hL (by omega) _ _ _ _ _ 176 178 179 180 (lk2 6 rfl) (lk2 7 rfl) (lk2 8 rfl) (lk2 9 rfl) (lk2 10 rfl) (by decide) rfl ?_
  refine u_arg (k := 3) (kk := 3) (pc := 181) hG hL (by omega) _ _ _ _ _ 182 184 185 186 (lk2 11 rfl) (lk2 12 rfl) (lk2 13 rfl) (lk2 14 rfl) (lk2 15 rfl) (by decide) rfl ?_
  refine u_arg (k := 4) (kk := 4) (pc := 187) hG hL (by omega) _ _ _ _ _ 188 190 191 192 (lk2 16 rfl) (lk2 17 rfl) (lk2 18 rfl) (lk2 19 rfl) (lk2 20 rfl) (by decide) rfl ?_
  refine u_arg (k := 5) (kk := 5) (pc := 193) hG hL (by omega) _ _ _ _ _ 194 196 197 198 (lk2 21 rfl) (lk2 22 rfl) (lk2 23 rfl) (lk2 24 rfl) (lk2 25 rfl) (by decide) rfl ?_
  refine u_callV (d := 1) (As := [.int (J (xs (i + 1)).toInt), .int (J (xs (i + 2)).toInt), .int (J (xs (i + 3)).toInt), .int (J (xs (i + 4)).toInt), .int (J (xs (i + 5)).toInt)]) (rest := []) (b := 0) (pc := 199) _ (lk2 26 rfl) cvL_26 rfl rfl (Nat.le_of_ble_eq_true rfl) (Nat.le_of_ble_eq_true rfl) (kzL G) ⟨⟨(by decide : 1 + 1 ≤ 2048), (by decide : 64 * (1 + 1) ≤ 84000)⟩, hn⟩ (c_feed (d := 0) h (J_rng _) (J_rng _) (J_rng _) (J_rng _) (J_rng _)) (fun r N hr9 => ?_)
  obtain ⟨rfl, h2, hf⟩ := hr9
  refine u_aload_n (pc := 202) _ (lk2 27 rfl) rfl ?_
  refine u_arg (k := 1) (kk := 1) (pc := 203) hG hL (by omega) _ _ _ _ _ 204 206 207 208 (lk2 28 rfl) (lk2 29 rfl) (lk2 30 rfl) (lk2 31 rfl) (lk2 32 rfl) (by decide) rfl ?_
  refine u_arg (k := 2) (kk := 2) (pc := 209) hG hL (by omega) _ _ _ _ _ 210 212 213 214 (lk2 33 rfl) (lk2 34 rfl) (lk2 35 rfl) (lk2 36 rfl) (lk2 37 rfl) (by decide) rfl ?_
  refine u_arg (k := 3) (kk := 3) (pc := 215) hG hL (by omega) _ _ _ _ _ 216 218 219 220 (lk2 38 rfl) (lk2 39 rfl) (lk2 40 rfl) (lk2 41 rfl) (lk2 42 rfl) (by decide) rfl ?_
  refine u_arg (k := 4) (kk := 4) (pc := 221) hG hL (by omega) _ _ _ _ _ 222 224 225 226 (lk2 43 rfl) (lk2 44 rfl) (lk2 45 rfl) (lk2 46 rfl) (lk2 47 rfl) (by decide) rfl ?_
  refine u_arg (k := 5) (kk := 5) (pc := 227) hG hL (by omega) _ _ _ _ _ 228 230 231 232 (lk2 48 rfl) (lk2 49 rfl) (lk2 50 rfl) (lk2 51 rfl) (lk2 52 rfl) (by decide) rfl ?_
  refine u_callV (d := 1) (As := [.int (J (xs (i + 1)).toInt), .int (J (xs (i + 2)).toInt), .int (J (xs (i + 3)).toInt), .int (J (xs (i + 4)).toInt), .int (J (xs (i + 5)).toInt)]) (rest := [.int (J (sFeed A (xs (i + 1)).toInt (xs (i + 2)).toInt (xs (i + 3)).toInt (xs (i + 4)).toInt (xs (i + 5)).toInt).1)]) (b := 54) (pc := 233) _ (lk2 53 rfl) cvL_30 rfl rfl (Nat.le_of_ble_eq_true rfl) (Nat.le_of_ble_eq_true rfl) (kzL G) ⟨⟨(by decide : 1 + 1 ≤ 2048), (by decide : 64 * (1 + 1) ≤ 84000)⟩, hn⟩ (m_feed (d := 0) (hm.cf hf) (J_rng _) (J_rng _) (J_rng _) (J_rng _) (J_rng _)) (fun r N hr9 => ?_)
  obtain ⟨rfl, hm2, hf2⟩ := hr9
  refine u_icEq (y := J (sFeed A (xs (i + 1)).toInt (xs (i + 2)).toInt (xs (i + 3)).toInt (xs (i + 4)).toInt (xs (i + 5)).toInt).1) (pc := 236) _ 1195 (lk2 54 rfl) (by decide) ?_
  exact u_wide (Nat.le_succ _) (Nat.le_add_right _ 6) (nx _ _ _ _ ⟨c, c2, h2.mf hf2⟩ hm2)
theorem lc_courts (hG : ga G 140 = b) (hL : L ≤ 3072) (hi : i + 6 ≤ L) (hr : nc + 1 ≤ 601024 ∧ ns + 6 ≤ 7293034) (hl : (gl G).stackTraces = false) (nx : LwN G b L xs nc ns i) (h : CRc M A c c2) (hm : MR M A) : U G (XL b L xs) nc ns mL 241 (LwS i l5 l6) [] M := by
  have hn : nc ≤ 601024 ∧ ns ≤ 7293034 := by omega
  refine u_aload_n (pc := 241) _ (lk3 0 rfl) rfl ?_
  refine u_arg (k := 1) (kk := 1) (pc := 242) hG hL (by omega) _ _ _ _ _ 243 245 246 247 (lk3 1 rfl) (lk3 2 rfl) (lk3 3 rfl) (lk3 4 rfl) (lk3 5 rfl) (by decide) rfl ?_
  refine u_callV (d := 6) (As := [.int (J (xs (i + 1)).toInt)]) (rest := []) (b := 0) (pc := 248) _ (lk3 6 rfl) cvL_31 rfl rfl (Nat.le_of_ble_eq_true rfl) (Nat.le_of_ble_eq_true rfl) (kzL G) ⟨⟨(by decide : 6 + 1 ≤ 2048), (by decide : 64 * (6 + 1) ≤ 84000)⟩, hn⟩ (c_courts (d := 0) h (J_rng _)) (fun r N hr9 => ?_)
  obtain ⟨D, hD, rfl, ⟨c9, c8, h2⟩, hf⟩ := hr9
  refine u_aload_n (pc := 251) _ (lk3 7 rfl) rfl ?_
  refine u_arg (k := 1) (kk := 1) (pc := 252) hG hL (by omega) _ _ _ _ _ 253 255 256 257 (lk3 8 rfl) (lk3 9 rfl) (lk3 10 rfl) (lk3 11 rfl) (lk3 12 rfl) (by decide) rfl ?_
  refine u_callV (d := 11) (As := [.int (J (xs (i + 1)).toInt)]) (rest := [.int (J (sCourts A D (xs (i + 1)).toInt).1)]) (b := 54) (pc := 258) _ (lk3 13 rfl) cvL_34 rfl rfl (Nat.le_of_ble_eq_true rfl) (Nat.le_of_ble_eq_true rfl) (kzL G) ⟨⟨(by decide : 11 + 1 ≤ 2048), (by decide : 64 * (11 + 1) ≤ 84000)⟩, hn⟩ (m_courts (d := 0) (hm.cf hf) h.bytes hD (J_rng _)) (fun r N hr9 => ?_)
  obtain ⟨rfl, hm2, hf2⟩ := hr9
  refine u_icEq (y := J (sCourts A D (xs (i + 1)).toInt).1) (pc := 261) _ 1195 (lk3 14 rfl) (by decide) ?_
  exact u_wide (Nat.le_succ _) (Nat.le_add_right _ 6) (nx _ _ _ _ ⟨c9, c8, h2.mf hf2⟩ hm2)
theorem lc_travel (hG : ga G 140 = b) (hL : L ≤ 3072) (hi : i + 6 ≤ L) (hr : nc + 1 ≤ 601024 ∧ ns + 6 ≤ 7293034) (hl : (gl G).stackTraces = false) (nx : LwN G b L xs nc ns i) (h : CRc M A c c2) (hm : MR M A) : U G (XL b L xs) nc ns mL 266 (LwS i l5 l6) [] M := by
  have hn : nc ≤ 601024 ∧ ns ≤ 7293034 := by omega
  refine u_aload_n (pc := 266) _ (lk4 0 rfl) rfl ?_
  refine u_arg (k := 1) (kk := 1) (pc := 267) hG hL (by omega) _ _ _ _ _ 268 270 271 272 (lk4 1 rfl) (lk4 2 rfl) (lk4 3 rfl) (lk4 4 rfl) (lk4 5 rfl) (by decide) rfl ?_
  refine u_arg (k := 2) (kk := 2) (pc := 273) hG hL (by omega) _ _ _ _ _ 274 276 277 278 (lk4 6 rfl) (lk4 7 rfl) (lk4 8 rfl) (lk4 9 rfl) (lk4 10 rfl) (by decide) rfl ?_
  refine u_callV (d := 1) (As := [.int (J (xs (i + 1)).toInt), .int (J (xs (i + 2)).toInt)]) (rest := []) (b := 0) (pc := 279) _ (lk4 11 rfl) cvL_35 rfl rfl (Nat.le_of_ble_eq_true rfl) (Nat.le_of_ble_eq_true rfl) (kzL G) ⟨⟨(by decide : 1 + 1 ≤ 2048), (by decide : 64 * (1 + 1) ≤ 84000)⟩, hn⟩ (c_travel (d := 0) h (J_rng _) (J_rng _)) (fun r N hr9 => ?_)
  obtain ⟨rfl, rfl⟩ := hr9
  refine u_aload_n (pc := 282) _ (lk4 12 rfl) rfl ?_
  refine u_arg (k := 1) (kk := 1) (pc := 283) hG hL (by omega) _ _ _ _ _ 284 286 287 288 (lk4 13 rfl) (lk4 14 rfl) (lk4 15 rfl) (lk4 16 rfl) (lk4 17 rfl) (by decide) rfl ?_
  refine u_arg (k := 2) (kk := 2) (pc := 289) hG hL (by omega) _ _ _ _ _ 290 292 293 294 (lk4 18 rfl) (lk4 19 rfl) (lk4 20 rfl) (lk4 21 rfl) (lk4 22 rfl) (by decide) rfl ?_
  refine u_callV (d := 2) (As := [.int (J (xs (i + 1)).toInt), .int (J (xs (i + 2)).toInt)]) (rest := [.int (J (sTravel A (xs (i + 1)).toInt (xs (i + 2)).toInt))]) (b := 54) (pc := 295) _ (lk4 23 rfl) cvL_38 rfl rfl (Nat.le_of_ble_eq_true rfl) (Nat.le_of_ble_eq_true rfl) (kzL G) ⟨⟨(by decide : 2 + 1 ≤ 2048), (by decide : 64 * (2 + 1) ≤ 84000)⟩, hn⟩ (m_travel (d := 0) hm (J_rng _) (J_rng _)) (fun r N hr9 => ?_)
  obtain ⟨rfl, rfl⟩ := hr9
  refine u_icEq (y := J (sTravel A (xs (i + 1)).toInt (xs (i + 2)).toInt)) (pc := 298) _ 1195 (lk4 24 rfl) (by decide) ?_
  exact u_wide (Nat.le_succ _) (Nat.le_add_right _ 6) (nx _ _ _ _ ⟨c, c2, h.mf (mf_fld _ 0 0)⟩ (hm.fld 0 (by decide)))
theorem lc_judge (hG : ga G 140 = b) (hL : L ≤ 3072) (hi : i + 6 ≤ L) (hr : nc + 1 ≤ 601024 ∧ ns + 6 ≤ 7293034) (hl : (gl G).stackTraces = false) (nx : LwN G b L xs nc ns i) (h : CRc M A c c2) (hm : MR M A) : U G (XL b L xs) nc ns mL 303 (LwS i l5 l6) [] M := by
  have hn : nc ≤ 601024 ∧ ns ≤ 7293034 := by omega
  refine u_aload_n (pc := 303) _ (lk5 0 rfl) rfl ?_
  refine u_arg (k := 1) (kk := 1) (pc := 304) hG hL (by omega) _ _ _ _ _ 305 307 308 309 (lk5 1 rfl) (lk5 2 rfl) (lk5 3 rfl) (lk5 4 rfl) (lk5 5 rfl) (by decide) rfl ?_
  refine u_arg (k := 2) (kk := 2) (pc := 310) hG hL (by omega) _ _ _ _ _ 311 313 314 315 (lk5 6 rfl) (lk5 7 rfl) (lk5 8 rfl) (lk5 9 rfl) (lk5 10 rfl) (by decide) rfl ?_
  refine u_aload_n (pc := 316) _ (lk5 11 rfl) rfl ?_
  by_cases hq : judOk A (xs (i + 1)).toInt (xs (i + 2)).toInt
  · refine u_callW (As := [.ref 0, .int (J (xs (i + 1)).toInt), .int (J (xs (i + 2)).toInt), .ref 83]) (rest := []) (pc := 317) _ (lk5 12 rfl) rfl cw_judge rfl (Nat.le_of_ble_eq_true rfl) (Nat.le_of_ble_eq_true rfl) (kzL G) ⟨⟨(by decide : 10 ≤ 2048), (by decide : 640 ≤ 84000)⟩, hr⟩ (w_judge h hq) (fun r N hr9 => ?_)
    obtain ⟨rfl, rfl⟩ := hr9
    refine u_istore (pc := 320) _ (lk5 13 rfl) ⟨(Nat.le_of_ble_eq_true rfl), rfl⟩ ?_
    show U G (XL b L xs) (nc + 1) (ns + 6) mL 322 (LwS i (some (.int (J 0))) l6) [] (sL M 83 0 (J (sJud A (xs (i + 1)).toInt (xs (i + 2)).toInt)).toInt64)
    refine u_aload_n (pc := 322) _ (lk5 14 rfl) rfl ?_
    refine u_arg (k := 1) (kk := 1) (pc := 323) hG hL (by omega) _ _ _ _ _ 324 326 327 328 (lk5 15 rfl) (lk5 16 rfl) (lk5 17 rfl) (lk5 18 rfl) (lk5 19 rfl) (by decide) rfl ?_
    refine u_arg (k := 2) (kk := 2) (pc := 329) hG hL (by omega) _ _ _ _ _ 330 332 333 334 (lk5 20 rfl) (lk5 21 rfl) (lk5 22 rfl) (lk5 23 rfl) (lk5 24 rfl) (by decide) rfl ?_
    refine u_callV (d := 2) (As := [.int (J (xs (i + 1)).toInt), .int (J (xs (i + 2)).toInt)]) (rest := []) (b := 54) (pc := 335) _ (lk5 25 rfl) cvL_44 rfl rfl (Nat.le_of_ble_eq_true rfl) (Nat.le_of_ble_eq_true rfl) (kzL G) ⟨⟨(by decide : 2 + 1 ≤ 2048), (by decide : 64 * (2 + 1) ≤ 84000)⟩, hr⟩ (m_judge (d := 0) (hm.sl _) (J_rng _) (J_rng _) hq) (fun r N hr9 => ?_)
    obtain ⟨rfl, rfl⟩ := hr9
    refine u_istore (pc := 338) _ (lk5 26 rfl) ⟨(Nat.le_of_ble_eq_true rfl), rfl⟩ ?_
    show U G (XL b L xs) (nc + 1) (ns + 6) mL 340 (LwS i (some (.int (J 0))) (some (.int (J (sJud A (xs (i + 1)).toInt (xs (i + 2)).toInt))))) [] (sI (sL M 83 0 (J (sJud A (xs (i + 1)).toInt (xs (i + 2)).toInt)).toInt64) 54 0 0)
    refine u_aload_n (pc := 340) _ (lk5 27 rfl) rfl ?_
    refine u_callV (d := 0) (As := []) (rest := []) (b := 54) (pc := 341) _ (lk5 28 rfl) cvL_45 rfl rfl (Nat.le_of_ble_eq_true rfl) (Nat.le_of_ble_eq_true rfl) (kzL G) ⟨⟨(by decide : 0 + 1 ≤ 2048), (by decide : 64 * (0 + 1) ≤ 84000)⟩, hr⟩ (m_thrown (v := 0) (by rw [gI_sI, if_pos rfl, if_pos rfl])) (fun r N hr9 => ?_)
    obtain ⟨rfl, rfl⟩ := hr9
    refine u_iload (pc := 344) _ (lk5 29 rfl) rfl ?_
    refine u_icEq (y := J 0) (pc := 346) _ 351 (lk5 30 rfl) (by decide) ?_
    refine u_iload (pc := 351) _ (lk5 33 rfl) rfl ?_
    refine u_if_neF (a := 0) (pc := 353) _ 368 (lk5 34 rfl) (by decide) (by decide) (fun h => h rfl) ?_
    refine u_aload_n (pc := 356) _ (lk5 35 rfl) rfl ?_
    refine u_iconst (pc := 357) _ (lk5 36 rfl) ?_
    refine u_laldE (a := 83) (n0 := 1) (z := 0) (v := (J (sJud A (xs (i + 1)).toInt (xs (i + 2)).toInt)).toInt64) (pc := 358) _ (lk5 37 rfl) rfl (by decide) (by rw [gL_sI, gL_sL, if_pos rfl]; rfl) ?_
    refine u_iload (pc := 359) _ (lk5 38 rfl) rfl ?_
    refine u_i2lR (pc := 361) _ (lk5 39 rfl) ?_
    refine u_lcEq (pc := 362) _ (lk5 40 rfl) ?_
    refine u_if_eqT (a := 0) (pc := 363) _ 368 (lk5 41 rfl) (by decide) (by decide) rfl ?_
    refine u_goto (pc := 368) _ 1195 (lk5 44 rfl) (by decide) ?_
    exact nx _ _ _ _ ⟨c, c2, (h.mf (mf_sl _ _)).mf (mf_fld _ 0 0)⟩ ((hm.sl _).fld 0 (by decide))
  · refine u_callW (As := [.ref 0, .int (J (xs (i + 1)).toInt), .int (J (xs (i + 2)).toInt), .ref 83]) (rest := []) (pc := 317) _ (lk5 12 rfl) rfl cw_judge rfl (Nat.le_of_ble_eq_true rfl) (Nat.le_of_ble_eq_true rfl) (kzL G) ⟨⟨(by decide : 10 ≤ 2048), (by decide : 640 ≤ 84000)⟩, hr⟩ (w_judgeN hl h (J_rng _) (J_rng _) hq) (fun r N hr9 => ?_)
    obtain ⟨rfl, hN9⟩ := hr9
    rw [hN9]
    refine u_istore (pc := 320) _ (lk5 13 rfl) ⟨(Nat.le_of_ble_eq_true rfl), rfl⟩ ?_
    show U G (XL b L xs) (nc + 1) (ns + 6) mL 322 (LwS i (some (.int (J 1))) l6) [] M
    refine u_aload_n (pc := 322) _ (lk5 14 rfl) rfl ?_
    refine u_arg (k := 1) (kk := 1) (pc := 323) hG hL (by omega) _ _ _ _ _ 324 326 327 328 (lk5 15 rfl) (lk5 16 rfl) (lk5 17 rfl) (lk5 18 rfl) (lk5 19 rfl) (by decide) rfl ?_
    refine u_arg (k := 2) (kk := 2) (pc := 329) hG hL (by omega) _ _ _ _ _ 330 332 333 334 (lk5 20 rfl) (lk5 21 rfl) (lk5 22 rfl) (lk5 23 rfl) (lk5 24 rfl) (by decide) rfl ?_
    refine u_callV (d := 2) (As := [.int (J (xs (i + 1)).toInt), .int (J (xs (i + 2)).toInt)]) (rest := []) (b := 54) (pc := 335) _ (lk5 25 rfl) cvL_44 rfl rfl (Nat.le_of_ble_eq_true rfl) (Nat.le_of_ble_eq_true rfl) (kzL G) ⟨⟨(by decide : 2 + 1 ≤ 2048), (by decide : 64 * (2 + 1) ≤ 84000)⟩, hr⟩ (m_judgeN (d := 0) hm (J_rng _) (J_rng _) hq) (fun r N hr9 => ?_)
    obtain ⟨rfl, rfl⟩ := hr9
    refine u_istore (pc := 338) _ (lk5 26 rfl) ⟨(Nat.le_of_ble_eq_true rfl), rfl⟩ ?_
    show U G (XL b L xs) (nc + 1) (ns + 6) mL 340 (LwS i (some (.int (J 1))) (some (.int (J 0)))) [] (sI M 54 0 1)
    refine u_aload_n (pc := 340) _ (lk5 27 rfl) rfl ?_
    refine u_callV (d := 0) (As := []) (rest := []) (b := 54) (pc := 341) _ (lk5 28 rfl) cvL_45 rfl rfl (Nat.le_of_ble_eq_true rfl) (Nat.le_of_ble_eq_true rfl) (kzL G) ⟨⟨(by decide : 0 + 1 ≤ 2048), (by decide : 64 * (0 + 1) ≤ 84000)⟩, hr⟩ (m_thrown (v := 1) (by rw [gI_sI, if_pos rfl, if_pos rfl])) (fun r N hr9 => ?_)
    obtain ⟨rfl, rfl⟩ := hr9
    refine u_iload (pc := 344) _ (lk5 29 rfl) rfl ?_
    refine u_icEq (y := J 1) (pc := 346) _ 351 (lk5 30 rfl) (by decide) ?_
    refine u_iload (pc := 351) _ (lk5 33 rfl) rfl ?_
    refine u_if_neT (a := 1) (pc := 353) _ 368 (lk5 34 rfl) (by decide) (by decide) (by decide) ?_
    refine u_goto (pc := 368) _ 1195 (lk5 44 rfl) (by decide) ?_
    exact nx _ _ _ _ ⟨c, c2, h.mf (mf_fld _ 0 1)⟩ (hm.fld 1 (by decide))
theorem lc_file (hG : ga G 140 = b) (hL : L ≤ 3072) (hi : i + 6 ≤ L) (hr : nc + 1 ≤ 601024 ∧ ns + 6 ≤ 7293034) (hl : (gl G).stackTraces = false) (nx : LwN G b L xs nc ns i) (h : CRc M A c c2) (hm : MR M A) : U G (XL b L xs) nc ns mL 371 (LwS i l5 l6) [] M := by
  have hn : nc ≤ 601024 ∧ ns ≤ 7293034 := by omega
  refine u_aload_n (pc := 371) _ (lk6 0 rfl) rfl ?_
  refine u_arg (k := 1) (kk := 1) (pc := 372) hG hL (by omega) _ _ _ _ _ 373 375 376 377 (lk6 1 rfl) (lk6 2 rfl) (lk6 3 rfl) (lk6 4 rfl) (lk6 5 rfl) (by decide) rfl ?_
  refine u_arg (k := 2) (kk := 2) (pc := 378) hG hL (by omega) _ _ _ _ _ 379 381 382 383 (lk6 6 rfl) (lk6 7 rfl) (lk6 8 rfl) (lk6 9 rfl) (lk6 10 rfl) (by decide) rfl ?_
  refine u_aload_n (pc := 384) _ (lk6 11 rfl) rfl ?_
  by_cases hq : filOk A (xs (i + 1)).toInt (xs (i + 2)).toInt
  · refine u_callW (As := [.ref 0, .int (J (xs (i + 1)).toInt), .int (J (xs (i + 2)).toInt), .ref 83]) (rest := []) (pc := 385) _ (lk6 12 rfl) rfl cw_file rfl (Nat.le_of_ble_eq_true rfl) (Nat.le_of_ble_eq_true rfl) (kzL G) ⟨⟨(by decide : 10 ≤ 2048), (by decide : 640 ≤ 84000)⟩, hr⟩ (w_file h hq) (fun r N hr9 => ?_)
    obtain ⟨rfl, rfl⟩ := hr9
    refine u_istore (pc := 388) _ (lk6 13 rfl) ⟨(Nat.le_of_ble_eq_true rfl), rfl⟩ ?_
    show U G (XL b L xs) (nc + 1) (ns + 6) mL 390 (LwS i (some (.int (J 0))) l6) [] (sL M 83 0 (J (sFil A (xs (i + 1)).toInt (xs (i + 2)).toInt)).toInt64)
    refine u_aload_n (pc := 390) _ (lk6 14 rfl) rfl ?_
    refine u_arg (k := 1) (kk := 1) (pc := 391) hG hL (by omega) _ _ _ _ _ 392 394 395 396 (lk6 15 rfl) (lk6 16 rfl) (lk6 17 rfl) (lk6 18 rfl) (lk6 19 rfl) (by decide) rfl ?_
    refine u_arg (k := 2) (kk := 2) (pc := 397) hG hL (by omega) _ _ _ _ _ 398 400 401 402 (lk6 20 rfl) (lk6 21 rfl) (lk6 22 rfl) (lk6 23 rfl) (lk6 24 rfl) (by decide) rfl ?_
    refine u_callV (d := 2) (As := [.int (J (xs (i + 1)).toInt), .int (J (xs (i + 2)).toInt)]) (rest := []) (b := 54) (pc := 403) _ (lk6 25 rfl) cvL_51 rfl rfl (Nat.le_of_ble_eq_true rfl) (Nat.le_of_ble_eq_true rfl) (kzL G) ⟨⟨(by decide : 2 + 1 ≤ 2048), (by decide : 64 * (2 + 1) ≤ 84000)⟩, hr⟩ (m_file (d := 0) (hm.sl _) (J_rng _) (J_rng _) hq) (fun r N hr9 => ?_)
    obtain ⟨rfl, rfl⟩ := hr9
    refine u_istore (pc := 406) _ (lk6 26 rfl) ⟨(Nat.le_of_ble_eq_true rfl), rfl⟩ ?_
    show U G (XL b L xs) (nc + 1) (ns + 6) mL 408 (LwS i (some (.int (J 0))) (some (.int (J (sFil A (xs (i + 1)).toInt (xs (i + 2)).toInt))))) [] (sI (sL M 83 0 (J (sFil A (xs (i + 1)).toInt (xs (i + 2)).toInt)).toInt64) 54 0 0)
    refine u_aload_n (pc := 408) _ (lk6 27 rfl) rfl ?_
    refine u_callV (d := 0) (As := []) (rest := []) (b := 54) (pc := 409) _ (lk6 28 rfl) cvL_45 rfl rfl (Nat.le_of_ble_eq_true rfl) (Nat.le_of_ble_eq_true rfl) (kzL G) ⟨⟨(by decide : 0 + 1 ≤ 2048), (by decide : 64 * (0 + 1) ≤ 84000)⟩, hr⟩ (m_thrown (v := 0) (by rw [gI_sI, if_pos rfl, if_pos rfl])) (fun r N hr9 => ?_)
    obtain ⟨rfl, rfl⟩ := hr9
    refine u_iload (pc := 412) _ (lk6 29 rfl) rfl ?_
    refine u_icEq (y := J 0) (pc := 414) _ 419 (lk6 30 rfl) (by decide) ?_
    refine u_iload (pc := 419) _ (lk6 33 rfl) rfl ?_
    refine u_if_neF (a := 0) (pc := 421) _ 436 (lk6 34 rfl) (by decide) (by decide) (fun h => h rfl) ?_
    refine u_aload_n (pc := 424) _ (lk6 35 rfl) rfl ?_
    refine u_iconst (pc := 425) _ (lk6 36 rfl) ?_
    refine u_laldE (a := 83) (n0 := 1) (z := 0) (v := (J (sFil A (xs (i + 1)).toInt (xs (i + 2)).toInt)).toInt64) (pc := 426) _ (lk6 37 rfl) rfl (by decide) (by rw [gL_sI, gL_sL, if_pos rfl]; rfl) ?_
    refine u_iload (pc := 427) _ (lk6 38 rfl) rfl ?_
    refine u_i2lR (pc := 429) _ (lk6 39 rfl) ?_
    refine u_lcEq (pc := 430) _ (lk6 40 rfl) ?_
    refine u_if_eqT (a := 0) (pc := 431) _ 436 (lk6 41 rfl) (by decide) (by decide) rfl ?_
    refine u_goto (pc := 436) _ 1195 (lk6 44 rfl) (by decide) ?_
    exact nx _ _ _ _ ⟨c, c2, (h.mf (mf_sl _ _)).mf (mf_fld _ 0 0)⟩ ((hm.sl _).fld 0 (by decide))
  · refine u_callW (As := [.ref 0, .int (J (xs (i + 1)).toInt), .int (J (xs (i + 2)).toInt), .ref 83]) (rest := []) (pc := 385) _ (lk6 12 rfl) rfl cw_file rfl (Nat.le_of_ble_eq_true rfl) (Nat.le_of_ble_eq_true rfl) (kzL G) ⟨⟨(by decide : 10 ≤ 2048), (by decide : 640 ≤ 84000)⟩, hr⟩ (w_fileN hl h (J_rng _) (J_rng _) hq) (fun r N hr9 => ?_)
    obtain ⟨rfl, hN9⟩ := hr9
    rw [hN9]
    refine u_istore (pc := 388) _ (lk6 13 rfl) ⟨(Nat.le_of_ble_eq_true rfl), rfl⟩ ?_
    show U G (XL b L xs) (nc + 1) (ns + 6) mL 390 (LwS i (some (.int (J 1))) l6) [] M
    refine u_aload_n (pc := 390) _ (lk6 14 rfl) rfl ?_
    refine u_arg (k := 1) (kk := 1) (pc := 391) hG hL (by omega) _ _ _ _ _ 392 394 395 396 (lk6 15 rfl) (lk6 16 rfl) (lk6 17 rfl) (lk6 18 rfl) (lk6 19 rfl) (by decide) rfl ?_
    refine u_arg (k := 2) (kk := 2) (pc := 397) hG hL (by omega) _ _ _ _ _ 398 400 401 402 (lk6 20 rfl) (lk6 21 rfl) (lk6 22 rfl) (lk6 23 rfl) (lk6 24 rfl) (by decide) rfl ?_
    refine u_callV (d := 2) (As := [.int (J (xs (i + 1)).toInt), .int (J (xs (i + 2)).toInt)]) (rest := []) (b := 54) (pc := 403) _ (lk6 25 rfl) cvL_51 rfl rfl (Nat.le_of_ble_eq_true rfl) (Nat.le_of_ble_eq_true rfl) (kzL G) ⟨⟨(by decide : 2 + 1 ≤ 2048), (by decide : 64 * (2 + 1) ≤ 84000)⟩, hr⟩ (m_fileN (d := 0) hm (J_rng _) (J_rng _) hq) (fun r N hr9 => ?_)
    obtain ⟨rfl, rfl⟩ := hr9
    refine u_istore (pc := 406) _ (lk6 26 rfl) ⟨(Nat.le_of_ble_eq_true rfl), rfl⟩ ?_
    show U G (XL b L xs) (nc + 1) (ns + 6) mL 408 (LwS i (some (.int (J 1))) (some (.int (J 0)))) [] (sI M 54 0 1)
    refine u_aload_n (pc := 408) _ (lk6 27 rfl) rfl ?_
    refine u_callV (d := 0) (As := []) (rest := []) (b := 54) (pc := 409) _ (lk6 28 rfl) cvL_45 rfl rfl (Nat.le_of_ble_eq_true rfl) (Nat.le_of_ble_eq_true rfl) (kzL G) ⟨⟨(by decide : 0 + 1 ≤ 2048), (by decide : 64 * (0 + 1) ≤ 84000)⟩, hr⟩ (m_thrown (v := 1) (by rw [gI_sI, if_pos rfl, if_pos rfl])) (fun r N hr9 => ?_)
    obtain ⟨rfl, rfl⟩ := hr9
    refine u_iload (pc := 412) _ (lk6 29 rfl) rfl ?_
    refine u_icEq (y := J 1) (pc := 414) _ 419 (lk6 30 rfl) (by decide) ?_
    refine u_iload (pc := 419) _ (lk6 33 rfl) rfl ?_
    refine u_if_neT (a := 1) (pc := 421) _ 436 (lk6 34 rfl) (by decide) (by decide) (by decide) ?_
    refine u_goto (pc := 436) _ 1195 (lk6 44 rfl) (by decide) ?_
    exact nx _ _ _ _ ⟨c, c2, h.mf (mf_fld _ 0 1)⟩ (hm.fld 1 (by decide))
theorem lc_why (hG : ga G 140 = b) (hL : L ≤ 3072) (hi : i + 6 ≤ L) (hr : nc + 1 ≤ 601024 ∧ ns + 6 ≤ 7293034) (hl : (gl G).stackTraces = false) (nx : LwN G b L xs nc ns i) (h : CRc M A c c2) (hm : MR M A) : U G (XL b L xs) nc ns mL 439 (LwS i l5 l6) [] M := by
  have hn : nc ≤ 601024 ∧ ns ≤ 7293034 := by omega
  refine u_aload_n (pc := 439) _ (lk7 0 rfl) rfl ?_
  refine u_arg (k := 1) (kk := 1) (pc := 440) hG hL (by omega) _ _ _ _ _ 441 443 444 445 (lk7 1 rfl) (lk7 2 rfl) (lk7 3 rfl) (lk7 4 rfl) (lk7 5 rfl) (by decide) rfl ?_
  refine u_arg (k := 2) (kk := 2) (pc := 446) hG hL (by omega) _ _ _ _ _ 447 449 450 451 (lk7 6 rfl) (lk7 7 rfl) (lk7 8 rfl) (lk7 9 rfl) (lk7 10 rfl) (by decide) rfl ?_
  refine u_arg (k := 3) (kk := 3) (pc := 452) hG hL (by omega) _ _ _ _ _ 453 455 456 457 (lk7 11 rfl) (lk7 12 rfl) (lk7 13 rfl) (lk7 14 rfl) (lk7 15 rfl) (by decide) rfl ?_
  refine u_callV (d := 3) (As := [.int (J (xs (i + 1)).toInt), .int (J (xs (i + 2)).toInt), .int (J (xs (i + 3)).toInt)]) (rest := []) (b := 0) (pc := 458) _ (lk7 16 rfl) cvL_52 rfl rfl (Nat.le_of_ble_eq_true rfl) (Nat.le_of_ble_eq_true rfl) (kzL G) ⟨⟨(by decide : 3 + 1 ≤ 2048), (by decide : 64 * (3 + 1) ≤ 84000)⟩, hn⟩ (c_why (d := 0) h (J_rng _) (J_rng _) (J_rng _)) (fun r N hr9 => ?_)
  obtain ⟨rfl, rfl⟩ := hr9
  refine u_aload_n (pc := 461) _ (lk7 17 rfl) rfl ?_
  refine u_arg (k := 1) (kk := 1) (pc := 462) hG hL (by omega) _ _ _ _ _ 463 465 466 467 (lk7 18 rfl) (lk7 19 rfl) (lk7 20 rfl) (lk7 21 rfl) (lk7 22 rfl) (by decide) rfl ?_
  refine u_arg (k := 2) (kk := 2) (pc := 468) hG hL (by omega) _ _ _ _ _ 469 471 472 473 (lk7 23 rfl) (lk7 24 rfl) (lk7 25 rfl) (lk7 26 rfl) (lk7 27 rfl) (by decide) rfl ?_
  refine u_arg (k := 3) (kk := 3) (pc := 474) hG hL (by omega) _ _ _ _ _ 475 477 478 479 (lk7 28 rfl) (lk7 29 rfl) (lk7 30 rfl) (lk7 31 rfl) (lk7 32 rfl) (by decide) rfl ?_
  refine u_callV (d := 2) (As := [.int (J (xs (i + 1)).toInt), .int (J (xs (i + 2)).toInt), .int (J (xs (i + 3)).toInt)]) (rest := [.int (J (sWhy A (xs (i + 1)).toInt (xs (i + 2)).toInt (xs (i + 3)).toInt))]) (b := 54) (pc := 480) _ (lk7 33 rfl) cvL_56 rfl rfl (Nat.le_of_ble_eq_true rfl) (Nat.le_of_ble_eq_true rfl) (kzL G) ⟨⟨(by decide : 2 + 1 ≤ 2048), (by decide : 64 * (2 + 1) ≤ 84000)⟩, hn⟩ (m_why (d := 0) hm (J_rng _) (J_rng _) (J_rng _)) (fun r N hr9 => ?_)
  obtain ⟨rfl, rfl⟩ := hr9
  refine u_icEq (y := J (sWhy A (xs (i + 1)).toInt (xs (i + 2)).toInt (xs (i + 3)).toInt)) (pc := 483) _ 1195 (lk7 34 rfl) (by decide) ?_
  exact u_wide (Nat.le_succ _) (Nat.le_add_right _ 6) (nx _ _ _ _ ⟨c, c2, h.mf (mf_fld _ 0 0)⟩ (hm.fld 0 (by decide)))
theorem lc_set (hG : ga G 140 = b) (hL : L ≤ 3072) (hi : i + 6 ≤ L) (hr : nc + 1 ≤ 601024 ∧ ns + 6 ≤ 7293034) (hl : (gl G).stackTraces = false) (nx : LwN G b L xs nc ns i) (h : CRc M A c c2) (hm : MR M A) : U G (XL b L xs) nc ns mL 488 (LwS i l5 l6) [] M := by
  have hn : nc ≤ 601024 ∧ ns ≤ 7293034 := by omega
  refine u_aload_n (pc := 488) _ (lk8 0 rfl) rfl ?_
  refine u_arg (k := 1) (kk := 1) (pc := 489) hG hL (by omega) _ _ _ _ _ 490 492 493 494 (lk8 1 rfl) (lk8 2 rfl) (lk8 3 rfl) (lk8 4 rfl) (lk8 5 rfl) (by decide) rfl ?_
  refine u_arg (k := 2) (kk := 2) (pc := 495) hG hL (by omega) _ _ _ _ _ 496 498 499 500 (lk8 6 rfl) (lk8 7 rfl) (lk8 8 rfl) (lk8 9 rfl) (lk8 10 rfl) (by decide) rfl ?_
  refine u_arg (k := 3) (kk := 3) (pc := 501) hG hL (by omega) _ _ _ _ _ 502 504 505 506 (lk8 11 rfl) (lk8 12 rfl) (lk8 13 rfl) (lk8 14 rfl) (lk8 15 rfl) (by decide) rfl ?_
  refine u_callV (d := 4) (As := [.int (J (xs (i + 1)).toInt), .int (J (xs (i + 2)).toInt), .int (J (xs (i + 3)).toInt)]) (rest := []) (b := 0) (pc := 507) _ (lk8 16 rfl) cvL_57 rfl rfl (Nat.le_of_ble_eq_true rfl) (Nat.le_of_ble_eq_true rfl) (kzL G) ⟨⟨(by decide : 4 + 1 ≤ 2048), (by decide : 64 * (4 + 1) ≤ 84000)⟩, hn⟩ (c_set (d := 0) h (J_rng _) (J_rng _) (J_rng _)) (fun r N hr9 => ?_)
  obtain ⟨rfl, h2, hf⟩ := hr9
  refine u_aload_n (pc := 510) _ (lk8 17 rfl) rfl ?_
  refine u_arg (k := 1) (kk := 1) (pc := 511) hG hL (by omega) _ _ _ _ _ 512 514 515 516 (lk8 18 rfl) (lk8 19 rfl) (lk8 20 rfl) (lk8 21 rfl) (lk8 22 rfl) (by decide) rfl ?_
  refine u_arg (k := 2) (kk := 2) (pc := 517) hG hL (by omega) _ _ _ _ _ 518 520 521 522 (lk8 23 rfl) (lk8 24 rfl) (lk8 25 rfl) (lk8 26 rfl) (lk8 27 rfl) (by decide) rfl ?_
  refine u_arg (k := 3) (kk := 3) (pc := 523) hG hL (by omega) _ _ _ _ _ 524 526 527 528 (lk8 28 rfl) (lk8 29 rfl) (lk8 30 rfl) (lk8 31 rfl) (lk8 32 rfl) (by decide) rfl ?_
  refine u_callV (d := 2) (As := [.int (J (xs (i + 1)).toInt), .int (J (xs (i + 2)).toInt), .int (J (xs (i + 3)).toInt)]) (rest := [.int (J (sSet A (xs (i + 1)).toInt (xs (i + 2)).toInt (xs (i + 3)).toInt).1)]) (b := 54) (pc := 529) _ (lk8 33 rfl) cvL_61 rfl rfl (Nat.le_of_ble_eq_true rfl) (Nat.le_of_ble_eq_true rfl) (kzL G) ⟨⟨(by decide : 2 + 1 ≤ 2048), (by decide : 64 * (2 + 1) ≤ 84000)⟩, hn⟩ (m_set (d := 0) (hm.cf hf) (J_rng _) (J_rng _) (J_rng _)) (fun r N hr9 => ?_)
  obtain ⟨rfl, hm2, hf2⟩ := hr9
  refine u_icEq (y := J (sSet A (xs (i + 1)).toInt (xs (i + 2)).toInt (xs (i + 3)).toInt).1) (pc := 532) _ 1195 (lk8 34 rfl) (by decide) ?_
  exact u_wide (Nat.le_succ _) (Nat.le_add_right _ 6) (nx _ _ _ _ ⟨c, c2, h2.mf hf2⟩ hm2)
theorem lc_clear (hG : ga G 140 = b) (hL : L ≤ 3072) (hi : i + 6 ≤ L) (hr : nc + 1 ≤ 601024 ∧ ns + 6 ≤ 7293034) (hl : (gl G).stackTraces = false) (nx : LwN G b L xs nc ns i) (h : CRc M A c c2) (hm : MR M A) : U G (XL b L xs) nc ns mL 537 (LwS i l5 l6) [] M := by
  have hn : nc ≤ 601024 ∧ ns ≤ 7293034 := by omega
  refine u_aload_n (pc := 537) _ (lk9 0 rfl) rfl ?_
  refine u_arg (k := 1) (kk := 1) (pc := 538) hG hL (by omega) _ _ _ _ _ 539 541 542 543 (lk9 1 rfl) (lk9 2 rfl) (lk9 3 rfl) (lk9 4 rfl) (lk9 5 rfl) (by decide) rfl ?_
  refine u_callV (d := 3) (As := [.int (J (xs (i + 1)).toInt)]) (rest := []) (b := 0) (pc := 544) _ (lk9 6 rfl) cvL_62 rfl rfl (Nat.le_of_ble_eq_true rfl) (Nat.le_of_ble_eq_true rfl) (kzL G) ⟨⟨(by decide : 3 + 1 ≤ 2048), (by decide : 64 * (3 + 1) ≤ 84000)⟩, hn⟩ (c_clear (d := 0) h (J_rng _)) (fun r N hr9 => ?_)
  obtain ⟨rfl, h2, hf⟩ := hr9
  refine u_aload_n (pc := 547) _ (lk9 7 rfl) rfl ?_
  refine u_arg (k := 1) (kk := 1) (pc := 548) hG hL (by omega) _ _ _ _ _ 549 551 552 553 (lk9 8 rfl) (lk9 9 rfl) (lk9 10 rfl) (lk9 11 rfl) (lk9 12 rfl) (by decide) rfl ?_
  refine u_callV (d := 2) (As := [.int (J (xs (i + 1)).toInt)]) (rest := [.int (J (sClear A (xs (i + 1)).toInt).1)]) (b := 54) (pc := 554) _ (lk9 13 rfl) cvL_65 rfl rfl (Nat.le_of_ble_eq_true rfl) (Nat.le_of_ble_eq_true rfl) (kzL G) ⟨⟨(by decide : 2 + 1 ≤ 2048), (by decide : 64 * (2 + 1) ≤ 84000)⟩, hn⟩ (m_clear (d := 0) (hm.cf hf) (J_rng _)) (fun r N hr9 => ?_)
  obtain ⟨rfl, hm2, hf2⟩ := hr9
  refine u_icEq (y := J (sClear A (xs (i + 1)).toInt).1) (pc := 557) _ 1195 (lk9 14 rfl) (by decide) ?_
  exact u_wide (Nat.le_succ _) (Nat.le_add_right _ 6) (nx _ _ _ _ ⟨c, c2, h2.mf hf2⟩ hm2)
theorem lc_sits (hG : ga G 140 = b) (hL : L ≤ 3072) (hi : i + 6 ≤ L) (hr : nc + 1 ≤ 601024 ∧ ns + 6 ≤ 7293034) (hl : (gl G).stackTraces = false) (nx : LwN G b L xs nc ns i) (h : CRc M A c c2) (hm : MR M A) : U G (XL b L xs) nc ns mL 562 (LwS i l5 l6) [] M := by
  have hn : nc ≤ 601024 ∧ ns ≤ 7293034 := by omega
  refine u_aload_n (pc := 562) _ (lk10 0 rfl) rfl ?_
  refine u_arg (k := 1) (kk := 1) (pc := 563) hG hL (by omega) _ _ _ _ _ 564 566 567 568 (lk10 1 rfl) (lk10 2 rfl) (lk10 3 rfl) (lk10 4 rfl) (lk10 5 rfl) (by decide) rfl ?_
  refine u_arg (k := 2) (kk := 2) (pc := 569) hG hL (by omega) _ _ _ _ _ 570 572 573 574 (lk10 6 rfl) (lk10 7 rfl) (lk10 8 rfl) (lk10 9 rfl) (lk10 10 rfl) (by decide) rfl ?_
  refine u_callV (d := 1) (As := [.int (J (xs (i + 1)).toInt), .int (J (xs (i + 2)).toInt)]) (rest := []) (b := 0) (pc := 575) _ (lk10 11 rfl) cvL_66 rfl rfl (Nat.le_of_ble_eq_true rfl) (Nat.le_of_ble_eq_true rfl) (kzL G) ⟨⟨(by decide : 1 + 1 ≤ 2048), (by decide : 64 * (1 + 1) ≤ 84000)⟩, hn⟩ (c_sits (d := 0) h (J_rng _) (J_rng _)) (fun r N hr9 => ?_)
  obtain ⟨rfl, rfl⟩ := hr9
  refine u_aload_n (pc := 578) _ (lk10 12 rfl) rfl ?_
  refine u_arg (k := 1) (kk := 1) (pc := 579) hG hL (by omega) _ _ _ _ _ 580 582 583 584 (lk10 13 rfl) (lk10 14 rfl) (lk10 15 rfl) (lk10 16 rfl) (lk10 17 rfl) (by decide) rfl ?_
  refine u_arg (k := 2) (kk := 2) (pc := 585) hG hL (by omega) _ _ _ _ _ 586 588 589 590 (lk10 18 rfl) (lk10 19 rfl) (lk10 20 rfl) (lk10 21 rfl) (lk10 22 rfl) (by decide) rfl ?_
  refine u_callV (d := 2) (As := [.int (J (xs (i + 1)).toInt), .int (J (xs (i + 2)).toInt)]) (rest := [.int (J (sSits A (xs (i + 1)).toInt (xs (i + 2)).toInt))]) (b := 54) (pc := 591) _ (lk10 23 rfl) cvL_69 rfl rfl (Nat.le_of_ble_eq_true rfl) (Nat.le_of_ble_eq_true rfl) (kzL G) ⟨⟨(by decide : 2 + 1 ≤ 2048), (by decide : 64 * (2 + 1) ≤ 84000)⟩, hn⟩ (m_sits (d := 0) hm (J_rng _) (J_rng _)) (fun r N hr9 => ?_)
  obtain ⟨rfl, rfl⟩ := hr9
  refine u_icEq (y := J (sSits A (xs (i + 1)).toInt (xs (i + 2)).toInt)) (pc := 594) _ 1195 (lk10 24 rfl) (by decide) ?_
  exact u_wide (Nat.le_succ _) (Nat.le_add_right _ 6) (nx _ _ _ _ ⟨c, c2, h.mf (mf_fld _ 0 0)⟩ (hm.fld 0 (by decide)))
theorem lc_minutes (hG : ga G 140 = b) (hL : L ≤ 3072) (hi : i + 6 ≤ L) (hr : nc + 1 ≤ 601024 ∧ ns + 6 ≤ 7293034) (hl : (gl G).stackTraces = false) (nx : LwN G b L xs nc ns i) (h : CRc M A c c2) (hm : MR M A) : U G (XL b L xs) nc ns mL 599 (LwS i l5 l6) [] M := by
  have hn : nc ≤ 601024 ∧ ns ≤ 7293034 := by omega
  refine u_aload_n (pc := 599) _ (lk11 0 rfl) rfl ?_
  refine u_arg (k := 1) (kk := 1) (pc := 600) hG hL (by omega) _ _ _ _ _ 601 603 604 605 (lk11 1 rfl) (lk11 2 rfl) (lk11 3 rfl) (lk11 4 rfl) (lk11 5 rfl) (by decide) rfl ?_
  refine u_arg (k := 2) (kk := 2) (pc := 606) hG hL (by omega) _ _ _ _ _ 607 609 610 611 (lk11 6 rfl) (lk11 7 rfl) (lk11 8 rfl) (lk11 9 rfl) (lk11 10 rfl) (by decide) rfl ?_
  refine u_callV (d := 1) (As := [.int (J (xs (i + 1)).toInt), .int (J (xs (i + 2)).toInt)]) (rest := []) (b := 0) (pc := 612) _ (lk11 11 rfl) cvL_70 rfl rfl (Nat.le_of_ble_eq_true rfl) (Nat.le_of_ble_eq_true rfl) (kzL G) ⟨⟨(by decide : 1 + 1 ≤ 2048), (by decide : 64 * (1 + 1) ≤ 84000)⟩, hn⟩ (c_minutes (d := 0) h (J_rng _) (J_rng _)) (fun r N hr9 => ?_)
  obtain ⟨rfl, rfl⟩ := hr9
  refine u_aload_n (pc := 615) _ (lk11 12 rfl) rfl ?_
  refine u_arg (k := 1) (kk := 1) (pc := 616) hG hL (by omega) _ _ _ _ _ 617 619 620 621 (lk11 13 rfl) (lk11 14 rfl) (lk11 15 rfl) (lk11 16 rfl) (lk11 17 rfl) (by decide) rfl ?_
  refine u_arg (k := 2) (kk := 2) (pc := 622) hG hL (by omega) _ _ _ _ _ 623 625 626 627 (lk11 18 rfl) (lk11 19 rfl) (lk11 20 rfl) (lk11 21 rfl) (lk11 22 rfl) (by decide) rfl ?_
  refine u_callV (d := 2) (As := [.int (J (xs (i + 1)).toInt), .int (J (xs (i + 2)).toInt)]) (rest := [.int (J (sMin A (xs (i + 1)).toInt (xs (i + 2)).toInt))]) (b := 54) (pc := 628) _ (lk11 23 rfl) cvL_73 rfl rfl (Nat.le_of_ble_eq_true rfl) (Nat.le_of_ble_eq_true rfl) (kzL G) ⟨⟨(by decide : 2 + 1 ≤ 2048), (by decide : 64 * (2 + 1) ≤ 84000)⟩, hn⟩ (m_minutes (d := 0) hm (J_rng _) (J_rng _)) (fun r N hr9 => ?_)
  obtain ⟨rfl, rfl⟩ := hr9
  refine u_icEq (y := J (sMin A (xs (i + 1)).toInt (xs (i + 2)).toInt)) (pc := 631) _ 1195 (lk11 24 rfl) (by decide) ?_
  exact u_wide (Nat.le_succ _) (Nat.le_add_right _ 6) (nx _ _ _ _ ⟨c, c2, h.mf (mf_fld _ 0 0)⟩ (hm.fld 0 (by decide)))
theorem lc_open (hG : ga G 140 = b) (hL : L ≤ 3072) (hi : i + 6 ≤ L) (hr : nc + 1 ≤ 601024 ∧ ns + 6 ≤ 7293034) (hl : (gl G).stackTraces = false) (nx : LwN G b L xs nc ns i) (h : CRc M A c c2) (hm : MR M A) : U G (XL b L xs) nc ns mL 636 (LwS i l5 l6) [] M := by
  have hn : nc ≤ 601024 ∧ ns ≤ 7293034 := by omega
  refine u_aload_n (pc := 636) _ (lk12 0 rfl) rfl ?_
  refine u_arg (k := 1) (kk := 1) (pc := 637) hG hL (by omega) _ _ _ _ _ 638 640 641 642 (lk12 1 rfl) (lk12 2 rfl) (lk12 3 rfl) (lk12 4 rfl) (lk12 5 rfl) (by decide) rfl ?_
  refine u_arg (k := 2) (kk := 2) (pc := 643) hG hL (by omega) _ _ _ _ _ 644 646 647 648 (lk12 6 rfl) (lk12 7 rfl) (lk12 8 rfl) (lk12 9 rfl) (lk12 10 rfl) (by decide) rfl ?_
  refine u_callV (d := 2) (As := [.int (J (xs (i + 1)).toInt), .int (J (xs (i + 2)).toInt)]) (rest := []) (b := 0) (pc := 649) _ (lk12 11 rfl) cvL_74 rfl rfl (Nat.le_of_ble_eq_true rfl) (Nat.le_of_ble_eq_true rfl) (kzL G) ⟨⟨(by decide : 2 + 1 ≤ 2048), (by decide : 64 * (2 + 1) ≤ 84000)⟩, hn⟩ (c_open (d := 0) h (J_rng _) (J_rng _)) (fun r N hr9 => ?_)
  obtain ⟨rfl, h2, hf⟩ := hr9
  refine u_aload_n (pc := 652) _ (lk12 12 rfl) rfl ?_
  refine u_arg (k := 1) (kk := 1) (pc := 653) hG hL (by omega) _ _ _ _ _ 654 656 657 658 (lk12 13 rfl) (lk12 14 rfl) (lk12 15 rfl) (lk12 16 rfl) (lk12 17 rfl) (by decide) rfl ?_
  refine u_arg (k := 2) (kk := 2) (pc := 659) hG hL (by omega) _ _ _ _ _ 660 662 663 664 (lk12 18 rfl) (lk12 19 rfl) (lk12 20 rfl) (lk12 21 rfl) (lk12 22 rfl) (by decide) rfl ?_
  refine u_callV (d := 2) (As := [.int (J (xs (i + 1)).toInt), .int (J (xs (i + 2)).toInt)]) (rest := [.int (J (sOpen A (xs (i + 1)).toInt (xs (i + 2)).toInt))]) (b := 54) (pc := 665) _ (lk12 23 rfl) cvL_77 rfl rfl (Nat.le_of_ble_eq_true rfl) (Nat.le_of_ble_eq_true rfl) (kzL G) ⟨⟨(by decide : 2 + 1 ≤ 2048), (by decide : 64 * (2 + 1) ≤ 84000)⟩, hn⟩ (m_open (d := 0) (hm.cf hf) (J_rng _) (J_rng _)) (fun r N hr9 => ?_)
  obtain ⟨rfl, hm2, hf2⟩ := hr9
  refine u_icEq (y := J (sOpen A (xs (i + 1)).toInt (xs (i + 2)).toInt)) (pc := 668) _ 1195 (lk12 24 rfl) (by decide) ?_
  exact u_wide (Nat.le_succ _) (Nat.le_add_right _ 6) (nx _ _ _ _ ⟨c, c2, h2.mf hf2⟩ hm2)
theorem lc_go (hG : ga G 140 = b) (hL : L ≤ 3072) (hi : i + 6 ≤ L) (hr : nc + 1 ≤ 601024 ∧ ns + 6 ≤ 7293034) (hl : (gl G).stackTraces = false) (nx : LwN G b L xs nc ns i) (h : CRc M A c c2) (hm : MR M A) : U G (XL b L xs) nc ns mL 673 (LwS i l5 l6) [] M := by
  have hn : nc ≤ 601024 ∧ ns ≤ 7293034 := by omega
  refine u_aload_n (pc := 673) _ (lk13 0 rfl) rfl ?_
  refine u_arg (k := 1) (kk := 1) (pc := 674) hG hL (by omega) _ _ _ _ _ 675 677 678 679 (lk13 1 rfl) (lk13 2 rfl) (lk13 3 rfl) (lk13 4 rfl) (lk13 5 rfl) (by decide) rfl ?_
  refine u_arg (k := 2) (kk := 2) (pc := 680) hG hL (by omega) _ _ _ _ _ 681 683 684 685 (lk13 6 rfl) (lk13 7 rfl) (lk13 8 rfl) (lk13 9 rfl) (lk13 10 rfl) (by decide) rfl ?_
  refine u_callV (d := 5) (As := [.int (J (xs (i + 1)).toInt), .int (J (xs (i + 2)).toInt)]) (rest := []) (b := 0) (pc := 686) _ (lk13 11 rfl) cvL_78 rfl rfl (Nat.le_of_ble_eq_true rfl) (Nat.le_of_ble_eq_true rfl) (kzL G) ⟨⟨(by decide : 5 + 1 ≤ 2048), (by decide : 64 * (5 + 1) ≤ 84000)⟩, hn⟩ (c_go (d := 0) h (J_rng _) (J_rng _)) (fun r N hr9 => ?_)
  obtain ⟨rfl, h2, hf⟩ := hr9
  refine u_aload_n (pc := 689) _ (lk13 12 rfl) rfl ?_
  refine u_arg (k := 1) (kk := 1) (pc := 690) hG hL (by omega) _ _ _ _ _ 691 693 694 695 (lk13 13 rfl) (lk13 14 rfl) (lk13 15 rfl) (lk13 16 rfl) (lk13 17 rfl) (by decide) rfl ?_
  refine u_arg (k := 2) (kk := 2) (pc := 696) hG hL (by omega) _ _ _ _ _ 697 699 700 701 (lk13 18 rfl) (lk13 19 rfl) (lk13 20 rfl) (lk13 21 rfl) (lk13 22 rfl) (by decide) rfl ?_
  refine u_callV (d := 3) (As := [.int (J (xs (i + 1)).toInt), .int (J (xs (i + 2)).toInt)]) (rest := [.int (J (sGo A (xs (i + 1)).toInt (xs (i + 2)).toInt).1)]) (b := 54) (pc := 702) _ (lk13 23 rfl) cvL_81 rfl rfl (Nat.le_of_ble_eq_true rfl) (Nat.le_of_ble_eq_true rfl) (kzL G) ⟨⟨(by decide : 3 + 1 ≤ 2048), (by decide : 64 * (3 + 1) ≤ 84000)⟩, hn⟩ (m_go (d := 0) (hm.cf hf) (J_rng _) (J_rng _)) (fun r N hr9 => ?_)
  obtain ⟨rfl, hm2, hf2⟩ := hr9
  refine u_icEq (y := J (sGo A (xs (i + 1)).toInt (xs (i + 2)).toInt).1) (pc := 705) _ 1195 (lk13 24 rfl) (by decide) ?_
  exact u_wide (Nat.le_succ _) (Nat.le_add_right _ 6) (nx _ _ _ _ ⟨c, c2, h2.mf hf2⟩ hm2)
theorem lc_best (hG : ga G 140 = b) (hL : L ≤ 3072) (hi : i + 6 ≤ L) (hr : nc + 1 ≤ 601024 ∧ ns + 6 ≤ 7293034) (hl : (gl G).stackTraces = false) (nx : LwN G b L xs nc ns i) (h : CRc M A c c2) (hm : MR M A) : U G (XL b L xs) nc ns mL 710 (LwS i l5 l6) [] M := by
  have hn : nc ≤ 601024 ∧ ns ≤ 7293034 := by omega
  refine u_aload_n (pc := 710) _ (lk14 0 rfl) rfl ?_
  refine u_arg (k := 1) (kk := 1) (pc := 711) hG hL (by omega) _ _ _ _ _ 712 714 715 716 (lk14 1 rfl) (lk14 2 rfl) (lk14 3 rfl) (lk14 4 rfl) (lk14 5 rfl) (by decide) rfl ?_
  refine u_arg (k := 2) (kk := 2) (pc := 717) hG hL (by omega) _ _ _ _ _ 718 720 721 722 (lk14 6 rfl) (lk14 7 rfl) (lk14 8 rfl) (lk14 9 rfl) (lk14 10 rfl) (by decide) rfl ?_
  refine u_arg (k := 3) (kk := 3) (pc := 723) hG hL (by omega) _ _ _ _ _ 724 726 727 728 (lk14 11 rfl) (lk14 12 rfl) (lk14 13 rfl) (lk14 14 rfl) (lk14 15 rfl) (by decide) rfl ?_
  refine u_callV (d := 15) (As := [.int (J (xs (i + 1)).toInt), .int (J (xs (i + 2)).toInt), .int (J (xs (i + 3)).toInt)]) (rest := []) (b := 0) (pc := 729) _ (lk14 16 rfl) cvL_82 rfl rfl (Nat.le_of_ble_eq_true rfl) (Nat.le_of_ble_eq_true rfl) (kzL G) ⟨⟨(by decide : 15 + 1 ≤ 2048), (by decide : 64 * (15 + 1) ≤ 84000)⟩, hn⟩ (c_best (d := 0) h (J_rng _) (J_rng _) (J_rng _)) (fun r N hr9 => ?_)
  obtain ⟨rfl, h2, hf⟩ := hr9
  refine u_aload_n (pc := 732) _ (lk14 17 rfl) rfl ?_
  refine u_arg (k := 1) (kk := 1) (pc := 733) hG hL (by omega) _ _ _ _ _ 734 736 737 738 (lk14 18 rfl) (lk14 19 rfl) (lk14 20 rfl) (lk14 21 rfl) (lk14 22 rfl) (by decide) rfl ?_
  refine u_arg (k := 2) (kk := 2) (pc := 739) hG hL (by omega) _ _ _ _ _ 740 742 743 744 (lk14 23 rfl) (lk14 24 rfl) (lk14 25 rfl) (lk14 26 rfl) (lk14 27 rfl) (by decide) rfl ?_
  refine u_arg (k := 3) (kk := 3) (pc := 745) hG hL (by omega) _ _ _ _ _ 746 748 749 750 (lk14 28 rfl) (lk14 29 rfl) (lk14 30 rfl) (lk14 31 rfl) (lk14 32 rfl) (by decide) rfl ?_
  refine u_callV (d := 9) (As := [.int (J (xs (i + 1)).toInt), .int (J (xs (i + 2)).toInt), .int (J (xs (i + 3)).toInt)]) (rest := [.long (JL (sBest A (xs (i + 1)).toInt (xs (i + 2)).toInt (xs (i + 3)).toInt))]) (b := 54) (pc := 751) _ (lk14 33 rfl) cvL_86 rfl rfl (Nat.le_of_ble_eq_true rfl) (Nat.le_of_ble_eq_true rfl) (kzL G) ⟨⟨(by decide : 9 + 1 ≤ 2048), (by decide : 64 * (9 + 1) ≤ 84000)⟩, hn⟩ (m_best (d := 0) (hm.cf hf) (J_rng _) (J_rng _) (J_rng _)) (fun r N hr9 => ?_)
  obtain ⟨rfl, hm2, hf2⟩ := hr9
  refine u_lcEq (y := JL (sBest A (xs (i + 1)).toInt (xs (i + 2)).toInt (xs (i + 3)).toInt)) (pc := 754) _ (lk14 34 rfl) ?_
  refine u_if_eqT (a := 0) (pc := 755) _ 1195 (lk14 35 rfl) (by decide) (by decide) rfl ?_
  exact u_wide (Nat.le_succ _) (Nat.le_add_right _ 6) (nx _ _ _ _ ⟨c, c2, h2.mf hf2⟩ hm2)
theorem lc_bestOf (hG : ga G 140 = b) (hL : L ≤ 3072) (hi : i + 6 ≤ L) (hr : nc + 1 ≤ 601024 ∧ ns + 6 ≤ 7293034) (hl : (gl G).stackTraces = false) (nx : LwN G b L xs nc ns i) (h : CRc M A c c2) (hm : MR M A) : U G (XL b L xs) nc ns mL 760 (LwS i l5 l6) [] M := by
  have hn : nc ≤ 601024 ∧ ns ≤ 7293034 := by omega
  refine u_aload_n (pc := 760) _ (lk15 0 rfl) rfl ?_
  refine u_arg (k := 1) (kk := 1) (pc := 761) hG hL (by omega) _ _ _ _ _ 762 764 765 766 (lk15 1 rfl) (lk15 2 rfl) (lk15 3 rfl) (lk15 4 rfl) (lk15 5 rfl) (by decide) rfl ?_
  refine u_arg (k := 2) (kk := 2) (pc := 767) hG hL (by omega) _ _ _ _ _ 768 770 771 772 (lk15 6 rfl) (lk15 7 rfl) (lk15 8 rfl) (lk15 9 rfl) (lk15 10 rfl) (by decide) rfl ?_
  refine u_arg (k := 3) (kk := 3) (pc := 773) hG hL (by omega) _ _ _ _ _ 774 776 777 778 (lk15 11 rfl) (lk15 12 rfl) (lk15 13 rfl) (lk15 14 rfl) (lk15 15 rfl) (by decide) rfl ?_
  refine u_callV (d := 15) (As := [.int (J (xs (i + 1)).toInt), .int (J (xs (i + 2)).toInt), .int (J (xs (i + 3)).toInt)]) (rest := []) (b := 0) (pc := 779) _ (lk15 16 rfl) cvL_87 rfl rfl (Nat.le_of_ble_eq_true rfl) (Nat.le_of_ble_eq_true rfl) (kzL G) ⟨⟨(by decide : 15 + 1 ≤ 2048), (by decide : 64 * (15 + 1) ≤ 84000)⟩, hn⟩ (c_bestOf (d := 0) h (J_rng _) (J_rng _) (J_rng _)) (fun r N hr9 => ?_)
  obtain ⟨rfl, h2, hf⟩ := hr9
  refine u_aload_n (pc := 782) _ (lk15 17 rfl) rfl ?_
  refine u_arg (k := 1) (kk := 1) (pc := 783) hG hL (by omega) _ _ _ _ _ 784 786 787 788 (lk15 18 rfl) (lk15 19 rfl) (lk15 20 rfl) (lk15 21 rfl) (lk15 22 rfl) (by decide) rfl ?_
  refine u_arg (k := 2) (kk := 2) (pc := 789) hG hL (by omega) _ _ _ _ _ 790 792 793 794 (lk15 23 rfl) (lk15 24 rfl) (lk15 25 rfl) (lk15 26 rfl) (lk15 27 rfl) (by decide) rfl ?_
  refine u_arg (k := 3) (kk := 3) (pc := 795) hG hL (by omega) _ _ _ _ _ 796 798 799 800 (lk15 28 rfl) (lk15 29 rfl) (lk15 30 rfl) (lk15 31 rfl) (lk15 32 rfl) (by decide) rfl ?_
  refine u_callV (d := 9) (As := [.int (J (xs (i + 1)).toInt), .int (J (xs (i + 2)).toInt), .int (J (xs (i + 3)).toInt)]) (rest := [.int (J (sBestOf A (xs (i + 1)).toInt (xs (i + 2)).toInt (xs (i + 3)).toInt))]) (b := 54) (pc := 801) _ (lk15 33 rfl) cvL_90 rfl rfl (Nat.le_of_ble_eq_true rfl) (Nat.le_of_ble_eq_true rfl) (kzL G) ⟨⟨(by decide : 9 + 1 ≤ 2048), (by decide : 64 * (9 + 1) ≤ 84000)⟩, hn⟩ (m_bestOf (d := 0) (hm.cf hf) (J_rng _) (J_rng _) (J_rng _)) (fun r N hr9 => ?_)
  obtain ⟨rfl, hm2, hf2⟩ := hr9
  refine u_icEq (y := J (sBestOf A (xs (i + 1)).toInt (xs (i + 2)).toInt (xs (i + 3)).toInt)) (pc := 804) _ 1195 (lk15 34 rfl) (by decide) ?_
  exact u_wide (Nat.le_succ _) (Nat.le_add_right _ 6) (nx _ _ _ _ ⟨c, c2, h2.mf hf2⟩ hm2)
theorem lc_take (hG : ga G 140 = b) (hL : L ≤ 3072) (hi : i + 6 ≤ L) (hr : nc + 1 ≤ 601024 ∧ ns + 6 ≤ 7293034) (hl : (gl G).stackTraces = false) (nx : LwN G b L xs nc ns i) (h : CRc M A c c2) (hm : MR M A) : U G (XL b L xs) nc ns mL 809 (LwS i l5 l6) [] M := by
  have hn : nc ≤ 601024 ∧ ns ≤ 7293034 := by omega
  refine u_aload_n (pc := 809) _ (lk16 0 rfl) rfl ?_
  refine u_arg (k := 1) (kk := 1) (pc := 810) hG hL (by omega) _ _ _ _ _ 811 813 814 815 (lk16 1 rfl) (lk16 2 rfl) (lk16 3 rfl) (lk16 4 rfl) (lk16 5 rfl) (by decide) rfl ?_
  refine u_arg (k := 2) (kk := 2) (pc := 816) hG hL (by omega) _ _ _ _ _ 817 819 820 821 (lk16 6 rfl) (lk16 7 rfl) (lk16 8 rfl) (lk16 9 rfl) (lk16 10 rfl) (by decide) rfl ?_
  refine u_callV (d := 15) (As := [.int (J (xs (i + 1)).toInt), .int (J (xs (i + 2)).toInt)]) (rest := []) (b := 0) (pc := 822) _ (lk16 11 rfl) cvL_91 rfl rfl (Nat.le_of_ble_eq_true rfl) (Nat.le_of_ble_eq_true rfl) (kzL G) ⟨⟨(by decide : 15 + 1 ≤ 2048), (by decide : 64 * (15 + 1) ≤ 84000)⟩, hn⟩ (c_take (d := 0) h (J_rng _) (J_rng _)) (fun r N hr9 => ?_)
  obtain ⟨rfl, h2, hf⟩ := hr9
  refine u_aload_n (pc := 825) _ (lk16 12 rfl) rfl ?_
  refine u_arg (k := 1) (kk := 1) (pc := 826) hG hL (by omega) _ _ _ _ _ 827 829 830 831 (lk16 13 rfl) (lk16 14 rfl) (lk16 15 rfl) (lk16 16 rfl) (lk16 17 rfl) (by decide) rfl ?_
  refine u_arg (k := 2) (kk := 2) (pc := 832) hG hL (by omega) _ _ _ _ _ 833 835 836 837 (lk16 18 rfl) (lk16 19 rfl) (lk16 20 rfl) (lk16 21 rfl) (lk16 22 rfl) (by decide) rfl ?_
  refine u_callV (d := 9) (As := [.int (J (xs (i + 1)).toInt), .int (J (xs (i + 2)).toInt)]) (rest := [.int (J (sTake A (xs (i + 1)).toInt (xs (i + 2)).toInt).1)]) (b := 54) (pc := 838) _ (lk16 23 rfl) cvL_94 rfl rfl (Nat.le_of_ble_eq_true rfl) (Nat.le_of_ble_eq_true rfl) (kzL G) ⟨⟨(by decide : 9 + 1 ≤ 2048), (by decide : 64 * (9 + 1) ≤ 84000)⟩, hn⟩ (m_take (d := 0) (hm.cf hf) (J_rng _) (J_rng _)) (fun r N hr9 => ?_)
  obtain ⟨rfl, hm2, hf2⟩ := hr9
  refine u_icEq (y := J (sTake A (xs (i + 1)).toInt (xs (i + 2)).toInt).1) (pc := 841) _ 1195 (lk16 24 rfl) (by decide) ?_
  exact u_wide (Nat.le_succ _) (Nat.le_add_right _ 6) (nx _ _ _ _ ⟨c, c2, h2.mf hf2⟩ hm2)
theorem lc_load (hG : ga G 140 = b) (hL : L ≤ 3072) (hi : i + 6 ≤ L) (hr : nc + 1 ≤ 601024 ∧ ns + 6 ≤ 7293034) (hl : (gl G).stackTraces = false) (nx : LwN G b L xs nc ns i) (h : CRc M A c c2) (hm : MR M A) : U G (XL b L xs) nc ns mL 846 (LwS i l5 l6) [] M := by
  have hn : nc ≤ 601024 ∧ ns ≤ 7293034 := by omega
  refine u_aload_n (pc := 846) _ (lk17 0 rfl) rfl ?_
  refine u_arg (k := 1) (kk := 1) (pc := 847) hG hL (by omega) _ _ _ _ _ 848 850 851 852 (lk17 1 rfl) (lk17 2 rfl) (lk17 3 rfl) (lk17 4 rfl) (lk17 5 rfl) (by decide) rfl ?_
  refine u_callV (d := 2) (As := [.int (J (xs (i + 1)).toInt)]) (rest := []) (b := 0) (pc := 853) _ (lk17 6 rfl) cvL_95 rfl rfl (Nat.le_of_ble_eq_true rfl) (Nat.le_of_ble_eq_true rfl) (kzL G) ⟨⟨(by decide : 2 + 1 ≤ 2048), (by decide : 64 * (2 + 1) ≤ 84000)⟩, hn⟩ (c_load (d := 0) h (J_rng _)) (fun r N hr9 => ?_)
  obtain ⟨rfl, rfl⟩ := hr9
  refine u_aload_n (pc := 856) _ (lk17 7 rfl) rfl ?_
  refine u_arg (k := 1) (kk := 1) (pc := 857) hG hL (by omega) _ _ _ _ _ 858 860 861 862 (lk17 8 rfl) (lk17 9 rfl) (lk17 10 rfl) (lk17 11 rfl) (lk17 12 rfl) (by decide) rfl ?_
  refine u_callV (d := 2) (As := [.int (J (xs (i + 1)).toInt)]) (rest := [.int (J (sLoad A (xs (i + 1)).toInt))]) (b := 54) (pc := 863) _ (lk17 13 rfl) cvL_98 rfl rfl (Nat.le_of_ble_eq_true rfl) (Nat.le_of_ble_eq_true rfl) (kzL G) ⟨⟨(by decide : 2 + 1 ≤ 2048), (by decide : 64 * (2 + 1) ≤ 84000)⟩, hn⟩ (m_load (d := 0) hm (J_rng _)) (fun r N hr9 => ?_)
  obtain ⟨rfl, rfl⟩ := hr9
  refine u_icEq (y := J (sLoad A (xs (i + 1)).toInt)) (pc := 866) _ 1195 (lk17 14 rfl) (by decide) ?_
  exact u_wide (Nat.le_succ _) (Nat.le_add_right _ 6) (nx _ _ _ _ ⟨c, c2, h.mf (mf_fld _ 0 0)⟩ (hm.fld 0 (by decide)))
theorem lc_ranked (hG : ga G 140 = b) (hL : L ≤ 3072) (hi : i + 6 ≤ L) (hr : nc + 1 ≤ 601024 ∧ ns + 6 ≤ 7293034) (hl : (gl G).stackTraces = false) (nx : LwN G b L xs nc ns i) (h : CRc M A c c2) (hm : MR M A) : U G (XL b L xs) nc ns mL 871 (LwS i l5 l6) [] M := by
  have hn : nc ≤ 601024 ∧ ns ≤ 7293034 := by omega
  refine u_aload_n (pc := 871) _ (lk18 0 rfl) rfl ?_
  refine u_arg (k := 1) (kk := 1) (pc := 872) hG hL (by omega) _ _ _ _ _ 873 875 876 877 (lk18 1 rfl) (lk18 2 rfl) (lk18 3 rfl) (lk18 4 rfl) (lk18 5 rfl) (by decide) rfl ?_
  refine u_callV (d := 3) (As := [.int (J (xs (i + 1)).toInt)]) (rest := []) (b := 0) (pc := 878) _ (lk18 6 rfl) cvL_99 rfl rfl (Nat.le_of_ble_eq_true rfl) (Nat.le_of_ble_eq_true rfl) (kzL G) ⟨⟨(by decide : 3 + 1 ≤ 2048), (by decide : 64 * (3 + 1) ≤ 84000)⟩, hn⟩ (c_ranked (d := 0) h (J_rng _)) (fun r N hr9 => ?_)
  obtain ⟨rfl, rfl⟩ := hr9
  refine u_aload_n (pc := 881) _ (lk18 7 rfl) rfl ?_
  refine u_arg (k := 1) (kk := 1) (pc := 882) hG hL (by omega) _ _ _ _ _ 883 885 886 887 (lk18 8 rfl) (lk18 9 rfl) (lk18 10 rfl) (lk18 11 rfl) (lk18 12 rfl) (by decide) rfl ?_
  refine u_callV (d := 1) (As := [.int (J (xs (i + 1)).toInt)]) (rest := [.int (J (sRank A (xs (i + 1)).toInt))]) (b := 54) (pc := 888) _ (lk18 13 rfl) cvL_102 rfl rfl (Nat.le_of_ble_eq_true rfl) (Nat.le_of_ble_eq_true rfl) (kzL G) ⟨⟨(by decide : 1 + 1 ≤ 2048), (by decide : 64 * (1 + 1) ≤ 84000)⟩, hn⟩ (m_ranked (d := 0) hm (J_rng _)) (fun r N hr9 => ?_)
  obtain ⟨rfl, rfl⟩ := hr9
  refine u_icEq (y := J (sRank A (xs (i + 1)).toInt)) (pc := 891) _ 1195 (lk18 14 rfl) (by decide) ?_
  exact u_wide (Nat.le_succ _) (Nat.le_add_right _ 6) (nx _ _ _ _ ⟨c, c2, h.mf (mf_fld _ 0 0)⟩ (hm.fld 0 (by decide)))
theorem lc_fairer (hG : ga G 140 = b) (hL : L ≤ 3072) (hi : i + 6 ≤ L) (hr : nc + 1 ≤ 601024 ∧ ns + 6 ≤ 7293034) (hl : (gl G).stackTraces = false) (nx : LwN G b L xs nc ns i) (h : CRc M A c c2) (hm : MR M A) : U G (XL b L xs) nc ns mL 896 (LwS i l5 l6) [] M := by
  have hn : nc ≤ 601024 ∧ ns ≤ 7293034 := by omega
  refine u_aload_n (pc := 896) _ (lk19 0 rfl) rfl ?_
  refine u_arg (k := 1) (kk := 1) (pc := 897) hG hL (by omega) _ _ _ _ _ 898 900 901 902 (lk19 1 rfl) (lk19 2 rfl) (lk19 3 rfl) (lk19 4 rfl) (lk19 5 rfl) (by decide) rfl ?_
  refine u_callV (d := 6) (As := [.int (J (xs (i + 1)).toInt)]) (rest := []) (b := 0) (pc := 903) _ (lk19 6 rfl) cvL_103 rfl rfl (Nat.le_of_ble_eq_true rfl) (Nat.le_of_ble_eq_true rfl) (kzL G) ⟨⟨(by decide : 6 + 1 ≤ 2048), (by decide : 64 * (6 + 1) ≤ 84000)⟩, hn⟩ (c_fairer (d := 0) h (J_rng _)) (fun r N hr9 => ?_)
  obtain ⟨rfl, h2, hf⟩ := hr9
  refine u_aload_n (pc := 906) _ (lk19 7 rfl) rfl ?_
  refine u_arg (k := 1) (kk := 1) (pc := 907) hG hL (by omega) _ _ _ _ _ 908 910 911 912 (lk19 8 rfl) (lk19 9 rfl) (lk19 10 rfl) (lk19 11 rfl) (lk19 12 rfl) (by decide) rfl ?_
  refine u_callV (d := 3) (As := [.int (J (xs (i + 1)).toInt)]) (rest := [.int (J (sFair A (xs (i + 1)).toInt))]) (b := 54) (pc := 913) _ (lk19 13 rfl) cvL_106 rfl rfl (Nat.le_of_ble_eq_true rfl) (Nat.le_of_ble_eq_true rfl) (kzL G) ⟨⟨(by decide : 3 + 1 ≤ 2048), (by decide : 64 * (3 + 1) ≤ 84000)⟩, hn⟩ (m_fairer (d := 0) (hm.cf hf) (J_rng _)) (fun r N hr9 => ?_)
  obtain ⟨rfl, hm2, hf2⟩ := hr9
  refine u_icEq (y := J (sFair A (xs (i + 1)).toInt)) (pc := 916) _ 1195 (lk19 14 rfl) (by decide) ?_
  exact u_wide (Nat.le_succ _) (Nat.le_add_right _ 6) (nx _ _ _ _ ⟨c, c2, h2.mf hf2⟩ hm2)
theorem lc_even (hG : ga G 140 = b) (hL : L ≤ 3072) (hi : i + 6 ≤ L) (hr : nc + 1 ≤ 601024 ∧ ns + 6 ≤ 7293034) (hl : (gl G).stackTraces = false) (nx : LwN G b L xs nc ns i) (h : CRc M A c c2) (hm : MR M A) : U G (XL b L xs) nc ns mL 921 (LwS i l5 l6) [] M := by
  have hn : nc ≤ 601024 ∧ ns ≤ 7293034 := by omega
  refine u_aload_n (pc := 921) _ (lk20 0 rfl) rfl ?_
  refine u_arg (k := 1) (kk := 1) (pc := 922) hG hL (by omega) _ _ _ _ _ 923 925 926 927 (lk20 1 rfl) (lk20 2 rfl) (lk20 3 rfl) (lk20 4 rfl) (lk20 5 rfl) (by decide) rfl ?_
  refine u_callV (d := 6) (As := [.int (J (xs (i + 1)).toInt)]) (rest := []) (b := 0) (pc := 928) _ (lk20 6 rfl) cvL_107 rfl rfl (Nat.le_of_ble_eq_true rfl) (Nat.le_of_ble_eq_true rfl) (kzL G) ⟨⟨(by decide : 6 + 1 ≤ 2048), (by decide : 64 * (6 + 1) ≤ 84000)⟩, hn⟩ (c_even (d := 0) h (J_rng _)) (fun r N hr9 => ?_)
  obtain ⟨rfl, h2, hf⟩ := hr9
  refine u_aload_n (pc := 931) _ (lk20 7 rfl) rfl ?_
  refine u_arg (k := 1) (kk := 1) (pc := 932) hG hL (by omega) _ _ _ _ _ 933 935 936 937 (lk20 8 rfl) (lk20 9 rfl) (lk20 10 rfl) (lk20 11 rfl) (lk20 12 rfl) (by decide) rfl ?_
  refine u_callV (d := 3) (As := [.int (J (xs (i + 1)).toInt)]) (rest := [.int (J (sEven A (xs (i + 1)).toInt).1)]) (b := 54) (pc := 938) _ (lk20 13 rfl) cvL_110 rfl rfl (Nat.le_of_ble_eq_true rfl) (Nat.le_of_ble_eq_true rfl) (kzL G) ⟨⟨(by decide : 3 + 1 ≤ 2048), (by decide : 64 * (3 + 1) ≤ 84000)⟩, hn⟩ (m_even (d := 0) (hm.cf hf) (J_rng _)) (fun r N hr9 => ?_)
  obtain ⟨rfl, hm2, hf2⟩ := hr9
  refine u_icEq (y := J (sEven A (xs (i + 1)).toInt).1) (pc := 941) _ 1195 (lk20 14 rfl) (by decide) ?_
  exact u_wide (Nat.le_succ _) (Nat.le_add_right _ 6) (nx _ _ _ _ ⟨c, c2, h2.mf hf2⟩ hm2)
theorem lc_lent (hG : ga G 140 = b) (hL : L ≤ 3072) (hi : i + 6 ≤ L) (hr : nc + 1 ≤ 601024 ∧ ns + 6 ≤ 7293034) (hl : (gl G).stackTraces = false) (nx : LwN G b L xs nc ns i) (h : CRc M A c c2) (hm : MR M A) : U G (XL b L xs) nc ns mL 946 (LwS i l5 l6) [] M := by
  have hn : nc ≤ 601024 ∧ ns ≤ 7293034 := by omega
  refine u_aload_n (pc := 946) _ (lk21 0 rfl) rfl ?_
  refine u_arg (k := 1) (kk := 1) (pc := 947) hG hL (by omega) _ _ _ _ _ 948 950 951 952 (lk21 1 rfl) (lk21 2 rfl) (lk21 3 rfl) (lk21 4 rfl) (lk21 5 rfl) (by decide) rfl ?_
  refine u_arg (k := 2) (kk := 2) (pc := 953) hG hL (by omega) _ _ _ _ _ 954 956 957 958 (lk21 6 rfl) (lk21 7 rfl) (lk21 8 rfl) (lk21 9 rfl) (lk21 10 rfl) (by decide) rfl ?_
  refine u_callV (d := 2) (As := [.int (J (xs (i + 1)).toInt), .int (J (xs (i + 2)).toInt)]) (rest := []) (b := 0) (pc := 959) _ (lk21 11 rfl) cvL_111 rfl rfl (Nat.le_of_ble_eq_true rfl) (Nat.le_of_ble_eq_true rfl) (kzL G) ⟨⟨(by decide : 2 + 1 ≤ 2048), (by decide : 64 * (2 + 1) ≤ 84000)⟩, hn⟩ (c_lent9 (d := 0) h (J_rng _) (J_rng _)) (fun r N hr9 => ?_)
  obtain ⟨rfl, rfl⟩ := hr9
  refine u_aload_n (pc := 962) _ (lk21 12 rfl) rfl ?_
  refine u_arg (k := 1) (kk := 1) (pc := 963) hG hL (by omega) _ _ _ _ _ 964 966 967 968 (lk21 13 rfl) (lk21 14 rfl) (lk21 15 rfl) (lk21 16 rfl) (lk21 17 rfl) (by decide) rfl ?_
  refine u_arg (k := 2) (kk := 2) (pc := 969) hG hL (by omega) _ _ _ _ _ 970 972 973 974 (lk21 18 rfl) (lk21 19 rfl) (lk21 20 rfl) (lk21 21 rfl) (lk21 22 rfl) (by decide) rfl ?_
  refine u_callV (d := 2) (As := [.int (J (xs (i + 1)).toInt), .int (J (xs (i + 2)).toInt)]) (rest := [.int (J (sLent A (xs (i + 1)).toInt (xs (i + 2)).toInt))]) (b := 54) (pc := 975) _ (lk21 23 rfl) cvL_114 rfl rfl (Nat.le_of_ble_eq_true rfl) (Nat.le_of_ble_eq_true rfl) (kzL G) ⟨⟨(by decide : 2 + 1 ≤ 2048), (by decide : 64 * (2 + 1) ≤ 84000)⟩, hn⟩ (m_lent (d := 0) hm (J_rng _) (J_rng _)) (fun r N hr9 => ?_)
  obtain ⟨rfl, rfl⟩ := hr9
  refine u_icEq (y := J (sLent A (xs (i + 1)).toInt (xs (i + 2)).toInt)) (pc := 978) _ 1195 (lk21 24 rfl) (by decide) ?_
  exact u_wide (Nat.le_succ _) (Nat.le_add_right _ 6) (nx _ _ _ _ ⟨c, c2, h.mf (mf_fld _ 0 0)⟩ (hm.fld 0 (by decide)))
theorem lc_owed (hG : ga G 140 = b) (hL : L ≤ 3072) (hi : i + 6 ≤ L) (hr : nc + 1 ≤ 601024 ∧ ns + 6 ≤ 7293034) (hl : (gl G).stackTraces = false) (nx : LwN G b L xs nc ns i) (h : CRc M A c c2) (hm : MR M A) : U G (XL b L xs) nc ns mL 983 (LwS i l5 l6) [] M := by
  have hn : nc ≤ 601024 ∧ ns ≤ 7293034 := by omega
  refine u_aload_n (pc := 983) _ (lk22 0 rfl) rfl ?_
  refine u_arg (k := 1) (kk := 1) (pc := 984) hG hL (by omega) _ _ _ _ _ 985 987 988 989 (lk22 1 rfl) (lk22 2 rfl) (lk22 3 rfl) (lk22 4 rfl) (lk22 5 rfl) (by decide) rfl ?_
  refine u_aload_n (pc := 990) _ (lk22 6 rfl) rfl ?_
  by_cases hq : owOk A (xs (i + 1)).toInt
  · refine u_callW (As := [.ref 0, .int (J (xs (i + 1)).toInt), .ref 83]) (rest := []) (pc := 991) _ (lk22 7 rfl) rfl cw_owed rfl (Nat.le_of_ble_eq_true rfl) (Nat.le_of_ble_eq_true rfl) (kzL G) ⟨⟨(by decide : 10 ≤ 2048), (by decide : 640 ≤ 84000)⟩, hr⟩ (w_owed h hq) (fun r N hr9 => ?_)
    obtain ⟨rfl, rfl⟩ := hr9
    refine u_istore (pc := 994) _ (lk22 8 rfl) ⟨(Nat.le_of_ble_eq_true rfl), rfl⟩ ?_
    show U G (XL b L xs) (nc + 1) (ns + 6) mL 996 (LwS i (some (.int (J 0))) l6) [] (sL M 83 0 (J (sOw A (xs (i + 1)).toInt)).toInt64)
    refine u_aload_n (pc := 996) _ (lk22 9 rfl) rfl ?_
    refine u_arg (k := 1) (kk := 1) (pc := 997) hG hL (by omega) _ _ _ _ _ 998 1000 1001 1002 (lk22 10 rfl) (lk22 11 rfl) (lk22 12 rfl) (lk22 13 rfl) (lk22 14 rfl) (by decide) rfl ?_
    refine u_callV (d := 2) (As := [.int (J (xs (i + 1)).toInt)]) (rest := []) (b := 54) (pc := 1003) _ (lk22 15 rfl) cvL_118 rfl rfl (Nat.le_of_ble_eq_true rfl) (Nat.le_of_ble_eq_true rfl) (kzL G) ⟨⟨(by decide : 2 + 1 ≤ 2048), (by decide : 64 * (2 + 1) ≤ 84000)⟩, hr⟩ (m_owed (d := 0) (hm.sl _) (J_rng _) hq) (fun r N hr9 => ?_)
    obtain ⟨rfl, rfl⟩ := hr9
    refine u_istore (pc := 1006) _ (lk22 16 rfl) ⟨(Nat.le_of_ble_eq_true rfl), rfl⟩ ?_
    show U G (XL b L xs) (nc + 1) (ns + 6) mL 1008 (LwS i (some (.int (J 0))) (some (.int (J (sOw A (xs (i + 1)).toInt))))) [] (sI (sL M 83 0 (J (sOw A (xs (i + 1)).toInt)).toInt64) 54 0 0)
    refine u_aload_n (pc := 1008) _ (lk22 17 rfl) rfl ?_
    refine u_callV (d := 0) (As := []) (rest := []) (b := 54) (pc := 1009) _ (lk22 18 rfl) cvL_45 rfl rfl (Nat.le_of_ble_eq_true rfl) (Nat.le_of_ble_eq_true rfl) (kzL G) ⟨⟨(by decide : 0 + 1 ≤ 2048), (by decide : 64 * (0 + 1) ≤ 84000)⟩, hr⟩ (m_thrown (v := 0) (by rw [gI_sI, if_pos rfl, if_pos rfl])) (fun r N hr9 => ?_)
    obtain ⟨rfl, rfl⟩ := hr9
    refine u_iload (pc := 1012) _ (lk22 19 rfl) rfl ?_
    refine u_icEq (y := J 0) (pc := 1014) _ 1019 (lk22 20 rfl) (by decide) ?_
    refine u_iload (pc := 1019) _ (lk22 23 rfl) rfl ?_
    refine u_if_neF (a := 0) (pc := 1021) _ 1036 (lk22 24 rfl) (by decide) (by decide) (fun h => h rfl) ?_
    refine u_aload_n (pc := 1024) _ (lk22 25 rfl) rfl ?_
    refine u_iconst (pc := 1025) _ (lk22 26 rfl) ?_
    refine u_laldE (a := 83) (n0 := 1) (z := 0) (v := (J (sOw A (xs (i + 1)).toInt)).toInt64) (pc := 1026) _ (lk22 27 rfl) rfl (by decide) (by rw [gL_sI, gL_sL, if_pos rfl]; rfl) ?_
    refine u_iload (pc := 1027) _ (lk22 28 rfl) rfl ?_
    refine u_i2lR (pc := 1029) _ (lk22 29 rfl) ?_
    refine u_lcEq (pc := 1030) _ (lk22 30 rfl) ?_
    refine u_if_eqT (a := 0) (pc := 1031) _ 1036 (lk22 31 rfl) (by decide) (by decide) rfl ?_
    refine u_goto (pc := 1036) _ 1195 (lk22 34 rfl) (by decide) ?_
    exact nx _ _ _ _ ⟨c, c2, (h.mf (mf_sl _ _)).mf (mf_fld _ 0 0)⟩ ((hm.sl _).fld 0 (by decide))
  · refine u_callW (As := [.ref 0, .int (J (xs (i + 1)).toInt), .ref 83]) (rest := []) (pc := 991) _ (lk22 7 rfl) rfl cw_owed rfl (Nat.le_of_ble_eq_true rfl) (Nat.le_of_ble_eq_true rfl) (kzL G) ⟨⟨(by decide : 10 ≤ 2048), (by decide : 640 ≤ 84000)⟩, hr⟩ (w_owedN hl h (J_rng _) hq) (fun r N hr9 => ?_)
    obtain ⟨rfl, hN9⟩ := hr9
    rw [hN9]
    refine u_istore (pc := 994) _ (lk22 8 rfl) ⟨(Nat.le_of_ble_eq_true rfl), rfl⟩ ?_
    show U G (XL b L xs) (nc + 1) (ns + 6) mL 996 (LwS i (some (.int (J 1))) l6) [] M
    refine u_aload_n (pc := 996) _ (lk22 9 rfl) rfl ?_
    refine u_arg (k := 1) (kk := 1) (pc := 997) hG hL (by omega) _ _ _ _ _ 998 1000 1001 1002 (lk22 10 rfl) (lk22 11 rfl) (lk22 12 rfl) (lk22 13 rfl) (lk22 14 rfl) (by decide) rfl ?_
    refine u_callV (d := 2) (As := [.int (J (xs (i + 1)).toInt)]) (rest := []) (b := 54) (pc := 1003) _ (lk22 15 rfl) cvL_118 rfl rfl (Nat.le_of_ble_eq_true rfl) (Nat.le_of_ble_eq_true rfl) (kzL G) ⟨⟨(by decide : 2 + 1 ≤ 2048), (by decide : 64 * (2 + 1) ≤ 84000)⟩, hr⟩ (m_owedN (d := 0) hm (J_rng _) hq) (fun r N hr9 => ?_)
    obtain ⟨rfl, rfl⟩ := hr9
    refine u_istore (pc := 1006) _ (lk22 16 rfl) ⟨(Nat.le_of_ble_eq_true rfl), rfl⟩ ?_
    show U G (XL b L xs) (nc + 1) (ns + 6) mL 1008 (LwS i (some (.int (J 1))) (some (.int (J 0)))) [] (sI M 54 0 1)
    refine u_aload_n (pc := 1008) _ (lk22 17 rfl) rfl ?_
    refine u_callV (d := 0) (As := []) (rest := []) (b := 54) (pc := 1009) _ (lk22 18 rfl) cvL_45 rfl rfl (Nat.le_of_ble_eq_true rfl) (Nat.le_of_ble_eq_true rfl) (kzL G) ⟨⟨(by decide : 0 + 1 ≤ 2048), (by decide : 64 * (0 + 1) ≤ 84000)⟩, hr⟩ (m_thrown (v := 1) (by rw [gI_sI, if_pos rfl, if_pos rfl])) (fun r N hr9 => ?_)
    obtain ⟨rfl, rfl⟩ := hr9
    refine u_iload (pc := 1012) _ (lk22 19 rfl) rfl ?_
    refine u_icEq (y := J 1) (pc := 1014) _ 1019 (lk22 20 rfl) (by decide) ?_
    refine u_iload (pc := 1019) _ (lk22 23 rfl) rfl ?_
    refine u_if_neT (a := 1) (pc := 1021) _ 1036 (lk22 24 rfl) (by decide) (by decide) (by decide) ?_
    refine u_goto (pc := 1036) _ 1195 (lk22 34 rfl) (by decide) ?_
    exact nx _ _ _ _ ⟨c, c2, h.mf (mf_fld _ 0 1)⟩ (hm.fld 1 (by decide))
theorem lc_payments (hG : ga G 140 = b) (hL : L ≤ 3072) (hi : i + 6 ≤ L) (hr : nc + 1 ≤ 601024 ∧ ns + 6 ≤ 7293034) (hl : (gl G).stackTraces = false) (nx : LwN G b L xs nc ns i) (h : CRc M A c c2) (hm : MR M A) : U G (XL b L xs) nc ns mL 1039 (LwS i l5 l6) [] M := by
  have hn : nc ≤ 601024 ∧ ns ≤ 7293034 := by omega
  refine u_aload_n (pc := 1039) _ (lk23 0 rfl) rfl ?_
  refine u_callV (d := 4) (As := []) (rest := []) (b := 0) (pc := 1040) _ (lk23 1 rfl) cvL_119 rfl rfl (Nat.le_of_ble_eq_true rfl) (Nat.le_of_ble_eq_true rfl) (kzL G) ⟨⟨(by decide : 4 + 1 ≤ 2048), (by decide : 64 * (4 + 1) ≤ 84000)⟩, hn⟩ (c_pay (d := 0) h ) (fun r N hr9 => ?_)
  obtain ⟨rfl, h2, hf⟩ := hr9
  refine u_aload_n (pc := 1043) _ (lk23 2 rfl) rfl ?_
  refine u_callV (d := 3) (As := []) (rest := [.int (J (sPay A))]) (b := 54) (pc := 1044) _ (lk23 3 rfl) cvL_122 rfl rfl (Nat.le_of_ble_eq_true rfl) (Nat.le_of_ble_eq_true rfl) (kzL G) ⟨⟨(by decide : 3 + 1 ≤ 2048), (by decide : 64 * (3 + 1) ≤ 84000)⟩, hn⟩ (m_payments (d := 0) (hm.cf hf) ) (fun r N hr9 => ?_)
  obtain ⟨rfl, hm2, hf2⟩ := hr9
  refine u_icEq (y := J (sPay A)) (pc := 1047) _ 1195 (lk23 4 rfl) (by decide) ?_
  exact u_wide (Nat.le_succ _) (Nat.le_add_right _ 6) (nx _ _ _ _ ⟨c, c2, h2.mf hf2⟩ hm2)
theorem lc_share (hG : ga G 140 = b) (hL : L ≤ 3072) (hi : i + 6 ≤ L) (hr : nc + 1 ≤ 601024 ∧ ns + 6 ≤ 7293034) (hl : (gl G).stackTraces = false) (nx : LwN G b L xs nc ns i) (h : CRc M A c c2) (hm : MR M A) : U G (XL b L xs) nc ns mL 1052 (LwS i l5 l6) [] M := by
  have hn : nc ≤ 601024 ∧ ns ≤ 7293034 := by omega
  refine u_aload_n (pc := 1052) _ (lk24 0 rfl) rfl ?_
  refine u_arg (k := 1) (kk := 1) (pc := 1053) hG hL (by omega) _ _ _ _ _ 1054 1056 1057 1058 (lk24 1 rfl) (lk24 2 rfl) (lk24 3 rfl) (lk24 4 rfl) (lk24 5 rfl) (by decide) rfl ?_
  refine u_callV (d := 3) (As := [.int (J (xs (i + 1)).toInt)]) (rest := []) (b := 0) (pc := 1059) _ (lk24 6 rfl) cvL_123 rfl rfl (Nat.le_of_ble_eq_true rfl) (Nat.le_of_ble_eq_true rfl) (kzL G) ⟨⟨(by decide : 3 + 1 ≤ 2048), (by decide : 64 * (3 + 1) ≤ 84000)⟩, hn⟩ (c_share (d := 0) h (J_rng _)) (fun r N hr9 => ?_)
  obtain ⟨rfl, rfl⟩ := hr9
  refine u_aload_n (pc := 1062) _ (lk24 7 rfl) rfl ?_
  refine u_arg (k := 1) (kk := 1) (pc := 1063) hG hL (by omega) _ _ _ _ _ 1064 1066 1067 1068 (lk24 8 rfl) (lk24 9 rfl) (lk24 10 rfl) (lk24 11 rfl) (lk24 12 rfl) (by decide) rfl ?_
  refine u_callV (d := 2) (As := [.int (J (xs (i + 1)).toInt)]) (rest := [.int (J (sShare A (xs (i + 1)).toInt))]) (b := 54) (pc := 1069) _ (lk24 13 rfl) cvL_126 rfl rfl (Nat.le_of_ble_eq_true rfl) (Nat.le_of_ble_eq_true rfl) (kzL G) ⟨⟨(by decide : 2 + 1 ≤ 2048), (by decide : 64 * (2 + 1) ≤ 84000)⟩, hn⟩ (m_share (d := 0) hm (J_rng _)) (fun r N hr9 => ?_)
  obtain ⟨rfl, rfl⟩ := hr9
  refine u_icEq (y := J (sShare A (xs (i + 1)).toInt)) (pc := 1072) _ 1195 (lk24 14 rfl) (by decide) ?_
  exact u_wide (Nat.le_succ _) (Nat.le_add_right _ 6) (nx _ _ _ _ ⟨c, c2, h.mf (mf_fld _ 0 0)⟩ (hm.fld 0 (by decide)))
theorem lc_spread (hG : ga G 140 = b) (hL : L ≤ 3072) (hi : i + 6 ≤ L) (hr : nc + 1 ≤ 601024 ∧ ns + 6 ≤ 7293034) (hl : (gl G).stackTraces = false) (nx : LwN G b L xs nc ns i) (h : CRc M A c c2) (hm : MR M A) : U G (XL b L xs) nc ns mL 1077 (LwS i l5 l6) [] M := by
  have hn : nc ≤ 601024 ∧ ns ≤ 7293034 := by omega
  refine u_aload_n (pc := 1077) _ (lk25 0 rfl) rfl ?_
  refine u_callV (d := 3) (As := []) (rest := []) (b := 0) (pc := 1078) _ (lk25 1 rfl) cvL_127 rfl rfl (Nat.le_of_ble_eq_true rfl) (Nat.le_of_ble_eq_true rfl) (kzL G) ⟨⟨(by decide : 3 + 1 ≤ 2048), (by decide : 64 * (3 + 1) ≤ 84000)⟩, hn⟩ (c_spread (d := 0) h ) (fun r N hr9 => ?_)
  obtain ⟨rfl, rfl⟩ := hr9
  refine u_aload_n (pc := 1081) _ (lk25 2 rfl) rfl ?_
  refine u_callV (d := 2) (As := []) (rest := [.long (JL (sSpread A))]) (b := 54) (pc := 1082) _ (lk25 3 rfl) cvL_131 rfl rfl (Nat.le_of_ble_eq_true rfl) (Nat.le_of_ble_eq_true rfl) (kzL G) ⟨⟨(by decide : 2 + 1 ≤ 2048), (by decide : 64 * (2 + 1) ≤ 84000)⟩, hn⟩ (m_spread (d := 0) hm ) (fun r N hr9 => ?_)
  obtain ⟨rfl, rfl⟩ := hr9
  refine u_lcEq (y := JL (sSpread A)) (pc := 1085) _ (lk25 4 rfl) ?_
  refine u_if_eqT (a := 0) (pc := 1086) _ 1195 (lk25 5 rfl) (by decide) (by decide) rfl ?_
  exact u_wide (Nat.le_succ _) (Nat.le_add_right _ 6) (nx _ _ _ _ ⟨c, c2, h.mf (mf_fld _ 0 0)⟩ (hm.fld 0 (by decide)))
theorem lc_waited (hG : ga G 140 = b) (hL : L ≤ 3072) (hi : i + 6 ≤ L) (hr : nc + 1 ≤ 601024 ∧ ns + 6 ≤ 7293034) (hl : (gl G).stackTraces = false) (nx : LwN G b L xs nc ns i) (h : CRc M A c c2) (hm : MR M A) : U G (XL b L xs) nc ns mL 1091 (LwS i l5 l6) [] M := by
  have hn : nc ≤ 601024 ∧ ns ≤ 7293034 := by omega
  refine u_aload_n (pc := 1091) _ (lk26 0 rfl) rfl ?_
  refine u_callV (d := 2) (As := []) (rest := []) (b := 0) (pc := 1092) _ (lk26 1 rfl) cvL_132 rfl rfl (Nat.le_of_ble_eq_true rfl) (Nat.le_of_ble_eq_true rfl) (kzL G) ⟨⟨(by decide : 2 + 1 ≤ 2048), (by decide : 64 * (2 + 1) ≤ 84000)⟩, hn⟩ (c_waited (d := 0) h ) (fun r N hr9 => ?_)
  obtain ⟨rfl, rfl⟩ := hr9
  refine u_aload_n (pc := 1095) _ (lk26 2 rfl) rfl ?_
  refine u_callV (d := 2) (As := []) (rest := [.int (J (sWait A))]) (b := 54) (pc := 1096) _ (lk26 3 rfl) cvL_135 rfl rfl (Nat.le_of_ble_eq_true rfl) (Nat.le_of_ble_eq_true rfl) (kzL G) ⟨⟨(by decide : 2 + 1 ≤ 2048), (by decide : 64 * (2 + 1) ≤ 84000)⟩, hn⟩ (m_waited (d := 0) hm ) (fun r N hr9 => ?_)
  obtain ⟨rfl, rfl⟩ := hr9
  refine u_icEq (y := J (sWait A)) (pc := 1099) _ 1195 (lk26 4 rfl) (by decide) ?_
  exact u_wide (Nat.le_succ _) (Nat.le_add_right _ 6) (nx _ _ _ _ ⟨c, c2, h.mf (mf_fld _ 0 0)⟩ (hm.fld 0 (by decide)))
theorem lc_undo (hG : ga G 140 = b) (hL : L ≤ 3072) (hi : i + 6 ≤ L) (hr : nc + 1 ≤ 601024 ∧ ns + 6 ≤ 7293034) (hl : (gl G).stackTraces = false) (nx : LwN G b L xs nc ns i) (h : CRc M A c c2) (hm : MR M A) : U G (XL b L xs) nc ns mL 1104 (LwS i l5 l6) [] M := by
  have hn : nc ≤ 601024 ∧ ns ≤ 7293034 := by omega
  refine u_aload_n (pc := 1104) _ (lk27 0 rfl) rfl ?_
  refine u_callV (d := 3) (As := []) (rest := []) (b := 0) (pc := 1105) _ (lk27 1 rfl) cvL_136 rfl rfl (Nat.le_of_ble_eq_true rfl) (Nat.le_of_ble_eq_true rfl) (kzL G) ⟨⟨(by decide : 3 + 1 ≤ 2048), (by decide : 64 * (3 + 1) ≤ 84000)⟩, hn⟩ (c_undo (d := 0) h ) (fun r N hr9 => ?_)
  obtain ⟨rfl, h2, hf⟩ := hr9
  refine u_aload_n (pc := 1108) _ (lk27 2 rfl) rfl ?_
  refine u_callV (d := 2) (As := []) (rest := [.int (J (sUndo A).1)]) (b := 54) (pc := 1109) _ (lk27 3 rfl) cvL_139 rfl rfl (Nat.le_of_ble_eq_true rfl) (Nat.le_of_ble_eq_true rfl) (kzL G) ⟨⟨(by decide : 2 + 1 ≤ 2048), (by decide : 64 * (2 + 1) ≤ 84000)⟩, hn⟩ (m_undo (d := 0) (hm.cf hf) ) (fun r N hr9 => ?_)
  obtain ⟨rfl, hm2, hf2⟩ := hr9
  refine u_icEq (y := J (sUndo A).1) (pc := 1112) _ 1195 (lk27 4 rfl) (by decide) ?_
  exact u_wide (Nat.le_succ _) (Nat.le_add_right _ 6) (nx _ _ _ _ ⟨c, c2, h2.mf hf2⟩ hm2)
theorem lc_keep (hG : ga G 140 = b) (hL : L ≤ 3072) (hi : i + 6 ≤ L) (hr : nc + 1 ≤ 601024 ∧ ns + 6 ≤ 7293034) (hl : (gl G).stackTraces = false) (nx : LwN G b L xs nc ns i) (h : CRc M A c c2) (hm : MR M A) : U G (XL b L xs) nc ns mL 1117 (LwS i l5 l6) [] M := by
  have hn : nc ≤ 601024 ∧ ns ≤ 7293034 := by omega
  refine u_aload_n (pc := 1117) _ (lk28 0 rfl) rfl ?_
  refine u_arg (k := 1) (kk := 1) (pc := 1118) hG hL (by omega) _ _ _ _ _ 1119 1121 1122 1123 (lk28 1 rfl) (lk28 2 rfl) (lk28 3 rfl) (lk28 4 rfl) (lk28 5 rfl) (by decide) rfl ?_
  refine u_arg (k := 2) (kk := 2) (pc := 1124) hG hL (by omega) _ _ _ _ _ 1125 1127 1128 1129 (lk28 6 rfl) (lk28 7 rfl) (lk28 8 rfl) (lk28 9 rfl) (lk28 10 rfl) (by decide) rfl ?_
  refine u_if_eq (pc := 1130) _ 1137 (lk28 11 rfl) (by decide) (J_rng _) (fun e2 => ?_) (fun e2 => ?_)
  · refine u_iconst (pc := 1137) _ (lk28 14 rfl) ?_
    refine u_callV (d := 3) (As := [.int (J (xs (i + 1)).toInt), .int (J 0)]) (rest := []) (b := 0) (pc := 1138) _ (lk28 15 rfl) cvL_140 rfl rfl (Nat.le_of_ble_eq_true rfl) (Nat.le_of_ble_eq_true rfl) (kzL G) ⟨⟨(by decide : 3 + 1 ≤ 2048), (by decide : 64 * (3 + 1) ≤ 84000)⟩, hn⟩ (c_keep (d := 0) (b := false) h (J_rng _)) (fun r N hr9 => ?_)
    obtain ⟨rfl, h2, hf⟩ := hr9
    refine u_aload_n (pc := 1141) _ (lk28 16 rfl) rfl ?_
    refine u_arg (k := 1) (kk := 1) (pc := 1142) hG hL (by omega) _ _ _ _ _ 1143 1145 1146 1147 (lk28 17 rfl) (lk28 18 rfl) (lk28 19 rfl) (lk28 20 rfl) (lk28 21 rfl) (by decide) rfl ?_
    refine u_arg (k := 2) (kk := 2) (pc := 1148) hG hL (by omega) _ _ _ _ _ 1149 1151 1152 1153 (lk28 22 rfl) (lk28 23 rfl) (lk28 24 rfl) (lk28 25 rfl) (lk28 26 rfl) (by decide) rfl ?_
    refine u_if_eqT (pc := 1154) _ 1161 (lk28 27 rfl) (by decide) (J_rng _) e2 ?_
    refine u_iconst (pc := 1161) _ (lk28 30 rfl) ?_
    refine u_callV (d := 2) (As := [.int (J (xs (i + 1)).toInt), .int (J 0)]) (rest := [.int (J (sKeep A (xs (i + 1)).toInt false).1)]) (b := 54) (pc := 1162) _ (lk28 31 rfl) cvL_144 rfl rfl (Nat.le_of_ble_eq_true rfl) (Nat.le_of_ble_eq_true rfl) (kzL G) ⟨⟨(by decide : 2 + 1 ≤ 2048), (by decide : 64 * (2 + 1) ≤ 84000)⟩, hn⟩ (m_keep (d := 0) (b := false) (hm.cf hf) (J_rng _)) (fun r N hr9 => ?_)
    obtain ⟨rfl, hm2, hf2⟩ := hr9
    refine u_icEq (y := J (sKeep A (xs (i + 1)).toInt false).1) (pc := 1165) _ 1195 (lk28 32 rfl) (by decide) ?_
    exact u_wide (Nat.le_succ _) (Nat.le_add_right _ 6) (nx _ _ _ _ ⟨c, c2, h2.mf hf2⟩ hm2)
  · refine u_iconst (pc := 1133) _ (lk28 12 rfl) ?_
    refine u_goto (pc := 1134) _ 1138 (lk28 13 rfl) (by decide) ?_
    refine u_callV (d := 3) (As := [.int (J (xs (i + 1)).toInt), .int (J 1)]) (rest := []) (b := 0) (pc := 1138) _ (lk28 15 rfl) cvL_140 rfl rfl (Nat.le_of_ble_eq_true rfl) (Nat.le_of_ble_eq_true rfl) (kzL G) ⟨⟨(by decide : 3 + 1 ≤ 2048), (by decide : 64 * (3 + 1) ≤ 84000)⟩, hn⟩ (c_keep (d := 0) (b := true) h (J_rng _)) (fun r N hr9 => ?_)
    obtain ⟨rfl, h2, hf⟩ := hr9
    refine u_aload_n (pc := 1141) _ (lk28 16 rfl) rfl ?_
    refine u_arg (k := 1) (kk := 1) (pc := 1142) hG hL (by omega) _ _ _ _ _ 1143 1145 1146 1147 (lk28 17 rfl) (lk28 18 rfl) (lk28 19 rfl) (lk28 20 rfl) (lk28 21 rfl) (by decide) rfl ?_
    refine u_arg (k := 2) (kk := 2) (pc := 1148) hG hL (by omega) _ _ _ _ _ 1149 1151 1152 1153 (lk28 22 rfl) (lk28 23 rfl) (lk28 24 rfl) (lk28 25 rfl) (lk28 26 rfl) (by decide) rfl ?_
    refine u_if_eqF (pc := 1154) _ 1161 (lk28 27 rfl) (by decide) (J_rng _) e2 ?_
    refine u_iconst (pc := 1157) _ (lk28 28 rfl) ?_
    refine u_goto (pc := 1158) _ 1162 (lk28 29 rfl) (by decide) ?_
    refine u_callV (d := 2) (As := [.int (J (xs (i + 1)).toInt), .int (J 1)]) (rest := [.int (J (sKeep A (xs (i + 1)).toInt true).1)]) (b := 54) (pc := 1162) _ (lk28 31 rfl) cvL_144 rfl rfl (Nat.le_of_ble_eq_true rfl) (Nat.le_of_ble_eq_true rfl) (kzL G) ⟨⟨(by decide : 2 + 1 ≤ 2048), (by decide : 64 * (2 + 1) ≤ 84000)⟩, hn⟩ (m_keep (d := 0) (b := true) (hm.cf hf) (J_rng _)) (fun r N hr9 => ?_)
    obtain ⟨rfl, hm2, hf2⟩ := hr9
    refine u_icEq (y := J (sKeep A (xs (i + 1)).toInt true).1) (pc := 1165) _ 1195 (lk28 32 rfl) (by decide) ?_
    exact u_wide (Nat.le_succ _) (Nat.le_add_right _ 6) (nx _ _ _ _ ⟨c, c2, h2.mf hf2⟩ hm2)
theorem lc_count (hG : ga G 140 = b) (hL : L ≤ 3072) (hi : i + 6 ≤ L) (hr : nc + 1 ≤ 601024 ∧ ns + 6 ≤ 7293034) (hl : (gl G).stackTraces = false) (nx : LwN G b L xs nc ns i) (h : CRc M A c c2) (hm : MR M A) : U G (XL b L xs) nc ns mL 1170 (LwS i l5 l6) [] M := by
  have hn : nc ≤ 601024 ∧ ns ≤ 7293034 := by omega
  refine u_aload_n (pc := 1170) _ (lk29 0 rfl) rfl ?_
  refine u_arg (k := 1) (kk := 1) (pc := 1171) hG hL (by omega) _ _ _ _ _ 1172 1174 1175 1176 (lk29 1 rfl) (lk29 2 rfl) (lk29 3 rfl) (lk29 4 rfl) (lk29 5 rfl) (by decide) rfl ?_
  refine u_callV (d := 2) (As := [.int (J (xs (i + 1)).toInt)]) (rest := []) (b := 0) (pc := 1177) _ (lk29 6 rfl) cvL_145 rfl rfl (Nat.le_of_ble_eq_true rfl) (Nat.le_of_ble_eq_true rfl) (kzL G) ⟨⟨(by decide : 2 + 1 ≤ 2048), (by decide : 64 * (2 + 1) ≤ 84000)⟩, hn⟩ (c_count (d := 0) h (J_rng _)) (fun r N hr9 => ?_)
  obtain ⟨rfl, rfl⟩ := hr9
  refine u_aload_n (pc := 1180) _ (lk29 7 rfl) rfl ?_
  refine u_arg (k := 1) (kk := 1) (pc := 1181) hG hL (by omega) _ _ _ _ _ 1182 1184 1185 1186 (lk29 8 rfl) (lk29 9 rfl) (lk29 10 rfl) (lk29 11 rfl) (lk29 12 rfl) (by decide) rfl ?_
  refine u_callV (d := 2) (As := [.int (J (xs (i + 1)).toInt)]) (rest := [.int (J (sCount A (xs (i + 1)).toInt))]) (b := 54) (pc := 1187) _ (lk29 13 rfl) cvL_148 rfl rfl (Nat.le_of_ble_eq_true rfl) (Nat.le_of_ble_eq_true rfl) (kzL G) ⟨⟨(by decide : 2 + 1 ≤ 2048), (by decide : 64 * (2 + 1) ≤ 84000)⟩, hn⟩ (m_count (d := 0) hm (J_rng _)) (fun r N hr9 => ?_)
  obtain ⟨rfl, rfl⟩ := hr9
  refine u_icEq (y := J (sCount A (xs (i + 1)).toInt)) (pc := 1190) _ 1195 (lk29 14 rfl) (by decide) ?_
  exact u_wide (Nat.le_succ _) (Nat.le_add_right _ 6) (nx _ _ _ _ ⟨c, c2, h.mf (mf_fld _ 0 0)⟩ (hm.fld 0 (by decide)))
end LawC
