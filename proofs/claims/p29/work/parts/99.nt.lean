/-! the law: its turns -/
abbrev mLaw (L : Nat) (xs : Nat → Int32) : zI := (yL_law, RL, code, 13, ret, [], some (L, xs))
abbrev M00 : zM := fun _ => none
section LAW
variable {L : Nat} {xs : Nat → Int32}
theorem lawB {X N R D : Nat → Nat} {Y : Nat → Nat → Nat} (hI2 : IV Y X) (hLw : Lw X N R D) (hb : bal X) {x y : Int32} {k u n15 : Nat} (F : zP) (hn15 : 236 ≤ n15) (hF : ∀ n1 Y4, 236 ≤ n1 → IV Y4 X → G (mLaw L xs) 11 (2190 * u) (50784 * u) (some n1) 92 [(0, .ref 0), (1, .ref 8), (2, .ref 233), (3, .ref 234), (4, .ref 235), (5, .int (nI 1)), (6, .int (nI (k + 1)))] [] (cM (lM M00 N R D) Y4) F) : G (mLaw L xs) 11 (2190 * u + 2017) (50784 * u + 48408) (some n15) 274 [(0, .ref 0), (1, .ref 8), (2, .ref 233), (3, .ref 234), (4, .ref 235), (5, .int (nI 1)), (6, .int (nI k)), (7, .int x), (8, .int y)] [] (cM (lM M00 N R D) Y) F := by
  have hX := IV_X hI2
  have hB := Lw_B hLw hX
  have hC := Lw_C hLw hX
  refine g_iload dL_law_274 rfl ?_
  refine g_iconst (v := nI 4) dL_law_276 (by decide) ?_
  refine g_ishr dL_law_277 ?_
  refine g_iconst (v := nI 3) dL_law_278 (by decide) ?_
  refine g_callSn_i (kL_low (n := 3) (by omega) (by omega)) oL_low pL_low lL_58 dL_law_279 rfl rfl (Nat.le_of_ble_eq_true rfl) (Nat.le_of_ble_eq_true rfl) (by first | decide | omega) (Nat.le_refl _) (Nat.le_refl _) (fun _ e => nf_e e) (fun M1 n16 hn16 e => ?_)
  subst e
  have q7 : lo (y >>> (nI 4 &&& 31)) 3 < 3 := lo_lt _ (by omega)
  refine g_istore dL_law_282 (show 9 < 13 by decide) ?_
  refine g_iload dL_law_284 rfl ?_
  refine g_bipush (v := nI 6) dL_law_286 (by decide) ?_
  refine g_ishr dL_law_288 ?_
  refine g_bipush (v := nI 84) dL_law_289 (by decide) ?_
  refine g_callSn_i (kL_low (n := 84) (by omega) (by omega)) oL_low pL_low lL_58 dL_law_291 rfl rfl (Nat.le_of_ble_eq_true rfl) (Nat.le_of_ble_eq_true rfl) (by first | decide | omega) (Nat.le_refl _) (Nat.le_refl _) (fun _ e => nf_e e) (fun M1 n17 hn17 e => ?_)
  subst e
  have q8 : lo (y >>> (nI 6 &&& 31)) 84 < 84 := lo_lt _ (by omega)
  refine g_istore dL_law_294 (show 10 < 13 by decide) ?_
  refine g_iload dL_law_296 rfl ?_
  refine g_iconst (v := nI 5) dL_law_298 (by decide) ?_
  refine g_ishr dL_law_299 ?_
  refine g_bipush (v := nI 20) dL_law_300 (by decide) ?_
  refine g_callSn_i (kL_low (n := 20) (by omega) (by omega)) oL_low pL_low lL_58 dL_law_302 rfl rfl (Nat.le_of_ble_eq_true rfl) (Nat.le_of_ble_eq_true rfl) (by first | decide | omega) (Nat.le_refl _) (Nat.le_refl _) (fun _ e => nf_e e) (fun M1 n18 hn18 e => ?_)
  subst e
  have q9 : lo (x >>> (nI 5 &&& 31)) 20 < 20 := lo_lt _ (by omega)
  refine g_istore dL_law_305 (show 11 < 13 by decide) ?_
  refine g_iload dL_law_307 rfl ?_
  refine g_iconst (v := nI 1) dL_law_309 (by decide) ?_
  refine g_iadd_n dL_law_310 ?_
  refine g_iload dL_law_311 rfl ?_
  refine g_bipush (v := nI 9) dL_law_313 (by decide) ?_
  refine g_ishr dL_law_315 ?_
  refine g_iconst (v := nI 4) dL_law_316 (by decide) ?_
  refine g_callSn_i (kL_low (n := 4) (by omega) (by omega)) oL_low pL_low lL_58 dL_law_317 rfl rfl (Nat.le_of_ble_eq_true rfl) (Nat.le_of_ble_eq_true rfl) (by first | decide | omega) (Nat.le_refl _) (Nat.le_refl _) (fun _ e => nf_e e) (fun M1 n19 hn19 e => ?_)
  subst e
  have q10 : lo (y >>> (nI 9 &&& 31)) 4 < 4 := lo_lt _ (by omega)
  generalize lo (y >>> (nI 4 &&& 31)) 3 = a at q7 ⊢
  generalize lo (y >>> (nI 6 &&& 31)) 84 = day at q8 ⊢
  generalize lo (x >>> (nI 5 &&& 31)) 20 = fr at q9 ⊢
  refine g_iadd_n dL_law_320 ?_
  refine g_istore dL_law_321 (show 12 < 13 by decide) ?_
  refine g_iload dL_law_323 rfl ?_
  generalize hto : fr + 1 + lo (y >>> (nI 9 &&& 31)) 4 = to
  have q11 : fr < to ∧ to ≤ 24 := by omega
  refine g_if_eq_n (tgt := 446) dL_law_325 (by decide) (by omega) (fun g7 => ?_) (fun g7 => ?_)
  · exact absurd g7 (by decide)
  refine g_aload_n dL_law_328 rfl ?_
  refine g_iload dL_law_329 rfl ?_
  refine g_iload dL_law_331 rfl ?_
  refine g_iload dL_law_333 rfl ?_
  refine g_iload dL_law_335 rfl ?_
  refine g_iconst (v := nI 1) dL_law_337 (by decide) ?_
  refine g_iload dL_law_338 rfl ?_
  refine g_bipush (v := nI 7) dL_law_340 (by decide) ?_
  refine g_ishr dL_law_342 ?_
  refine g_bipush (v := nI 9) dL_law_343 (by decide) ?_
  refine g_callSn_i (kL_low (n := 9) (by omega) (by omega)) oL_low pL_low lL_58 dL_law_345 rfl rfl (Nat.le_of_ble_eq_true rfl) (Nat.le_of_ble_eq_true rfl) (by first | decide | omega) (Nat.le_refl _) (Nat.le_refl _) (fun _ e => nf_e e) (fun M1 n20 hn20 e => ?_)
  subst e
  have q12 : lo (x >>> (nI 7 &&& 31)) 9 < 9 := lo_lt _ (by omega)
  refine g_iadd_n dL_law_348 ?_
  refine g_callVn_i (a_ref (M0 := lM M00 N R D) hI2 hLw.2.2.1.2 (a := a) (day := day) (f := fr) (t := to) (r := 1 + lo (x >>> (nI 7 &&& 31)) 9) (by omega) q8 q11.1 q11.2 (by omega) (by omega)) oX5_refusal pX5_refusal lL_34 dL_law_349 rfl (cM_H rfl) rfl rfl rfl (Nat.le_of_ble_eq_true rfl) (Nat.le_of_ble_eq_true rfl) (by first | decide | omega) (fun _ h => by obtain ⟨Y', e, -⟩ := h; exact e ▸ nf_l (by omega)) (fun M1 n21 hn21 e => ?_)
  obtain ⟨Y3, e, hI3⟩ := e
  subst e
  refine g_aload_n dL_law_352 rfl ?_
  refine g_aload_n dL_law_353 rfl ?_
  refine g_aload dL_law_354 rfl ?_
  refine g_iload dL_law_356 rfl ?_
  refine g_iload dL_law_358 rfl ?_
  refine g_iload dL_law_360 rfl ?_
  refine g_iload dL_law_362 rfl ?_
  refine g_iconst (v := nI 1) dL_law_364 (by decide) ?_
  refine g_iload dL_law_365 rfl ?_
  refine g_bipush (v := nI 7) dL_law_367 (by decide) ?_
  refine g_ishr dL_law_369 ?_
  refine g_bipush (v := nI 9) dL_law_370 (by decide) ?_
  refine g_callS9 (kL_low (x := x >>> (nI 7 &&& 31)) (n := 9) (by omega) (by omega)) (by decide) oL_low pL_low lL_58 dL_law_372 rfl rfl (Nat.le_of_ble_eq_true rfl) (Nat.le_of_ble_eq_true rfl) (by decide) (fun _ e => nf_e e) (fun M1 n22 hn22 e => ?_)
  subst e
  refine g_iadd_n dL_law_375 ?_
  refine g_callSn_i (kc1 := (2190*u+2016)) (ks1 := (50784*u+48384)) (kL_reason (h := a) (day := day) (f := fr) (t := to) (rk := 1 + lo (x >>> (nI 7 &&& 31)) 9) hB hC ⟨by show a ≤ 2; omega, by show fr ≤ 24; omega, q11.2⟩ q8 (by omega) (show 236 ≤ n22 by omega)) oL_reason pL_reason lL_30 dL_law_376 rfl rfl (Nat.le_of_ble_eq_true rfl) (Nat.le_of_ble_eq_true rfl) (by first | decide | omega) (by omega) (by omega) (fun _ e => nf_e e) (fun M1 n23 hn23 e => ?_)
  subst e
  rw [Lw_rs hLw hX (by omega) q8 q11.1 q11.2]
  refine g_icmp_ne (tgt := 446) dL_law_379 (by decide) (fun h => absurd rfl h) (fun _ => ?_)
  have e5 : N (5 + a) = X (5 + a) := hLw.1 _ (by omega)
  have e2 : N 2 = X 2 := hLw.1 2 (by omega)
  have hrt := wf1_rate hX.2.1 (a := a) (by omega)
  have hx2 : X 2 ≤ 100 := hX.2.1.2.2.1
  refine g_aload_n dL_law_382 rfl ?_
  refine g_iload dL_law_383 rfl ?_
  refine g_iload dL_law_385 rfl ?_
  refine g_iload dL_law_387 rfl ?_
  refine g_iload dL_law_389 rfl ?_
  refine g_callVn_i (a_price (M0 := lM M00 N R D) hI3 (a := a) (day := day) (f := fr) (t := to) (by omega) q8 q11.1 q11.2) oX5_price pX5_price lL_157 dL_law_391 rfl (cM_H rfl) rfl rfl rfl (Nat.le_of_ble_eq_true rfl) (Nat.le_of_ble_eq_true rfl) (by first | decide | omega) (fun _ e => nf_e e) (fun M1 n24 hn24 e => ?_)
  subst e
  refine g_aload_n dL_law_394 rfl ?_
  refine g_iload dL_law_395 rfl ?_
  refine g_iload dL_law_397 rfl ?_
  refine g_bipush (v := nI 7) dL_law_399 (by decide) ?_
  refine g_irem_n dL_law_401 (by omega) (by omega) (by omega) ?_
  refine g_iload dL_law_402 rfl ?_
  refine g_iload dL_law_404 rfl ?_
  refine g_isub_n dL_law_406 (by omega) ?_
  refine g_bipush (v := nI 100) dL_law_407 (by decide) ?_
  refine g_callSn_i (kL_rent (h := a) (wd := day % 7) (hrs := to - fr) (sh := 100) (by omega) (by omega) (by omega) (by omega) (by omega) (by omega)) oL_rent pL_rent lL_44 dL_law_409 rfl rfl (Nat.le_of_ble_eq_true rfl) (Nat.le_of_ble_eq_true rfl) (by first | decide | omega) (Nat.le_refl _) (Nat.le_refl _) (fun _ e => nf_e e) (fun M1 n25 hn25 e => ?_)
  subst e
  rw [rentF_c e5 e2]
  refine g_icmp_ne (tgt := 446) dL_law_412 (by decide) (fun h => absurd rfl h) (fun _ => ?_)
  refine g_aload_n dL_law_415 rfl ?_
  refine g_aload_n dL_law_416 rfl ?_
  refine g_aload_n dL_law_417 rfl ?_
  refine g_aload dL_law_418 rfl ?_
  refine g_iload dL_law_420 rfl ?_
  refine g_iload dL_law_422 rfl ?_
  refine g_iconst (v := nI 1) dL_law_424 (by decide) ?_
  refine g_iload dL_law_425 rfl ?_
  refine g_bipush (v := nI 11) dL_law_427 (by decide) ?_
  refine g_ishr dL_law_429 ?_
  refine g_bipush (v := nI 12) dL_law_430 (by decide) ?_
  refine g_callSn_i (kL_low (n := 12) (by omega) (by omega)) oL_low pL_low lL_58 dL_law_432 rfl rfl (Nat.le_of_ble_eq_true rfl) (Nat.le_of_ble_eq_true rfl) (by first | decide | omega) (Nat.le_refl _) (Nat.le_refl _) (fun _ e => nf_e e) (fun M1 n26 hn26 e => ?_)
  subst e
  have q13 : lo (x >>> (nI 11 &&& 31)) 12 < 12 := lo_lt _ (by omega)
  refine g_iadd_n dL_law_435 ?_
  refine g_callSn_i (kc1 := (2190*u)) (ks1 := (50784*u)) (kL_isNext hI3 hLw (h := a) (day := day) (hrs := 1 + lo (x >>> (nI 11 &&& 31)) 12) (by omega) q8 (by omega) (by omega) (show 236 ≤ n26 by omega)) oL_isNext pL_isNext lL_161 dL_law_436 rfl rfl (Nat.le_of_ble_eq_true rfl) (Nat.le_of_ble_eq_true rfl) (by first | decide | omega) (by omega) (by omega) (fun _ h => by obtain ⟨Y', e, -⟩ := h; exact e ▸ nf_l (by omega)) (fun M1 n27 hn27 e => ?_)
  obtain ⟨Y4, e, hI4⟩ := e
  subst e
  refine g_if_eq_n (tgt := 446) dL_law_439 (by decide) (by omega) (fun g8 => ?_) (fun g8 => ?_)
  · exact absurd g8 (by decide)
  refine g_iconst (v := nI 1) dL_law_442 (by decide) ?_
  refine g_goto (tgt := 447) dL_law_443 (by decide) ?_
  refine g_istore dL_law_447 (show 5 < 13 by decide) ?_
  refine g_iinc_n (c := 1) dL_law_449 rfl (by decide) (show 6 < 13 by decide) ?_
  refine g_goto (tgt := 92) dL_law_452 (by decide) ?_
  exact g_loc (by rfl) (hF n27 Y4 (by omega) hI4)
theorem lawA {X0 N0 R0 Da : Nat → Nat} {Y0' : Nat → Nat → Nat} (hJ0 : J Y0' X0 N0 R0 Da) {x y : Int32} {k u kind n3 : Nat} (F : zP) (hkd : kind < 14) (hn3 : 236 ≤ n3) (hF : ∀ n1 M', 236 ≤ n1 → PJ M00 M' → G (mLaw L xs) 11 (2190 * u) (50784 * u) (some n1) 92 [(0, .ref 0), (1, .ref 8), (2, .ref 233), (3, .ref 234), (4, .ref 235), (5, .int (nI 1)), (6, .int (nI (k + 1)))] [] M' F) : G (mLaw L xs) 11 (2190 * u + 2190) (50784 * u + 50784) (some n3) 151 [(0, .ref 0), (1, .ref 8), (2, .ref 233), (3, .ref 234), (4, .ref 235), (6, .int (nI k)), (7, .int x), (8, .int y)] [.int (nI kind), .ref 235, .ref 234, .ref 233, .ref 8] (cM (lM M00 N0 R0 Da) Y0') F := by
  refine g_iload dL_law_151 rfl ?_
  refine g_iload dL_law_153 rfl ?_
  refine g_callSn_i (kc1 := (2190*u+2022)) (ks1 := (50784*u+48516)) (kL_acts hJ0 hkd x y hn3) oL_acts pL_acts lL_143 dL_law_155 rfl rfl (Nat.le_of_ble_eq_true rfl) (Nat.le_of_ble_eq_true rfl) (by first | decide | omega) (by omega) (by omega) (fun _ h => nf_J hn3 h) (fun M1 n4 hn4 e => ?_)
  obtain ⟨X, N, R, D, Y, rfl, hI, hLw, hb⟩ := e
  refine g_if_eq_n (tgt := 271) dL_law_158 (by decide) (by omega) (fun g1 => ?_) (fun g1 => ?_)
  · exact absurd g1 (by decide)
  refine g_aload_n dL_law_161 rfl ?_
  refine g_aload_n dL_law_162 rfl ?_
  refine g_aload_n dL_law_163 rfl ?_
  refine g_aload dL_law_164 rfl ?_
  refine g_callSn_i (kL_isLets hI hLw (show 236 ≤ n4 by omega)) oL_isLets pL_isLets lL_147 dL_law_166 rfl rfl (Nat.le_of_ble_eq_true rfl) (Nat.le_of_ble_eq_true rfl) (by first | decide | omega) (Nat.le_refl _) (Nat.le_refl _) (fun _ e => nf_e e) (fun M1 n5 hn5 e => ?_)
  subst e
  refine g_if_eq_n (tgt := 271) dL_law_169 (by decide) (by omega) (fun g2 => ?_) (fun g2 => ?_)
  · exact absurd g2 (by decide)
  refine g_aload_n dL_law_172 rfl ?_
  refine g_aload_n dL_law_173 rfl ?_
  refine g_aload_n dL_law_174 rfl ?_
  refine g_aload dL_law_175 rfl ?_
  refine g_callSn_i (kc1 := (2190*u+2019)) (ks1 := (50784*u+48456)) (kL_areBills hI hLw hb (show 236 ≤ n5 by omega)) oL_areBills pL_areBills lL_135 dL_law_177 rfl rfl (Nat.le_of_ble_eq_true rfl) (Nat.le_of_ble_eq_true rfl) (by first | decide | omega) (by omega) (by omega) (fun _ e => nf_e e) (fun M1 n6 hn6 e => ?_)
  subst e
  refine g_if_eq_n (tgt := 271) dL_law_180 (by decide) (by omega) (fun g3 => ?_) (fun g3 => ?_)
  · exact absurd g3 (by decide)
  refine g_aload_n dL_law_183 rfl ?_
  refine g_aload_n dL_law_184 rfl ?_
  refine g_aload_n dL_law_185 rfl ?_
  refine g_aload dL_law_186 rfl ?_
  refine g_iload dL_law_188 rfl ?_
  refine g_iconst (v := nI 3) dL_law_190 (by decide) ?_
  refine g_callSn_i (kL_low (n := 3) (by omega) (by omega)) oL_low pL_low lL_58 dL_law_191 rfl rfl (Nat.le_of_ble_eq_true rfl) (Nat.le_of_ble_eq_true rfl) (by first | decide | omega) (Nat.le_refl _) (Nat.le_refl _) (fun _ e => nf_e e) (fun M1 n7 hn7 e => ?_)
  subst e
  have q1 : lo y 3 < 3 := lo_lt _ (by omega)
  refine g_iload dL_law_194 rfl ?_
  refine g_iconst (v := nI 2) dL_law_196 (by decide) ?_
  refine g_ishr dL_law_197 ?_
  refine g_bipush (v := nI 84) dL_law_198 (by decide) ?_
  refine g_callSn_i (kL_low (n := 84) (by omega) (by omega)) oL_low pL_low lL_58 dL_law_200 rfl rfl (Nat.le_of_ble_eq_true rfl) (Nat.le_of_ble_eq_true rfl) (by first | decide | omega) (Nat.le_refl _) (Nat.le_refl _) (fun _ e => nf_e e) (fun M1 n8 hn8 e => ?_)
  subst e
  have q2 : lo (y >>> (nI 2 &&& 31)) 84 < 84 := lo_lt _ (by omega)
  refine g_callSn_i (kc1 := (2190*u+2018)) (ks1 := (50784*u+48432)) (kL_isDay hI hLw (h := lo y 3) (day := lo (y >>> (nI 2 &&& 31)) 84) (by omega) q2 (show 236 ≤ n8 by omega)) oL_isDay pL_isDay lL_150 dL_law_203 rfl rfl (Nat.le_of_ble_eq_true rfl) (Nat.le_of_ble_eq_true rfl) (by first | decide | omega) (by omega) (by omega) (fun _ h => by obtain ⟨Y', e, -⟩ := h; exact e ▸ nf_l (by omega)) (fun M1 n9 hn9 e => ?_)
  obtain ⟨Y1, e, hI1⟩ := e
  subst e
  refine g_if_eq_n (tgt := 271) dL_law_206 (by decide) (by omega) (fun g4 => ?_) (fun g4 => ?_)
  · exact absurd g4 (by decide)
  refine g_aload_n dL_law_209 rfl ?_
  refine g_aload_n dL_law_210 rfl ?_
  refine g_aload_n dL_law_211 rfl ?_
  refine g_aload dL_law_212 rfl ?_
  refine g_iload dL_law_214 rfl ?_
  refine g_iconst (v := nI 3) dL_law_216 (by decide) ?_
  refine g_callSn_i (kL_low (n := 3) (by omega) (by omega)) oL_low pL_low lL_58 dL_law_217 rfl rfl (Nat.le_of_ble_eq_true rfl) (Nat.le_of_ble_eq_true rfl) (by first | decide | omega) (Nat.le_refl _) (Nat.le_refl _) (fun _ e => nf_e e) (fun M1 n10 hn10 e => ?_)
  subst e
  have q3 : lo x 3 < 3 := lo_lt _ (by omega)
  refine g_bipush (v := nI 7) dL_law_220 (by decide) ?_
  refine g_iload dL_law_222 rfl ?_
  refine g_iconst (v := nI 2) dL_law_224 (by decide) ?_
  refine g_ishr dL_law_225 ?_
  refine g_iconst (v := nI 3) dL_law_226 (by decide) ?_
  refine g_callSn_i (kL_low (n := 3) (by omega) (by omega)) oL_low pL_low lL_58 dL_law_227 rfl rfl (Nat.le_of_ble_eq_true rfl) (Nat.le_of_ble_eq_true rfl) (by first | decide | omega) (Nat.le_refl _) (Nat.le_refl _) (fun _ e => nf_e e) (fun M1 n11 hn11 e => ?_)
  subst e
  have q4 : lo (y >>> (nI 2 &&& 31)) 3 < 3 := lo_lt _ (by omega)
  refine g_imul_n dL_law_230 ?_
  refine g_iload dL_law_231 rfl ?_
  refine g_iconst (v := nI 5) dL_law_233 (by decide) ?_
  refine g_ishr dL_law_234 ?_
  refine g_iconst (v := nI 2) dL_law_235 (by decide) ?_
  refine g_callSn_i (kL_low (n := 2) (by omega) (by omega)) oL_low pL_low lL_58 dL_law_236 rfl rfl (Nat.le_of_ble_eq_true rfl) (Nat.le_of_ble_eq_true rfl) (by first | decide | omega) (Nat.le_refl _) (Nat.le_refl _) (fun _ e => nf_e e) (fun M1 n12 hn12 e => ?_)
  subst e
  have q5 : lo (y >>> (nI 5 &&& 31)) 2 < 2 := lo_lt _ (by omega)
  refine g_iconst (v := nI 5) dL_law_239 (by decide) ?_
  refine g_imul_n dL_law_240 ?_
  refine g_iadd_n dL_law_241 ?_
  refine g_callSn_i (kc1 := (2190*u+2017)) (ks1 := (50784*u+48408)) (kL_isDay hI1 hLw (h := lo x 3) (day := 7 * lo (y >>> (nI 2 &&& 31)) 3 + lo (y >>> (nI 5 &&& 31)) 2 * 5) (by omega) (by omega) (show 236 ≤ n12 by omega)) oL_isDay pL_isDay lL_150 dL_law_242 rfl rfl (Nat.le_of_ble_eq_true rfl) (Nat.le_of_ble_eq_true rfl) (by first | decide | omega) (by omega) (by omega) (fun _ h => by obtain ⟨Y', e, -⟩ := h; exact e ▸ nf_l (by omega)) (fun M1 n13 hn13 e => ?_)
  obtain ⟨Y2, e, hI2⟩ := e
  subst e
  refine g_if_eq_n (tgt := 271) dL_law_245 (by decide) (by omega) (fun g5 => ?_) (fun g5 => ?_)
  · exact absurd g5 (by decide)
  refine g_aload_n dL_law_248 rfl ?_
  refine g_aload_n dL_law_249 rfl ?_
  refine g_aload_n dL_law_250 rfl ?_
  refine g_aload dL_law_251 rfl ?_
  refine g_iload dL_law_253 rfl ?_
  refine g_iconst (v := nI 3) dL_law_255 (by decide) ?_
  refine g_ishr dL_law_256 ?_
  refine g_iconst (v := nI 3) dL_law_257 (by decide) ?_
  refine g_callSn_i (kL_low (n := 3) (by omega) (by omega)) oL_low pL_low lL_58 dL_law_258 rfl rfl (Nat.le_of_ble_eq_true rfl) (Nat.le_of_ble_eq_true rfl) (by first | decide | omega) (Nat.le_refl _) (Nat.le_refl _) (fun _ e => nf_e e) (fun M1 n14 hn14 e => ?_)
  subst e
  have q6 : lo (y >>> (nI 3 &&& 31)) 3 < 3 := lo_lt _ (by omega)
  refine g_callSn_i (kL_isFull hI2 hLw (h := lo (y >>> (nI 3 &&& 31)) 3) (by omega) (show 236 ≤ n14 by omega)) oL_isFull pL_isFull lL_154 dL_law_261 rfl rfl (Nat.le_of_ble_eq_true rfl) (Nat.le_of_ble_eq_true rfl) (by first | decide | omega) (Nat.le_refl _) (Nat.le_refl _) (fun _ e => nf_e e) (fun M1 n15 hn15 e => ?_)
  subst e
  refine g_if_eq_n (tgt := 271) dL_law_264 (by decide) (by omega) (fun g6 => ?_) (fun g6 => ?_)
  · exact absurd g6 (by decide)
  refine g_iconst (v := nI 1) dL_law_267 (by decide) ?_
  refine g_goto (tgt := 272) dL_law_268 (by decide) ?_
  refine g_istore dL_law_272 (show 5 < 13 by decide) ?_
  exact g_loc (by rfl) (lawB hI2 hLw hb (x := x) (y := y) (k := k) (u := u) _ (show 236 ≤ n15 by omega) (fun n27 Y4 hn27 hI4 => hF n27 _ hn27 ⟨X, N, R, D, Y4, rfl, hI4, hLw, hb⟩))
theorem lawT (hL : L ≤ 260) : ∀ u k n0 M', k + u = 34 → 236 ≤ n0 → PJ M00 M' → G (mLaw L xs) 11 (2190 * u) (50784 * u) (some n0) 92 [(0, .ref 0), (1, .ref 8), (2, .ref 233), (3, .ref 234), (4, .ref 235), (5, .int (nI 1)), (6, .int (nI k))] [] M' (zqI (nI 1) (fun _ => True)) := by
  intro u
  induction u with
  | zero =>
    intro k n0 M' hk hn0 hP
    refine g_iload dL_law_92 rfl ?_
    refine g_bipush (v := nI 34) dL_law_94 (by decide) ?_
    refine g_icmp_ge_n (tgt := 455) dL_law_96 (by decide) (by omega) (by omega) (fun h => ?_) (fun h => ?_)
    · refine g_iload dL_law_455 rfl ?_
      exact g_ireturn_b (b := true) dL_law_457 rfl ⟨rfl, trivial⟩
    · exact absurd h (by omega)
  | succ u ih =>
    intro k n0 M' hk hn0 hP
    obtain ⟨X0, N0, R0, Da, Y0', rfl, hJ0⟩ := hP
    refine G.up (d' := 11) (kc' := 2190 * u + 2190) (ks' := 50784 * u + 50784) ?_ (Nat.le_refl _) (by omega) (by omega)
    refine g_iload dL_law_92 rfl ?_
    refine g_bipush (v := nI 34) dL_law_94 (by decide) ?_
    refine g_icmp_ge_n (tgt := 455) dL_law_96 (by decide) (by omega) (by omega) (fun h => ?_) (fun h => ?_)
    · exact absurd h (by omega)
    refine g_iload dL_law_99 rfl ?_
    refine g_if_eq_n (tgt := 455) dL_law_101 (by decide) (by omega) (fun h2 => ?_) (fun h2 => ?_)
    · exact absurd h2 (by decide)
    refine g_aload_n dL_law_104 rfl ?_
    refine g_iconst (v := nI 2) dL_law_105 (by decide) ?_
    refine g_iload dL_law_106 rfl ?_
    refine g_imul_n dL_law_108 ?_
    refine g_callSS (kL_cell hL (show 2 * k < 1000 by omega)) rfl (oLc L xs) (pLc L xs) lL_139 dL_law_109 rfl rfl (Nat.le_of_ble_eq_true rfl) (Nat.le_of_ble_eq_true rfl) (by decide) (kc1 := 2190 * u + 2190) (ks1 := 50784 * u + 50784) (by omega) (by omega) (fun _ e => nf_e e) (fun M1 n1 hn1 e => ?_)
    subst e
    refine g_istore dL_law_112 (show 7 < 13 by decide) ?_
    refine g_aload_n dL_law_114 rfl ?_
    refine g_iconst (v := nI 2) dL_law_115 (by decide) ?_
    refine g_iload dL_law_116 rfl ?_
    refine g_imul_n dL_law_118 ?_
    refine g_iconst (v := nI 1) dL_law_119 (by decide) ?_
    refine g_iadd_n dL_law_120 ?_
    refine g_callSS (kL_cell hL (show 2 * k + 1 < 1000 by omega)) rfl (oLc L xs) (pLc L xs) lL_139 dL_law_121 rfl rfl (Nat.le_of_ble_eq_true rfl) (Nat.le_of_ble_eq_true rfl) (by decide) (kc1 := 2190 * u + 2190) (ks1 := 50784 * u + 50784) (by omega) (by omega) (fun _ e => nf_e e) (fun M1 n2 hn2 e => ?_)
    subst e
    generalize cel L xs (2 * k) = x
    generalize cel L xs (2 * k + 1) = y
    refine g_istore dL_law_124 (show 8 < 13 by decide) ?_
    refine g_aload_n dL_law_126 rfl ?_
    refine g_aload_n dL_law_127 rfl ?_
    refine g_aload_n dL_law_128 rfl ?_
    refine g_aload dL_law_129 rfl ?_
    refine g_iload dL_law_131 rfl ?_
    refine g_iconst (v := nI 2) dL_law_133 (by decide) ?_
    refine g_icmp_ge_n (tgt := 141) dL_law_134 (by decide) (by omega) (by omega) (fun h3 => ?_) (fun h3 => ?_)
    · refine g_iload dL_law_141 rfl ?_
      refine g_bipush (v := nI 18) dL_law_143 (by decide) ?_
      refine g_ishr dL_law_145 ?_
      refine g_bipush (v := nI 14) dL_law_146 (by decide) ?_
      refine g_callSn_i (kL_low (n := 14) (by omega) (by omega)) oL_low pL_low lL_58 dL_law_148 rfl rfl (Nat.le_of_ble_eq_true rfl) (Nat.le_of_ble_eq_true rfl) (by first | decide | omega) (Nat.le_refl _) (Nat.le_refl _) (fun _ e => nf_e e) (fun M1 n3 hn3 e => ?_)
      subst e
      exact g_loc (by rfl) (lawA hJ0 (x := x) (y := y) (k := k) (u := u) _ (lo_lt _ (by omega)) (show 236 ≤ n3 by omega) (fun n27 M' hn27 hP => ih (k + 1) n27 M' (by omega) hn27 hP))
    · refine g_iconst (v := nI 4) dL_law_137 (by decide) ?_
      refine g_goto (tgt := 151) dL_law_138 (by decide) ?_
      exact g_loc (by rfl) (lawA hJ0 (x := x) (y := y) (k := k) (u := u) _ (show 4 < 14 by omega) (show 236 ≤ n2 by omega) (fun n27 M' hn27 hP => ih (k + 1) n27 M' (by omega) hn27 hP))
end LAW
