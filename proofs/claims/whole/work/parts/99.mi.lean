/-! the law: its cases -/
abbrev mLaw (L : Nat) (xs : Nat → Int32) : zI := (yL_law, RL, code, 10, ret, [], some (L, xs))
abbrev lwl (i : Nat) : List (Nat × Value) := [(0, .ref 0), (1, .ref 8), (2, .ref 233), (3, .ref 243), (4, .ref 244), (5, .int (nI i))]
theorem lg_cmp_r (x : Int64) : lg_cmp x x = 0 := by
  unfold lg_cmp
  rw [if_neg (Int64.lt_irrefl), if_pos rfl]
section LAW
variable {L : Nat} {xs : Nat → Int32} {i kc ks kk d2 : Nat} {M : zM} {P PX : zM → Prop} {F : zP}
theorem law_nx {L0 : List (Nat × Value)} (h : (lwl i).map (fun q => zl L0 q.1) = (lwl i).map (fun q => some q.2)) (k : G (mLaw L xs) 11 kc ks none 28 (lwl (i + 7)) [] M F) : G (mLaw L xs) 11 kc ks none 1758 L0 [] M F := by
  refine g_loc h ?_
  refine g_iinc_n (c := 7) dL_law_1758 rfl (by decide) (show 5 < 10 by decide) ?_
  refine g_goto (tgt := 28) dL_law_1761 (by decide) ?_
  exact g_loc rfl k
theorem vL_regular (hL : L < 2 ^ 31) (hi : i + 7 ≤ L) {b : Int32} (hk : kk ≤ 3) (h1 : Cn mL_regular 9 1 6 none [.ref 8, .int (xs (i + 1)), .int (xs (i + 2)), .int (xs (i + 3)), .int (xs (i + 4)), .int (xs (i + 5)), .int (xs (i + 6)), .ref 243] M (zi (nI kk) P)) (hd2 : d2 ≤ 9) (h2 : ∀ M1, P M1 → Cn mX6_regular d2 0 0 none [.ref 233, .int (xs (i + 1)), .int (xs (i + 2)), .int (xs (i + 3)), .int (xs (i + 4)), .int (xs (i + 5)), .int (xs (i + 6))] M1 (zi b PX) ∧ ∃ fs, M1 233 = some (.inr (6, fs))) (h3 : ∀ M2, PX M2 → Cn mX6_thrown 0 0 0 none [.ref 233] M2 (zi (nI kk) (fun M' => M' = M2)) ∧ ∃ fs, M2 233 = some (.inr (6, fs))) (h4 : kk = 0 → ∀ M2, PX M2 → ∃ f, M2 243 = some (lA f) ∧ f 0 = b.toInt64) (h5 : ∀ M2, PX M2 → G (mLaw L xs) 11 kc ks none 28 (lwl (i + 7)) [] M2 F) : G (mLaw L xs) 11 (kc + 1) (ks + 6) none 164 (lwl i) [] M F := by
  refine g_aload_n dL_law_164 rfl ?_
  refine g_aload_n dL_law_165 rfl ?_
  refine g_iload dL_law_166 rfl ?_
  refine g_iconst (v := nI 1) dL_law_168 (by decide) ?_
  refine g_iadd_n dL_law_169 ?_
  refine g_sld rfl dL_law_170 (by omega) hL ?_
  refine g_aload_n dL_law_171 rfl ?_
  refine g_iload dL_law_172 rfl ?_
  refine g_iconst (v := nI 2) dL_law_174 (by decide) ?_
  refine g_iadd_n dL_law_175 ?_
  refine g_sld rfl dL_law_176 (by omega) hL ?_
  refine g_aload_n dL_law_177 rfl ?_
  refine g_iload dL_law_178 rfl ?_
  refine g_iconst (v := nI 3) dL_law_180 (by decide) ?_
  refine g_iadd_n dL_law_181 ?_
  refine g_sld rfl dL_law_182 (by omega) hL ?_
  refine g_aload_n dL_law_183 rfl ?_
  refine g_iload dL_law_184 rfl ?_
  refine g_iconst (v := nI 4) dL_law_186 (by decide) ?_
  refine g_iadd_n dL_law_187 ?_
  refine g_sld rfl dL_law_188 (by omega) hL ?_
  refine g_aload_n dL_law_189 rfl ?_
  refine g_iload dL_law_190 rfl ?_
  refine g_iconst (v := nI 5) dL_law_192 (by decide) ?_
  refine g_iadd_n dL_law_193 ?_
  refine g_sld rfl dL_law_194 (by omega) hL ?_
  refine g_aload_n dL_law_195 rfl ?_
  refine g_iload dL_law_196 rfl ?_
  refine g_bipush (v := nI 6) dL_law_198 (by decide) ?_
  refine g_iadd_n dL_law_200 ?_
  refine g_sld rfl dL_law_201 (by omega) hL ?_
  refine g_aload_n dL_law_202 rfl ?_
  refine g_callSW (kc1 := kc) (ks1 := ks) (S := []) h1 oL_regular pL_regular lL_88 dL_law_203 rfl rfl (Nat.le_of_ble_eq_true rfl) (Nat.le_of_ble_eq_true rfl) (by decide) (Nat.le_refl _) (Nat.le_refl _) (fun M1 nx1 E q => ?_) (fun M1 nx1 v q => ?_)
  · obtain ⟨-, q2, -⟩ := q
    cases q2
  obtain ⟨rfl, q2, q3⟩ := q
  cases q2
  obtain ⟨h2a, fs2, h2b⟩ := h2 M1 q3
  show G _ _ _ _ _ _ _ [.int (nI kk)] _ _
  refine g_istore dL_law_206 (show 6 < 10 by decide) ?_
  refine g_aload_n dL_law_208 rfl ?_
  refine g_aload_n dL_law_209 rfl ?_
  refine g_iload dL_law_210 rfl ?_
  refine g_iconst (v := nI 1) dL_law_212 (by decide) ?_
  refine g_iadd_n dL_law_213 ?_
  refine g_sld rfl dL_law_214 (by omega) hL ?_
  refine g_aload_n dL_law_215 rfl ?_
  refine g_iload dL_law_216 rfl ?_
  refine g_iconst (v := nI 2) dL_law_218 (by decide) ?_
  refine g_iadd_n dL_law_219 ?_
  refine g_sld rfl dL_law_220 (by omega) hL ?_
  refine g_aload_n dL_law_221 rfl ?_
  refine g_iload dL_law_222 rfl ?_
  refine g_iconst (v := nI 3) dL_law_224 (by decide) ?_
  refine g_iadd_n dL_law_225 ?_
  refine g_sld rfl dL_law_226 (by omega) hL ?_
  refine g_aload_n dL_law_227 rfl ?_
  refine g_iload dL_law_228 rfl ?_
  refine g_iconst (v := nI 4) dL_law_230 (by decide) ?_
  refine g_iadd_n dL_law_231 ?_
  refine g_sld rfl dL_law_232 (by omega) hL ?_
  refine g_aload_n dL_law_233 rfl ?_
  refine g_iload dL_law_234 rfl ?_
  refine g_iconst (v := nI 5) dL_law_236 (by decide) ?_
  refine g_iadd_n dL_law_237 ?_
  refine g_sld rfl dL_law_238 (by omega) hL ?_
  refine g_aload_n dL_law_239 rfl ?_
  refine g_iload dL_law_240 rfl ?_
  refine g_bipush (v := nI 6) dL_law_242 (by decide) ?_
  refine g_iadd_n dL_law_244 ?_
  refine g_sld rfl dL_law_245 (by omega) hL ?_
  refine g_callV_i h2a oX6_regular pX6_regular lL_93 dL_law_246 rfl h2b rfl rfl rfl (Nat.le_of_ble_eq_true rfl) (Nat.le_of_ble_eq_true rfl) (by omega) (fun M2 q4 => ?_)
  obtain ⟨h3a, fs3, h3b⟩ := h3 M2 q4
  refine g_istore dL_law_249 (show 7 < 10 by decide) ?_
  refine g_aload_n dL_law_251 rfl ?_
  refine g_callV_i h3a oX6_thrown pX6_thrown lL_94 dL_law_252 rfl h3b rfl rfl rfl (Nat.le_of_ble_eq_true rfl) (Nat.le_of_ble_eq_true rfl) (by decide) (fun M3 q5 => ?_)
  subst q5
  refine g_iload dL_law_255 rfl ?_
  refine g_icmp_eq (tgt := 262) dL_law_257 (by decide) (fun _ => ?_) (fun q => absurd rfl q)
  refine g_iload dL_law_262 rfl ?_
  have fin : ∀ L0, ((lwl i).map (fun q => zl L0 q.1) = (lwl i).map (fun q => some q.2)) → G (mLaw L xs) 11 kc ks none 279 L0 [] M3 F := fun L0 h0 => by
    refine g_goto (tgt := 1758) dL_law_279 (by decide) ?_
    exact law_nx h0 (h5 M3 q4)
  refine g_if_ne_n (tgt := 279) dL_law_264 (by decide) (by omega) (fun _ => fin _ rfl) (fun h0 => ?_)
  obtain ⟨f, q6, q7⟩ := h4 h0 M3 q4
  refine g_aload_n dL_law_267 rfl ?_
  refine g_iconst (v := nI 0) dL_law_268 (by decide) ?_
  refine g_lald dL_law_269 q6 (vp_in_nI (by omega) (by omega)) ?_
  refine g_iload dL_law_270 rfl ?_
  refine g_i2l dL_law_272 ?_
  refine g_lcmp dL_law_273 ?_
  refine g_if_eq (tgt := 279) dL_law_274 (by decide) (fun _ => fin _ rfl) (fun q => absurd ?_ q)
  show lg_cmp (f 0) b.toInt64 = 0
  rw [q7]
  exact lg_cmp_r _
theorem vL_single (hL : L < 2 ^ 31) (hi : i + 7 ≤ L) {b : Int32} (hk : kk ≤ 3) (h1 : Cn mL_single 9 1 6 none [.ref 8, .int (xs (i + 1)), .int (xs (i + 2)), .int (xs (i + 3)), .int (xs (i + 4)), .int (xs (i + 5)), .int (xs (i + 6)), .ref 243] M (zi (nI kk) P)) (hd2 : d2 ≤ 9) (h2 : ∀ M1, P M1 → Cn mX6_single d2 0 0 none [.ref 233, .int (xs (i + 1)), .int (xs (i + 2)), .int (xs (i + 3)), .int (xs (i + 4)), .int (xs (i + 5)), .int (xs (i + 6))] M1 (zi b PX) ∧ ∃ fs, M1 233 = some (.inr (6, fs))) (h3 : ∀ M2, PX M2 → Cn mX6_thrown 0 0 0 none [.ref 233] M2 (zi (nI kk) (fun M' => M' = M2)) ∧ ∃ fs, M2 233 = some (.inr (6, fs))) (h4 : kk = 0 → ∀ M2, PX M2 → ∃ f, M2 243 = some (lA f) ∧ f 0 = b.toInt64) (h5 : ∀ M2, PX M2 → G (mLaw L xs) 11 kc ks none 28 (lwl (i + 7)) [] M2 F) : G (mLaw L xs) 11 (kc + 1) (ks + 6) none 282 (lwl i) [] M F := by
  refine g_aload_n dL_law_282 rfl ?_
  refine g_aload_n dL_law_283 rfl ?_
  refine g_iload dL_law_284 rfl ?_
  refine g_iconst (v := nI 1) dL_law_286 (by decide) ?_
  refine g_iadd_n dL_law_287 ?_
  refine g_sld rfl dL_law_288 (by omega) hL ?_
  refine g_aload_n dL_law_289 rfl ?_
  refine g_iload dL_law_290 rfl ?_
  refine g_iconst (v := nI 2) dL_law_292 (by decide) ?_
  refine g_iadd_n dL_law_293 ?_
  refine g_sld rfl dL_law_294 (by omega) hL ?_
  refine g_aload_n dL_law_295 rfl ?_
  refine g_iload dL_law_296 rfl ?_
  refine g_iconst (v := nI 3) dL_law_298 (by decide) ?_
  refine g_iadd_n dL_law_299 ?_
  refine g_sld rfl dL_law_300 (by omega) hL ?_
  refine g_aload_n dL_law_301 rfl ?_
  refine g_iload dL_law_302 rfl ?_
  refine g_iconst (v := nI 4) dL_law_304 (by decide) ?_
  refine g_iadd_n dL_law_305 ?_
  refine g_sld rfl dL_law_306 (by omega) hL ?_
  refine g_aload_n dL_law_307 rfl ?_
  refine g_iload dL_law_308 rfl ?_
  refine g_iconst (v := nI 5) dL_law_310 (by decide) ?_
  refine g_iadd_n dL_law_311 ?_
  refine g_sld rfl dL_law_312 (by omega) hL ?_
  refine g_aload_n dL_law_313 rfl ?_
  refine g_iload dL_law_314 rfl ?_
  refine g_bipush (v := nI 6) dL_law_316 (by decide) ?_
  refine g_iadd_n dL_law_318 ?_
  refine g_sld rfl dL_law_319 (by omega) hL ?_
  refine g_aload_n dL_law_320 rfl ?_
  refine g_callSW (kc1 := kc) (ks1 := ks) (S := []) h1 oL_single pL_single lL_97 dL_law_321 rfl rfl (Nat.le_of_ble_eq_true rfl) (Nat.le_of_ble_eq_true rfl) (by decide) (Nat.le_refl _) (Nat.le_refl _) (fun M1 nx1 E q => ?_) (fun M1 nx1 v q => ?_)
  · obtain ⟨-, q2, -⟩ := q
    cases q2
  obtain ⟨rfl, q2, q3⟩ := q
  cases q2
  obtain ⟨h2a, fs2, h2b⟩ := h2 M1 q3
  show G _ _ _ _ _ _ _ [.int (nI kk)] _ _
  refine g_istore dL_law_324 (show 6 < 10 by decide) ?_
  refine g_aload_n dL_law_326 rfl ?_
  refine g_aload_n dL_law_327 rfl ?_
  refine g_iload dL_law_328 rfl ?_
  refine g_iconst (v := nI 1) dL_law_330 (by decide) ?_
  refine g_iadd_n dL_law_331 ?_
  refine g_sld rfl dL_law_332 (by omega) hL ?_
  refine g_aload_n dL_law_333 rfl ?_
  refine g_iload dL_law_334 rfl ?_
  refine g_iconst (v := nI 2) dL_law_336 (by decide) ?_
  refine g_iadd_n dL_law_337 ?_
  refine g_sld rfl dL_law_338 (by omega) hL ?_
  refine g_aload_n dL_law_339 rfl ?_
  refine g_iload dL_law_340 rfl ?_
  refine g_iconst (v := nI 3) dL_law_342 (by decide) ?_
  refine g_iadd_n dL_law_343 ?_
  refine g_sld rfl dL_law_344 (by omega) hL ?_
  refine g_aload_n dL_law_345 rfl ?_
  refine g_iload dL_law_346 rfl ?_
  refine g_iconst (v := nI 4) dL_law_348 (by decide) ?_
  refine g_iadd_n dL_law_349 ?_
  refine g_sld rfl dL_law_350 (by omega) hL ?_
  refine g_aload_n dL_law_351 rfl ?_
  refine g_iload dL_law_352 rfl ?_
  refine g_iconst (v := nI 5) dL_law_354 (by decide) ?_
  refine g_iadd_n dL_law_355 ?_
  refine g_sld rfl dL_law_356 (by omega) hL ?_
  refine g_aload_n dL_law_357 rfl ?_
  refine g_iload dL_law_358 rfl ?_
  refine g_bipush (v := nI 6) dL_law_360 (by decide) ?_
  refine g_iadd_n dL_law_362 ?_
  refine g_sld rfl dL_law_363 (by omega) hL ?_
  refine g_callV_i h2a oX6_single pX6_single lL_99 dL_law_364 rfl h2b rfl rfl rfl (Nat.le_of_ble_eq_true rfl) (Nat.le_of_ble_eq_true rfl) (by omega) (fun M2 q4 => ?_)
  obtain ⟨h3a, fs3, h3b⟩ := h3 M2 q4
  refine g_istore dL_law_367 (show 7 < 10 by decide) ?_
  refine g_aload_n dL_law_369 rfl ?_
  refine g_callV_i h3a oX6_thrown pX6_thrown lL_94 dL_law_370 rfl h3b rfl rfl rfl (Nat.le_of_ble_eq_true rfl) (Nat.le_of_ble_eq_true rfl) (by decide) (fun M3 q5 => ?_)
  subst q5
  refine g_iload dL_law_373 rfl ?_
  refine g_icmp_eq (tgt := 380) dL_law_375 (by decide) (fun _ => ?_) (fun q => absurd rfl q)
  refine g_iload dL_law_380 rfl ?_
  have fin : ∀ L0, ((lwl i).map (fun q => zl L0 q.1) = (lwl i).map (fun q => some q.2)) → G (mLaw L xs) 11 kc ks none 397 L0 [] M3 F := fun L0 h0 => by
    refine g_goto (tgt := 1758) dL_law_397 (by decide) ?_
    exact law_nx h0 (h5 M3 q4)
  refine g_if_ne_n (tgt := 397) dL_law_382 (by decide) (by omega) (fun _ => fin _ rfl) (fun h0 => ?_)
  obtain ⟨f, q6, q7⟩ := h4 h0 M3 q4
  refine g_aload_n dL_law_385 rfl ?_
  refine g_iconst (v := nI 0) dL_law_386 (by decide) ?_
  refine g_lald dL_law_387 q6 (vp_in_nI (by omega) (by omega)) ?_
  refine g_iload dL_law_388 rfl ?_
  refine g_i2l dL_law_390 ?_
  refine g_lcmp dL_law_391 ?_
  refine g_if_eq (tgt := 397) dL_law_392 (by decide) (fun _ => fin _ rfl) (fun q => absurd ?_ q)
  show lg_cmp (f 0) b.toInt64 = 0
  rw [q7]
  exact lg_cmp_r _
theorem vL_cancel (hL : L < 2 ^ 31) (hi : i + 7 ≤ L) {bb : Bool} (hbb : bb = true ↔ ¬ xs (i + 1) = 0) {b : Int32} (hk : kk ≤ 3) (h1 : Cn mL_cancel 9 1 6 none [.ref 8, .int (nI bb.toNat), .int (xs (i + 2)), .ref 243] M (zi (nI kk) P)) (hd2 : d2 ≤ 9) (h2 : ∀ M1, P M1 → Cn mX6_cancel d2 0 0 none [.ref 233, .int (nI bb.toNat), .int (xs (i + 2))] M1 (zi b PX) ∧ ∃ fs, M1 233 = some (.inr (6, fs))) (h3 : ∀ M2, PX M2 → Cn mX6_thrown 0 0 0 none [.ref 233] M2 (zi (nI kk) (fun M' => M' = M2)) ∧ ∃ fs, M2 233 = some (.inr (6, fs))) (h4 : kk = 0 → ∀ M2, PX M2 → ∃ f, M2 243 = some (lA f) ∧ f 0 = b.toInt64) (h5 : ∀ M2, PX M2 → G (mLaw L xs) 11 kc ks none 28 (lwl (i + 7)) [] M2 F) : G (mLaw L xs) 11 (kc + 1) (ks + 6) none 400 (lwl i) [] M F := by
  have tail : G (mLaw L xs) 11 (kc + 1) (ks + 6) none 415 (lwl i) [.int (nI bb.toNat), .ref 8] M F := by
    refine g_aload_n dL_law_415 rfl ?_
    refine g_iload dL_law_416 rfl ?_
    refine g_iconst (v := nI 2) dL_law_418 (by decide) ?_
    refine g_iadd_n dL_law_419 ?_
    refine g_sld rfl dL_law_420 (by omega) hL ?_
    refine g_aload_n dL_law_421 rfl ?_
    refine g_callSW (kc1 := kc) (ks1 := ks) (S := []) h1 oL_cancel pL_cancel lL_100 dL_law_422 rfl rfl (Nat.le_of_ble_eq_true rfl) (Nat.le_of_ble_eq_true rfl) (by decide) (Nat.le_refl _) (Nat.le_refl _) (fun M1 nx1 E q => ?_) (fun M1 nx1 v q => ?_)
    · obtain ⟨-, q2, -⟩ := q
      cases q2
    obtain ⟨rfl, q2, q3⟩ := q
    cases q2
    obtain ⟨h2a, fs2, h2b⟩ := h2 M1 q3
    show G _ _ _ _ _ _ _ [.int (nI kk)] _ _
    have tail2 : ∀ L9, (((6, Value.int (nI kk)) :: lwl i).map (fun q => zl L9 q.1) = ((6, Value.int (nI kk)) :: lwl i).map (fun q => some q.2)) → G (mLaw L xs) 11 kc ks none 442 L9 [.int (nI bb.toNat), .ref 233] M1 F := fun L9 h9 => by
      refine g_loc h9 ?_
      refine g_aload_n dL_law_442 rfl ?_
      refine g_iload dL_law_443 rfl ?_
      refine g_iconst (v := nI 2) dL_law_445 (by decide) ?_
      refine g_iadd_n dL_law_446 ?_
      refine g_sld rfl dL_law_447 (by omega) hL ?_
      refine g_callV_i h2a oX6_cancel pX6_cancel lL_103 dL_law_448 rfl h2b rfl rfl rfl (Nat.le_of_ble_eq_true rfl) (Nat.le_of_ble_eq_true rfl) (by omega) (fun M2 q4 => ?_)
      obtain ⟨h3a, fs3, h3b⟩ := h3 M2 q4
      refine g_istore dL_law_451 (show 7 < 10 by decide) ?_
      refine g_aload_n dL_law_453 rfl ?_
      refine g_callV_i h3a oX6_thrown pX6_thrown lL_94 dL_law_454 rfl h3b rfl rfl rfl (Nat.le_of_ble_eq_true rfl) (Nat.le_of_ble_eq_true rfl) (by decide) (fun M3 q5 => ?_)
      subst q5
      refine g_iload dL_law_457 rfl ?_
      refine g_icmp_eq (tgt := 464) dL_law_459 (by decide) (fun _ => ?_) (fun q => absurd rfl q)
      refine g_iload dL_law_464 rfl ?_
      have fin : ∀ L0, ((lwl i).map (fun q => zl L0 q.1) = (lwl i).map (fun q => some q.2)) → G (mLaw L xs) 11 kc ks none 481 L0 [] M3 F := fun L0 h0 => by
        refine g_goto (tgt := 1758) dL_law_481 (by decide) ?_
        exact law_nx h0 (h5 M3 q4)
      refine g_if_ne_n (tgt := 481) dL_law_466 (by decide) (by omega) (fun _ => fin _ rfl) (fun h0 => ?_)
      obtain ⟨f, q6, q7⟩ := h4 h0 M3 q4
      refine g_aload_n dL_law_469 rfl ?_
      refine g_iconst (v := nI 0) dL_law_470 (by decide) ?_
      refine g_lald dL_law_471 q6 (vp_in_nI (by omega) (by omega)) ?_
      refine g_iload dL_law_472 rfl ?_
      refine g_i2l dL_law_474 ?_
      refine g_lcmp dL_law_475 ?_
      refine g_if_eq (tgt := 481) dL_law_476 (by decide) (fun _ => fin _ rfl) (fun q => absurd ?_ q)
      show lg_cmp (f 0) b.toInt64 = 0
      rw [q7]
      exact lg_cmp_r _
    refine g_istore dL_law_425 (show 6 < 10 by decide) ?_
    refine g_aload_n dL_law_427 rfl ?_
    refine g_aload_n dL_law_428 rfl ?_
    refine g_iload dL_law_429 rfl ?_
    refine g_iconst (v := nI 1) dL_law_431 (by decide) ?_
    refine g_iadd_n dL_law_432 ?_
    refine g_sld rfl dL_law_433 (by omega) hL ?_
    cases bb
    · refine g_if_eq (tgt := 441) dL_law_434 (by decide) (fun _ => ?_) (fun q => absurd (hbb.mpr q) (by decide))
      refine g_iconst (v := nI 0) dL_law_441 (by decide) ?_
      exact tail2 _ rfl
    · refine g_if_eq (tgt := 441) dL_law_434 (by decide) (fun q => absurd q (hbb.mp rfl)) (fun _ => ?_)
      refine g_iconst (v := nI 1) dL_law_437 (by decide) ?_
      refine g_goto (tgt := 442) dL_law_438 (by decide) ?_
      exact tail2 _ rfl
  refine g_aload_n dL_law_400 rfl ?_
  refine g_aload_n dL_law_401 rfl ?_
  refine g_iload dL_law_402 rfl ?_
  refine g_iconst (v := nI 1) dL_law_404 (by decide) ?_
  refine g_iadd_n dL_law_405 ?_
  refine g_sld rfl dL_law_406 (by omega) hL ?_
  cases bb
  · refine g_if_eq (tgt := 414) dL_law_407 (by decide) (fun _ => ?_) (fun q => absurd (hbb.mpr q) (by decide))
    refine g_iconst (v := nI 0) dL_law_414 (by decide) ?_
    exact tail
  · refine g_if_eq (tgt := 414) dL_law_407 (by decide) (fun q => absurd q (hbb.mp rfl)) (fun _ => ?_)
    refine g_iconst (v := nI 1) dL_law_410 (by decide) ?_
    refine g_goto (tgt := 415) dL_law_411 (by decide) ?_
    exact tail
theorem vL_off (hL : L < 2 ^ 31) (hi : i + 7 ≤ L) {b : Int32} (hk : kk ≤ 3) (h1 : Cn mL_off 9 1 6 none [.ref 8, .int (xs (i + 1)), .int (xs (i + 2)), .ref 243] M (zi (nI kk) P)) (hd2 : d2 ≤ 9) (h2 : ∀ M1, P M1 → Cn mX6_off d2 0 0 none [.ref 233, .int (xs (i + 1)), .int (xs (i + 2))] M1 (zi b PX) ∧ ∃ fs, M1 233 = some (.inr (6, fs))) (h3 : ∀ M2, PX M2 → Cn mX6_thrown 0 0 0 none [.ref 233] M2 (zi (nI kk) (fun M' => M' = M2)) ∧ ∃ fs, M2 233 = some (.inr (6, fs))) (h4 : kk = 0 → ∀ M2, PX M2 → ∃ f, M2 243 = some (lA f) ∧ f 0 = b.toInt64) (h5 : ∀ M2, PX M2 → G (mLaw L xs) 11 kc ks none 28 (lwl (i + 7)) [] M2 F) : G (mLaw L xs) 11 (kc + 1) (ks + 6) none 484 (lwl i) [] M F := by
  refine g_aload_n dL_law_484 rfl ?_
  refine g_aload_n dL_law_485 rfl ?_
  refine g_iload dL_law_486 rfl ?_
  refine g_iconst (v := nI 1) dL_law_488 (by decide) ?_
  refine g_iadd_n dL_law_489 ?_
  refine g_sld rfl dL_law_490 (by omega) hL ?_
  refine g_aload_n dL_law_491 rfl ?_
  refine g_iload dL_law_492 rfl ?_
  refine g_iconst (v := nI 2) dL_law_494 (by decide) ?_
  refine g_iadd_n dL_law_495 ?_
  refine g_sld rfl dL_law_496 (by omega) hL ?_
  refine g_aload_n dL_law_497 rfl ?_
  refine g_callSW (kc1 := kc) (ks1 := ks) (S := []) h1 oL_off pL_off lL_104 dL_law_498 rfl rfl (Nat.le_of_ble_eq_true rfl) (Nat.le_of_ble_eq_true rfl) (by decide) (Nat.le_refl _) (Nat.le_refl _) (fun M1 nx1 E q => ?_) (fun M1 nx1 v q => ?_)
  · obtain ⟨-, q2, -⟩ := q
    cases q2
  obtain ⟨rfl, q2, q3⟩ := q
  cases q2
  obtain ⟨h2a, fs2, h2b⟩ := h2 M1 q3
  show G _ _ _ _ _ _ _ [.int (nI kk)] _ _
  refine g_istore dL_law_501 (show 6 < 10 by decide) ?_
  refine g_aload_n dL_law_503 rfl ?_
  refine g_aload_n dL_law_504 rfl ?_
  refine g_iload dL_law_505 rfl ?_
  refine g_iconst (v := nI 1) dL_law_507 (by decide) ?_
  refine g_iadd_n dL_law_508 ?_
  refine g_sld rfl dL_law_509 (by omega) hL ?_
  refine g_aload_n dL_law_510 rfl ?_
  refine g_iload dL_law_511 rfl ?_
  refine g_iconst (v := nI 2) dL_law_513 (by decide) ?_
  refine g_iadd_n dL_law_514 ?_
  refine g_sld rfl dL_law_515 (by omega) hL ?_
  refine g_callV_i h2a oX6_off pX6_off lL_107 dL_law_516 rfl h2b rfl rfl rfl (Nat.le_of_ble_eq_true rfl) (Nat.le_of_ble_eq_true rfl) (by omega) (fun M2 q4 => ?_)
  obtain ⟨h3a, fs3, h3b⟩ := h3 M2 q4
  refine g_istore dL_law_519 (show 7 < 10 by decide) ?_
  refine g_aload_n dL_law_521 rfl ?_
  refine g_callV_i h3a oX6_thrown pX6_thrown lL_94 dL_law_522 rfl h3b rfl rfl rfl (Nat.le_of_ble_eq_true rfl) (Nat.le_of_ble_eq_true rfl) (by decide) (fun M3 q5 => ?_)
  subst q5
  refine g_iload dL_law_525 rfl ?_
  refine g_icmp_eq (tgt := 532) dL_law_527 (by decide) (fun _ => ?_) (fun q => absurd rfl q)
  refine g_iload dL_law_532 rfl ?_
  have fin : ∀ L0, ((lwl i).map (fun q => zl L0 q.1) = (lwl i).map (fun q => some q.2)) → G (mLaw L xs) 11 kc ks none 549 L0 [] M3 F := fun L0 h0 => by
    refine g_goto (tgt := 1758) dL_law_549 (by decide) ?_
    exact law_nx h0 (h5 M3 q4)
  refine g_if_ne_n (tgt := 549) dL_law_534 (by decide) (by omega) (fun _ => fin _ rfl) (fun h0 => ?_)
  obtain ⟨f, q6, q7⟩ := h4 h0 M3 q4
  refine g_aload_n dL_law_537 rfl ?_
  refine g_iconst (v := nI 0) dL_law_538 (by decide) ?_
  refine g_lald dL_law_539 q6 (vp_in_nI (by omega) (by omega)) ?_
  refine g_iload dL_law_540 rfl ?_
  refine g_i2l dL_law_542 ?_
  refine g_lcmp dL_law_543 ?_
  refine g_if_eq (tgt := 549) dL_law_544 (by decide) (fun _ => fin _ rfl) (fun q => absurd ?_ q)
  show lg_cmp (f 0) b.toInt64 = 0
  rw [q7]
  exact lg_cmp_r _
theorem vL_rate (hL : L < 2 ^ 31) (hi : i + 7 ≤ L) {b : Int32} (hk : kk ≤ 3) (h1 : Cn mL_rate 9 1 6 none [.ref 8, .int (xs (i + 1)), .int (xs (i + 2)), .ref 243] M (zi (nI kk) P)) (hd2 : d2 ≤ 9) (h2 : ∀ M1, P M1 → Cn mX6_rate d2 0 0 none [.ref 233, .int (xs (i + 1)), .int (xs (i + 2))] M1 (zi b PX) ∧ ∃ fs, M1 233 = some (.inr (6, fs))) (h3 : ∀ M2, PX M2 → Cn mX6_thrown 0 0 0 none [.ref 233] M2 (zi (nI kk) (fun M' => M' = M2)) ∧ ∃ fs, M2 233 = some (.inr (6, fs))) (h4 : kk = 0 → ∀ M2, PX M2 → ∃ f, M2 243 = some (lA f) ∧ f 0 = b.toInt64) (h5 : ∀ M2, PX M2 → G (mLaw L xs) 11 kc ks none 28 (lwl (i + 7)) [] M2 F) : G (mLaw L xs) 11 (kc + 1) (ks + 6) none 552 (lwl i) [] M F := by
  refine g_aload_n dL_law_552 rfl ?_
  refine g_aload_n dL_law_553 rfl ?_
  refine g_iload dL_law_554 rfl ?_
  refine g_iconst (v := nI 1) dL_law_556 (by decide) ?_
  refine g_iadd_n dL_law_557 ?_
  refine g_sld rfl dL_law_558 (by omega) hL ?_
  refine g_aload_n dL_law_559 rfl ?_
  refine g_iload dL_law_560 rfl ?_
  refine g_iconst (v := nI 2) dL_law_562 (by decide) ?_
  refine g_iadd_n dL_law_563 ?_
  refine g_sld rfl dL_law_564 (by omega) hL ?_
  refine g_aload_n dL_law_565 rfl ?_
  refine g_callSW (kc1 := kc) (ks1 := ks) (S := []) h1 oL_rate pL_rate lL_108 dL_law_566 rfl rfl (Nat.le_of_ble_eq_true rfl) (Nat.le_of_ble_eq_true rfl) (by decide) (Nat.le_refl _) (Nat.le_refl _) (fun M1 nx1 E q => ?_) (fun M1 nx1 v q => ?_)
  · obtain ⟨-, q2, -⟩ := q
    cases q2
  obtain ⟨rfl, q2, q3⟩ := q
  cases q2
  obtain ⟨h2a, fs2, h2b⟩ := h2 M1 q3
  show G _ _ _ _ _ _ _ [.int (nI kk)] _ _
  refine g_istore dL_law_569 (show 6 < 10 by decide) ?_
  refine g_aload_n dL_law_571 rfl ?_
  refine g_aload_n dL_law_572 rfl ?_
  refine g_iload dL_law_573 rfl ?_
  refine g_iconst (v := nI 1) dL_law_575 (by decide) ?_
  refine g_iadd_n dL_law_576 ?_
  refine g_sld rfl dL_law_577 (by omega) hL ?_
  refine g_aload_n dL_law_578 rfl ?_
  refine g_iload dL_law_579 rfl ?_
  refine g_iconst (v := nI 2) dL_law_581 (by decide) ?_
  refine g_iadd_n dL_law_582 ?_
  refine g_sld rfl dL_law_583 (by omega) hL ?_
  refine g_callV_i h2a oX6_rate pX6_rate lL_110 dL_law_584 rfl h2b rfl rfl rfl (Nat.le_of_ble_eq_true rfl) (Nat.le_of_ble_eq_true rfl) (by omega) (fun M2 q4 => ?_)
  obtain ⟨h3a, fs3, h3b⟩ := h3 M2 q4
  refine g_istore dL_law_587 (show 7 < 10 by decide) ?_
  refine g_aload_n dL_law_589 rfl ?_
  refine g_callV_i h3a oX6_thrown pX6_thrown lL_94 dL_law_590 rfl h3b rfl rfl rfl (Nat.le_of_ble_eq_true rfl) (Nat.le_of_ble_eq_true rfl) (by decide) (fun M3 q5 => ?_)
  subst q5
  refine g_iload dL_law_593 rfl ?_
  refine g_icmp_eq (tgt := 600) dL_law_595 (by decide) (fun _ => ?_) (fun q => absurd rfl q)
  refine g_iload dL_law_600 rfl ?_
  have fin : ∀ L0, ((lwl i).map (fun q => zl L0 q.1) = (lwl i).map (fun q => some q.2)) → G (mLaw L xs) 11 kc ks none 617 L0 [] M3 F := fun L0 h0 => by
    refine g_goto (tgt := 1758) dL_law_617 (by decide) ?_
    exact law_nx h0 (h5 M3 q4)
  refine g_if_ne_n (tgt := 617) dL_law_602 (by decide) (by omega) (fun _ => fin _ rfl) (fun h0 => ?_)
  obtain ⟨f, q6, q7⟩ := h4 h0 M3 q4
  refine g_aload_n dL_law_605 rfl ?_
  refine g_iconst (v := nI 0) dL_law_606 (by decide) ?_
  refine g_lald dL_law_607 q6 (vp_in_nI (by omega) (by omega)) ?_
  refine g_iload dL_law_608 rfl ?_
  refine g_i2l dL_law_610 ?_
  refine g_lcmp dL_law_611 ?_
  refine g_if_eq (tgt := 617) dL_law_612 (by decide) (fun _ => fin _ rfl) (fun q => absurd ?_ q)
  show lg_cmp (f 0) b.toInt64 = 0
  rw [q7]
  exact lg_cmp_r _
theorem vL_set (hL : L < 2 ^ 31) (hi : i + 7 ≤ L) {b : Int32} (hk : kk ≤ 3) (h1 : Cn mL_set 9 1 6 none [.ref 8, .int (xs (i + 1)), .int (xs (i + 2)), .ref 243] M (zi (nI kk) P)) (hd2 : d2 ≤ 9) (h2 : ∀ M1, P M1 → Cn mX6_set d2 0 0 none [.ref 233, .int (xs (i + 1)), .int (xs (i + 2))] M1 (zi b PX) ∧ ∃ fs, M1 233 = some (.inr (6, fs))) (h3 : ∀ M2, PX M2 → Cn mX6_thrown 0 0 0 none [.ref 233] M2 (zi (nI kk) (fun M' => M' = M2)) ∧ ∃ fs, M2 233 = some (.inr (6, fs))) (h4 : kk = 0 → ∀ M2, PX M2 → ∃ f, M2 243 = some (lA f) ∧ f 0 = b.toInt64) (h5 : ∀ M2, PX M2 → G (mLaw L xs) 11 kc ks none 28 (lwl (i + 7)) [] M2 F) : G (mLaw L xs) 11 (kc + 1) (ks + 6) none 620 (lwl i) [] M F := by
  refine g_aload_n dL_law_620 rfl ?_
  refine g_aload_n dL_law_621 rfl ?_
  refine g_iload dL_law_622 rfl ?_
  refine g_iconst (v := nI 1) dL_law_624 (by decide) ?_
  refine g_iadd_n dL_law_625 ?_
  refine g_sld rfl dL_law_626 (by omega) hL ?_
  refine g_aload_n dL_law_627 rfl ?_
  refine g_iload dL_law_628 rfl ?_
  refine g_iconst (v := nI 2) dL_law_630 (by decide) ?_
  refine g_iadd_n dL_law_631 ?_
  refine g_sld rfl dL_law_632 (by omega) hL ?_
  refine g_aload_n dL_law_633 rfl ?_
  refine g_callSW (kc1 := kc) (ks1 := ks) (S := []) h1 oL_set pL_set lL_111 dL_law_634 rfl rfl (Nat.le_of_ble_eq_true rfl) (Nat.le_of_ble_eq_true rfl) (by decide) (Nat.le_refl _) (Nat.le_refl _) (fun M1 nx1 E q => ?_) (fun M1 nx1 v q => ?_)
  · obtain ⟨-, q2, -⟩ := q
    cases q2
  obtain ⟨rfl, q2, q3⟩ := q
  cases q2
  obtain ⟨h2a, fs2, h2b⟩ := h2 M1 q3
  show G _ _ _ _ _ _ _ [.int (nI kk)] _ _
  refine g_istore dL_law_637 (show 6 < 10 by decide) ?_
  refine g_aload_n dL_law_639 rfl ?_
  refine g_aload_n dL_law_640 rfl ?_
  refine g_iload dL_law_641 rfl ?_
  refine g_iconst (v := nI 1) dL_law_643 (by decide) ?_
  refine g_iadd_n dL_law_644 ?_
  refine g_sld rfl dL_law_645 (by omega) hL ?_
  refine g_aload_n dL_law_646 rfl ?_
  refine g_iload dL_law_647 rfl ?_
  refine g_iconst (v := nI 2) dL_law_649 (by decide) ?_
  refine g_iadd_n dL_law_650 ?_
  refine g_sld rfl dL_law_651 (by omega) hL ?_
  refine g_callV_i h2a oX6_set pX6_set lL_113 dL_law_652 rfl h2b rfl rfl rfl (Nat.le_of_ble_eq_true rfl) (Nat.le_of_ble_eq_true rfl) (by omega) (fun M2 q4 => ?_)
  obtain ⟨h3a, fs3, h3b⟩ := h3 M2 q4
  refine g_istore dL_law_655 (show 7 < 10 by decide) ?_
  refine g_aload_n dL_law_657 rfl ?_
  refine g_callV_i h3a oX6_thrown pX6_thrown lL_94 dL_law_658 rfl h3b rfl rfl rfl (Nat.le_of_ble_eq_true rfl) (Nat.le_of_ble_eq_true rfl) (by decide) (fun M3 q5 => ?_)
  subst q5
  refine g_iload dL_law_661 rfl ?_
  refine g_icmp_eq (tgt := 668) dL_law_663 (by decide) (fun _ => ?_) (fun q => absurd rfl q)
  refine g_iload dL_law_668 rfl ?_
  have fin : ∀ L0, ((lwl i).map (fun q => zl L0 q.1) = (lwl i).map (fun q => some q.2)) → G (mLaw L xs) 11 kc ks none 685 L0 [] M3 F := fun L0 h0 => by
    refine g_goto (tgt := 1758) dL_law_685 (by decide) ?_
    exact law_nx h0 (h5 M3 q4)
  refine g_if_ne_n (tgt := 685) dL_law_670 (by decide) (by omega) (fun _ => fin _ rfl) (fun h0 => ?_)
  obtain ⟨f, q6, q7⟩ := h4 h0 M3 q4
  refine g_aload_n dL_law_673 rfl ?_
  refine g_iconst (v := nI 0) dL_law_674 (by decide) ?_
  refine g_lald dL_law_675 q6 (vp_in_nI (by omega) (by omega)) ?_
  refine g_iload dL_law_676 rfl ?_
  refine g_i2l dL_law_678 ?_
  refine g_lcmp dL_law_679 ?_
  refine g_if_eq (tgt := 685) dL_law_680 (by decide) (fun _ => fin _ rfl) (fun q => absurd ?_ q)
  show lg_cmp (f 0) b.toInt64 = 0
  rw [q7]
  exact lg_cmp_r _
theorem vL_append (hL : L < 2 ^ 31) (hi : i + 7 ≤ L) {b : Int32} (hk : kk ≤ 3) (h1 : Cn mL_append 9 1 6 none [.ref 8, .int (xs (i + 1)), .ref 243] M (zi (nI kk) P)) (hd2 : d2 ≤ 9) (h2 : ∀ M1, P M1 → Cn mX6_append d2 0 0 none [.ref 233, .int (xs (i + 1))] M1 (zi b PX) ∧ ∃ fs, M1 233 = some (.inr (6, fs))) (h3 : ∀ M2, PX M2 → Cn mX6_thrown 0 0 0 none [.ref 233] M2 (zi (nI kk) (fun M' => M' = M2)) ∧ ∃ fs, M2 233 = some (.inr (6, fs))) (h4 : kk = 0 → ∀ M2, PX M2 → ∃ f, M2 243 = some (lA f) ∧ f 0 = b.toInt64) (h5 : ∀ M2, PX M2 → G (mLaw L xs) 11 kc ks none 28 (lwl (i + 7)) [] M2 F) : G (mLaw L xs) 11 (kc + 1) (ks + 6) none 688 (lwl i) [] M F := by
  refine g_aload_n dL_law_688 rfl ?_
  refine g_aload_n dL_law_689 rfl ?_
  refine g_iload dL_law_690 rfl ?_
  refine g_iconst (v := nI 1) dL_law_692 (by decide) ?_
  refine g_iadd_n dL_law_693 ?_
  refine g_sld rfl dL_law_694 (by omega) hL ?_
  refine g_aload_n dL_law_695 rfl ?_
  refine g_callSW (kc1 := kc) (ks1 := ks) (S := []) h1 oL_append pL_append lL_114 dL_law_696 rfl rfl (Nat.le_of_ble_eq_true rfl) (Nat.le_of_ble_eq_true rfl) (by decide) (Nat.le_refl _) (Nat.le_refl _) (fun M1 nx1 E q => ?_) (fun M1 nx1 v q => ?_)
  · obtain ⟨-, q2, -⟩ := q
    cases q2
  obtain ⟨rfl, q2, q3⟩ := q
  cases q2
  obtain ⟨h2a, fs2, h2b⟩ := h2 M1 q3
  show G _ _ _ _ _ _ _ [.int (nI kk)] _ _
  refine g_istore dL_law_699 (show 6 < 10 by decide) ?_
  refine g_aload_n dL_law_701 rfl ?_
  refine g_aload_n dL_law_702 rfl ?_
  refine g_iload dL_law_703 rfl ?_
  refine g_iconst (v := nI 1) dL_law_705 (by decide) ?_
  refine g_iadd_n dL_law_706 ?_
  refine g_sld rfl dL_law_707 (by omega) hL ?_
  refine g_callV_i h2a oX6_append pX6_append lL_117 dL_law_708 rfl h2b rfl rfl rfl (Nat.le_of_ble_eq_true rfl) (Nat.le_of_ble_eq_true rfl) (by omega) (fun M2 q4 => ?_)
  obtain ⟨h3a, fs3, h3b⟩ := h3 M2 q4
  refine g_istore dL_law_711 (show 7 < 10 by decide) ?_
  refine g_aload_n dL_law_713 rfl ?_
  refine g_callV_i h3a oX6_thrown pX6_thrown lL_94 dL_law_714 rfl h3b rfl rfl rfl (Nat.le_of_ble_eq_true rfl) (Nat.le_of_ble_eq_true rfl) (by decide) (fun M3 q5 => ?_)
  subst q5
  refine g_iload dL_law_717 rfl ?_
  refine g_icmp_eq (tgt := 724) dL_law_719 (by decide) (fun _ => ?_) (fun q => absurd rfl q)
  refine g_iload dL_law_724 rfl ?_
  have fin : ∀ L0, ((lwl i).map (fun q => zl L0 q.1) = (lwl i).map (fun q => some q.2)) → G (mLaw L xs) 11 kc ks none 741 L0 [] M3 F := fun L0 h0 => by
    refine g_goto (tgt := 1758) dL_law_741 (by decide) ?_
    exact law_nx h0 (h5 M3 q4)
  refine g_if_ne_n (tgt := 741) dL_law_726 (by decide) (by omega) (fun _ => fin _ rfl) (fun h0 => ?_)
  obtain ⟨f, q6, q7⟩ := h4 h0 M3 q4
  refine g_aload_n dL_law_729 rfl ?_
  refine g_iconst (v := nI 0) dL_law_730 (by decide) ?_
  refine g_lald dL_law_731 q6 (vp_in_nI (by omega) (by omega)) ?_
  refine g_iload dL_law_732 rfl ?_
  refine g_i2l dL_law_734 ?_
  refine g_lcmp dL_law_735 ?_
  refine g_if_eq (tgt := 741) dL_law_736 (by decide) (fun _ => fin _ rfl) (fun q => absurd ?_ q)
  show lg_cmp (f 0) b.toInt64 = 0
  rw [q7]
  exact lg_cmp_r _
theorem vL_clearBuffer (hL : L < 2 ^ 31) (hi : i + 7 ≤ L) {b : Int32} (h1 : Cn mX5_clearBuffer 8 0 0 none [.ref 8] M (zi b P)) {fs1 : List Value} (h1b : M 8 = some (.inr (5, fs1))) (hd2 : d2 ≤ 9) (h2 : ∀ M1, P M1 → Cn mX6_clearBuffer d2 0 0 none [.ref 233] M1 (zi b PX) ∧ ∃ fs, M1 233 = some (.inr (6, fs))) (h5 : ∀ M2, PX M2 → G (mLaw L xs) 11 kc ks none 28 (lwl (i + 7)) [] M2 F) : G (mLaw L xs) 11 kc ks none 744 (lwl i) [] M F := by
  refine g_aload_n dL_law_744 rfl ?_
  refine g_callV_i h1 oX5_clearBuffer pX5_clearBuffer lL_118 dL_law_745 rfl h1b rfl rfl rfl (Nat.le_of_ble_eq_true rfl) (Nat.le_of_ble_eq_true rfl) (by decide) (fun M1 q3 => ?_)
  obtain ⟨h2a, fs2, h2b⟩ := h2 M1 q3
  refine g_aload_n dL_law_748 rfl ?_
  refine g_callV_i h2a oX6_clearBuffer pX6_clearBuffer lL_121 dL_law_749 rfl h2b rfl rfl rfl (Nat.le_of_ble_eq_true rfl) (Nat.le_of_ble_eq_true rfl) (by omega) (fun M2 q4 => ?_)
  exact g_icmp_eq (tgt := 1758) dL_law_752 (by decide) (fun _ => law_nx rfl (h5 M2 q4)) (fun q => absurd rfl q)
theorem vL_firstError (hL : L < 2 ^ 31) (hi : i + 7 ≤ L) {b : Int32} (h1 : Cn mX5_firstError 8 0 0 none [.ref 8] M (zi b P)) {fs1 : List Value} (h1b : M 8 = some (.inr (5, fs1))) (hd2 : d2 ≤ 9) (h2 : ∀ M1, P M1 → Cn mX6_firstError d2 0 0 none [.ref 233] M1 (zi b PX) ∧ ∃ fs, M1 233 = some (.inr (6, fs))) (h5 : ∀ M2, PX M2 → G (mLaw L xs) 11 kc ks none 28 (lwl (i + 7)) [] M2 F) : G (mLaw L xs) 11 kc ks none 757 (lwl i) [] M F := by
  refine g_aload_n dL_law_757 rfl ?_
  refine g_callV_i h1 oX5_firstError pX5_firstError lL_122 dL_law_758 rfl h1b rfl rfl rfl (Nat.le_of_ble_eq_true rfl) (Nat.le_of_ble_eq_true rfl) (by decide) (fun M1 q3 => ?_)
  obtain ⟨h2a, fs2, h2b⟩ := h2 M1 q3
  refine g_aload_n dL_law_761 rfl ?_
  refine g_callV_i h2a oX6_firstError pX6_firstError lL_125 dL_law_762 rfl h2b rfl rfl rfl (Nat.le_of_ble_eq_true rfl) (Nat.le_of_ble_eq_true rfl) (by omega) (fun M2 q4 => ?_)
  exact g_icmp_eq (tgt := 1758) dL_law_765 (by decide) (fun _ => law_nx rfl (h5 M2 q4)) (fun q => absurd rfl q)
theorem vL_lets (hL : L < 2 ^ 31) (hi : i + 7 ≤ L) {b : Int32} (hk : kk ≤ 3) (h1 : Cn mL_lets 9 1 6 none [.ref 8, .ref 243] M (zi (nI kk) P)) (hd2 : d2 ≤ 9) (h2 : ∀ M1, P M1 → Cn mX6_lets d2 0 0 none [.ref 233] M1 (zi b PX) ∧ ∃ fs, M1 233 = some (.inr (6, fs))) (h3 : ∀ M2, PX M2 → Cn mX6_thrown 0 0 0 none [.ref 233] M2 (zi (nI kk) (fun M' => M' = M2)) ∧ ∃ fs, M2 233 = some (.inr (6, fs))) (h4 : kk = 0 → ∀ M2, PX M2 → ∃ f, M2 243 = some (lA f) ∧ f 0 = b.toInt64) (h5 : ∀ M2, PX M2 → G (mLaw L xs) 11 kc ks none 28 (lwl (i + 7)) [] M2 F) : G (mLaw L xs) 11 (kc + 1) (ks + 6) none 770 (lwl i) [] M F := by
  refine g_aload_n dL_law_770 rfl ?_
  refine g_aload_n dL_law_771 rfl ?_
  refine g_callSW (kc1 := kc) (ks1 := ks) (S := []) h1 oL_lets pL_lets lL_126 dL_law_772 rfl rfl (Nat.le_of_ble_eq_true rfl) (Nat.le_of_ble_eq_true rfl) (by decide) (Nat.le_refl _) (Nat.le_refl _) (fun M1 nx1 E q => ?_) (fun M1 nx1 v q => ?_)
  · obtain ⟨-, q2, -⟩ := q
    cases q2
  obtain ⟨rfl, q2, q3⟩ := q
  cases q2
  obtain ⟨h2a, fs2, h2b⟩ := h2 M1 q3
  show G _ _ _ _ _ _ _ [.int (nI kk)] _ _
  refine g_istore dL_law_775 (show 6 < 10 by decide) ?_
  refine g_aload_n dL_law_777 rfl ?_
  refine g_callV_i h2a oX6_lets pX6_lets lL_129 dL_law_778 rfl h2b rfl rfl rfl (Nat.le_of_ble_eq_true rfl) (Nat.le_of_ble_eq_true rfl) (by omega) (fun M2 q4 => ?_)
  obtain ⟨h3a, fs3, h3b⟩ := h3 M2 q4
  refine g_istore dL_law_781 (show 7 < 10 by decide) ?_
  refine g_aload_n dL_law_783 rfl ?_
  refine g_callV_i h3a oX6_thrown pX6_thrown lL_94 dL_law_784 rfl h3b rfl rfl rfl (Nat.le_of_ble_eq_true rfl) (Nat.le_of_ble_eq_true rfl) (by decide) (fun M3 q5 => ?_)
  subst q5
  refine g_iload dL_law_787 rfl ?_
  refine g_icmp_eq (tgt := 794) dL_law_789 (by decide) (fun _ => ?_) (fun q => absurd rfl q)
  refine g_iload dL_law_794 rfl ?_
  have fin : ∀ L0, ((lwl i).map (fun q => zl L0 q.1) = (lwl i).map (fun q => some q.2)) → G (mLaw L xs) 11 kc ks none 811 L0 [] M3 F := fun L0 h0 => by
    refine g_goto (tgt := 1758) dL_law_811 (by decide) ?_
    exact law_nx h0 (h5 M3 q4)
  refine g_if_ne_n (tgt := 811) dL_law_796 (by decide) (by omega) (fun _ => fin _ rfl) (fun h0 => ?_)
  obtain ⟨f, q6, q7⟩ := h4 h0 M3 q4
  refine g_aload_n dL_law_799 rfl ?_
  refine g_iconst (v := nI 0) dL_law_800 (by decide) ?_
  refine g_lald dL_law_801 q6 (vp_in_nI (by omega) (by omega)) ?_
  refine g_iload dL_law_802 rfl ?_
  refine g_i2l dL_law_804 ?_
  refine g_lcmp dL_law_805 ?_
  refine g_if_eq (tgt := 811) dL_law_806 (by decide) (fun _ => fin _ rfl) (fun q => absurd ?_ q)
  show lg_cmp (f 0) b.toInt64 = 0
  rw [q7]
  exact lg_cmp_r _
theorem vL_undo (hL : L < 2 ^ 31) (hi : i + 7 ≤ L) {b : Int32} (hk : kk ≤ 3) (h1 : Cn mL_undo 9 1 6 none [.ref 8, .ref 243] M (zi (nI kk) P)) (hd2 : d2 ≤ 9) (h2 : ∀ M1, P M1 → Cn mX6_undo d2 0 0 none [.ref 233] M1 (zi b PX) ∧ ∃ fs, M1 233 = some (.inr (6, fs))) (h3 : ∀ M2, PX M2 → Cn mX6_thrown 0 0 0 none [.ref 233] M2 (zi (nI kk) (fun M' => M' = M2)) ∧ ∃ fs, M2 233 = some (.inr (6, fs))) (h4 : kk = 0 → ∀ M2, PX M2 → ∃ f, M2 243 = some (lA f) ∧ f 0 = b.toInt64) (h5 : ∀ M2, PX M2 → G (mLaw L xs) 11 kc ks none 28 (lwl (i + 7)) [] M2 F) : G (mLaw L xs) 11 (kc + 1) (ks + 6) none 814 (lwl i) [] M F := by
  refine g_aload_n dL_law_814 rfl ?_
  refine g_aload_n dL_law_815 rfl ?_
  refine g_callSW (kc1 := kc) (ks1 := ks) (S := []) h1 oL_undo pL_undo lL_130 dL_law_816 rfl rfl (Nat.le_of_ble_eq_true rfl) (Nat.le_of_ble_eq_true rfl) (by decide) (Nat.le_refl _) (Nat.le_refl _) (fun M1 nx1 E q => ?_) (fun M1 nx1 v q => ?_)
  · obtain ⟨-, q2, -⟩ := q
    cases q2
  obtain ⟨rfl, q2, q3⟩ := q
  cases q2
  obtain ⟨h2a, fs2, h2b⟩ := h2 M1 q3
  show G _ _ _ _ _ _ _ [.int (nI kk)] _ _
  refine g_istore dL_law_819 (show 6 < 10 by decide) ?_
  refine g_aload_n dL_law_821 rfl ?_
  refine g_callV_i h2a oX6_undo pX6_undo lL_132 dL_law_822 rfl h2b rfl rfl rfl (Nat.le_of_ble_eq_true rfl) (Nat.le_of_ble_eq_true rfl) (by omega) (fun M2 q4 => ?_)
  obtain ⟨h3a, fs3, h3b⟩ := h3 M2 q4
  refine g_istore dL_law_825 (show 7 < 10 by decide) ?_
  refine g_aload_n dL_law_827 rfl ?_
  refine g_callV_i h3a oX6_thrown pX6_thrown lL_94 dL_law_828 rfl h3b rfl rfl rfl (Nat.le_of_ble_eq_true rfl) (Nat.le_of_ble_eq_true rfl) (by decide) (fun M3 q5 => ?_)
  subst q5
  refine g_iload dL_law_831 rfl ?_
  refine g_icmp_eq (tgt := 838) dL_law_833 (by decide) (fun _ => ?_) (fun q => absurd rfl q)
  refine g_iload dL_law_838 rfl ?_
  have fin : ∀ L0, ((lwl i).map (fun q => zl L0 q.1) = (lwl i).map (fun q => some q.2)) → G (mLaw L xs) 11 kc ks none 855 L0 [] M3 F := fun L0 h0 => by
    refine g_goto (tgt := 1758) dL_law_855 (by decide) ?_
    exact law_nx h0 (h5 M3 q4)
  refine g_if_ne_n (tgt := 855) dL_law_840 (by decide) (by omega) (fun _ => fin _ rfl) (fun h0 => ?_)
  obtain ⟨f, q6, q7⟩ := h4 h0 M3 q4
  refine g_aload_n dL_law_843 rfl ?_
  refine g_iconst (v := nI 0) dL_law_844 (by decide) ?_
  refine g_lald dL_law_845 q6 (vp_in_nI (by omega) (by omega)) ?_
  refine g_iload dL_law_846 rfl ?_
  refine g_i2l dL_law_848 ?_
  refine g_lcmp dL_law_849 ?_
  refine g_if_eq (tgt := 855) dL_law_850 (by decide) (fun _ => fin _ rfl) (fun q => absurd ?_ q)
  show lg_cmp (f 0) b.toInt64 = 0
  rw [q7]
  exact lg_cmp_r _
theorem vL_keep (hL : L < 2 ^ 31) (hi : i + 7 ≤ L) {b : Int32} (h1 : Cn mX5_keep 8 0 0 none [.ref 8] M (zi b P)) {fs1 : List Value} (h1b : M 8 = some (.inr (5, fs1))) (hd2 : d2 ≤ 9) (h2 : ∀ M1, P M1 → Cn mX6_keep d2 0 0 none [.ref 233] M1 (zi b PX) ∧ ∃ fs, M1 233 = some (.inr (6, fs))) (h5 : ∀ M2, PX M2 → G (mLaw L xs) 11 kc ks none 28 (lwl (i + 7)) [] M2 F) : G (mLaw L xs) 11 kc ks none 858 (lwl i) [] M F := by
  refine g_aload_n dL_law_858 rfl ?_
  refine g_callV_i h1 oX5_keep pX5_keep lL_133 dL_law_859 rfl h1b rfl rfl rfl (Nat.le_of_ble_eq_true rfl) (Nat.le_of_ble_eq_true rfl) (by decide) (fun M1 q3 => ?_)
  obtain ⟨h2a, fs2, h2b⟩ := h2 M1 q3
  refine g_aload_n dL_law_862 rfl ?_
  refine g_callV_i h2a oX6_keep pX6_keep lL_136 dL_law_863 rfl h2b rfl rfl rfl (Nat.le_of_ble_eq_true rfl) (Nat.le_of_ble_eq_true rfl) (by omega) (fun M2 q4 => ?_)
  exact g_icmp_eq (tgt := 1758) dL_law_866 (by decide) (fun _ => law_nx rfl (h5 M2 q4)) (fun q => absurd rfl q)
theorem vL_restore (hL : L < 2 ^ 31) (hi : i + 7 ≤ L) {b : Int32} (hk : kk ≤ 3) (h1 : Cn mL_restore 9 1 6 none [.ref 8, .ref 243] M (zi (nI kk) P)) (hd2 : d2 ≤ 9) (h2 : ∀ M1, P M1 → Cn mX6_restore d2 0 0 none [.ref 233] M1 (zi b PX) ∧ ∃ fs, M1 233 = some (.inr (6, fs))) (h3 : ∀ M2, PX M2 → Cn mX6_thrown 0 0 0 none [.ref 233] M2 (zi (nI kk) (fun M' => M' = M2)) ∧ ∃ fs, M2 233 = some (.inr (6, fs))) (h4 : kk = 0 → ∀ M2, PX M2 → ∃ f, M2 243 = some (lA f) ∧ f 0 = b.toInt64) (h5 : ∀ M2, PX M2 → G (mLaw L xs) 11 kc ks none 28 (lwl (i + 7)) [] M2 F) : G (mLaw L xs) 11 (kc + 1) (ks + 6) none 871 (lwl i) [] M F := by
  refine g_aload_n dL_law_871 rfl ?_
  refine g_aload_n dL_law_872 rfl ?_
  refine g_callSW (kc1 := kc) (ks1 := ks) (S := []) h1 oL_restore pL_restore lL_137 dL_law_873 rfl rfl (Nat.le_of_ble_eq_true rfl) (Nat.le_of_ble_eq_true rfl) (by decide) (Nat.le_refl _) (Nat.le_refl _) (fun M1 nx1 E q => ?_) (fun M1 nx1 v q => ?_)
  · obtain ⟨-, q2, -⟩ := q
    cases q2
  obtain ⟨rfl, q2, q3⟩ := q
  cases q2
  obtain ⟨h2a, fs2, h2b⟩ := h2 M1 q3
  show G _ _ _ _ _ _ _ [.int (nI kk)] _ _
  refine g_istore dL_law_876 (show 6 < 10 by decide) ?_
  refine g_aload_n dL_law_878 rfl ?_
  refine g_callV_i h2a oX6_restore pX6_restore lL_139 dL_law_879 rfl h2b rfl rfl rfl (Nat.le_of_ble_eq_true rfl) (Nat.le_of_ble_eq_true rfl) (by omega) (fun M2 q4 => ?_)
  obtain ⟨h3a, fs3, h3b⟩ := h3 M2 q4
  refine g_istore dL_law_882 (show 7 < 10 by decide) ?_
  refine g_aload_n dL_law_884 rfl ?_
  refine g_callV_i h3a oX6_thrown pX6_thrown lL_94 dL_law_885 rfl h3b rfl rfl rfl (Nat.le_of_ble_eq_true rfl) (Nat.le_of_ble_eq_true rfl) (by decide) (fun M3 q5 => ?_)
  subst q5
  refine g_iload dL_law_888 rfl ?_
  refine g_icmp_eq (tgt := 895) dL_law_890 (by decide) (fun _ => ?_) (fun q => absurd rfl q)
  refine g_iload dL_law_895 rfl ?_
  have fin : ∀ L0, ((lwl i).map (fun q => zl L0 q.1) = (lwl i).map (fun q => some q.2)) → G (mLaw L xs) 11 kc ks none 912 L0 [] M3 F := fun L0 h0 => by
    refine g_goto (tgt := 1758) dL_law_912 (by decide) ?_
    exact law_nx h0 (h5 M3 q4)
  refine g_if_ne_n (tgt := 912) dL_law_897 (by decide) (by omega) (fun _ => fin _ rfl) (fun h0 => ?_)
  obtain ⟨f, q6, q7⟩ := h4 h0 M3 q4
  refine g_aload_n dL_law_900 rfl ?_
  refine g_iconst (v := nI 0) dL_law_901 (by decide) ?_
  refine g_lald dL_law_902 q6 (vp_in_nI (by omega) (by omega)) ?_
  refine g_iload dL_law_903 rfl ?_
  refine g_i2l dL_law_905 ?_
  refine g_lcmp dL_law_906 ?_
  refine g_if_eq (tgt := 912) dL_law_907 (by decide) (fun _ => fin _ rfl) (fun q => absurd ?_ q)
  show lg_cmp (f 0) b.toInt64 = 0
  rw [q7]
  exact lg_cmp_r _
theorem vL_regularOf (hL : L < 2 ^ 31) (hi : i + 7 ≤ L) {b : Int32} (hk : kk ≤ 3) (h1 : Cn mL_regularOf 9 1 6 none [.ref 8, .int (xs (i + 1)), .int (xs (i + 2)), .ref 243] M (zi (nI kk) P)) (hd2 : d2 ≤ 9) (h2 : ∀ M1, P M1 → Cn mX6_regularOf d2 0 0 none [.ref 233, .int (xs (i + 1)), .int (xs (i + 2))] M1 (zi b PX) ∧ ∃ fs, M1 233 = some (.inr (6, fs))) (h3 : ∀ M2, PX M2 → Cn mX6_thrown 0 0 0 none [.ref 233] M2 (zi (nI kk) (fun M' => M' = M2)) ∧ ∃ fs, M2 233 = some (.inr (6, fs))) (h4 : kk = 0 → ∀ M2, PX M2 → ∃ f, M2 243 = some (lA f) ∧ f 0 = b.toInt64) (h5 : ∀ M2, PX M2 → G (mLaw L xs) 11 kc ks none 28 (lwl (i + 7)) [] M2 F) : G (mLaw L xs) 11 (kc + 1) (ks + 6) none 915 (lwl i) [] M F := by
  refine g_aload_n dL_law_915 rfl ?_
  refine g_aload_n dL_law_916 rfl ?_
  refine g_iload dL_law_917 rfl ?_
  refine g_iconst (v := nI 1) dL_law_919 (by decide) ?_
  refine g_iadd_n dL_law_920 ?_
  refine g_sld rfl dL_law_921 (by omega) hL ?_
  refine g_aload_n dL_law_922 rfl ?_
  refine g_iload dL_law_923 rfl ?_
  refine g_iconst (v := nI 2) dL_law_925 (by decide) ?_
  refine g_iadd_n dL_law_926 ?_
  refine g_sld rfl dL_law_927 (by omega) hL ?_
  refine g_aload_n dL_law_928 rfl ?_
  refine g_callSW (kc1 := kc) (ks1 := ks) (S := []) h1 oL_regularOf pL_regularOf lL_140 dL_law_929 rfl rfl (Nat.le_of_ble_eq_true rfl) (Nat.le_of_ble_eq_true rfl) (by decide) (Nat.le_refl _) (Nat.le_refl _) (fun M1 nx1 E q => ?_) (fun M1 nx1 v q => ?_)
  · obtain ⟨-, q2, -⟩ := q
    cases q2
  obtain ⟨rfl, q2, q3⟩ := q
  cases q2
  obtain ⟨h2a, fs2, h2b⟩ := h2 M1 q3
  show G _ _ _ _ _ _ _ [.int (nI kk)] _ _
  refine g_istore dL_law_932 (show 6 < 10 by decide) ?_
  refine g_aload_n dL_law_934 rfl ?_
  refine g_aload_n dL_law_935 rfl ?_
  refine g_iload dL_law_936 rfl ?_
  refine g_iconst (v := nI 1) dL_law_938 (by decide) ?_
  refine g_iadd_n dL_law_939 ?_
  refine g_sld rfl dL_law_940 (by omega) hL ?_
  refine g_aload_n dL_law_941 rfl ?_
  refine g_iload dL_law_942 rfl ?_
  refine g_iconst (v := nI 2) dL_law_944 (by decide) ?_
  refine g_iadd_n dL_law_945 ?_
  refine g_sld rfl dL_law_946 (by omega) hL ?_
  refine g_callV_i h2a oX6_regularOf pX6_regularOf lL_142 dL_law_947 rfl h2b rfl rfl rfl (Nat.le_of_ble_eq_true rfl) (Nat.le_of_ble_eq_true rfl) (by omega) (fun M2 q4 => ?_)
  obtain ⟨h3a, fs3, h3b⟩ := h3 M2 q4
  refine g_istore dL_law_950 (show 7 < 10 by decide) ?_
  refine g_aload_n dL_law_952 rfl ?_
  refine g_callV_i h3a oX6_thrown pX6_thrown lL_94 dL_law_953 rfl h3b rfl rfl rfl (Nat.le_of_ble_eq_true rfl) (Nat.le_of_ble_eq_true rfl) (by decide) (fun M3 q5 => ?_)
  subst q5
  refine g_iload dL_law_956 rfl ?_
  refine g_icmp_eq (tgt := 963) dL_law_958 (by decide) (fun _ => ?_) (fun q => absurd rfl q)
  refine g_iload dL_law_963 rfl ?_
  have fin : ∀ L0, ((lwl i).map (fun q => zl L0 q.1) = (lwl i).map (fun q => some q.2)) → G (mLaw L xs) 11 kc ks none 980 L0 [] M3 F := fun L0 h0 => by
    refine g_goto (tgt := 1758) dL_law_980 (by decide) ?_
    exact law_nx h0 (h5 M3 q4)
  refine g_if_ne_n (tgt := 980) dL_law_965 (by decide) (by omega) (fun _ => fin _ rfl) (fun h0 => ?_)
  obtain ⟨f, q6, q7⟩ := h4 h0 M3 q4
  refine g_aload_n dL_law_968 rfl ?_
  refine g_iconst (v := nI 0) dL_law_969 (by decide) ?_
  refine g_lald dL_law_970 q6 (vp_in_nI (by omega) (by omega)) ?_
  refine g_iload dL_law_971 rfl ?_
  refine g_i2l dL_law_973 ?_
  refine g_lcmp dL_law_974 ?_
  refine g_if_eq (tgt := 980) dL_law_975 (by decide) (fun _ => fin _ rfl) (fun q => absurd ?_ q)
  show lg_cmp (f 0) b.toInt64 = 0
  rw [q7]
  exact lg_cmp_r _
theorem vL_singleOf (hL : L < 2 ^ 31) (hi : i + 7 ≤ L) {b : Int32} (hk : kk ≤ 3) (h1 : Cn mL_singleOf 9 1 6 none [.ref 8, .int (xs (i + 1)), .int (xs (i + 2)), .ref 243] M (zi (nI kk) P)) (hd2 : d2 ≤ 9) (h2 : ∀ M1, P M1 → Cn mX6_singleOf d2 0 0 none [.ref 233, .int (xs (i + 1)), .int (xs (i + 2))] M1 (zi b PX) ∧ ∃ fs, M1 233 = some (.inr (6, fs))) (h3 : ∀ M2, PX M2 → Cn mX6_thrown 0 0 0 none [.ref 233] M2 (zi (nI kk) (fun M' => M' = M2)) ∧ ∃ fs, M2 233 = some (.inr (6, fs))) (h4 : kk = 0 → ∀ M2, PX M2 → ∃ f, M2 243 = some (lA f) ∧ f 0 = b.toInt64) (h5 : ∀ M2, PX M2 → G (mLaw L xs) 11 kc ks none 28 (lwl (i + 7)) [] M2 F) : G (mLaw L xs) 11 (kc + 1) (ks + 6) none 983 (lwl i) [] M F := by
  refine g_aload_n dL_law_983 rfl ?_
  refine g_aload_n dL_law_984 rfl ?_
  refine g_iload dL_law_985 rfl ?_
  refine g_iconst (v := nI 1) dL_law_987 (by decide) ?_
  refine g_iadd_n dL_law_988 ?_
  refine g_sld rfl dL_law_989 (by omega) hL ?_
  refine g_aload_n dL_law_990 rfl ?_
  refine g_iload dL_law_991 rfl ?_
  refine g_iconst (v := nI 2) dL_law_993 (by decide) ?_
  refine g_iadd_n dL_law_994 ?_
  refine g_sld rfl dL_law_995 (by omega) hL ?_
  refine g_aload_n dL_law_996 rfl ?_
  refine g_callSW (kc1 := kc) (ks1 := ks) (S := []) h1 oL_singleOf pL_singleOf lL_143 dL_law_997 rfl rfl (Nat.le_of_ble_eq_true rfl) (Nat.le_of_ble_eq_true rfl) (by decide) (Nat.le_refl _) (Nat.le_refl _) (fun M1 nx1 E q => ?_) (fun M1 nx1 v q => ?_)
  · obtain ⟨-, q2, -⟩ := q
    cases q2
  obtain ⟨rfl, q2, q3⟩ := q
  cases q2
  obtain ⟨h2a, fs2, h2b⟩ := h2 M1 q3
  show G _ _ _ _ _ _ _ [.int (nI kk)] _ _
  refine g_istore dL_law_1000 (show 6 < 10 by decide) ?_
  refine g_aload_n dL_law_1002 rfl ?_
  refine g_aload_n dL_law_1003 rfl ?_
  refine g_iload dL_law_1004 rfl ?_
  refine g_iconst (v := nI 1) dL_law_1006 (by decide) ?_
  refine g_iadd_n dL_law_1007 ?_
  refine g_sld rfl dL_law_1008 (by omega) hL ?_
  refine g_aload_n dL_law_1009 rfl ?_
  refine g_iload dL_law_1010 rfl ?_
  refine g_iconst (v := nI 2) dL_law_1012 (by decide) ?_
  refine g_iadd_n dL_law_1013 ?_
  refine g_sld rfl dL_law_1014 (by omega) hL ?_
  refine g_callV_i h2a oX6_singleOf pX6_singleOf lL_145 dL_law_1015 rfl h2b rfl rfl rfl (Nat.le_of_ble_eq_true rfl) (Nat.le_of_ble_eq_true rfl) (by omega) (fun M2 q4 => ?_)
  obtain ⟨h3a, fs3, h3b⟩ := h3 M2 q4
  refine g_istore dL_law_1018 (show 7 < 10 by decide) ?_
  refine g_aload_n dL_law_1020 rfl ?_
  refine g_callV_i h3a oX6_thrown pX6_thrown lL_94 dL_law_1021 rfl h3b rfl rfl rfl (Nat.le_of_ble_eq_true rfl) (Nat.le_of_ble_eq_true rfl) (by decide) (fun M3 q5 => ?_)
  subst q5
  refine g_iload dL_law_1024 rfl ?_
  refine g_icmp_eq (tgt := 1031) dL_law_1026 (by decide) (fun _ => ?_) (fun q => absurd rfl q)
  refine g_iload dL_law_1031 rfl ?_
  have fin : ∀ L0, ((lwl i).map (fun q => zl L0 q.1) = (lwl i).map (fun q => some q.2)) → G (mLaw L xs) 11 kc ks none 1048 L0 [] M3 F := fun L0 h0 => by
    refine g_goto (tgt := 1758) dL_law_1048 (by decide) ?_
    exact law_nx h0 (h5 M3 q4)
  refine g_if_ne_n (tgt := 1048) dL_law_1033 (by decide) (by omega) (fun _ => fin _ rfl) (fun h0 => ?_)
  obtain ⟨f, q6, q7⟩ := h4 h0 M3 q4
  refine g_aload_n dL_law_1036 rfl ?_
  refine g_iconst (v := nI 0) dL_law_1037 (by decide) ?_
  refine g_lald dL_law_1038 q6 (vp_in_nI (by omega) (by omega)) ?_
  refine g_iload dL_law_1039 rfl ?_
  refine g_i2l dL_law_1041 ?_
  refine g_lcmp dL_law_1042 ?_
  refine g_if_eq (tgt := 1048) dL_law_1043 (by decide) (fun _ => fin _ rfl) (fun q => absurd ?_ q)
  show lg_cmp (f 0) b.toInt64 = 0
  rw [q7]
  exact lg_cmp_r _
theorem vL_who (hL : L < 2 ^ 31) (hi : i + 7 ≤ L) {b : Int32} (hk : kk ≤ 3) (h1 : Cn mL_who 9 1 6 none [.ref 8, .int (xs (i + 1)), .int (xs (i + 2)), .int (xs (i + 3)), .ref 243] M (zi (nI kk) P)) (hd2 : d2 ≤ 9) (h2 : ∀ M1, P M1 → Cn mX6_who d2 0 0 none [.ref 233, .int (xs (i + 1)), .int (xs (i + 2)), .int (xs (i + 3))] M1 (zi b PX) ∧ ∃ fs, M1 233 = some (.inr (6, fs))) (h3 : ∀ M2, PX M2 → Cn mX6_thrown 0 0 0 none [.ref 233] M2 (zi (nI kk) (fun M' => M' = M2)) ∧ ∃ fs, M2 233 = some (.inr (6, fs))) (h4 : kk = 0 → ∀ M2, PX M2 → ∃ f, M2 243 = some (lA f) ∧ f 0 = b.toInt64) (h5 : ∀ M2, PX M2 → G (mLaw L xs) 11 kc ks none 28 (lwl (i + 7)) [] M2 F) : G (mLaw L xs) 11 (kc + 1) (ks + 6) none 1051 (lwl i) [] M F := by
  refine g_aload_n dL_law_1051 rfl ?_
  refine g_aload_n dL_law_1052 rfl ?_
  refine g_iload dL_law_1053 rfl ?_
  refine g_iconst (v := nI 1) dL_law_1055 (by decide) ?_
  refine g_iadd_n dL_law_1056 ?_
  refine g_sld rfl dL_law_1057 (by omega) hL ?_
  refine g_aload_n dL_law_1058 rfl ?_
  refine g_iload dL_law_1059 rfl ?_
  refine g_iconst (v := nI 2) dL_law_1061 (by decide) ?_
  refine g_iadd_n dL_law_1062 ?_
  refine g_sld rfl dL_law_1063 (by omega) hL ?_
  refine g_aload_n dL_law_1064 rfl ?_
  refine g_iload dL_law_1065 rfl ?_
  refine g_iconst (v := nI 3) dL_law_1067 (by decide) ?_
  refine g_iadd_n dL_law_1068 ?_
  refine g_sld rfl dL_law_1069 (by omega) hL ?_
  refine g_aload_n dL_law_1070 rfl ?_
  refine g_callSW (kc1 := kc) (ks1 := ks) (S := []) h1 oL_who pL_who lL_146 dL_law_1071 rfl rfl (Nat.le_of_ble_eq_true rfl) (Nat.le_of_ble_eq_true rfl) (by decide) (Nat.le_refl _) (Nat.le_refl _) (fun M1 nx1 E q => ?_) (fun M1 nx1 v q => ?_)
  · obtain ⟨-, q2, -⟩ := q
    cases q2
  obtain ⟨rfl, q2, q3⟩ := q
  cases q2
  obtain ⟨h2a, fs2, h2b⟩ := h2 M1 q3
  show G _ _ _ _ _ _ _ [.int (nI kk)] _ _
  refine g_istore dL_law_1074 (show 6 < 10 by decide) ?_
  refine g_aload_n dL_law_1076 rfl ?_
  refine g_aload_n dL_law_1077 rfl ?_
  refine g_iload dL_law_1078 rfl ?_
  refine g_iconst (v := nI 1) dL_law_1080 (by decide) ?_
  refine g_iadd_n dL_law_1081 ?_
  refine g_sld rfl dL_law_1082 (by omega) hL ?_
  refine g_aload_n dL_law_1083 rfl ?_
  refine g_iload dL_law_1084 rfl ?_
  refine g_iconst (v := nI 2) dL_law_1086 (by decide) ?_
  refine g_iadd_n dL_law_1087 ?_
  refine g_sld rfl dL_law_1088 (by omega) hL ?_
  refine g_aload_n dL_law_1089 rfl ?_
  refine g_iload dL_law_1090 rfl ?_
  refine g_iconst (v := nI 3) dL_law_1092 (by decide) ?_
  refine g_iadd_n dL_law_1093 ?_
  refine g_sld rfl dL_law_1094 (by omega) hL ?_
  refine g_callV_i h2a oX6_who pX6_who lL_149 dL_law_1095 rfl h2b rfl rfl rfl (Nat.le_of_ble_eq_true rfl) (Nat.le_of_ble_eq_true rfl) (by omega) (fun M2 q4 => ?_)
  obtain ⟨h3a, fs3, h3b⟩ := h3 M2 q4
  refine g_istore dL_law_1098 (show 7 < 10 by decide) ?_
  refine g_aload_n dL_law_1100 rfl ?_
  refine g_callV_i h3a oX6_thrown pX6_thrown lL_94 dL_law_1101 rfl h3b rfl rfl rfl (Nat.le_of_ble_eq_true rfl) (Nat.le_of_ble_eq_true rfl) (by decide) (fun M3 q5 => ?_)
  subst q5
  refine g_iload dL_law_1104 rfl ?_
  refine g_icmp_eq (tgt := 1111) dL_law_1106 (by decide) (fun _ => ?_) (fun q => absurd rfl q)
  refine g_iload dL_law_1111 rfl ?_
  have fin : ∀ L0, ((lwl i).map (fun q => zl L0 q.1) = (lwl i).map (fun q => some q.2)) → G (mLaw L xs) 11 kc ks none 1128 L0 [] M3 F := fun L0 h0 => by
    refine g_goto (tgt := 1758) dL_law_1128 (by decide) ?_
    exact law_nx h0 (h5 M3 q4)
  refine g_if_ne_n (tgt := 1128) dL_law_1113 (by decide) (by omega) (fun _ => fin _ rfl) (fun h0 => ?_)
  obtain ⟨f, q6, q7⟩ := h4 h0 M3 q4
  refine g_aload_n dL_law_1116 rfl ?_
  refine g_iconst (v := nI 0) dL_law_1117 (by decide) ?_
  refine g_lald dL_law_1118 q6 (vp_in_nI (by omega) (by omega)) ?_
  refine g_iload dL_law_1119 rfl ?_
  refine g_i2l dL_law_1121 ?_
  refine g_lcmp dL_law_1122 ?_
  refine g_if_eq (tgt := 1128) dL_law_1123 (by decide) (fun _ => fin _ rfl) (fun q => absurd ?_ q)
  show lg_cmp (f 0) b.toInt64 = 0
  rw [q7]
  exact lg_cmp_r _
theorem vL_hallOf (hL : L < 2 ^ 31) (hi : i + 7 ≤ L) {b : Int32} (hk : kk ≤ 3) (h1 : Cn mL_hallOf 9 1 6 none [.ref 8, .int (xs (i + 1)), .int (xs (i + 2)), .int (xs (i + 3)), .ref 243] M (zi (nI kk) P)) (hd2 : d2 ≤ 9) (h2 : ∀ M1, P M1 → Cn mX6_hallOf d2 0 0 none [.ref 233, .int (xs (i + 1)), .int (xs (i + 2)), .int (xs (i + 3))] M1 (zi b PX) ∧ ∃ fs, M1 233 = some (.inr (6, fs))) (h3 : ∀ M2, PX M2 → Cn mX6_thrown 0 0 0 none [.ref 233] M2 (zi (nI kk) (fun M' => M' = M2)) ∧ ∃ fs, M2 233 = some (.inr (6, fs))) (h4 : kk = 0 → ∀ M2, PX M2 → ∃ f, M2 243 = some (lA f) ∧ f 0 = b.toInt64) (h5 : ∀ M2, PX M2 → G (mLaw L xs) 11 kc ks none 28 (lwl (i + 7)) [] M2 F) : G (mLaw L xs) 11 (kc + 1) (ks + 6) none 1131 (lwl i) [] M F := by
  refine g_aload_n dL_law_1131 rfl ?_
  refine g_aload_n dL_law_1132 rfl ?_
  refine g_iload dL_law_1133 rfl ?_
  refine g_iconst (v := nI 1) dL_law_1135 (by decide) ?_
  refine g_iadd_n dL_law_1136 ?_
  refine g_sld rfl dL_law_1137 (by omega) hL ?_
  refine g_aload_n dL_law_1138 rfl ?_
  refine g_iload dL_law_1139 rfl ?_
  refine g_iconst (v := nI 2) dL_law_1141 (by decide) ?_
  refine g_iadd_n dL_law_1142 ?_
  refine g_sld rfl dL_law_1143 (by omega) hL ?_
  refine g_aload_n dL_law_1144 rfl ?_
  refine g_iload dL_law_1145 rfl ?_
  refine g_iconst (v := nI 3) dL_law_1147 (by decide) ?_
  refine g_iadd_n dL_law_1148 ?_
  refine g_sld rfl dL_law_1149 (by omega) hL ?_
  refine g_aload_n dL_law_1150 rfl ?_
  refine g_callSW (kc1 := kc) (ks1 := ks) (S := []) h1 oL_hallOf pL_hallOf lL_150 dL_law_1151 rfl rfl (Nat.le_of_ble_eq_true rfl) (Nat.le_of_ble_eq_true rfl) (by decide) (Nat.le_refl _) (Nat.le_refl _) (fun M1 nx1 E q => ?_) (fun M1 nx1 v q => ?_)
  · obtain ⟨-, q2, -⟩ := q
    cases q2
  obtain ⟨rfl, q2, q3⟩ := q
  cases q2
  obtain ⟨h2a, fs2, h2b⟩ := h2 M1 q3
  show G _ _ _ _ _ _ _ [.int (nI kk)] _ _
  refine g_istore dL_law_1154 (show 6 < 10 by decide) ?_
  refine g_aload_n dL_law_1156 rfl ?_
  refine g_aload_n dL_law_1157 rfl ?_
  refine g_iload dL_law_1158 rfl ?_
  refine g_iconst (v := nI 1) dL_law_1160 (by decide) ?_
  refine g_iadd_n dL_law_1161 ?_
  refine g_sld rfl dL_law_1162 (by omega) hL ?_
  refine g_aload_n dL_law_1163 rfl ?_
  refine g_iload dL_law_1164 rfl ?_
  refine g_iconst (v := nI 2) dL_law_1166 (by decide) ?_
  refine g_iadd_n dL_law_1167 ?_
  refine g_sld rfl dL_law_1168 (by omega) hL ?_
  refine g_aload_n dL_law_1169 rfl ?_
  refine g_iload dL_law_1170 rfl ?_
  refine g_iconst (v := nI 3) dL_law_1172 (by decide) ?_
  refine g_iadd_n dL_law_1173 ?_
  refine g_sld rfl dL_law_1174 (by omega) hL ?_
  refine g_callV_i h2a oX6_hallOf pX6_hallOf lL_152 dL_law_1175 rfl h2b rfl rfl rfl (Nat.le_of_ble_eq_true rfl) (Nat.le_of_ble_eq_true rfl) (by omega) (fun M2 q4 => ?_)
  obtain ⟨h3a, fs3, h3b⟩ := h3 M2 q4
  refine g_istore dL_law_1178 (show 7 < 10 by decide) ?_
  refine g_aload_n dL_law_1180 rfl ?_
  refine g_callV_i h3a oX6_thrown pX6_thrown lL_94 dL_law_1181 rfl h3b rfl rfl rfl (Nat.le_of_ble_eq_true rfl) (Nat.le_of_ble_eq_true rfl) (by decide) (fun M3 q5 => ?_)
  subst q5
  refine g_iload dL_law_1184 rfl ?_
  refine g_icmp_eq (tgt := 1191) dL_law_1186 (by decide) (fun _ => ?_) (fun q => absurd rfl q)
  refine g_iload dL_law_1191 rfl ?_
  have fin : ∀ L0, ((lwl i).map (fun q => zl L0 q.1) = (lwl i).map (fun q => some q.2)) → G (mLaw L xs) 11 kc ks none 1208 L0 [] M3 F := fun L0 h0 => by
    refine g_goto (tgt := 1758) dL_law_1208 (by decide) ?_
    exact law_nx h0 (h5 M3 q4)
  refine g_if_ne_n (tgt := 1208) dL_law_1193 (by decide) (by omega) (fun _ => fin _ rfl) (fun h0 => ?_)
  obtain ⟨f, q6, q7⟩ := h4 h0 M3 q4
  refine g_aload_n dL_law_1196 rfl ?_
  refine g_iconst (v := nI 0) dL_law_1197 (by decide) ?_
  refine g_lald dL_law_1198 q6 (vp_in_nI (by omega) (by omega)) ?_
  refine g_iload dL_law_1199 rfl ?_
  refine g_i2l dL_law_1201 ?_
  refine g_lcmp dL_law_1202 ?_
  refine g_if_eq (tgt := 1208) dL_law_1203 (by decide) (fun _ => fin _ rfl) (fun q => absurd ?_ q)
  show lg_cmp (f 0) b.toInt64 = 0
  rw [q7]
  exact lg_cmp_r _
theorem vL_tenant (hL : L < 2 ^ 31) (hi : i + 7 ≤ L) {b : Int32} (hk : kk ≤ 3) (h1 : Cn mL_tenant 9 1 6 none [.ref 8, .int (xs (i + 1)), .int (xs (i + 2)), .ref 243] M (zi (nI kk) P)) (hd2 : d2 ≤ 9) (h2 : ∀ M1, P M1 → Cn mX6_tenant d2 0 0 none [.ref 233, .int (xs (i + 1)), .int (xs (i + 2))] M1 (zi b PX) ∧ ∃ fs, M1 233 = some (.inr (6, fs))) (h3 : ∀ M2, PX M2 → Cn mX6_thrown 0 0 0 none [.ref 233] M2 (zi (nI kk) (fun M' => M' = M2)) ∧ ∃ fs, M2 233 = some (.inr (6, fs))) (h4 : kk = 0 → ∀ M2, PX M2 → ∃ f, M2 243 = some (lA f) ∧ f 0 = b.toInt64) (h5 : ∀ M2, PX M2 → G (mLaw L xs) 11 kc ks none 28 (lwl (i + 7)) [] M2 F) : G (mLaw L xs) 11 (kc + 1) (ks + 6) none 1211 (lwl i) [] M F := by
  refine g_aload_n dL_law_1211 rfl ?_
  refine g_aload_n dL_law_1212 rfl ?_
  refine g_iload dL_law_1213 rfl ?_
  refine g_iconst (v := nI 1) dL_law_1215 (by decide) ?_
  refine g_iadd_n dL_law_1216 ?_
  refine g_sld rfl dL_law_1217 (by omega) hL ?_
  refine g_aload_n dL_law_1218 rfl ?_
  refine g_iload dL_law_1219 rfl ?_
  refine g_iconst (v := nI 2) dL_law_1221 (by decide) ?_
  refine g_iadd_n dL_law_1222 ?_
  refine g_sld rfl dL_law_1223 (by omega) hL ?_
  refine g_aload_n dL_law_1224 rfl ?_
  refine g_callSW (kc1 := kc) (ks1 := ks) (S := []) h1 oL_tenant pL_tenant lL_153 dL_law_1225 rfl rfl (Nat.le_of_ble_eq_true rfl) (Nat.le_of_ble_eq_true rfl) (by decide) (Nat.le_refl _) (Nat.le_refl _) (fun M1 nx1 E q => ?_) (fun M1 nx1 v q => ?_)
  · obtain ⟨-, q2, -⟩ := q
    cases q2
  obtain ⟨rfl, q2, q3⟩ := q
  cases q2
  obtain ⟨h2a, fs2, h2b⟩ := h2 M1 q3
  show G _ _ _ _ _ _ _ [.int (nI kk)] _ _
  refine g_istore dL_law_1228 (show 6 < 10 by decide) ?_
  refine g_aload_n dL_law_1230 rfl ?_
  refine g_aload_n dL_law_1231 rfl ?_
  refine g_iload dL_law_1232 rfl ?_
  refine g_iconst (v := nI 1) dL_law_1234 (by decide) ?_
  refine g_iadd_n dL_law_1235 ?_
  refine g_sld rfl dL_law_1236 (by omega) hL ?_
  refine g_aload_n dL_law_1237 rfl ?_
  refine g_iload dL_law_1238 rfl ?_
  refine g_iconst (v := nI 2) dL_law_1240 (by decide) ?_
  refine g_iadd_n dL_law_1241 ?_
  refine g_sld rfl dL_law_1242 (by omega) hL ?_
  refine g_callV_i h2a oX6_tenant pX6_tenant lL_155 dL_law_1243 rfl h2b rfl rfl rfl (Nat.le_of_ble_eq_true rfl) (Nat.le_of_ble_eq_true rfl) (by omega) (fun M2 q4 => ?_)
  obtain ⟨h3a, fs3, h3b⟩ := h3 M2 q4
  refine g_istore dL_law_1246 (show 7 < 10 by decide) ?_
  refine g_aload_n dL_law_1248 rfl ?_
  refine g_callV_i h3a oX6_thrown pX6_thrown lL_94 dL_law_1249 rfl h3b rfl rfl rfl (Nat.le_of_ble_eq_true rfl) (Nat.le_of_ble_eq_true rfl) (by decide) (fun M3 q5 => ?_)
  subst q5
  refine g_iload dL_law_1252 rfl ?_
  refine g_icmp_eq (tgt := 1259) dL_law_1254 (by decide) (fun _ => ?_) (fun q => absurd rfl q)
  refine g_iload dL_law_1259 rfl ?_
  have fin : ∀ L0, ((lwl i).map (fun q => zl L0 q.1) = (lwl i).map (fun q => some q.2)) → G (mLaw L xs) 11 kc ks none 1276 L0 [] M3 F := fun L0 h0 => by
    refine g_goto (tgt := 1758) dL_law_1276 (by decide) ?_
    exact law_nx h0 (h5 M3 q4)
  refine g_if_ne_n (tgt := 1276) dL_law_1261 (by decide) (by omega) (fun _ => fin _ rfl) (fun h0 => ?_)
  obtain ⟨f, q6, q7⟩ := h4 h0 M3 q4
  refine g_aload_n dL_law_1264 rfl ?_
  refine g_iconst (v := nI 0) dL_law_1265 (by decide) ?_
  refine g_lald dL_law_1266 q6 (vp_in_nI (by omega) (by omega)) ?_
  refine g_iload dL_law_1267 rfl ?_
  refine g_i2l dL_law_1269 ?_
  refine g_lcmp dL_law_1270 ?_
  refine g_if_eq (tgt := 1276) dL_law_1271 (by decide) (fun _ => fin _ rfl) (fun q => absurd ?_ q)
  show lg_cmp (f 0) b.toInt64 = 0
  rw [q7]
  exact lg_cmp_r _
theorem vL_count (hL : L < 2 ^ 31) (hi : i + 7 ≤ L) {b : Int32} (hk : kk ≤ 3) (h1 : Cn mL_count 9 1 6 none [.ref 8, .int (xs (i + 1)), .ref 243] M (zi (nI kk) P)) (hd2 : d2 ≤ 9) (h2 : ∀ M1, P M1 → Cn mX6_count d2 0 0 none [.ref 233, .int (xs (i + 1))] M1 (zi b PX) ∧ ∃ fs, M1 233 = some (.inr (6, fs))) (h3 : ∀ M2, PX M2 → Cn mX6_thrown 0 0 0 none [.ref 233] M2 (zi (nI kk) (fun M' => M' = M2)) ∧ ∃ fs, M2 233 = some (.inr (6, fs))) (h4 : kk = 0 → ∀ M2, PX M2 → ∃ f, M2 243 = some (lA f) ∧ f 0 = b.toInt64) (h5 : ∀ M2, PX M2 → G (mLaw L xs) 11 kc ks none 28 (lwl (i + 7)) [] M2 F) : G (mLaw L xs) 11 (kc + 1) (ks + 6) none 1279 (lwl i) [] M F := by
  refine g_aload_n dL_law_1279 rfl ?_
  refine g_aload_n dL_law_1280 rfl ?_
  refine g_iload dL_law_1281 rfl ?_
  refine g_iconst (v := nI 1) dL_law_1283 (by decide) ?_
  refine g_iadd_n dL_law_1284 ?_
  refine g_sld rfl dL_law_1285 (by omega) hL ?_
  refine g_aload_n dL_law_1286 rfl ?_
  refine g_callSW (kc1 := kc) (ks1 := ks) (S := []) h1 oL_count pL_count lL_156 dL_law_1287 rfl rfl (Nat.le_of_ble_eq_true rfl) (Nat.le_of_ble_eq_true rfl) (by decide) (Nat.le_refl _) (Nat.le_refl _) (fun M1 nx1 E q => ?_) (fun M1 nx1 v q => ?_)
  · obtain ⟨-, q2, -⟩ := q
    cases q2
  obtain ⟨rfl, q2, q3⟩ := q
  cases q2
  obtain ⟨h2a, fs2, h2b⟩ := h2 M1 q3
  show G _ _ _ _ _ _ _ [.int (nI kk)] _ _
  refine g_istore dL_law_1290 (show 6 < 10 by decide) ?_
  refine g_aload_n dL_law_1292 rfl ?_
  refine g_aload_n dL_law_1293 rfl ?_
  refine g_iload dL_law_1294 rfl ?_
  refine g_iconst (v := nI 1) dL_law_1296 (by decide) ?_
  refine g_iadd_n dL_law_1297 ?_
  refine g_sld rfl dL_law_1298 (by omega) hL ?_
  refine g_callV_i h2a oX6_count pX6_count lL_158 dL_law_1299 rfl h2b rfl rfl rfl (Nat.le_of_ble_eq_true rfl) (Nat.le_of_ble_eq_true rfl) (by omega) (fun M2 q4 => ?_)
  obtain ⟨h3a, fs3, h3b⟩ := h3 M2 q4
  refine g_istore dL_law_1302 (show 7 < 10 by decide) ?_
  refine g_aload_n dL_law_1304 rfl ?_
  refine g_callV_i h3a oX6_thrown pX6_thrown lL_94 dL_law_1305 rfl h3b rfl rfl rfl (Nat.le_of_ble_eq_true rfl) (Nat.le_of_ble_eq_true rfl) (by decide) (fun M3 q5 => ?_)
  subst q5
  refine g_iload dL_law_1308 rfl ?_
  refine g_icmp_eq (tgt := 1315) dL_law_1310 (by decide) (fun _ => ?_) (fun q => absurd rfl q)
  refine g_iload dL_law_1315 rfl ?_
  have fin : ∀ L0, ((lwl i).map (fun q => zl L0 q.1) = (lwl i).map (fun q => some q.2)) → G (mLaw L xs) 11 kc ks none 1332 L0 [] M3 F := fun L0 h0 => by
    refine g_goto (tgt := 1758) dL_law_1332 (by decide) ?_
    exact law_nx h0 (h5 M3 q4)
  refine g_if_ne_n (tgt := 1332) dL_law_1317 (by decide) (by omega) (fun _ => fin _ rfl) (fun h0 => ?_)
  obtain ⟨f, q6, q7⟩ := h4 h0 M3 q4
  refine g_aload_n dL_law_1320 rfl ?_
  refine g_iconst (v := nI 0) dL_law_1321 (by decide) ?_
  refine g_lald dL_law_1322 q6 (vp_in_nI (by omega) (by omega)) ?_
  refine g_iload dL_law_1323 rfl ?_
  refine g_i2l dL_law_1325 ?_
  refine g_lcmp dL_law_1326 ?_
  refine g_if_eq (tgt := 1332) dL_law_1327 (by decide) (fun _ => fin _ rfl) (fun q => absurd ?_ q)
  show lg_cmp (f 0) b.toInt64 = 0
  rw [q7]
  exact lg_cmp_r _
theorem vL_refusal (hL : L < 2 ^ 31) (hi : i + 7 ≤ L) {b : Int32} (hk : kk ≤ 3) (h1 : Cn mL_refusal 9 1 6 none [.ref 8, .int (xs (i + 1)), .int (xs (i + 2)), .int (xs (i + 3)), .int (xs (i + 4)), .int (xs (i + 5)), .ref 243] M (zi (nI kk) P)) (hd2 : d2 ≤ 9) (h2 : ∀ M1, P M1 → Cn mX6_refusal d2 0 0 none [.ref 233, .int (xs (i + 1)), .int (xs (i + 2)), .int (xs (i + 3)), .int (xs (i + 4)), .int (xs (i + 5))] M1 (zi b PX) ∧ ∃ fs, M1 233 = some (.inr (6, fs))) (h3 : ∀ M2, PX M2 → Cn mX6_thrown 0 0 0 none [.ref 233] M2 (zi (nI kk) (fun M' => M' = M2)) ∧ ∃ fs, M2 233 = some (.inr (6, fs))) (h4 : kk = 0 → ∀ M2, PX M2 → ∃ f, M2 243 = some (lA f) ∧ f 0 = b.toInt64) (h5 : ∀ M2, PX M2 → G (mLaw L xs) 11 kc ks none 28 (lwl (i + 7)) [] M2 F) : G (mLaw L xs) 11 (kc + 1) (ks + 6) none 1335 (lwl i) [] M F := by
  refine g_aload_n dL_law_1335 rfl ?_
  refine g_aload_n dL_law_1336 rfl ?_
  refine g_iload dL_law_1337 rfl ?_
  refine g_iconst (v := nI 1) dL_law_1339 (by decide) ?_
  refine g_iadd_n dL_law_1340 ?_
  refine g_sld rfl dL_law_1341 (by omega) hL ?_
  refine g_aload_n dL_law_1342 rfl ?_
  refine g_iload dL_law_1343 rfl ?_
  refine g_iconst (v := nI 2) dL_law_1345 (by decide) ?_
  refine g_iadd_n dL_law_1346 ?_
  refine g_sld rfl dL_law_1347 (by omega) hL ?_
  refine g_aload_n dL_law_1348 rfl ?_
  refine g_iload dL_law_1349 rfl ?_
  refine g_iconst (v := nI 3) dL_law_1351 (by decide) ?_
  refine g_iadd_n dL_law_1352 ?_
  refine g_sld rfl dL_law_1353 (by omega) hL ?_
  refine g_aload_n dL_law_1354 rfl ?_
  refine g_iload dL_law_1355 rfl ?_
  refine g_iconst (v := nI 4) dL_law_1357 (by decide) ?_
  refine g_iadd_n dL_law_1358 ?_
  refine g_sld rfl dL_law_1359 (by omega) hL ?_
  refine g_aload_n dL_law_1360 rfl ?_
  refine g_iload dL_law_1361 rfl ?_
  refine g_iconst (v := nI 5) dL_law_1363 (by decide) ?_
  refine g_iadd_n dL_law_1364 ?_
  refine g_sld rfl dL_law_1365 (by omega) hL ?_
  refine g_aload_n dL_law_1366 rfl ?_
  refine g_callSW (kc1 := kc) (ks1 := ks) (S := []) h1 oL_refusal pL_refusal lL_159 dL_law_1367 rfl rfl (Nat.le_of_ble_eq_true rfl) (Nat.le_of_ble_eq_true rfl) (by decide) (Nat.le_refl _) (Nat.le_refl _) (fun M1 nx1 E q => ?_) (fun M1 nx1 v q => ?_)
  · obtain ⟨-, q2, -⟩ := q
    cases q2
  obtain ⟨rfl, q2, q3⟩ := q
  cases q2
  obtain ⟨h2a, fs2, h2b⟩ := h2 M1 q3
  show G _ _ _ _ _ _ _ [.int (nI kk)] _ _
  refine g_istore dL_law_1370 (show 6 < 10 by decide) ?_
  refine g_aload_n dL_law_1372 rfl ?_
  refine g_aload_n dL_law_1373 rfl ?_
  refine g_iload dL_law_1374 rfl ?_
  refine g_iconst (v := nI 1) dL_law_1376 (by decide) ?_
  refine g_iadd_n dL_law_1377 ?_
  refine g_sld rfl dL_law_1378 (by omega) hL ?_
  refine g_aload_n dL_law_1379 rfl ?_
  refine g_iload dL_law_1380 rfl ?_
  refine g_iconst (v := nI 2) dL_law_1382 (by decide) ?_
  refine g_iadd_n dL_law_1383 ?_
  refine g_sld rfl dL_law_1384 (by omega) hL ?_
  refine g_aload_n dL_law_1385 rfl ?_
  refine g_iload dL_law_1386 rfl ?_
  refine g_iconst (v := nI 3) dL_law_1388 (by decide) ?_
  refine g_iadd_n dL_law_1389 ?_
  refine g_sld rfl dL_law_1390 (by omega) hL ?_
  refine g_aload_n dL_law_1391 rfl ?_
  refine g_iload dL_law_1392 rfl ?_
  refine g_iconst (v := nI 4) dL_law_1394 (by decide) ?_
  refine g_iadd_n dL_law_1395 ?_
  refine g_sld rfl dL_law_1396 (by omega) hL ?_
  refine g_aload_n dL_law_1397 rfl ?_
  refine g_iload dL_law_1398 rfl ?_
  refine g_iconst (v := nI 5) dL_law_1400 (by decide) ?_
  refine g_iadd_n dL_law_1401 ?_
  refine g_sld rfl dL_law_1402 (by omega) hL ?_
  refine g_callV_i h2a oX6_refusal pX6_refusal lL_162 dL_law_1403 rfl h2b rfl rfl rfl (Nat.le_of_ble_eq_true rfl) (Nat.le_of_ble_eq_true rfl) (by omega) (fun M2 q4 => ?_)
  obtain ⟨h3a, fs3, h3b⟩ := h3 M2 q4
  refine g_istore dL_law_1406 (show 7 < 10 by decide) ?_
  refine g_aload_n dL_law_1408 rfl ?_
  refine g_callV_i h3a oX6_thrown pX6_thrown lL_94 dL_law_1409 rfl h3b rfl rfl rfl (Nat.le_of_ble_eq_true rfl) (Nat.le_of_ble_eq_true rfl) (by decide) (fun M3 q5 => ?_)
  subst q5
  refine g_iload dL_law_1412 rfl ?_
  refine g_icmp_eq (tgt := 1419) dL_law_1414 (by decide) (fun _ => ?_) (fun q => absurd rfl q)
  refine g_iload dL_law_1419 rfl ?_
  have fin : ∀ L0, ((lwl i).map (fun q => zl L0 q.1) = (lwl i).map (fun q => some q.2)) → G (mLaw L xs) 11 kc ks none 1436 L0 [] M3 F := fun L0 h0 => by
    refine g_goto (tgt := 1758) dL_law_1436 (by decide) ?_
    exact law_nx h0 (h5 M3 q4)
  refine g_if_ne_n (tgt := 1436) dL_law_1421 (by decide) (by omega) (fun _ => fin _ rfl) (fun h0 => ?_)
  obtain ⟨f, q6, q7⟩ := h4 h0 M3 q4
  refine g_aload_n dL_law_1424 rfl ?_
  refine g_iconst (v := nI 0) dL_law_1425 (by decide) ?_
  refine g_lald dL_law_1426 q6 (vp_in_nI (by omega) (by omega)) ?_
  refine g_iload dL_law_1427 rfl ?_
  refine g_i2l dL_law_1429 ?_
  refine g_lcmp dL_law_1430 ?_
  refine g_if_eq (tgt := 1436) dL_law_1431 (by decide) (fun _ => fin _ rfl) (fun q => absurd ?_ q)
  show lg_cmp (f 0) b.toInt64 = 0
  rw [q7]
  exact lg_cmp_r _
theorem vL_price (hL : L < 2 ^ 31) (hi : i + 7 ≤ L) {b : Int32} (hk : kk ≤ 3) (h1 : Cn mL_price 9 1 6 none [.ref 8, .int (xs (i + 1)), .int (xs (i + 2)), .int (xs (i + 3)), .int (xs (i + 4)), .ref 243] M (zi (nI kk) P)) (hd2 : d2 ≤ 9) (h2 : ∀ M1, P M1 → Cn mX6_price d2 0 0 none [.ref 233, .int (xs (i + 1)), .int (xs (i + 2)), .int (xs (i + 3)), .int (xs (i + 4))] M1 (zi b PX) ∧ ∃ fs, M1 233 = some (.inr (6, fs))) (h3 : ∀ M2, PX M2 → Cn mX6_thrown 0 0 0 none [.ref 233] M2 (zi (nI kk) (fun M' => M' = M2)) ∧ ∃ fs, M2 233 = some (.inr (6, fs))) (h4 : kk = 0 → ∀ M2, PX M2 → ∃ f, M2 243 = some (lA f) ∧ f 0 = b.toInt64) (h5 : ∀ M2, PX M2 → G (mLaw L xs) 11 kc ks none 28 (lwl (i + 7)) [] M2 F) : G (mLaw L xs) 11 (kc + 1) (ks + 6) none 1439 (lwl i) [] M F := by
  refine g_aload_n dL_law_1439 rfl ?_
  refine g_aload_n dL_law_1440 rfl ?_
  refine g_iload dL_law_1441 rfl ?_
  refine g_iconst (v := nI 1) dL_law_1443 (by decide) ?_
  refine g_iadd_n dL_law_1444 ?_
  refine g_sld rfl dL_law_1445 (by omega) hL ?_
  refine g_aload_n dL_law_1446 rfl ?_
  refine g_iload dL_law_1447 rfl ?_
  refine g_iconst (v := nI 2) dL_law_1449 (by decide) ?_
  refine g_iadd_n dL_law_1450 ?_
  refine g_sld rfl dL_law_1451 (by omega) hL ?_
  refine g_aload_n dL_law_1452 rfl ?_
  refine g_iload dL_law_1453 rfl ?_
  refine g_iconst (v := nI 3) dL_law_1455 (by decide) ?_
  refine g_iadd_n dL_law_1456 ?_
  refine g_sld rfl dL_law_1457 (by omega) hL ?_
  refine g_aload_n dL_law_1458 rfl ?_
  refine g_iload dL_law_1459 rfl ?_
  refine g_iconst (v := nI 4) dL_law_1461 (by decide) ?_
  refine g_iadd_n dL_law_1462 ?_
  refine g_sld rfl dL_law_1463 (by omega) hL ?_
  refine g_aload_n dL_law_1464 rfl ?_
  refine g_callSW (kc1 := kc) (ks1 := ks) (S := []) h1 oL_price pL_price lL_163 dL_law_1465 rfl rfl (Nat.le_of_ble_eq_true rfl) (Nat.le_of_ble_eq_true rfl) (by decide) (Nat.le_refl _) (Nat.le_refl _) (fun M1 nx1 E q => ?_) (fun M1 nx1 v q => ?_)
  · obtain ⟨-, q2, -⟩ := q
    cases q2
  obtain ⟨rfl, q2, q3⟩ := q
  cases q2
  obtain ⟨h2a, fs2, h2b⟩ := h2 M1 q3
  show G _ _ _ _ _ _ _ [.int (nI kk)] _ _
  refine g_istore dL_law_1468 (show 6 < 10 by decide) ?_
  refine g_aload_n dL_law_1470 rfl ?_
  refine g_aload_n dL_law_1471 rfl ?_
  refine g_iload dL_law_1472 rfl ?_
  refine g_iconst (v := nI 1) dL_law_1474 (by decide) ?_
  refine g_iadd_n dL_law_1475 ?_
  refine g_sld rfl dL_law_1476 (by omega) hL ?_
  refine g_aload_n dL_law_1477 rfl ?_
  refine g_iload dL_law_1478 rfl ?_
  refine g_iconst (v := nI 2) dL_law_1480 (by decide) ?_
  refine g_iadd_n dL_law_1481 ?_
  refine g_sld rfl dL_law_1482 (by omega) hL ?_
  refine g_aload_n dL_law_1483 rfl ?_
  refine g_iload dL_law_1484 rfl ?_
  refine g_iconst (v := nI 3) dL_law_1486 (by decide) ?_
  refine g_iadd_n dL_law_1487 ?_
  refine g_sld rfl dL_law_1488 (by omega) hL ?_
  refine g_aload_n dL_law_1489 rfl ?_
  refine g_iload dL_law_1490 rfl ?_
  refine g_iconst (v := nI 4) dL_law_1492 (by decide) ?_
  refine g_iadd_n dL_law_1493 ?_
  refine g_sld rfl dL_law_1494 (by omega) hL ?_
  refine g_callV_i h2a oX6_price pX6_price lL_166 dL_law_1495 rfl h2b rfl rfl rfl (Nat.le_of_ble_eq_true rfl) (Nat.le_of_ble_eq_true rfl) (by omega) (fun M2 q4 => ?_)
  obtain ⟨h3a, fs3, h3b⟩ := h3 M2 q4
  refine g_istore dL_law_1498 (show 7 < 10 by decide) ?_
  refine g_aload_n dL_law_1500 rfl ?_
  refine g_callV_i h3a oX6_thrown pX6_thrown lL_94 dL_law_1501 rfl h3b rfl rfl rfl (Nat.le_of_ble_eq_true rfl) (Nat.le_of_ble_eq_true rfl) (by decide) (fun M3 q5 => ?_)
  subst q5
  refine g_iload dL_law_1504 rfl ?_
  refine g_icmp_eq (tgt := 1511) dL_law_1506 (by decide) (fun _ => ?_) (fun q => absurd rfl q)
  refine g_iload dL_law_1511 rfl ?_
  have fin : ∀ L0, ((lwl i).map (fun q => zl L0 q.1) = (lwl i).map (fun q => some q.2)) → G (mLaw L xs) 11 kc ks none 1528 L0 [] M3 F := fun L0 h0 => by
    refine g_goto (tgt := 1758) dL_law_1528 (by decide) ?_
    exact law_nx h0 (h5 M3 q4)
  refine g_if_ne_n (tgt := 1528) dL_law_1513 (by decide) (by omega) (fun _ => fin _ rfl) (fun h0 => ?_)
  obtain ⟨f, q6, q7⟩ := h4 h0 M3 q4
  refine g_aload_n dL_law_1516 rfl ?_
  refine g_iconst (v := nI 0) dL_law_1517 (by decide) ?_
  refine g_lald dL_law_1518 q6 (vp_in_nI (by omega) (by omega)) ?_
  refine g_iload dL_law_1519 rfl ?_
  refine g_i2l dL_law_1521 ?_
  refine g_lcmp dL_law_1522 ?_
  refine g_if_eq (tgt := 1528) dL_law_1523 (by decide) (fun _ => fin _ rfl) (fun q => absurd ?_ q)
  show lg_cmp (f 0) b.toInt64 = 0
  rw [q7]
  exact lg_cmp_r _
theorem vL_nextFree (hL : L < 2 ^ 31) (hi : i + 7 ≤ L) {b : Int32} (hk : kk ≤ 3) (h1 : Cn mL_nextFree 9 1 6 none [.ref 8, .int (xs (i + 1)), .int (xs (i + 2)), .int (xs (i + 3)), .ref 243] M (zi (nI kk) P)) (hd2 : d2 ≤ 9) (h2 : ∀ M1, P M1 → Cn mX6_nextFree d2 0 0 none [.ref 233, .int (xs (i + 1)), .int (xs (i + 2)), .int (xs (i + 3))] M1 (zi b PX) ∧ ∃ fs, M1 233 = some (.inr (6, fs))) (h3 : ∀ M2, PX M2 → Cn mX6_thrown 0 0 0 none [.ref 233] M2 (zi (nI kk) (fun M' => M' = M2)) ∧ ∃ fs, M2 233 = some (.inr (6, fs))) (h4 : kk = 0 → ∀ M2, PX M2 → ∃ f, M2 243 = some (lA f) ∧ f 0 = b.toInt64) (h5 : ∀ M2, PX M2 → G (mLaw L xs) 11 kc ks none 28 (lwl (i + 7)) [] M2 F) : G (mLaw L xs) 11 (kc + 1) (ks + 6) none 1531 (lwl i) [] M F := by
  refine g_aload_n dL_law_1531 rfl ?_
  refine g_aload_n dL_law_1532 rfl ?_
  refine g_iload dL_law_1533 rfl ?_
  refine g_iconst (v := nI 1) dL_law_1535 (by decide) ?_
  refine g_iadd_n dL_law_1536 ?_
  refine g_sld rfl dL_law_1537 (by omega) hL ?_
  refine g_aload_n dL_law_1538 rfl ?_
  refine g_iload dL_law_1539 rfl ?_
  refine g_iconst (v := nI 2) dL_law_1541 (by decide) ?_
  refine g_iadd_n dL_law_1542 ?_
  refine g_sld rfl dL_law_1543 (by omega) hL ?_
  refine g_aload_n dL_law_1544 rfl ?_
  refine g_iload dL_law_1545 rfl ?_
  refine g_iconst (v := nI 3) dL_law_1547 (by decide) ?_
  refine g_iadd_n dL_law_1548 ?_
  refine g_sld rfl dL_law_1549 (by omega) hL ?_
  refine g_aload_n dL_law_1550 rfl ?_
  refine g_callSW (kc1 := kc) (ks1 := ks) (S := []) h1 oL_nextFree pL_nextFree lL_167 dL_law_1551 rfl rfl (Nat.le_of_ble_eq_true rfl) (Nat.le_of_ble_eq_true rfl) (by decide) (Nat.le_refl _) (Nat.le_refl _) (fun M1 nx1 E q => ?_) (fun M1 nx1 v q => ?_)
  · obtain ⟨-, q2, -⟩ := q
    cases q2
  obtain ⟨rfl, q2, q3⟩ := q
  cases q2
  obtain ⟨h2a, fs2, h2b⟩ := h2 M1 q3
  show G _ _ _ _ _ _ _ [.int (nI kk)] _ _
  refine g_istore dL_law_1554 (show 6 < 10 by decide) ?_
  refine g_aload_n dL_law_1556 rfl ?_
  refine g_aload_n dL_law_1557 rfl ?_
  refine g_iload dL_law_1558 rfl ?_
  refine g_iconst (v := nI 1) dL_law_1560 (by decide) ?_
  refine g_iadd_n dL_law_1561 ?_
  refine g_sld rfl dL_law_1562 (by omega) hL ?_
  refine g_aload_n dL_law_1563 rfl ?_
  refine g_iload dL_law_1564 rfl ?_
  refine g_iconst (v := nI 2) dL_law_1566 (by decide) ?_
  refine g_iadd_n dL_law_1567 ?_
  refine g_sld rfl dL_law_1568 (by omega) hL ?_
  refine g_aload_n dL_law_1569 rfl ?_
  refine g_iload dL_law_1570 rfl ?_
  refine g_iconst (v := nI 3) dL_law_1572 (by decide) ?_
  refine g_iadd_n dL_law_1573 ?_
  refine g_sld rfl dL_law_1574 (by omega) hL ?_
  refine g_callV_i h2a oX6_nextFree pX6_nextFree lL_169 dL_law_1575 rfl h2b rfl rfl rfl (Nat.le_of_ble_eq_true rfl) (Nat.le_of_ble_eq_true rfl) (by omega) (fun M2 q4 => ?_)
  obtain ⟨h3a, fs3, h3b⟩ := h3 M2 q4
  refine g_istore dL_law_1578 (show 7 < 10 by decide) ?_
  refine g_aload_n dL_law_1580 rfl ?_
  refine g_callV_i h3a oX6_thrown pX6_thrown lL_94 dL_law_1581 rfl h3b rfl rfl rfl (Nat.le_of_ble_eq_true rfl) (Nat.le_of_ble_eq_true rfl) (by decide) (fun M3 q5 => ?_)
  subst q5
  refine g_iload dL_law_1584 rfl ?_
  refine g_icmp_eq (tgt := 1591) dL_law_1586 (by decide) (fun _ => ?_) (fun q => absurd rfl q)
  refine g_iload dL_law_1591 rfl ?_
  have fin : ∀ L0, ((lwl i).map (fun q => zl L0 q.1) = (lwl i).map (fun q => some q.2)) → G (mLaw L xs) 11 kc ks none 1608 L0 [] M3 F := fun L0 h0 => by
    refine g_goto (tgt := 1758) dL_law_1608 (by decide) ?_
    exact law_nx h0 (h5 M3 q4)
  refine g_if_ne_n (tgt := 1608) dL_law_1593 (by decide) (by omega) (fun _ => fin _ rfl) (fun h0 => ?_)
  obtain ⟨f, q6, q7⟩ := h4 h0 M3 q4
  refine g_aload_n dL_law_1596 rfl ?_
  refine g_iconst (v := nI 0) dL_law_1597 (by decide) ?_
  refine g_lald dL_law_1598 q6 (vp_in_nI (by omega) (by omega)) ?_
  refine g_iload dL_law_1599 rfl ?_
  refine g_i2l dL_law_1601 ?_
  refine g_lcmp dL_law_1602 ?_
  refine g_if_eq (tgt := 1608) dL_law_1603 (by decide) (fun _ => fin _ rfl) (fun q => absurd ?_ q)
  show lg_cmp (f 0) b.toInt64 = 0
  rw [q7]
  exact lg_cmp_r _
theorem vL_best (hL : L < 2 ^ 31) (hi : i + 7 ≤ L) {b : Int32} (h1 : Cn mX5_best 8 0 0 none [.ref 8] M (zi b P)) {fs1 : List Value} (h1b : M 8 = some (.inr (5, fs1))) (hd2 : d2 ≤ 9) (h2 : ∀ M1, P M1 → Cn mX6_best d2 0 0 none [.ref 233] M1 (zi b PX) ∧ ∃ fs, M1 233 = some (.inr (6, fs))) (h5 : ∀ M2, PX M2 → G (mLaw L xs) 11 kc ks none 28 (lwl (i + 7)) [] M2 F) : G (mLaw L xs) 11 kc ks none 1611 (lwl i) [] M F := by
  refine g_aload_n dL_law_1611 rfl ?_
  refine g_callV_i h1 oX5_best pX5_best lL_170 dL_law_1612 rfl h1b rfl rfl rfl (Nat.le_of_ble_eq_true rfl) (Nat.le_of_ble_eq_true rfl) (by decide) (fun M1 q3 => ?_)
  obtain ⟨h2a, fs2, h2b⟩ := h2 M1 q3
  refine g_aload_n dL_law_1615 rfl ?_
  refine g_callV_i h2a oX6_best pX6_best lL_173 dL_law_1616 rfl h2b rfl rfl rfl (Nat.le_of_ble_eq_true rfl) (Nat.le_of_ble_eq_true rfl) (by omega) (fun M2 q4 => ?_)
  exact g_icmp_eq (tgt := 1758) dL_law_1619 (by decide) (fun _ => law_nx rfl (h5 M2 q4)) (fun q => absurd rfl q)
theorem vL_fullness (hL : L < 2 ^ 31) (hi : i + 7 ≤ L) {b : UInt64} (hk : kk ≤ 3) (h1 : Cn mL_fullness 9 1 6 none [.ref 8, .int (xs (i + 1)), .ref 244] M (zi (nI kk) P)) (hd2 : d2 ≤ 9) (h2 : ∀ M1, P M1 → Cn mX6_fullness d2 0 0 none [.ref 233, .int (xs (i + 1))] M1 (zd b PX) ∧ ∃ fs, M1 233 = some (.inr (6, fs))) (h3 : ∀ M2, PX M2 → Cn mX6_thrown 0 0 0 none [.ref 233] M2 (zi (nI kk) (fun M' => M' = M2)) ∧ ∃ fs, M2 233 = some (.inr (6, fs))) (h4 : kk = 0 → ∀ M2, PX M2 → ∃ f, M2 244 = some (dA f) ∧ f 0 = b ∧ FP.dIsNaN b = false) (h5 : ∀ M2, PX M2 → G (mLaw L xs) 11 kc ks none 28 (lwl (i + 7)) [] M2 F) : G (mLaw L xs) 11 (kc + 1) (ks + 6) none 1624 (lwl i) [] M F := by
  refine g_aload_n dL_law_1624 rfl ?_
  refine g_aload_n dL_law_1625 rfl ?_
  refine g_iload dL_law_1626 rfl ?_
  refine g_iconst (v := nI 1) dL_law_1628 (by decide) ?_
  refine g_iadd_n dL_law_1629 ?_
  refine g_sld rfl dL_law_1630 (by omega) hL ?_
  refine g_aload dL_law_1631 rfl ?_
  refine g_callSW (kc1 := kc) (ks1 := ks) (S := []) h1 oL_fullness pL_fullness lL_174 dL_law_1633 rfl rfl (Nat.le_of_ble_eq_true rfl) (Nat.le_of_ble_eq_true rfl) (by decide) (Nat.le_refl _) (Nat.le_refl _) (fun M1 nx1 E q => ?_) (fun M1 nx1 v q => ?_)
  · obtain ⟨-, q2, -⟩ := q
    cases q2
  obtain ⟨rfl, q2, q3⟩ := q
  cases q2
  obtain ⟨h2a, fs2, h2b⟩ := h2 M1 q3
  show G _ _ _ _ _ _ _ [.int (nI kk)] _ _
  refine g_istore dL_law_1636 (show 6 < 10 by decide) ?_
  refine g_aload_n dL_law_1638 rfl ?_
  refine g_aload_n dL_law_1639 rfl ?_
  refine g_iload dL_law_1640 rfl ?_
  refine g_iconst (v := nI 1) dL_law_1642 (by decide) ?_
  refine g_iadd_n dL_law_1643 ?_
  refine g_sld rfl dL_law_1644 (by omega) hL ?_
  refine g_callV_d h2a oX6_fullness pX6_fullness lL_177 dL_law_1645 rfl h2b rfl rfl rfl (Nat.le_of_ble_eq_true rfl) (Nat.le_of_ble_eq_true rfl) (by omega) (fun M2 q4 => ?_)
  obtain ⟨h3a, fs3, h3b⟩ := h3 M2 q4
  refine g_dstore dL_law_1648 (show 7 + 1 < 10 by decide) ?_
  refine g_aload_n dL_law_1650 rfl ?_
  refine g_callV_i h3a oX6_thrown pX6_thrown lL_94 dL_law_1651 rfl h3b rfl rfl rfl (Nat.le_of_ble_eq_true rfl) (Nat.le_of_ble_eq_true rfl) (by decide) (fun M3 q5 => ?_)
  subst q5
  refine g_iload dL_law_1654 rfl ?_
  refine g_icmp_eq (tgt := 1661) dL_law_1656 (by decide) (fun _ => ?_) (fun q => absurd rfl q)
  refine g_iload dL_law_1661 rfl ?_
  have fin : ∀ L0, ((lwl i).map (fun q => zl L0 q.1) = (lwl i).map (fun q => some q.2)) → G (mLaw L xs) 11 kc ks none 1698 L0 [] M3 F := fun L0 h0 => by
    refine g_goto (tgt := 1758) dL_law_1698 (by decide) ?_
    exact law_nx h0 (h5 M3 q4)
  refine g_if_ne_n (tgt := 1698) dL_law_1663 (by decide) (by omega) (fun _ => fin _ rfl) (fun h0 => ?_)
  obtain ⟨f, q6, q7, q8⟩ := h4 h0 M3 q4
  refine g_aload dL_law_1666 rfl ?_
  refine g_iconst (v := nI 0) dL_law_1668 (by decide) ?_
  refine g_dald dL_law_1669 q6 (vp_in_nI (by omega) (by omega)) ?_
  refine g_dload dL_law_1670 rfl ?_
  refine g_dcmp dL_law_1672 ?_
  refine g_if_eq (tgt := 1698) dL_law_1673 (by decide) (fun _ => fin _ rfl) (fun q => absurd ?_ q)
  show Op.cmpValue (FP.dcmp (f 0) b) .l = 0
  rw [q7, dself q8]
  rfl
theorem vL_meanRent (hL : L < 2 ^ 31) (hi : i + 7 ≤ L) {b : UInt32} (hb : FP.fIsNaN b = false) (h1 : Cn mX5_meanRent 8 0 0 none [.ref 8] M (zg b P)) {fs1 : List Value} (h1b : M 8 = some (.inr (5, fs1))) (hd2 : d2 ≤ 9) (h2 : ∀ M1, P M1 → Cn mX6_meanRent d2 0 0 none [.ref 233] M1 (zg b PX) ∧ ∃ fs, M1 233 = some (.inr (6, fs))) (h5 : ∀ M2, PX M2 → G (mLaw L xs) 11 kc ks none 28 (lwl (i + 7)) [] M2 F) : G (mLaw L xs) 11 kc ks none 1701 (lwl i) [] M F := by
  have hn : FP.dIsNaN (FP.f2d b) = false := by rw [FP.f2d_nan]; exact hb
  refine g_aload_n dL_law_1701 rfl ?_
  refine g_callV_g h1 oX5_meanRent pX5_meanRent lL_178 dL_law_1702 rfl h1b rfl rfl rfl (Nat.le_of_ble_eq_true rfl) (Nat.le_of_ble_eq_true rfl) (by decide) (fun M1 q3 => ?_)
  obtain ⟨h2a, fs2, h2b⟩ := h2 M1 q3
  refine g_f2d dL_law_1705 (vf_of64 hn) ?_
  refine g_dstore dL_law_1706 (show 6 + 1 < 10 by decide) ?_
  refine g_aload_n dL_law_1708 rfl ?_
  refine g_callV_g h2a oX6_meanRent pX6_meanRent lL_182 dL_law_1709 rfl h2b rfl rfl rfl (Nat.le_of_ble_eq_true rfl) (Nat.le_of_ble_eq_true rfl) (by omega) (fun M2 q4 => ?_)
  refine g_f2d dL_law_1712 (vf_of64 hn) ?_
  refine g_dstore dL_law_1713 (show 8 + 1 < 10 by decide) ?_
  refine g_dload dL_law_1715 rfl ?_
  refine g_dload dL_law_1717 rfl ?_
  refine g_dcmp dL_law_1719 ?_
  refine g_if_eq (tgt := 1741) dL_law_1720 (by decide) (fun _ => ?_) (fun q => absurd ?_ q)
  · refine g_goto (tgt := 1758) dL_law_1741 (by decide) ?_
    exact law_nx rfl (h5 M2 q4)
  · show Op.cmpValue (FP.dcmp (FP.f2d b) (FP.f2d b)) .l = 0
    rw [dself hn]
    rfl
theorem vL_digest (hL : L < 2 ^ 31) (hi : i + 7 ≤ L) {b : Int64} (h1 : Cn mX5_digest 10 0 0 none [.ref 8] M (zj b P)) {fs1 : List Value} (h1b : M 8 = some (.inr (5, fs1))) (hd2 : d2 ≤ 9) (h2 : ∀ M1, P M1 → Cn mX6_digest d2 0 0 none [.ref 233] M1 (zj b PX) ∧ ∃ fs, M1 233 = some (.inr (6, fs))) (h5 : ∀ M2, PX M2 → G (mLaw L xs) 11 kc ks none 28 (lwl (i + 7)) [] M2 F) : G (mLaw L xs) 11 kc ks none 1744 (lwl i) [] M F := by
  refine g_aload_n dL_law_1744 rfl ?_
  refine g_callV_j h1 oX5_digest pX5_digest lL_183 dL_law_1745 rfl h1b rfl rfl rfl (Nat.le_of_ble_eq_true rfl) (Nat.le_of_ble_eq_true rfl) (by decide) (fun M1 q3 => ?_)
  obtain ⟨h2a, fs2, h2b⟩ := h2 M1 q3
  refine g_aload_n dL_law_1748 rfl ?_
  refine g_callV_j h2a oX6_digest pX6_digest lL_187 dL_law_1749 rfl h2b rfl rfl rfl (Nat.le_of_ble_eq_true rfl) (Nat.le_of_ble_eq_true rfl) (by omega) (fun M2 q4 => ?_)
  refine g_lcmp dL_law_1752 ?_
  exact g_if_eq (tgt := 1758) dL_law_1753 (by decide) (fun _ => law_nx rfl (h5 M2 q4)) (fun q => absurd (lg_cmp_r _) q)
end LAW
