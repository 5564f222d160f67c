/-! the class: the plan depends on lets alone; cleaning of all days; making a single let -/
theorem scr_k {Y Y' : Nat → Nat → Nat} (h : scr Y Y') {a k : Nat} (hk : kq a = k) (h0 : k ≠ 0) (h1 : k ≠ 23) (h2 : k ≠ 24) : Y' a = Y a := h a (fun e => by subst e; exact h0 hk.symm) (fun e => by subst e; exact h1 hk.symm) (fun e => by subst e; exact h2 hk.symm)
theorem scr_L {Y Y' : Nat → Nat → Nat} (h : scr Y Y') {a : Nat} (hk : kq a = 1) : Y' a = Y a := scr_k h hk (by decide) (by decide) (by decide)
theorem insA_c {V V' : Nat → Nat → Nat} {a : Nat} (ha : V a = V' a) : ∀ (l : List Nat), (∀ b ∈ l, V b = V' b) → insA V a l = insA V' a l
  | [], _ => rfl
  | e :: l, h => by
    simp only [insA, ha, h e List.mem_cons_self, insA_c ha l (fun b hb => h b (List.mem_cons_of_mem _ hb))]
theorem adA_c {V V' : Nat → Nat → Nat} {a : Nat} (ha : V a = V' a) {l : List Nat} (h : ∀ b ∈ l, V b = V' b) : adA V a l = adA V' a l := by
  unfold adA
  rw [insA_c ha l.reverse (fun b hb => h b (List.mem_reverse.mp hb))]
theorem kW_n {q n : Nat} (h : kW q n) : q ≠ 67 ∧ q ≠ 68 ∧ q ≠ 69 := by
  rcases h with ⟨h, -⟩ | ⟨h, -⟩ <;> refine ⟨fun e => ?_, fun e => ?_, fun e => ?_⟩ <;> (subst e; cases h)
theorem rl_sc {Y Y' : Nat → Nat → Nat} (h : scr Y Y') {r n : Nat} (hr : rl r n) : Y' r = Y r ∧ Y' (r + 1) = Y (r + 1) := by
  have h1 := kW_n hr.2.1
  exact ⟨scr_k h hr.1 (by decide) (by decide) (by decide), h _ h1.1 h1.2.1 h1.2.2⟩
theorem enL_c {Y Y' : Nat → Nat → Nat} (h : scr Y Y') {r n day : Nat} (hr : rl r n) (hw : wR Y r n) {l : List Nat} (hl : lG Y l) : ∀ k, k ≤ Y r 1 → enL Y' r day l k = enL Y r day l k
  | 0, _ => rfl
  | k + 1, hk => by
    have ih := enL_c h (day := day) hr hw hl k (by omega)
    have hG := lG_en (day := day) hr hw hl k (by omega)
    have hn := hw.2.1
    have hkk : kq (Y (r + 1) k) = 1 := rl_k hr hw.1 (by omega)
    have e1 := (rl_sc h hr).2
    have e2 := scr_L h hkk
    simp only [enL, rV, e1, e2, ih]
    rw [adA_c (V := Y') (V' := Y) e2 (fun b hb => scr_L h (hG b hb).1)]
theorem opL_c {Y Y' : Nat → Nat → Nat} (h : scr Y Y') {b : Nat} (hb : sb b) (hw : wS Y b) (day : Nat) : opL Y' b day = opL Y b day := by
  have hG := lG_en (day := day) hb.2.1 hw.1 (l := []) (fun a h => by cases h) (Y (b + 1) 1) (Nat.le_refl _)
  unfold opL
  rw [(rl_sc h hb.2.1).1, (rl_sc h hb.2.2.1).1, enL_c h hb.2.1 hw.1 (l := []) (fun a h => by cases h) _ (Nat.le_refl _), enL_c h hb.2.2.1 hw.2 hG _ (Nat.le_refl _)]
theorem wR_c {Y Y' : Nat → Nat → Nat} (h : scr Y Y') {r n : Nat} (hr : rl r n) (hw : wR Y r n) : wR Y' r n := by
  obtain ⟨e1, e2⟩ := rl_sc h hr
  have hn := hw.2.1
  refine ⟨?_, by rw [e1]; exact hw.2.1, fun i hi => ?_⟩
  · unfold rP; rw [e2]; exact hw.1
  · rw [e1] at hi
    rw [rV, e2, scr_L h (rl_k hr hw.1 (by omega))]
    exact hw.2.2 i hi
theorem wS_c {Y Y' : Nat → Nat → Nat} (h : scr Y Y') {b : Nat} (hb : sb b) (hw : wS Y b) : wS Y' b := ⟨wR_c h hb.2.1 hw.1, wR_c h hb.2.2.1 hw.2⟩
/-- every day can be cleaned, by the class -/
def acC (Y : Nat → Nat → Nat) (c : Nat) : Nat → Nat → Bool
  | 0, _ => true
  | n + 1, day => cbL Y c (opL Y 9 day) (0, fun _ => 0) && acC Y c n (day + 1)
theorem acC_c {Y Y' : Nat → Nat → Nat} (h : scr Y Y') (hw : wS Y 9) (c : Nat) : ∀ n day, acC Y' c n day = acC Y c n day
  | 0, _ => rfl
  | n + 1, day => by
    simp only [acC, acC_c h hw c n (day + 1), opL_c h sb9 hw day]
    rw [cbL_c (V := Y') (V' := Y) _ _ (fun a ha => scr_L h (opL_G sb9 hw a ha).1)]
section DIARY2
variable {M M0 : zM} {Y : Nat → Nat → Nat}
theorem ac1 {c : Nat} (hc : c < 1048576) (F : zP) : ∀ u k (Y : Nat → Nat → Nat), wS Y 9 → k + u = 84 → (∀ Y', scr Y Y' → F (cM M0 Y') none (.inl (some (.int (nI (acC Y c u k).toNat))))) → G mX5_allDaysCanBeCleaned 5 0 0 none 2 [(0, .ref 8), (1, .int (nI c)), (2, .int (nI k))] [] (cM M0 Y) F := by
  intro u
  induction u with
  | zero =>
    intro k Y hw hk hF
    refine g_iload_n dX5_allDaysCanBeCleaned_2 rfl ?_
    refine g_bipush (v := nI 84) dX5_allDaysCanBeCleaned_3 (by decide) ?_
    refine g_icmp_ge_n (tgt := 39) dX5_allDaysCanBeCleaned_5 (by decide) (by omega) (by omega) (fun h1 => ?_) (fun h1 => ?_)
    · refine g_iconst (v := nI 1) dX5_allDaysCanBeCleaned_39 (by decide) ?_
      exact g_ireturn dX5_allDaysCanBeCleaned_40 rfl rfl (hF Y (scr_r Y))
    · omega
  | succ u ih =>
    intro k Y hw hk hF
    refine g_iload_n dX5_allDaysCanBeCleaned_2 rfl ?_
    refine g_bipush (v := nI 84) dX5_allDaysCanBeCleaned_3 (by decide) ?_
    refine g_icmp_ge_n (tgt := 39) dX5_allDaysCanBeCleaned_5 (by decide) (by omega) (by omega) (fun h1 => ?_) (fun h1 => ?_)
    · omega
    refine g_aload_n dX5_allDaysCanBeCleaned_8 rfl ?_
    refine g_get fX5_33 dX5_allDaysCanBeCleaned_9 (cM_H rfl) rfl ?_
    refine g_aload_n dX5_allDaysCanBeCleaned_12 rfl ?_
    refine g_get fX5_10 dX5_allDaysCanBeCleaned_13 (cM_H rfl) rfl ?_
    refine g_iload_n dX5_allDaysCanBeCleaned_16 rfl ?_
    refine g_callV_v (kX0_open sb9 (by omega) hw (day := k) (by omega)) oX0_open pX0_open lX5_233 dX5_allDaysCanBeCleaned_17 rfl (cM_P rfl) rfl rfl rfl (Nat.le_of_ble_eq_true rfl) (Nat.le_of_ble_eq_true rfl) (by decide) (fun M' h' => ?_)
    obtain ⟨A, rfl, hA⟩ := h'
    refine g_aload_n dX5_allDaysCanBeCleaned_20 rfl ?_
    refine g_get fX5_33 dX5_allDaysCanBeCleaned_21 (cM_H rfl) rfl ?_
    refine g_iload_n dX5_allDaysCanBeCleaned_24 rfl ?_
    refine g_callV_i (kX0_canBeCleaned (pL_op sb9 hw hA) hc) oX0_canBeCleaned pX0_canBeCleaned lX5_357 dX5_allDaysCanBeCleaned_25 rfl (cM_P rfl) rfl rfl rfl (Nat.le_of_ble_eq_true rfl) (Nat.le_of_ble_eq_true rfl) (by decide) (fun M' h' => ?_)
    obtain ⟨s, rfl⟩ := h'
    rw [cbL_c (V := plY Y A (opL Y 9 k).length) (V' := Y) _ _ (fun a ha => pl_get (opL_G sb9 hw a ha).1)]
    have hsc := scr_pc Y A (opL Y 9 k).length s.1 s.2
    simp only [acC] at hF
    refine g_if_ne_b (tgt := 33) dX5_allDaysCanBeCleaned_28 (by decide) (fun h2 => ?_) (fun h2 => ?_)
    · rw [h2] at hF
      refine g_iinc_n (c := 1) dX5_allDaysCanBeCleaned_33 rfl (by decide) (by decide) ?_
      refine g_goto (tgt := 2) dX5_allDaysCanBeCleaned_36 (by decide) ?_
      refine g_loc rfl (ih (k + 1) _ (wS_c hsc sb9 hw) (by omega) (fun Y' h' => ?_))
      rw [acC_c hsc hw]
      exact hF Y' (scr_t hsc h')
    · rw [h2] at hF
      refine g_iconst (v := nI 0) dX5_allDaysCanBeCleaned_31 (by decide) ?_
      exact g_ireturn dX5_allDaysCanBeCleaned_32 rfl rfl (hF _ hsc)
theorem kX5_allDaysCanBeCleaned {c : Nat} (hc : c < 1048576) (hw : wS Y 9) : Cn mX5_allDaysCanBeCleaned 5 0 0 none [.ref 8, .int (nI c)] (cM M0 Y) (zi (nI (acC Y c 84 0).toNat) (fun M' => ∃ Y', M' = cM M0 Y' ∧ scr Y Y')) := by
  refine g_iconst (v := nI 0) dX5_allDaysCanBeCleaned_0 (by decide) ?_
  refine g_istore_n dX5_allDaysCanBeCleaned_1 (by decide) ?_
  exact g_loc rfl (ac1 hc _ 84 0 Y hw (by omega) (fun Y' h => ⟨rfl, rfl, Y', rfl, h⟩))
/-- a let is added -/
def msY (Y Z : Nat → Nat → Nat) (A : Nat → Nat) (s : Nat) : Nat → Nat → Nat := uA (uA (uA Z (A s) (Y 70)) 20 (uN (Z 20) 1 (s + 1))) 9 (uN (Z 9) 4 (Z 9 4 + Y 70 6))
theorem kX5_makeSingle (hC : wC Y) (hw : wS Y 9) (hv : vB (Y 70)) (h12 : Y 20 1 < 12) {day : Nat} (hd : day < 84) {g1 g2 : Nat → Bool} (hg1 : g1 = gwG Y 10 70 day (Y 35 0)) (hg2 : g2 = gwG Y 20 70 day (Y 35 0)) {n1 n2 : Nat} (hn1 : n1 = Y 10 1) (hn2 : n2 = Y 20 1) : Cn mX5_makeSingle 4 0 0 none [.ref 8, .int (nI day)] (cM M0 Y) (zi (nI (gN g1 n1 + dN g2 n2 n2)) (fun M' => ∃ A s, M' = cM M0 (msY Y (gwY Y (gZ Y (Y 11) day g1 n1) 9 A s (gR g1 (rV Y 10) n1 + dR g2 (rV Y 20) n2 n2) (gN g1 n1 + dN g2 n2 n2)) A s) ∧ lAt (dL g2 (Y 21) n2 n2) 0 A ∧ s = (dL g2 (Y 21) n2 n2).length ∧ rPA A 20 12)) := by
  have hs1 : Y 10 1 ≤ 8 := hw.1.2.1
  refine g_aload_n dX5_makeSingle_0 rfl ?_
  refine g_get fX5_10 dX5_makeSingle_1 (cM_H rfl) rfl ?_
  refine g_aload_n dX5_makeSingle_4 rfl ?_
  refine g_get fX5_40 dX5_makeSingle_5 (cM_H rfl) rfl ?_
  refine g_iload_n dX5_makeSingle_8 rfl ?_
  refine g_callV_i (kX4_giveWayTo (b := 9) (o := 70) sb9 hw rfl hv (by omega) hd (by show Y 35 0 < 1048576; have := hC.1; omega) hg1 hg2 hn1 hn2) oX4_giveWayTo pX4_giveWayTo lX5_347 dX5_makeSingle_9 rfl (cM_S rfl) rfl rfl rfl (Nat.le_of_ble_eq_true rfl) (Nat.le_of_ble_eq_true rfl) (by decide) (fun M' h' => ?_)
  obtain ⟨A, s, rfl, hA, hs, hP⟩ := h'
  have hlen := dL_len g2 (Y 21) n2 n2
  have hs' : s = (dL g2 (Y 21) n2 n2).length := hs
  generalize hZ : gwY Y (gZ Y (Y (9 + 2)) day g1 n1) 9 A s (gR g1 (rV Y (9 + 1)) n1 + dR g2 (rV Y (9 + 11)) n2 n2) (gN g1 n1 + dN g2 n2 n2) = Z
  have z21 : Z 21 = A := by rw [← hZ]; exact gwY_r _ _ _ _ _ _ _
  have z20 : Z 20 1 = s := by rw [← hZ]; show gwY _ _ 9 _ _ _ _ (9 + 11) 1 = s; rw [gwY_s, uN_s]
  have z70 : Z 70 = Y 70 := by
    rw [← hZ, gwY_o _ _ _ _ _ _ _ (by omega) (by omega) (by omega)]
    exact gZ_far Y _ day g1 n1 (fun i hi e => by
      have h9 : 9 + 3 ≤ Y 11 i ∧ Y 11 i < 9 + 11 := hw.1.1.1 i (by omega)
      have e' : 70 = Y 11 i := e
      omega)
  refine g_istore_n dX5_makeSingle_12 (by decide) ?_
  refine g_aload_n dX5_makeSingle_13 rfl ?_
  refine g_get fX5_10 dX5_makeSingle_14 (cM_H rfl) rfl ?_
  refine g_get fX5_112 dX5_makeSingle_17 (cM_S rfl) rfl ?_
  refine g_aload_n dX5_makeSingle_20 rfl ?_
  refine g_get fX5_40 dX5_makeSingle_21 (cM_H rfl) rfl ?_
  refine g_callV_v (kX3_add (Y := Z) (r := 20) (o := 70) sb9.2.2.1 (by show rPA (Z 21) 20 12; rw [z21]; exact hP) (by rw [z20]; omega) rfl) oX3_add pX3_add lX5_350 dX5_makeSingle_24 rfl (cM_R rfl) rfl rfl rfl (Nat.le_of_ble_eq_true rfl) (Nat.le_of_ble_eq_true rfl) (by decide) (fun M' h' => ?_)
  subst h'
  have hP9 := hP.1 s (by omega)
  have hA70 : A s ≠ 70 := by omega
  have e1 : uA (uA Z (Z (20 + 1) (Z 20 1)) (Z 70)) 20 (uN (Z 20) 1 (Z 20 1 + 1)) = uA (uA Z (A s) (Y 70)) 20 (uN (Z 20) 1 (s + 1)) := by rw [show (20 + 1 : Nat) = 21 from rfl, z21, z20, z70]
  rw [e1]
  have e9 : uA (uA Z (A s) (Y 70)) 20 (uN (Z 20) 1 (s + 1)) 9 = Z 9 := by rw [uA_n _ _ (by omega), uA_n _ _ (by omega)]
  have e70 : uA (uA Z (A s) (Y 70)) 20 (uN (Z 20) 1 (s + 1)) 70 = Y 70 := by rw [uA_n _ _ (by omega), uA_n _ _ (by omega), z70]
  refine g_aload_n dX5_makeSingle_27 rfl ?_
  refine g_get fX5_10 dX5_makeSingle_28 (cM_H rfl) rfl ?_
  refine g_dup dX5_makeSingle_31 rfl ?_
  refine g_get fX5_252 dX5_makeSingle_32 (cM_S rfl) rfl ?_
  refine g_aload_n dX5_makeSingle_35 rfl ?_
  refine g_get fX5_40 dX5_makeSingle_36 (cM_H rfl) rfl ?_
  refine g_get fX5_141 dX5_makeSingle_39 (cM_L rfl) rfl ?_
  refine g_iadd_n dX5_makeSingle_42 ?_
  refine g_cpS fX5_252 dX5_makeSingle_43 rfl (by decide) ?_
  refine g_iload_n dX5_makeSingle_46 rfl ?_
  rw [e9, e70]
  subst hZ
  exact g_ireturn dX5_makeSingle_47 rfl rfl ⟨rfl, rfl, A, s, rfl, hA, hs, hP⟩
end DIARY2
