/-! the class: drafts, reasons, making -/
def mkV (a0 a1 a2 a3 a4 a5 a6 a7 a8 a9 : Nat) : Nat → Nat
  | 0 => a0 | 1 => a1 | 2 => a2 | 3 => a3 | 4 => a4 | 5 => a5 | 6 => a6 | 7 => a7 | 8 => a8 | 9 => a9 | _ => 0
/-- settings and rates of the present state -/
def wC (Y : Nat → Nat → Nat) : Prop := Y 35 0 ≤ 4 ∧ Y 35 1 ≤ 50 ∧ Y 35 2 ≤ 100 ∧ Y 35 3 ≤ Y 35 4 ∧ Y 35 4 ≤ 11 ∧ ∀ h, h < 3 → Y 34 h ≤ 5000
def vRn (Y : Nat → Nat → Nat) (h wd hrs disc : Nat) : Nat := if 4 < wd then hrs * Y 34 h * (100 - disc) / 100 * (100 + Y 35 2) / 100 else hrs * Y 34 h * (100 - disc) / 100
theorem vRn_b {Y : Nat → Nat → Nat} (hC : wC Y) {h hrs disc : Nat} (hh : h ≤ 2) (h3 : hrs ≤ 24) : hrs * Y 34 h * (100 - disc) ≤ 12000000 ∧ hrs * Y 34 h * (100 - disc) / 100 * (100 + Y 35 2) ≤ 24000000 := by
  have h1 := Nat.mul_le_mul h3 (hC.2.2.2.2.2 h (by omega))
  have h2 := Nat.mul_le_mul h1 (show 100 - disc ≤ 100 by omega)
  have h4 : hrs * Y 34 h * (100 - disc) / 100 ≤ 120000 := by omega
  have h5 := Nat.mul_le_mul h4 (show 100 + Y 35 2 ≤ 200 by have := hC.2.2.1; omega)
  omega
theorem vRn_le {Y : Nat → Nat → Nat} (hC : wC Y) {h wd hrs disc : Nat} (hh : h ≤ 2) (h3 : hrs ≤ 24) : vRn Y h wd hrs disc ≤ 240000 := by
  obtain ⟨h1, h2⟩ := vRn_b hC (disc := disc) hh h3
  unfold vRn
  split <;> omega
/-- only the plan's rows have changed -/
def scr (Y Y' : Nat → Nat → Nat) : Prop := ∀ a, a ≠ 67 → a ≠ 68 → a ≠ 69 → Y' a = Y a
theorem scr_pc (Y : Nat → Nat → Nat) (A : Nat → Nat) (n fr : Nat) (cf : Nat → Nat) : scr Y (clY (plY Y A n) fr cf) := fun a h1 h2 h3 => by rw [clY_o _ _ _ h1 h3, plY_o _ _ _ h1 h2]
theorem scr_p (Y : Nat → Nat → Nat) (A : Nat → Nat) (n : Nat) : scr Y (plY Y A n) := fun a h1 h2 h3 => plY_o _ _ _ h1 h2
theorem scr_r (Y : Nat → Nat → Nat) : scr Y Y := fun _ _ _ _ => rfl
theorem scr_t {Y Y1 Y2 : Nat → Nat → Nat} (h : scr Y Y1) (h2 : scr Y1 Y2) : scr Y Y2 := fun a a1 a2 a3 => (h2 a a1 a2 a3).trans (h a a1 a2 a3)
theorem cbW_c {V V' : Nat → Nat → Nat} {c o : Nat} (ho : V o = V' o) : ∀ (l : List Nat) (w : Bool) (s : cZ), (∀ a ∈ l, V a = V' a) → cbW V c o l w s = cbW V' c o l w s
  | [], w, s, _ => by simp only [cbW, ho]
  | a :: l, w, s, h => by
    have h1 := h a List.mem_cons_self
    have ih := fun w s => cbW_c ho l w s (fun b hb => h b (List.mem_cons_of_mem _ hb)) (c := c)
    simp only [cbW, h1, ho, ih]
theorem cbL_c {V V' : Nat → Nat → Nat} {c : Nat} : ∀ (l : List Nat) (s : cZ), (∀ a ∈ l, V a = V' a) → cbL V c l s = cbL V' c l s
  | [], s, _ => rfl
  | a :: l, s, h => by
    have h1 := h a List.mem_cons_self
    have ih := fun s => cbL_c l s (fun b hb => h b (List.mem_cons_of_mem _ hb)) (c := c)
    simp only [cbL, h1, ih]
theorem any_c {V V' : Nat → Nat → Nat} {c o : Nat} (ho : V o = V' o) : ∀ (l : List Nat), (∀ a ∈ l, V a = V' a) → l.any (fun a => decide (V o 4 ≤ V a 4) && vCl (V a) (V o) c) = l.any (fun a => decide (V' o 4 ≤ V' a 4) && vCl (V' a) (V' o) c)
  | [], _ => rfl
  | a :: l, h => by
    have h1 := h a List.mem_cons_self
    have ih := any_c ho l (fun b hb => h b (List.mem_cons_of_mem _ hb)) (c := c)
    rw [List.any_cons, List.any_cons, ih, h1, ho]
theorem rsC_c {V V' : Nat → Nat → Nat} {c o : Nat} {l : List Nat} (ho : V o = V' o) (h : ∀ a ∈ l, V a = V' a) : rsC V c o l = rsC V' c o l := by
  unfold rsC
  rw [any_c ho l h, cbW_c ho l _ _ h]
theorem opL_G {Y : Nat → Nat → Nat} {b day : Nat} (hb : sb b) (hw : wS Y b) : lG Y (opL Y b day) := lG_en hb.2.2.1 hw.2 (lG_en hb.2.1 hw.1 (fun a h => by cases h) _ (Nat.le_refl _)) _ (Nat.le_refl _)
theorem opL_len {Y : Nat → Nat → Nat} {b day : Nat} (hw : wS Y b) : (opL Y b day).length ≤ 20 := by
  have h1 := enL_len Y (b + 1) day [] (Y (b + 1) 1)
  have h2 := enL_len Y (b + 11) day (enL Y (b + 1) day [] (Y (b + 1) 1)) (Y (b + 11) 1)
  have h3 := hw.1.2.1
  have h4 := hw.2.2.1
  simp only [List.length_nil] at h1
  unfold opL
  omega
theorem pL_op {Y : Nat → Nat → Nat} {b day : Nat} (hb : sb b) (hw : wS Y b) {A : Nat → Nat} (hA : lAt (opL Y b day) 0 A) : pL (plY Y A (opL Y b day).length) (opL Y b day) := by
  refine ⟨plY_s _ _ _, by rw [plY_l]; exact hA, fun a ha => ?_, opL_len hw⟩
  have := opL_G hb hw a ha
  exact ⟨this.1, by rw [pl_get this.1]; exact this.2⟩
/-- the reason by the class -/
def rsO (Y : Nat → Nat → Nat) (day : Nat) : Nat := rsC Y (Y 35 0) 70 (opL Y 9 day)
section DIARY1
variable {M M0 : zM} {Y : Nat → Nat → Nat}
theorem kX5_rentForDay (hC : wC Y) {h wd hrs disc : Nat} (hh : h ≤ 2) (hw : wd ≤ 6) (h3 : hrs ≤ 24) (hdi : disc ≤ 100) : Cn mX5_rentForDay 0 0 0 none [.ref 8, .int (nI h), .int (nI wd), .int (nI hrs), .int (nI disc)] (cM M0 Y) (zi (nI (vRn Y h wd hrs disc)) (fun M' => M' = cM M0 Y)) := by
  obtain ⟨b1, b2⟩ := vRn_b hC (disc := disc) hh h3
  refine g_iload_n dX5_rentForDay_0 rfl ?_
  refine g_aload_n dX5_rentForDay_1 rfl ?_
  refine g_get fX5_10 dX5_rentForDay_2 (cM_H rfl) rfl ?_
  refine g_get fX5_144 dX5_rentForDay_5 (cM_S rfl) rfl ?_
  refine g_iload_n dX5_rentForDay_8 rfl ?_
  refine g_cil dX5_rentForDay_9 kI_rates (by omega) ?_
  refine g_imul_n dX5_rentForDay_10 ?_
  refine g_bipush (v := nI 100) dX5_rentForDay_11 (by decide) ?_
  refine g_iload dX5_rentForDay_13 rfl ?_
  refine g_isub_n dX5_rentForDay_15 (by omega) ?_
  refine g_imul_n dX5_rentForDay_16 ?_
  refine g_bipush (v := nI 100) dX5_rentForDay_17 (by decide) ?_
  simp only [Nat.reduceAdd]
  refine g_idiv_n dX5_rentForDay_19 (by omega) (by omega) (by omega) ?_
  refine g_istore dX5_rentForDay_20 (by decide) ?_
  refine g_iload_n dX5_rentForDay_22 rfl ?_
  refine g_iconst (v := nI 5) dX5_rentForDay_23 (by decide) ?_
  refine g_icmp_lt_n (tgt := 48) dX5_rentForDay_24 (by decide) (by omega) (by omega) (fun h1 => ?_) (fun h1 => ?_)
  · refine g_iload dX5_rentForDay_48 rfl ?_
    refine g_ireturn dX5_rentForDay_50 rfl rfl ⟨rfl, ?_, rfl⟩
    rw [vRn, if_neg (by omega)]
  · refine g_iload dX5_rentForDay_27 rfl ?_
    refine g_bipush (v := nI 100) dX5_rentForDay_29 (by decide) ?_
    refine g_aload_n dX5_rentForDay_31 rfl ?_
    refine g_get fX5_10 dX5_rentForDay_32 (cM_H rfl) rfl ?_
    refine g_get fX5_162 dX5_rentForDay_35 (cM_S rfl) rfl ?_
    refine g_iconst (v := nI 2) dX5_rentForDay_38 (by decide) ?_
    refine g_cil dX5_rentForDay_39 kI_set (by omega) ?_
    refine g_iadd_n dX5_rentForDay_40 ?_
    refine g_imul_n dX5_rentForDay_41 ?_
    refine g_bipush (v := nI 100) dX5_rentForDay_42 (by decide) ?_
    simp only [Nat.reduceAdd]
    refine g_idiv_n dX5_rentForDay_44 (by omega) (by omega) (by omega) ?_
    refine g_goto (tgt := 50) dX5_rentForDay_45 (by decide) ?_
    refine g_ireturn dX5_rentForDay_50 rfl rfl ⟨rfl, ?_, rfl⟩
    rw [vRn, if_pos (by omega)]
def dsV (Y : Nat → Nat → Nat) (h day f t r te : Nat) : Nat → Nat := mkV h (day % 7) f t r te (vRn Y h (day % 7) (t - f) 0) (day / 7) (day / 7) (2 ^ (day / 7))
theorem kX5_draftSingle (hC : wC Y) {h day f t r te : Nat} (hh : h ≤ 2) (hd : day < 84) (hft : f < t) (ht : t ≤ 24) : Cn mX5_draftSingle 1 0 0 none [.ref 8, .int (nI h), .int (nI day), .int (nI f), .int (nI t), .int (nI r), .int (nI te)] (cM M0 Y) (zv (fun M' => M' = cM M0 (uA Y 70 (dsV Y h day f t r te)))) := by
  refine g_iload_n dX5_draftSingle_0 rfl ?_
  refine g_bipush (v := nI 7) dX5_draftSingle_1 (by decide) ?_
  refine g_idiv_n dX5_draftSingle_3 (by omega) (by omega) (by omega) ?_
  refine g_istore dX5_draftSingle_4 (by decide) ?_
  refine g_aload_n dX5_draftSingle_6 rfl ?_
  refine g_get fX5_40 dX5_draftSingle_7 (cM_H rfl) rfl ?_
  refine g_iload_n dX5_draftSingle_10 rfl ?_
  refine g_iload_n dX5_draftSingle_11 rfl ?_
  refine g_bipush (v := nI 7) dX5_draftSingle_12 (by decide) ?_
  refine g_irem_n dX5_draftSingle_14 (by omega) (by omega) (by omega) ?_
  refine g_iload_n dX5_draftSingle_15 rfl ?_
  refine g_iload dX5_draftSingle_16 rfl ?_
  refine g_callV_v (kX1_place (a := 70) rfl) oX1_place pX1_place lX5_338 dX5_draftSingle_18 rfl (cM_L rfl) rfl rfl rfl (Nat.le_of_ble_eq_true rfl) (Nat.le_of_ble_eq_true rfl) (by decide) (fun M' h' => ?_)
  subst h'
  have hC' : ∀ g, wC (uA Y 70 g) := fun g => hC
  refine g_aload_n dX5_draftSingle_21 rfl ?_
  refine g_get fX5_40 dX5_draftSingle_22 (cM_H rfl) rfl ?_
  refine g_iload dX5_draftSingle_25 rfl ?_
  refine g_cpL fX5_262 dX5_draftSingle_27 rfl (by decide) ?_
  refine g_aload_n dX5_draftSingle_30 rfl ?_
  refine g_get fX5_40 dX5_draftSingle_31 (cM_H rfl) rfl ?_
  refine g_iload dX5_draftSingle_34 rfl ?_
  refine g_cpL fX5_342 dX5_draftSingle_36 rfl (by decide) ?_
  refine g_aload_n dX5_draftSingle_39 rfl ?_
  refine g_get fX5_40 dX5_draftSingle_40 (cM_H rfl) rfl ?_
  refine g_aload_n dX5_draftSingle_43 rfl ?_
  refine g_iload_n dX5_draftSingle_44 rfl ?_
  refine g_iload_n dX5_draftSingle_45 rfl ?_
  refine g_bipush (v := nI 7) dX5_draftSingle_46 (by decide) ?_
  refine g_irem_n dX5_draftSingle_48 (by omega) (by omega) (by omega) ?_
  refine g_iload dX5_draftSingle_49 rfl ?_
  refine g_iload_n dX5_draftSingle_51 rfl ?_
  refine g_isub_n dX5_draftSingle_52 (by omega) ?_
  refine g_iconst (v := nI 0) dX5_draftSingle_53 (by decide) ?_
  simp only [uA_u]
  refine g_callV_i (kX5_rentForDay (hC' _) (h := h) (wd := day % 7) (hrs := t - f) (disc := 0) hh (by omega) (by omega) (by omega)) oX5_rentForDay pX5_rentForDay lX5_258 dX5_draftSingle_54 rfl (cM_H rfl) rfl rfl rfl (Nat.le_of_ble_eq_true rfl) (Nat.le_of_ble_eq_true rfl) (by decide) (fun M' h' => ?_)
  subst h'
  refine g_cpL fX5_141 dX5_draftSingle_57 rfl (by decide) ?_
  refine g_aload_n dX5_draftSingle_60 rfl ?_
  refine g_get fX5_40 dX5_draftSingle_61 (cM_H rfl) rfl ?_
  refine g_iload dX5_draftSingle_64 rfl ?_
  refine g_cpL fX5_220 dX5_draftSingle_66 rfl (by decide) ?_
  refine g_aload_n dX5_draftSingle_69 rfl ?_
  refine g_get fX5_40 dX5_draftSingle_70 (cM_H rfl) rfl ?_
  refine g_iload dX5_draftSingle_73 rfl ?_
  refine g_cpL fX5_223 dX5_draftSingle_75 rfl (by decide) ?_
  refine g_aload_n dX5_draftSingle_78 rfl ?_
  refine g_get fX5_40 dX5_draftSingle_79 (cM_H rfl) rfl ?_
  refine g_iconst (v := nI 1) dX5_draftSingle_82 (by decide) ?_
  refine g_iload dX5_draftSingle_83 rfl ?_
  refine g_ishl_n dX5_draftSingle_85 (by omega) ?_
  refine g_cpL fX5_81 dX5_draftSingle_86 rfl (by decide) ?_
  refine g_return dX5_draftSingle_89 rfl ⟨rfl, rfl, ?_⟩
  simp only [uA_u, uA_s]
  refine cM_L10 rfl (fun j hj => ?_)
  rcases (show j = 0 ∨ j = 1 ∨ j = 2 ∨ j = 3 ∨ j = 4 ∨ j = 5 ∨ j = 6 ∨ j = 7 ∨ j = 8 ∨ j = 9 by omega) with rfl | rfl | rfl | rfl | rfl | rfl | rfl | rfl | rfl | rfl <;> rfl
theorem kX5_reasonAgainstDraft (hC : wC Y) (hw : wS Y 9) (hv : vB (Y 70)) {day : Nat} (hd : day < 84) : Cn mX5_reasonAgainstDraft 5 0 0 none [.ref 8, .int (nI day)] (cM M0 Y) (zi (nI (if Y 20 1 = 12 then 1 else rsO Y day)) (fun M' => ∃ Y', M' = cM M0 Y' ∧ scr Y Y')) := by
  have h12 : Y 20 1 ≤ 12 := hw.2.2.1
  refine g_aload_n dX5_reasonAgainstDraft_0 rfl ?_
  refine g_get fX5_10 dX5_reasonAgainstDraft_1 (cM_H rfl) rfl ?_
  refine g_get fX5_112 dX5_reasonAgainstDraft_4 (cM_S rfl) rfl ?_
  refine g_callV_i (kX3_isFull (r := 20) sb9.2.2.1 h12) oX3_isFull pX3_isFull lX5_64 dX5_reasonAgainstDraft_7 rfl (cM_R rfl) rfl rfl rfl (Nat.le_of_ble_eq_true rfl) (Nat.le_of_ble_eq_true rfl) (by decide) (fun M' h' => ?_)
  subst h'
  refine g_if_eq_b (tgt := 15) dX5_reasonAgainstDraft_10 (by decide) (fun h1 => ?_) (fun h1 => ?_)
  rotate_left
  · refine g_iconst (v := nI 1) dX5_reasonAgainstDraft_13 (by decide) ?_
    refine g_ireturn dX5_reasonAgainstDraft_14 rfl rfl ⟨rfl, ?_, Y, rfl, scr_r Y⟩
    rw [if_pos (by have := of_decide_eq_true h1; omega)]
  refine g_aload_n dX5_reasonAgainstDraft_15 rfl ?_
  refine g_get fX5_33 dX5_reasonAgainstDraft_16 (cM_H rfl) rfl ?_
  refine g_aload_n dX5_reasonAgainstDraft_19 rfl ?_
  refine g_get fX5_10 dX5_reasonAgainstDraft_20 (cM_H rfl) rfl ?_
  refine g_iload_n dX5_reasonAgainstDraft_23 rfl ?_
  refine g_callV_v (kX0_open sb9 (by omega) hw hd) oX0_open pX0_open lX5_233 dX5_reasonAgainstDraft_24 rfl (cM_P rfl) rfl rfl rfl (Nat.le_of_ble_eq_true rfl) (Nat.le_of_ble_eq_true rfl) (by decide) (fun M' h' => ?_)
  obtain ⟨A, rfl, hA⟩ := h'
  refine g_aload_n dX5_reasonAgainstDraft_27 rfl ?_
  refine g_get fX5_33 dX5_reasonAgainstDraft_28 (cM_H rfl) rfl ?_
  refine g_aload_n dX5_reasonAgainstDraft_31 rfl ?_
  refine g_get fX5_40 dX5_reasonAgainstDraft_32 (cM_H rfl) rfl ?_
  refine g_aload_n dX5_reasonAgainstDraft_35 rfl ?_
  refine g_get fX5_10 dX5_reasonAgainstDraft_36 (cM_H rfl) rfl ?_
  refine g_get fX5_162 dX5_reasonAgainstDraft_39 (cM_S rfl) rfl ?_
  refine g_iconst (v := nI 0) dX5_reasonAgainstDraft_42 (by decide) ?_
  refine g_cil dX5_reasonAgainstDraft_43 kI_set (by omega) ?_
  refine g_callV_i (kX0_reasonAgainst (pL_op sb9 hw hA) (c := Y 35 0) (o := 70) (by have := hC.1; omega) rfl hv) oX0_reasonAgainst pX0_reasonAgainst lX5_344 dX5_reasonAgainstDraft_44 rfl (cM_P rfl) rfl rfl rfl (Nat.le_of_ble_eq_true rfl) (Nat.le_of_ble_eq_true rfl) (by decide) (fun M' h' => ?_)
  obtain ⟨fr, cf, rfl⟩ := h'
  refine g_ireturn dX5_reasonAgainstDraft_47 rfl rfl ⟨rfl, ?_, _, rfl, scr_pc Y A _ fr cf⟩
  rw [if_neg (by have := of_decide_eq_false h1; omega)]
  rw [rsO, rsC_c (V := plY Y A (opL Y 9 day).length) (V' := Y) rfl (fun a ha => pl_get (opL_G sb9 hw a ha).1)]
theorem kX5_commonNumber {a w : Nat} (ha : kq a = 1) (hw : w ≤ 6) (h1 : w ≠ 1) : Cn mX5_commonNumber 0 0 0 none [.ref a, .int (nI w)] (cM M0 Y) (zi (nI (Y a w)) (fun M' => M' = cM M0 Y)) := by
  rcases (show w = 0 ∨ w = 2 ∨ w = 3 ∨ w = 4 ∨ w = 5 ∨ w = 6 by omega) with rfl | rfl | rfl | rfl | rfl | rfl
  · refine g_iload_n dX5_commonNumber_0 rfl ?_
    refine g_tabIn (x := nI 0) (off := 39) (tgt := 40) dX5_commonNumber_1 (by decide) (by decide) (by decide) (by decide) ?_
    refine g_aload_n dX5_commonNumber_40 rfl ?_
    refine g_get fX5_360 dX5_commonNumber_41 (cM_L ha) rfl ?_
    exact g_ireturn dX5_commonNumber_44 rfl rfl ⟨rfl, rfl, rfl⟩
  · refine g_iload_n dX5_commonNumber_0 rfl ?_
    refine g_tabIn (x := nI 2) (off := 44) (tgt := 45) dX5_commonNumber_1 (by decide) (by decide) (by decide) (by decide) ?_
    refine g_aload_n dX5_commonNumber_45 rfl ?_
    refine g_get fX5_363 dX5_commonNumber_46 (cM_L ha) rfl ?_
    exact g_ireturn dX5_commonNumber_49 rfl rfl ⟨rfl, rfl, rfl⟩
  · refine g_iload_n dX5_commonNumber_0 rfl ?_
    refine g_tabIn (x := nI 3) (off := 49) (tgt := 50) dX5_commonNumber_1 (by decide) (by decide) (by decide) (by decide) ?_
    refine g_aload_n dX5_commonNumber_50 rfl ?_
    refine g_get fX5_366 dX5_commonNumber_51 (cM_L ha) rfl ?_
    exact g_ireturn dX5_commonNumber_54 rfl rfl ⟨rfl, rfl, rfl⟩
  · refine g_iload_n dX5_commonNumber_0 rfl ?_
    refine g_tabIn (x := nI 4) (off := 54) (tgt := 55) dX5_commonNumber_1 (by decide) (by decide) (by decide) (by decide) ?_
    refine g_aload_n dX5_commonNumber_55 rfl ?_
    refine g_get fX5_262 dX5_commonNumber_56 (cM_L ha) rfl ?_
    exact g_ireturn dX5_commonNumber_59 rfl rfl ⟨rfl, rfl, rfl⟩
  · refine g_iload_n dX5_commonNumber_0 rfl ?_
    refine g_tabIn (x := nI 5) (off := 59) (tgt := 60) dX5_commonNumber_1 (by decide) (by decide) (by decide) (by decide) ?_
    refine g_aload_n dX5_commonNumber_60 rfl ?_
    refine g_get fX5_342 dX5_commonNumber_61 (cM_L ha) rfl ?_
    exact g_ireturn dX5_commonNumber_64 rfl rfl ⟨rfl, rfl, rfl⟩
  · refine g_iload_n dX5_commonNumber_0 rfl ?_
    refine g_tabOut (x := nI 6) (tgt := 65) dX5_commonNumber_1 (by decide) (by decide) ?_
    refine g_aload_n dX5_commonNumber_65 rfl ?_
    refine g_get fX5_141 dX5_commonNumber_66 (cM_L ha) rfl ?_
    exact g_ireturn dX5_commonNumber_69 rfl rfl ⟨rfl, rfl, rfl⟩
end DIARY1
