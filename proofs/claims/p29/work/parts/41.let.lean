/-! the class: lets -/
theorem kI_rates : kI 34 3 := Or.inl ⟨rfl, rfl⟩
theorem kI_set : kI 35 5 := Or.inr (Or.inl ⟨rfl, rfl⟩)
theorem kI_codes : kI 65 60 := Or.inr (Or.inr (Or.inl ⟨rfl, rfl⟩))
theorem kI_num : kI 66 6 := Or.inr (Or.inr (Or.inr (Or.inl ⟨rfl, rfl⟩)))
theorem kI_clean : kI 69 3 := Or.inr (Or.inr (Or.inr (Or.inr ⟨rfl, rfl⟩)))
/-- a let stands on a day; two lets clash; the order of cleaning; a day's share; all by their numbers -/
def vStd (v : Nat → Nat) (day : Nat) : Bool := decide (day % 7 = v 1) && decide (v 9 / 2 ^ (day / 7) % 2 = 1)
def vCl (v w : Nat → Nat) (c : Nat) : Bool := decide (v 0 = w 0) && (decide (v 2 < w 3 + c) && decide (w 2 < v 3 + c))
def vBf (v w : Nat → Nat) : Bool := decide (v 3 < w 3) || (decide (v 3 = w 3) && decide (v 0 < w 0))
def vSh (v : Nat → Nat) (w : Nat) : Nat := if w = 2 then v 6 else if w = 3 then v 3 - v 2 else 1
def bc12 (n : Nat) : Nat := n % 2 + n / 2 % 2 + n / 4 % 2 + n / 8 % 2 + n / 16 % 2 + n / 32 % 2 + n / 64 % 2 + n / 128 % 2 + n / 256 % 2 + n / 512 % 2 + n / 1024 % 2 + n / 2048 % 2
/-- the numbers of a let in range -/
def vB (v : Nat → Nat) : Prop := (∀ j, j < 9 → v j < 1048576) ∧ v 9 < 4096 ∧ v 2 < v 3 ∧ v 0 ≤ 2
def plA (v : Nat → Nat) (h d f t : Nat) : Nat → Nat := uN (uN (uN (uN v 0 h) 1 d) 2 f) 3 t
theorem uA_u (Y : Nat → Nat → Nat) (q : Nat) (f g : Nat → Nat) : uA (uA Y q f) q g = uA Y q g := by
  funext a
  by_cases h : a = q <;> simp [uA, h]
theorem cM_L10 {M0 : zM} {Y : Nat → Nat → Nat} {a : Nat} (ha : kq a = 1) {f g : Nat → Nat} (h : ∀ j, j < 10 → f j = g j) : cM M0 (uA Y a f) = cM M0 (uA Y a g) := by
  rw [← zu_cM ha (by decide), ← zu_cM ha (by decide)]
  have e : lF f = lF g := by
    simp only [lF, h 0 (by omega), h 1 (by omega), h 2 (by omega), h 3 (by omega), h 4 (by omega), h 5 (by omega), h 6 (by omega), h 7 (by omega), h 8 (by omega), h 9 (by omega)]
  show zu _ _ (.inr (1, lF f)) = zu _ _ (.inr (1, lF g))
  rw [e]
section LET
variable {M0 : zM} {Y : Nat → Nat → Nat}
theorem kX1_place {a h d f t : Nat} (ha : kq a = 1) : Cn mX1_place 0 0 0 none [.ref a, .int (nI h), .int (nI d), .int (nI f), .int (nI t)] (cM M0 Y) (zv (fun M' => M' = cM M0 (uA Y a (plA (Y a) h d f t)))) := by
  refine g_aload_n dX1_place_0 rfl ?_
  refine g_iload_n dX1_place_1 rfl ?_
  refine g_cpL fX1_9 dX1_place_2 ha (by decide) ?_
  refine g_aload_n dX1_place_5 rfl ?_
  refine g_iload_n dX1_place_6 rfl ?_
  refine g_cpL fX1_15 dX1_place_7 ha (by decide) ?_
  refine g_aload_n dX1_place_10 rfl ?_
  refine g_iload_n dX1_place_11 rfl ?_
  refine g_cpL fX1_18 dX1_place_12 ha (by decide) ?_
  refine g_aload_n dX1_place_15 rfl ?_
  refine g_iload dX1_place_16 rfl ?_
  refine g_cpL fX1_21 dX1_place_18 ha (by decide) ?_
  refine g_return dX1_place_21 rfl ⟨rfl, rfl, ?_⟩
  simp only [uA_u, uA_s]
  rfl
theorem kX1_become {a o : Nat} (ha : kq a = 1) (ho : kq o = 1) : Cn mX1_become 1 0 0 none [.ref a, .ref o] (cM M0 Y) (zv (fun M' => M' = cM M0 (uA Y a (Y o)))) := by
  refine g_aload_n dX1_become_0 rfl ?_
  refine g_aload_n dX1_become_1 rfl ?_
  refine g_get fX1_9 dX1_become_2 (cM_L ho) rfl ?_
  refine g_aload_n dX1_become_5 rfl ?_
  refine g_get fX1_15 dX1_become_6 (cM_L ho) rfl ?_
  refine g_aload_n dX1_become_9 rfl ?_
  refine g_get fX1_18 dX1_become_10 (cM_L ho) rfl ?_
  refine g_aload_n dX1_become_13 rfl ?_
  refine g_get fX1_21 dX1_become_14 (cM_L ho) rfl ?_
  refine g_callV_v (kX1_place ha) oX1_place pX1_place lX1_24 dX1_become_17 rfl (cM_L ha) rfl rfl rfl (Nat.le_of_ble_eq_true rfl) (Nat.le_of_ble_eq_true rfl) (by decide) (fun M' h' => ?_)
  subst h'
  refine g_aload_n dX1_become_20 rfl ?_
  refine g_aload_n dX1_become_21 rfl ?_
  refine g_get fX1_28 dX1_become_22 (cM_L ho) rfl ?_
  refine g_cpL fX1_28 dX1_become_25 ha (by decide) ?_
  refine g_aload_n dX1_become_28 rfl ?_
  refine g_aload_n dX1_become_29 rfl ?_
  refine g_get fX1_31 dX1_become_30 (cM_L ho) rfl ?_
  refine g_cpL fX1_31 dX1_become_33 ha (by decide) ?_
  refine g_aload_n dX1_become_36 rfl ?_
  refine g_aload_n dX1_become_37 rfl ?_
  refine g_get fX1_34 dX1_become_38 (cM_L ho) rfl ?_
  refine g_cpL fX1_34 dX1_become_41 ha (by decide) ?_
  refine g_aload_n dX1_become_44 rfl ?_
  refine g_aload_n dX1_become_45 rfl ?_
  refine g_get fX1_37 dX1_become_46 (cM_L ho) rfl ?_
  refine g_cpL fX1_37 dX1_become_49 ha (by decide) ?_
  refine g_aload_n dX1_become_52 rfl ?_
  refine g_aload_n dX1_become_53 rfl ?_
  refine g_get fX1_40 dX1_become_54 (cM_L ho) rfl ?_
  refine g_cpL fX1_40 dX1_become_57 ha (by decide) ?_
  refine g_aload_n dX1_become_60 rfl ?_
  refine g_aload_n dX1_become_61 rfl ?_
  refine g_get fX1_43 dX1_become_62 (cM_L ho) rfl ?_
  refine g_cpL fX1_43 dX1_become_65 ha (by decide) ?_
  refine g_return dX1_become_68 rfl ⟨rfl, rfl, ?_⟩
  simp only [uA_u]
  refine cM_L10 ha (fun j hj => ?_)
  by_cases hao : o = a
  · subst hao
    simp only [uA_s]
    rcases (show j = 0 ∨ j = 1 ∨ j = 2 ∨ j = 3 ∨ j = 4 ∨ j = 5 ∨ j = 6 ∨ j = 7 ∨ j = 8 ∨ j = 9 by omega) with rfl | rfl | rfl | rfl | rfl | rfl | rfl | rfl | rfl | rfl <;> rfl
  · simp only [uA_s, uA_n _ _ hao]
    rcases (show j = 0 ∨ j = 1 ∨ j = 2 ∨ j = 3 ∨ j = 4 ∨ j = 5 ∨ j = 6 ∨ j = 7 ∨ j = 8 ∨ j = 9 by omega) with rfl | rfl | rfl | rfl | rfl | rfl | rfl | rfl | rfl | rfl <;> rfl
theorem kX1_standsOn {a day : Nat} (ha : kq a = 1) (hv : vB (Y a)) (hd : day < 84) : Cn mX1_standsOn 0 0 0 none [.ref a, .int (nI day)] (cM M0 Y) (zi (nI (vStd (Y a) day).toNat) (fun M' => M' = cM M0 Y)) := by
  have h1 := hv.1 1 (by omega)
  have h9 := hv.2.1
  refine g_iload_n dX1_standsOn_0 rfl ?_
  refine g_bipush (v := nI 7) dX1_standsOn_1 (by decide) ?_
  refine g_irem_n dX1_standsOn_3 (by omega) (by omega) (by omega) ?_
  refine g_aload_n dX1_standsOn_4 rfl ?_
  refine g_get fX1_15 dX1_standsOn_5 (cM_L ha) rfl ?_
  refine g_icmp_ne_n (tgt := 30) dX1_standsOn_8 (by decide) (by omega) (by omega) (fun h2 => ?_) (fun h2 => ?_)
  · refine g_iconst (v := nI 0) dX1_standsOn_30 (by decide) ?_
    refine g_ireturn dX1_standsOn_31 rfl rfl ⟨rfl, ?_, rfl⟩
    simp [vStd, h2]
  refine g_aload_n dX1_standsOn_11 rfl ?_
  refine g_get fX1_43 dX1_standsOn_12 (cM_L ha) rfl ?_
  refine g_iload_n dX1_standsOn_15 rfl ?_
  refine g_bipush (v := nI 7) dX1_standsOn_16 (by decide) ?_
  refine g_idiv_n dX1_standsOn_18 (by omega) (by omega) (by omega) ?_
  refine g_ishr_n dX1_standsOn_19 (by omega) (by omega) ?_
  refine g_iconst (v := nI 1) dX1_standsOn_20 (by decide) ?_
  refine g_iand1_n dX1_standsOn_21 ?_
  refine g_iconst (v := nI 1) dX1_standsOn_22 (by decide) ?_
  refine g_icmp_ne_n (tgt := 30) dX1_standsOn_23 (by decide) (by omega) (by omega) (fun h3 => ?_) (fun h3 => ?_)
  · refine g_iconst (v := nI 0) dX1_standsOn_30 (by decide) ?_
    refine g_ireturn dX1_standsOn_31 rfl rfl ⟨rfl, ?_, rfl⟩
    simp [vStd, h3]
  · refine g_iconst (v := nI 1) dX1_standsOn_26 (by decide) ?_
    refine g_goto (tgt := 31) dX1_standsOn_27 (by decide) ?_
    refine g_ireturn dX1_standsOn_31 rfl rfl ⟨rfl, ?_, rfl⟩
    simp [vStd, h2, h3]
theorem kX1_clashesWith {a o c : Nat} (ha : kq a = 1) (ho : kq o = 1) (hv : vB (Y a)) (hw : vB (Y o)) (hc : c < 1048576) : Cn mX1_clashesWith 0 0 0 none [.ref a, .ref o, .int (nI c)] (cM M0 Y) (zi (nI (vCl (Y a) (Y o) c).toNat) (fun M' => M' = cM M0 Y)) := by
  have a0 := hv.1 0 (by omega)
  have a2 := hv.1 2 (by omega)
  have a3 := hv.1 3 (by omega)
  have b0 := hw.1 0 (by omega)
  have b2 := hw.1 2 (by omega)
  have b3 := hw.1 3 (by omega)
  refine g_aload_n dX1_clashesWith_0 rfl ?_
  refine g_get fX1_9 dX1_clashesWith_1 (cM_L ha) rfl ?_
  refine g_aload_n dX1_clashesWith_4 rfl ?_
  refine g_get fX1_9 dX1_clashesWith_5 (cM_L ho) rfl ?_
  refine g_icmp_ne_n (tgt := 41) dX1_clashesWith_8 (by decide) (by omega) (by omega) (fun h1 => ?_) (fun h1 => ?_)
  · refine g_iconst (v := nI 0) dX1_clashesWith_41 (by decide) ?_
    refine g_ireturn dX1_clashesWith_42 rfl rfl ⟨rfl, ?_, rfl⟩
    simp [vCl, h1]
  refine g_aload_n dX1_clashesWith_11 rfl ?_
  refine g_get fX1_18 dX1_clashesWith_12 (cM_L ha) rfl ?_
  refine g_aload_n dX1_clashesWith_15 rfl ?_
  refine g_get fX1_21 dX1_clashesWith_16 (cM_L ho) rfl ?_
  refine g_iload_n dX1_clashesWith_19 rfl ?_
  refine g_iadd_n dX1_clashesWith_20 ?_
  refine g_icmp_ge_n (tgt := 41) dX1_clashesWith_21 (by decide) (by omega) (by omega) (fun h2 => ?_) (fun h2 => ?_)
  · refine g_iconst (v := nI 0) dX1_clashesWith_41 (by decide) ?_
    refine g_ireturn dX1_clashesWith_42 rfl rfl ⟨rfl, ?_, rfl⟩
    simp [vCl, Nat.not_lt.mpr h2]
  refine g_aload_n dX1_clashesWith_24 rfl ?_
  refine g_get fX1_18 dX1_clashesWith_25 (cM_L ho) rfl ?_
  refine g_aload_n dX1_clashesWith_28 rfl ?_
  refine g_get fX1_21 dX1_clashesWith_29 (cM_L ha) rfl ?_
  refine g_iload_n dX1_clashesWith_32 rfl ?_
  refine g_iadd_n dX1_clashesWith_33 ?_
  refine g_icmp_ge_n (tgt := 41) dX1_clashesWith_34 (by decide) (by omega) (by omega) (fun h3 => ?_) (fun h3 => ?_)
  · refine g_iconst (v := nI 0) dX1_clashesWith_41 (by decide) ?_
    refine g_ireturn dX1_clashesWith_42 rfl rfl ⟨rfl, ?_, rfl⟩
    simp [vCl, Nat.not_lt.mpr h3]
  · refine g_iconst (v := nI 1) dX1_clashesWith_37 (by decide) ?_
    refine g_goto (tgt := 42) dX1_clashesWith_38 (by decide) ?_
    refine g_ireturn dX1_clashesWith_42 rfl rfl ⟨rfl, ?_, rfl⟩
    simp [vCl, h1, h2, h3]
theorem kX1_isCleanedBefore {a o : Nat} (ha : kq a = 1) (ho : kq o = 1) (hv : vB (Y a)) (hw : vB (Y o)) : Cn mX1_isCleanedBefore 0 0 0 none [.ref a, .ref o] (cM M0 Y) (zi (nI (vBf (Y a) (Y o)).toNat) (fun M' => M' = cM M0 Y)) := by
  have a0 := hv.1 0 (by omega)
  have a3 := hv.1 3 (by omega)
  have b0 := hw.1 0 (by omega)
  have b3 := hw.1 3 (by omega)
  refine g_aload_n dX1_isCleanedBefore_0 rfl ?_
  refine g_get fX1_21 dX1_isCleanedBefore_1 (cM_L ha) rfl ?_
  refine g_aload_n dX1_isCleanedBefore_4 rfl ?_
  refine g_get fX1_21 dX1_isCleanedBefore_5 (cM_L ho) rfl ?_
  refine g_icmp_lt_n (tgt := 33) dX1_isCleanedBefore_8 (by decide) (by omega) (by omega) (fun h1 => ?_) (fun h1 => ?_)
  · refine g_iconst (v := nI 1) dX1_isCleanedBefore_33 (by decide) ?_
    refine g_goto (tgt := 38) dX1_isCleanedBefore_34 (by decide) ?_
    refine g_ireturn dX1_isCleanedBefore_38 rfl rfl ⟨rfl, ?_, rfl⟩
    simp [vBf, h1]
  refine g_aload_n dX1_isCleanedBefore_11 rfl ?_
  refine g_get fX1_21 dX1_isCleanedBefore_12 (cM_L ha) rfl ?_
  refine g_aload_n dX1_isCleanedBefore_15 rfl ?_
  refine g_get fX1_21 dX1_isCleanedBefore_16 (cM_L ho) rfl ?_
  refine g_icmp_ne_n (tgt := 37) dX1_isCleanedBefore_19 (by decide) (by omega) (by omega) (fun h2 => ?_) (fun h2 => ?_)
  · refine g_iconst (v := nI 0) dX1_isCleanedBefore_37 (by decide) ?_
    refine g_ireturn dX1_isCleanedBefore_38 rfl rfl ⟨rfl, ?_, rfl⟩
    simp [vBf, h2, Nat.not_lt.mpr h1]
  refine g_aload_n dX1_isCleanedBefore_22 rfl ?_
  refine g_get fX1_9 dX1_isCleanedBefore_23 (cM_L ha) rfl ?_
  refine g_aload_n dX1_isCleanedBefore_26 rfl ?_
  refine g_get fX1_9 dX1_isCleanedBefore_27 (cM_L ho) rfl ?_
  refine g_icmp_ge_n (tgt := 37) dX1_isCleanedBefore_30 (by decide) (by omega) (by omega) (fun h3 => ?_) (fun h3 => ?_)
  · refine g_iconst (v := nI 0) dX1_isCleanedBefore_37 (by decide) ?_
    refine g_ireturn dX1_isCleanedBefore_38 rfl rfl ⟨rfl, ?_, rfl⟩
    simp [vBf, Nat.not_lt.mpr h1, Nat.not_lt.mpr h3]
  · refine g_iconst (v := nI 1) dX1_isCleanedBefore_33 (by decide) ?_
    refine g_goto (tgt := 38) dX1_isCleanedBefore_34 (by decide) ?_
    refine g_ireturn dX1_isCleanedBefore_38 rfl rfl ⟨rfl, ?_, rfl⟩
    simp [vBf, h2, h3]
theorem kX1_shareOfDay {a w : Nat} (ha : kq a = 1) (hv : vB (Y a)) (hw : w ≤ 3) : Cn mX1_shareOfDay 0 0 0 none [.ref a, .int (nI w)] (cM M0 Y) (zi (nI (vSh (Y a) w)) (fun M' => M' = cM M0 Y)) := by
  have h23 := hv.2.2.1
  rcases (show w = 0 ∨ w = 1 ∨ w = 2 ∨ w = 3 by omega) with rfl | rfl | rfl | rfl
  · refine g_iload_n dX1_shareOfDay_0 rfl ?_
    refine g_lookup (off := 42) (tgt := 43) dX1_shareOfDay_1 (by decide) (by decide) (by decide) ?_
    refine g_iconst (v := nI 1) dX1_shareOfDay_43 (by decide) ?_
    exact g_ireturn dX1_shareOfDay_44 rfl rfl ⟨rfl, rfl, rfl⟩
  · refine g_iload_n dX1_shareOfDay_0 rfl ?_
    refine g_lookup (off := 42) (tgt := 43) dX1_shareOfDay_1 (by decide) (by decide) (by decide) ?_
    refine g_iconst (v := nI 1) dX1_shareOfDay_43 (by decide) ?_
    exact g_ireturn dX1_shareOfDay_44 rfl rfl ⟨rfl, rfl, rfl⟩
  · refine g_iload_n dX1_shareOfDay_0 rfl ?_
    refine g_lookup (off := 27) (tgt := 28) dX1_shareOfDay_1 (by decide) (by decide) (by decide) ?_
    refine g_aload_n dX1_shareOfDay_28 rfl ?_
    refine g_get fX1_34 dX1_shareOfDay_29 (cM_L ha) rfl ?_
    exact g_ireturn dX1_shareOfDay_32 rfl rfl ⟨rfl, rfl, rfl⟩
  · refine g_iload_n dX1_shareOfDay_0 rfl ?_
    refine g_lookup (off := 32) (tgt := 33) dX1_shareOfDay_1 (by decide) (by decide) (by decide) ?_
    refine g_aload_n dX1_shareOfDay_33 rfl ?_
    refine g_get fX1_21 dX1_shareOfDay_34 (cM_L ha) rfl ?_
    refine g_aload_n dX1_shareOfDay_37 rfl ?_
    refine g_get fX1_18 dX1_shareOfDay_38 (cM_L ha) rfl ?_
    refine g_isub_n dX1_shareOfDay_41 (by omega) ?_
    exact g_ireturn dX1_shareOfDay_42 rfl rfl ⟨rfl, rfl, rfl⟩
end LET
