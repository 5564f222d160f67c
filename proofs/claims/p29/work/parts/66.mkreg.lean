/-! the class: making a regular let -/
def gwRel (Y Z : Nat → Nat → Nat) (day : Nat) : Prop := ∃ A s, Z = gwY Y (gZ Y (Y 11) day (gwG Y 10 70 day (Y 35 0)) (Y 10 1)) 9 A s (gR (gwG Y 10 70 day (Y 35 0)) (rV Y 10) (Y 10 1) + dR (gwG Y 20 70 day (Y 35 0)) (rV Y 20) (Y 20 1) (Y 20 1)) (gN (gwG Y 10 70 day (Y 35 0)) (Y 10 1) + dN (gwG Y 20 70 day (Y 35 0)) (Y 20 1) (Y 20 1)) ∧ lAt (dL (gwG Y 20 70 day (Y 35 0)) (Y 21) (Y 20 1) (Y 20 1)) 0 A ∧ s = (dL (gwG Y 20 70 day (Y 35 0)) (Y 21) (Y 20 1) (Y 20 1)).length ∧ rPA A 20 12
theorem gwRel_k {Y Z : Nat → Nat → Nat} {day : Nat} (hw : wS Y 9) (h : gwRel Y Z day) : wS Z 9 ∧ ∀ q, (q < 9 ∨ 34 ≤ q) → Z q = Y q := by
  obtain ⟨A, s, rfl, h1, h2, h3⟩ := h
  exact gw_keep (b := 9) hw rfl rfl h1 h2 h3
/-- the days of the weeks of the draft, one after the other -/
def mrP (Y : Nat → Nat → Nat) : Nat → (Nat → Nat → Nat) → Prop
  | 0, Z => Z = Y
  | n + 1, Z => ∃ Z', mrP Y n Z' ∧ (bif vStd (Y 70) (7 * (Y 70 7 + n) + Y 70 1) then gwRel Z' Z (7 * (Y 70 7 + n) + Y 70 1) else Z = Z')
theorem mrP_k {Y : Nat → Nat → Nat} (hw : wS Y 9) : ∀ n Z, mrP Y n Z → wS Z 9 ∧ ∀ q, (q < 9 ∨ 34 ≤ q) → Z q = Y q
  | 0, Z, h => by
    have h' : Z = Y := h
    subst h'
    exact ⟨hw, fun _ _ => rfl⟩
  | n + 1, Z, h => by
    obtain ⟨Z', h1, h2⟩ := h
    obtain ⟨a1, a2⟩ := mrP_k hw n Z' h1
    cases hb : vStd (Y 70) (7 * (Y 70 7 + n) + Y 70 1)
    · rw [hb] at h2
      have h' : Z = Z' := h2
      subst h'
      exact ⟨a1, a2⟩
    · rw [hb] at h2
      have h' : gwRel Z' Z (7 * (Y 70 7 + n) + Y 70 1) := h2
      obtain ⟨b1, b2⟩ := gwRel_k a1 h'
      exact ⟨b1, fun q hq => (b2 q hq).trans (a2 q hq)⟩
def mrY (Z : Nat → Nat → Nat) : Nat → Nat → Nat := uA (uA (uA Z (Z 11 (Z 10 1)) (Z 70)) 10 (uN (Z 10) 1 (Z 10 1 + 1))) 9 (uN (Z 9) 4 (Z 9 4 + Z 70 6 * bc12 (Z 70 9)))
section MKREG
variable {M M0 : zM}
theorem mk1 {Y : Nat → Nat → Nat} (hC : wC Y) (hw : wS Y 9) (hv : vB (Y 70)) (h7 : Y 70 7 ≤ Y 70 8) (h11 : Y 70 8 ≤ 11) (h6 : Y 70 1 ≤ 6) (F : zP) (hF : ∀ Z, mrP Y (Y 70 8 + 1 - Y 70 7) Z → G mX5_makeRegular 4 0 0 none 62 [(0, .ref 8)] [] (cM M0 Z) F) : ∀ u n Z, Y 70 7 + n + u = Y 70 8 + 1 → mrP Y n Z → G mX5_makeRegular 4 0 0 none 8 [(0, .ref 8), (1, .int (nI (Y 70 7 + n)))] [] (cM M0 Z) F := by
  intro u
  induction u with
  | zero =>
    intro n Z hu hZ
    obtain ⟨k1, k2⟩ := mrP_k hw n Z hZ
    have e70 : Z 70 = Y 70 := k2 70 (by omega)
    refine g_iload_n dX5_makeRegular_8 rfl ?_
    refine g_aload_n dX5_makeRegular_9 rfl ?_
    refine g_get fX5_40 dX5_makeRegular_10 (cM_H rfl) rfl ?_
    refine g_get fX5_223 dX5_makeRegular_13 (cM_L rfl) rfl ?_
    rw [e70]
    refine g_icmp_gt_n (tgt := 62) dX5_makeRegular_16 (by decide) (by omega) (by omega) (fun h1 => ?_) (fun h1 => ?_)
    · exact g_loc rfl (hF Z (by rw [show Y 70 8 + 1 - Y 70 7 = n by omega]; exact hZ))
    · omega
  | succ u ih =>
    intro n Z hu hZ
    obtain ⟨k1, k2⟩ := mrP_k hw n Z hZ
    have e70 : Z 70 = Y 70 := k2 70 (by omega)
    have e35 : Z 35 = Y 35 := k2 35 (by omega)
    refine g_iload_n dX5_makeRegular_8 rfl ?_
    refine g_aload_n dX5_makeRegular_9 rfl ?_
    refine g_get fX5_40 dX5_makeRegular_10 (cM_H rfl) rfl ?_
    refine g_get fX5_223 dX5_makeRegular_13 (cM_L rfl) rfl ?_
    rw [e70]
    refine g_icmp_gt_n (tgt := 62) dX5_makeRegular_16 (by decide) (by omega) (by omega) (fun h1 => ?_) (fun h1 => ?_)
    · omega
    refine g_bipush (v := nI 7) dX5_makeRegular_19 (by decide) ?_
    refine g_iload_n dX5_makeRegular_21 rfl ?_
    refine g_imul_n dX5_makeRegular_22 ?_
    refine g_aload_n dX5_makeRegular_23 rfl ?_
    refine g_get fX5_40 dX5_makeRegular_24 (cM_H rfl) rfl ?_
    refine g_get fX5_217 dX5_makeRegular_27 (cM_L rfl) rfl ?_
    rw [e70]
    refine g_iadd_n dX5_makeRegular_30 ?_
    refine g_istore_n dX5_makeRegular_31 (by decide) ?_
    refine g_aload_n dX5_makeRegular_32 rfl ?_
    refine g_get fX5_40 dX5_makeRegular_33 (cM_H rfl) rfl ?_
    refine g_iload_n dX5_makeRegular_36 rfl ?_
    refine g_callV_i (kX1_standsOn (a := 70) rfl (by rw [e70]; exact hv) (day := 7 * (Y 70 7 + n) + Y 70 1) (by omega)) oX1_standsOn pX1_standsOn lX5_132 dX5_makeRegular_37 rfl (cM_L rfl) rfl rfl rfl (Nat.le_of_ble_eq_true rfl) (Nat.le_of_ble_eq_true rfl) (by decide) (fun M' h' => ?_)
    subst h'
    rw [e70]
    refine g_if_eq_b (tgt := 56) dX5_makeRegular_40 (by decide) (fun h2 => ?_) (fun h2 => ?_)
    · refine g_iinc_n (c := 1) dX5_makeRegular_56 rfl (by decide) (by decide) ?_
      refine g_goto (tgt := 8) dX5_makeRegular_59 (by decide) ?_
      exact g_loc rfl (ih (n + 1) Z (by omega) ⟨Z, hZ, by rw [h2]; rfl⟩)
    · refine g_aload_n dX5_makeRegular_43 rfl ?_
      refine g_get fX5_10 dX5_makeRegular_44 (cM_H rfl) rfl ?_
      refine g_aload_n dX5_makeRegular_47 rfl ?_
      refine g_get fX5_40 dX5_makeRegular_48 (cM_H rfl) rfl ?_
      refine g_iload_n dX5_makeRegular_51 rfl ?_
      refine g_callV_i (kX4_giveWayTo (Y := Z) (b := 9) (o := 70) (day := 7 * (Y 70 7 + n) + Y 70 1) sb9 k1 rfl (by rw [e70]; exact hv) (by omega) (by omega) (by show Z 35 0 < 1048576; rw [e35]; have := hC.1; omega) rfl rfl rfl rfl) oX4_giveWayTo pX4_giveWayTo lX5_347 dX5_makeRegular_52 rfl (cM_S rfl) rfl rfl rfl (Nat.le_of_ble_eq_true rfl) (Nat.le_of_ble_eq_true rfl) (by decide) (fun M' h' => ?_)
      obtain ⟨A, s, rfl, q1, q2, q3⟩ := h'
      refine g_pop dX5_makeRegular_55 rfl ?_
      refine g_iinc_n (c := 1) dX5_makeRegular_56 rfl (by decide) (by decide) ?_
      refine g_goto (tgt := 8) dX5_makeRegular_59 (by decide) ?_
      exact g_loc rfl (ih (n + 1) _ (by omega) ⟨Z, hZ, by rw [h2]; exact ⟨A, s, rfl, q1, q2, q3⟩⟩)
theorem kX5_makeRegular {Y : Nat → Nat → Nat} (hC : wC Y) (hw : wS Y 9) (hv : vB (Y 70)) (h7 : Y 70 7 ≤ Y 70 8) (h11 : Y 70 8 ≤ 11) (h6 : Y 70 1 ≤ 6) (h8 : ∀ Z, mrP Y (Y 70 8 + 1 - Y 70 7) Z → Z 10 1 < 8) : Cn mX5_makeRegular 4 0 0 none [.ref 8] (cM M0 Y) (zv (fun M' => ∃ Z, mrP Y (Y 70 8 + 1 - Y 70 7) Z ∧ M' = cM M0 (mrY Z))) := by
  refine g_aload_n dX5_makeRegular_0 rfl ?_
  refine g_get fX5_40 dX5_makeRegular_1 (cM_H rfl) rfl ?_
  refine g_get fX5_220 dX5_makeRegular_4 (cM_L rfl) rfl ?_
  refine g_istore_n dX5_makeRegular_7 (by decide) ?_
  refine g_loc rfl (mk1 hC hw hv h7 h11 h6 _ (fun Z hZ => ?_) (Y 70 8 + 1 - Y 70 7) 0 Y (by omega) rfl)
  obtain ⟨k1, k2⟩ := mrP_k hw _ Z hZ
  have e70 : Z 70 = Y 70 := k2 70 (by omega)
  have hp := k1.1.1.1 (Z 10 1) (h8 Z hZ)
  have hp2 : 12 ≤ Z 11 (Z 10 1) ∧ Z 11 (Z 10 1) < 20 := hp
  refine g_aload_n dX5_makeRegular_62 rfl ?_
  refine g_get fX5_10 dX5_makeRegular_63 (cM_H rfl) rfl ?_
  refine g_get fX5_60 dX5_makeRegular_66 (cM_S rfl) rfl ?_
  refine g_aload_n dX5_makeRegular_69 rfl ?_
  refine g_get fX5_40 dX5_makeRegular_70 (cM_H rfl) rfl ?_
  refine g_callV_v (kX3_add (Y := Z) (r := 10) (n := 8) (o := 70) sb9.2.1 k1.1.1 (h8 Z hZ) rfl) oX3_add pX3_add lX5_350 dX5_makeRegular_73 rfl (cM_R rfl) rfl rfl rfl (Nat.le_of_ble_eq_true rfl) (Nat.le_of_ble_eq_true rfl) (by decide) (fun M' h' => ?_)
  subst h'
  have a9 : uA (uA Z (Z (10 + 1) (Z 10 1)) (Z 70)) 10 (uN (Z 10) 1 (Z 10 1 + 1)) 9 = Z 9 := by rw [uA_n _ _ (by omega), uA_n _ _ (by show 9 ≠ Z 11 (Z 10 1); omega)]
  have a70 : uA (uA Z (Z (10 + 1) (Z 10 1)) (Z 70)) 10 (uN (Z 10) 1 (Z 10 1 + 1)) 70 = Z 70 := by rw [uA_n _ _ (by omega), uA_n _ _ (by show 70 ≠ Z 11 (Z 10 1); omega)]
  refine g_aload_n dX5_makeRegular_76 rfl ?_
  refine g_get fX5_10 dX5_makeRegular_77 (cM_H rfl) rfl ?_
  refine g_dup dX5_makeRegular_80 rfl ?_
  refine g_get fX5_252 dX5_makeRegular_81 (cM_S rfl) rfl ?_
  refine g_aload_n dX5_makeRegular_84 rfl ?_
  refine g_get fX5_40 dX5_makeRegular_85 (cM_H rfl) rfl ?_
  refine g_callV_i (kX1_rentsInAll (a := 70) rfl (by rw [a70, e70]; exact hv)) oX1_rentsInAll pX1_rentsInAll lX5_123 dX5_makeRegular_88 rfl (cM_L rfl) rfl rfl rfl (Nat.le_of_ble_eq_true rfl) (Nat.le_of_ble_eq_true rfl) (by decide) (fun M' h' => ?_)
  subst h'
  rw [a9, a70]
  refine g_iadd_n dX5_makeRegular_91 ?_
  refine g_cpS fX5_252 dX5_makeRegular_92 rfl (by decide) ?_
  rw [a9]
  exact g_return dX5_makeRegular_95 rfl ⟨rfl, rfl, Z, hZ, rfl⟩
end MKREG
