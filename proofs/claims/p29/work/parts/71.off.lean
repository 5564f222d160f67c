/-! the class: off -/
def ofY (Y3 : Nat → Nat → Nat) (a day : Nat) : Nat → Nat → Nat := uA (uA Y3 a (uN (Y3 a) 9 (lvW (Y3 a 9) (day / 7)))) 9 (uN (Y3 9) 5 (Y3 9 5 + Y3 a 6))
section OFF
variable {M M0 : zM} {Y : Nat → Nat → Nat}
theorem kX5_off1 (v d : Int32) (h : zin v (nI 0) (nI (Y 10 1) - nI 1) = false) : Cn mX5_off 8 1 6 none [.ref 8, .int v, .int d] (cM M0 Y) (zt eB (fun M' => M' = cM M0 Y)) := by
  refine g_aload_n dX5_off_0 rfl ?_
  refine g_get fX5_10 dX5_off_1 (cM_H rfl) rfl ?_
  refine g_get fX5_60 dX5_off_4 (cM_S rfl) rfl ?_
  refine g_iload_n dX5_off_7 rfl ?_
  exact g_callS_t rfl (kX5_needLet1 (r := 10) rfl h) oX5_needLet pX5_needLet lX5_115 dX5_off_8 rfl rfl (Nat.le_of_ble_eq_true rfl) (Nat.le_of_ble_eq_true rfl) (by decide) (by decide) (by decide) (fun M1 h1 => ⟨rfl, rfl, h1⟩)
theorem kX5_off2 (v d : Int32) (h : zin v (nI 0) (nI (Y 10 1) - nI 1) = true) (h2 : zin d (nI 0) (nI 83) = false) : Cn mX5_off 8 1 6 none [.ref 8, .int v, .int d] (cM M0 Y) (zt eA (fun M' => M' = cM M0 Y)) := by
  refine g_aload_n dX5_off_0 rfl ?_
  refine g_get fX5_10 dX5_off_1 (cM_H rfl) rfl ?_
  refine g_get fX5_60 dX5_off_4 (cM_S rfl) rfl ?_
  refine g_iload_n dX5_off_7 rfl ?_
  refine g_callS_v (kX5_needLet (r := 10) rfl h) oX5_needLet pX5_needLet lX5_115 dX5_off_8 rfl rfl (Nat.le_of_ble_eq_true rfl) (Nat.le_of_ble_eq_true rfl) (by decide) (fun M' h' => ?_)
  subst h'
  refine g_iload_n dX5_off_11 rfl ?_
  exact g_callS_t rfl (kX5_needDay1 h2) oX5_needDay pX5_needDay lX5_97 dX5_off_12 rfl rfl (Nat.le_of_ble_eq_true rfl) (Nat.le_of_ble_eq_true rfl) (by decide) (by decide) (by decide) (fun M1 h1 => ⟨rfl, rfl, h1⟩)
theorem of1 (hw : wS Y 9) {i day kc ks : Nat} (hi : i < Y 10 1) (hz : zin (nI i) (nI 0) (nI (Y 10 1) - nI 1) = true) (hd : day < 84) (F : zP) (hF : G mX5_off 8 kc ks none 33 [(0, .ref 8), (2, .int (nI day)), (3, .ref (Y 11 i))] [.int (nI (vStd (Y (Y 11 i)) day).toNat)] (cM M0 Y) F) : Cn mX5_off 8 kc ks none [.ref 8, .int (nI i), .int (nI day)] (cM M0 Y) F := by
  have h12 : Y 10 1 ≤ 8 := hw.1.2.1
  have hk : kq (Y 11 i) = 1 := rl_k sb9.2.1 hw.1.1 (by omega)
  have hv : vB (Y (Y 11 i)) := hw.1.2.2 i hi
  refine g_aload_n dX5_off_0 rfl ?_
  refine g_get fX5_10 dX5_off_1 (cM_H rfl) rfl ?_
  refine g_get fX5_60 dX5_off_4 (cM_S rfl) rfl ?_
  refine g_iload_n dX5_off_7 rfl ?_
  refine g_callS_v (kX5_needLet (r := 10) rfl hz) oX5_needLet pX5_needLet lX5_115 dX5_off_8 rfl rfl (Nat.le_of_ble_eq_true rfl) (Nat.le_of_ble_eq_true rfl) (by decide) (fun M' h' => ?_)
  subst h'
  refine g_iload_n dX5_off_11 rfl ?_
  refine g_callS_v (kX5_needDay (zin_t (by omega) (by omega) (by decide))) oX5_needDay pX5_needDay lX5_97 dX5_off_12 rfl rfl (Nat.le_of_ble_eq_true rfl) (Nat.le_of_ble_eq_true rfl) (by decide) (fun M' h' => ?_)
  subst h'
  refine g_aload_n dX5_off_15 rfl ?_
  refine g_get fX5_10 dX5_off_16 (cM_H rfl) rfl ?_
  refine g_get fX5_60 dX5_off_19 (cM_S rfl) rfl ?_
  refine g_get fX5_119 dX5_off_22 (cM_R rfl) rfl ?_
  refine g_iload_n dX5_off_25 rfl ?_
  refine g_cwl dX5_off_26 sb9.2.1.2.1 (by omega) ?_
  refine g_astore_n dX5_off_27 (by decide) ?_
  refine g_aload_n dX5_off_28 rfl ?_
  refine g_iload_n dX5_off_29 rfl ?_
  refine g_callV_i (kX1_standsOn (a := Y 11 i) hk hv hd) oX1_standsOn pX1_standsOn lX5_132 dX5_off_30 rfl (cM_L hk) rfl rfl rfl (Nat.le_of_ble_eq_true rfl) (Nat.le_of_ble_eq_true rfl) (by decide) (fun M' h' => ?_)
  subst h'
  exact g_loc rfl hF
theorem kX5_off3 (hw : wS Y 9) {i day : Nat} (hi : i < Y 10 1) (hz : zin (nI i) (nI 0) (nI (Y 10 1) - nI 1) = true) (hd : day < 84) (h : vStd (Y (Y 11 i)) day = false) : Cn mX5_off 8 1 6 none [.ref 8, .int (nI i), .int (nI day)] (cM M0 Y) (zt eS (fun M' => M' = cM M0 Y)) := by
  refine of1 hw hi hz hd _ ?_
  rw [h]
  refine g_if_ne_b (tgt := 46) dX5_off_33 (by decide) (fun h1 => ?_) (fun h1 => ?_)
  · cases h1
  · exact g_throw rfl rfl zTh_ISE (text := "the let does not stand on this day") (is := 136) (by decide) dX5_off_36 dX5_off_39 dX5_off_40 dX5_off_42 dX5_off_45 (by decide) (by decide) (by decide) (by decide) ⟨rfl, rfl, rfl⟩
theorem kX5_off (hw : wS Y 9) (hB : wB Y) (h6 : Y 8 4 ≤ 6) {i day : Nat} (hi : i < Y 10 1) (hz : zin (nI i) (nI 0) (nI (Y 10 1) - nI 1) = true) (hd : day < 84) (h : vStd (Y (Y 11 i)) day = true) : Cn mX5_off 8 0 0 none [.ref 8, .int (nI i), .int (nI day)] (cM M0 Y) (zi (nI (Y (Y 11 i) 6)) (fun M' => ∃ Y3, svRel Y Y3 ∧ M' = cM M0 (ofY Y3 (Y 11 i) day))) := by
  have h12 : Y 10 1 ≤ 8 := hw.1.2.1
  have hk : kq (Y 11 i) = 1 := rl_k sb9.2.1 hw.1.1 (by omega)
  have hp : 12 ≤ Y 11 i ∧ Y 11 i < 20 := hw.1.1.1 i (by omega)
  refine of1 hw hi hz hd _ ?_
  rw [h]
  refine g_if_ne_b (tgt := 46) dX5_off_33 (by decide) (fun h1 => ?_) (fun h1 => ?_)
  rotate_left
  · cases h1
  refine g_aload_n dX5_off_46 rfl ?_
  refine g_callV_v (kX5_saveState hB hw h6) oX5_saveState pX5_saveState lX5_87 dX5_off_47 rfl (cM_H rfl) rfl rfl rfl (Nat.le_of_ble_eq_true rfl) (Nat.le_of_ble_eq_true rfl) (by decide) (fun M' h' => ?_)
  obtain ⟨Y2, rfl, h3⟩ := h'
  have hR : svRel Y (uA Y2 8 (uN (Y2 8) 4 (Y2 8 4 + 1))) := ⟨Y2, rfl, h3⟩
  generalize uA Y2 8 (uN (Y2 8) 4 (Y2 8 4 + 1)) = Y3 at hR
  have ea : Y3 (Y 11 i) = Y (Y 11 i) := svRel_k hR hB h6 (by omega) (by omega) (by omega)
  refine g_aload_n dX5_off_50 rfl ?_
  refine g_iload_n dX5_off_51 rfl ?_
  refine g_callV_v (kX1_leaveOut hk hd) oX1_leaveOut pX1_leaveOut lX5_138 dX5_off_52 rfl (cM_L hk) rfl rfl rfl (Nat.le_of_ble_eq_true rfl) (Nat.le_of_ble_eq_true rfl) (by decide) (fun M' h' => ?_)
  subst h'
  have e9 : uA Y3 (Y 11 i) (uN (Y3 (Y 11 i)) 9 (lvW (Y3 (Y 11 i) 9) (day / 7))) 9 = Y3 9 := uA_n _ _ (by omega)
  have e6 : uA Y3 (Y 11 i) (uN (Y3 (Y 11 i)) 9 (lvW (Y3 (Y 11 i) 9) (day / 7))) (Y 11 i) 6 = Y3 (Y 11 i) 6 := by rw [uA_s, uN_n _ _ (by omega)]
  refine g_aload_n dX5_off_55 rfl ?_
  refine g_get fX5_10 dX5_off_56 (cM_H rfl) rfl ?_
  refine g_dup dX5_off_59 rfl ?_
  refine g_get fX5_126 dX5_off_60 (cM_S rfl) rfl ?_
  refine g_aload_n dX5_off_63 rfl ?_
  refine g_get fX5_141 dX5_off_64 (cM_L hk) rfl ?_
  refine g_iadd_n dX5_off_67 ?_
  refine g_cpS fX5_126 dX5_off_68 rfl (by decide) ?_
  refine g_aload_n dX5_off_71 rfl ?_
  refine g_get fX5_141 dX5_off_72 (cM_L hk) rfl ?_
  rw [e9, e6]
  refine g_ireturn dX5_off_75 rfl rfl ⟨rfl, ?_, Y3, hR, rfl⟩
  rw [uA_n _ _ (show Y 11 i ≠ 9 by omega), e6, ea]
end OFF
