/-! the class: regularOf, singleOf -/
section OFS
variable {M M0 : zM} {Y : Nat → Nat → Nat}
theorem kX5_singleOf1 (v w : Int32) (h : zin v (nI 0) (nI (Y 20 1) - nI 1) = false) : Cn mX5_singleOf 8 1 6 none [.ref 8, .int v, .int w] (cM M0 Y) (zt eB (fun M' => M' = cM M0 Y)) := by
  refine g_aload_n dX5_singleOf_0 rfl ?_
  refine g_get fX5_10 dX5_singleOf_1 (cM_H rfl) rfl ?_
  refine g_get fX5_112 dX5_singleOf_4 (cM_S rfl) rfl ?_
  refine g_iload_n dX5_singleOf_7 rfl ?_
  exact g_callS_t rfl (kX5_needLet1 (r := 20) rfl h) oX5_needLet pX5_needLet lX5_115 dX5_singleOf_8 rfl rfl (Nat.le_of_ble_eq_true rfl) (Nat.le_of_ble_eq_true rfl) (by decide) (by decide) (by decide) (fun M1 h1 => ⟨rfl, rfl, h1⟩)
theorem kX5_singleOf2 (v w : Int32) (h : zin v (nI 0) (nI (Y 20 1) - nI 1) = true) (h2 : zin w (nI 0) (nI 6) = false) : Cn mX5_singleOf 8 1 6 none [.ref 8, .int v, .int w] (cM M0 Y) (zt eA (fun M' => M' = cM M0 Y)) := by
  refine g_aload_n dX5_singleOf_0 rfl ?_
  refine g_get fX5_10 dX5_singleOf_1 (cM_H rfl) rfl ?_
  refine g_get fX5_112 dX5_singleOf_4 (cM_S rfl) rfl ?_
  refine g_iload_n dX5_singleOf_7 rfl ?_
  refine g_callS_v (kX5_needLet (r := 20) rfl h) oX5_needLet pX5_needLet lX5_115 dX5_singleOf_8 rfl rfl (Nat.le_of_ble_eq_true rfl) (Nat.le_of_ble_eq_true rfl) (by decide) (fun M' h' => ?_)
  subst h'
  refine g_iload_n dX5_singleOf_11 rfl ?_
  refine g_iconst (v := nI 0) dX5_singleOf_12 (by decide) ?_
  refine g_bipush (v := nI 6) dX5_singleOf_13 (by decide) ?_
  refine g_callS_i (kX5_isIn w (nI 0) (nI 6)) oX5_isIn pX5_isIn lX5_48 dX5_singleOf_15 rfl rfl (Nat.le_of_ble_eq_true rfl) (Nat.le_of_ble_eq_true rfl) (by decide) (fun M' h' => ?_)
  subst h'
  rw [h2]
  exact g_callS_t rfl (kX5_need1) oX5_need pX5_need lX5_52 dX5_singleOf_18 rfl rfl (Nat.le_of_ble_eq_true rfl) (Nat.le_of_ble_eq_true rfl) (by decide) (by decide) (by decide) (fun M1 h1 => ⟨rfl, rfl, h1⟩)
def soC (Y : Nat → Nat → Nat) (i w : Nat) : Int32 := if w = 1 then fdV (rV Y 20 i) 12 0 else nI (rV Y 20 i w)
theorem kX5_singleOf (hw : wS Y 9) {i w : Nat} (hi : i < Y 20 1) (hw6 : w ≤ 6) (hz : zin (nI i) (nI 0) (nI (Y 20 1) - nI 1) = true) : Cn mX5_singleOf 8 0 0 none [.ref 8, .int (nI i), .int (nI w)] (cM M0 Y) (zi (soC Y i w) (fun M' => M' = cM M0 Y)) := by
  have h12 : Y 20 1 ≤ 12 := hw.2.2.1
  have hk : kq (Y 21 i) = 1 := rl_k sb9.2.2.1 hw.2.1 (by omega)
  have hv : vB (Y (Y 21 i)) := hw.2.2.2 i hi
  refine g_aload_n dX5_singleOf_0 rfl ?_
  refine g_get fX5_10 dX5_singleOf_1 (cM_H rfl) rfl ?_
  refine g_get fX5_112 dX5_singleOf_4 (cM_S rfl) rfl ?_
  refine g_iload_n dX5_singleOf_7 rfl ?_
  refine g_callS_v (kX5_needLet (r := 20) rfl hz) oX5_needLet pX5_needLet lX5_115 dX5_singleOf_8 rfl rfl (Nat.le_of_ble_eq_true rfl) (Nat.le_of_ble_eq_true rfl) (by decide) (fun M' h' => ?_)
  subst h'
  refine g_iload_n dX5_singleOf_11 rfl ?_
  refine g_iconst (v := nI 0) dX5_singleOf_12 (by decide) ?_
  refine g_bipush (v := nI 6) dX5_singleOf_13 (by decide) ?_
  refine g_callS_i (kX5_isIn (nI w) (nI 0) (nI 6)) oX5_isIn pX5_isIn lX5_48 dX5_singleOf_15 rfl rfl (Nat.le_of_ble_eq_true rfl) (Nat.le_of_ble_eq_true rfl) (by decide) (fun M' h' => ?_)
  subst h'
  rw [zin_t (by omega) hw6 (by decide)]
  refine g_callS_v (kX5_need) oX5_need pX5_need lX5_52 dX5_singleOf_18 rfl rfl (Nat.le_of_ble_eq_true rfl) (Nat.le_of_ble_eq_true rfl) (by decide) (fun M' h' => ?_)
  subst h'
  refine g_aload_n dX5_singleOf_21 rfl ?_
  refine g_get fX5_10 dX5_singleOf_22 (cM_H rfl) rfl ?_
  refine g_get fX5_112 dX5_singleOf_25 (cM_S rfl) rfl ?_
  refine g_get fX5_119 dX5_singleOf_28 (cM_R rfl) rfl ?_
  refine g_iload_n dX5_singleOf_31 rfl ?_
  refine g_cwl dX5_singleOf_32 sb9.2.2.1.2.1 (by omega) ?_
  refine g_astore_n dX5_singleOf_33 (by decide) ?_
  refine g_iload_n dX5_singleOf_34 rfl ?_
  refine g_iconst (v := nI 1) dX5_singleOf_35 (by decide) ?_
  refine g_icmp_ne_n (tgt := 46) dX5_singleOf_36 (by decide) (by omega) (by omega) (fun h1 => ?_) (fun h1 => ?_)
  · refine g_aload_n dX5_singleOf_46 rfl ?_
    refine g_iload_n dX5_singleOf_47 rfl ?_
    refine g_callS_i (kX5_commonNumber (a := Y 21 i) hk hw6 h1) oX5_commonNumber pX5_commonNumber lX5_229 dX5_singleOf_48 rfl rfl (Nat.le_of_ble_eq_true rfl) (Nat.le_of_ble_eq_true rfl) (by decide) (fun M' h' => ?_)
    subst h'
    refine g_ireturn dX5_singleOf_51 rfl rfl ⟨rfl, ?_, rfl⟩
    rw [soC, if_neg h1]
    rfl
  · refine g_aload_n dX5_singleOf_39 rfl ?_
    refine g_callV_i (kX1_firstDay (a := Y 21 i) hk hv) oX1_firstDay pX1_firstDay lX5_226 dX5_singleOf_40 rfl (cM_L hk) rfl rfl rfl (Nat.le_of_ble_eq_true rfl) (Nat.le_of_ble_eq_true rfl) (by decide) (fun M' h' => ?_)
    subst h'
    refine g_goto (tgt := 51) dX5_singleOf_43 (by decide) ?_
    refine g_ireturn dX5_singleOf_51 rfl rfl ⟨rfl, ?_, rfl⟩
    rw [soC, if_pos h1]
    rfl
theorem kX5_regularOf1 (v w : Int32) (h : zin v (nI 0) (nI (Y 10 1) - nI 1) = false) : Cn mX5_regularOf 8 1 6 none [.ref 8, .int v, .int w] (cM M0 Y) (zt eB (fun M' => M' = cM M0 Y)) := by
  refine g_aload_n dX5_regularOf_0 rfl ?_
  refine g_get fX5_10 dX5_regularOf_1 (cM_H rfl) rfl ?_
  refine g_get fX5_60 dX5_regularOf_4 (cM_S rfl) rfl ?_
  refine g_iload_n dX5_regularOf_7 rfl ?_
  exact g_callS_t rfl (kX5_needLet1 (r := 10) rfl h) oX5_needLet pX5_needLet lX5_115 dX5_regularOf_8 rfl rfl (Nat.le_of_ble_eq_true rfl) (Nat.le_of_ble_eq_true rfl) (by decide) (by decide) (by decide) (fun M1 h1 => ⟨rfl, rfl, h1⟩)
theorem kX5_regularOf2 (v w : Int32) (h : zin v (nI 0) (nI (Y 10 1) - nI 1) = true) (h2 : zin w (nI 0) (nI 10) = false) : Cn mX5_regularOf 8 1 6 none [.ref 8, .int v, .int w] (cM M0 Y) (zt eA (fun M' => M' = cM M0 Y)) := by
  refine g_aload_n dX5_regularOf_0 rfl ?_
  refine g_get fX5_10 dX5_regularOf_1 (cM_H rfl) rfl ?_
  refine g_get fX5_60 dX5_regularOf_4 (cM_S rfl) rfl ?_
  refine g_iload_n dX5_regularOf_7 rfl ?_
  refine g_callS_v (kX5_needLet (r := 10) rfl h) oX5_needLet pX5_needLet lX5_115 dX5_regularOf_8 rfl rfl (Nat.le_of_ble_eq_true rfl) (Nat.le_of_ble_eq_true rfl) (by decide) (fun M' h' => ?_)
  subst h'
  refine g_iload_n dX5_regularOf_11 rfl ?_
  refine g_iconst (v := nI 0) dX5_regularOf_12 (by decide) ?_
  refine g_bipush (v := nI 10) dX5_regularOf_13 (by decide) ?_
  refine g_callS_i (kX5_isIn w (nI 0) (nI 10)) oX5_isIn pX5_isIn lX5_48 dX5_regularOf_15 rfl rfl (Nat.le_of_ble_eq_true rfl) (Nat.le_of_ble_eq_true rfl) (by decide) (fun M' h' => ?_)
  subst h'
  rw [h2]
  exact g_callS_t rfl (kX5_need1) oX5_need pX5_need lX5_52 dX5_regularOf_18 rfl rfl (Nat.le_of_ble_eq_true rfl) (Nat.le_of_ble_eq_true rfl) (by decide) (by decide) (by decide) (fun M1 h1 => ⟨rfl, rfl, h1⟩)
def roC (Y : Nat → Nat → Nat) (i w : Nat) : Int32 := if w < 9 then nI (rV Y 10 i w) else if w = 9 then nI (bc12 (rV Y 10 i 9)) else fdV (rV Y 10 i) 12 0
theorem kX5_regularOf (hw : wS Y 9) {i w : Nat} (hi : i < Y 10 1) (hw6 : w ≤ 10) (hz : zin (nI i) (nI 0) (nI (Y 10 1) - nI 1) = true) : Cn mX5_regularOf 8 0 0 none [.ref 8, .int (nI i), .int (nI w)] (cM M0 Y) (zi (roC Y i w) (fun M' => M' = cM M0 Y)) := by
  have h12 : Y 10 1 ≤ 8 := hw.1.2.1
  have hk : kq (Y 11 i) = 1 := rl_k sb9.2.1 hw.1.1 (by omega)
  have hv : vB (Y (Y 11 i)) := hw.1.2.2 i hi
  refine g_aload_n dX5_regularOf_0 rfl ?_
  refine g_get fX5_10 dX5_regularOf_1 (cM_H rfl) rfl ?_
  refine g_get fX5_60 dX5_regularOf_4 (cM_S rfl) rfl ?_
  refine g_iload_n dX5_regularOf_7 rfl ?_
  refine g_callS_v (kX5_needLet (r := 10) rfl hz) oX5_needLet pX5_needLet lX5_115 dX5_regularOf_8 rfl rfl (Nat.le_of_ble_eq_true rfl) (Nat.le_of_ble_eq_true rfl) (by decide) (fun M' h' => ?_)
  subst h'
  refine g_iload_n dX5_regularOf_11 rfl ?_
  refine g_iconst (v := nI 0) dX5_regularOf_12 (by decide) ?_
  refine g_bipush (v := nI 10) dX5_regularOf_13 (by decide) ?_
  refine g_callS_i (kX5_isIn (nI w) (nI 0) (nI 10)) oX5_isIn pX5_isIn lX5_48 dX5_regularOf_15 rfl rfl (Nat.le_of_ble_eq_true rfl) (Nat.le_of_ble_eq_true rfl) (by decide) (fun M' h' => ?_)
  subst h'
  rw [zin_t (by omega) hw6 (by decide)]
  refine g_callS_v (kX5_need) oX5_need pX5_need lX5_52 dX5_regularOf_18 rfl rfl (Nat.le_of_ble_eq_true rfl) (Nat.le_of_ble_eq_true rfl) (by decide) (fun M' h' => ?_)
  subst h'
  refine g_aload_n dX5_regularOf_21 rfl ?_
  refine g_get fX5_10 dX5_regularOf_22 (cM_H rfl) rfl ?_
  refine g_get fX5_60 dX5_regularOf_25 (cM_S rfl) rfl ?_
  refine g_get fX5_119 dX5_regularOf_28 (cM_R rfl) rfl ?_
  refine g_iload_n dX5_regularOf_31 rfl ?_
  refine g_cwl dX5_regularOf_32 sb9.2.1.2.1 (by omega) ?_
  refine g_astore_n dX5_regularOf_33 (by decide) ?_
  refine g_iload_n dX5_regularOf_34 rfl ?_
  rcases (show w = 0 ∨ w = 1 ∨ w = 2 ∨ w = 3 ∨ w = 4 ∨ w = 5 ∨ w = 6 ∨ w = 7 ∨ w = 8 ∨ w = 9 ∨ w = 10 by omega) with rfl | rfl | rfl | rfl | rfl | rfl | rfl | rfl | rfl | rfl | rfl
  · refine g_tabOut (x := nI 0) (tgt := 113) dX5_regularOf_35 (by decide) (by decide) ?_
    refine g_aload_n dX5_regularOf_113 rfl ?_
    refine g_iload_n dX5_regularOf_114 rfl ?_
    refine g_callS_i (kX5_commonNumber (a := Y 11 i) (w := 0) hk (by omega) (by omega)) oX5_commonNumber pX5_commonNumber lX5_229 dX5_regularOf_115 rfl rfl (Nat.le_of_ble_eq_true rfl) (Nat.le_of_ble_eq_true rfl) (by decide) (fun M' h' => ?_)
    subst h'
    exact g_ireturn dX5_regularOf_118 rfl rfl ⟨rfl, rfl, rfl⟩
  · refine g_tabIn (x := nI 1) (off := 53) (tgt := 88) dX5_regularOf_35 (by decide) (by decide) (by decide) (by decide) ?_
    refine g_aload_n dX5_regularOf_88 rfl ?_
    refine g_get fX5_217 dX5_regularOf_89 (cM_L hk) rfl ?_
    exact g_ireturn dX5_regularOf_92 rfl rfl ⟨rfl, rfl, rfl⟩
  · refine g_tabIn (x := nI 2) (off := 78) (tgt := 113) dX5_regularOf_35 (by decide) (by decide) (by decide) (by decide) ?_
    refine g_aload_n dX5_regularOf_113 rfl ?_
    refine g_iload_n dX5_regularOf_114 rfl ?_
    refine g_callS_i (kX5_commonNumber (a := Y 11 i) (w := 2) hk (by omega) (by omega)) oX5_commonNumber pX5_commonNumber lX5_229 dX5_regularOf_115 rfl rfl (Nat.le_of_ble_eq_true rfl) (Nat.le_of_ble_eq_true rfl) (by decide) (fun M' h' => ?_)
    subst h'
    exact g_ireturn dX5_regularOf_118 rfl rfl ⟨rfl, rfl, rfl⟩
  · refine g_tabIn (x := nI 3) (off := 78) (tgt := 113) dX5_regularOf_35 (by decide) (by decide) (by decide) (by decide) ?_
    refine g_aload_n dX5_regularOf_113 rfl ?_
    refine g_iload_n dX5_regularOf_114 rfl ?_
    refine g_callS_i (kX5_commonNumber (a := Y 11 i) (w := 3) hk (by omega) (by omega)) oX5_commonNumber pX5_commonNumber lX5_229 dX5_regularOf_115 rfl rfl (Nat.le_of_ble_eq_true rfl) (Nat.le_of_ble_eq_true rfl) (by decide) (fun M' h' => ?_)
    subst h'
    exact g_ireturn dX5_regularOf_118 rfl rfl ⟨rfl, rfl, rfl⟩
  · refine g_tabIn (x := nI 4) (off := 78) (tgt := 113) dX5_regularOf_35 (by decide) (by decide) (by decide) (by decide) ?_
    refine g_aload_n dX5_regularOf_113 rfl ?_
    refine g_iload_n dX5_regularOf_114 rfl ?_
    refine g_callS_i (kX5_commonNumber (a := Y 11 i) (w := 4) hk (by omega) (by omega)) oX5_commonNumber pX5_commonNumber lX5_229 dX5_regularOf_115 rfl rfl (Nat.le_of_ble_eq_true rfl) (Nat.le_of_ble_eq_true rfl) (by decide) (fun M' h' => ?_)
    subst h'
    exact g_ireturn dX5_regularOf_118 rfl rfl ⟨rfl, rfl, rfl⟩
  · refine g_tabIn (x := nI 5) (off := 78) (tgt := 113) dX5_regularOf_35 (by decide) (by decide) (by decide) (by decide) ?_
    refine g_aload_n dX5_regularOf_113 rfl ?_
    refine g_iload_n dX5_regularOf_114 rfl ?_
    refine g_callS_i (kX5_commonNumber (a := Y 11 i) (w := 5) hk (by omega) (by omega)) oX5_commonNumber pX5_commonNumber lX5_229 dX5_regularOf_115 rfl rfl (Nat.le_of_ble_eq_true rfl) (Nat.le_of_ble_eq_true rfl) (by decide) (fun M' h' => ?_)
    subst h'
    exact g_ireturn dX5_regularOf_118 rfl rfl ⟨rfl, rfl, rfl⟩
  · refine g_tabIn (x := nI 6) (off := 78) (tgt := 113) dX5_regularOf_35 (by decide) (by decide) (by decide) (by decide) ?_
    refine g_aload_n dX5_regularOf_113 rfl ?_
    refine g_iload_n dX5_regularOf_114 rfl ?_
    refine g_callS_i (kX5_commonNumber (a := Y 11 i) (w := 6) hk (by omega) (by omega)) oX5_commonNumber pX5_commonNumber lX5_229 dX5_regularOf_115 rfl rfl (Nat.le_of_ble_eq_true rfl) (Nat.le_of_ble_eq_true rfl) (by decide) (fun M' h' => ?_)
    subst h'
    exact g_ireturn dX5_regularOf_118 rfl rfl ⟨rfl, rfl, rfl⟩
  · refine g_tabIn (x := nI 7) (off := 58) (tgt := 93) dX5_regularOf_35 (by decide) (by decide) (by decide) (by decide) ?_
    refine g_aload_n dX5_regularOf_93 rfl ?_
    refine g_get fX5_220 dX5_regularOf_94 (cM_L hk) rfl ?_
    exact g_ireturn dX5_regularOf_97 rfl rfl ⟨rfl, rfl, rfl⟩
  · refine g_tabIn (x := nI 8) (off := 63) (tgt := 98) dX5_regularOf_35 (by decide) (by decide) (by decide) (by decide) ?_
    refine g_aload_n dX5_regularOf_98 rfl ?_
    refine g_get fX5_223 dX5_regularOf_99 (cM_L hk) rfl ?_
    exact g_ireturn dX5_regularOf_102 rfl rfl ⟨rfl, rfl, rfl⟩
  · refine g_tabIn (x := nI 9) (off := 68) (tgt := 103) dX5_regularOf_35 (by decide) (by decide) (by decide) (by decide) ?_
    refine g_aload_n dX5_regularOf_103 rfl ?_
    refine g_callV_i (kX1_daysStanding (a := Y 11 i) hk hv) oX1_daysStanding pX1_daysStanding lX5_93 dX5_regularOf_104 rfl (cM_L hk) rfl rfl rfl (Nat.le_of_ble_eq_true rfl) (Nat.le_of_ble_eq_true rfl) (by decide) (fun M' h' => ?_)
    subst h'
    exact g_ireturn dX5_regularOf_107 rfl rfl ⟨rfl, rfl, rfl⟩
  · refine g_tabIn (x := nI 10) (off := 73) (tgt := 108) dX5_regularOf_35 (by decide) (by decide) (by decide) (by decide) ?_
    refine g_aload_n dX5_regularOf_108 rfl ?_
    refine g_callV_i (kX1_firstDay (a := Y 11 i) hk hv) oX1_firstDay pX1_firstDay lX5_226 dX5_regularOf_109 rfl (cM_L hk) rfl rfl rfl (Nat.le_of_ble_eq_true rfl) (Nat.le_of_ble_eq_true rfl) (by decide) (fun M' h' => ?_)
    subst h'
    exact g_ireturn dX5_regularOf_112 rfl rfl ⟨rfl, rfl, rfl⟩
end OFS
