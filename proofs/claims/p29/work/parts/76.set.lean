/-! the class: set -/
def alS (Y : Nat → Nat → Nat) (w v : Nat) : Bool := if w = 0 then acC Y v 84 0 else if w = 3 then decide (v ≤ Y 35 4) else if w = 4 then decide (Y 35 3 ≤ v) else true
theorem zSt_T (g : zG) (U : State) (h : z_S g U) : va_T .int (g.1 3) 5 (fun j => .int (nI (zSt j))) (z_A g) U U.heap := h.2.1.2.2.2
section SET
variable {M M0 : zM} {Y : Nat → Nat → Nat}
theorem kX5_allowsSetting (hC : wC Y) (hw : wS Y 9) {w v : Nat} (hw4 : w ≤ 4) (hv : v ≤ 100) : Cn mX5_allowsSetting 6 0 0 none [.ref 8, .int (nI w), .int (nI v)] (cM M0 Y) (zi (nI (alS Y w v).toNat) (fun M' => ∃ Y', M' = cM M0 Y' ∧ scr Y Y')) := by
  obtain ⟨c0, c1, c2, c3, c4, c5⟩ := hC
  have c3' : Y (9 + 26) 3 ≤ 11 := by show Y 35 3 ≤ 11; omega
  have c4' : Y (9 + 26) 4 ≤ 11 := c4
  rcases (show w = 0 ∨ w = 1 ∨ w = 2 ∨ w = 3 ∨ w = 4 by omega) with rfl | rfl | rfl | rfl | rfl
  · refine g_iload_n dX5_allowsSetting_0 rfl ?_
    refine g_tabIn (x := nI 0) (off := 35) (tgt := 36) dX5_allowsSetting_1 (by decide) (by decide) (by decide) (by decide) ?_
    refine g_aload_n dX5_allowsSetting_36 rfl ?_
    refine g_iload_n dX5_allowsSetting_37 rfl ?_
    refine g_callV_i (kX5_allDaysCanBeCleaned (c := v) (by omega) hw) oX5_allDaysCanBeCleaned pX5_allDaysCanBeCleaned lX5_354 dX5_allowsSetting_38 rfl (cM_H rfl) rfl rfl rfl (Nat.le_of_ble_eq_true rfl) (Nat.le_of_ble_eq_true rfl) (by decide) (fun M' h' => ?_)
    exact g_ireturn_b dX5_allowsSetting_41 rfl ⟨rfl, rfl, h'⟩
  · refine g_iload_n dX5_allowsSetting_0 rfl ?_
    refine g_tabIn (x := nI 1) (off := 79) (tgt := 80) dX5_allowsSetting_1 (by decide) (by decide) (by decide) (by decide) ?_
    refine g_iconst (v := nI 1) dX5_allowsSetting_80 (by decide) ?_
    exact g_ireturn dX5_allowsSetting_81 rfl rfl ⟨rfl, rfl, Y, rfl, scr_r Y⟩
  · refine g_iload_n dX5_allowsSetting_0 rfl ?_
    refine g_tabIn (x := nI 2) (off := 79) (tgt := 80) dX5_allowsSetting_1 (by decide) (by decide) (by decide) (by decide) ?_
    refine g_iconst (v := nI 1) dX5_allowsSetting_80 (by decide) ?_
    exact g_ireturn dX5_allowsSetting_81 rfl rfl ⟨rfl, rfl, Y, rfl, scr_r Y⟩
  · refine g_iload_n dX5_allowsSetting_0 rfl ?_
    refine g_tabIn (x := nI 3) (off := 41) (tgt := 42) dX5_allowsSetting_1 (by decide) (by decide) (by decide) (by decide) ?_
    refine g_iload_n dX5_allowsSetting_42 rfl ?_
    refine g_aload_n dX5_allowsSetting_43 rfl ?_
    refine g_get fX5_10 dX5_allowsSetting_44 (cM_H rfl) rfl ?_
    refine g_get fX5_162 dX5_allowsSetting_47 (cM_S rfl) rfl ?_
    refine g_iconst (v := nI 4) dX5_allowsSetting_50 (by decide) ?_
    refine g_cil dX5_allowsSetting_51 kI_set (by omega) ?_
    refine g_icmp_gt_n (tgt := 59) dX5_allowsSetting_52 (by decide) (by omega) (by omega) (fun h1 => ?_) (fun h1 => ?_)
    · refine g_iconst (v := nI 0) dX5_allowsSetting_59 (by decide) ?_
      refine g_ireturn dX5_allowsSetting_60 rfl rfl ⟨rfl, ?_, Y, rfl, scr_r Y⟩
      rw [show alS Y 3 v = false by show decide (v ≤ Y 35 4) = false; simp; exact h1]
      rfl
    · refine g_iconst (v := nI 1) dX5_allowsSetting_55 (by decide) ?_
      refine g_goto (tgt := 60) dX5_allowsSetting_56 (by decide) ?_
      refine g_ireturn dX5_allowsSetting_60 rfl rfl ⟨rfl, ?_, Y, rfl, scr_r Y⟩
      rw [show alS Y 3 v = true by show decide (v ≤ Y 35 4) = true; simp; exact h1]
      rfl
  · refine g_iload_n dX5_allowsSetting_0 rfl ?_
    refine g_tabIn (x := nI 4) (off := 60) (tgt := 61) dX5_allowsSetting_1 (by decide) (by decide) (by decide) (by decide) ?_
    refine g_iload_n dX5_allowsSetting_61 rfl ?_
    refine g_aload_n dX5_allowsSetting_62 rfl ?_
    refine g_get fX5_10 dX5_allowsSetting_63 (cM_H rfl) rfl ?_
    refine g_get fX5_162 dX5_allowsSetting_66 (cM_S rfl) rfl ?_
    refine g_iconst (v := nI 3) dX5_allowsSetting_69 (by decide) ?_
    refine g_cil dX5_allowsSetting_70 kI_set (by omega) ?_
    refine g_icmp_lt_n (tgt := 78) dX5_allowsSetting_71 (by decide) (by omega) (by omega) (fun h1 => ?_) (fun h1 => ?_)
    · refine g_iconst (v := nI 0) dX5_allowsSetting_78 (by decide) ?_
      refine g_ireturn dX5_allowsSetting_79 rfl rfl ⟨rfl, ?_, Y, rfl, scr_r Y⟩
      rw [show alS Y 4 v = false by show decide (Y 35 3 ≤ v) = false; simp; exact h1]
      rfl
    · refine g_iconst (v := nI 1) dX5_allowsSetting_74 (by decide) ?_
      refine g_goto (tgt := 79) dX5_allowsSetting_75 (by decide) ?_
      refine g_ireturn dX5_allowsSetting_79 rfl rfl ⟨rfl, ?_, Y, rfl, scr_r Y⟩
      rw [show alS Y 4 v = true by show decide (Y 35 3 ≤ v) = true; simp; exact h1]
      rfl
theorem kX5_set1 (w v : Int32) (h : zin w (nI 0) (nI 4) = false) : Cn mX5_set 8 1 6 none [.ref 8, .int w, .int v] M (zt eB (fun M' => M' = M)) := by
  refine g_iload_n dX5_set_0 rfl ?_
  refine g_iconst (v := nI 0) dX5_set_1 (by decide) ?_
  refine g_iconst (v := nI 4) dX5_set_2 (by decide) ?_
  refine g_callS_i (kX5_isIn w (nI 0) (nI 4)) oX5_isIn pX5_isIn lX5_48 dX5_set_3 rfl rfl (Nat.le_of_ble_eq_true rfl) (Nat.le_of_ble_eq_true rfl) (by decide) (fun M' h' => ?_)
  subst h'
  rw [h]
  refine g_if_ne_b (tgt := 19) dX5_set_6 (by decide) (fun h1 => ?_) (fun h1 => ?_)
  · cases h1
  · exact g_throw rfl rfl zTh_IOB (text := "no such setting") (is := 150) (by decide) dX5_set_9 dX5_set_12 dX5_set_13 dX5_set_15 dX5_set_18 (by decide) (by decide) (by decide) (by decide) ⟨rfl, rfl, rfl⟩
theorem st1 {w : Nat} {v : Int32} (hw4 : w ≤ 4) {kc ks : Nat} (F : zP) (hF : G mX5_set 8 kc ks none 29 [(0, .ref 8), (1, .int (nI w)), (2, .int v)] [.int (nI (zin v (nI 0) (nI (zSt w))).toNat)] M F) : Cn mX5_set 8 kc ks none [.ref 8, .int (nI w), .int v] M F := by
  refine g_iload_n dX5_set_0 rfl ?_
  refine g_iconst (v := nI 0) dX5_set_1 (by decide) ?_
  refine g_iconst (v := nI 4) dX5_set_2 (by decide) ?_
  refine g_callS_i (kX5_isIn (nI w) (nI 0) (nI 4)) oX5_isIn pX5_isIn lX5_48 dX5_set_3 rfl rfl (Nat.le_of_ble_eq_true rfl) (Nat.le_of_ble_eq_true rfl) (by decide) (fun M' h' => ?_)
  subst h'
  rw [zin_t (by omega) hw4 (by decide)]
  refine g_if_ne_b (tgt := 19) dX5_set_6 (by decide) (fun h1 => ?_) (fun h1 => ?_)
  rotate_left
  · cases h1
  refine g_iload_n dX5_set_19 rfl ?_
  refine g_iconst (v := nI 0) dX5_set_20 (by decide) ?_
  refine g_gets (v := .ref 3) (fun g U h => h.2.1.1.2.2) q589 dX5_set_21 ?_
  refine g_iload_n dX5_set_24 rfl ?_
  refine g_tld zSt_T dX5_set_25 (by omega) (by decide) ?_
  refine g_callS_i (kX5_isIn v (nI 0) (nI (zSt w))) oX5_isIn pX5_isIn lX5_48 dX5_set_26 rfl rfl (Nat.le_of_ble_eq_true rfl) (Nat.le_of_ble_eq_true rfl) (by decide) (fun M' h' => ?_)
  subst h'
  exact g_loc rfl hF
theorem kX5_set2 {w : Nat} (v : Int32) (hw4 : w ≤ 4) (h : zin v (nI 0) (nI (zSt w)) = false) : Cn mX5_set 8 1 6 none [.ref 8, .int (nI w), .int v] M (zt eA (fun M' => M' = M)) := by
  refine st1 hw4 _ ?_
  rw [h]
  exact g_callS_t rfl (kX5_need1) oX5_need pX5_need lX5_52 dX5_set_29 rfl rfl (Nat.le_of_ble_eq_true rfl) (Nat.le_of_ble_eq_true rfl) (by decide) (by decide) (by decide) (fun M1 h1 => ⟨rfl, rfl, h1⟩)
theorem zSt_le {w : Nat} : zSt w ≤ 100 := by
  unfold zSt
  rcases w with _ | _ | _ | _ | _ | w <;> simp
theorem st2 (hC : wC Y) (hw : wS Y 9) {w v : Nat} (hw4 : w ≤ 4) (hv : v ≤ zSt w) {kc ks : Nat} (F : zP) (hF : ∀ Y', scr Y Y' → G mX5_set 8 kc ks none 38 [(0, .ref 8), (1, .int (nI w)), (2, .int (nI v))] [.int (nI (alS Y w v).toNat)] (cM M0 Y') F) : Cn mX5_set 8 kc ks none [.ref 8, .int (nI w), .int (nI v)] (cM M0 Y) F := by
  have h100 := zSt_le (w := w)
  refine st1 hw4 _ ?_
  rw [zin_t (by omega) hv (by omega)]
  refine g_callS_v (kX5_need) oX5_need pX5_need lX5_52 dX5_set_29 rfl rfl (Nat.le_of_ble_eq_true rfl) (Nat.le_of_ble_eq_true rfl) (by decide) (fun M' h' => ?_)
  subst h'
  refine g_aload_n dX5_set_32 rfl ?_
  refine g_iload_n dX5_set_33 rfl ?_
  refine g_iload_n dX5_set_34 rfl ?_
  refine g_callV_i (kX5_allowsSetting hC hw hw4 (v := v) (by omega)) oX5_allowsSetting pX5_allowsSetting lX5_156 dX5_set_35 rfl (cM_H rfl) rfl rfl rfl (Nat.le_of_ble_eq_true rfl) (Nat.le_of_ble_eq_true rfl) (by decide) (fun M' h' => ?_)
  obtain ⟨Y', rfl, h2⟩ := h'
  exact g_loc rfl (hF Y' h2)
theorem kX5_set3 (hC : wC Y) (hw : wS Y 9) {w v : Nat} (hw4 : w ≤ 4) (hv : v ≤ zSt w) (h : alS Y w v = false) : Cn mX5_set 8 1 6 none [.ref 8, .int (nI w), .int (nI v)] (cM M0 Y) (zt eS (fun M' => ∃ Y', M' = cM M0 Y' ∧ scr Y Y')) := by
  refine st2 hC hw hw4 hv _ (fun Y' h2 => ?_)
  rw [h]
  refine g_if_ne_b (tgt := 51) dX5_set_38 (by decide) (fun h1 => ?_) (fun h1 => ?_)
  · cases h1
  · exact g_throw rfl rfl zTh_ISE (text := "the diary does not allow this value") (is := 160) (by decide) dX5_set_41 dX5_set_44 dX5_set_45 dX5_set_47 dX5_set_50 (by decide) (by decide) (by decide) (by decide) ⟨rfl, rfl, Y', rfl, h2⟩
theorem kX5_set (hC : wC Y) (hw : wS Y 9) (hB : wB Y) (h6 : Y 8 4 ≤ 6) {w v : Nat} (hw4 : w ≤ 4) (hv : v ≤ zSt w) (h : alS Y w v = true) : Cn mX5_set 8 0 0 none [.ref 8, .int (nI w), .int (nI v)] (cM M0 Y) (zi (nI (Y 35 w)) (fun M' => ∃ Y' Y3, scr Y Y' ∧ svRel Y' Y3 ∧ M' = cM M0 (uA Y3 35 (uN (Y3 35) w v)))) := by
  refine st2 hC hw hw4 hv _ (fun Y' h2 => ?_)
  rw [h]
  have hw1 : wS Y' 9 := wS_c h2 sb9 hw
  have hB1 : wB Y' := wB_same (fun q hq => by rw [h2 q (by omega) (by omega) (by omega)]) hB
  have h61 : Y' 8 4 ≤ 6 := by rw [h2 8 (by omega) (by omega) (by omega)]; exact h6
  refine g_if_ne_b (tgt := 51) dX5_set_38 (by decide) (fun h1 => ?_) (fun h1 => ?_)
  rotate_left
  · cases h1
  refine g_aload_n dX5_set_51 rfl ?_
  refine g_callV_v (kX5_saveState hB1 hw1 h61) oX5_saveState pX5_saveState lX5_87 dX5_set_52 rfl (cM_H rfl) rfl rfl rfl (Nat.le_of_ble_eq_true rfl) (Nat.le_of_ble_eq_true rfl) (by decide) (fun M' h' => ?_)
  obtain ⟨Y2, rfl, h3⟩ := h'
  have hR : svRel Y' (uA Y2 8 (uN (Y2 8) 4 (Y2 8 4 + 1))) := ⟨Y2, rfl, h3⟩
  generalize uA Y2 8 (uN (Y2 8) 4 (Y2 8 4 + 1)) = Y3 at hR
  have e35 : Y3 35 = Y 35 := by rw [svRel_k hR hB1 h61 (by omega) (by omega) (by omega), h2 35 (by omega) (by omega) (by omega)]
  refine g_aload_n dX5_set_55 rfl ?_
  refine g_get fX5_10 dX5_set_56 (cM_H rfl) rfl ?_
  refine g_get fX5_162 dX5_set_59 (cM_S rfl) rfl ?_
  refine g_iload_n dX5_set_62 rfl ?_
  refine g_cil dX5_set_63 kI_set (by omega) ?_
  refine g_istore_n dX5_set_64 (by decide) ?_
  refine g_aload_n dX5_set_65 rfl ?_
  refine g_get fX5_10 dX5_set_66 (cM_H rfl) rfl ?_
  refine g_get fX5_162 dX5_set_69 (cM_S rfl) rfl ?_
  refine g_iload_n dX5_set_72 rfl ?_
  refine g_iload_n dX5_set_73 rfl ?_
  refine g_cia dX5_set_74 kI_set (by omega) ?_
  refine g_iload_n dX5_set_75 rfl ?_
  refine g_ireturn dX5_set_76 rfl rfl ⟨rfl, ?_, Y', Y3, h2, hR, rfl⟩
  rw [show Y3 (9 + 26) w = Y 35 w by show Y3 35 w = Y 35 w; rw [e35]]
end SET
