/-! the class: drafting a regular let; the first free hour -/
def drV (Y : Nat → Nat → Nat) (h wd f t r te m : Nat) : Nat → Nat := mkV h wd f t r te (vRn Y h wd (t - f) (Y 35 1)) (Y 35 3) (Y 35 4) m
def drM (Y : Nat → Nat → Nat) (h wd f t r te : Nat) : Nat → Nat
  | 0 => 0
  | n + 1 => if rsV Y (drV Y h wd f t r te 0) (7 * (Y 35 3 + n) + wd) = 0 then drM Y h wd f t r te n ||| 2 ^ (Y 35 3 + n) else drM Y h wd f t r te n
theorem drM_lt {Y : Nat → Nat → Nat} (hC : wC Y) (h wd f t r te : Nat) : ∀ n, Y 35 3 + n ≤ 12 → drM Y h wd f t r te n < 4096
  | 0, _ => by show 0 < 4096; omega
  | n + 1, hn => by
    have ih := drM_lt hC h wd f t r te n (by omega)
    simp only [drM]
    split
    · exact Nat.or_lt_two_pow (n := 12) ih (Nat.pow_lt_pow_of_lt (by omega) (by omega))
    · exact ih
theorem mkV_m (a0 a1 a2 a3 a4 a5 a6 a7 a8 m n : Nat) : uN (mkV a0 a1 a2 a3 a4 a5 a6 a7 a8 m) 9 n = mkV a0 a1 a2 a3 a4 a5 a6 a7 a8 n := by
  funext j
  match j with
  | 0 => rfl
  | 1 => rfl
  | 2 => rfl
  | 3 => rfl
  | 4 => rfl
  | 5 => rfl
  | 6 => rfl
  | 7 => rfl
  | 8 => rfl
  | 9 => rfl
  | j + 10 => exact uN_n _ _ (by omega)
theorem drV_B {Y : Nat → Nat → Nat} (hC : wC Y) {h wd f t r te m : Nat} (hh : h ≤ 2) (hw : wd ≤ 6) (hft : f < t) (ht : t ≤ 24) (hr : r ≤ 9) (hte : te ≤ 19) (hm : m < 4096) : vB (drV Y h wd f t r te m) := by
  have hrn := vRn_le hC (h := h) (wd := wd) (hrs := t - f) (disc := Y 35 1) hh (by omega)
  have h4 := hC.2.2.2.2.1
  have h3 := hC.2.2.2.1
  refine ⟨fun j hj => ?_, hm, hft, hh⟩
  rcases (show j = 0 ∨ j = 1 ∨ j = 2 ∨ j = 3 ∨ j = 4 ∨ j = 5 ∨ j = 6 ∨ j = 7 ∨ j = 8 by omega) with rfl | rfl | rfl | rfl | rfl | rfl | rfl | rfl | rfl <;> simp only [drV, mkV] <;> omega
section DIARY5
variable {M M0 : zM}
theorem dr1 {Y : Nat → Nat → Nat} (hC : wC Y) (hw : wS Y 9) {h wd f t r te : Nat} (hh : h ≤ 2) (hwd : wd ≤ 6) (hft : f < t) (ht : t ≤ 24) (hr : r ≤ 9) (hte : te ≤ 19) (F : zP) (hF : ∀ Y1, scr (uA Y 70 (drV Y h wd f t r te (drM Y h wd f t r te (Y 35 4 + 1 - Y 35 3)))) Y1 → F (cM M0 Y1) none (.inl none)) : ∀ u n Y1, Y 35 3 + n + u = Y 35 4 + 1 → scr (uA Y 70 (drV Y h wd f t r te (drM Y h wd f t r te n))) Y1 → G mX5_draftRegular 5 0 0 none 105 [(0, .ref 8), (2, .int (nI wd)), (7, .int (nI (Y 35 3 + n)))] [] (cM M0 Y1) F := by
  have h4 := hC.2.2.2.2.1
  have h3 := hC.2.2.2.1
  intro u
  induction u with
  | zero =>
    intro n Y1 hu hs
    have e70 : Y1 70 8 = Y 35 4 := by rw [hs 70 (by omega) (by omega) (by omega), uA_s]; rfl
    refine g_iload dX5_draftRegular_105 rfl ?_
    refine g_aload_n dX5_draftRegular_107 rfl ?_
    refine g_get fX5_40 dX5_draftRegular_108 (cM_H rfl) rfl ?_
    refine g_get fX5_223 dX5_draftRegular_111 (cM_L rfl) rfl ?_
    rw [e70]
    refine g_icmp_gt_n (tgt := 180) dX5_draftRegular_114 (by decide) (by omega) (by omega) (fun h1 => ?_) (fun h1 => ?_)
    · exact g_return dX5_draftRegular_180 rfl (hF Y1 (by rw [show Y 35 4 + 1 - Y 35 3 = n by omega]; exact hs))
    · omega
  | succ u ih =>
    intro n Y1 hu hs
    have e70 : Y1 70 8 = Y 35 4 := by rw [hs 70 (by omega) (by omega) (by omega), uA_s]; rfl
    have hml := drM_lt hC h wd f t r te n (by omega)
    have hd : 7 * (Y 35 3 + n) + wd < 84 := by omega
    obtain ⟨hwd', -⟩ := opL_d hw (drV Y h wd f t r te (drM Y h wd f t r te n)) 0
    have hw1 : wS Y1 9 := wS_c hs sb9 hwd'
    have hv1 : vB (Y1 70) := by rw [hs 70 (by omega) (by omega) (by omega), uA_s]; exact drV_B hC hh hwd hft ht hr hte hml
    have hc1 : Y1 35 0 < 1048576 := by rw [hs 35 (by omega) (by omega) (by omega)]; show Y 35 0 < _; have := hC.1; omega
    refine g_iload dX5_draftRegular_105 rfl ?_
    refine g_aload_n dX5_draftRegular_107 rfl ?_
    refine g_get fX5_40 dX5_draftRegular_108 (cM_H rfl) rfl ?_
    refine g_get fX5_223 dX5_draftRegular_111 (cM_L rfl) rfl ?_
    rw [e70]
    refine g_icmp_gt_n (tgt := 180) dX5_draftRegular_114 (by decide) (by omega) (by omega) (fun h1 => ?_) (fun h1 => ?_)
    · omega
    refine g_aload_n dX5_draftRegular_117 rfl ?_
    refine g_get fX5_33 dX5_draftRegular_118 (cM_H rfl) rfl ?_
    refine g_aload_n dX5_draftRegular_121 rfl ?_
    refine g_get fX5_10 dX5_draftRegular_122 (cM_H rfl) rfl ?_
    refine g_bipush (v := nI 7) dX5_draftRegular_125 (by decide) ?_
    refine g_iload dX5_draftRegular_127 rfl ?_
    refine g_imul_n dX5_draftRegular_129 ?_
    refine g_iload_n dX5_draftRegular_130 rfl ?_
    refine g_iadd_n dX5_draftRegular_131 ?_
    refine g_callV_v (kX0_open sb9 (by omega) hw1 hd) oX0_open pX0_open lX5_233 dX5_draftRegular_132 rfl (cM_P rfl) rfl rfl rfl (Nat.le_of_ble_eq_true rfl) (Nat.le_of_ble_eq_true rfl) (by decide) (fun M' h' => ?_)
    obtain ⟨A, rfl, hA⟩ := h'
    refine g_aload_n dX5_draftRegular_135 rfl ?_
    refine g_get fX5_33 dX5_draftRegular_136 (cM_H rfl) rfl ?_
    refine g_aload_n dX5_draftRegular_139 rfl ?_
    refine g_get fX5_40 dX5_draftRegular_140 (cM_H rfl) rfl ?_
    refine g_aload_n dX5_draftRegular_143 rfl ?_
    refine g_get fX5_10 dX5_draftRegular_144 (cM_H rfl) rfl ?_
    refine g_get fX5_162 dX5_draftRegular_147 (cM_S rfl) rfl ?_
    refine g_iconst (v := nI 0) dX5_draftRegular_150 (by decide) ?_
    refine g_cil dX5_draftRegular_151 kI_set (by omega) ?_
    refine g_callV_i (kX0_reasonAgainst (pL_op sb9 hw1 hA) (c := Y1 35 0) (o := 70) hc1 rfl hv1) oX0_reasonAgainst pX0_reasonAgainst lX5_344 dX5_draftRegular_152 rfl (cM_P rfl) rfl rfl rfl (Nat.le_of_ble_eq_true rfl) (Nat.le_of_ble_eq_true rfl) (by decide) (fun M' h' => ?_)
    obtain ⟨fr, cf, rfl⟩ := h'
    have hE := rsV_e hw hs (u := drV Y h wd f t r te 0) ⟨rfl, rfl, rfl, rfl⟩ (7 * (Y 35 3 + n) + wd) A (opL Y1 9 (7 * (Y 35 3 + n) + wd)).length
    rw [hE]
    have hsc := scr_pc Y1 A (opL Y1 9 (7 * (Y 35 3 + n) + wd)).length fr cf
    have hlt : rsV Y (drV Y h wd f t r te 0) (7 * (Y 35 3 + n) + wd) ≤ 3 := by
      unfold rsV rsC
      cases (opL Y 9 (7 * (Y 35 3 + n) + wd)).any _
      · cases cbW _ _ _ _ _ _ <;> decide
      · show 2 ≤ 3
        decide
    refine g_if_ne_n (tgt := 174) dX5_draftRegular_155 (by decide) (by omega) (fun h2 => ?_) (fun h2 => ?_)
    · refine g_iinc_n (c := 1) dX5_draftRegular_174 rfl (by decide) (by decide) ?_
      refine g_goto (tgt := 105) dX5_draftRegular_177 (by decide) ?_
      have := ih (n + 1) (clY (plY Y1 A (opL Y1 9 (7 * (Y 35 3 + n) + wd)).length) fr cf) (by omega) (by rw [drM, if_neg h2]; exact scr_t hs hsc)
      exact g_loc rfl this
    · generalize hY2 : clY (plY Y1 A (opL Y1 9 (7 * (Y 35 3 + n) + wd)).length) fr cf = Y2 at hsc
      have hs2 := scr_t hs hsc
      have e2 : Y2 70 = drV Y h wd f t r te (drM Y h wd f t r te n) := by rw [hs2 70 (by omega) (by omega) (by omega), uA_s]
      refine g_aload_n dX5_draftRegular_158 rfl ?_
      refine g_get fX5_40 dX5_draftRegular_159 (cM_H rfl) rfl ?_
      refine g_dup dX5_draftRegular_162 rfl ?_
      refine g_get fX5_81 dX5_draftRegular_163 (cM_L rfl) rfl ?_
      refine g_iconst (v := nI 1) dX5_draftRegular_166 (by decide) ?_
      refine g_iload dX5_draftRegular_167 rfl ?_
      refine g_ishl_n dX5_draftRegular_169 (by omega) ?_
      refine g_ior_n dX5_draftRegular_170 ?_
      refine g_cpL fX5_81 dX5_draftRegular_171 rfl (by decide) ?_
      rw [e2]
      refine g_iinc_n (c := 1) dX5_draftRegular_174 rfl (by decide) (by decide) ?_
      refine g_goto (tgt := 105) dX5_draftRegular_177 (by decide) ?_
      have := ih (n + 1) (uA Y2 70 (uN (drV Y h wd f t r te (drM Y h wd f t r te n)) 9 (drM Y h wd f t r te n ||| 2 ^ (Y 35 3 + n)))) (by omega) (by
        rw [drM, if_pos h2]
        intro a a1 a2 a3
        by_cases ha : a = 70
        · subst ha
          rw [uA_s, uA_s]
          exact mkV_m ..
        · rw [uA_n _ _ ha, uA_n _ _ ha, hs2 a a1 a2 a3, uA_n _ _ ha])
      exact g_loc rfl this
theorem kX5_draftRegular {Y : Nat → Nat → Nat} (hC : wC Y) (hw : wS Y 9) {h wd f t r te : Nat} (hh : h ≤ 2) (hwd : wd ≤ 6) (hft : f < t) (ht : t ≤ 24) (hr : r ≤ 9) (hte : te ≤ 19) : Cn mX5_draftRegular 5 0 0 none [.ref 8, .int (nI h), .int (nI wd), .int (nI f), .int (nI t), .int (nI r), .int (nI te)] (cM M0 Y) (zv (fun M' => ∃ Y1, M' = cM M0 Y1 ∧ scr (uA Y 70 (drV Y h wd f t r te (drM Y h wd f t r te (Y 35 4 + 1 - Y 35 3)))) Y1)) := by
  have hC' : ∀ g, wC (uA Y 70 g) := fun g => hC
  refine g_aload_n dX5_draftRegular_0 rfl ?_
  refine g_get fX5_40 dX5_draftRegular_1 (cM_H rfl) rfl ?_
  refine g_iload_n dX5_draftRegular_4 rfl ?_
  refine g_iload_n dX5_draftRegular_5 rfl ?_
  refine g_iload_n dX5_draftRegular_6 rfl ?_
  refine g_iload dX5_draftRegular_7 rfl ?_
  refine g_callV_v (kX1_place (a := 70) rfl) oX1_place pX1_place lX5_338 dX5_draftRegular_9 rfl (cM_L rfl) rfl rfl rfl (Nat.le_of_ble_eq_true rfl) (Nat.le_of_ble_eq_true rfl) (by decide) (fun M' h' => ?_)
  subst h'
  refine g_aload_n dX5_draftRegular_12 rfl ?_
  refine g_get fX5_40 dX5_draftRegular_13 (cM_H rfl) rfl ?_
  refine g_iload dX5_draftRegular_16 rfl ?_
  refine g_cpL fX5_262 dX5_draftRegular_18 rfl (by decide) ?_
  refine g_aload_n dX5_draftRegular_21 rfl ?_
  refine g_get fX5_40 dX5_draftRegular_22 (cM_H rfl) rfl ?_
  refine g_iload dX5_draftRegular_25 rfl ?_
  refine g_cpL fX5_342 dX5_draftRegular_27 rfl (by decide) ?_
  refine g_aload_n dX5_draftRegular_30 rfl ?_
  refine g_get fX5_40 dX5_draftRegular_31 (cM_H rfl) rfl ?_
  refine g_aload_n dX5_draftRegular_34 rfl ?_
  refine g_iload_n dX5_draftRegular_35 rfl ?_
  refine g_iload_n dX5_draftRegular_36 rfl ?_
  refine g_iload dX5_draftRegular_37 rfl ?_
  refine g_iload_n dX5_draftRegular_39 rfl ?_
  refine g_isub_n dX5_draftRegular_40 (by omega) ?_
  refine g_aload_n dX5_draftRegular_41 rfl ?_
  refine g_get fX5_10 dX5_draftRegular_42 (cM_H rfl) rfl ?_
  refine g_get fX5_162 dX5_draftRegular_45 (cM_S rfl) rfl ?_
  refine g_iconst (v := nI 1) dX5_draftRegular_48 (by decide) ?_
  refine g_cil dX5_draftRegular_49 kI_set (by omega) ?_
  simp only [uA_u]
  refine g_callV_i (kX5_rentForDay (hC' _) (h := h) (wd := wd) (hrs := t - f) (disc := Y 35 1) hh hwd (by omega) (by have := hC.2.1; omega)) oX5_rentForDay pX5_rentForDay lX5_258 dX5_draftRegular_50 rfl (cM_H rfl) rfl rfl rfl (Nat.le_of_ble_eq_true rfl) (Nat.le_of_ble_eq_true rfl) (by decide) (fun M' h' => ?_)
  subst h'
  refine g_cpL fX5_141 dX5_draftRegular_53 rfl (by decide) ?_
  refine g_aload_n dX5_draftRegular_56 rfl ?_
  refine g_get fX5_40 dX5_draftRegular_57 (cM_H rfl) rfl ?_
  refine g_aload_n dX5_draftRegular_60 rfl ?_
  refine g_get fX5_10 dX5_draftRegular_61 (cM_H rfl) rfl ?_
  refine g_get fX5_162 dX5_draftRegular_64 (cM_S rfl) rfl ?_
  refine g_iconst (v := nI 3) dX5_draftRegular_67 (by decide) ?_
  refine g_cil dX5_draftRegular_68 kI_set (by omega) ?_
  refine g_cpL fX5_220 dX5_draftRegular_69 rfl (by decide) ?_
  refine g_aload_n dX5_draftRegular_72 rfl ?_
  refine g_get fX5_40 dX5_draftRegular_73 (cM_H rfl) rfl ?_
  refine g_aload_n dX5_draftRegular_76 rfl ?_
  refine g_get fX5_10 dX5_draftRegular_77 (cM_H rfl) rfl ?_
  refine g_get fX5_162 dX5_draftRegular_80 (cM_S rfl) rfl ?_
  refine g_iconst (v := nI 4) dX5_draftRegular_83 (by decide) ?_
  refine g_cil dX5_draftRegular_84 kI_set (by omega) ?_
  refine g_cpL fX5_223 dX5_draftRegular_85 rfl (by decide) ?_
  refine g_aload_n dX5_draftRegular_88 rfl ?_
  refine g_get fX5_40 dX5_draftRegular_89 (cM_H rfl) rfl ?_
  refine g_iconst (v := nI 0) dX5_draftRegular_92 (by decide) ?_
  refine g_cpL fX5_81 dX5_draftRegular_93 rfl (by decide) ?_
  simp only [uA_u]
  refine g_m (M' := cM M0 (uA Y 70 (drV Y h wd f t r te 0))) ?_ ?_
  · refine cM_L10 rfl (fun j hj => ?_)
    rcases (show j = 0 ∨ j = 1 ∨ j = 2 ∨ j = 3 ∨ j = 4 ∨ j = 5 ∨ j = 6 ∨ j = 7 ∨ j = 8 ∨ j = 9 by omega) with rfl | rfl | rfl | rfl | rfl | rfl | rfl | rfl | rfl | rfl <;> rfl
  refine g_aload_n dX5_draftRegular_96 rfl ?_
  refine g_get fX5_40 dX5_draftRegular_97 (cM_H rfl) rfl ?_
  refine g_get fX5_220 dX5_draftRegular_100 (cM_L rfl) rfl ?_
  refine g_istore dX5_draftRegular_103 (by decide) ?_
  have h3 := hC.2.2.2.1
  exact g_loc rfl (dr1 hC hw hh hwd hft ht hr hte _ (fun Y1 hs => ⟨rfl, rfl, Y1, rfl, hs⟩) (Y 35 4 + 1 - Y 35 3) 0 _ (by omega) (scr_r _))
end DIARY5
