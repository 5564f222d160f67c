/-! the class: count, refusal -/
def cntC (Y : Nat → Nat → Nat) (w : Nat) : Nat := if w = 0 then Y 10 1 else if w = 1 then Y 20 1 else if w = 2 then sfT Y (-1) 1 else if w = 3 then sfT Y (-1) 2 else if w = 4 then Y 9 4 else if w = 5 then Y 9 5 else if w = 6 then Y 9 6 else if w = 12 then Y 8 4 else Y 35 (w - 7)
section COUNT
variable {M M0 : zM} {Y : Nat → Nat → Nat}
theorem kX5_count1 (v : Int32) (h : zin v (nI 0) (nI 12) = false) : Cn mX5_count 8 1 6 none [.ref 8, .int v] M (zt eA (fun M' => M' = M)) := by
  refine g_iload_n dX5_count_0 rfl ?_
  refine g_iconst (v := nI 0) dX5_count_1 (by decide) ?_
  refine g_bipush (v := nI 12) dX5_count_2 (by decide) ?_
  refine g_callS_i (kX5_isIn v (nI 0) (nI 12)) oX5_isIn pX5_isIn lX5_48 dX5_count_4 rfl rfl (Nat.le_of_ble_eq_true rfl) (Nat.le_of_ble_eq_true rfl) (by decide) (fun M' h' => ?_)
  subst h'
  rw [h]
  exact g_callS_t rfl (kX5_need1) oX5_need pX5_need lX5_52 dX5_count_7 rfl rfl (Nat.le_of_ble_eq_true rfl) (Nat.le_of_ble_eq_true rfl) (by decide) (by decide) (by decide) (fun M1 h1 => ⟨rfl, rfl, h1⟩)
theorem kX5_count (hw : wS Y 9) {w : Nat} (h : w ≤ 12) : Cn mX5_count 8 0 0 none [.ref 8, .int (nI w)] (cM M0 Y) (zi (nI (cntC Y w)) (fun M' => M' = cM M0 Y)) := by
  refine g_iload_n dX5_count_0 rfl ?_
  refine g_iconst (v := nI 0) dX5_count_1 (by decide) ?_
  refine g_bipush (v := nI 12) dX5_count_2 (by decide) ?_
  refine g_callS_i (kX5_isIn (nI w) (nI 0) (nI 12)) oX5_isIn pX5_isIn lX5_48 dX5_count_4 rfl rfl (Nat.le_of_ble_eq_true rfl) (Nat.le_of_ble_eq_true rfl) (by decide) (fun M' h' => ?_)
  subst h'
  rw [zin_t (by omega) h (by decide)]
  refine g_callS_v (kX5_need) oX5_need pX5_need lX5_52 dX5_count_7 rfl rfl (Nat.le_of_ble_eq_true rfl) (Nat.le_of_ble_eq_true rfl) (by decide) (fun M' h' => ?_)
  subst h'
  rcases (show w = 0 ∨ w = 1 ∨ w = 2 ∨ w = 3 ∨ w = 4 ∨ w = 5 ∨ w = 6 ∨ w = 7 ∨ w = 8 ∨ w = 9 ∨ w = 10 ∨ w = 11 ∨ w = 12 by omega) with rfl | rfl | rfl | rfl | rfl | rfl | rfl | rfl | rfl | rfl | rfl | rfl | rfl
  · refine g_iload_n dX5_count_10 rfl ?_
    refine g_tabIn (x := nI 0) (off := 65) (tgt := 76) dX5_count_11 (by decide) (by decide) (by decide) (by decide) ?_
    refine g_aload_n dX5_count_76 rfl ?_
    refine g_get fX5_10 dX5_count_77 (cM_H rfl) rfl ?_
    refine g_get fX5_60 dX5_count_80 (cM_S rfl) rfl ?_
    refine g_get fX5_212 dX5_count_83 (cM_R rfl) rfl ?_
    exact g_ireturn dX5_count_86 rfl rfl ⟨rfl, rfl, rfl⟩
  · refine g_iload_n dX5_count_10 rfl ?_
    refine g_tabIn (x := nI 1) (off := 76) (tgt := 87) dX5_count_11 (by decide) (by decide) (by decide) (by decide) ?_
    refine g_aload_n dX5_count_87 rfl ?_
    refine g_get fX5_10 dX5_count_88 (cM_H rfl) rfl ?_
    refine g_get fX5_112 dX5_count_91 (cM_S rfl) rfl ?_
    refine g_get fX5_212 dX5_count_94 (cM_R rfl) rfl ?_
    exact g_ireturn dX5_count_97 rfl rfl ⟨rfl, rfl, rfl⟩
  · refine g_iload_n dX5_count_10 rfl ?_
    refine g_tabIn (x := nI 2) (off := 87) (tgt := 98) dX5_count_11 (by decide) (by decide) (by decide) (by decide) ?_
    refine g_aload_n dX5_count_98 rfl ?_
    refine g_get fX5_10 dX5_count_99 (cM_H rfl) rfl ?_
    refine g_iconst (v := (-1)) dX5_count_102 (by decide) ?_
    refine g_iconst (v := nI 1) dX5_count_103 (by decide) ?_
    refine g_callV_i (kX4_sumFor (te := -1) (w := 1) sb9 hw (by omega)) oX4_sumFor pX4_sumFor lX5_249 dX5_count_104 rfl (cM_S rfl) rfl rfl rfl (Nat.le_of_ble_eq_true rfl) (Nat.le_of_ble_eq_true rfl) (by decide) (fun M' h' => ?_)
    subst h'
    exact g_ireturn dX5_count_107 rfl rfl ⟨rfl, rfl, rfl⟩
  · refine g_iload_n dX5_count_10 rfl ?_
    refine g_tabIn (x := nI 3) (off := 97) (tgt := 108) dX5_count_11 (by decide) (by decide) (by decide) (by decide) ?_
    refine g_aload_n dX5_count_108 rfl ?_
    refine g_get fX5_10 dX5_count_109 (cM_H rfl) rfl ?_
    refine g_iconst (v := (-1)) dX5_count_112 (by decide) ?_
    refine g_iconst (v := nI 2) dX5_count_113 (by decide) ?_
    refine g_callV_i (kX4_sumFor (te := -1) (w := 2) sb9 hw (by omega)) oX4_sumFor pX4_sumFor lX5_249 dX5_count_114 rfl (cM_S rfl) rfl rfl rfl (Nat.le_of_ble_eq_true rfl) (Nat.le_of_ble_eq_true rfl) (by decide) (fun M' h' => ?_)
    subst h'
    exact g_ireturn dX5_count_117 rfl rfl ⟨rfl, rfl, rfl⟩
  · refine g_iload_n dX5_count_10 rfl ?_
    refine g_tabIn (x := nI 4) (off := 107) (tgt := 118) dX5_count_11 (by decide) (by decide) (by decide) (by decide) ?_
    refine g_aload_n dX5_count_118 rfl ?_
    refine g_get fX5_10 dX5_count_119 (cM_H rfl) rfl ?_
    refine g_get fX5_252 dX5_count_122 (cM_S rfl) rfl ?_
    exact g_ireturn dX5_count_125 rfl rfl ⟨rfl, rfl, rfl⟩
  · refine g_iload_n dX5_count_10 rfl ?_
    refine g_tabIn (x := nI 5) (off := 115) (tgt := 126) dX5_count_11 (by decide) (by decide) (by decide) (by decide) ?_
    refine g_aload_n dX5_count_126 rfl ?_
    refine g_get fX5_10 dX5_count_127 (cM_H rfl) rfl ?_
    refine g_get fX5_126 dX5_count_130 (cM_S rfl) rfl ?_
    exact g_ireturn dX5_count_133 rfl rfl ⟨rfl, rfl, rfl⟩
  · refine g_iload_n dX5_count_10 rfl ?_
    refine g_tabIn (x := nI 6) (off := 123) (tgt := 134) dX5_count_11 (by decide) (by decide) (by decide) (by decide) ?_
    refine g_aload_n dX5_count_134 rfl ?_
    refine g_get fX5_10 dX5_count_135 (cM_H rfl) rfl ?_
    refine g_get fX5_255 dX5_count_138 (cM_S rfl) rfl ?_
    exact g_ireturn dX5_count_141 rfl rfl ⟨rfl, rfl, rfl⟩
  · refine g_iload_n dX5_count_10 rfl ?_
    refine g_tabIn (x := nI 7) (off := 136) (tgt := 147) dX5_count_11 (by decide) (by decide) (by decide) (by decide) ?_
    refine g_aload_n dX5_count_147 rfl ?_
    refine g_get fX5_10 dX5_count_148 (cM_H rfl) rfl ?_
    refine g_get fX5_162 dX5_count_151 (cM_S rfl) rfl ?_
    refine g_iload_n dX5_count_154 rfl ?_
    refine g_bipush (v := nI 7) dX5_count_155 (by decide) ?_
    refine g_isub_n dX5_count_157 (by omega) ?_
    refine g_cil dX5_count_158 kI_set (by omega) ?_
    exact g_ireturn dX5_count_159 rfl rfl ⟨rfl, rfl, rfl⟩
  · refine g_iload_n dX5_count_10 rfl ?_
    refine g_tabIn (x := nI 8) (off := 136) (tgt := 147) dX5_count_11 (by decide) (by decide) (by decide) (by decide) ?_
    refine g_aload_n dX5_count_147 rfl ?_
    refine g_get fX5_10 dX5_count_148 (cM_H rfl) rfl ?_
    refine g_get fX5_162 dX5_count_151 (cM_S rfl) rfl ?_
    refine g_iload_n dX5_count_154 rfl ?_
    refine g_bipush (v := nI 7) dX5_count_155 (by decide) ?_
    refine g_isub_n dX5_count_157 (by omega) ?_
    refine g_cil dX5_count_158 kI_set (by omega) ?_
    exact g_ireturn dX5_count_159 rfl rfl ⟨rfl, rfl, rfl⟩
  · refine g_iload_n dX5_count_10 rfl ?_
    refine g_tabIn (x := nI 9) (off := 136) (tgt := 147) dX5_count_11 (by decide) (by decide) (by decide) (by decide) ?_
    refine g_aload_n dX5_count_147 rfl ?_
    refine g_get fX5_10 dX5_count_148 (cM_H rfl) rfl ?_
    refine g_get fX5_162 dX5_count_151 (cM_S rfl) rfl ?_
    refine g_iload_n dX5_count_154 rfl ?_
    refine g_bipush (v := nI 7) dX5_count_155 (by decide) ?_
    refine g_isub_n dX5_count_157 (by omega) ?_
    refine g_cil dX5_count_158 kI_set (by omega) ?_
    exact g_ireturn dX5_count_159 rfl rfl ⟨rfl, rfl, rfl⟩
  · refine g_iload_n dX5_count_10 rfl ?_
    refine g_tabIn (x := nI 10) (off := 136) (tgt := 147) dX5_count_11 (by decide) (by decide) (by decide) (by decide) ?_
    refine g_aload_n dX5_count_147 rfl ?_
    refine g_get fX5_10 dX5_count_148 (cM_H rfl) rfl ?_
    refine g_get fX5_162 dX5_count_151 (cM_S rfl) rfl ?_
    refine g_iload_n dX5_count_154 rfl ?_
    refine g_bipush (v := nI 7) dX5_count_155 (by decide) ?_
    refine g_isub_n dX5_count_157 (by omega) ?_
    refine g_cil dX5_count_158 kI_set (by omega) ?_
    exact g_ireturn dX5_count_159 rfl rfl ⟨rfl, rfl, rfl⟩
  · refine g_iload_n dX5_count_10 rfl ?_
    refine g_tabIn (x := nI 11) (off := 136) (tgt := 147) dX5_count_11 (by decide) (by decide) (by decide) (by decide) ?_
    refine g_aload_n dX5_count_147 rfl ?_
    refine g_get fX5_10 dX5_count_148 (cM_H rfl) rfl ?_
    refine g_get fX5_162 dX5_count_151 (cM_S rfl) rfl ?_
    refine g_iload_n dX5_count_154 rfl ?_
    refine g_bipush (v := nI 7) dX5_count_155 (by decide) ?_
    refine g_isub_n dX5_count_157 (by omega) ?_
    refine g_cil dX5_count_158 kI_set (by omega) ?_
    exact g_ireturn dX5_count_159 rfl rfl ⟨rfl, rfl, rfl⟩
  · refine g_iload_n dX5_count_10 rfl ?_
    refine g_tabIn (x := nI 12) (off := 131) (tgt := 142) dX5_count_11 (by decide) (by decide) (by decide) (by decide) ?_
    refine g_aload_n dX5_count_142 rfl ?_
    refine g_get fX5_199 dX5_count_143 (cM_H rfl) rfl ?_
    exact g_ireturn dX5_count_146 rfl rfl ⟨rfl, rfl, rfl⟩
theorem kX5_refusal1 (v d f t r : Int32) (h : zin v (nI 0) (nI 2) = false) : Cn mX5_refusal 8 1 6 none [.ref 8, .int v, .int d, .int f, .int t, .int r] M (zt eB (fun M' => M' = M)) := by
  refine g_iload_n dX5_refusal_0 rfl ?_
  exact g_callS_t rfl (kX5_needHall1 h) oX5_needHall pX5_needHall lX5_44 dX5_refusal_1 rfl rfl (Nat.le_of_ble_eq_true rfl) (Nat.le_of_ble_eq_true rfl) (by decide) (by decide) (by decide) (fun M1 h1 => ⟨rfl, rfl, h1⟩)
theorem kX5_refusal2 (v d f t r : Int32) (h : zin v (nI 0) (nI 2) = true) (h2 : (zin d (nI 0) (nI 83) && zhrs f t && zin r (nI 1) (nI 9)) = false) : Cn mX5_refusal 8 1 6 none [.ref 8, .int v, .int d, .int f, .int t, .int r] M (zt eA (fun M' => M' = M)) := by
  refine g_iload_n dX5_refusal_0 rfl ?_
  refine g_callS_v (kX5_needHall h) oX5_needHall pX5_needHall lX5_44 dX5_refusal_1 rfl rfl (Nat.le_of_ble_eq_true rfl) (Nat.le_of_ble_eq_true rfl) (by decide) (fun M' h' => ?_)
  subst h'
  refine g_iload_n dX5_refusal_4 rfl ?_
  cases hd : zin d (nI 0) (nI 83)
  · exact g_callS_t rfl (kX5_needDay1 hd) oX5_needDay pX5_needDay lX5_97 dX5_refusal_5 rfl rfl (Nat.le_of_ble_eq_true rfl) (Nat.le_of_ble_eq_true rfl) (by decide) (by decide) (by decide) (fun M1 h1 => ⟨rfl, rfl, h1⟩)
  refine g_callS_v (kX5_needDay hd) oX5_needDay pX5_needDay lX5_97 dX5_refusal_5 rfl rfl (Nat.le_of_ble_eq_true rfl) (Nat.le_of_ble_eq_true rfl) (by decide) (fun M' h' => ?_)
  subst h'
  refine g_iload_n dX5_refusal_8 rfl ?_
  refine g_iload dX5_refusal_9 rfl ?_
  cases hz : zhrs f t
  · exact g_callS_t rfl (kX5_needHours1 hz) oX5_needHours pX5_needHours lX5_56 dX5_refusal_11 rfl rfl (Nat.le_of_ble_eq_true rfl) (Nat.le_of_ble_eq_true rfl) (by decide) (by decide) (by decide) (fun M1 h1 => ⟨rfl, rfl, h1⟩)
  refine g_callS_v (kX5_needHours hz) oX5_needHours pX5_needHours lX5_56 dX5_refusal_11 rfl rfl (Nat.le_of_ble_eq_true rfl) (Nat.le_of_ble_eq_true rfl) (by decide) (fun M' h' => ?_)
  subst h'
  refine g_iload dX5_refusal_14 rfl ?_
  refine g_iconst (v := nI 1) dX5_refusal_16 (by decide) ?_
  refine g_bipush (v := nI 9) dX5_refusal_17 (by decide) ?_
  refine g_callS_i (kX5_isIn r (nI 1) (nI 9)) oX5_isIn pX5_isIn lX5_48 dX5_refusal_19 rfl rfl (Nat.le_of_ble_eq_true rfl) (Nat.le_of_ble_eq_true rfl) (by decide) (fun M' h' => ?_)
  subst h'
  rw [show zin r (nI 1) (nI 9) = false by simpa [hd, hz] using h2]
  exact g_callS_t rfl (kX5_need1) oX5_need pX5_need lX5_52 dX5_refusal_22 rfl rfl (Nat.le_of_ble_eq_true rfl) (Nat.le_of_ble_eq_true rfl) (by decide) (by decide) (by decide) (fun M1 h1 => ⟨rfl, rfl, h1⟩)
theorem dsV_B {Y : Nat → Nat → Nat} (hC : wC Y) {h day f t r te : Nat} (hh : h ≤ 2) (hd : day < 84) (hft : f < t) (ht : t ≤ 24) (hr : r ≤ 9) (hte : te ≤ 19) : vB (dsV Y h day f t r te) := by
  have hrn := vRn_le hC (h := h) (wd := day % 7) (hrs := t - f) (disc := 0) hh (by omega)
  refine ⟨fun j hj => ?_, ?_, hft, hh⟩
  · rcases (show j = 0 ∨ j = 1 ∨ j = 2 ∨ j = 3 ∨ j = 4 ∨ j = 5 ∨ j = 6 ∨ j = 7 ∨ j = 8 by omega) with rfl | rfl | rfl | rfl | rfl | rfl | rfl | rfl | rfl <;> simp only [dsV, mkV] <;> omega
  · show 2 ^ (day / 7) < 2 ^ 12
    exact Nat.pow_lt_pow_of_lt (by omega) (by omega)
theorem kX5_refusal (hC : wC Y) (hw : wS Y 9) {h day f t r : Nat} (hh : h ≤ 2) (hd : day < 84) (hft : f < t) (ht : t ≤ 24) (hr : 1 ≤ r) (hr2 : r ≤ 9) : Cn mX5_refusal 8 0 0 none [.ref 8, .int (nI h), .int (nI day), .int (nI f), .int (nI t), .int (nI r)] (cM M0 Y) (zi (nI (if Y 20 1 = 12 then 1 else rsO (uA Y 70 (dsV Y h day f t r 0)) day)) (fun M' => ∃ Y', M' = cM M0 Y' ∧ scr (uA Y 70 (dsV Y h day f t r 0)) Y')) := by
  refine g_iload_n dX5_refusal_0 rfl ?_
  refine g_callS_v (kX5_needHall (zin_t (by omega) hh (by decide))) oX5_needHall pX5_needHall lX5_44 dX5_refusal_1 rfl rfl (Nat.le_of_ble_eq_true rfl) (Nat.le_of_ble_eq_true rfl) (by decide) (fun M' h' => ?_)
  subst h'
  refine g_iload_n dX5_refusal_4 rfl ?_
  refine g_callS_v (kX5_needDay (zin_t (by omega) (by omega) (by decide))) oX5_needDay pX5_needDay lX5_97 dX5_refusal_5 rfl rfl (Nat.le_of_ble_eq_true rfl) (Nat.le_of_ble_eq_true rfl) (by decide) (fun M' h' => ?_)
  subst h'
  refine g_iload_n dX5_refusal_8 rfl ?_
  refine g_iload dX5_refusal_9 rfl ?_
  refine g_callS_v (kX5_needHours (zhrs_n hft ht)) oX5_needHours pX5_needHours lX5_56 dX5_refusal_11 rfl rfl (Nat.le_of_ble_eq_true rfl) (Nat.le_of_ble_eq_true rfl) (by decide) (fun M' h' => ?_)
  subst h'
  refine g_iload dX5_refusal_14 rfl ?_
  refine g_iconst (v := nI 1) dX5_refusal_16 (by decide) ?_
  refine g_bipush (v := nI 9) dX5_refusal_17 (by decide) ?_
  refine g_callS_i (kX5_isIn (nI r) (nI 1) (nI 9)) oX5_isIn pX5_isIn lX5_48 dX5_refusal_19 rfl rfl (Nat.le_of_ble_eq_true rfl) (Nat.le_of_ble_eq_true rfl) (by decide) (fun M' h' => ?_)
  subst h'
  rw [zin_t hr hr2 (by decide)]
  refine g_callS_v (kX5_need) oX5_need pX5_need lX5_52 dX5_refusal_22 rfl rfl (Nat.le_of_ble_eq_true rfl) (Nat.le_of_ble_eq_true rfl) (by decide) (fun M' h' => ?_)
  subst h'
  refine g_aload_n dX5_refusal_25 rfl ?_
  refine g_iload_n dX5_refusal_26 rfl ?_
  refine g_iload_n dX5_refusal_27 rfl ?_
  refine g_iload_n dX5_refusal_28 rfl ?_
  refine g_iload dX5_refusal_29 rfl ?_
  refine g_iload dX5_refusal_31 rfl ?_
  refine g_iconst (v := nI 0) dX5_refusal_33 (by decide) ?_
  refine g_callV_v (kX5_draftSingle hC (h := h) (day := day) (f := f) (t := t) (r := r) (te := 0) hh hd hft ht) oX5_draftSingle pX5_draftSingle lX5_100 dX5_refusal_34 rfl (cM_H rfl) rfl rfl rfl (Nat.le_of_ble_eq_true rfl) (Nat.le_of_ble_eq_true rfl) (by decide) (fun M' h' => ?_)
  subst h'
  refine g_aload_n dX5_refusal_37 rfl ?_
  refine g_iload_n dX5_refusal_38 rfl ?_
  refine g_callV_i (kX5_reasonAgainstDraft (Y := uA Y 70 (dsV Y h day f t r 0)) hC (opL_d hw _ 0).1 (by rw [uA_s]; exact dsV_B hC hh hd hft ht hr2 (by omega)) hd) oX5_reasonAgainstDraft pX5_reasonAgainstDraft lX5_103 dX5_refusal_39 rfl (cM_H rfl) rfl rfl rfl (Nat.le_of_ble_eq_true rfl) (Nat.le_of_ble_eq_true rfl) (by decide) (fun M' h' => ?_)
  obtain ⟨Y', rfl, h2⟩ := h'
  exact g_ireturn dX5_refusal_42 rfl rfl ⟨rfl, rfl, Y', rfl, h2⟩
end COUNT
