/-! the class: single -/
theorem wS_same {Y Z : Nat → Nat → Nat} (h : ∀ q, 9 ≤ q → q < 36 → Z q = Y q) (hw : wS Y 9) : wS Z 9 := by
  have n1 := hw.1.2.1
  have n2 := hw.2.2.1
  refine ⟨⟨?_, by rw [h _ (by omega) (by omega)]; exact n1, fun i hi => ?_⟩, ?_, by rw [h _ (by omega) (by omega)]; exact n2, fun i hi => ?_⟩
  · unfold rP; rw [h _ (by omega) (by omega)]; exact hw.1.1
  · rw [h _ (by omega) (by omega)] at hi
    have hp := hw.1.1.1 i (by omega)
    rw [rV, h (9 + 1 + 1) (by omega) (by omega), h _ (by omega) (by omega)]
    exact hw.1.2.2 i hi
  · unfold rP; rw [h _ (by omega) (by omega)]; exact hw.2.1
  · rw [h _ (by omega) (by omega)] at hi
    have hp := hw.2.1.1 i (by omega)
    rw [rV, h (9 + 11 + 1) (by omega) (by omega), h _ (by omega) (by omega)]
    exact hw.2.2.2 i hi
theorem wB_same {Y Z : Nat → Nat → Nat} (h : ∀ q, q = 63 ∨ 71 ≤ q → Z q = Y q) (hB : wB Y) : wB Z := by
  refine ⟨?_, ?_, fun k hk => ?_⟩
  · rw [h 63 (by omega)]; exact hB.1
  · rw [h 63 (by omega)]; exact hB.2.1
  · unfold rP
    rw [h _ (by omega), h _ (by omega)]
    exact hB.2.2 k hk
section SINGLE
variable {M M0 : zM} {Y : Nat → Nat → Nat}
theorem kX5_single1 (v d f t r e : Int32) (h : zin v (nI 0) (nI 2) = false) : Cn mX5_single 8 1 6 none [.ref 8, .int v, .int d, .int f, .int t, .int r, .int e] M (zt eB (fun M' => M' = M)) := by
  refine g_iload_n dX5_single_0 rfl ?_
  exact g_callS_t rfl (kX5_needHall1 h) oX5_needHall pX5_needHall lX5_44 dX5_single_1 rfl rfl (Nat.le_of_ble_eq_true rfl) (Nat.le_of_ble_eq_true rfl) (by decide) (by decide) (by decide) (fun M1 h1 => ⟨rfl, rfl, h1⟩)
theorem kX5_single2 (v d f t r e : Int32) (h : zin v (nI 0) (nI 2) = true) (h2 : (zin d (nI 0) (nI 83) && zhrs f t && zwho r e) = false) : Cn mX5_single 8 1 6 none [.ref 8, .int v, .int d, .int f, .int t, .int r, .int e] M (zt eA (fun M' => M' = M)) := by
  refine g_iload_n dX5_single_0 rfl ?_
  refine g_callS_v (kX5_needHall h) oX5_needHall pX5_needHall lX5_44 dX5_single_1 rfl rfl (Nat.le_of_ble_eq_true rfl) (Nat.le_of_ble_eq_true rfl) (by decide) (fun M' h' => ?_)
  subst h'
  refine g_iload_n dX5_single_4 rfl ?_
  cases hd : zin d (nI 0) (nI 83)
  · exact g_callS_t rfl (kX5_needDay1 hd) oX5_needDay pX5_needDay lX5_97 dX5_single_5 rfl rfl (Nat.le_of_ble_eq_true rfl) (Nat.le_of_ble_eq_true rfl) (by decide) (by decide) (by decide) (fun M1 h1 => ⟨rfl, rfl, h1⟩)
  refine g_callS_v (kX5_needDay hd) oX5_needDay pX5_needDay lX5_97 dX5_single_5 rfl rfl (Nat.le_of_ble_eq_true rfl) (Nat.le_of_ble_eq_true rfl) (by decide) (fun M' h' => ?_)
  subst h'
  refine g_iload_n dX5_single_8 rfl ?_
  refine g_iload dX5_single_9 rfl ?_
  cases hz : zhrs f t
  · exact g_callS_t rfl (kX5_needHours1 hz) oX5_needHours pX5_needHours lX5_56 dX5_single_11 rfl rfl (Nat.le_of_ble_eq_true rfl) (Nat.le_of_ble_eq_true rfl) (by decide) (by decide) (by decide) (fun M1 h1 => ⟨rfl, rfl, h1⟩)
  refine g_callS_v (kX5_needHours hz) oX5_needHours pX5_needHours lX5_56 dX5_single_11 rfl rfl (Nat.le_of_ble_eq_true rfl) (Nat.le_of_ble_eq_true rfl) (by decide) (fun M' h' => ?_)
  subst h'
  refine g_iload dX5_single_14 rfl ?_
  refine g_iconst (v := nI 1) dX5_single_16 (by decide) ?_
  refine g_bipush (v := nI 9) dX5_single_17 (by decide) ?_
  refine g_callS_i (kX5_isIn r (nI 1) (nI 9)) oX5_isIn pX5_isIn lX5_48 dX5_single_19 rfl rfl (Nat.le_of_ble_eq_true rfl) (Nat.le_of_ble_eq_true rfl) (by decide) (fun M' h' => ?_)
  subst h'
  cases hr : zin r (nI 1) (nI 9)
  · exact g_callS_t rfl (kX5_need1) oX5_need pX5_need lX5_52 dX5_single_22 rfl rfl (Nat.le_of_ble_eq_true rfl) (Nat.le_of_ble_eq_true rfl) (by decide) (by decide) (by decide) (fun M1 h1 => ⟨rfl, rfl, h1⟩)
  refine g_callS_v (kX5_need) oX5_need pX5_need lX5_52 dX5_single_22 rfl rfl (Nat.le_of_ble_eq_true rfl) (Nat.le_of_ble_eq_true rfl) (by decide) (fun M' h' => ?_)
  subst h'
  refine g_iload dX5_single_25 rfl ?_
  refine g_iconst (v := nI 0) dX5_single_27 (by decide) ?_
  refine g_bipush (v := nI 19) dX5_single_28 (by decide) ?_
  refine g_callS_i (kX5_isIn e (nI 0) (nI 19)) oX5_isIn pX5_isIn lX5_48 dX5_single_30 rfl rfl (Nat.le_of_ble_eq_true rfl) (Nat.le_of_ble_eq_true rfl) (by decide) (fun M' h' => ?_)
  subst h'
  rw [show zin e (nI 0) (nI 19) = false by simpa [hd, hz, zwho, hr] using h2]
  exact g_callS_t rfl (kX5_need1) oX5_need pX5_need lX5_52 dX5_single_33 rfl rfl (Nat.le_of_ble_eq_true rfl) (Nat.le_of_ble_eq_true rfl) (by decide) (by decide) (by decide) (fun M1 h1 => ⟨rfl, rfl, h1⟩)
theorem sg1 (hC : wC Y) (hw : wS Y 9) {h day f t r te kc ks : Nat} (hh : h ≤ 2) (hd : day < 84) (hft : f < t) (ht : t ≤ 24) (hr : 1 ≤ r) (hr2 : r ≤ 9) (hte : te ≤ 19) (F : zP) (hF : ∀ Y', scr (uA Y 70 (dsV Y h day f t r te)) Y' → G mX5_single 8 kc ks none 54 [(0, .ref 8), (2, .int (nI day))] [.int (nI (if Y 20 1 = 12 then 1 else rsO (uA Y 70 (dsV Y h day f t r te)) day))] (cM M0 Y') F) : Cn mX5_single 8 kc ks none [.ref 8, .int (nI h), .int (nI day), .int (nI f), .int (nI t), .int (nI r), .int (nI te)] (cM M0 Y) F := by
  refine g_iload_n dX5_single_0 rfl ?_
  refine g_callS_v (kX5_needHall (zin_t (by omega) hh (by decide))) oX5_needHall pX5_needHall lX5_44 dX5_single_1 rfl rfl (Nat.le_of_ble_eq_true rfl) (Nat.le_of_ble_eq_true rfl) (by decide) (fun M' h' => ?_)
  subst h'
  refine g_iload_n dX5_single_4 rfl ?_
  refine g_callS_v (kX5_needDay (zin_t (by omega) (by omega) (by decide))) oX5_needDay pX5_needDay lX5_97 dX5_single_5 rfl rfl (Nat.le_of_ble_eq_true rfl) (Nat.le_of_ble_eq_true rfl) (by decide) (fun M' h' => ?_)
  subst h'
  refine g_iload_n dX5_single_8 rfl ?_
  refine g_iload dX5_single_9 rfl ?_
  refine g_callS_v (kX5_needHours (zhrs_n hft ht)) oX5_needHours pX5_needHours lX5_56 dX5_single_11 rfl rfl (Nat.le_of_ble_eq_true rfl) (Nat.le_of_ble_eq_true rfl) (by decide) (fun M' h' => ?_)
  subst h'
  refine g_iload dX5_single_14 rfl ?_
  refine g_iconst (v := nI 1) dX5_single_16 (by decide) ?_
  refine g_bipush (v := nI 9) dX5_single_17 (by decide) ?_
  refine g_callS_i (kX5_isIn (nI r) (nI 1) (nI 9)) oX5_isIn pX5_isIn lX5_48 dX5_single_19 rfl rfl (Nat.le_of_ble_eq_true rfl) (Nat.le_of_ble_eq_true rfl) (by decide) (fun M' h' => ?_)
  subst h'
  rw [zin_t hr hr2 (by decide)]
  refine g_callS_v (kX5_need) oX5_need pX5_need lX5_52 dX5_single_22 rfl rfl (Nat.le_of_ble_eq_true rfl) (Nat.le_of_ble_eq_true rfl) (by decide) (fun M' h' => ?_)
  subst h'
  refine g_iload dX5_single_25 rfl ?_
  refine g_iconst (v := nI 0) dX5_single_27 (by decide) ?_
  refine g_bipush (v := nI 19) dX5_single_28 (by decide) ?_
  refine g_callS_i (kX5_isIn (nI te) (nI 0) (nI 19)) oX5_isIn pX5_isIn lX5_48 dX5_single_30 rfl rfl (Nat.le_of_ble_eq_true rfl) (Nat.le_of_ble_eq_true rfl) (by decide) (fun M' h' => ?_)
  subst h'
  rw [zin_t (by omega) hte (by decide)]
  refine g_callS_v (kX5_need) oX5_need pX5_need lX5_52 dX5_single_33 rfl rfl (Nat.le_of_ble_eq_true rfl) (Nat.le_of_ble_eq_true rfl) (by decide) (fun M' h' => ?_)
  subst h'
  refine g_aload_n dX5_single_36 rfl ?_
  refine g_iload_n dX5_single_37 rfl ?_
  refine g_iload_n dX5_single_38 rfl ?_
  refine g_iload_n dX5_single_39 rfl ?_
  refine g_iload dX5_single_40 rfl ?_
  refine g_iload dX5_single_42 rfl ?_
  refine g_iload dX5_single_44 rfl ?_
  refine g_callV_v (kX5_draftSingle hC (h := h) (day := day) (f := f) (t := t) (r := r) (te := te) hh hd hft ht) oX5_draftSingle pX5_draftSingle lX5_100 dX5_single_46 rfl (cM_H rfl) rfl rfl rfl (Nat.le_of_ble_eq_true rfl) (Nat.le_of_ble_eq_true rfl) (by decide) (fun M' h' => ?_)
  subst h'
  refine g_aload_n dX5_single_49 rfl ?_
  refine g_iload_n dX5_single_50 rfl ?_
  refine g_callV_i (kX5_reasonAgainstDraft (Y := uA Y 70 (dsV Y h day f t r te)) hC (opL_d hw _ 0).1 (by rw [uA_s]; exact dsV_B hC hh hd hft ht hr2 hte) hd) oX5_reasonAgainstDraft pX5_reasonAgainstDraft lX5_103 dX5_single_51 rfl (cM_H rfl) rfl rfl rfl (Nat.le_of_ble_eq_true rfl) (Nat.le_of_ble_eq_true rfl) (by decide) (fun M' h' => ?_)
  obtain ⟨Y', rfl, h2⟩ := h'
  exact g_loc rfl (hF Y' h2)
theorem rsO_le (Y : Nat → Nat → Nat) (day : Nat) : rsO Y day ≤ 3 := rsC_le _ _ _ _
theorem kX5_single3 (hC : wC Y) (hw : wS Y 9) {h day f t r te : Nat} (hh : h ≤ 2) (hd : day < 84) (hft : f < t) (ht : t ≤ 24) (hr : 1 ≤ r) (hr2 : r ≤ 9) (hte : te ≤ 19) (hne : (if Y 20 1 = 12 then 1 else rsO (uA Y 70 (dsV Y h day f t r te)) day) ≠ 0) : Cn mX5_single 8 1 6 none [.ref 8, .int (nI h), .int (nI day), .int (nI f), .int (nI t), .int (nI r), .int (nI te)] (cM M0 Y) (zt eS (fun M' => ∃ Y', scr (uA Y 70 (dsV Y h day f t r te)) Y' ∧ M' = cM M0 Y')) := by
  refine sg1 hC hw hh hd hft ht hr hr2 hte _ (fun Y' h2 => ?_)
  have hle := rsO_le (uA Y 70 (dsV Y h day f t r te)) day
  have hle2 : (if Y 20 1 = 12 then 1 else rsO (uA Y 70 (dsV Y h day f t r te)) day) ≤ 3 := by split <;> omega
  refine g_if_eq_n (tgt := 67) dX5_single_54 (by decide) (by omega) (fun h1 => ?_) (fun h1 => ?_)
  · exact absurd h1 hne
  · exact g_throw rfl rfl zTh_ISE (text := "the let is refused") (is := 107) (by decide) dX5_single_57 dX5_single_60 dX5_single_61 dX5_single_63 dX5_single_66 (by decide) (by decide) (by decide) (by decide) ⟨rfl, rfl, Y', h2, rfl⟩
end SINGLE
