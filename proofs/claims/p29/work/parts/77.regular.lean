/-! the class: regular -/
theorem mrP_n {Y : Nat → Nat → Nat} (hw : wS Y 9) : ∀ n Z, mrP Y n Z → Z 10 1 = Y 10 1
  | 0, Z, h => by
    have h' : Z = Y := h
    rw [h']
  | n + 1, Z, h => by
    obtain ⟨Z', h1, h2⟩ := h
    have a0 := mrP_n hw n Z' h1
    have a1 := (mrP_k hw n Z' h1).1
    cases hb : vStd (Y 70) (7 * (Y 70 7 + n) + Y 70 1)
    · rw [hb] at h2
      have h' : Z = Z' := h2
      rw [h']
      exact a0
    · rw [hb] at h2
      obtain ⟨A, s, rfl, -, -, -⟩ : gwRel Z' Z (7 * (Y 70 7 + n) + Y 70 1) := h2
      rw [gwY_o _ _ _ _ _ _ _ (by omega) (by omega) (by omega), gZ_far Z' _ _ _ _ (fun i hi e => by
        have : 12 ≤ Z' 11 i ∧ Z' 11 i < 20 := a1.1.1.1 i (by have : Z' 10 1 ≤ 8 := a1.1.2.1; omega)
        omega)]
      exact a0
section REG
variable {M M0 : zM} {Y : Nat → Nat → Nat}
theorem kX5_regular1 (v d f t r e : Int32) (h : zin v (nI 0) (nI 2) = false) : Cn mX5_regular 8 1 6 none [.ref 8, .int v, .int d, .int f, .int t, .int r, .int e] M (zt eB (fun M' => M' = M)) := by
  refine g_iload_n dX5_regular_0 rfl ?_
  exact g_callS_t rfl (kX5_needHall1 h) oX5_needHall pX5_needHall lX5_44 dX5_regular_1 rfl rfl (Nat.le_of_ble_eq_true rfl) (Nat.le_of_ble_eq_true rfl) (by decide) (by decide) (by decide) (fun M1 h1 => ⟨rfl, rfl, h1⟩)
theorem kX5_regular2 (v d f t r e : Int32) (h : zin v (nI 0) (nI 2) = true) (h2 : (zin d (nI 0) (nI 6) && zhrs f t && zwho r e) = false) : Cn mX5_regular 8 1 6 none [.ref 8, .int v, .int d, .int f, .int t, .int r, .int e] M (zt eA (fun M' => M' = M)) := by
  refine g_iload_n dX5_regular_0 rfl ?_
  refine g_callS_v (kX5_needHall h) oX5_needHall pX5_needHall lX5_44 dX5_regular_1 rfl rfl (Nat.le_of_ble_eq_true rfl) (Nat.le_of_ble_eq_true rfl) (by decide) (fun M' h' => ?_)
  subst h'
  refine g_iload_n dX5_regular_4 rfl ?_
  refine g_iconst (v := nI 0) dX5_regular_5 (by decide) ?_
  refine g_bipush (v := nI 6) dX5_regular_6 (by decide) ?_
  refine g_callS_i (kX5_isIn d (nI 0) (nI 6)) oX5_isIn pX5_isIn lX5_48 dX5_regular_8 rfl rfl (Nat.le_of_ble_eq_true rfl) (Nat.le_of_ble_eq_true rfl) (by decide) (fun M' h' => ?_)
  subst h'
  cases hd : zin d (nI 0) (nI 6)
  · exact g_callS_t rfl (kX5_need1) oX5_need pX5_need lX5_52 dX5_regular_11 rfl rfl (Nat.le_of_ble_eq_true rfl) (Nat.le_of_ble_eq_true rfl) (by decide) (by decide) (by decide) (fun M1 h1 => ⟨rfl, rfl, h1⟩)
  refine g_callS_v (kX5_need) oX5_need pX5_need lX5_52 dX5_regular_11 rfl rfl (Nat.le_of_ble_eq_true rfl) (Nat.le_of_ble_eq_true rfl) (by decide) (fun M' h' => ?_)
  subst h'
  refine g_iload_n dX5_regular_14 rfl ?_
  refine g_iload dX5_regular_15 rfl ?_
  cases hz : zhrs f t
  · exact g_callS_t rfl (kX5_needHours1 hz) oX5_needHours pX5_needHours lX5_56 dX5_regular_17 rfl rfl (Nat.le_of_ble_eq_true rfl) (Nat.le_of_ble_eq_true rfl) (by decide) (by decide) (by decide) (fun M1 h1 => ⟨rfl, rfl, h1⟩)
  refine g_callS_v (kX5_needHours hz) oX5_needHours pX5_needHours lX5_56 dX5_regular_17 rfl rfl (Nat.le_of_ble_eq_true rfl) (Nat.le_of_ble_eq_true rfl) (by decide) (fun M' h' => ?_)
  subst h'
  refine g_iload dX5_regular_20 rfl ?_
  refine g_iconst (v := nI 1) dX5_regular_22 (by decide) ?_
  refine g_bipush (v := nI 9) dX5_regular_23 (by decide) ?_
  refine g_callS_i (kX5_isIn r (nI 1) (nI 9)) oX5_isIn pX5_isIn lX5_48 dX5_regular_25 rfl rfl (Nat.le_of_ble_eq_true rfl) (Nat.le_of_ble_eq_true rfl) (by decide) (fun M' h' => ?_)
  subst h'
  cases hr : zin r (nI 1) (nI 9)
  · exact g_callS_t rfl (kX5_need1) oX5_need pX5_need lX5_52 dX5_regular_28 rfl rfl (Nat.le_of_ble_eq_true rfl) (Nat.le_of_ble_eq_true rfl) (by decide) (by decide) (by decide) (fun M1 h1 => ⟨rfl, rfl, h1⟩)
  refine g_callS_v (kX5_need) oX5_need pX5_need lX5_52 dX5_regular_28 rfl rfl (Nat.le_of_ble_eq_true rfl) (Nat.le_of_ble_eq_true rfl) (by decide) (fun M' h' => ?_)
  subst h'
  refine g_iload dX5_regular_31 rfl ?_
  refine g_iconst (v := nI 0) dX5_regular_33 (by decide) ?_
  refine g_bipush (v := nI 19) dX5_regular_34 (by decide) ?_
  refine g_callS_i (kX5_isIn e (nI 0) (nI 19)) oX5_isIn pX5_isIn lX5_48 dX5_regular_36 rfl rfl (Nat.le_of_ble_eq_true rfl) (Nat.le_of_ble_eq_true rfl) (by decide) (fun M' h' => ?_)
  subst h'
  rw [show zin e (nI 0) (nI 19) = false by simpa [hd, hz, zwho, hr] using h2]
  exact g_callS_t rfl (kX5_need1) oX5_need pX5_need lX5_52 dX5_regular_39 rfl rfl (Nat.le_of_ble_eq_true rfl) (Nat.le_of_ble_eq_true rfl) (by decide) (by decide) (by decide) (fun M1 h1 => ⟨rfl, rfl, h1⟩)
theorem rg1 (hw : wS Y 9) {h wd f t r te kc ks : Nat} (hh : h ≤ 2) (hwd : wd ≤ 6) (hft : f < t) (ht : t ≤ 24) (hr : 1 ≤ r) (hr2 : r ≤ 9) (hte : te ≤ 19) (F : zP) (hF : G mX5_regular 8 kc ks none 52 [(0, .ref 8), (1, .int (nI h)), (2, .int (nI wd)), (3, .int (nI f)), (4, .int (nI t)), (5, .int (nI r)), (6, .int (nI te))] [.int (nI (decide (8 ≤ Y 10 1)).toNat)] (cM M0 Y) F) : Cn mX5_regular 8 kc ks none [.ref 8, .int (nI h), .int (nI wd), .int (nI f), .int (nI t), .int (nI r), .int (nI te)] (cM M0 Y) F := by
  have h8 : Y 10 1 ≤ 8 := hw.1.2.1
  refine g_iload_n dX5_regular_0 rfl ?_
  refine g_callS_v (kX5_needHall (zin_t (by omega) hh (by decide))) oX5_needHall pX5_needHall lX5_44 dX5_regular_1 rfl rfl (Nat.le_of_ble_eq_true rfl) (Nat.le_of_ble_eq_true rfl) (by decide) (fun M' h' => ?_)
  subst h'
  refine g_iload_n dX5_regular_4 rfl ?_
  refine g_iconst (v := nI 0) dX5_regular_5 (by decide) ?_
  refine g_bipush (v := nI 6) dX5_regular_6 (by decide) ?_
  refine g_callS_i (kX5_isIn (nI wd) (nI 0) (nI 6)) oX5_isIn pX5_isIn lX5_48 dX5_regular_8 rfl rfl (Nat.le_of_ble_eq_true rfl) (Nat.le_of_ble_eq_true rfl) (by decide) (fun M' h' => ?_)
  subst h'
  rw [zin_t (by omega) hwd (by decide)]
  refine g_callS_v (kX5_need) oX5_need pX5_need lX5_52 dX5_regular_11 rfl rfl (Nat.le_of_ble_eq_true rfl) (Nat.le_of_ble_eq_true rfl) (by decide) (fun M' h' => ?_)
  subst h'
  refine g_iload_n dX5_regular_14 rfl ?_
  refine g_iload dX5_regular_15 rfl ?_
  refine g_callS_v (kX5_needHours (zhrs_n hft ht)) oX5_needHours pX5_needHours lX5_56 dX5_regular_17 rfl rfl (Nat.le_of_ble_eq_true rfl) (Nat.le_of_ble_eq_true rfl) (by decide) (fun M' h' => ?_)
  subst h'
  refine g_iload dX5_regular_20 rfl ?_
  refine g_iconst (v := nI 1) dX5_regular_22 (by decide) ?_
  refine g_bipush (v := nI 9) dX5_regular_23 (by decide) ?_
  refine g_callS_i (kX5_isIn (nI r) (nI 1) (nI 9)) oX5_isIn pX5_isIn lX5_48 dX5_regular_25 rfl rfl (Nat.le_of_ble_eq_true rfl) (Nat.le_of_ble_eq_true rfl) (by decide) (fun M' h' => ?_)
  subst h'
  rw [zin_t hr hr2 (by decide)]
  refine g_callS_v (kX5_need) oX5_need pX5_need lX5_52 dX5_regular_28 rfl rfl (Nat.le_of_ble_eq_true rfl) (Nat.le_of_ble_eq_true rfl) (by decide) (fun M' h' => ?_)
  subst h'
  refine g_iload dX5_regular_31 rfl ?_
  refine g_iconst (v := nI 0) dX5_regular_33 (by decide) ?_
  refine g_bipush (v := nI 19) dX5_regular_34 (by decide) ?_
  refine g_callS_i (kX5_isIn (nI te) (nI 0) (nI 19)) oX5_isIn pX5_isIn lX5_48 dX5_regular_36 rfl rfl (Nat.le_of_ble_eq_true rfl) (Nat.le_of_ble_eq_true rfl) (by decide) (fun M' h' => ?_)
  subst h'
  rw [zin_t (by omega) hte (by decide)]
  refine g_callS_v (kX5_need) oX5_need pX5_need lX5_52 dX5_regular_39 rfl rfl (Nat.le_of_ble_eq_true rfl) (Nat.le_of_ble_eq_true rfl) (by decide) (fun M' h' => ?_)
  subst h'
  refine g_aload_n dX5_regular_42 rfl ?_
  refine g_get fX5_10 dX5_regular_43 (cM_H rfl) rfl ?_
  refine g_get fX5_60 dX5_regular_46 (cM_S rfl) rfl ?_
  refine g_callV_i (kX3_isFull (r := 10) sb9.2.1 h8) oX3_isFull pX3_isFull lX5_64 dX5_regular_49 rfl (cM_R rfl) rfl rfl rfl (Nat.le_of_ble_eq_true rfl) (Nat.le_of_ble_eq_true rfl) (by decide) (fun M' h' => ?_)
  subst h'
  exact g_loc rfl hF
theorem kX5_regular3 (hw : wS Y 9) {h wd f t r te : Nat} (hh : h ≤ 2) (hwd : wd ≤ 6) (hft : f < t) (ht : t ≤ 24) (hr : 1 ≤ r) (hr2 : r ≤ 9) (hte : te ≤ 19) (hfull : Y 10 1 = 8) : Cn mX5_regular 8 1 6 none [.ref 8, .int (nI h), .int (nI wd), .int (nI f), .int (nI t), .int (nI r), .int (nI te)] (cM M0 Y) (zt eS (fun M' => M' = cM M0 Y)) := by
  refine rg1 hw hh hwd hft ht hr hr2 hte _ ?_
  rw [show decide (8 ≤ Y 10 1) = true by simp; omega]
  refine g_if_eq_b (tgt := 65) dX5_regular_52 (by decide) (fun h1 => ?_) (fun h1 => ?_)
  · cases h1
  · exact g_throw rfl rfl zTh_ISE (text := "there are as many regular lets as may be") (is := 72) (by decide) dX5_regular_55 dX5_regular_58 dX5_regular_59 dX5_regular_61 dX5_regular_64 (by decide) (by decide) (by decide) (by decide) ⟨rfl, rfl, rfl⟩
theorem rg2 (hC : wC Y) (hw : wS Y 9) {h wd f t r te kc ks : Nat} (hh : h ≤ 2) (hwd : wd ≤ 6) (hft : f < t) (ht : t ≤ 24) (hr : 1 ≤ r) (hr2 : r ≤ 9) (hte : te ≤ 19) (hlt : Y 10 1 < 8) (F : zP) (hF : ∀ Y1, scr (uA Y 70 (drV Y h wd f t r te (drM Y h wd f t r te (Y 35 4 + 1 - Y 35 3)))) Y1 → G mX5_regular 8 kc ks none 85 [(0, .ref 8)] [.int (nI (drM Y h wd f t r te (Y 35 4 + 1 - Y 35 3)))] (cM M0 Y1) F) : Cn mX5_regular 8 kc ks none [.ref 8, .int (nI h), .int (nI wd), .int (nI f), .int (nI t), .int (nI r), .int (nI te)] (cM M0 Y) F := by
  refine rg1 hw hh hwd hft ht hr hr2 hte _ ?_
  rw [show decide (8 ≤ Y 10 1) = false by simp; omega]
  refine g_if_eq_b (tgt := 65) dX5_regular_52 (by decide) (fun h1 => ?_) (fun h1 => ?_)
  rotate_left
  · cases h1
  refine g_aload_n dX5_regular_65 rfl ?_
  refine g_iload_n dX5_regular_66 rfl ?_
  refine g_iload_n dX5_regular_67 rfl ?_
  refine g_iload_n dX5_regular_68 rfl ?_
  refine g_iload dX5_regular_69 rfl ?_
  refine g_iload dX5_regular_71 rfl ?_
  refine g_iload dX5_regular_73 rfl ?_
  refine g_callV_v (kX5_draftRegular (h := h) (wd := wd) (f := f) (t := t) (r := r) (te := te) hC hw hh hwd hft ht hr2 hte) oX5_draftRegular pX5_draftRegular lX5_77 dX5_regular_75 rfl (cM_H rfl) rfl rfl rfl (Nat.le_of_ble_eq_true rfl) (Nat.le_of_ble_eq_true rfl) (by decide) (fun M' h' => ?_)
  obtain ⟨Y1, rfl, h2⟩ := h'
  have e70 : Y1 70 = drV Y h wd f t r te (drM Y h wd f t r te (Y 35 4 + 1 - Y 35 3)) := by rw [h2 70 (by omega) (by omega) (by omega), uA_s]
  refine g_aload_n dX5_regular_78 rfl ?_
  refine g_get fX5_40 dX5_regular_79 (cM_H rfl) rfl ?_
  refine g_get fX5_81 dX5_regular_82 (cM_L rfl) rfl ?_
  rw [e70]
  exact g_loc rfl (hF Y1 h2)
theorem kX5_regular4 (hC : wC Y) (hw : wS Y 9) {h wd f t r te : Nat} (hh : h ≤ 2) (hwd : wd ≤ 6) (hft : f < t) (ht : t ≤ 24) (hr : 1 ≤ r) (hr2 : r ≤ 9) (hte : te ≤ 19) (hlt : Y 10 1 < 8) (hz : drM Y h wd f t r te (Y 35 4 + 1 - Y 35 3) = 0) : Cn mX5_regular 8 1 6 none [.ref 8, .int (nI h), .int (nI wd), .int (nI f), .int (nI t), .int (nI r), .int (nI te)] (cM M0 Y) (zt eS (fun M' => ∃ Y1, scr (uA Y 70 (drV Y h wd f t r te 0)) Y1 ∧ M' = cM M0 Y1)) := by
  refine rg2 hC hw hh hwd hft ht hr hr2 hte hlt _ (fun Y1 h2 => ?_)
  rw [hz] at h2 ⊢
  refine g_if_ne_n (tgt := 98) dX5_regular_85 (by decide) (by omega) (fun h1 => ?_) (fun h1 => ?_)
  · exact absurd rfl h1
  · exact g_throw rfl rfl zTh_ISE (text := "the let would be off on all its days") (is := 85) (by decide) dX5_regular_88 dX5_regular_91 dX5_regular_92 dX5_regular_94 dX5_regular_97 (by decide) (by decide) (by decide) (by decide) ⟨rfl, rfl, Y1, h2, rfl⟩
theorem kX5_regular (hC : wC Y) (hw : wS Y 9) (hB : wB Y) (h6 : Y 8 4 ≤ 6) {h wd f t r te m : Nat} (hh : h ≤ 2) (hwd : wd ≤ 6) (hft : f < t) (ht : t ≤ 24) (hr : 1 ≤ r) (hr2 : r ≤ 9) (hte : te ≤ 19) (hlt : Y 10 1 < 8) (hm : m = drM Y h wd f t r te (Y 35 4 + 1 - Y 35 3)) (hz : m ≠ 0) : Cn mX5_regular 8 0 0 none [.ref 8, .int (nI h), .int (nI wd), .int (nI f), .int (nI t), .int (nI r), .int (nI te)] (cM M0 Y) (zi (nI (bc12 m)) (fun M' => ∃ Y1 Y3 Z, scr (uA Y 70 (drV Y h wd f t r te m)) Y1 ∧ svRel Y1 Y3 ∧ mrP Y3 (Y 35 4 + 1 - Y 35 3) Z ∧ M' = cM M0 (mrY Z))) := by
  have hlt2 := drM_lt hC h wd f t r te (Y 35 4 + 1 - Y 35 3) (by have := hC.2.2.2.1; have := hC.2.2.2.2.1; omega)
  rw [← hm] at hlt2
  have hvB := drV_B hC (h := h) (wd := wd) (f := f) (t := t) (r := r) (te := te) (m := m) hh hwd hft ht hr2 hte hlt2
  refine rg2 hC hw hh hwd hft ht hr hr2 hte hlt _ (fun Y1 h2 => ?_)
  rw [← hm] at h2 ⊢
  have hwd1 := (opL_d hw (drV Y h wd f t r te m) 0).1
  have hw1 : wS Y1 9 := wS_c h2 sb9 hwd1
  have e1 : ∀ q, q ≠ 67 → q ≠ 68 → q ≠ 69 → q ≠ 70 → Y1 q = Y q := fun q a1 a2 a3 a4 => by rw [h2 q a1 a2 a3, uA_n _ _ a4]
  have hB1 : wB Y1 := wB_same (fun q hq => e1 q (by omega) (by omega) (by omega) (by omega)) hB
  have h61 : Y1 8 4 ≤ 6 := by rw [e1 8 (by omega) (by omega) (by omega) (by omega)]; exact h6
  refine g_if_ne_n (tgt := 98) dX5_regular_85 (by decide) (by omega) (fun h1 => ?_) (fun h1 => ?_)
  rotate_left
  · exact absurd h1 hz
  refine g_aload_n dX5_regular_98 rfl ?_
  refine g_callV_v (kX5_saveState hB1 hw1 h61) oX5_saveState pX5_saveState lX5_87 dX5_regular_99 rfl (cM_H rfl) rfl rfl rfl (Nat.le_of_ble_eq_true rfl) (Nat.le_of_ble_eq_true rfl) (by decide) (fun M' h' => ?_)
  obtain ⟨Y2, rfl, h3⟩ := h'
  have hR : svRel Y1 (uA Y2 8 (uN (Y2 8) 4 (Y2 8 4 + 1))) := ⟨Y2, rfl, h3⟩
  generalize uA Y2 8 (uN (Y2 8) 4 (Y2 8 4 + 1)) = Y3 at hR
  have e3 : ∀ q, q ≠ 8 → q ≠ 63 → q < 71 → Y3 q = Y1 q := fun q a1 a2 a3 => svRel_k hR hB1 h61 a1 a2 a3
  have hw3 : wS Y3 9 := wS_same (fun q a1 a2 => e3 q (by omega) (by omega) (by omega)) hw1
  have e70 : Y3 70 = drV Y h wd f t r te m := by rw [e3 70 (by omega) (by omega) (by omega), h2 70 (by omega) (by omega) (by omega), uA_s]
  have hC3 : wC Y3 := by
    unfold wC
    rw [e3 35 (by omega) (by omega) (by omega), e3 34 (by omega) (by omega) (by omega), e1 35 (by omega) (by omega) (by omega) (by omega), e1 34 (by omega) (by omega) (by omega) (by omega)]
    exact hC
  have e10 : Y3 10 1 = Y 10 1 := by rw [e3 10 (by omega) (by omega) (by omega), e1 10 (by omega) (by omega) (by omega) (by omega)]
  have f7 : Y3 70 7 = Y 35 3 := by rw [e70]; rfl
  have f8 : Y3 70 8 = Y 35 4 := by rw [e70]; rfl
  have c3 := hC.2.2.2.1
  have c4 := hC.2.2.2.2.1
  refine g_aload_n dX5_regular_102 rfl ?_
  refine g_callV_v (kX5_makeRegular (Y := Y3) hC3 hw3 (by rw [e70]; exact hvB) (by omega) (by omega) (by rw [e70]; exact hwd) (fun Z hZ => by rw [mrP_n hw3 _ Z hZ]; omega)) oX5_makeRegular pX5_makeRegular lX5_90 dX5_regular_103 rfl (cM_H rfl) rfl rfl rfl (Nat.le_of_ble_eq_true rfl) (Nat.le_of_ble_eq_true rfl) (by decide) (fun M' h' => ?_)
  obtain ⟨Z, hZ, rfl⟩ := h'
  obtain ⟨z1, z2⟩ := mrP_k hw3 _ Z hZ
  have z70 : Z 70 = drV Y h wd f t r te m := (z2 70 (by omega)).trans e70
  have zn : Z 10 1 < 8 := by rw [mrP_n hw3 _ Z hZ]; omega
  have hp : 12 ≤ Z 11 (Z 10 1) ∧ Z 11 (Z 10 1) < 20 := z1.1.1.1 _ zn
  have y70 : mrY Z 70 = drV Y h wd f t r te m := by
    rw [mrY, uA_n _ _ (by omega), uA_n _ _ (by omega), uA_n _ _ (by omega)]
    exact z70
  refine g_aload_n dX5_regular_106 rfl ?_
  refine g_get fX5_40 dX5_regular_107 (cM_H rfl) rfl ?_
  refine g_callV_i (kX1_daysStanding (Y := mrY Z) (a := 70) rfl (by rw [y70]; exact hvB)) oX1_daysStanding pX1_daysStanding lX5_93 dX5_regular_110 rfl (cM_L rfl) rfl rfl rfl (Nat.le_of_ble_eq_true rfl) (Nat.le_of_ble_eq_true rfl) (by decide) (fun M' h' => ?_)
  subst h'
  rw [f7, f8] at hZ
  refine g_ireturn dX5_regular_113 rfl rfl ⟨rfl, ?_, Y1, Y3, Z, h2, hR, hZ, rfl⟩
  rw [y70]
  rfl
end REG
