/-! the law: what every case comes to, 2 -/
theorem cx_cnt {Y : Nat → Nat → Nat} {X : Nat → Nat} (hA : Ab Y 9 X) (b : Bool) : Y (rlN b) 1 = cxC X b := by
  cases b
  · exact hA.2.2.2.1.2
  · exact hA.2.2.2.1.1
theorem cxC_le {X : Nat → Nat} (hX : wf0 X) (b : Bool) : cxC X b ≤ 12 := by
  cases b
  · exact hX.2.2
  · exact Nat.le_trans hX.2.1 (by decide)
section OPX2
variable {L : Nat} {xs : Nat → Int32} {i kc ks : Nat} {F : zP} {f : Nat → Int64} {f2 : Nat → UInt64} {Y : Nat → Nat → Nat} {X : Nat → Nat} {SS : Nat → Nat → Nat} {SN AT CH CF CT BU PT : Nat → Nat} {sm ik th mn cl ln sp nu pa : Nat} {hs : Int64}
theorem op_cancel (hL : L < 2 ^ 31) (hi : i + 7 ≤ L) (hI : Inv Y X SS SN sm ik) (hT : InT Y BU ln) (k : ∀ M', LI M' → G (mLaw L xs) 11 kc ks none 28 (lwl (i + 7)) [] M' F) : G (mLaw L xs) 11 (kc + 1) (ks + 6) none 400 (lwl i) [] (cM (mM (oM f f2) X (SVf SS) SN AT CH CF CT BU PT sm ik th mn cl ln sp nu pa hs) Y) F := by
  have h6 := Inv_6 hI
  obtain ⟨hw, hA, hX0, hX1, hX2, hX3⟩ := id hI.1
  obtain ⟨bb, hbb⟩ : ∃ bb : Bool, bb = true ↔ ¬ xs (i + 1) = 0 := ⟨decide (¬ xs (i + 1) = 0), by rw [decide_eq_true_eq]⟩
  have hc := cx_cnt hA bb
  cases c1 : zin (xs (i + 2)) (nI 0) (nI (cxC X bb) - nI 1)
  · exact wL_cancel hL hi hbb rfl (b := nI 0) (kk := 1) (by omega) (hL_cancel_t1 (cM_H rfl) (kX5_cancel1 bb _ (by rw [hc]; exact c1))) (d2 := 4) (by omega) (fun M1 h1 => by
      subst h1
      rw [cm_comm]
      exact ⟨zi_mono (kX6_cancel1 bb _ c1) (fun M' h' => by subst h'; exact LJ_mk hI hT (fun q => absurd q (by decide))), _, rfl⟩) k
  obtain ⟨n, hn, e1⟩ := zin_cnt (by have := cxC_le hX0 bb; omega) c1
  rw [e1] at c1
  obtain ⟨q1, -⟩ := cx_ans hA bb hn
  refine wL_cancel hL hi hbb e1 (b := nI (cxB X bb n)) (kk := 0) (by omega) (hL_cancel_v (f := f) (cM_H rfl) (kX5_cancel bb hw hI.2.1.1 h6 (by rw [hc]; exact hn) (by rw [hc]; exact c1)) (fun M1 q => ?_)) (d2 := 4) (by omega) (fun M1 h1 => ?_) k
  · obtain ⟨Y3, r1, rfl⟩ := q
    rfl
  · obtain ⟨M2, ⟨Y3, r1, rfl⟩, rfl⟩ := h1
    rw [oM_l, cm_comm]
    refine ⟨zi_mono (kX6_cancel hX0 hI.2.1.2.2.1 bb hn) (fun M' h' => ?_), _, rfl⟩
    subst h'
    refine LJ_mk (inv_cancel hI hn r1) (InT_far (InT_sv hI hT r1) (fun q w1 w2 => ?_)) (fun _ => ?_)
    · have : rlN bb ≤ 20 := by cases bb <;> decide
      rw [ccY, uA_n _ _ (by omega), uA_n _ _ (by omega), uA_n _ _ (by omega)]
    · rw [upL_0, q1]
theorem op_off (hL : L < 2 ^ 31) (hi : i + 7 ≤ L) (hI : Inv Y X SS SN sm ik) (hT : InT Y BU ln) (k : ∀ M', LI M' → G (mLaw L xs) 11 kc ks none 28 (lwl (i + 7)) [] M' F) : G (mLaw L xs) 11 (kc + 1) (ks + 6) none 484 (lwl i) [] (cM (mM (oM f f2) X (SVf SS) SN AT CH CF CT BU PT sm ik th mn cl ln sp nu pa hs) Y) F := by
  have h6 := Inv_6 hI
  obtain ⟨hw, hA, hX0, hX1, hX2, hX3⟩ := id hI.1
  have a6 : Y 10 1 = X 11 := hA.2.2.2.1.1
  cases c1 : zin (xs (i + 1)) (nI 0) (nI (X 11) - nI 1)
  · exact wL_off hL hi rfl rfl (b := nI 0) (kk := 1) (by omega) (hL_off_t1 (cM_H rfl) (kX5_off1 _ _ (by rw [a6]; exact c1))) (d2 := 2) (by omega) (fun M1 h1 => by
      subst h1
      rw [cm_comm]
      exact ⟨zi_mono (kX6_off1 _ _ c1) (fun M' h' => by subst h'; exact LJ_mk hI hT (fun q => absurd q (by decide))), _, rfl⟩) k
  cases c2 : zin (xs (i + 2)) (nI 0) (nI 83)
  · exact wL_off hL hi rfl rfl (b := nI 0) (kk := 2) (by omega) (hL_off_t2 (cM_H rfl) (kX5_off2 _ _ (by rw [a6]; exact c1) c2)) (d2 := 2) (by omega) (fun M1 h1 => by
      subst h1
      rw [cm_comm]
      exact ⟨zi_mono (kX6_off2 _ _ c1 c2) (fun M' h' => by subst h'; exact LJ_mk hI hT (fun q => absurd q (by decide))), _, rfl⟩) k
  obtain ⟨n, hn, e1⟩ := zin_cnt (by have := hX0.2.1; omega) c1
  obtain ⟨d, -, hd83, e2⟩ := zin_i (by decide) (by decide) c2
  have hd : d < 84 := by omega
  rw [e1] at c1
  have hr : RgR (Y (Y 11 n)) (rg X n) := hA.2.2.2.2.1 n hn
  have hst : vStd (Y (Y 11 n)) d = stdR X n d := std_R hr hd
  cases c3 : stdR X n d
  · exact wL_off hL hi e1 e2 (b := nI 0) (kk := 3) (by omega) (hL_off_t3 (cM_H rfl) (kX5_off3 hw (by rw [a6]; exact hn) (by rw [a6]; exact c1) hd (hst.trans c3))) (d2 := 2) (by omega) (fun M1 h1 => by
      subst h1
      rw [cm_comm]
      exact ⟨zi_mono (kX6_off3 hX0 hn hd c3) (fun M' h' => by subst h'; exact LJ_mk hI hT (fun q => absurd q (by decide))), _, rfl⟩) k
  refine wL_off hL hi e1 e2 (b := nI (X (12 + 10 * n + 6))) (kk := 0) (by omega) (hL_off_v (f := f) (cM_H rfl) (kX5_off hw hI.2.1.1 h6 (by rw [a6]; exact hn) (by rw [a6]; exact c1) hd (hst.trans c3)) (fun M1 q => ?_)) (d2 := 2) (by omega) (fun M1 h1 => ?_) k
  · obtain ⟨Y3, r1, rfl⟩ := q
    rfl
  · obtain ⟨M2, ⟨Y3, r1, rfl⟩, rfl⟩ := h1
    rw [oM_l, cm_comm]
    refine ⟨zi_mono (kX6_off hX0 hI.2.1.2.2.1 hn hd c3) (fun M' h' => ?_), _, rfl⟩
    subst h'
    obtain ⟨v1, v2⟩ := inv_off hI hn hd r1 (svRel_k r1 hI.2.1.1 h6 (by omega) (by omega) (by omega)).symm
    refine LJ_mk v1 (InT_far (InT_sv hI hT r1) (fun q w1 w2 => v2 q (by omega))) (fun _ => ?_)
    rw [upL_0, hr.1 6 (by omega)]
    rfl
theorem op_rate (hL : L < 2 ^ 31) (hi : i + 7 ≤ L) (hI : Inv Y X SS SN sm ik) (hT : InT Y BU ln) (k : ∀ M', LI M' → G (mLaw L xs) 11 kc ks none 28 (lwl (i + 7)) [] M' F) : G (mLaw L xs) 11 (kc + 1) (ks + 6) none 552 (lwl i) [] (cM (mM (oM f f2) X (SVf SS) SN AT CH CF CT BU PT sm ik th mn cl ln sp nu pa hs) Y) F := by
  have h6 := Inv_6 hI
  obtain ⟨hw, hA, hX0, hX1, hX2, hX3⟩ := id hI.1
  cases c1 : zin (xs (i + 1)) (nI 0) (nI 2)
  · exact wL_rate hL hi rfl rfl (b := nI 0) (kk := 1) (by omega) (hL_rate_t1 (cM_H rfl) (kX5_rate1 _ _ c1)) (d2 := 2) (by omega) (fun M1 h1 => by
      subst h1
      rw [cm_comm]
      exact ⟨zi_mono (kX6_rate1 _ _ c1) (fun M' h' => by subst h'; exact LJ_mk hI hT (fun q => absurd q (by decide))), _, rfl⟩) k
  cases c2 : zin (xs (i + 2)) (nI 100) (nI 5000)
  · exact wL_rate hL hi rfl rfl (b := nI 0) (kk := 2) (by omega) (hL_rate_t2 (cM_H rfl) (kX5_rate2 _ _ c1 c2)) (d2 := 2) (by omega) (fun M1 h1 => by
      subst h1
      rw [cm_comm]
      exact ⟨zi_mono (kX6_rate2 _ _ c1 c2) (fun M' h' => by subst h'; exact LJ_mk hI hT (fun q => absurd q (by decide))), _, rfl⟩) k
  obtain ⟨a, -, ha, e1⟩ := zin_i (by decide) (by decide) c1
  obtain ⟨v, hv, hv2, e2⟩ := zin_i (by decide) (by decide) c2
  refine wL_rate hL hi e1 e2 (b := nI (X (5 + a))) (kk := 0) (by omega) (hL_rate_v (f := f) (cM_H rfl) (kX5_rate hI.2.1.1 hw h6 ha hv hv2) (fun M1 q => ?_)) (d2 := 2) (by omega) (fun M1 h1 => ?_) k
  · obtain ⟨Y3, r1, rfl⟩ := q
    rfl
  · obtain ⟨M2, ⟨Y3, r1, rfl⟩, rfl⟩ := h1
    rw [oM_l, cm_comm]
    refine ⟨zi_mono (kX6_rate hI.2.1.2.2.1 ha hv hv2) (fun M' h' => ?_), _, rfl⟩
    subst h'
    refine LJ_mk (inv_rate hI ha hv hv2 r1) (InT_u (InT_sv hI hT r1) _ (by omega)) (fun _ => ?_)
    rw [upL_0, show Y 34 a = X (5 + a) from hA.2.1 a (by omega)]
theorem op_set (hL : L < 2 ^ 31) (hi : i + 7 ≤ L) (hI : Inv Y X SS SN sm ik) (hT : InT Y BU ln) (k : ∀ M', LI M' → G (mLaw L xs) 11 kc ks none 28 (lwl (i + 7)) [] M' F) : G (mLaw L xs) 11 (kc + 1) (ks + 6) none 620 (lwl i) [] (cM (mM (oM f f2) X (SVf SS) SN AT CH CF CT BU PT sm ik th mn cl ln sp nu pa hs) Y) F := by
  have hC := Inv_wC hI
  have h6 := Inv_6 hI
  obtain ⟨hw, hA, hX0, hX1, hX2, hX3⟩ := id hI.1
  cases c1 : zin (xs (i + 1)) (nI 0) (nI 4)
  · exact wL_set hL hi rfl rfl (b := nI 0) (kk := 1) (by omega) (hL_set_t1 (cM_H rfl) (kX5_set1 _ _ c1)) (d2 := 8) (by omega) (fun M1 h1 => by
      subst h1
      rw [cm_comm]
      exact ⟨zi_mono (kX6_set1 _ _ c1) (fun M' h' => by subst h'; exact LJ_mk hI hT (fun q => absurd q (by decide))), _, rfl⟩) k
  obtain ⟨w, -, hw4, e1⟩ := zin_i (by decide) (by decide) c1
  have hmx := mxS_le w
  cases c2 : zin (xs (i + 2)) (nI 0) (nI (mxS w))
  · exact wL_set hL hi e1 rfl (b := nI 0) (kk := 2) (by omega) (hL_set_t2 (cM_H rfl) (kX5_set2 _ hw4 (by rw [mxS_St hw4]; exact c2))) (d2 := 8) (by omega) (fun M1 h1 => by
      subst h1
      rw [cm_comm]
      exact ⟨zi_mono (kX6_set2 _ hw4 c2) (fun M' h' => by subst h'; exact LJ_mk hI hT (fun q => absurd q (by decide))), _, rfl⟩) k
  obtain ⟨v, -, hv, e2⟩ := zin_i (by decide) (by omega) c2
  have hal := ab_set hA hX0 hX1 hX2 (w := w) (v := v) hw4
  cases c3 : gdW X w v
  · exact wL_set hL hi e1 e2 (b := nI 0) (kk := 3) (by omega) (hL_set_t3 (cM_H rfl) (kX5_set3 hC hw hw4 (by rw [mxS_St hw4]; exact hv) (hal.trans c3))) (d2 := 8) (by omega) (fun M1 h1 => by
      obtain ⟨Y', rfl, q1⟩ := h1
      rw [cm_comm]
      exact ⟨zi_mono (kX6_set3 hX0 hw4 hv c3) (fun M' h' => by
        obtain ⟨AT', CH', CF', CT', mn', cl', rfl⟩ := h'
        exact LJ_mk (Inv_scr hI q1) (InT_scr hT q1) (fun q => absurd q (by decide))), _, rfl⟩) k
  refine wL_set hL hi e1 e2 (b := nI (X w)) (kk := 0) (by omega) (hL_set_v (f := f) (cM_H rfl) (kX5_set hC hw hI.2.1.1 h6 hw4 (by rw [mxS_St hw4]; exact hv) (hal.trans c3)) (fun M1 q => ?_)) (d2 := 8) (by omega) (fun M1 h1 => ?_) k
  · obtain ⟨Y', Y3, q1, q2, rfl⟩ := q
    rfl
  · obtain ⟨M2, ⟨Y', Y3, q1, q2, rfl⟩, rfl⟩ := h1
    rw [oM_l, cm_comm]
    refine ⟨zi_mono (kX6_set hX0 hI.2.1.2.2.1 hw4 hv c3) (fun M' h' => ?_), _, rfl⟩
    obtain ⟨AT', CH', CF', CT', mn', cl', rfl⟩ := h'
    refine LJ_mk (inv_set hI hw4 hv c3 q1 q2) (InT_u (InT_sv (Inv_scr hI q1) (InT_scr hT q1) q2) _ (by omega)) (fun _ => ?_)
    rw [upL_0, show Y 35 w = X w from hA.1 w (by omega)]
theorem op_append (hL : L < 2 ^ 31) (hi : i + 7 ≤ L) (hI : Inv Y X SS SN sm ik) (hT : InT Y BU ln) (k : ∀ M', LI M' → G (mLaw L xs) 11 kc ks none 28 (lwl (i + 7)) [] M' F) : G (mLaw L xs) 11 (kc + 1) (ks + 6) none 688 (lwl i) [] (cM (mM (oM f f2) X (SVf SS) SN AT CH CF CT BU PT sm ik th mn cl ln sp nu pa hs) Y) F := by
  cases c1 : zin (xs (i + 1)) (nI 33) (nI 126)
  · exact wL_append hL hi rfl (b := nI 0) (kk := 1) (by omega) (hL_append_t1 (cM_H rfl) (kX5_append1 _ c1)) (d2 := 1) (by omega) (fun M1 h1 => by
      subst h1
      rw [cm_comm]
      exact ⟨zi_mono (kX6_append1 _ c1) (fun M' h' => by subst h'; exact LJ_mk hI hT (fun q => absurd q (by decide))), _, rfl⟩) k
  obtain ⟨c, hc1, hc2, e1⟩ := zin_i (by decide) (by decide) c1
  by_cases h60 : ln = 60
  · subst h60
    exact wL_append hL hi e1 (b := nI 0) (kk := 2) (by omega) (hL_append_t2 (cM_H rfl) (kX5_append2 hc1 hc2 hT.1)) (d2 := 1) (by omega) (fun M1 h1 => by
      subst h1
      rw [cm_comm]
      exact ⟨zi_mono (kX6_append2 hc1 hc2) (fun M' h' => by subst h'; exact LJ_mk hI hT (fun q => absurd q (by decide))), _, rfl⟩) k
  · have hl : ln < 60 := by have := hT.2.1; omega
    refine wL_append hL hi e1 (b := nI (ln + 1)) (kk := 0) (by omega) (hL_append_v (f := f) (cM_H rfl) (kX5_append hc1 hc2 (by rw [hT.1]; exact hl)) (fun M1 q => ?_)) (d2 := 1) (by omega) (fun M1 h1 => ?_) k
    · subst q
      rfl
    · obtain ⟨M2, rfl, rfl⟩ := h1
      rw [oM_l, cm_comm]
      refine ⟨zi_mono (kX6_append hc1 hc2 hl) (fun M' h' => ?_), _, rfl⟩
      subst h'
      obtain ⟨v1, v2⟩ := inv_append hI hT hc2 hl
      refine LJ_mk v1 v2 (fun _ => ?_)
      rw [upL_0, hT.1]
theorem op_clearBuffer (hL : L < 2 ^ 31) (hi : i + 7 ≤ L) (hI : Inv Y X SS SN sm ik) (hT : InT Y BU ln) (k : ∀ M', LI M' → G (mLaw L xs) 11 kc ks none 28 (lwl (i + 7)) [] M' F) : G (mLaw L xs) 11 kc ks none 744 (lwl i) [] (cM (mM (oM f f2) X (SVf SS) SN AT CH CF CT BU PT sm ik th mn cl ln sp nu pa hs) Y) F := by
  refine vL_clearBuffer hL hi (b := nI ln) (by have := @kX5_clearBuffer (mM (oM f f2) X (SVf SS) SN AT CH CF CT BU PT sm ik th mn cl ln sp nu pa hs) Y; rw [hT.1] at this; exact this) (cM_H rfl) (d2 := 0) (by omega) (fun M1 h1 => ?_) k
  subst h1
  rw [cm_comm]
  obtain ⟨v1, v2⟩ := inv_clear hI hT
  exact ⟨zi_mono kX6_clearBuffer (fun M' h' => by subst h'; exact LI_mk v1 v2), _, rfl⟩
theorem op_firstError (hL : L < 2 ^ 31) (hi : i + 7 ≤ L) (hI : Inv Y X SS SN sm ik) (hT : InT Y BU ln) (k : ∀ M', LI M' → G (mLaw L xs) 11 kc ks none 28 (lwl (i + 7)) [] M' F) : G (mLaw L xs) 11 kc ks none 757 (lwl i) [] (cM (mM (oM f f2) X (SVf SS) SN AT CH CF CT BU PT sm ik th mn cl ln sp nu pa hs) Y) F := by
  obtain ⟨v1, v2⟩ := inv_fb hI hT
  refine vL_firstError hL hi (kX5_firstError (InT_wT hT) hT.2.2.2.2) (cM_H rfl) (d2 := 5) (by omega) (fun M1 h1 => ?_) k
  subst h1
  rw [cm_comm, (text_ok hT PT).1]
  exact ⟨zi_mono (kX6_firstError hT.2.2.2.1 hT.2.1) (fun M' h' => by
    obtain ⟨nu', rfl⟩ := h'
    exact LI_mk v1 v2), _, rfl⟩
theorem op_lets (hL : L < 2 ^ 31) (hi : i + 7 ≤ L) (hI : Inv Y X SS SN sm ik) (hT : InT Y BU ln) (k : ∀ M', LI M' → G (mLaw L xs) 11 kc ks none 28 (lwl (i + 7)) [] M' F) : G (mLaw L xs) 11 (kc + 1) (ks + 6) none 770 (lwl i) [] (cM (mM (oM f f2) X (SVf SS) SN AT CH CF CT BU PT sm ik th mn cl ln sp nu pa hs) Y) F := by
  have hC := Inv_wC hI
  have h6 := Inv_6 hI
  obtain ⟨hw, hA, hX0, hX1, hX2, hX3⟩ := id hI.1
  have hic := (text_ok hT PT).2
  cases c1 : alB BU ln PT
  · obtain ⟨v1, v2⟩ := inv_fb hI hT
    exact wL_lets hL hi (b := nI 0) (kk := 1) (by omega) (hL_lets_t1 (cM_H rfl) (kX5_lets1 (InT_wT hT) hT.2.2.2.2 (hic.trans c1))) (d2 := 5) (by omega) (fun M1 h1 => by
      subst h1
      rw [cm_comm]
      exact ⟨zi_mono (kX6_lets1 hT.2.2.2.1 hT.2.1 c1) (fun M' h' => by
        obtain ⟨nu', rfl⟩ := h'
        exact LJ_mk v1 v2 (fun q => absurd q (by decide))), _, rfl⟩) k
  refine wL_lets hL hi (b := nI (ltT (alF BU ln PT).2.2.2 X (alF BU ln PT).2.1).1) (kk := 0) (by omega) (hL_lets_v (f := f) (cM_H rfl) (kX5_lets hC hw hI.2.1.1 h6 (InT_wT hT) hT.2.2.2.2 (hic.trans c1)) (fun n M1 q => ?_)) (d2 := 5) (by omega) (fun M1 h1 => ?_) k
  · obtain ⟨Y3, Z, q1, q2, rfl⟩ := q
    rfl
  · obtain ⟨n, M2, ⟨Y3, Z, q1, q2, rfl⟩, rfl⟩ := h1
    rw [oM_l, cm_comm]
    refine ⟨zi_mono (kX6_lets hX0 hX1 hI.2.1.2.2.1 hT.2.2.2.1 hT.2.1 c1) (fun M' h' => ?_), _, rfl⟩
    obtain ⟨nu', AT', CH', CF', CT', mn', cl', rfl⟩ := h'
    obtain ⟨v1, v2, v3⟩ := inv_lets (PT := PT) hI hT c1 q1 q2
    refine LJ_mk v1 v3 (fun _ => ?_)
    rw [upL_0, v2]
theorem op_undo (hL : L < 2 ^ 31) (hi : i + 7 ≤ L) (hI : Inv Y X SS SN sm ik) (hT : InT Y BU ln) (k : ∀ M', LI M' → G (mLaw L xs) 11 kc ks none 28 (lwl (i + 7)) [] M' F) : G (mLaw L xs) 11 (kc + 1) (ks + 6) none 814 (lwl i) [] (cM (mM (oM f f2) X (SVf SS) SN AT CH CF CT BU PT sm ik th mn cl ln sp nu pa hs) Y) F := by
  have hsm := hI.2.1.2.1
  have h6 := hI.2.1.2.2.1
  have hw := hI.1.1
  cases sm with
  | zero =>
    exact wL_undo hL hi (b := nI 0) (kk := 1) (by omega) (hL_undo_t1 (cM_H rfl) (kX5_undo0 hsm)) (d2 := 1) (by omega) (fun M1 h1 => by
      subst h1
      rw [cm_comm]
      exact ⟨zi_mono kX6_undo0 (fun M' h' => by subst h'; exact LJ_mk hI hT (fun q => absurd q (by decide))), _, rfl⟩) k
  | succ s =>
    obtain ⟨b1, b2, b3, b4⟩ := wB_sb hI.2.1.1 (i := s) (by omega)
    have hS := hI.2.1.2.2.2 s (by omega)
    refine wL_undo hL hi (b := nI s) (kk := 0) (by omega) (hL_undo_v (f := f) (cM_H rfl) (kX5_undo hsm (by omega) hw b1 b2 hS.1) (fun M1 q => ?_)) (d2 := 1) (by omega) (fun M1 h1 => ?_) k
    · obtain ⟨Y2, rfl, q1⟩ := q
      rfl
    · obtain ⟨M2, ⟨Y2, rfl, q1⟩, rfl⟩ := h1
      rw [oM_l, cm_comm]
      refine ⟨zi_mono (kX6_undo (by omega)) (fun M' h' => ?_), _, rfl⟩
      subst h'
      refine LJ_mk (inv_undo hI q1) (InT_far hT (fun q w1 w2 => (q1.1 q (by omega)).trans (uA_n _ _ (by omega)))) (fun _ => ?_)
      rw [upL_0]
theorem op_keep (hL : L < 2 ^ 31) (hi : i + 7 ≤ L) (hI : Inv Y X SS SN sm ik) (hT : InT Y BU ln) (k : ∀ M', LI M' → G (mLaw L xs) 11 kc ks none 28 (lwl (i + 7)) [] M' F) : G (mLaw L xs) 11 kc ks none 858 (lwl i) [] (cM (mM (oM f f2) X (SVf SS) SN AT CH CF CT BU PT sm ik th mn cl ln sp nu pa hs) Y) F := by
  obtain ⟨hw, hA, hX0, hX1, hX2, hX3⟩ := id hI.1
  have h1 := @kX5_keep (mM (oM f f2) X (SVf SS) SN AT CH CF CT BU PT sm ik th mn cl ln sp nu pa hs) Y hw hI.2.2.1.1 hI.2.2.1.2.1
  rw [show Y 10 1 = X 11 from hA.2.2.2.1.1, show Y 20 1 = X 92 from hA.2.2.2.1.2] at h1
  refine vL_keep hL hi h1 (cM_H rfl) (d2 := 1) (by omega) (fun M1 h1 => ?_) k
  obtain ⟨Y2, rfl, q1⟩ := h1
  rw [cm_comm]
  exact ⟨zi_mono kX6_keep (fun M' h' => by subst h'; exact LI_mk (inv_keep hI q1) (InT_far hT (fun q w1 w2 => (uA_n _ _ (by omega)).trans (q1.1 q (by omega))))), _, rfl⟩
theorem op_restore (hL : L < 2 ^ 31) (hi : i + 7 ≤ L) (hI : Inv Y X SS SN sm ik) (hT : InT Y BU ln) (k : ∀ M', LI M' → G (mLaw L xs) 11 kc ks none 28 (lwl (i + 7)) [] M' F) : G (mLaw L xs) 11 (kc + 1) (ks + 6) none 871 (lwl i) [] (cM (mM (oM f f2) X (SVf SS) SN AT CH CF CT BU PT sm ik th mn cl ln sp nu pa hs) Y) F := by
  have h6 := Inv_6 hI
  have hw := hI.1.1
  have h2 := hI.2.2.1.2.2.1
  rcases hI.2.2.1.2.2.2.1 with rfl | rfl
  · exact wL_restore hL hi (b := nI 0) (kk := 1) (by omega) (hL_restore_t1 (cM_H rfl) (kX5_restore0 h2)) (d2 := 1) (by omega) (fun M1 h1 => by
      subst h1
      rw [cm_comm]
      exact ⟨zi_mono kX6_restore0 (fun M' h' => by subst h'; exact LJ_mk hI hT (fun q => absurd q (by decide))), _, rfl⟩) k
  · have hN := hI.2.2.1.2.2.2.2 rfl
    refine wL_restore hL hi (b := nI (SN 11 + SN 92)) (kk := 0) (by omega) (hL_restore_v (f := f) (cM_H rfl) (kX5_restore hw hI.2.1.1 h6 h2 (fun Y3 r => ⟨(Inv_sv hI r).1.1, ((Inv_sv hI r).2.2.1.2.2.2.2 rfl).1⟩)) (fun M1 q => ?_)) (d2 := 1) (by omega) (fun M1 h1 => ?_) k
    · obtain ⟨Y3, Y4, q1, q2, rfl⟩ := q
      rfl
    · obtain ⟨M2, ⟨Y3, Y4, q1, q2, rfl⟩, rfl⟩ := h1
      rw [oM_l, cm_comm]
      refine ⟨zi_mono (kX6_restore hI.2.1.2.2.1) (fun M' h' => ?_), _, rfl⟩
      subst h'
      refine LJ_mk (inv_restore hI q1 q2) (InT_far (InT_sv hI hT q1) (fun q w1 w2 => q2.1 q (by omega))) (fun _ => ?_)
      rw [upL_0, show Y 37 1 = SN 11 from hN.2.1.2.2.2.1.1, show Y 47 1 = SN 92 from hN.2.1.2.2.2.1.2]
end OPX2
