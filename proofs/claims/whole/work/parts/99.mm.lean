/-! the law: what every case comes to, 3 -/
section OPX3
variable {L : Nat} {xs : Nat → Int32} {i kc ks : Nat} {F : zP} {f : Nat → Int64} {f2 : Nat → UInt64} {Y : Nat → Nat → Nat} {X : Nat → Nat} {SS : Nat → Nat → Nat} {SN AT CH CF CT BU PT : Nat → Nat} {sm ik th mn cl ln sp nu pa : Nat} {hs : Int64}
theorem op_regularOf (hL : L < 2 ^ 31) (hi : i + 7 ≤ L) (hI : Inv Y X SS SN sm ik) (hT : InT Y BU ln) (k : ∀ M', LI M' → G (mLaw L xs) 11 kc ks none 28 (lwl (i + 7)) [] M' F) : G (mLaw L xs) 11 (kc + 1) (ks + 6) none 915 (lwl i) [] (cM (mM (oM f f2) X (SVf SS) SN AT CH CF CT BU PT sm ik th mn cl ln sp nu pa hs) Y) F := by
  obtain ⟨hw, hA, hX0, hX1, hX2, hX3⟩ := id hI.1
  have a6 : Y 10 1 = X 11 := hA.2.2.2.1.1
  cases c1 : zin (xs (i + 1)) (nI 0) (nI (X 11) - nI 1)
  · exact wL_regularOf hL hi rfl rfl (b := nI 0) (kk := 1) (by omega) (hL_regularOf_t1 (cM_H rfl) (kX5_regularOf1 _ _ (by rw [a6]; exact c1))) (d2 := 4) (by omega) (fun M1 h1 => by
      subst h1
      rw [cm_comm]
      exact ⟨zi_mono (kX6_regularOf1 _ _ c1) (fun M' h' => by subst h'; exact LJ_mk hI hT (fun q => absurd q (by decide))), _, rfl⟩) k
  cases c2 : zin (xs (i + 2)) (nI 0) (nI 10)
  · exact wL_regularOf hL hi rfl rfl (b := nI 0) (kk := 2) (by omega) (hL_regularOf_t2 (cM_H rfl) (kX5_regularOf2 _ _ (by rw [a6]; exact c1) c2)) (d2 := 4) (by omega) (fun M1 h1 => by
      subst h1
      rw [cm_comm]
      exact ⟨zi_mono (kX6_regularOf2 _ _ c1 c2) (fun M' h' => by subst h'; exact LJ_mk hI hT (fun q => absurd q (by decide))), _, rfl⟩) k
  obtain ⟨n, hn, e1⟩ := zin_cnt (by have := hX0.2.1; omega) c1
  obtain ⟨w, -, hw10, e2⟩ := zin_i (by decide) (by decide) c2
  rw [e1] at c1
  have hro : roC Y n w = ofR X n w := ab_ro hA hn hw10
  refine wL_regularOf hL hi e1 e2 (b := ofR X n w) (kk := 0) (by omega) (hL_regularOf_v (f := f) (cM_H rfl) (kX5_regularOf hw (by rw [a6]; exact hn) hw10 (by rw [a6]; exact c1)) (fun M1 q => ?_)) (d2 := 4) (by omega) (fun M1 h1 => ?_) k
  · subst q
    rfl
  · obtain ⟨M2, rfl, rfl⟩ := h1
    rw [oM_l, cm_comm]
    refine ⟨zi_mono (kX6_regularOf hX0 hn hw10) (fun M' h' => ?_), _, rfl⟩
    subst h'
    refine LJ_mk hI hT (fun _ => ?_)
    rw [upL_0, hro]
theorem op_singleOf (hL : L < 2 ^ 31) (hi : i + 7 ≤ L) (hI : Inv Y X SS SN sm ik) (hT : InT Y BU ln) (k : ∀ M', LI M' → G (mLaw L xs) 11 kc ks none 28 (lwl (i + 7)) [] M' F) : G (mLaw L xs) 11 (kc + 1) (ks + 6) none 983 (lwl i) [] (cM (mM (oM f f2) X (SVf SS) SN AT CH CF CT BU PT sm ik th mn cl ln sp nu pa hs) Y) F := by
  obtain ⟨hw, hA, hX0, hX1, hX2, hX3⟩ := id hI.1
  have a7 : Y 20 1 = X 92 := hA.2.2.2.1.2
  cases c1 : zin (xs (i + 1)) (nI 0) (nI (X 92) - nI 1)
  · exact wL_singleOf hL hi rfl rfl (b := nI 0) (kk := 1) (by omega) (hL_singleOf_t1 (cM_H rfl) (kX5_singleOf1 _ _ (by rw [a7]; exact c1))) (d2 := 4) (by omega) (fun M1 h1 => by
      subst h1
      rw [cm_comm]
      exact ⟨zi_mono (kX6_singleOf1 _ _ c1) (fun M' h' => by subst h'; exact LJ_mk hI hT (fun q => absurd q (by decide))), _, rfl⟩) k
  cases c2 : zin (xs (i + 2)) (nI 0) (nI 6)
  · exact wL_singleOf hL hi rfl rfl (b := nI 0) (kk := 2) (by omega) (hL_singleOf_t2 (cM_H rfl) (kX5_singleOf2 _ _ (by rw [a7]; exact c1) c2)) (d2 := 4) (by omega) (fun M1 h1 => by
      subst h1
      rw [cm_comm]
      exact ⟨zi_mono (kX6_singleOf2 _ _ c1 c2) (fun M' h' => by subst h'; exact LJ_mk hI hT (fun q => absurd q (by decide))), _, rfl⟩) k
  obtain ⟨n, hn, e1⟩ := zin_cnt (by have := hX0.2.2; omega) c1
  obtain ⟨w, -, hw6, e2⟩ := zin_i (by decide) (by decide) c2
  rw [e1] at c1
  have hro : soC Y n w = nI (X (93 + 7 * n + w)) := ab_so hA hn hw6
  refine wL_singleOf hL hi e1 e2 (b := nI (X (93 + 7 * n + w))) (kk := 0) (by omega) (hL_singleOf_v (f := f) (cM_H rfl) (kX5_singleOf hw (by rw [a7]; exact hn) hw6 (by rw [a7]; exact c1)) (fun M1 q => ?_)) (d2 := 4) (by omega) (fun M1 h1 => ?_) k
  · subst q
    rfl
  · obtain ⟨M2, rfl, rfl⟩ := h1
    rw [oM_l, cm_comm]
    refine ⟨zi_mono (kX6_singleOf hX0 hn hw6) (fun M' h' => ?_), _, rfl⟩
    subst h'
    refine LJ_mk hI hT (fun _ => ?_)
    rw [upL_0, hro]
theorem op_who (hL : L < 2 ^ 31) (hi : i + 7 ≤ L) (hI : Inv Y X SS SN sm ik) (hT : InT Y BU ln) (k : ∀ M', LI M' → G (mLaw L xs) 11 kc ks none 28 (lwl (i + 7)) [] M' F) : G (mLaw L xs) 11 (kc + 1) (ks + 6) none 1051 (lwl i) [] (cM (mM (oM f f2) X (SVf SS) SN AT CH CF CT BU PT sm ik th mn cl ln sp nu pa hs) Y) F := by
  obtain ⟨hw, hA, hX0, hX1, hX2, hX3⟩ := id hI.1
  cases c1 : zin (xs (i + 1)) (nI 0) (nI 2)
  · exact wL_who hL hi rfl rfl rfl (b := nI 0) (kk := 1) (by omega) (hL_who_t1 (cM_H rfl) (kX5_who1 _ _ _ c1)) (d2 := 5) (by omega) (fun M1 h1 => by
      subst h1
      rw [cm_comm]
      exact ⟨zi_mono (kX6_who1 _ _ _ c1) (fun M' h' => by subst h'; exact LJ_mk hI hT (fun q => absurd q (by decide))), _, rfl⟩) k
  cases c2 : (zin (xs (i + 2)) (nI 0) (nI 83) && zin (xs (i + 3)) (nI 0) (nI 23))
  · exact wL_who hL hi rfl rfl rfl (b := nI 0) (kk := 2) (by omega) (hL_who_t2 (cM_H rfl) (kX5_who2 _ _ _ c1 c2)) (d2 := 5) (by omega) (fun M1 h1 => by
      subst h1
      rw [cm_comm]
      exact ⟨zi_mono (kX6_who2 _ _ _ c1 c2) (fun M' h' => by subst h'; exact LJ_mk hI hT (fun q => absurd q (by decide))), _, rfl⟩) k
  simp only [Bool.and_eq_true] at c2
  obtain ⟨h, -, hh, e1⟩ := zin_i (by decide) (by decide) c1
  obtain ⟨day, -, hd83, e2⟩ := zin_i (by decide) (by decide) c2.1
  obtain ⟨hr, -, hr1, e3⟩ := zin_i (by decide) (by decide) c2.2
  have hd : day < 84 := by omega
  refine wL_who hL hi e1 e2 e3 (b := tnS X h hr (lk X day) (-1)) (kk := 0) (by omega) (hL_who_v (f := f) (cM_H rfl) (kX5_who hw hh hd hr1) (fun M1 q => ?_)) (d2 := 5) (by omega) (fun M1 h1 => ?_) k
  · obtain ⟨Y', rfl, q1⟩ := q
    rfl
  · obtain ⟨M2, ⟨Y', rfl, q1⟩, rfl⟩ := h1
    rw [oM_l, cm_comm]
    refine ⟨zi_mono (kX6_who hX0 hh hd hr1) (fun M' h' => ?_), _, rfl⟩
    obtain ⟨AT', CH', CF', CT', mn', cl', rfl⟩ := h'
    refine LJ_mk (Inv_scr hI q1) (InT_scr hT q1) (fun _ => ?_)
    rw [upL_0, ab_who hA hw hX2 hX3 hd (by omega)]
theorem op_hallOf (hL : L < 2 ^ 31) (hi : i + 7 ≤ L) (hI : Inv Y X SS SN sm ik) (hT : InT Y BU ln) (k : ∀ M', LI M' → G (mLaw L xs) 11 kc ks none 28 (lwl (i + 7)) [] M' F) : G (mLaw L xs) 11 (kc + 1) (ks + 6) none 1131 (lwl i) [] (cM (mM (oM f f2) X (SVf SS) SN AT CH CF CT BU PT sm ik th mn cl ln sp nu pa hs) Y) F := by
  obtain ⟨hw, hA, hX0, hX1, hX2, hX3⟩ := id hI.1
  cases c1 : zin (xs (i + 1)) (nI 0) (nI 2)
  · exact wL_hallOf hL hi rfl rfl rfl (b := nI 0) (kk := 1) (by omega) (hL_hallOf_t1 (cM_H rfl) (kX5_hallOf1 _ _ _ c1)) (d2 := 5) (by omega) (fun M1 h1 => by
      subst h1
      rw [cm_comm]
      exact ⟨zi_mono (kX6_hallOf1 _ _ _ c1) (fun M' h' => by subst h'; exact LJ_mk hI hT (fun q => absurd q (by decide))), _, rfl⟩) k
  cases c2 : (zin (xs (i + 2)) (nI 0) (nI 83) && zin (xs (i + 3)) (nI 0) (nI 3))
  · exact wL_hallOf hL hi rfl rfl rfl (b := nI 0) (kk := 2) (by omega) (hL_hallOf_t2 (cM_H rfl) (kX5_hallOf2 _ _ _ c1 c2)) (d2 := 5) (by omega) (fun M1 h1 => by
      subst h1
      rw [cm_comm]
      exact ⟨zi_mono (kX6_hallOf2 _ _ _ c1 c2) (fun M' h' => by subst h'; exact LJ_mk hI hT (fun q => absurd q (by decide))), _, rfl⟩) k
  simp only [Bool.and_eq_true] at c2
  obtain ⟨h, -, hh, e1⟩ := zin_i (by decide) (by decide) c1
  obtain ⟨day, -, hd83, e2⟩ := zin_i (by decide) (by decide) c2.1
  obtain ⟨w, -, hw3, e3⟩ := zin_i (by decide) (by decide) c2.2
  have hd : day < 84 := by omega
  refine wL_hallOf hL hi e1 e2 e3 (b := ofH X h day w) (kk := 0) (by omega) (hL_hallOf_v (f := f) (cM_H rfl) (kX5_hallOf hw hh hd hw3) (fun M1 q => ?_)) (d2 := 5) (by omega) (fun M1 h1 => ?_) k
  · obtain ⟨Y', rfl, q1⟩ := q
    rfl
  · obtain ⟨M2, ⟨Y', rfl, q1⟩, rfl⟩ := h1
    rw [oM_l, cm_comm]
    refine ⟨zi_mono (kX6_hallOf hX0 hX2 hh hd hw3) (fun M' h' => ?_), _, rfl⟩
    obtain ⟨AT', CH', CF', CT', mn', cl', rfl⟩ := h'
    refine LJ_mk (Inv_scr hI q1) (InT_scr hT q1) (fun _ => ?_)
    rw [upL_0, ab_ho hA hw hX2 hX3 hd hw3]
theorem op_tenant (hL : L < 2 ^ 31) (hi : i + 7 ≤ L) (hI : Inv Y X SS SN sm ik) (hT : InT Y BU ln) (k : ∀ M', LI M' → G (mLaw L xs) 11 kc ks none 28 (lwl (i + 7)) [] M' F) : G (mLaw L xs) 11 (kc + 1) (ks + 6) none 1211 (lwl i) [] (cM (mM (oM f f2) X (SVf SS) SN AT CH CF CT BU PT sm ik th mn cl ln sp nu pa hs) Y) F := by
  obtain ⟨hw, hA, hX0, hX1, hX2, hX3⟩ := id hI.1
  cases c1 : zin (xs (i + 1)) (nI 0) (nI 19)
  · exact wL_tenant hL hi rfl rfl (b := nI 0) (kk := 1) (by omega) (hL_tenant_t1 (cM_H rfl) (kX5_tenant1 _ _ c1)) (d2 := 4) (by omega) (fun M1 h1 => by
      subst h1
      rw [cm_comm]
      exact ⟨zi_mono (kX6_tenant1 _ _ c1) (fun M' h' => by subst h'; exact LJ_mk hI hT (fun q => absurd q (by decide))), _, rfl⟩) k
  cases c2 : zin (xs (i + 2)) (nI 0) (nI 2)
  · exact wL_tenant hL hi rfl rfl (b := nI 0) (kk := 2) (by omega) (hL_tenant_t2 (cM_H rfl) (kX5_tenant2 _ _ c1 c2)) (d2 := 4) (by omega) (fun M1 h1 => by
      subst h1
      rw [cm_comm]
      exact ⟨zi_mono (kX6_tenant2 _ _ c1 c2) (fun M' h' => by subst h'; exact LJ_mk hI hT (fun q => absurd q (by decide))), _, rfl⟩) k
  obtain ⟨t, -, ht, e1⟩ := zin_i (by decide) (by decide) c1
  obtain ⟨w, -, hw2, e2⟩ := zin_i (by decide) (by decide) c2
  refine wL_tenant hL hi e1 e2 (b := nI (oT X (nI t) w)) (kk := 0) (by omega) (hL_tenant_v (f := f) (cM_H rfl) (kX5_tenant hw ht hw2) (fun M1 q => ?_)) (d2 := 4) (by omega) (fun M1 h1 => ?_) k
  · subst q
    rfl
  · obtain ⟨M2, rfl, rfl⟩ := h1
    rw [oM_l, cm_comm]
    refine ⟨zi_mono (kX6_tenant hX0 ht hw2) (fun M' h' => ?_), _, rfl⟩
    subst h'
    refine LJ_mk hI hT (fun _ => ?_)
    rw [upL_0, ab_sfT hA hw2]
theorem op_count (hL : L < 2 ^ 31) (hi : i + 7 ≤ L) (hI : Inv Y X SS SN sm ik) (hT : InT Y BU ln) (k : ∀ M', LI M' → G (mLaw L xs) 11 kc ks none 28 (lwl (i + 7)) [] M' F) : G (mLaw L xs) 11 (kc + 1) (ks + 6) none 1279 (lwl i) [] (cM (mM (oM f f2) X (SVf SS) SN AT CH CF CT BU PT sm ik th mn cl ln sp nu pa hs) Y) F := by
  obtain ⟨hw, hA, hX0, hX1, hX2, hX3⟩ := id hI.1
  cases c1 : zin (xs (i + 1)) (nI 0) (nI 12)
  · exact wL_count hL hi rfl (b := nI 0) (kk := 1) (by omega) (hL_count_t1 (cM_H rfl) (kX5_count1 _ c1)) (d2 := 5) (by omega) (fun M1 h1 => by
      subst h1
      rw [cm_comm]
      exact ⟨zi_mono (kX6_count1 _ c1) (fun M' h' => by subst h'; exact LJ_mk hI hT (fun q => absurd q (by decide))), _, rfl⟩) k
  obtain ⟨w, -, hw12, e1⟩ := zin_i (by decide) (by decide) c1
  refine wL_count hL hi e1 (b := nI (cnt0 X sm w)) (kk := 0) (by omega) (hL_count_v (f := f) (cM_H rfl) (kX5_count hw hw12) (fun M1 q => ?_)) (d2 := 5) (by omega) (fun M1 h1 => ?_) k
  · subst q
    rfl
  · obtain ⟨M2, rfl, rfl⟩ := h1
    rw [oM_l, cm_comm]
    refine ⟨zi_mono (kX6_count hX0 hw12) (fun M' h' => ?_), _, rfl⟩
    subst h'
    refine LJ_mk hI hT (fun _ => ?_)
    rw [upL_0, ab_cnt hA hw12, hI.2.1.2.1]
theorem op_refusal (hL : L < 2 ^ 31) (hi : i + 7 ≤ L) (hI : Inv Y X SS SN sm ik) (hT : InT Y BU ln) (k : ∀ M', LI M' → G (mLaw L xs) 11 kc ks none 28 (lwl (i + 7)) [] M' F) : G (mLaw L xs) 11 (kc + 1) (ks + 6) none 1335 (lwl i) [] (cM (mM (oM f f2) X (SVf SS) SN AT CH CF CT BU PT sm ik th mn cl ln sp nu pa hs) Y) F := by
  have hC := Inv_wC hI
  obtain ⟨hw, hA, hX0, hX1, hX2, hX3⟩ := id hI.1
  cases c1 : zin (xs (i + 1)) (nI 0) (nI 2)
  · exact wL_refusal hL hi rfl rfl rfl rfl rfl (b := nI 0) (kk := 1) (by omega) (hL_refusal_t1 (cM_H rfl) (kX5_refusal1 _ _ _ _ _ c1)) (d2 := 5) (by omega) (fun M1 h1 => by
      subst h1
      rw [cm_comm]
      exact ⟨zi_mono (kX6_refusal1 _ _ _ _ _ c1) (fun M' h' => by subst h'; exact LJ_mk hI hT (fun q => absurd q (by decide))), _, rfl⟩) k
  cases c2 : (zin (xs (i + 2)) (nI 0) (nI 83) && zhrs (xs (i + 3)) (xs (i + 4)) && zin (xs (i + 5)) (nI 1) (nI 9))
  · exact wL_refusal hL hi rfl rfl rfl rfl rfl (b := nI 0) (kk := 2) (by omega) (hL_refusal_t2 (cM_H rfl) (kX5_refusal2 _ _ _ _ _ c1 c2)) (d2 := 5) (by omega) (fun M1 h1 => by
      subst h1
      rw [cm_comm]
      exact ⟨zi_mono (kX6_refusal2 _ _ _ _ _ c1 c2) (fun M' h' => by subst h'; exact LJ_mk hI hT (fun q => absurd q (by decide))), _, rfl⟩) k
  simp only [Bool.and_eq_true] at c2
  obtain ⟨⟨c3, c4⟩, c5⟩ := c2
  obtain ⟨h, -, hh, e1⟩ := zin_i (by decide) (by decide) c1
  obtain ⟨day, -, hd83, e2⟩ := zin_i (by decide) (by decide) c3
  obtain ⟨fr, t, hft, ht, e3, e4⟩ := zhrs_i c4
  obtain ⟨r, hr, hr2, e5⟩ := zin_i (by decide) (by decide) c5
  have hd : day < 84 := by omega
  have hzz : (if Y 20 1 = 12 then 1 else rsO (uA Y 70 (dsV Y h day fr t r 0)) day) = rfs X h day fr t r := ab_rf hA hw hd _
  have hvB := dsV_B hC (h := h) (day := day) (f := fr) (t := t) (r := r) (te := 0) hh hd hft ht hr2 (by omega)
  refine wL_refusal hL hi e1 e2 e3 e4 e5 (b := nI (rfs X h day fr t r)) (kk := 0) (by omega) (hL_refusal_v (f := f) (cM_H rfl) (kX5_refusal hC hw hh hd hft ht hr hr2) (fun M1 q => ?_)) (d2 := 5) (by omega) (fun M1 h1 => ?_) k
  · obtain ⟨Y', rfl, q1⟩ := q
    rfl
  · obtain ⟨M2, ⟨Y', rfl, q1⟩, rfl⟩ := h1
    rw [oM_l, cm_comm]
    refine ⟨zi_mono (kX6_refusal hX0 hh hd hft ht hr hr2) (fun M' h' => ?_), _, rfl⟩
    obtain ⟨AT', CH', CF', CT', mn', cl', rfl⟩ := h'
    refine LJ_mk (Inv_scr (Inv_70 hI (vB_dB hvB)) q1) (InT_scr (InT_u hT _ (by omega)) q1) (fun _ => ?_)
    rw [upL_0, hzz]
theorem op_price (hL : L < 2 ^ 31) (hi : i + 7 ≤ L) (hI : Inv Y X SS SN sm ik) (hT : InT Y BU ln) (k : ∀ M', LI M' → G (mLaw L xs) 11 kc ks none 28 (lwl (i + 7)) [] M' F) : G (mLaw L xs) 11 (kc + 1) (ks + 6) none 1439 (lwl i) [] (cM (mM (oM f f2) X (SVf SS) SN AT CH CF CT BU PT sm ik th mn cl ln sp nu pa hs) Y) F := by
  have hC := Inv_wC hI
  obtain ⟨hw, hA, hX0, hX1, hX2, hX3⟩ := id hI.1
  cases c1 : zin (xs (i + 1)) (nI 0) (nI 2)
  · exact wL_price hL hi rfl rfl rfl rfl (b := nI 0) (kk := 1) (by omega) (hL_price_t1 (cM_H rfl) (kX5_price1 _ _ _ _ c1)) (d2 := 2) (by omega) (fun M1 h1 => by
      subst h1
      rw [cm_comm]
      exact ⟨zi_mono (kX6_price1 _ _ _ _ c1) (fun M' h' => by subst h'; exact LJ_mk hI hT (fun q => absurd q (by decide))), _, rfl⟩) k
  cases c2 : (zin (xs (i + 2)) (nI 0) (nI 83) && zhrs (xs (i + 3)) (xs (i + 4)))
  · exact wL_price hL hi rfl rfl rfl rfl (b := nI 0) (kk := 2) (by omega) (hL_price_t2 (cM_H rfl) (kX5_price2 _ _ _ _ c1 c2)) (d2 := 2) (by omega) (fun M1 h1 => by
      subst h1
      rw [cm_comm]
      exact ⟨zi_mono (kX6_price2 _ _ _ _ c1 c2) (fun M' h' => by subst h'; exact LJ_mk hI hT (fun q => absurd q (by decide))), _, rfl⟩) k
  simp only [Bool.and_eq_true] at c2
  obtain ⟨c3, c4⟩ := c2
  obtain ⟨h, -, hh, e1⟩ := zin_i (by decide) (by decide) c1
  obtain ⟨day, -, hd83, e2⟩ := zin_i (by decide) (by decide) c3
  obtain ⟨fr, t, hft, ht, e3, e4⟩ := zhrs_i c4
  have hd : day < 84 := by omega
  have hpr : vRn Y h (day % 7) (t - fr) 0 = sRent X h day fr t := ab_vRn hA (by omega)
  refine wL_price hL hi e1 e2 e3 e4 (b := nI (sRent X h day fr t)) (kk := 0) (by omega) (hL_price_v (f := f) (cM_H rfl) (kX5_price hC hh hd hft ht) (fun M1 q => ?_)) (d2 := 2) (by omega) (fun M1 h1 => ?_) k
  · subst q
    rfl
  · obtain ⟨M2, rfl, rfl⟩ := h1
    rw [oM_l, cm_comm]
    refine ⟨zi_mono (kX6_price hX1 hh hd hft ht) (fun M' h' => ?_), _, rfl⟩
    subst h'
    refine LJ_mk hI hT (fun _ => ?_)
    rw [upL_0, hpr]
theorem op_nextFree (hL : L < 2 ^ 31) (hi : i + 7 ≤ L) (hI : Inv Y X SS SN sm ik) (hT : InT Y BU ln) (k : ∀ M', LI M' → G (mLaw L xs) 11 kc ks none 28 (lwl (i + 7)) [] M' F) : G (mLaw L xs) 11 (kc + 1) (ks + 6) none 1531 (lwl i) [] (cM (mM (oM f f2) X (SVf SS) SN AT CH CF CT BU PT sm ik th mn cl ln sp nu pa hs) Y) F := by
  have hC := Inv_wC hI
  obtain ⟨hw, hA, hX0, hX1, hX2, hX3⟩ := id hI.1
  cases c1 : zin (xs (i + 1)) (nI 0) (nI 2)
  · exact wL_nextFree hL hi rfl rfl rfl (b := nI 0) (kk := 1) (by omega) (hL_nextFree_t1 (cM_H rfl) (kX5_nextFree1 _ _ _ c1)) (d2 := 6) (by omega) (fun M1 h1 => by
      subst h1
      rw [cm_comm]
      exact ⟨zi_mono (kX6_nextFree1 _ _ _ c1) (fun M' h' => by subst h'; exact LJ_mk hI hT (fun q => absurd q (by decide))), _, rfl⟩) k
  cases c2 : (zin (xs (i + 2)) (nI 0) (nI 83) && zin (xs (i + 3)) (nI 1) (nI 24))
  · exact wL_nextFree hL hi rfl rfl rfl (b := nI 0) (kk := 2) (by omega) (hL_nextFree_t2 (cM_H rfl) (kX5_nextFree2 _ _ _ c1 c2)) (d2 := 6) (by omega) (fun M1 h1 => by
      subst h1
      rw [cm_comm]
      exact ⟨zi_mono (kX6_nextFree2 _ _ _ c1 c2) (fun M' h' => by subst h'; exact LJ_mk hI hT (fun q => absurd q (by decide))), _, rfl⟩) k
  simp only [Bool.and_eq_true] at c2
  obtain ⟨h, -, hh, e1⟩ := zin_i (by decide) (by decide) c1
  obtain ⟨day, -, hd83, e2⟩ := zin_i (by decide) (by decide) c2.1
  obtain ⟨hr, hr0, hr1, e3⟩ := zin_i (by decide) (by decide) c2.2
  have hd : day < 84 := by omega
  have hnf : (if Y 20 1 = 12 then (-1 : Int32) else nfC Y h hr (84 - day) day) = ffD X h hr (84 - day) day := ab_nfx hA hw (by omega)
  refine wL_nextFree hL hi e1 e2 e3 (b := ffD X h hr (84 - day) day) (kk := 0) (by omega) (hL_nextFree_v (f := f) (cM_H rfl) (kX5_nextFree hC hw hI.2.2.2 hh hd hr0 hr1) (fun M1 q => ?_)) (d2 := 6) (by omega) (fun M1 h1 => ?_) k
  · obtain ⟨Y', u, rfl, q1, q2⟩ := q
    rfl
  · obtain ⟨M2, ⟨Y', u, rfl, q1, q2⟩, rfl⟩ := h1
    rw [oM_l, cm_comm]
    refine ⟨zi_mono (kX6_nextFree hX0 hh hd hr0 hr1) (fun M' h' => ?_), _, rfl⟩
    obtain ⟨AT', CH', CF', CT', mn', cl', rfl⟩ := h'
    refine LJ_mk (Inv_scr (Inv_70 hI q1) q2) (InT_scr (InT_u hT _ (by omega)) q2) (fun _ => ?_)
    rw [upL_0, hnf]
theorem op_fullness (hL : L < 2 ^ 31) (hi : i + 7 ≤ L) (hI : Inv Y X SS SN sm ik) (hT : InT Y BU ln) (k : ∀ M', LI M' → G (mLaw L xs) 11 kc ks none 28 (lwl (i + 7)) [] M' F) : G (mLaw L xs) 11 (kc + 1) (ks + 6) none 1624 (lwl i) [] (cM (mM (oM f f2) X (SVf SS) SN AT CH CF CT BU PT sm ik th mn cl ln sp nu pa hs) Y) F := by
  obtain ⟨hw, hA, hX0, hX1, hX2, hX3⟩ := id hI.1
  cases c1 : zin (xs (i + 1)) (nI 0) (nI 2)
  · exact wL_fullness hL hi rfl (b := FP.i2d 0) (kk := 1) (by omega) (hL_fullness_t1 (cM_H rfl) (kX5_fullness1 _ c1)) (d2 := 5) (by omega) (fun M1 h1 => by
      subst h1
      rw [cm_comm]
      exact ⟨zd_mono (kX6_fullness1 _ c1) (fun M' h' => by subst h'; exact LJd_mk hI hT (fun q => absurd q (by decide))), _, rfl⟩) k
  obtain ⟨h, -, hh, e1⟩ := zin_i (by decide) (by decide) c1
  have hsh : FP.ddiv (FP.i2d (nI (hiT Y h))) 4656581277212737536 = shD X h := by rw [ab_hi hA]; rfl
  refine wL_fullness hL hi e1 (b := shD X h) (kk := 0) (by omega) (hL_fullness_v (f := f2) (cM_H rfl) (kX5_fullness hw hh) (fun M1 q => ?_)) (d2 := 5) (by omega) (fun M1 h1 => ?_) k
  · subst q
    rfl
  · obtain ⟨M2, rfl, rfl⟩ := h1
    rw [oM_d, cm_comm]
    refine ⟨zd_mono (kX6_fullness hX0 hX2 hh) (fun M' h' => ?_), _, rfl⟩
    obtain ⟨AT', CH', CF', CT', mn', cl', rfl⟩ := h'
    refine LJd_mk hI hT (fun _ => ⟨?_, z2016 _⟩)
    rw [upD_0, hsh]
theorem op_best (hL : L < 2 ^ 31) (hi : i + 7 ≤ L) (hI : Inv Y X SS SN sm ik) (hT : InT Y BU ln) (k : ∀ M', LI M' → G (mLaw L xs) 11 kc ks none 28 (lwl (i + 7)) [] M' F) : G (mLaw L xs) 11 kc ks none 1611 (lwl i) [] (cM (mM (oM f f2) X (SVf SS) SN AT CH CF CT BU PT sm ik th mn cl ln sp nu pa hs) Y) F := by
  obtain ⟨hw, hA, hX0, hX1, hX2, hX3⟩ := id hI.1
  have h1 := @kX5_best (mM (oM f f2) X (SVf SS) SN AT CH CF CT BU PT sm ik th mn cl ln sp nu pa hs) Y hw (fun n _ => inv_sf hI _ (by omega))
  rw [ab_bt hA] at h1
  refine vL_best hL hi h1 (cM_H rfl) (d2 := 5) (by omega) (fun M1 h1 => ?_) k
  subst h1
  rw [cm_comm]
  exact ⟨zi_mono (kX6_best hX0 (fun n _ => oT_b hI.1.2.2 _ (by omega))) (fun M' h' => by subst h'; exact LI_mk hI hT), _, rfl⟩
theorem op_meanRent (hL : L < 2 ^ 31) (hi : i + 7 ≤ L) (hI : Inv Y X SS SN sm ik) (hT : InT Y BU ln) (k : ∀ M', LI M' → G (mLaw L xs) 11 kc ks none 28 (lwl (i + 7)) [] M' F) : G (mLaw L xs) 11 kc ks none 1701 (lwl i) [] (cM (mM (oM f f2) X (SVf SS) SN AT CH CF CT BU PT sm ik th mn cl ln sp nu pa hs) Y) F := by
  obtain ⟨hw, hA, hX0, hX1, hX2, hX3⟩ := id hI.1
  have h1 := @kX5_meanRent (mM (oM f f2) X (SVf SS) SN AT CH CF CT BU PT sm ik th mn cl ln sp nu pa hs) Y hw
  rw [ab_sfT hA (by omega)] at h1
  refine vL_meanRent hL hi (b := mnF X) (z84 _) h1 (cM_H rfl) (d2 := 6) (by omega) (fun M1 h1 => ?_) k
  subst h1
  rw [cm_comm]
  exact ⟨zg_mono (kX6_meanRent hX0) (fun M' h' => by subst h'; exact LI_mk hI hT), _, rfl⟩
theorem op_digest (hL : L < 2 ^ 31) (hi : i + 7 ≤ L) (hI : Inv Y X SS SN sm ik) (hT : InT Y BU ln) (k : ∀ M', LI M' → G (mLaw L xs) 11 kc ks none 28 (lwl (i + 7)) [] M' F) : G (mLaw L xs) 11 kc ks none 1744 (lwl i) [] (cM (mM (oM f f2) X (SVf SS) SN AT CH CF CT BU PT sm ik th mn cl ln sp nu pa hs) Y) F := by
  obtain ⟨hw, hA, hX0, hX1, hX2, hX3⟩ := id hI.1
  have h1 := @kX5_digest (mM (oM f f2) X (SVf SS) SN AT CH CF CT BU PT sm ik th mn cl ln sp nu pa hs) Y (Inv_wC hI) hw (InT_wT hT) hI.2.2.2 (fun a _ => inv_hi hI a) (fun n _ => inv_sf hI _ (by omega)) (inv_sf hI _ (by omega))
  rw [dg_all hI hT] at h1
  refine vL_digest hL hi h1 (cM_H rfl) (d2 := 7) (by omega) (fun M1 h1 => ?_) k
  obtain ⟨Z, rfl, q1, v, q2⟩ := h1
  rw [cm_comm]
  refine ⟨zj_mono (kX6_digest hX0 hX1 hX2 (fun n _ => oT_b hI.1.2.2 _ (by omega)) hT.2.1) (fun M' h' => ?_), _, rfl⟩
  obtain ⟨AT', CH', CF', CT', mn', cl', rfl⟩ := h'
  refine LI_mk (Inv_same hI (fun q hq => ?_) q1) (InT_scr (InT_u hT v (by omega)) q2)
  rw [q2 q (by omega) (by omega) (by omega), uA_n _ _ (by omega)]
end OPX3
