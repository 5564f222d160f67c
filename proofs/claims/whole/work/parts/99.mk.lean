/-! the law: what every case comes to, 1 -/
theorem zhrs_i {a b : Int32} (h : zhrs a b = true) : ∃ f t, f < t ∧ t ≤ 24 ∧ a = nI f ∧ b = nI t := by
  simp only [zhrs, Bool.and_eq_true] at h
  obtain ⟨f, -, hf, rfl⟩ := zin_i (by decide) (by decide) h.1
  have h2 := h.2
  rw [nI_add] at h2
  obtain ⟨t, ht, ht2, rfl⟩ := zin_i (by omega) (by decide) h2
  exact ⟨f, t, by omega, ht2, rfl, rfl⟩
theorem zwho_i {a b : Int32} (h : zwho a b = true) : ∃ r e, 1 ≤ r ∧ r ≤ 9 ∧ e ≤ 19 ∧ a = nI r ∧ b = nI e := by
  simp only [zwho, Bool.and_eq_true] at h
  obtain ⟨r, h1, h2, rfl⟩ := zin_i (by decide) (by decide) h.1
  obtain ⟨e, -, h3, rfl⟩ := zin_i (by decide) (by decide) h.2
  exact ⟨r, e, h1, h2, h3, rfl, rfl⟩
theorem InT_scr {Y Z : Nat → Nat → Nat} {BU : Nat → Nat} {ln : Nat} (hT : InT Y BU ln) (h : scr Y Z) : InT Z BU ln := InT_same (h 64 (by omega) (by omega) (by omega)) (h 65 (by omega) (by omega) (by omega)) (h 66 (by omega) (by omega) (by omega)) hT
theorem InT_u {Y : Nat → Nat → Nat} {BU : Nat → Nat} {ln q : Nat} (hT : InT Y BU ln) (v : Nat → Nat) (hq : q < 64 ∨ 67 ≤ q) : InT (uA Y q v) BU ln := InT_same (uA_n _ _ (by omega)) (uA_n _ _ (by omega)) (uA_n _ _ (by omega)) hT
theorem InT_far {Y Z : Nat → Nat → Nat} {BU : Nat → Nat} {ln : Nat} (hT : InT Y BU ln) (h : ∀ q, 64 ≤ q → q < 67 → Z q = Y q) : InT Z BU ln := InT_same (h 64 (by omega) (by omega)) (h 65 (by omega) (by omega)) (h 66 (by omega) (by omega)) hT
theorem InT_sv {Y Z : Nat → Nat → Nat} {BU : Nat → Nat} {ln : Nat} {X : Nat → Nat} {SS : Nat → Nat → Nat} {SN : Nat → Nat} {sm ik : Nat} (hI : Inv Y X SS SN sm ik) (hT : InT Y BU ln) (h : svRel Y Z) : InT Z BU ln := InT_far hT (fun q h1 h2 => svRel_k h hI.2.1.1 (by have := hI.2.1.2.1; have := hI.2.1.2.2.1; omega) (by omega) (by omega) (by omega))
theorem Inv_6 {Y : Nat → Nat → Nat} {X : Nat → Nat} {SS : Nat → Nat → Nat} {SN : Nat → Nat} {sm ik : Nat} (hI : Inv Y X SS SN sm ik) : Y 8 4 ≤ 6 := by
  have := hI.2.1.2.1
  have := hI.2.1.2.2.1
  omega
section OPX
variable {L : Nat} {xs : Nat → Int32} {i kc ks : Nat} {F : zP} {f : Nat → Int64} {f2 : Nat → UInt64} {Y : Nat → Nat → Nat} {X : Nat → Nat} {SS : Nat → Nat → Nat} {SN AT CH CF CT BU PT : Nat → Nat} {sm ik th mn cl ln sp nu pa : Nat} {hs : Int64}
theorem op_single (hL : L < 2 ^ 31) (hi : i + 7 ≤ L) (hI : Inv Y X SS SN sm ik) (hT : InT Y BU ln) (k : ∀ M', LI M' → G (mLaw L xs) 11 kc ks none 28 (lwl (i + 7)) [] M' F) : G (mLaw L xs) 11 (kc + 1) (ks + 6) none 282 (lwl i) [] (cM (mM (oM f f2) X (SVf SS) SN AT CH CF CT BU PT sm ik th mn cl ln sp nu pa hs) Y) F := by
  have hC := Inv_wC hI
  have h6 := Inv_6 hI
  obtain ⟨hw, hA, hX0, hX1, hX2, hX3⟩ := id hI.1
  cases c1 : zin (xs (i + 1)) (nI 0) (nI 2)
  · exact wL_single hL hi rfl rfl rfl rfl rfl rfl (b := nI 0) (kk := 1) (by omega) (hL_single_t1 (cM_H rfl) (kX5_single1 _ _ _ _ _ _ c1)) (d2 := 2) (by omega) (fun M1 h1 => by
      subst h1
      rw [cm_comm]
      exact ⟨zi_mono (kX6_single1 c1) (fun M' h' => by subst h'; exact LJ_mk hI hT (fun q => absurd q (by decide))), _, rfl⟩) k
  cases c2 : (zin (xs (i + 2)) (nI 0) (nI 83) && zhrs (xs (i + 3)) (xs (i + 4)) && zwho (xs (i + 5)) (xs (i + 6)))
  · exact wL_single hL hi rfl rfl rfl rfl rfl rfl (b := nI 0) (kk := 2) (by omega) (hL_single_t2 (cM_H rfl) (kX5_single2 _ _ _ _ _ _ c1 c2)) (d2 := 2) (by omega) (fun M1 h1 => by
      subst h1
      rw [cm_comm]
      exact ⟨zi_mono (kX6_single2 c1 c2) (fun M' h' => by subst h'; exact LJ_mk hI hT (fun q => absurd q (by decide))), _, rfl⟩) k
  simp only [Bool.and_eq_true] at c2
  obtain ⟨⟨c3, c4⟩, c5⟩ := c2
  obtain ⟨h, -, hh, e1⟩ := zin_i (by decide) (by decide) c1
  obtain ⟨day, -, hd83, e2⟩ := zin_i (by decide) (by decide) c3
  obtain ⟨fr, t, hft, ht, e3, e4⟩ := zhrs_i c4
  obtain ⟨r, te, hr, hr2, hte, e5, e6⟩ := zwho_i c5
  have hd : day < 84 := by omega
  have hzz : (if Y 20 1 = 12 then 1 else rsO (uA Y 70 (dsV Y h day fr t r te)) day) = rfs X h day fr t r := ab_rf hA hw hd _
  by_cases hz : rfs X h day fr t r = 0
  · refine wL_single hL hi e1 e2 e3 e4 e5 e6 (b := nI (gw X day h fr t).1) (kk := 0) (by omega) (hL_single_v (f := f) (cM_H rfl) (kX5_single hC hw hI.2.1.1 h6 hh hd hft ht hr hr2 hte (hzz.trans hz)) (fun M1 q => ?_)) (d2 := 5) (by omega) (fun M1 h1 => ?_) k
    · obtain ⟨Y', Y3, A, s, q1, q2, rfl, q3, q4, q5⟩ := q
      rfl
    · obtain ⟨M2, ⟨Y', Y3, A, s, q1, q2, rfl, q3, q4, q5⟩, rfl⟩ := h1
      rw [oM_l, cm_comm]
      refine ⟨zi_mono (kX6_single hX0 hX1 hI.2.1.2.2.1 hh hd hft ht hr hr2 hte hz) (fun M' h' => ?_), _, rfl⟩
      obtain ⟨AT', CH', CF', CT', mn', cl', rfl⟩ := h'
      obtain ⟨v1, v2⟩ := inv_single hI hh hd hft ht hr hr2 hte hz q1 q2 (msRel_of q3 q4 q5)
      have hvB := dsV_B hC (h := h) (day := day) (f := fr) (t := t) (r := r) (te := te) hh hd hft ht hr2 hte
      refine LJ_mk v1 (InT_far (InT_sv (Inv_scr (Inv_70 hI (vB_dB hvB)) q1) (InT_scr (InT_u hT _ (by omega)) q1) q2) (fun q w1 w2 => v2 q (by omega))) (fun _ => ?_)
      rw [upL_0, ans_single hI hd]
  · have hvB := dsV_B hC (h := h) (day := day) (f := fr) (t := t) (r := r) (te := te) hh hd hft ht hr2 hte
    exact wL_single hL hi e1 e2 e3 e4 e5 e6 (b := nI 0) (kk := 3) (by omega) (hL_single_t3 (cM_H rfl) (kX5_single3 hC hw hh hd hft ht hr hr2 hte (by rw [hzz]; exact hz))) (d2 := 5) (by omega) (fun M1 h1 => by
      obtain ⟨Y', q1, rfl⟩ := h1
      rw [cm_comm]
      exact ⟨zi_mono (kX6_single3 hX0 hh hd hft ht hr hr2 hte (Nat.pos_of_ne_zero hz)) (fun M' h' => by
        obtain ⟨AT', CH', CF', CT', mn', cl', rfl⟩ := h'
        exact LJ_mk (Inv_scr (Inv_70 hI (vB_dB hvB)) q1) (InT_scr (InT_u hT _ (by omega)) q1) (fun q => absurd q (by decide))), _, rfl⟩) k
theorem op_regular (hL : L < 2 ^ 31) (hi : i + 7 ≤ L) (hI : Inv Y X SS SN sm ik) (hT : InT Y BU ln) (k : ∀ M', LI M' → G (mLaw L xs) 11 kc ks none 28 (lwl (i + 7)) [] M' F) : G (mLaw L xs) 11 (kc + 1) (ks + 6) none 164 (lwl i) [] (cM (mM (oM f f2) X (SVf SS) SN AT CH CF CT BU PT sm ik th mn cl ln sp nu pa hs) Y) F := by
  have hC := Inv_wC hI
  have h6 := Inv_6 hI
  obtain ⟨hw, hA, hX0, hX1, hX2, hX3⟩ := id hI.1
  cases c1 : zin (xs (i + 1)) (nI 0) (nI 2)
  · exact wL_regular hL hi rfl rfl rfl rfl rfl rfl (b := nI 0) (kk := 1) (by omega) (hL_regular_t1 (cM_H rfl) (kX5_regular1 _ _ _ _ _ _ c1)) (d2 := 2) (by omega) (fun M1 h1 => by
      subst h1
      rw [cm_comm]
      exact ⟨zi_mono (kX6_regular1 c1) (fun M' h' => by subst h'; exact LJ_mk hI hT (fun q => absurd q (by decide))), _, rfl⟩) k
  cases c2 : (zin (xs (i + 2)) (nI 0) (nI 6) && zhrs (xs (i + 3)) (xs (i + 4)) && zwho (xs (i + 5)) (xs (i + 6)))
  · exact wL_regular hL hi rfl rfl rfl rfl rfl rfl (b := nI 0) (kk := 2) (by omega) (hL_regular_t2 (cM_H rfl) (kX5_regular2 _ _ _ _ _ _ c1 c2)) (d2 := 2) (by omega) (fun M1 h1 => by
      subst h1
      rw [cm_comm]
      exact ⟨zi_mono (kX6_regular2 c1 c2) (fun M' h' => by subst h'; exact LJ_mk hI hT (fun q => absurd q (by decide))), _, rfl⟩) k
  simp only [Bool.and_eq_true] at c2
  obtain ⟨⟨c3, c4⟩, c5⟩ := c2
  obtain ⟨h, -, hh, e1⟩ := zin_i (by decide) (by decide) c1
  obtain ⟨wd, -, hwd, e2⟩ := zin_i (by decide) (by decide) c3
  obtain ⟨fr, t, hft, ht, e3, e4⟩ := zhrs_i c4
  obtain ⟨r, te, hr, hr2, hte, e5, e6⟩ := zwho_i c5
  have h34 : X 3 ≤ X 4 := hX1.2.2.2.1
  have h4 : X 4 ≤ 11 := hX1.2.2.2.2.1
  have a6 : Y 10 1 = X 11 := hA.2.2.2.1.1
  have hrf := ab_ref hA hw h34 h4 (h := h) (wd := wd) (f := fr) (t := t) (r := r) (te := te) hwd
  by_cases hfull : Y 10 1 = 8
  · have hrt : refR X h wd fr t r = true := by rw [hrf, decide_eq_true hfull]; rfl
    exact wL_regular hL hi e1 e2 e3 e4 e5 e6 (b := nI 0) (kk := 3) (by omega) (hL_regular_t3 (cM_H rfl) (kX5_regular3 hw hh hwd hft ht hr hr2 hte hfull)) (d2 := 6) (by omega) (fun M1 h1 => by
      subst h1
      rw [cm_comm]
      exact ⟨zi_mono (kX6_regular3 hX0 hX1 hh hwd hft ht hr hr2 hte hrt) (fun M' h' => by
        obtain ⟨AT', CH', CF', CT', mn', cl', rfl⟩ := h'
        exact LJ_mk hI hT (fun q => absurd q (by decide))), _, rfl⟩) k
  have h8 : X 11 < 8 := by have := hX0.2.1; omega
  by_cases hz : drM Y h wd fr t r te (Y 35 4 + 1 - Y 35 3) = 0
  · have hrt : refR X h wd fr t r = true := by rw [hrf, decide_eq_true hz, Bool.or_true]
    have hvB := drV_B hC (h := h) (wd := wd) (f := fr) (t := t) (r := r) (te := te) (m := 0) hh hwd hft ht hr2 hte (by decide)
    exact wL_regular hL hi e1 e2 e3 e4 e5 e6 (b := nI 0) (kk := 3) (by omega) (hL_regular_t3 (cM_H rfl) (kX5_regular4 hC hw hh hwd hft ht hr hr2 hte (by omega) hz)) (d2 := 6) (by omega) (fun M1 h1 => by
      obtain ⟨Y', q1, rfl⟩ := h1
      rw [cm_comm]
      exact ⟨zi_mono (kX6_regular3 hX0 hX1 hh hwd hft ht hr hr2 hte hrt) (fun M' h' => by
        obtain ⟨AT', CH', CF', CT', mn', cl', rfl⟩ := h'
        exact LJ_mk (Inv_scr (Inv_70 hI (vB_dB hvB)) q1) (InT_scr (InT_u hT _ (by omega)) q1) (fun q => absurd q (by decide))), _, rfl⟩) k
  · have hrt : refR X h wd fr t r = false := by rw [hrf, decide_eq_false hfull, decide_eq_false hz]; rfl
    generalize hm : drM Y h wd fr t r te (Y 35 4 + 1 - Y 35 3) = m at hz
    have hml : m < 4096 := by
      have e3 : Y 35 3 = X 3 := hA.1 3 (by omega)
      have e4 : Y 35 4 = X 4 := hA.1 4 (by omega)
      rw [← hm, e3, e4]
      exact drM_lt hC h wd fr t r te _ (by rw [e3]; omega)
    refine wL_regular hL hi e1 e2 e3 e4 e5 e6 (b := nI (mkRd X h wd fr t r)) (kk := 0) (by omega) (hL_regular_v (f := f) (cM_H rfl) (kX5_regular hC hw hI.2.1.1 h6 hh hwd hft ht hr hr2 hte (by omega) hm.symm hz) (fun M1 q => ?_)) (d2 := 6) (by omega) (fun M1 h1 => ?_) k
    · obtain ⟨Y1, Y3, Z, q1, q2, q3, rfl⟩ := q
      rfl
    · obtain ⟨M2, ⟨Y1, Y3, Z, q1, q2, q3, rfl⟩, rfl⟩ := h1
      rw [oM_l, cm_comm]
      refine ⟨zi_mono (kX6_regular hX0 hX1 hI.2.1.2.2.1 hh hwd hft ht hr hr2 hte hrt) (fun M' h' => ?_), _, rfl⟩
      obtain ⟨AT', CH', CF', CT', mn', cl', rfl⟩ := h'
      obtain ⟨v1, v2, v3⟩ := inv_regular hI hh hwd hft ht hr hr2 hte h8 hm.symm hz q1 q2 q3
      have hvB := drV_B hC (h := h) (wd := wd) (f := fr) (t := t) (r := r) (te := te) (m := m) hh hwd hft ht hr2 hte hml
      refine LJ_mk v1 (InT_far (InT_sv (Inv_scr (Inv_70 hI (vB_dB hvB)) q1) (InT_scr (InT_u hT _ (by omega)) q1) q2) (fun q w1 w2 => v3 q (by omega))) (fun _ => ?_)
      rw [upL_0, v2]
end OPX
