/-! what the class answers, in terms of X -/
theorem msRel_of {Y : Nat → Nat → Nat} {day : Nat} {A : Nat → Nat} {s : Nat} (h1 : lAt (dL (gwG Y 20 70 day (Y 35 0)) (Y 21) (Y 20 1) (Y 20 1)) 0 A) (h2 : s = (dL (gwG Y 20 70 day (Y 35 0)) (Y 21) (Y 20 1) (Y 20 1)).length) (h3 : rPA A 20 12) : msRel Y (msY Y (gwY Y (gZ Y (Y 11) day (gwG Y 10 70 day (Y 35 0)) (Y 10 1)) 9 A s (gR (gwG Y 10 70 day (Y 35 0)) (rV Y 10) (Y 10 1) + dR (gwG Y 20 70 day (Y 35 0)) (rV Y 20) (Y 20 1) (Y 20 1)) (gN (gwG Y 10 70 day (Y 35 0)) (Y 10 1) + dN (gwG Y 20 70 day (Y 35 0)) (Y 20 1) (Y 20 1))) A s) day := by
  refine ⟨_, ⟨A, s, rfl, h1, h2, h3⟩, ?_⟩
  have e1 := gwY_r Y (gZ Y (Y 11) day (gwG Y 10 70 day (Y 35 0)) (Y 10 1)) 9 A s (gR (gwG Y 10 70 day (Y 35 0)) (rV Y 10) (Y 10 1) + dR (gwG Y 20 70 day (Y 35 0)) (rV Y 20) (Y 20 1) (Y 20 1)) (gN (gwG Y 10 70 day (Y 35 0)) (Y 10 1) + dN (gwG Y 20 70 day (Y 35 0)) (Y 20 1) (Y 20 1))
  have e2 := gwY_s Y (gZ Y (Y 11) day (gwG Y 10 70 day (Y 35 0)) (Y 10 1)) 9 A s (gR (gwG Y 10 70 day (Y 35 0)) (rV Y 10) (Y 10 1) + dR (gwG Y 20 70 day (Y 35 0)) (rV Y 20) (Y 20 1) (Y 20 1)) (gN (gwG Y 10 70 day (Y 35 0)) (Y 10 1) + dN (gwG Y 20 70 day (Y 35 0)) (Y 20 1) (Y 20 1))
  have e3 : gwY Y (gZ Y (Y 11) day (gwG Y 10 70 day (Y 35 0)) (Y 10 1)) 9 A s (gR (gwG Y 10 70 day (Y 35 0)) (rV Y 10) (Y 10 1) + dR (gwG Y 20 70 day (Y 35 0)) (rV Y 20) (Y 20 1) (Y 20 1)) (gN (gwG Y 10 70 day (Y 35 0)) (Y 10 1) + dN (gwG Y 20 70 day (Y 35 0)) (Y 20 1) (Y 20 1)) 20 1 = s := (congrFun e2 1).trans (uN_s _ _ _)
  have e4 : gwY Y (gZ Y (Y 11) day (gwG Y 10 70 day (Y 35 0)) (Y 10 1)) 9 A s (gR (gwG Y 10 70 day (Y 35 0)) (rV Y 10) (Y 10 1) + dR (gwG Y 20 70 day (Y 35 0)) (rV Y 20) (Y 20 1) (Y 20 1)) (gN (gwG Y 10 70 day (Y 35 0)) (Y 10 1) + dN (gwG Y 20 70 day (Y 35 0)) (Y 20 1) (Y 20 1)) 21 = A := e1
  rw [e3, e4]
theorem Inv_6 {Y : Nat → Nat → Nat} {X : Nat → Nat} {SS : Nat → Nat → Nat} {SN : Nat → Nat} {sm ik : Nat} (hI : Inv Y X SS SN sm ik) : Y 8 4 ≤ 6 := by
  have := hI.2.1.2.1
  have := hI.2.1.2.2.1
  omega
theorem cx_cnt {Y : Nat → Nat → Nat} {X : Nat → Nat} (hA : Ab Y 9 X) (b : Bool) : Y (rlN b) 1 = cxC X b := by
  cases b
  · exact hA.2.2.2.1.2
  · exact hA.2.2.2.1.1
theorem cxC_le {X : Nat → Nat} (hX : wf0 X) (b : Bool) : cxC X b ≤ 12 := by
  cases b
  · exact hX.2.2
  · exact Nat.le_trans hX.2.1 (by decide)
theorem zi_mono {mi : zI} {d kc ks : Nat} {nx : Option Nat} {As : List Value} {M : zM} {b : Int32} {P P' : zM → Prop} (h : Cn mi d kc ks nx As M (zi b P)) (hP : ∀ M, P M → P' M) : Cn mi d kc ks nx As M (zi b P') := G.to h (fun M1 nx1 o q => ⟨q.1, q.2.1, hP _ q.2.2⟩)
def IV (Y : Nat → Nat → Nat) (X : Nat → Nat) : Prop := ∃ SS SN sm ik, Inv Y X SS SN sm ik
theorem IV_X {Y : Nat → Nat → Nat} {X : Nat → Nat} (h : IV Y X) : XG X := by
  obtain ⟨SS, SN, sm, ik, h⟩ := h
  exact h.1.2.2
section AN
variable {M0 : zM} {Y : Nat → Nat → Nat} {X : Nat → Nat}
theorem a_ro (h : IV Y X) {i w : Nat} (hi : i < X 11) (hw : w ≤ 10) : Cn mX5_regularOf 8 0 0 none [.ref 8, .int (nI i), .int (nI w)] (cM M0 Y) (zi (ofR X i w) (fun M' => M' = cM M0 Y)) := by
  obtain ⟨SS, SN, sm, ik, hI⟩ := h
  obtain ⟨hws, hA, hX0, hX1, hX2, hX3⟩ := id hI.1
  have a6 : Y 10 1 = X 11 := hA.2.2.2.1.1
  have hc := @kX5_regularOf M0 Y hws i w (by rw [a6]; exact hi) hw (by rw [a6]; exact zin_cnt' (by have := hX0.2.1; omega) hi)
  rw [show roC Y i w = ofR X i w from ab_ro hA hi hw] at hc
  exact hc
theorem a_so (h : IV Y X) {i w : Nat} (hi : i < X 92) (hw : w ≤ 6) : Cn mX5_singleOf 8 0 0 none [.ref 8, .int (nI i), .int (nI w)] (cM M0 Y) (zi (nI (X (93 + 7 * i + w))) (fun M' => M' = cM M0 Y)) := by
  obtain ⟨SS, SN, sm, ik, hI⟩ := h
  obtain ⟨hws, hA, hX0, hX1, hX2, hX3⟩ := id hI.1
  have a6 : Y 20 1 = X 92 := hA.2.2.2.1.2
  have hc := @kX5_singleOf M0 Y hws i w (by rw [a6]; exact hi) hw (by rw [a6]; exact zin_cnt' (by have := hX0.2.2; omega) hi)
  rw [show soC Y i w = nI (X (93 + 7 * i + w)) from ab_so hA hi hw] at hc
  exact hc
theorem a_who (h : IV Y X) {a day hr : Nat} (ha : a ≤ 2) (hd : day < 84) (hr1 : hr ≤ 23) : Cn mX5_who 8 0 0 none [.ref 8, .int (nI a), .int (nI day), .int (nI hr)] (cM M0 Y) (zi (tnS X a hr (lk X day) (-1)) (fun M' => ∃ Y', M' = cM M0 Y' ∧ IV Y' X)) := by
  obtain ⟨SS, SN, sm, ik, hI⟩ := h
  obtain ⟨hws, hA, hX0, hX1, hX2, hX3⟩ := id hI.1
  have hc := @kX5_who M0 Y hws a day hr ha hd hr1
  rw [ab_who hA hws hX2 hX3 hd (by omega)] at hc
  exact zi_mono hc (fun M1 ⟨Y', e, q⟩ => ⟨Y', e, SS, SN, sm, ik, Inv_scr hI q⟩)
theorem a_ho (h : IV Y X) {a day w : Nat} (ha : a ≤ 2) (hd : day < 84) (hw : w ≤ 3) : Cn mX5_hallOf 8 0 0 none [.ref 8, .int (nI a), .int (nI day), .int (nI w)] (cM M0 Y) (zi (ofH X a day w) (fun M' => ∃ Y', M' = cM M0 Y' ∧ IV Y' X)) := by
  obtain ⟨SS, SN, sm, ik, hI⟩ := h
  obtain ⟨hws, hA, hX0, hX1, hX2, hX3⟩ := id hI.1
  have hc := @kX5_hallOf M0 Y hws a day w ha hd hw
  rw [ab_ho hA hws hX2 hX3 hd hw] at hc
  exact zi_mono hc (fun M1 ⟨Y', e, q⟩ => ⟨Y', e, SS, SN, sm, ik, Inv_scr hI q⟩)
theorem a_tn (h : IV Y X) {t w : Nat} (ht : t ≤ 19) (hw : w ≤ 2) : Cn mX5_tenant 8 0 0 none [.ref 8, .int (nI t), .int (nI w)] (cM M0 Y) (zi (nI (oT X (nI t) w)) (fun M' => M' = cM M0 Y)) := by
  obtain ⟨SS, SN, sm, ik, hI⟩ := h
  obtain ⟨hws, hA, hX0, hX1, hX2, hX3⟩ := id hI.1
  have hc := @kX5_tenant M0 Y hws t w ht hw
  rw [ab_sfT hA hw] at hc
  exact hc
theorem a_ct (h : IV Y X) {w : Nat} (hw : w < 12) : Cn mX5_count 8 0 0 none [.ref 8, .int (nI w)] (cM M0 Y) (zi (nI (cnt0 X 0 w)) (fun M' => M' = cM M0 Y)) := by
  obtain ⟨SS, SN, sm, ik, hI⟩ := h
  obtain ⟨hws, hA, hX0, hX1, hX2, hX3⟩ := id hI.1
  have hc := @kX5_count M0 Y hws w (by omega)
  have e : cnt0 X (Y 8 4) w = cnt0 X 0 w := by
    unfold cnt0
    rw [if_neg (show ¬ w = 12 by omega), if_neg (show ¬ w = 12 by omega)]
  rw [ab_cnt hA (by omega), e] at hc
  exact hc
theorem a_best (h : IV Y X) : Cn mX5_best 8 0 0 none [.ref 8] (cM M0 Y) (zi (btN X 20).1 (fun M' => M' = cM M0 Y)) := by
  obtain ⟨SS, SN, sm, ik, hI⟩ := h
  obtain ⟨hws, hA, hX0, hX1, hX2, hX3⟩ := id hI.1
  have hc := @kX5_best M0 Y hws (fun n _ => inv_sf hI _ (by omega))
  rw [ab_bt hA] at hc
  exact hc
theorem a_mean (h : IV Y X) : Cn mX5_meanRent 8 0 0 none [.ref 8] (cM M0 Y) (zg (FP.fdiv (FP.i2f (nI (oT X (-1) 2))) 1118306304) (fun M' => M' = cM M0 Y)) := by
  obtain ⟨SS, SN, sm, ik, hI⟩ := h
  obtain ⟨hws, hA, hX0, hX1, hX2, hX3⟩ := id hI.1
  have hc := @kX5_meanRent M0 Y hws
  rw [ab_sfT hA (by omega)] at hc
  exact hc
theorem a_full (h : IV Y X) {a : Nat} (ha : a ≤ 2) : Cn mX5_fullness 8 0 0 none [.ref 8, .int (nI a)] (cM M0 Y) (zd (FP.ddiv (FP.i2d (nI (hiT Y a))) 4656581277212737536) (fun M' => M' = cM M0 Y)) := by
  obtain ⟨SS, SN, sm, ik, hI⟩ := h
  exact @kX5_fullness M0 Y hI.1.1 a ha
theorem a_ref (h : IV Y X) (h12 : X 92 ≤ 8) {a day f t r : Nat} (ha : a ≤ 2) (hd : day < 84) (hft : f < t) (ht : t ≤ 24) (hr : 1 ≤ r) (hr2 : r ≤ 9) : Cn mX5_refusal 8 0 0 none [.ref 8, .int (nI a), .int (nI day), .int (nI f), .int (nI t), .int (nI r)] (cM M0 Y) (zi (nI (rsn X a day f t r)) (fun M' => ∃ Y', M' = cM M0 Y' ∧ IV Y' X)) := by
  obtain ⟨SS, SN, sm, ik, hI⟩ := h
  have hC := Inv_wC hI
  obtain ⟨hws, hA, hX0, hX1, hX2, hX3⟩ := id hI.1
  have hc := @kX5_refusal M0 Y hC hws a day f t r ha hd hft ht hr hr2
  have hzz : (if Y 20 1 = 12 then 1 else rsO (uA Y 70 (dsV Y a day f t r 0)) day) = rfs X a day f t r := ab_rf hA hws hd _
  rw [hzz, rfs, if_neg (by omega)] at hc
  have hvB := dsV_B hC (h := a) (day := day) (f := f) (t := t) (r := r) (te := 0) ha hd hft ht hr2 (by omega)
  exact zi_mono hc (fun M1 ⟨Y', e, q⟩ => ⟨Y', e, SS, SN, sm, ik, Inv_scr (Inv_70 hI (vB_dB hvB)) q⟩)
theorem a_price (h : IV Y X) {a day f t : Nat} (ha : a ≤ 2) (hd : day < 84) (hft : f < t) (ht : t ≤ 24) : Cn mX5_price 8 0 0 none [.ref 8, .int (nI a), .int (nI day), .int (nI f), .int (nI t)] (cM M0 Y) (zi (nI (sRent X a day f t)) (fun M' => M' = cM M0 Y)) := by
  obtain ⟨SS, SN, sm, ik, hI⟩ := h
  have hc := @kX5_price M0 Y (Inv_wC hI) a day f t ha hd hft ht
  have hpr : vRn Y a (day % 7) (t - f) 0 = sRent X a day f t := ab_vRn hI.1.2.1 (by omega)
  rw [hpr] at hc
  exact hc
theorem a_nf (h : IV Y X) {a day hr : Nat} (ha : a ≤ 2) (hd : day < 84) (h0 : 1 ≤ hr) (h1 : hr ≤ 24) : Cn mX5_nextFree 8 0 0 none [.ref 8, .int (nI a), .int (nI day), .int (nI hr)] (cM M0 Y) (zi (ffD X a hr (84 - day) day) (fun M' => ∃ Y', M' = cM M0 Y' ∧ IV Y' X)) := by
  obtain ⟨SS, SN, sm, ik, hI⟩ := h
  obtain ⟨hws, hA, hX0, hX1, hX2, hX3⟩ := id hI.1
  have hc := @kX5_nextFree M0 Y (Inv_wC hI) hws hI.2.2.2 a day hr ha hd h0 h1
  have hnf : (if Y 20 1 = 12 then (-1 : Int32) else nfC Y a hr (84 - day) day) = ffD X a hr (84 - day) day := ab_nfx hA hws (by omega)
  rw [hnf] at hc
  exact zi_mono hc (fun M1 ⟨Y', u, e, q1, q2⟩ => ⟨Y', e, SS, SN, sm, ik, Inv_scr (Inv_70 hI q1) q2⟩)
theorem a_single (h : IV Y X) {a day f t r te : Nat} (ha : a ≤ 2) (hd : day < 84) (hft : f < t) (ht : t ≤ 24) (hr : 1 ≤ r) (hr2 : r ≤ 9) (hte : te ≤ 19) (h12 : X 92 ≤ 8) (hz : rsn X a day f t r = 0) : Cn mX5_single 8 0 0 none [.ref 8, .int (nI a), .int (nI day), .int (nI f), .int (nI t), .int (nI r), .int (nI te)] (cM M0 Y) (zi (nI (gw X day a f t).1) (fun M' => ∃ Y', M' = cM M0 Y' ∧ IV Y' (mkS X a day f t r te))) := by
  obtain ⟨SS, SN, sm, ik, hI⟩ := h
  have hC := Inv_wC hI
  have h6 := Inv_6 hI
  obtain ⟨hws, hA, hX0, hX1, hX2, hX3⟩ := id hI.1
  have hzr : rfs X a day f t r = 0 := by rw [rfs, if_neg (by omega)]; exact hz
  have hzz : (if Y 20 1 = 12 then 1 else rsO (uA Y 70 (dsV Y a day f t r te)) day) = rfs X a day f t r := ab_rf hA hws hd _
  have hc := @kX5_single M0 Y hC hws hI.2.1.1 h6 a day f t r te ha hd hft ht hr hr2 hte (hzz.trans hzr)
  rw [ans_single hI hd] at hc
  refine zi_mono hc (fun M1 h1 => ?_)
  obtain ⟨Y', Y3, A, s, q1, q2, rfl, q3, q4, q5⟩ := h1
  exact ⟨_, rfl, _, _, _, _, (inv_single hI ha hd hft ht hr hr2 hte hzr q1 q2 (msRel_of q3 q4 q5)).1⟩
theorem a_regular (h : IV Y X) {a wd f t r te m : Nat} (ha : a ≤ 2) (hwd : wd ≤ 6) (hft : f < t) (ht : t ≤ 24) (hr : 1 ≤ r) (hr2 : r ≤ 9) (hte : te ≤ 19) (h8 : X 11 < 8) (hm : ∀ k, m.testBit k = (decide (X 3 ≤ k ∧ k ≤ X 4) && decide (rsn X a (7 * k + wd) f t r = 0))) (hm0 : m ≠ 0) : Cn mX5_regular 8 0 0 none [.ref 8, .int (nI a), .int (nI wd), .int (nI f), .int (nI t), .int (nI r), .int (nI te)] (cM M0 Y) (zi (nI (bc12 m)) (fun M' => ∃ Y', M' = cM M0 Y' ∧ IV Y' (mkR X a wd f t r te) ∧ bc12 m = mkRd X a wd f t r)) := by
  obtain ⟨SS, SN, sm, ik, hI⟩ := h
  have hC := Inv_wC hI
  have h6 := Inv_6 hI
  obtain ⟨hws, hA, hX0, hX1, hX2, hX3⟩ := id hI.1
  have a6 : Y 10 1 = X 11 := hA.2.2.2.1.1
  have e3 : Y 35 3 = X 3 := hA.1 3 (by omega)
  have e4 : Y 35 4 = X 4 := hA.1 4 (by omega)
  obtain ⟨-, -, -, w3, w4, -⟩ := id hX1
  have hmd : m = drM Y a wd f t r te (Y 35 4 + 1 - Y 35 3) := by
    apply Nat.eq_of_testBit_eq
    intro k
    rw [e3, e4, drM_bit hA hws w4 hwd _ (by omega), hm]
    congr 1
    exact decide_eq_decide.mpr (by omega)
  have hc := @kX5_regular M0 Y hC hws hI.2.1.1 h6 a wd f t r te m ha hwd hft ht hr hr2 hte (by omega) hmd hm0
  refine zi_mono hc (fun M1 h1 => ?_)
  obtain ⟨Y1, Y3, Z, q1, q2, q3, rfl⟩ := h1
  obtain ⟨v1, v2, -⟩ := inv_regular hI ha hwd hft ht hr hr2 hte h8 hmd hm0 q1 q2 q3
  exact ⟨_, rfl, ⟨_, _, _, _, v1⟩, v2⟩
theorem a_cancel (h : IV Y X) (b : Bool) {i : Nat} (hi : i < cxC X b) : Cn mX5_cancel 8 0 0 none [.ref 8, .int (nI b.toNat), .int (nI i)] (cM M0 Y) (zi (nI (cxB X b i)) (fun M' => ∃ Y', M' = cM M0 Y' ∧ IV Y' (cxX X b i))) := by
  obtain ⟨SS, SN, sm, ik, hI⟩ := h
  have h6 := Inv_6 hI
  obtain ⟨hws, hA, hX0, hX1, hX2, hX3⟩ := id hI.1
  have hcc := cx_cnt hA b
  obtain ⟨q1, -⟩ := cx_ans hA b hi
  have hc := @kX5_cancel M0 Y b hws hI.2.1.1 h6 i (by rw [hcc]; exact hi) (by rw [hcc]; exact zin_cnt' (by have := cxC_le hX0 b; omega) hi)
  rw [q1] at hc
  refine zi_mono hc (fun M1 h1 => ?_)
  obtain ⟨Y3, r1, rfl⟩ := h1
  exact ⟨_, rfl, _, _, _, _, inv_cancel hI hi r1⟩
theorem a_off (h : IV Y X) {n d : Nat} (hn : n < X 11) (hd : d < 84) (hs : stdR X n d = true) : Cn mX5_off 8 0 0 none [.ref 8, .int (nI n), .int (nI d)] (cM M0 Y) (zi (nI (X (12 + 10 * n + 6))) (fun M' => ∃ Y', M' = cM M0 Y' ∧ IV Y' (ofX X n d))) := by
  obtain ⟨SS, SN, sm, ik, hI⟩ := h
  have h6 := Inv_6 hI
  obtain ⟨hws, hA, hX0, hX1, hX2, hX3⟩ := id hI.1
  have a6 : Y 10 1 = X 11 := hA.2.2.2.1.1
  have hr : RgR (Y (Y 11 n)) (rg X n) := hA.2.2.2.2.1 n hn
  have hst : vStd (Y (Y 11 n)) d = stdR X n d := std_R hr hd
  have hc := @kX5_off M0 Y hws hI.2.1.1 h6 n d (by rw [a6]; exact hn) (by rw [a6]; exact zin_cnt' (by have := hX0.2.1; omega) hn) hd (hst.trans hs)
  rw [show Y (Y 11 n) 6 = X (12 + 10 * n + 6) from hr.1 6 (by omega)] at hc
  refine zi_mono hc (fun M1 h1 => ?_)
  obtain ⟨Y3, r1, rfl⟩ := h1
  exact ⟨_, rfl, _, _, _, _, (inv_off hI hn hd r1 (svRel_k r1 hI.2.1.1 h6 (by omega) (by omega) (by omega)).symm).1⟩
theorem a_rate (h : IV Y X) {a v : Nat} (ha : a ≤ 2) (hv : 100 ≤ v) (hv2 : v ≤ 5000) : Cn mX5_rate 8 0 0 none [.ref 8, .int (nI a), .int (nI v)] (cM M0 Y) (zi (nI (X (5 + a))) (fun M' => ∃ Y', M' = cM M0 Y' ∧ IV Y' (uN X (5 + a) v))) := by
  obtain ⟨SS, SN, sm, ik, hI⟩ := h
  have h6 := Inv_6 hI
  obtain ⟨hws, hA, hX0, hX1, hX2, hX3⟩ := id hI.1
  have hc := @kX5_rate M0 Y hI.2.1.1 hws h6 a v ha hv hv2
  rw [show Y 34 a = X (5 + a) from hA.2.1 a (by omega)] at hc
  refine zi_mono hc (fun M1 h1 => ?_)
  obtain ⟨Y3, r1, rfl⟩ := h1
  exact ⟨_, rfl, _, _, _, _, inv_rate hI ha hv hv2 r1⟩
theorem a_set (h : IV Y X) {w v : Nat} (hw : w ≤ 4) (hv : v ≤ mxS w) (hg : gdW X w v = true) : Cn mX5_set 8 0 0 none [.ref 8, .int (nI w), .int (nI v)] (cM M0 Y) (zi (nI (X w)) (fun M' => ∃ Y', M' = cM M0 Y' ∧ IV Y' (uN X w v))) := by
  obtain ⟨SS, SN, sm, ik, hI⟩ := h
  have hC := Inv_wC hI
  have h6 := Inv_6 hI
  obtain ⟨hws, hA, hX0, hX1, hX2, hX3⟩ := id hI.1
  have hal := ab_set hA hX0 hX1 hX2 (w := w) (v := v) hw
  have hc := @kX5_set M0 Y hC hws hI.2.1.1 h6 w v hw (by rw [mxS_St hw]; exact hv) (hal.trans hg)
  rw [show Y 35 w = X w from hA.1 w (by omega)] at hc
  refine zi_mono hc (fun M1 h1 => ?_)
  obtain ⟨Y', Y3, q1, q2, rfl⟩ := h1
  exact ⟨_, rfl, _, _, _, _, inv_set hI hw hv hg q1 q2⟩
end AN
