/-! the class: digest -/
/-- only the plan and the draft have changed -/
def sc7 (Y Z : Nat → Nat → Nat) : Prop := dB (Z 70) ∧ ∃ v, scr (uA Y 70 v) Z
theorem sc7_q {Y Z : Nat → Nat → Nat} (h : sc7 Y Z) {q : Nat} (h1 : q ≠ 67) (h2 : q ≠ 68) (h3 : q ≠ 69) (h4 : q ≠ 70) : Z q = Y q := by
  obtain ⟨-, v, hv⟩ := h
  rw [hv q h1 h2 h3, uA_n _ _ h4]
theorem sc7_r {Y : Nat → Nat → Nat} (h : dB (Y 70)) : sc7 Y Y := ⟨h, Y 70, fun a _ _ _ => by
  by_cases ha : a = 70
  · subst ha; rw [uA_s]
  · rw [uA_n _ _ ha]⟩
theorem sc7_s {Y Z V : Nat → Nat → Nat} (h : sc7 Y Z) (h2 : scr Z V) : sc7 Y V := by
  obtain ⟨h0, v, hv⟩ := h
  exact ⟨by rw [h2 70 (by omega) (by omega) (by omega)]; exact h0, v, scr_t hv h2⟩
theorem sc7_d {Y Z V : Nat → Nat → Nat} {u : Nat → Nat} (h : sc7 Y Z) (hu : dB u) (h2 : scr (uA Z 70 u) V) : sc7 Y V := by
  obtain ⟨h0, v, hv⟩ := h
  exact ⟨by rw [h2 70 (by omega) (by omega) (by omega), uA_s]; exact hu, u, scr_70 hv h2⟩
theorem sc7_w {Y Z : Nat → Nat → Nat} (hw : wS Y 9) (h : sc7 Y Z) : wS Z 9 := by
  obtain ⟨-, v, hv⟩ := h
  exact wS_c hv sb9 (opL_d hw v 0).1
theorem sc7_C {Y Z : Nat → Nat → Nat} (hC : wC Y) (h : sc7 Y Z) : wC Z := by
  unfold wC
  rw [sc7_q h (by omega) (by omega) (by omega) (by omega), sc7_q h (by omega) (by omega) (by omega) (by omega)]
  exact hC
theorem sc7_L {Y Z : Nat → Nat → Nat} (h : sc7 Y Z) {a : Nat} (ha : kq a = 1) (h70 : a ≠ 70) : Z a = Y a := sc7_q h (fun e => by subst e; cases ha) (fun e => by subst e; cases ha) (fun e => by subst e; cases ha) h70
theorem sc7_op {Y Z : Nat → Nat → Nat} (hw : wS Y 9) (h : sc7 Y Z) (day : Nat) : opL Z 9 day = opL Y 9 day := by
  obtain ⟨-, v, hv⟩ := h
  rw [opL_c hv sb9 (opL_d hw v 0).1, (opL_d hw v day).2]
theorem sc7_oL {Y Z : Nat → Nat → Nat} (hw : wS Y 9) (h : sc7 Y Z) {day a : Nat} (ha : a ∈ opL Y 9 day) : Z a = Y a := sc7_L h (opL_G sb9 hw a ha).1 (opL_70 hw ha)
theorem sc7_ho {Y Z : Nat → Nat → Nat} (hw : wS Y 9) (h : sc7 Y Z) (a day w : Nat) : hoC Z a day w = hoC Y a day w := by
  have hl : ∀ x ∈ opL Y 9 day, Z x = Y x := fun x hx => sc7_oL hw h hx
  unfold hoC
  rw [sc7_op hw h]
  rw [smL_c (V := Z) (V' := Y) _ hl, smL_c (V := Z) (V' := Y) _ hl, smL_c (V := Z) (V' := Y) _ hl, hwV_c (V := Z) (V' := Y) hl]
theorem rs_r {Y Z : Nat → Nat → Nat} (hw : wS Y 9) (h : sc7 Y Z) (u : Nat → Nat) (day : Nat) : rsV Z u day = rsV Y u day := by
  obtain ⟨-, v, hv⟩ := h
  exact rsV_s hw hv u day
theorem sc7_fh {Y Z : Nat → Nat → Nat} (hw : wS Y 9) (h : sc7 Y Z) (a day hrs rk n f : Nat) : fhV Z a day hrs rk n f = fhV Y a day hrs rk n f := by
  obtain ⟨-, v, hv⟩ := h
  exact fhV_s hw hv a day hrs rk n f
theorem sc7_nf {Y Z : Nat → Nat → Nat} (hw : wS Y 9) (h : sc7 Y Z) (a hrs : Nat) : ∀ n day, nfC Z a hrs n day = nfC Y a hrs n day
  | 0, _ => rfl
  | n + 1, day => by simp only [nfC, sc7_fh hw h, sc7_nf hw h a hrs n (day + 1)]
theorem sc7_vR {Y Z : Nat → Nat → Nat} (h : sc7 Y Z) (a wd hrs di : Nat) : vRn Z a wd hrs di = vRn Y a wd hrs di := by
  unfold vRn
  rw [sc7_q h (by omega) (by omega) (by omega) (by omega), sc7_q h (by omega) (by omega) (by omega) (by omega)]
theorem sc7_rs {Y Z : Nat → Nat → Nat} (hw : wS Y 9) (h : sc7 Y Z) (a day f t r : Nat) : rsO (uA Z 70 (dsV Z a day f t r 0)) day = rsO (uA Y 70 (dsV Y a day f t r 0)) day := by
  have e : ∀ V : Nat → Nat → Nat, wS V 9 → ∀ u, rsO (uA V 70 u) day = rsV V u day := fun V hV u => by
    rw [rsO, rsV, (opL_d hV u day).2]
    rw [uA_n _ _ (by omega)]
  rw [e Z (sc7_w hw h), e Y hw, rs_r hw h]
  unfold dsV
  rw [sc7_vR h]
theorem hiV_c {V V' : Nat → Nat → Nat} {h : Nat} : ∀ n, (∀ i, i < n → V i = V' i) → hiV V h n = hiV V' h n
  | 0, _ => rfl
  | n + 1, hv => by
    simp only [hiV, hv n (by omega), hiV_c n (fun i hi => hv i (by omega))]
theorem sfV_c {V V' : Nat → Nat → Nat} {te : Int32} {w : Nat} : ∀ n, (∀ i, i < n → V i = V' i) → sfV V te w n = sfV V' te w n
  | 0, _ => rfl
  | n + 1, hv => by
    simp only [sfV, hv n (by omega), sfV_c n (fun i hi => hv i (by omega))]
theorem sc7_r1 {Y Z : Nat → Nat → Nat} (hw : wS Y 9) (h : sc7 Y Z) : Z 10 1 = Y 10 1 ∧ ∀ i, i < Y 10 1 → rV Z 10 i = rV Y 10 i := by
  have h8 : Y 10 1 ≤ 8 := hw.1.2.1
  refine ⟨by rw [sc7_q h (by omega) (by omega) (by omega) (by omega)], fun i hi => ?_⟩
  have hp : 12 ≤ Y 11 i ∧ Y 11 i < 20 := hw.1.1.1 i (by omega)
  show Z (Z 11 i) = Y (Y 11 i)
  rw [sc7_q h (q := 11) (by omega) (by omega) (by omega) (by omega), sc7_q h (by omega) (by omega) (by omega) (by omega)]
theorem sc7_r2 {Y Z : Nat → Nat → Nat} (hw : wS Y 9) (h : sc7 Y Z) : Z 20 1 = Y 20 1 ∧ ∀ i, i < Y 20 1 → rV Z 20 i = rV Y 20 i := by
  have h8 : Y 20 1 ≤ 12 := hw.2.2.1
  refine ⟨by rw [sc7_q h (by omega) (by omega) (by omega) (by omega)], fun i hi => ?_⟩
  have hp : 22 ≤ Y 21 i ∧ Y 21 i < 34 := hw.2.1.1 i (by omega)
  show Z (Z 21 i) = Y (Y 21 i)
  rw [sc7_q h (q := 21) (by omega) (by omega) (by omega) (by omega), sc7_q h (by omega) (by omega) (by omega) (by omega)]
theorem sc7_hi {Y Z : Nat → Nat → Nat} (hw : wS Y 9) (h : sc7 Y Z) (a : Nat) : hiT Z a = hiT Y a := by
  obtain ⟨a1, a2⟩ := sc7_r1 hw h
  obtain ⟨b1, b2⟩ := sc7_r2 hw h
  rw [hiT, hiT, a1, b1, hiV_c _ a2, hiV_c _ b2]
theorem sc7_sf {Y Z : Nat → Nat → Nat} (hw : wS Y 9) (h : sc7 Y Z) (te : Int32) (w : Nat) : sfT Z te w = sfT Y te w := by
  obtain ⟨a1, a2⟩ := sc7_r1 hw h
  obtain ⟨b1, b2⟩ := sc7_r2 hw h
  rw [sfT, sfT, a1, b1, sfV_c _ a2, sfV_c _ b2]
theorem sc7_bt {Y Z : Nat → Nat → Nat} (hw : wS Y 9) (h : sc7 Y Z) : ∀ n, btC Z n = btC Y n
  | 0 => rfl
  | n + 1 => by simp only [btC, sc7_bt hw h n, sc7_sf hw h]
/-- the digest by the class -/
def cg1 (Y : Nat → Nat → Nat) (h : Int64) : Int64 := mxN (fun w => (nI (cntC Y w)).toInt64) 13 h
def cgR (Y : Nat → Nat → Nat) (h : Int64) : Int64 := mxN (fun j => (roC Y (j / 11) (j % 11)).toInt64) (11 * Y 10 1) h
def cgS (Y : Nat → Nat → Nat) (h : Int64) : Int64 := mxN (fun j => (soC Y (j / 7) (j % 7)).toInt64) (7 * Y 20 1) h
def cgT (Y : Nat → Nat → Nat) (h : Int64) : Int64 := mxN (fun j => (nI (sfT Y (nI (j / 3)) (j % 3))).toInt64) 60 h
def cgH (Y : Nat → Nat → Nat) (a : Nat) (h : Int64) : Int64 := mx1 (FP.ddiv (FP.i2d (nI (hiT Y a))) 4656581277212737536).toInt64 (mx1 (nI (vRn Y a (5 % 7) (20 - 18) 0)).toInt64 (mx1 (nI (if Y 20 1 = 12 then 1 else rsO (uA Y 70 (dsV Y a 5 18 20 5 0)) 5)).toInt64 (mx1 (if Y 20 1 = 12 then (-1 : Int32) else nfC Y a 3 (84 - 0) 0).toInt64 (mxN (fun j => (hoC Y a (j / 4) (j % 4)).toInt64) 28 (mx1 (nI (Y 34 a)).toInt64 h)))))
def cgHN (Y : Nat → Nat → Nat) : Nat → Int64 → Int64
  | 0, h => h
  | n + 1, h => cgH Y n (cgHN Y n h)
section DIG
variable {M M0 : zM} {Y : Nat → Nat → Nat}
theorem mxN_s (f : Nat → Int64) (n : Nat) (h : Int64) : mxN f (n + 1) h = 31 * mxN f n h + f n := rfl
theorem dl2 (hw : wS Y 9) (h : Int64) (hz : ∀ i, i < Y 20 1 → zin (nI i) (nI 0) (nI (Y 20 1) - nI 1) = true) : ∀ u i, i + u = Y 20 1 → G mX5_digestLets 9 0 0 none 61 [(0, .ref 8), (3, .long (mxN (fun j => (soC Y (j / 7) (j % 7)).toInt64) (7 * i) h)), (5, .int (nI i))] [] (cM M0 Y) (zj (cgS Y h) (fun M' => M' = cM M0 Y)) := by
  have h12 : Y 20 1 ≤ 12 := hw.2.2.1
  have h12' : Y (9 + 11) 1 ≤ 12 := h12
  intro u
  induction u with
  | zero =>
    intro i hi
    refine g_iload dX5_digestLets_61 rfl ?_
    refine g_aload_n dX5_digestLets_63 rfl ?_
    refine g_get fX5_10 dX5_digestLets_64 (cM_H rfl) rfl ?_
    refine g_get fX5_112 dX5_digestLets_67 (cM_S rfl) rfl ?_
    refine g_get fX5_212 dX5_digestLets_70 (cM_R rfl) rfl ?_
    refine g_icmp_ge_n (tgt := 114) dX5_digestLets_73 (by decide) (by omega) (by omega) (fun h1 => ?_) (fun h1 => ?_)
    · refine g_lload_n dX5_digestLets_114 rfl ?_
      rw [show i = Y 20 1 by omega]
      exact g_lreturn dX5_digestLets_115 rfl ⟨rfl, rfl, rfl⟩
    · have : i < Y 20 1 := h1
      omega
  | succ u ih =>
    intro i hi
    have inner : ∀ v w, w + v = 7 → G mX5_digestLets 9 0 0 none 79 [(0, .ref 8), (3, .long (mxN (fun j => (soC Y (j / 7) (j % 7)).toInt64) (7 * i + w) h)), (5, .int (nI i)), (6, .int (nI w))] [] (cM M0 Y) (zj (cgS Y h) (fun M' => M' = cM M0 Y)) := by
      intro v
      induction v with
      | zero =>
        intro w hw'
        refine g_iload dX5_digestLets_79 rfl ?_
        refine g_bipush (v := nI 6) dX5_digestLets_81 (by decide) ?_
        refine g_icmp_gt_n (tgt := 108) dX5_digestLets_83 (by decide) (by omega) (by omega) (fun h1 => ?_) (fun h1 => ?_)
        · refine g_iinc_n (c := 1) dX5_digestLets_108 rfl (by decide) (by decide) ?_
          refine g_goto (tgt := 61) dX5_digestLets_111 (by decide) ?_
          have := ih (i + 1) (by omega)
          rw [show 7 * (i + 1) = 7 * i + w by omega] at this
          exact g_loc rfl this
        · omega
      | succ v ihv =>
        intro w hw'
        refine g_iload dX5_digestLets_79 rfl ?_
        refine g_bipush (v := nI 6) dX5_digestLets_81 (by decide) ?_
        refine g_icmp_gt_n (tgt := 108) dX5_digestLets_83 (by decide) (by omega) (by omega) (fun h1 => ?_) (fun h1 => ?_)
        · omega
        refine g_ldcl dX5_digestLets_86 q420 ?_
        refine g_lload_n dX5_digestLets_89 rfl ?_
        refine g_lmul dX5_digestLets_90 ?_
        refine g_aload_n dX5_digestLets_91 rfl ?_
        refine g_iload dX5_digestLets_92 rfl ?_
        refine g_iload dX5_digestLets_94 rfl ?_
        refine g_callV_i (kX5_singleOf (i := i) (w := w) hw (by omega) (by omega) (hz i (by omega))) oX5_singleOf pX5_singleOf lX5_307 dX5_digestLets_96 rfl (cM_H rfl) rfl rfl rfl (Nat.le_of_ble_eq_true rfl) (Nat.le_of_ble_eq_true rfl) (by decide) (fun M' h' => ?_)
        subst h'
        refine g_i2l dX5_digestLets_99 ?_
        refine g_ladd dX5_digestLets_100 ?_
        refine g_lstore_n dX5_digestLets_101 (by decide) ?_
        refine g_iinc_n (c := 1) dX5_digestLets_102 rfl (by decide) (by decide) ?_
        refine g_goto (tgt := 79) dX5_digestLets_105 (by decide) ?_
        have := ihv (w + 1) (by omega)
        rw [← Nat.add_assoc, mxN_s, show (7 * i + w) / 7 = i by omega, show (7 * i + w) % 7 = w by omega] at this
        exact g_loc rfl this
    refine g_iload dX5_digestLets_61 rfl ?_
    refine g_aload_n dX5_digestLets_63 rfl ?_
    refine g_get fX5_10 dX5_digestLets_64 (cM_H rfl) rfl ?_
    refine g_get fX5_112 dX5_digestLets_67 (cM_S rfl) rfl ?_
    refine g_get fX5_212 dX5_digestLets_70 (cM_R rfl) rfl ?_
    refine g_icmp_ge_n (tgt := 114) dX5_digestLets_73 (by decide) (by omega) (by omega) (fun h1 => ?_) (fun h1 => ?_)
    · have : Y 20 1 ≤ i := h1
      omega
    refine g_iconst (v := nI 0) dX5_digestLets_76 (by decide) ?_
    refine g_istore dX5_digestLets_77 (by decide) ?_
    exact g_loc rfl (inner 7 0 (by omega))
theorem dl1 (hw : wS Y 9) (h : Int64) (hz : ∀ i, i < Y 10 1 → zin (nI i) (nI 0) (nI (Y 10 1) - nI 1) = true) (F : zP) (hF : G mX5_digestLets 9 0 0 none 61 [(0, .ref 8), (3, .long (cgR Y h)), (5, .int (nI 0))] [] (cM M0 Y) F) : ∀ u i, i + u = Y 10 1 → G mX5_digestLets 9 0 0 none 5 [(0, .ref 8), (3, .long (mxN (fun j => (roC Y (j / 11) (j % 11)).toInt64) (11 * i) h)), (5, .int (nI i))] [] (cM M0 Y) F := by
  have h12 : Y 10 1 ≤ 8 := hw.1.2.1
  have h12' : Y (9 + 1) 1 ≤ 8 := h12
  intro u
  induction u with
  | zero =>
    intro i hi
    refine g_iload dX5_digestLets_5 rfl ?_
    refine g_aload_n dX5_digestLets_7 rfl ?_
    refine g_get fX5_10 dX5_digestLets_8 (cM_H rfl) rfl ?_
    refine g_get fX5_60 dX5_digestLets_11 (cM_S rfl) rfl ?_
    refine g_get fX5_212 dX5_digestLets_14 (cM_R rfl) rfl ?_
    refine g_icmp_ge_n (tgt := 58) dX5_digestLets_17 (by decide) (by omega) (by omega) (fun h1 => ?_) (fun h1 => ?_)
    · refine g_iconst (v := nI 0) dX5_digestLets_58 (by decide) ?_
      refine g_istore dX5_digestLets_59 (by decide) ?_
      rw [show i = Y 10 1 by omega]
      exact g_loc rfl hF
    · have : i < Y 10 1 := h1
      omega
  | succ u ih =>
    intro i hi
    have inner : ∀ v w, w + v = 11 → G mX5_digestLets 9 0 0 none 23 [(0, .ref 8), (3, .long (mxN (fun j => (roC Y (j / 11) (j % 11)).toInt64) (11 * i + w) h)), (5, .int (nI i)), (6, .int (nI w))] [] (cM M0 Y) F := by
      intro v
      induction v with
      | zero =>
        intro w hw'
        refine g_iload dX5_digestLets_23 rfl ?_
        refine g_bipush (v := nI 10) dX5_digestLets_25 (by decide) ?_
        refine g_icmp_gt_n (tgt := 52) dX5_digestLets_27 (by decide) (by omega) (by omega) (fun h1 => ?_) (fun h1 => ?_)
        · refine g_iinc_n (c := 1) dX5_digestLets_52 rfl (by decide) (by decide) ?_
          refine g_goto (tgt := 5) dX5_digestLets_55 (by decide) ?_
          have := ih (i + 1) (by omega)
          rw [show 11 * (i + 1) = 11 * i + w by omega] at this
          exact g_loc rfl this
        · omega
      | succ v ihv =>
        intro w hw'
        refine g_iload dX5_digestLets_23 rfl ?_
        refine g_bipush (v := nI 10) dX5_digestLets_25 (by decide) ?_
        refine g_icmp_gt_n (tgt := 52) dX5_digestLets_27 (by decide) (by omega) (by omega) (fun h1 => ?_) (fun h1 => ?_)
        · omega
        refine g_ldcl dX5_digestLets_30 q420 ?_
        refine g_lload_n dX5_digestLets_33 rfl ?_
        refine g_lmul dX5_digestLets_34 ?_
        refine g_aload_n dX5_digestLets_35 rfl ?_
        refine g_iload dX5_digestLets_36 rfl ?_
        refine g_iload dX5_digestLets_38 rfl ?_
        refine g_callV_i (kX5_regularOf (i := i) (w := w) hw (by omega) (by omega) (hz i (by omega))) oX5_regularOf pX5_regularOf lX5_304 dX5_digestLets_40 rfl (cM_H rfl) rfl rfl rfl (Nat.le_of_ble_eq_true rfl) (Nat.le_of_ble_eq_true rfl) (by decide) (fun M' h' => ?_)
        subst h'
        refine g_i2l dX5_digestLets_43 ?_
        refine g_ladd dX5_digestLets_44 ?_
        refine g_lstore_n dX5_digestLets_45 (by decide) ?_
        refine g_iinc_n (c := 1) dX5_digestLets_46 rfl (by decide) (by decide) ?_
        refine g_goto (tgt := 23) dX5_digestLets_49 (by decide) ?_
        have := ihv (w + 1) (by omega)
        rw [← Nat.add_assoc, mxN_s, show (11 * i + w) / 11 = i by omega, show (11 * i + w) % 11 = w by omega] at this
        exact g_loc rfl this
    refine g_iload dX5_digestLets_5 rfl ?_
    refine g_aload_n dX5_digestLets_7 rfl ?_
    refine g_get fX5_10 dX5_digestLets_8 (cM_H rfl) rfl ?_
    refine g_get fX5_60 dX5_digestLets_11 (cM_S rfl) rfl ?_
    refine g_get fX5_212 dX5_digestLets_14 (cM_R rfl) rfl ?_
    refine g_icmp_ge_n (tgt := 58) dX5_digestLets_17 (by decide) (by omega) (by omega) (fun h1 => ?_) (fun h1 => ?_)
    · have : Y 10 1 ≤ i := h1
      omega
    refine g_iconst (v := nI 0) dX5_digestLets_20 (by decide) ?_
    refine g_istore dX5_digestLets_21 (by decide) ?_
    exact g_loc rfl (inner 11 0 (by omega))
theorem kX5_digestLets (hw : wS Y 9) (h : Int64) : Cn mX5_digestLets 9 0 0 none [.ref 8, .long h] (cM M0 Y) (zj (cgS Y (cgR Y h)) (fun M' => M' = cM M0 Y)) := by
  have h8 : Y 10 1 ≤ 8 := hw.1.2.1
  have h12 : Y 20 1 ≤ 12 := hw.2.2.1
  have z1 : ∀ i, i < Y 10 1 → zin (nI i) (nI 0) (nI (Y 10 1) - nI 1) = true := fun i hi => by
    rw [pk_sub (by omega)]
    exact zin_t (by omega) (by omega) (by omega)
  have z2 : ∀ i, i < Y 20 1 → zin (nI i) (nI 0) (nI (Y 20 1) - nI 1) = true := fun i hi => by
    rw [pk_sub (by omega)]
    exact zin_t (by omega) (by omega) (by omega)
  refine g_lload_n dX5_digestLets_0 rfl ?_
  refine g_lstore_n dX5_digestLets_1 (by decide) ?_
  refine g_iconst (v := nI 0) dX5_digestLets_2 (by decide) ?_
  refine g_istore dX5_digestLets_3 (by decide) ?_
  exact g_loc rfl (dl1 hw h z1 _ (dl2 hw (cgR Y h) z2 (Y 20 1) 0 (by omega)) (Y 10 1) 0 (by omega))
theorem dh1 (hw : wS Y 9) {a : Nat} (ha : a ≤ 2) (h : Int64) (F : zP) (hF : ∀ Z, sc7 Y Z → G mX5_digestHall 9 0 0 none 68 [(0, .ref 8), (3, .int (nI a)), (4, .long (mxN (fun j => (hoC Y a (j / 4) (j % 4)).toInt64) 28 h))] [] (cM M0 Z) F) : ∀ u day Z, day + u = 7 → sc7 Y Z → G mX5_digestHall 9 0 0 none 21 [(0, .ref 8), (3, .int (nI a)), (4, .long (mxN (fun j => (hoC Y a (j / 4) (j % 4)).toInt64) (4 * day) h)), (6, .int (nI day))] [] (cM M0 Z) F := by
  intro u
  induction u with
  | zero =>
    intro day Z hd hZ
    have : day = 7 := by omega
    subst this
    refine g_iload dX5_digestHall_21 rfl ?_
    refine g_bipush (v := nI 6) dX5_digestHall_23 (by decide) ?_
    refine g_icmp_gt_n (tgt := 68) dX5_digestHall_25 (by decide) (by omega) (by omega) (fun h1 => ?_) (fun h1 => ?_)
    · exact g_loc rfl (hF Z hZ)
    · omega
  | succ u ih =>
    intro day Z hd hZ
    have inner : ∀ v w Z, w + v = 4 → sc7 Y Z → G mX5_digestHall 9 0 0 none 31 [(0, .ref 8), (3, .int (nI a)), (4, .long (mxN (fun j => (hoC Y a (j / 4) (j % 4)).toInt64) (4 * day + w) h)), (6, .int (nI day)), (7, .int (nI w))] [] (cM M0 Z) F := by
      intro v
      induction v with
      | zero =>
        intro w Z hw' hZ
        refine g_iload dX5_digestHall_31 rfl ?_
        refine g_iconst (v := nI 3) dX5_digestHall_33 (by decide) ?_
        refine g_icmp_gt_n (tgt := 62) dX5_digestHall_34 (by decide) (by omega) (by omega) (fun h1 => ?_) (fun h1 => ?_)
        · refine g_iinc_n (c := 1) dX5_digestHall_62 rfl (by decide) (by decide) ?_
          refine g_goto (tgt := 21) dX5_digestHall_65 (by decide) ?_
          have := ih (day + 1) Z (by omega) hZ
          rw [show 4 * (day + 1) = 4 * day + w by omega] at this
          exact g_loc rfl this
        · omega
      | succ v ihv =>
        intro w Z hw' hZ
        refine g_iload dX5_digestHall_31 rfl ?_
        refine g_iconst (v := nI 3) dX5_digestHall_33 (by decide) ?_
        refine g_icmp_gt_n (tgt := 62) dX5_digestHall_34 (by decide) (by omega) (by omega) (fun h1 => ?_) (fun h1 => ?_)
        · omega
        refine g_ldcl dX5_digestHall_37 q420 ?_
        refine g_lload dX5_digestHall_40 rfl ?_
        refine g_lmul dX5_digestHall_42 ?_
        refine g_aload_n dX5_digestHall_43 rfl ?_
        refine g_iload_n dX5_digestHall_44 rfl ?_
        refine g_iload dX5_digestHall_45 rfl ?_
        refine g_iload dX5_digestHall_47 rfl ?_
        refine g_callV_i (kX5_hallOf (Y := Z) (h := a) (day := day) (w := w) (sc7_w hw hZ) ha (by omega) (by omega)) oX5_hallOf pX5_hallOf lX5_310 dX5_digestHall_49 rfl (cM_H rfl) rfl rfl rfl (Nat.le_of_ble_eq_true rfl) (Nat.le_of_ble_eq_true rfl) (by decide) (fun M' h' => ?_)
        obtain ⟨Z', rfl, h2⟩ := h'
        rw [sc7_ho hw hZ]
        refine g_i2l dX5_digestHall_52 ?_
        refine g_ladd dX5_digestHall_53 ?_
        refine g_lstore dX5_digestHall_54 (by decide) ?_
        refine g_iinc_n (c := 1) dX5_digestHall_56 rfl (by decide) (by decide) ?_
        refine g_goto (tgt := 31) dX5_digestHall_59 (by decide) ?_
        have := ihv (w + 1) Z' (by omega) (sc7_s hZ h2)
        rw [← Nat.add_assoc, mxN_s, show (4 * day + w) / 4 = day by omega, show (4 * day + w) % 4 = w by omega] at this
        exact g_loc rfl this
    refine g_iload dX5_digestHall_21 rfl ?_
    refine g_bipush (v := nI 6) dX5_digestHall_23 (by decide) ?_
    refine g_icmp_gt_n (tgt := 68) dX5_digestHall_25 (by decide) (by omega) (by omega) (fun h1 => ?_) (fun h1 => ?_)
    · omega
    refine g_iconst (v := nI 0) dX5_digestHall_28 (by decide) ?_
    refine g_istore dX5_digestHall_29 (by decide) ?_
    exact g_loc rfl (inner 4 0 Z (by omega) hZ)
theorem kX5_digestHall (hC : wC Y) (hw : wS Y 9) (hb : ∀ a, a ≤ 2 → hiT Y a < 2 ^ 31) {a : Nat} (ha : a ≤ 2) (h : Int64) {Z : Nat → Nat → Nat} (hZ : sc7 Y Z) : Cn mX5_digestHall 9 0 0 none [.ref 8, .long h, .int (nI a)] (cM M0 Z) (zj (cgH Y a h) (fun M' => ∃ Z', M' = cM M0 Z' ∧ sc7 Y Z')) := by
  refine g_ldcl dX5_digestHall_0 q420 ?_
  refine g_lload_n dX5_digestHall_3 rfl ?_
  refine g_lmul dX5_digestHall_4 ?_
  refine g_aload_n dX5_digestHall_5 rfl ?_
  refine g_get fX5_10 dX5_digestHall_6 (cM_H rfl) rfl ?_
  refine g_get fX5_144 dX5_digestHall_9 (cM_S rfl) rfl ?_
  refine g_iload_n dX5_digestHall_12 rfl ?_
  refine g_cil dX5_digestHall_13 kI_rates (by omega) ?_
  rw [show Z (9 + 25) a = Y 34 a by show Z 34 a = _; rw [sc7_q hZ (by omega) (by omega) (by omega) (by omega)]]
  refine g_i2l dX5_digestHall_14 ?_
  refine g_ladd dX5_digestHall_15 ?_
  refine g_lstore dX5_digestHall_16 (by decide) ?_
  refine g_iconst (v := nI 0) dX5_digestHall_18 (by decide) ?_
  refine g_istore dX5_digestHall_19 (by decide) ?_
  refine g_loc rfl (dh1 hw ha (mx1 (nI (Y 34 a)).toInt64 h) _ (fun Z1 hZ1 => ?_) 7 0 Z (by omega) hZ)
  have hC1 := sc7_C hC hZ1
  have hw1 := sc7_w hw hZ1
  refine g_ldcl dX5_digestHall_68 q420 ?_
  refine g_lload dX5_digestHall_71 rfl ?_
  refine g_lmul dX5_digestHall_73 ?_
  refine g_aload_n dX5_digestHall_74 rfl ?_
  refine g_iload_n dX5_digestHall_75 rfl ?_
  refine g_iconst (v := nI 0) dX5_digestHall_76 (by decide) ?_
  refine g_iconst (v := nI 3) dX5_digestHall_77 (by decide) ?_
  refine g_callV_i (kX5_nextFree (Y := Z1) hC1 hw1 hZ1.1 (h := a) (day := 0) (hrs := 3) ha (by omega) (by omega) (by omega)) oX5_nextFree pX5_nextFree lX5_313 dX5_digestHall_78 rfl (cM_H rfl) rfl rfl rfl (Nat.le_of_ble_eq_true rfl) (Nat.le_of_ble_eq_true rfl) (by decide) (fun M' h' => ?_)
  obtain ⟨Z2, u, rfl, hu, h2⟩ := h'
  have hZ2 := sc7_d hZ1 hu h2
  have hC2 := sc7_C hC hZ2
  have hw2 := sc7_w hw hZ2
  rw [sc7_nf hw hZ1, sc7_q hZ1 (q := 20) (by omega) (by omega) (by omega) (by omega)]
  refine g_i2l dX5_digestHall_81 ?_
  refine g_ladd dX5_digestHall_82 ?_
  refine g_lstore dX5_digestHall_83 (by decide) ?_
  refine g_ldcl dX5_digestHall_85 q420 ?_
  refine g_lload dX5_digestHall_88 rfl ?_
  refine g_lmul dX5_digestHall_90 ?_
  refine g_aload_n dX5_digestHall_91 rfl ?_
  refine g_iload_n dX5_digestHall_92 rfl ?_
  refine g_iconst (v := nI 5) dX5_digestHall_93 (by decide) ?_
  refine g_bipush (v := nI 18) dX5_digestHall_94 (by decide) ?_
  refine g_bipush (v := nI 20) dX5_digestHall_96 (by decide) ?_
  refine g_iconst (v := nI 5) dX5_digestHall_98 (by decide) ?_
  refine g_callV_i (kX5_refusal (Y := Z2) hC2 hw2 (h := a) (day := 5) (f := 18) (t := 20) (r := 5) ha (by omega) (by omega) (by omega) (by omega) (by omega)) oX5_refusal pX5_refusal lX5_316 dX5_digestHall_99 rfl (cM_H rfl) rfl rfl rfl (Nat.le_of_ble_eq_true rfl) (Nat.le_of_ble_eq_true rfl) (by decide) (fun M' h' => ?_)
  obtain ⟨Z3, rfl, h3⟩ := h'
  have hdB := dsV_B hC2 (h := a) (day := 5) (f := 18) (t := 20) (r := 5) (te := 0) ha (by omega) (by omega) (by omega) (by omega) (by omega)
  have hZ3 := sc7_d hZ2 ⟨hdB.1, hdB.2.1⟩ h3
  have hC3 := sc7_C hC hZ3
  have hw3 := sc7_w hw hZ3
  rw [sc7_rs hw hZ2, sc7_q hZ2 (q := 20) (by omega) (by omega) (by omega) (by omega)]
  refine g_i2l dX5_digestHall_102 ?_
  refine g_ladd dX5_digestHall_103 ?_
  refine g_lstore dX5_digestHall_104 (by decide) ?_
  refine g_ldcl dX5_digestHall_106 q420 ?_
  refine g_lload dX5_digestHall_109 rfl ?_
  refine g_lmul dX5_digestHall_111 ?_
  refine g_aload_n dX5_digestHall_112 rfl ?_
  refine g_iload_n dX5_digestHall_113 rfl ?_
  refine g_iconst (v := nI 5) dX5_digestHall_114 (by decide) ?_
  refine g_bipush (v := nI 18) dX5_digestHall_115 (by decide) ?_
  refine g_bipush (v := nI 20) dX5_digestHall_117 (by decide) ?_
  refine g_callV_i (kX5_price (Y := Z3) hC3 (h := a) (day := 5) (f := 18) (t := 20) ha (by omega) (by omega) (by omega)) oX5_price pX5_price lX5_320 dX5_digestHall_119 rfl (cM_H rfl) rfl rfl rfl (Nat.le_of_ble_eq_true rfl) (Nat.le_of_ble_eq_true rfl) (by decide) (fun M' h' => ?_)
  subst h'
  rw [sc7_vR hZ3]
  refine g_i2l dX5_digestHall_122 ?_
  refine g_ladd dX5_digestHall_123 ?_
  refine g_lstore dX5_digestHall_124 (by decide) ?_
  refine g_ldcl dX5_digestHall_126 q420 ?_
  refine g_lload dX5_digestHall_129 rfl ?_
  refine g_lmul dX5_digestHall_131 ?_
  refine g_aload_n dX5_digestHall_132 rfl ?_
  refine g_iload_n dX5_digestHall_133 rfl ?_
  refine g_callV_d (kX5_fullness (Y := Z3) hw3 (h := a) ha) oX5_fullness pX5_fullness lX5_323 dX5_digestHall_134 rfl (cM_H rfl) rfl rfl rfl (Nat.le_of_ble_eq_true rfl) (Nat.le_of_ble_eq_true rfl) (by decide) (fun M' h' => ?_)
  subst h'
  rw [sc7_hi hw hZ3]
  refine g_sipush (v := nI 1023) dX5_digestHall_137 (by decide) ?_
  refine g_bipush (v := nI 52) dX5_digestHall_140 (by decide) ?_
  refine g_callS_j (kX5_bitsD (n := hiT Y a) (hb a ha)) oX5_bitsOf pX5_bitsOf lX5_300 dX5_digestHall_142 rfl rfl (Nat.le_of_ble_eq_true rfl) (Nat.le_of_ble_eq_true rfl) (by decide) (fun M' h' => ?_)
  subst h'
  refine g_ladd dX5_digestHall_145 ?_
  exact g_lreturn dX5_digestHall_146 rfl ⟨rfl, rfl, Z3, rfl, hZ3⟩
theorem dg_1 (hw : wS Y 9) (h0 : Int64) (F : zP) (hF : G mX5_digest 10 0 0 none 31 [(0, .ref 8), (1, .long (cg1 Y h0))] [] (cM M0 Y) F) : ∀ u w, w + u = 13 → G mX5_digest 10 0 0 none 6 [(0, .ref 8), (1, .long (mxN (fun w => (nI (cntC Y w)).toInt64) w h0)), (3, .int (nI w))] [] (cM M0 Y) F := by
  intro u
  induction u with
  | zero =>
    intro w hw'
    have : w = 13 := by omega
    subst this
    refine g_iload_n dX5_digest_6 rfl ?_
    refine g_bipush (v := nI 12) dX5_digest_7 (by decide) ?_
    refine g_icmp_gt_n (tgt := 31) dX5_digest_9 (by decide) (by omega) (by omega) (fun h1 => ?_) (fun h1 => ?_)
    · exact g_loc rfl hF
    · omega
  | succ u ih =>
    intro w hw'
    refine g_iload_n dX5_digest_6 rfl ?_
    refine g_bipush (v := nI 12) dX5_digest_7 (by decide) ?_
    refine g_icmp_gt_n (tgt := 31) dX5_digest_9 (by decide) (by omega) (by omega) (fun h1 => ?_) (fun h1 => ?_)
    · omega
    refine g_ldcl dX5_digest_12 q420 ?_
    refine g_lload_n dX5_digest_15 rfl ?_
    refine g_lmul dX5_digest_16 ?_
    refine g_aload_n dX5_digest_17 rfl ?_
    refine g_iload_n dX5_digest_18 rfl ?_
    refine g_callV_i (kX5_count (w := w) hw (by omega)) oX5_count pX5_count lX5_279 dX5_digest_19 rfl (cM_H rfl) rfl rfl rfl (Nat.le_of_ble_eq_true rfl) (Nat.le_of_ble_eq_true rfl) (by decide) (fun M' h' => ?_)
    subst h'
    refine g_i2l dX5_digest_22 ?_
    refine g_ladd dX5_digest_23 ?_
    refine g_lstore_n dX5_digest_24 (by decide) ?_
    refine g_iinc_n (c := 1) dX5_digest_25 rfl (by decide) (by decide) ?_
    refine g_goto (tgt := 6) dX5_digest_28 (by decide) ?_
    have := ih (w + 1) (by omega)
    rw [mxN_s] at this
    exact g_loc rfl this
theorem dg_2 (hw : wS Y 9) (h : Int64) (F : zP) (hF : G mX5_digest 10 0 0 none 81 [(0, .ref 8), (1, .long (cgT Y h))] [] (cM M0 Y) F) : ∀ u i, i + u = 20 → G mX5_digest 10 0 0 none 39 [(0, .ref 8), (1, .long (mxN (fun j => (nI (sfT Y (nI (j / 3)) (j % 3))).toInt64) (3 * i) h)), (3, .int (nI i))] [] (cM M0 Y) F := by
  intro u
  induction u with
  | zero =>
    intro i hi
    have : i = 20 := by omega
    subst this
    refine g_iload_n dX5_digest_39 rfl ?_
    refine g_bipush (v := nI 20) dX5_digest_40 (by decide) ?_
    refine g_icmp_ge_n (tgt := 81) dX5_digest_42 (by decide) (by omega) (by omega) (fun h1 => ?_) (fun h1 => ?_)
    · exact g_loc rfl hF
    · omega
  | succ u ih =>
    intro i hi
    have inner : ∀ v w, w + v = 3 → G mX5_digest 10 0 0 none 48 [(0, .ref 8), (1, .long (mxN (fun j => (nI (sfT Y (nI (j / 3)) (j % 3))).toInt64) (3 * i + w) h)), (3, .int (nI i)), (4, .int (nI w))] [] (cM M0 Y) F := by
      intro v
      induction v with
      | zero =>
        intro w hw'
        refine g_iload dX5_digest_48 rfl ?_
        refine g_iconst (v := nI 2) dX5_digest_50 (by decide) ?_
        refine g_icmp_gt_n (tgt := 75) dX5_digest_51 (by decide) (by omega) (by omega) (fun h1 => ?_) (fun h1 => ?_)
        · refine g_iinc_n (c := 1) dX5_digest_75 rfl (by decide) (by decide) ?_
          refine g_goto (tgt := 39) dX5_digest_78 (by decide) ?_
          have := ih (i + 1) (by omega)
          rw [show 3 * (i + 1) = 3 * i + w by omega] at this
          exact g_loc rfl this
        · omega
      | succ v ihv =>
        intro w hw'
        refine g_iload dX5_digest_48 rfl ?_
        refine g_iconst (v := nI 2) dX5_digest_50 (by decide) ?_
        refine g_icmp_gt_n (tgt := 75) dX5_digest_51 (by decide) (by omega) (by omega) (fun h1 => ?_) (fun h1 => ?_)
        · omega
        refine g_ldcl dX5_digest_54 q420 ?_
        refine g_lload_n dX5_digest_57 rfl ?_
        refine g_lmul dX5_digest_58 ?_
        refine g_aload_n dX5_digest_59 rfl ?_
        refine g_iload_n dX5_digest_60 rfl ?_
        refine g_iload dX5_digest_61 rfl ?_
        refine g_callV_i (kX5_tenant (t := i) (w := w) hw (by omega) (by omega)) oX5_tenant pX5_tenant lX5_286 dX5_digest_63 rfl (cM_H rfl) rfl rfl rfl (Nat.le_of_ble_eq_true rfl) (Nat.le_of_ble_eq_true rfl) (by decide) (fun M' h' => ?_)
        subst h'
        refine g_i2l dX5_digest_66 ?_
        refine g_ladd dX5_digest_67 ?_
        refine g_lstore_n dX5_digest_68 (by decide) ?_
        refine g_iinc_n (c := 1) dX5_digest_69 rfl (by decide) (by decide) ?_
        refine g_goto (tgt := 48) dX5_digest_72 (by decide) ?_
        have := ihv (w + 1) (by omega)
        rw [← Nat.add_assoc, mxN_s, show (3 * i + w) / 3 = i by omega, show (3 * i + w) % 3 = w by omega] at this
        exact g_loc rfl this
    refine g_iload_n dX5_digest_39 rfl ?_
    refine g_bipush (v := nI 20) dX5_digest_40 (by decide) ?_
    refine g_icmp_ge_n (tgt := 81) dX5_digest_42 (by decide) (by omega) (by omega) (fun h1 => ?_) (fun h1 => ?_)
    · omega
    refine g_iconst (v := nI 0) dX5_digest_45 (by decide) ?_
    refine g_istore dX5_digest_46 (by decide) ?_
    exact g_loc rfl (inner 3 0 (by omega))
theorem dg_3 (hC : wC Y) (hw : wS Y 9) (hb : ∀ a, a ≤ 2 → hiT Y a < 2 ^ 31) (h : Int64) (F : zP) (hF : ∀ Z, sc7 Y Z → G mX5_digest 10 0 0 none 101 [(0, .ref 8), (1, .long (cgHN Y 3 h))] [] (cM M0 Z) F) : ∀ u i Z, i + u = 3 → sc7 Y Z → G mX5_digest 10 0 0 none 83 [(0, .ref 8), (1, .long (cgHN Y i h)), (3, .int (nI i))] [] (cM M0 Z) F := by
  intro u
  induction u with
  | zero =>
    intro i Z hi hZ
    have : i = 3 := by omega
    subst this
    refine g_iload_n dX5_digest_83 rfl ?_
    refine g_iconst (v := nI 3) dX5_digest_84 (by decide) ?_
    refine g_icmp_ge_n (tgt := 101) dX5_digest_85 (by decide) (by omega) (by omega) (fun h1 => ?_) (fun h1 => ?_)
    · exact g_loc rfl (hF Z hZ)
    · omega
  | succ u ih =>
    intro i Z hi hZ
    refine g_iload_n dX5_digest_83 rfl ?_
    refine g_iconst (v := nI 3) dX5_digest_84 (by decide) ?_
    refine g_icmp_ge_n (tgt := 101) dX5_digest_85 (by decide) (by omega) (by omega) (fun h1 => ?_) (fun h1 => ?_)
    · omega
    refine g_aload_n dX5_digest_88 rfl ?_
    refine g_lload_n dX5_digest_89 rfl ?_
    refine g_iload_n dX5_digest_90 rfl ?_
    refine g_callV_j (kX5_digestHall hC hw hb (a := i) (by omega) (cgHN Y i h) hZ) oX5_digestHall pX5_digestHall lX5_289 dX5_digest_91 rfl (cM_H rfl) rfl rfl rfl (Nat.le_of_ble_eq_true rfl) (Nat.le_of_ble_eq_true rfl) (by decide) (fun M' h' => ?_)
    obtain ⟨Z', rfl, h2⟩ := h'
    refine g_lstore_n dX5_digest_94 (by decide) ?_
    refine g_iinc_n (c := 1) dX5_digest_95 rfl (by decide) (by decide) ?_
    refine g_goto (tgt := 83) dX5_digest_98 (by decide) ?_
    exact g_loc rfl (ih (i + 1) Z' (by omega) h2)
theorem dg_4 (hT : wT Y) (h : Int64) {Z : Nat → Nat → Nat} (hZ : sc7 Y Z) (F : zP) (hF : F (cM M0 Z) none (.inl (some (.long (mxN (fun j => (nI (Y 65 j)).toInt64) (Y 64 1) h))))) : ∀ u i, i + u = Y 64 1 → G mX5_digest 10 0 0 none 149 [(0, .ref 8), (1, .long (mxN (fun j => (nI (Y 65 j)).toInt64) i h)), (3, .int (nI i))] [] (cM M0 Z) F := by
  have hl := hT.1
  have e64 : Z 64 = Y 64 := sc7_q hZ (by omega) (by omega) (by omega) (by omega)
  have e65 : Z 65 = Y 65 := sc7_q hZ (by omega) (by omega) (by omega) (by omega)
  intro u
  induction u with
  | zero =>
    intro i hi
    refine g_iload_n dX5_digest_149 rfl ?_
    refine g_aload_n dX5_digest_150 rfl ?_
    refine g_get fX5_26 dX5_digest_151 (cM_H rfl) rfl ?_
    refine g_get fX5_171 dX5_digest_154 (cM_T rfl) rfl ?_
    rw [e64]
    refine g_icmp_ge_n (tgt := 183) dX5_digest_157 (by decide) (by omega) (by omega) (fun h1 => ?_) (fun h1 => ?_)
    · refine g_lload_n dX5_digest_183 rfl ?_
      rw [show i = Y 64 1 by omega]
      exact g_lreturn dX5_digest_184 rfl hF
    · omega
  | succ u ih =>
    intro i hi
    refine g_iload_n dX5_digest_149 rfl ?_
    refine g_aload_n dX5_digest_150 rfl ?_
    refine g_get fX5_26 dX5_digest_151 (cM_H rfl) rfl ?_
    refine g_get fX5_171 dX5_digest_154 (cM_T rfl) rfl ?_
    rw [e64]
    refine g_icmp_ge_n (tgt := 183) dX5_digest_157 (by decide) (by omega) (by omega) (fun h1 => ?_) (fun h1 => ?_)
    · omega
    refine g_ldcl dX5_digest_160 q420 ?_
    refine g_lload_n dX5_digest_163 rfl ?_
    refine g_lmul dX5_digest_164 ?_
    refine g_aload_n dX5_digest_165 rfl ?_
    refine g_get fX5_26 dX5_digest_166 (cM_H rfl) rfl ?_
    refine g_get fX5_183 dX5_digest_169 (cM_T rfl) rfl ?_
    refine g_iload_n dX5_digest_172 rfl ?_
    refine g_cil dX5_digest_173 kI_codes (by omega) ?_
    rw [e65]
    refine g_i2l dX5_digest_174 ?_
    refine g_ladd dX5_digest_175 ?_
    refine g_lstore_n dX5_digest_176 (by decide) ?_
    refine g_iinc_n (c := 1) dX5_digest_177 rfl (by decide) (by decide) ?_
    refine g_goto (tgt := 149) dX5_digest_180 (by decide) ?_
    have := ih (i + 1) (by omega)
    rw [mxN_s] at this
    exact g_loc rfl this
def cgE (Y : Nat → Nat → Nat) (h : Int64) : Int64 := mxN (fun j => (nI (Y 65 j)).toInt64) (Y 64 1) (mx1 (nI (Y 64 1)).toInt64 (mx1 (FP.fdiv (FP.i2f (nI (sfT Y (-1) 2))) 1118306304).toInt32.toInt64 (mx1 (btC Y 20).1.toInt64 h)))
theorem dg_5 (hw : wS Y 9) (hT : wT Y) (hs : ∀ n, n < 20 → sfT Y (nI n) 2 < 2 ^ 31) (hs2 : sfT Y (-1) 2 < 2 ^ 31) {Z : Nat → Nat → Nat} (hZ : sc7 Y Z) (h : Int64) (F : zP) (hF : F (cM M0 Z) none (.inl (some (.long (cgE Y h))))) : G mX5_digest 10 0 0 none 101 [(0, .ref 8), (1, .long h)] [] (cM M0 Z) F := by
  have hw1 := sc7_w hw hZ
  refine g_ldcl dX5_digest_101 q420 ?_
  refine g_lload_n dX5_digest_104 rfl ?_
  refine g_lmul dX5_digest_105 ?_
  refine g_aload_n dX5_digest_106 rfl ?_
  refine g_callV_i (kX5_best (Y := Z) hw1 (fun n hn => by rw [sc7_sf hw hZ]; exact hs n hn)) oX5_best pX5_best lX5_293 dX5_digest_107 rfl (cM_H rfl) rfl rfl rfl (Nat.le_of_ble_eq_true rfl) (Nat.le_of_ble_eq_true rfl) (by decide) (fun M' h' => ?_)
  subst h'
  rw [sc7_bt hw hZ]
  refine g_i2l dX5_digest_110 ?_
  refine g_ladd dX5_digest_111 ?_
  refine g_lstore_n dX5_digest_112 (by decide) ?_
  refine g_ldcl dX5_digest_113 q420 ?_
  refine g_lload_n dX5_digest_116 rfl ?_
  refine g_lmul dX5_digest_117 ?_
  refine g_aload_n dX5_digest_118 rfl ?_
  refine g_callV_g (kX5_meanRent (Y := Z) hw1) oX5_meanRent pX5_meanRent lX5_296 dX5_digest_119 rfl (cM_H rfl) rfl rfl rfl (Nat.le_of_ble_eq_true rfl) (Nat.le_of_ble_eq_true rfl) (by decide) (fun M' h' => ?_)
  subst h'
  rw [sc7_sf hw hZ]
  refine g_f2d dX5_digest_122 (vf_of64 (by rw [FP.f2d_nan]; exact z84 _)) ?_
  refine g_bipush (v := nI 127) dX5_digest_123 (by decide) ?_
  refine g_bipush (v := nI 23) dX5_digest_125 (by decide) ?_
  refine g_callS_j (kX5_bitsF (n := sfT Y (-1) 2) hs2) oX5_bitsOf pX5_bitsOf lX5_300 dX5_digest_127 rfl rfl (Nat.le_of_ble_eq_true rfl) (Nat.le_of_ble_eq_true rfl) (by decide) (fun M' h' => ?_)
  subst h'
  refine g_ladd dX5_digest_130 ?_
  refine g_lstore_n dX5_digest_131 (by decide) ?_
  refine g_ldcl dX5_digest_132 q420 ?_
  refine g_lload_n dX5_digest_135 rfl ?_
  refine g_lmul dX5_digest_136 ?_
  refine g_aload_n dX5_digest_137 rfl ?_
  refine g_get fX5_26 dX5_digest_138 (cM_H rfl) rfl ?_
  refine g_get fX5_171 dX5_digest_141 (cM_T rfl) rfl ?_
  rw [sc7_q hZ (q := 64) (by omega) (by omega) (by omega) (by omega)]
  refine g_i2l dX5_digest_144 ?_
  refine g_ladd dX5_digest_145 ?_
  refine g_lstore_n dX5_digest_146 (by decide) ?_
  refine g_iconst (v := nI 0) dX5_digest_147 (by decide) ?_
  refine g_istore_n dX5_digest_148 (by decide) ?_
  exact g_loc rfl (dg_4 hT _ hZ _ hF (Y 64 1) 0 (by omega))
theorem dg_2a (hw : wS Y 9) (h : Int64) (F : zP) (hF : G mX5_digest 10 0 0 none 81 [(0, .ref 8), (1, .long (cgT Y h))] [] (cM M0 Y) F) : G mX5_digest 10 0 0 none 39 [(0, .ref 8), (1, .long h), (3, .int (nI 0))] [] (cM M0 Y) F := by
  have := dg_2 hw h F hF 20 0 (by omega)
  rw [Nat.mul_zero, show mxN (fun j => (nI (sfT Y (nI (j / 3)) (j % 3))).toInt64) 0 h = h from rfl] at this
  exact this
theorem kX5_digestA (h0 : Int64) (hC : wC Y) (hw : wS Y 9) (hT : wT Y) (hD : dB (Y 70)) (hb : ∀ a, a ≤ 2 → hiT Y a < 2 ^ 31) (hs : ∀ n, n < 20 → sfT Y (nI n) 2 < 2 ^ 31) (hs2 : sfT Y (-1) 2 < 2 ^ 31) : G mX5_digest 10 0 0 none 3 [(0, .ref 8)] [.long h0] (cM M0 Y) (zj (cgE Y (cgHN Y 3 (cgT Y (cgS Y (cgR Y (cg1 Y h0)))))) (fun M' => ∃ Z, M' = cM M0 Z ∧ sc7 Y Z)) := by
  refine g_lstore_n dX5_digest_3 (by decide) ?_
  refine g_iconst (v := nI 0) dX5_digest_4 (by decide) ?_
  refine g_istore_n dX5_digest_5 (by decide) ?_
  refine g_loc rfl (dg_1 hw h0 _ ?_ 13 0 (by omega))
  refine g_aload_n dX5_digest_31 rfl ?_
  refine g_lload_n dX5_digest_32 rfl ?_
  refine g_callV_j (kX5_digestLets hw (cg1 Y h0)) oX5_digestLets pX5_digestLets lX5_282 dX5_digest_33 rfl (cM_H rfl) rfl rfl rfl (Nat.le_of_ble_eq_true rfl) (Nat.le_of_ble_eq_true rfl) (by decide) (fun M' h' => ?_)
  subst h'
  generalize cgS Y (cgR Y (cg1 Y h0)) = h
  refine g_lstore_n dX5_digest_36 (by decide) ?_
  refine g_iconst (v := nI 0) dX5_digest_37 (by decide) ?_
  refine g_istore_n dX5_digest_38 (by decide) ?_
  refine g_loc rfl (dg_2a hw h _ ?_)
  generalize cgT Y h = h
  refine g_iconst (v := nI 0) dX5_digest_81 (by decide) ?_
  refine g_istore_n dX5_digest_82 (by decide) ?_
  refine g_loc rfl (dg_3 hC hw hb _ _ (fun Z hZ => ?_) 3 0 Y (by omega) (sc7_r hD))
  exact dg_5 hw hT hs hs2 hZ _ _ ⟨rfl, rfl, Z, rfl, hZ⟩
theorem kX5_digest (hC : wC Y) (hw : wS Y 9) (hT : wT Y) (hD : dB (Y 70)) (hb : ∀ a, a ≤ 2 → hiT Y a < 2 ^ 31) (hs : ∀ n, n < 20 → sfT Y (nI n) 2 < 2 ^ 31) (hs2 : sfT Y (-1) 2 < 2 ^ 31) : Cn mX5_digest 10 0 0 none [.ref 8] (cM M0 Y) (zj (cgE Y (cgHN Y 3 (cgT Y (cgS Y (cgR Y (cg1 Y 3709)))))) (fun M' => ∃ Z, M' = cM M0 Z ∧ sc7 Y Z)) := g_ldcl dX5_digest_0 q419 (kX5_digestA 3709 hC hw hT hD hb hs hs2)
end DIG
