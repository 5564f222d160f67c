/-! the reference: regular, cancel, off, rate, set -/
def okA (a1 a2 a3 a4 a5 : Int32) (m : Nat) : Bool := zin a1 (nI 0) (nI m) && zhrs a2 a3 && zwho a4 a5
theorem zhrs_n {f t : Nat} (hf : f < t) (ht : t ≤ 24) : zhrs (nI f) (nI t) = true := by
  rw [zhrs, nI_add, zin_n (by omega) (by decide) (by decide), zin_n (by omega) (by omega) (by decide)]
  simp
  omega
theorem zwho_n {r te : Nat} (hr : 1 ≤ r) (hr2 : r ≤ 9) (hte : te ≤ 19) : zwho (nI r) (nI te) = true := by
  rw [zwho, zin_n (by omega) (by decide) (by decide), zin_n (by omega) (by decide) (by decide)]
  simp
  omega
theorem zin_t {w a b : Nat} (h1 : a ≤ w) (h2 : w ≤ b) (hb : b < 2 ^ 31) : zin (nI w) (nI a) (nI b) = true := by
  rw [zin_n (by omega) (by omega) hb]
  simp
  omega
section MOD8
variable {M0 : zM} {X SV SN AT CH CF CT BU PT : Nat → Nat} {sm ik th mn cl ln sp nu pa : Nat} {hs : Int64}
variable {SS : Nat → Nat → Nat}
theorem kX6_regular1 {a0 a1 a2 a3 a4 a5 : Int32} (h : zin a0 (nI 0) (nI 2) = false) : Cn mX6_regular 2 0 0 none [.ref 233, .int a0, .int a1, .int a2, .int a3, .int a4, .int a5] (mM M0 X SV SN AT CH CF CT BU PT sm ik th mn cl ln sp nu pa hs) (zi (nI 0) (fun M' => M' = mM M0 X SV SN AT CH CF CT BU PT sm ik 1 mn cl ln sp nu pa hs)) := by
  refine g_aload_n dX6_regular_0 rfl ?_
  refine g_iconst (v := nI 0) dX6_regular_1 (by decide) ?_
  refine g_mput_thrown fX6_37 dX6_regular_2 ?_
  refine g_iload_n dX6_regular_5 rfl ?_
  refine g_callS_i (kX6_isHall a0) oX6_isHall pX6_isHall lX6_117 dX6_regular_6 rfl rfl (Nat.le_of_ble_eq_true rfl) (Nat.le_of_ble_eq_true rfl) (by decide) (fun M' h' => ?_)
  subst h'
  refine g_if_ne_b (tgt := 18) dX6_regular_9 (by decide) (fun h1 => ?_) (fun h1 => ?_)
  · rw [h] at h1; cases h1
  refine g_aload_n dX6_regular_12 rfl ?_
  refine g_iconst (v := nI 1) dX6_regular_13 (by decide) ?_
  refine g_callV_i (kX6_fails 1) oX6_fails pX6_fails lX6_48 dX6_regular_14 rfl rfl rfl rfl rfl (Nat.le_of_ble_eq_true rfl) (Nat.le_of_ble_eq_true rfl) (by decide) (fun M' h' => ?_)
  subst h'
  exact g_ireturn dX6_regular_17 rfl rfl ⟨rfl, rfl, rfl⟩
theorem kX6_regular2 {a0 a1 a2 a3 a4 a5 : Int32} (h : zin a0 (nI 0) (nI 2) = true) (hb : okA a1 a2 a3 a4 a5 6 = false) : Cn mX6_regular 2 0 0 none [.ref 233, .int a0, .int a1, .int a2, .int a3, .int a4, .int a5] (mM M0 X SV SN AT CH CF CT BU PT sm ik th mn cl ln sp nu pa hs) (zi (nI 0) (fun M' => M' = mM M0 X SV SN AT CH CF CT BU PT sm ik 2 mn cl ln sp nu pa hs)) := by
  have fin : ∀ L, zl L 0 = some (.ref 233) → G mX6_regular 2 0 0 none 47 L [] (mM M0 X SV SN AT CH CF CT BU PT sm ik 0 mn cl ln sp nu pa hs) (zi (nI 0) (fun M' => M' = mM M0 X SV SN AT CH CF CT BU PT sm ik 2 mn cl ln sp nu pa hs)) := fun L hL => by
    refine g_loc (L' := [(0, .ref 233)]) (by simp [hL]) ?_
    refine g_aload_n dX6_regular_47 rfl ?_
    refine g_iconst (v := nI 2) dX6_regular_48 (by decide) ?_
    refine g_callV_i (kX6_fails 2) oX6_fails pX6_fails lX6_48 dX6_regular_49 rfl rfl rfl rfl rfl (Nat.le_of_ble_eq_true rfl) (Nat.le_of_ble_eq_true rfl) (by decide) (fun M' h' => ?_)
    subst h'
    exact g_ireturn dX6_regular_52 rfl rfl ⟨rfl, rfl, rfl⟩
  refine g_aload_n dX6_regular_0 rfl ?_
  refine g_iconst (v := nI 0) dX6_regular_1 (by decide) ?_
  refine g_mput_thrown fX6_37 dX6_regular_2 ?_
  refine g_iload_n dX6_regular_5 rfl ?_
  refine g_callS_i (kX6_isHall a0) oX6_isHall pX6_isHall lX6_117 dX6_regular_6 rfl rfl (Nat.le_of_ble_eq_true rfl) (Nat.le_of_ble_eq_true rfl) (by decide) (fun M' h' => ?_)
  subst h'
  refine g_if_ne_b (tgt := 18) dX6_regular_9 (by decide) (fun h1 => ?_) (fun h1 => ?_)
  rotate_left
  · rw [h] at h1; cases h1
  refine g_iload_n dX6_regular_18 rfl ?_
  refine g_iconst (v := nI 0) dX6_regular_19 (by decide) ?_
  refine g_bipush (v := nI 6) dX6_regular_20 (by decide) ?_
  refine g_callS_i (kX6_in a1 (nI 0) (nI 6)) oX6_in pX6_in lX6_41 dX6_regular_22 rfl rfl (Nat.le_of_ble_eq_true rfl) (Nat.le_of_ble_eq_true rfl) (by decide) (fun M' h' => ?_)
  subst h'
  refine g_if_eq_b (tgt := 47) dX6_regular_25 (by decide) (fun h2 => ?_) (fun h2 => ?_)
  · exact fin _ rfl
  refine g_iload_n dX6_regular_28 rfl ?_
  refine g_iload dX6_regular_29 rfl ?_
  refine g_callS_i (kX6_areHours a2 a3) oX6_areHours pX6_areHours lX6_124 dX6_regular_31 rfl rfl (Nat.le_of_ble_eq_true rfl) (Nat.le_of_ble_eq_true rfl) (by decide) (fun M' h' => ?_)
  subst h'
  refine g_if_eq_b (tgt := 47) dX6_regular_34 (by decide) (fun h3 => ?_) (fun h3 => ?_)
  · exact fin _ rfl
  refine g_iload dX6_regular_37 rfl ?_
  refine g_iload dX6_regular_39 rfl ?_
  refine g_callS_i (kX6_isWho a4 a5) oX6_isWho pX6_isWho lX6_127 dX6_regular_41 rfl rfl (Nat.le_of_ble_eq_true rfl) (Nat.le_of_ble_eq_true rfl) (by decide) (fun M' h' => ?_)
  subst h'
  refine g_if_ne_b (tgt := 53) dX6_regular_44 (by decide) (fun h4 => ?_) (fun h4 => ?_)
  · simp [okA, h2, h3, h4] at hb
  · exact fin _ rfl
theorem regular3 (hX : wf0 X) {h wd f t r te : Nat} (hh : h ≤ 2) (hw : wd ≤ 6) (hft : f < t) (ht : t ≤ 24) (hr : 1 ≤ r) (hr2 : r ≤ 9) (hte : te ≤ 19) (F : zP) (hk : G mX6_regular 6 0 0 none 53 [(0, .ref 233), (1, .int (nI h)), (2, .int (nI wd)), (3, .int (nI f)), (4, .int (nI t)), (5, .int (nI r)), (6, .int (nI te))] [] (mM M0 X SV SN AT CH CF CT BU PT sm ik 0 mn cl ln sp nu pa hs) F) : Cn mX6_regular 6 0 0 none [.ref 233, .int (nI h), .int (nI wd), .int (nI f), .int (nI t), .int (nI r), .int (nI te)] (mM M0 X SV SN AT CH CF CT BU PT sm ik th mn cl ln sp nu pa hs) F := by
  refine g_aload_n dX6_regular_0 rfl ?_
  refine g_iconst (v := nI 0) dX6_regular_1 (by decide) ?_
  refine g_mput_thrown fX6_37 dX6_regular_2 ?_
  refine g_iload_n dX6_regular_5 rfl ?_
  refine g_callS_i (kX6_isHall (nI h)) oX6_isHall pX6_isHall lX6_117 dX6_regular_6 rfl rfl (Nat.le_of_ble_eq_true rfl) (Nat.le_of_ble_eq_true rfl) (by decide) (fun M' h' => ?_)
  subst h'
  rw [zin_t (by omega) (by omega) (by decide)]
  refine g_if_ne_b (tgt := 18) dX6_regular_9 (by decide) (fun h1 => ?_) (fun h1 => ?_)
  rotate_left
  · cases h1
  refine g_iload_n dX6_regular_18 rfl ?_
  refine g_iconst (v := nI 0) dX6_regular_19 (by decide) ?_
  refine g_bipush (v := nI 6) dX6_regular_20 (by decide) ?_
  refine g_callS_i (kX6_in (nI wd) (nI 0) (nI 6)) oX6_in pX6_in lX6_41 dX6_regular_22 rfl rfl (Nat.le_of_ble_eq_true rfl) (Nat.le_of_ble_eq_true rfl) (by decide) (fun M' h' => ?_)
  subst h'
  rw [zin_t (by omega) (by omega) (by decide)]
  refine g_if_eq_b (tgt := 47) dX6_regular_25 (by decide) (fun h2 => ?_) (fun h2 => ?_)
  · cases h2
  refine g_iload_n dX6_regular_28 rfl ?_
  refine g_iload dX6_regular_29 rfl ?_
  refine g_callS_i (kX6_areHours (nI f) (nI t)) oX6_areHours pX6_areHours lX6_124 dX6_regular_31 rfl rfl (Nat.le_of_ble_eq_true rfl) (Nat.le_of_ble_eq_true rfl) (by decide) (fun M' h' => ?_)
  subst h'
  rw [zhrs_n hft ht]
  refine g_if_eq_b (tgt := 47) dX6_regular_34 (by decide) (fun h3 => ?_) (fun h3 => ?_)
  · cases h3
  refine g_iload dX6_regular_37 rfl ?_
  refine g_iload dX6_regular_39 rfl ?_
  refine g_callS_i (kX6_isWho (nI r) (nI te)) oX6_isWho pX6_isWho lX6_127 dX6_regular_41 rfl rfl (Nat.le_of_ble_eq_true rfl) (Nat.le_of_ble_eq_true rfl) (by decide) (fun M' h' => ?_)
  subst h'
  rw [zwho_n hr hr2 hte]
  refine g_if_ne_b (tgt := 53) dX6_regular_44 (by decide) (fun h4 => ?_) (fun h4 => ?_)
  rotate_left
  · cases h4
  exact g_loc rfl hk
/-- whether a regular let is refused -/
def refR (X : Nat → Nat) (h wd f t r : Nat) : Bool := decide (X 11 = 8) || !ssW X (offW X h wd f t r)
theorem kX6_regular3 (hX : wf0 X) (hX1 : wf1 X) {h wd f t r te : Nat} (hh : h ≤ 2) (hw : wd ≤ 6) (hft : f < t) (ht : t ≤ 24) (hr : 1 ≤ r) (hr2 : r ≤ 9) (hte : te ≤ 19) (hrf : refR X h wd f t r = true) : Cn mX6_regular 6 0 0 none [.ref 233, .int (nI h), .int (nI wd), .int (nI f), .int (nI t), .int (nI r), .int (nI te)] (mM M0 X SV SN AT CH CF CT BU PT sm ik th mn cl ln sp nu pa hs) (zi (nI 0) (fun M' => ∃ AT' CH' CF' CT' mn' cl', M' = mM M0 X SV SN AT' CH' CF' CT' BU PT sm ik 3 mn' cl' ln sp nu pa hs)) := by
  refine regular3 hX hh hw hft ht hr hr2 hte _ ?_
  have h8 := hX.2.1
  have w4 := hX1.2.2.2.2.1
  have w3 := hX1.2.2.2.1
  have fin : ∀ L AT' CH' CF' CT' mn' cl', zl L 0 = some (.ref 233) → G mX6_regular 6 0 0 none 83 L [] (mM M0 X SV SN AT' CH' CF' CT' BU PT sm ik 0 mn' cl' ln sp nu pa hs) (zi (nI 0) (fun M' => ∃ AT' CH' CF' CT' mn' cl', M' = mM M0 X SV SN AT' CH' CF' CT' BU PT sm ik 3 mn' cl' ln sp nu pa hs)) := fun L AT' CH' CF' CT' mn' cl' hL => by
    refine g_loc (L' := [(0, .ref 233)]) (by simp [hL]) ?_
    refine g_aload_n dX6_regular_83 rfl ?_
    refine g_iconst (v := nI 3) dX6_regular_84 (by decide) ?_
    refine g_callV_i (kX6_fails 3) oX6_fails pX6_fails lX6_48 dX6_regular_85 rfl rfl rfl rfl rfl (Nat.le_of_ble_eq_true rfl) (Nat.le_of_ble_eq_true rfl) (by decide) (fun M' h' => ?_)
    subst h'
    exact g_ireturn dX6_regular_88 rfl rfl ⟨rfl, rfl, AT', CH', CF', CT', mn', cl', rfl⟩
  refine g_aload_n dX6_regular_53 rfl ?_
  refine g_get fX6_7 dX6_regular_54 rfl rfl ?_
  refine g_bipush (v := nI 11) dX6_regular_57 (by decide) ?_
  refine g_iald_n dX6_regular_59 rfl (by omega) (by decide) ?_
  refine g_bipush (v := nI 8) dX6_regular_60 (by decide) ?_
  refine g_icmp_eq_n (tgt := 83) dX6_regular_62 (by decide) (by omega) (by omega) (fun h1 => ?_) (fun h1 => ?_)
  · exact fin _ _ _ _ _ _ _ rfl
  refine g_aload_n dX6_regular_65 rfl ?_
  refine g_aload_n dX6_regular_66 rfl ?_
  refine g_iload_n dX6_regular_67 rfl ?_
  refine g_iload_n dX6_regular_68 rfl ?_
  refine g_iload_n dX6_regular_69 rfl ?_
  refine g_iload dX6_regular_70 rfl ?_
  refine g_iload dX6_regular_72 rfl ?_
  refine g_callV_i (kX6_offWeeks hX hX1 (h := h) (wd := wd) (f := f) (t := t) (r := r) hh hw (by omega) ht hr2) oX6_offWeeks pX6_offWeeks lX6_137 dX6_regular_74 rfl rfl rfl rfl rfl (Nat.le_of_ble_eq_true rfl) (Nat.le_of_ble_eq_true rfl) (by decide) (fun M' h' => ?_)
  obtain ⟨AT', CH', CF', CT', mn', cl', rfl⟩ := h'
  refine g_callV_i (kX6_standsSomewhere hX1 (off := offW X h wd f t r) (offN_lt w4 h wd f t r _ (by omega))) oX6_standsSomewhere pX6_standsSomewhere lX6_143 dX6_regular_77 rfl rfl rfl rfl rfl (Nat.le_of_ble_eq_true rfl) (Nat.le_of_ble_eq_true rfl) (by decide) (fun M' h' => ?_)
  subst h'
  refine g_if_ne_b (tgt := 89) dX6_regular_80 (by decide) (fun h2 => ?_) (fun h2 => ?_)
  · simp [refR, h1, h2] at hrf
  · exact fin _ _ _ _ _ _ _ rfl
theorem kX6_regular (hX : wf0 X) (hX1 : wf1 X) (hs6 : sm ≤ 6) {h wd f t r te : Nat} (hh : h ≤ 2) (hw : wd ≤ 6) (hft : f < t) (ht : t ≤ 24) (hr : 1 ≤ r) (hr2 : r ≤ 9) (hte : te ≤ 19) (hrf : refR X h wd f t r = false) : Cn mX6_regular 6 0 0 none [.ref 233, .int (nI h), .int (nI wd), .int (nI f), .int (nI t), .int (nI r), .int (nI te)] (mM M0 X (SVf SS) SN AT CH CF CT BU PT sm ik th mn cl ln sp nu pa hs) (zi (nI (mkRd X h wd f t r)) (fun M' => ∃ AT' CH' CF' CT' mn' cl', M' = mM M0 (mkR X h wd f t r te) (SVf (svS SS sm X)) SN AT' CH' CF' CT' BU PT (svN sm) ik 0 mn' cl' ln sp nu pa hs)) := by
  refine regular3 hX hh hw hft ht hr hr2 hte _ ?_
  have h8 := hX.2.1
  have w4 := hX1.2.2.2.2.1
  have w3 := hX1.2.2.2.1
  simp only [refR, Bool.or_eq_false_iff, decide_eq_false_iff_not, Bool.not_eq_false'] at hrf
  refine g_aload_n dX6_regular_53 rfl ?_
  refine g_get fX6_7 dX6_regular_54 rfl rfl ?_
  refine g_bipush (v := nI 11) dX6_regular_57 (by decide) ?_
  refine g_iald_n dX6_regular_59 rfl (by omega) (by decide) ?_
  refine g_bipush (v := nI 8) dX6_regular_60 (by decide) ?_
  refine g_icmp_eq_n (tgt := 83) dX6_regular_62 (by decide) (by omega) (by omega) (fun h1 => ?_) (fun h1 => ?_)
  · exact absurd h1 hrf.1
  refine g_aload_n dX6_regular_65 rfl ?_
  refine g_aload_n dX6_regular_66 rfl ?_
  refine g_iload_n dX6_regular_67 rfl ?_
  refine g_iload_n dX6_regular_68 rfl ?_
  refine g_iload_n dX6_regular_69 rfl ?_
  refine g_iload dX6_regular_70 rfl ?_
  refine g_iload dX6_regular_72 rfl ?_
  refine g_callV_i (kX6_offWeeks hX hX1 (h := h) (wd := wd) (f := f) (t := t) (r := r) hh hw (by omega) ht hr2) oX6_offWeeks pX6_offWeeks lX6_137 dX6_regular_74 rfl rfl rfl rfl rfl (Nat.le_of_ble_eq_true rfl) (Nat.le_of_ble_eq_true rfl) (by decide) (fun M' h' => ?_)
  obtain ⟨AT', CH', CF', CT', mn', cl', rfl⟩ := h'
  refine g_callV_i (kX6_standsSomewhere hX1 (off := offW X h wd f t r) (offN_lt w4 h wd f t r _ (by omega))) oX6_standsSomewhere pX6_standsSomewhere lX6_143 dX6_regular_77 rfl rfl rfl rfl rfl (Nat.le_of_ble_eq_true rfl) (Nat.le_of_ble_eq_true rfl) (by decide) (fun M' h' => ?_)
  subst h'
  refine g_if_ne_b (tgt := 89) dX6_regular_80 (by decide) (fun h2 => ?_) (fun h2 => ?_)
  rotate_left
  · rw [hrf.2] at h2; cases h2
  refine g_aload_n dX6_regular_89 rfl ?_
  refine g_callV_v (kX6_save hs6) oX6_save pX6_save lX6_60 dX6_regular_90 rfl rfl rfl rfl rfl (Nat.le_of_ble_eq_true rfl) (Nat.le_of_ble_eq_true rfl) (by decide) (fun M' h' => ?_)
  subst h'
  refine g_aload_n dX6_regular_93 rfl ?_
  refine g_iload_n dX6_regular_94 rfl ?_
  refine g_iload_n dX6_regular_95 rfl ?_
  refine g_iload_n dX6_regular_96 rfl ?_
  refine g_iload dX6_regular_97 rfl ?_
  refine g_iload dX6_regular_99 rfl ?_
  refine g_iload dX6_regular_101 rfl ?_
  refine g_callV_i (kX6_makeRegular hX hX1 (by omega) (h := h) (wd := wd) (f := f) (t := t) (r := r) (te := te) hh hw (by omega) ht hr2) oX6_makeRegular pX6_makeRegular lX6_146 dX6_regular_103 rfl rfl rfl rfl rfl (Nat.le_of_ble_eq_true rfl) (Nat.le_of_ble_eq_true rfl) (by decide) (fun M' h' => ?_)
  obtain ⟨AT2, CH2, CF2, CT2, mn2, cl2, rfl⟩ := h'
  exact g_ireturn dX6_regular_106 rfl rfl ⟨rfl, rfl, AT2, CH2, CF2, CT2, mn2, cl2, rfl⟩
theorem kX6_cancelRegular (hX : wf0 X) {i : Nat} (hi : i < X 11) : Cn mX6_cancelRegular 3 0 0 none [.ref 233, .int (nI i)] (mM M0 X SV SN AT CH CF CT BU PT sm ik th mn cl ln sp nu pa hs) (zi (nI (dcnt X i 84 * X (12 + 10 * i + 6))) (fun M' => M' = mM M0 (rmR X i) SV SN AT CH CF CT BU PT sm ik th mn cl ln sp nu pa hs)) := by
  have h8 := hX.2.1
  refine g_aload_n dX6_cancelRegular_0 rfl ?_
  refine g_iload_n dX6_cancelRegular_1 rfl ?_
  refine g_callV_i (kX6_daysOf hX (i := i) (by omega)) oX6_daysOf pX6_daysOf lX6_149 dX6_cancelRegular_2 rfl rfl rfl rfl rfl (Nat.le_of_ble_eq_true rfl) (Nat.le_of_ble_eq_true rfl) (by decide) (fun M' h' => ?_)
  subst h'
  refine g_aload_n dX6_cancelRegular_5 rfl ?_
  refine g_iload_n dX6_cancelRegular_6 rfl ?_
  refine g_bipush (v := nI 6) dX6_cancelRegular_7 (by decide) ?_
  refine g_callV_i (kX6_weekly (i := i) (w := 6) (by omega)) oX6_weekly pX6_weekly lX6_63 dX6_cancelRegular_9 rfl rfl rfl rfl rfl (Nat.le_of_ble_eq_true rfl) (Nat.le_of_ble_eq_true rfl) (by decide) (fun M' h' => ?_)
  subst h'
  refine g_imul_n dX6_cancelRegular_12 ?_
  refine g_istore_n dX6_cancelRegular_13 (by decide) ?_
  refine g_aload_n dX6_cancelRegular_14 rfl ?_
  refine g_iload_n dX6_cancelRegular_15 rfl ?_
  refine g_callV_v (kX6_removeRegular (n := i) hi h8) oX6_removeRegular pX6_removeRegular lX6_152 dX6_cancelRegular_16 rfl rfl rfl rfl rfl (Nat.le_of_ble_eq_true rfl) (Nat.le_of_ble_eq_true rfl) (by decide) (fun M' h' => ?_)
  subst h'
  refine g_iload_n dX6_cancelRegular_19 rfl ?_
  exact g_ireturn dX6_cancelRegular_20 rfl rfl ⟨rfl, rfl, rfl⟩
theorem kX6_cancelSingle (hX : wf0 X) {i : Nat} (hi : i < X 92) : Cn mX6_cancelSingle 3 0 0 none [.ref 233, .int (nI i)] (mM M0 X SV SN AT CH CF CT BU PT sm ik th mn cl ln sp nu pa hs) (zi (nI (X (93 + 7 * i + 6))) (fun M' => M' = mM M0 (rmS X i) SV SN AT CH CF CT BU PT sm ik th mn cl ln sp nu pa hs)) := by
  have h8 := hX.2.2
  refine g_aload_n dX6_cancelSingle_0 rfl ?_
  refine g_iload_n dX6_cancelSingle_1 rfl ?_
  refine g_bipush (v := nI 6) dX6_cancelSingle_2 (by decide) ?_
  refine g_callV_i (kX6_dated (i := i) (w := 6) (by omega)) oX6_dated pX6_dated lX6_74 dX6_cancelSingle_4 rfl rfl rfl rfl rfl (Nat.le_of_ble_eq_true rfl) (Nat.le_of_ble_eq_true rfl) (by decide) (fun M' h' => ?_)
  subst h'
  refine g_istore_n dX6_cancelSingle_7 (by decide) ?_
  refine g_aload_n dX6_cancelSingle_8 rfl ?_
  refine g_iload_n dX6_cancelSingle_9 rfl ?_
  refine g_callV_v (kX6_removeSingle (n := i) hi h8) oX6_removeSingle pX6_removeSingle lX6_104 dX6_cancelSingle_10 rfl rfl rfl rfl rfl (Nat.le_of_ble_eq_true rfl) (Nat.le_of_ble_eq_true rfl) (by decide) (fun M' h' => ?_)
  subst h'
  refine g_iload_n dX6_cancelSingle_13 rfl ?_
  exact g_ireturn dX6_cancelSingle_14 rfl rfl ⟨rfl, rfl, rfl⟩
def cxC (X : Nat → Nat) (b : Bool) : Nat := bif b then X 11 else X 92
def cxB (X : Nat → Nat) (b : Bool) (i : Nat) : Nat := bif b then dcnt X i 84 * X (12 + 10 * i + 6) else X (93 + 7 * i + 6)
def cxX (X : Nat → Nat) (b : Bool) (i : Nat) : Nat → Nat := bif b then uN (rmR X i) 9 (rmR X i 9 + cxB X b i) else uN (rmS X i) 9 (rmS X i 9 + cxB X b i)
theorem cancel1 (b : Bool) (v : Int32) (F : zP) (hk : G mX6_cancel 4 0 0 none 33 [(0, .ref 233), (1, .int (nI b.toNat)), (2, .int v)] [.int (nI (zin v (nI 0) (nI (cxC X b) - nI 1)).toNat)] (mM M0 X SV SN AT CH CF CT BU PT sm ik 0 mn cl ln sp nu pa hs) F) : Cn mX6_cancel 4 0 0 none [.ref 233, .int (nI b.toNat), .int v] (mM M0 X SV SN AT CH CF CT BU PT sm ik th mn cl ln sp nu pa hs) F := by
  refine g_aload_n dX6_cancel_0 rfl ?_
  refine g_iconst (v := nI 0) dX6_cancel_1 (by decide) ?_
  refine g_mput_thrown fX6_37 dX6_cancel_2 ?_
  refine g_iload_n dX6_cancel_5 rfl ?_
  refine g_iconst (v := nI 0) dX6_cancel_6 (by decide) ?_
  refine g_iload_n dX6_cancel_7 rfl ?_
  refine g_if_eq_b (tgt := 21) dX6_cancel_8 (by decide) (fun h1 => ?_) (fun h1 => ?_)
  · subst h1
    refine g_aload_n dX6_cancel_21 rfl ?_
    refine g_get fX6_7 dX6_cancel_22 rfl rfl ?_
    refine g_bipush (v := nI 92) dX6_cancel_25 (by decide) ?_
    refine g_iald_n dX6_cancel_27 rfl (by omega) (by decide) ?_
    refine g_iconst (v := nI 1) dX6_cancel_28 (by decide) ?_
    refine g_isub dX6_cancel_29 ?_
    refine g_callS_i (kX6_in v (nI 0) (nI (X 92) - nI 1)) oX6_in pX6_in lX6_41 dX6_cancel_30 rfl rfl (Nat.le_of_ble_eq_true rfl) (Nat.le_of_ble_eq_true rfl) (by decide) (fun M' h' => ?_)
    subst h'
    exact g_loc rfl hk
  · subst h1
    refine g_aload_n dX6_cancel_11 rfl ?_
    refine g_get fX6_7 dX6_cancel_12 rfl rfl ?_
    refine g_bipush (v := nI 11) dX6_cancel_15 (by decide) ?_
    refine g_iald_n dX6_cancel_17 rfl (by omega) (by decide) ?_
    refine g_goto (tgt := 28) dX6_cancel_18 (by decide) ?_
    refine g_iconst (v := nI 1) dX6_cancel_28 (by decide) ?_
    refine g_isub dX6_cancel_29 ?_
    refine g_callS_i (kX6_in v (nI 0) (nI (X 11) - nI 1)) oX6_in pX6_in lX6_41 dX6_cancel_30 rfl rfl (Nat.le_of_ble_eq_true rfl) (Nat.le_of_ble_eq_true rfl) (by decide) (fun M' h' => ?_)
    subst h'
    exact g_loc rfl hk
theorem kX6_cancel1 (b : Bool) (v : Int32) (h : zin v (nI 0) (nI (cxC X b) - nI 1) = false) : Cn mX6_cancel 4 0 0 none [.ref 233, .int (nI b.toNat), .int v] (mM M0 X SV SN AT CH CF CT BU PT sm ik th mn cl ln sp nu pa hs) (zi (nI 0) (fun M' => M' = mM M0 X SV SN AT CH CF CT BU PT sm ik 1 mn cl ln sp nu pa hs)) := by
  refine cancel1 b v _ ?_
  refine g_if_ne_b (tgt := 42) dX6_cancel_33 (by decide) (fun h1 => ?_) (fun h1 => ?_)
  · rw [h] at h1; cases h1
  refine g_aload_n dX6_cancel_36 rfl ?_
  refine g_iconst (v := nI 1) dX6_cancel_37 (by decide) ?_
  refine g_callV_i (kX6_fails 1) oX6_fails pX6_fails lX6_48 dX6_cancel_38 rfl rfl rfl rfl rfl (Nat.le_of_ble_eq_true rfl) (Nat.le_of_ble_eq_true rfl) (by decide) (fun M' h' => ?_)
  subst h'
  exact g_ireturn dX6_cancel_41 rfl rfl ⟨rfl, rfl, rfl⟩
theorem kX6_cancel (hX : wf0 X) (hs6 : sm ≤ 6) (b : Bool) {i : Nat} (hi : i < cxC X b) : Cn mX6_cancel 4 0 0 none [.ref 233, .int (nI b.toNat), .int (nI i)] (mM M0 X (SVf SS) SN AT CH CF CT BU PT sm ik th mn cl ln sp nu pa hs) (zi (nI (cxB X b i)) (fun M' => M' = mM M0 (cxX X b i) (SVf (svS SS sm X)) SN AT CH CF CT BU PT (svN sm) ik 0 mn cl ln sp nu pa hs)) := by
  have hc : cxC X b ≤ 1000 := by
    have := hX.2.1
    have := hX.2.2
    cases b <;> simp [cxC] <;> omega
  refine cancel1 b (nI i) _ ?_
  rw [zin_cnt' hc hi]
  refine g_if_ne_b (tgt := 42) dX6_cancel_33 (by decide) (fun h1 => ?_) (fun h1 => ?_)
  rotate_left
  · cases h1
  refine g_aload_n dX6_cancel_42 rfl ?_
  refine g_callV_v (kX6_save hs6) oX6_save pX6_save lX6_60 dX6_cancel_43 rfl rfl rfl rfl rfl (Nat.le_of_ble_eq_true rfl) (Nat.le_of_ble_eq_true rfl) (by decide) (fun M' h' => ?_)
  subst h'
  cases b with
  | false =>
    refine g_iload_n dX6_cancel_46 rfl ?_
    refine g_if_eq_b (tgt := 58) dX6_cancel_47 (by decide) (fun h2 => ?_) (fun h2 => ?_)
    rotate_left
    · cases h2
    refine g_aload_n dX6_cancel_58 rfl ?_
    refine g_iload_n dX6_cancel_59 rfl ?_
    refine g_callV_i (kX6_cancelSingle hX (i := i) hi) oX6_cancelSingle pX6_cancelSingle lX6_158 dX6_cancel_60 rfl rfl rfl rfl rfl (Nat.le_of_ble_eq_true rfl) (Nat.le_of_ble_eq_true rfl) (by decide) (fun M' h' => ?_)
    subst h'
    refine g_istore_n dX6_cancel_63 (by decide) ?_
    refine g_aload_n dX6_cancel_64 rfl ?_
    refine g_get fX6_7 dX6_cancel_65 rfl rfl ?_
    refine g_bipush (v := nI 9) dX6_cancel_68 (by decide) ?_
    refine g_dup2 dX6_cancel_70 rfl rfl ?_
    refine g_iald_n dX6_cancel_71 rfl (by omega) (by decide) ?_
    refine g_iload_n dX6_cancel_72 rfl ?_
    refine g_iadd_n dX6_cancel_73 ?_
    refine g_mst_row dX6_cancel_74 (by omega) ?_
    refine g_iload_n dX6_cancel_75 rfl ?_
    exact g_ireturn dX6_cancel_76 rfl rfl ⟨rfl, rfl, rfl⟩
  | true =>
    refine g_iload_n dX6_cancel_46 rfl ?_
    refine g_if_eq_b (tgt := 58) dX6_cancel_47 (by decide) (fun h2 => ?_) (fun h2 => ?_)
    · cases h2
    refine g_aload_n dX6_cancel_50 rfl ?_
    refine g_iload_n dX6_cancel_51 rfl ?_
    refine g_callV_i (kX6_cancelRegular hX (i := i) hi) oX6_cancelRegular pX6_cancelRegular lX6_155 dX6_cancel_52 rfl rfl rfl rfl rfl (Nat.le_of_ble_eq_true rfl) (Nat.le_of_ble_eq_true rfl) (by decide) (fun M' h' => ?_)
    subst h'
    refine g_goto (tgt := 63) dX6_cancel_55 (by decide) ?_
    refine g_istore_n dX6_cancel_63 (by decide) ?_
    refine g_aload_n dX6_cancel_64 rfl ?_
    refine g_get fX6_7 dX6_cancel_65 rfl rfl ?_
    refine g_bipush (v := nI 9) dX6_cancel_68 (by decide) ?_
    refine g_dup2 dX6_cancel_70 rfl rfl ?_
    refine g_iald_n dX6_cancel_71 rfl (by omega) (by decide) ?_
    refine g_iload_n dX6_cancel_72 rfl ?_
    refine g_iadd_n dX6_cancel_73 ?_
    refine g_mst_row dX6_cancel_74 (by omega) ?_
    refine g_iload_n dX6_cancel_75 rfl ?_
    exact g_ireturn dX6_cancel_76 rfl rfl ⟨rfl, rfl, rfl⟩
theorem off1 (v d : Int32) (F : zP) (hk : G mX6_off 2 0 0 none 19 [(0, .ref 233), (1, .int v), (2, .int d)] [.int (nI (zin v (nI 0) (nI (X 11) - nI 1)).toNat)] (mM M0 X SV SN AT CH CF CT BU PT sm ik 0 mn cl ln sp nu pa hs) F) : Cn mX6_off 2 0 0 none [.ref 233, .int v, .int d] (mM M0 X SV SN AT CH CF CT BU PT sm ik th mn cl ln sp nu pa hs) F := by
  refine g_aload_n dX6_off_0 rfl ?_
  refine g_iconst (v := nI 0) dX6_off_1 (by decide) ?_
  refine g_mput_thrown fX6_37 dX6_off_2 ?_
  refine g_iload_n dX6_off_5 rfl ?_
  refine g_iconst (v := nI 0) dX6_off_6 (by decide) ?_
  refine g_aload_n dX6_off_7 rfl ?_
  refine g_get fX6_7 dX6_off_8 rfl rfl ?_
  refine g_bipush (v := nI 11) dX6_off_11 (by decide) ?_
  refine g_iald_n dX6_off_13 rfl (by omega) (by decide) ?_
  refine g_iconst (v := nI 1) dX6_off_14 (by decide) ?_
  refine g_isub dX6_off_15 ?_
  refine g_callS_i (kX6_in v (nI 0) (nI (X 11) - nI 1)) oX6_in pX6_in lX6_41 dX6_off_16 rfl rfl (Nat.le_of_ble_eq_true rfl) (Nat.le_of_ble_eq_true rfl) (by decide) (fun M' h' => ?_)
  subst h'
  exact g_loc rfl hk
theorem kX6_off1 (v d : Int32) (h : zin v (nI 0) (nI (X 11) - nI 1) = false) : Cn mX6_off 2 0 0 none [.ref 233, .int v, .int d] (mM M0 X SV SN AT CH CF CT BU PT sm ik th mn cl ln sp nu pa hs) (zi (nI 0) (fun M' => M' = mM M0 X SV SN AT CH CF CT BU PT sm ik 1 mn cl ln sp nu pa hs)) := by
  refine off1 v d _ ?_
  refine g_if_ne_b (tgt := 28) dX6_off_19 (by decide) (fun h1 => ?_) (fun h1 => ?_)
  · rw [h] at h1; cases h1
  refine g_aload_n dX6_off_22 rfl ?_
  refine g_iconst (v := nI 1) dX6_off_23 (by decide) ?_
  refine g_callV_i (kX6_fails 1) oX6_fails pX6_fails lX6_48 dX6_off_24 rfl rfl rfl rfl rfl (Nat.le_of_ble_eq_true rfl) (Nat.le_of_ble_eq_true rfl) (by decide) (fun M' h' => ?_)
  subst h'
  exact g_ireturn dX6_off_27 rfl rfl ⟨rfl, rfl, rfl⟩
theorem kX6_off2 (v d : Int32) (h : zin v (nI 0) (nI (X 11) - nI 1) = true) (h2 : zin d (nI 0) (nI 83) = false) : Cn mX6_off 2 0 0 none [.ref 233, .int v, .int d] (mM M0 X SV SN AT CH CF CT BU PT sm ik th mn cl ln sp nu pa hs) (zi (nI 0) (fun M' => M' = mM M0 X SV SN AT CH CF CT BU PT sm ik 2 mn cl ln sp nu pa hs)) := by
  refine off1 v d _ ?_
  refine g_if_ne_b (tgt := 28) dX6_off_19 (by decide) (fun h1 => ?_) (fun h1 => ?_)
  rotate_left
  · rw [h] at h1; cases h1
  refine g_iload_n dX6_off_28 rfl ?_
  refine g_callS_i (kX6_isDay d) oX6_isDay pX6_isDay lX6_121 dX6_off_29 rfl rfl (Nat.le_of_ble_eq_true rfl) (Nat.le_of_ble_eq_true rfl) (by decide) (fun M' h' => ?_)
  subst h'
  refine g_if_ne_b (tgt := 41) dX6_off_32 (by decide) (fun h3 => ?_) (fun h3 => ?_)
  · rw [h2] at h3; cases h3
  refine g_aload_n dX6_off_35 rfl ?_
  refine g_iconst (v := nI 2) dX6_off_36 (by decide) ?_
  refine g_callV_i (kX6_fails 2) oX6_fails pX6_fails lX6_48 dX6_off_37 rfl rfl rfl rfl rfl (Nat.le_of_ble_eq_true rfl) (Nat.le_of_ble_eq_true rfl) (by decide) (fun M' h' => ?_)
  subst h'
  exact g_ireturn dX6_off_40 rfl rfl ⟨rfl, rfl, rfl⟩
theorem off3 (hX : wf0 X) {i d : Nat} (hi : i < X 11) (hd : d < 84) (F : zP) (hk : G mX6_off 2 0 0 none 47 [(0, .ref 233), (1, .int (nI i)), (2, .int (nI d))] [.int (nI (stdR X i d).toNat)] (mM M0 X SV SN AT CH CF CT BU PT sm ik 0 mn cl ln sp nu pa hs) F) : Cn mX6_off 2 0 0 none [.ref 233, .int (nI i), .int (nI d)] (mM M0 X SV SN AT CH CF CT BU PT sm ik th mn cl ln sp nu pa hs) F := by
  have h8 := hX.2.1
  refine off1 (nI i) (nI d) _ ?_
  rw [zin_cnt' (by omega) hi]
  refine g_if_ne_b (tgt := 28) dX6_off_19 (by decide) (fun h1 => ?_) (fun h1 => ?_)
  rotate_left
  · cases h1
  refine g_iload_n dX6_off_28 rfl ?_
  refine g_callS_i (kX6_isDay (nI d)) oX6_isDay pX6_isDay lX6_121 dX6_off_29 rfl rfl (Nat.le_of_ble_eq_true rfl) (Nat.le_of_ble_eq_true rfl) (by decide) (fun M' h' => ?_)
  subst h'
  rw [zin_t (by omega) (by omega) (by decide)]
  refine g_if_ne_b (tgt := 41) dX6_off_32 (by decide) (fun h3 => ?_) (fun h3 => ?_)
  rotate_left
  · cases h3
  refine g_aload_n dX6_off_41 rfl ?_
  refine g_iload_n dX6_off_42 rfl ?_
  refine g_iload_n dX6_off_43 rfl ?_
  refine g_callV_i (kX6_standsOn hX.1 (i := i) (day := d) (by omega) hd) oX6_standsOn pX6_standsOn lX6_70 dX6_off_44 rfl rfl rfl rfl rfl (Nat.le_of_ble_eq_true rfl) (Nat.le_of_ble_eq_true rfl) (by decide) (fun M' h' => ?_)
  subst h'
  exact g_loc rfl hk
theorem kX6_off3 (hX : wf0 X) {i d : Nat} (hi : i < X 11) (hd : d < 84) (h : stdR X i d = false) : Cn mX6_off 2 0 0 none [.ref 233, .int (nI i), .int (nI d)] (mM M0 X SV SN AT CH CF CT BU PT sm ik th mn cl ln sp nu pa hs) (zi (nI 0) (fun M' => M' = mM M0 X SV SN AT CH CF CT BU PT sm ik 3 mn cl ln sp nu pa hs)) := by
  refine off3 hX hi hd _ ?_
  refine g_if_ne_b (tgt := 56) dX6_off_47 (by decide) (fun h1 => ?_) (fun h1 => ?_)
  · rw [h] at h1; cases h1
  refine g_aload_n dX6_off_50 rfl ?_
  refine g_iconst (v := nI 3) dX6_off_51 (by decide) ?_
  refine g_callV_i (kX6_fails 3) oX6_fails pX6_fails lX6_48 dX6_off_52 rfl rfl rfl rfl rfl (Nat.le_of_ble_eq_true rfl) (Nat.le_of_ble_eq_true rfl) (by decide) (fun M' h' => ?_)
  subst h'
  exact g_ireturn dX6_off_55 rfl rfl ⟨rfl, rfl, rfl⟩
def ofX (X : Nat → Nat) (i d : Nat) : Nat → Nat := uN (uN X (12 + 10 * i + 9) (X (12 + 10 * i + 9) ||| 2 ^ (d / 7))) 9 (uN X (12 + 10 * i + 9) (X (12 + 10 * i + 9) ||| 2 ^ (d / 7)) 9 + uN X (12 + 10 * i + 9) (X (12 + 10 * i + 9) ||| 2 ^ (d / 7)) (12 + 10 * i + 6))
theorem kX6_off (hX : wf0 X) (hs6 : sm ≤ 6) {i d : Nat} (hi : i < X 11) (hd : d < 84) (h : stdR X i d = true) : Cn mX6_off 2 0 0 none [.ref 233, .int (nI i), .int (nI d)] (mM M0 X (SVf SS) SN AT CH CF CT BU PT sm ik th mn cl ln sp nu pa hs) (zi (nI (X (12 + 10 * i + 6))) (fun M' => M' = mM M0 (ofX X i d) (SVf (svS SS sm X)) SN AT CH CF CT BU PT (svN sm) ik 0 mn cl ln sp nu pa hs)) := by
  have h8 := hX.2.1
  refine off3 hX hi hd _ ?_
  refine g_if_ne_b (tgt := 56) dX6_off_47 (by decide) (fun h1 => ?_) (fun h1 => ?_)
  rotate_left
  · rw [h] at h1; cases h1
  refine g_aload_n dX6_off_56 rfl ?_
  refine g_callV_v (kX6_save hs6) oX6_save pX6_save lX6_60 dX6_off_57 rfl rfl rfl rfl rfl (Nat.le_of_ble_eq_true rfl) (Nat.le_of_ble_eq_true rfl) (by decide) (fun M' h' => ?_)
  subst h'
  refine g_aload_n dX6_off_60 rfl ?_
  refine g_get fX6_7 dX6_off_61 rfl rfl ?_
  refine g_bipush (v := nI 12) dX6_off_64 (by decide) ?_
  refine g_bipush (v := nI 10) dX6_off_66 (by decide) ?_
  refine g_iload_n dX6_off_68 rfl ?_
  refine g_imul_n dX6_off_69 ?_
  refine g_iadd_n dX6_off_70 ?_
  refine g_bipush (v := nI 9) dX6_off_71 (by decide) ?_
  refine g_iadd_n dX6_off_73 ?_
  refine g_dup2 dX6_off_74 rfl rfl ?_
  refine g_iald_n dX6_off_75 rfl (by omega) (by decide) ?_
  refine g_iconst (v := nI 1) dX6_off_76 (by decide) ?_
  refine g_iload_n dX6_off_77 rfl ?_
  refine g_bipush (v := nI 7) dX6_off_78 (by decide) ?_
  refine g_idiv_n dX6_off_80 (by omega) (by omega) (by omega) ?_
  refine g_ishl_n dX6_off_81 (by omega) ?_
  refine g_ior_n dX6_off_82 ?_
  refine g_mst_row dX6_off_83 (by omega) ?_
  refine g_aload_n dX6_off_84 rfl ?_
  refine g_get fX6_7 dX6_off_85 rfl rfl ?_
  refine g_bipush (v := nI 9) dX6_off_88 (by decide) ?_
  refine g_dup2 dX6_off_90 rfl rfl ?_
  refine g_iald_n dX6_off_91 rfl (by omega) (by decide) ?_
  refine g_aload_n dX6_off_92 rfl ?_
  refine g_iload_n dX6_off_93 rfl ?_
  refine g_bipush (v := nI 6) dX6_off_94 (by decide) ?_
  refine g_callV_i (kX6_weekly (i := i) (w := 6) (by omega)) oX6_weekly pX6_weekly lX6_63 dX6_off_96 rfl rfl rfl rfl rfl (Nat.le_of_ble_eq_true rfl) (Nat.le_of_ble_eq_true rfl) (by decide) (fun M' h' => ?_)
  subst h'
  refine g_iadd_n dX6_off_99 ?_
  refine g_mst_row dX6_off_100 (by omega) ?_
  refine g_aload_n dX6_off_101 rfl ?_
  refine g_iload_n dX6_off_102 rfl ?_
  refine g_bipush (v := nI 6) dX6_off_103 (by decide) ?_
  refine g_callV_i (kX6_weekly (i := i) (w := 6) (by omega)) oX6_weekly pX6_weekly lX6_63 dX6_off_105 rfl rfl rfl rfl rfl (Nat.le_of_ble_eq_true rfl) (Nat.le_of_ble_eq_true rfl) (by decide) (fun M' h' => ?_)
  subst h'
  refine g_ireturn dX6_off_108 rfl rfl ⟨rfl, ?_, rfl⟩
  rw [uN_n _ _ (by omega), uN_n _ _ (by omega)]
theorem kX6_rate1 (v d : Int32) (h : zin v (nI 0) (nI 2) = false) : Cn mX6_rate 2 0 0 none [.ref 233, .int v, .int d] (mM M0 X SV SN AT CH CF CT BU PT sm ik th mn cl ln sp nu pa hs) (zi (nI 0) (fun M' => M' = mM M0 X SV SN AT CH CF CT BU PT sm ik 1 mn cl ln sp nu pa hs)) := by
  refine g_aload_n dX6_rate_0 rfl ?_
  refine g_iconst (v := nI 0) dX6_rate_1 (by decide) ?_
  refine g_mput_thrown fX6_37 dX6_rate_2 ?_
  refine g_iload_n dX6_rate_5 rfl ?_
  refine g_callS_i (kX6_isHall v) oX6_isHall pX6_isHall lX6_117 dX6_rate_6 rfl rfl (Nat.le_of_ble_eq_true rfl) (Nat.le_of_ble_eq_true rfl) (by decide) (fun M' h' => ?_)
  subst h'
  refine g_if_ne_b (tgt := 18) dX6_rate_9 (by decide) (fun h1 => ?_) (fun h1 => ?_)
  · rw [h] at h1; cases h1
  refine g_aload_n dX6_rate_12 rfl ?_
  refine g_iconst (v := nI 1) dX6_rate_13 (by decide) ?_
  refine g_callV_i (kX6_fails 1) oX6_fails pX6_fails lX6_48 dX6_rate_14 rfl rfl rfl rfl rfl (Nat.le_of_ble_eq_true rfl) (Nat.le_of_ble_eq_true rfl) (by decide) (fun M' h' => ?_)
  subst h'
  exact g_ireturn dX6_rate_17 rfl rfl ⟨rfl, rfl, rfl⟩
theorem kX6_rate2 (v d : Int32) (h : zin v (nI 0) (nI 2) = true) (h2 : zin d (nI 100) (nI 5000) = false) : Cn mX6_rate 2 0 0 none [.ref 233, .int v, .int d] (mM M0 X SV SN AT CH CF CT BU PT sm ik th mn cl ln sp nu pa hs) (zi (nI 0) (fun M' => M' = mM M0 X SV SN AT CH CF CT BU PT sm ik 2 mn cl ln sp nu pa hs)) := by
  refine g_aload_n dX6_rate_0 rfl ?_
  refine g_iconst (v := nI 0) dX6_rate_1 (by decide) ?_
  refine g_mput_thrown fX6_37 dX6_rate_2 ?_
  refine g_iload_n dX6_rate_5 rfl ?_
  refine g_callS_i (kX6_isHall v) oX6_isHall pX6_isHall lX6_117 dX6_rate_6 rfl rfl (Nat.le_of_ble_eq_true rfl) (Nat.le_of_ble_eq_true rfl) (by decide) (fun M' h' => ?_)
  subst h'
  refine g_if_ne_b (tgt := 18) dX6_rate_9 (by decide) (fun h1 => ?_) (fun h1 => ?_)
  rotate_left
  · rw [h] at h1; cases h1
  refine g_iload_n dX6_rate_18 rfl ?_
  refine g_bipush (v := nI 100) dX6_rate_19 (by decide) ?_
  refine g_sipush (v := nI 5000) dX6_rate_21 (by decide) ?_
  refine g_callS_i (kX6_in d (nI 100) (nI 5000)) oX6_in pX6_in lX6_41 dX6_rate_24 rfl rfl (Nat.le_of_ble_eq_true rfl) (Nat.le_of_ble_eq_true rfl) (by decide) (fun M' h' => ?_)
  subst h'
  refine g_if_ne_b (tgt := 36) dX6_rate_27 (by decide) (fun h3 => ?_) (fun h3 => ?_)
  · rw [h2] at h3; cases h3
  refine g_aload_n dX6_rate_30 rfl ?_
  refine g_iconst (v := nI 2) dX6_rate_31 (by decide) ?_
  refine g_callV_i (kX6_fails 2) oX6_fails pX6_fails lX6_48 dX6_rate_32 rfl rfl rfl rfl rfl (Nat.le_of_ble_eq_true rfl) (Nat.le_of_ble_eq_true rfl) (by decide) (fun M' h' => ?_)
  subst h'
  exact g_ireturn dX6_rate_35 rfl rfl ⟨rfl, rfl, rfl⟩
theorem kX6_rate (hs6 : sm ≤ 6) {h v : Nat} (hh : h ≤ 2) (hv : 100 ≤ v) (hv2 : v ≤ 5000) : Cn mX6_rate 2 0 0 none [.ref 233, .int (nI h), .int (nI v)] (mM M0 X (SVf SS) SN AT CH CF CT BU PT sm ik th mn cl ln sp nu pa hs) (zi (nI (X (5 + h))) (fun M' => M' = mM M0 (uN X (5 + h) v) (SVf (svS SS sm X)) SN AT CH CF CT BU PT (svN sm) ik 0 mn cl ln sp nu pa hs)) := by
  refine g_aload_n dX6_rate_0 rfl ?_
  refine g_iconst (v := nI 0) dX6_rate_1 (by decide) ?_
  refine g_mput_thrown fX6_37 dX6_rate_2 ?_
  refine g_iload_n dX6_rate_5 rfl ?_
  refine g_callS_i (kX6_isHall (nI h)) oX6_isHall pX6_isHall lX6_117 dX6_rate_6 rfl rfl (Nat.le_of_ble_eq_true rfl) (Nat.le_of_ble_eq_true rfl) (by decide) (fun M' h' => ?_)
  subst h'
  rw [zin_t (by omega) (by omega) (by decide)]
  refine g_if_ne_b (tgt := 18) dX6_rate_9 (by decide) (fun h1 => ?_) (fun h1 => ?_)
  rotate_left
  · cases h1
  refine g_iload_n dX6_rate_18 rfl ?_
  refine g_bipush (v := nI 100) dX6_rate_19 (by decide) ?_
  refine g_sipush (v := nI 5000) dX6_rate_21 (by decide) ?_
  refine g_callS_i (kX6_in (nI v) (nI 100) (nI 5000)) oX6_in pX6_in lX6_41 dX6_rate_24 rfl rfl (Nat.le_of_ble_eq_true rfl) (Nat.le_of_ble_eq_true rfl) (by decide) (fun M' h' => ?_)
  subst h'
  rw [zin_t (by omega) (by omega) (by decide)]
  refine g_if_ne_b (tgt := 36) dX6_rate_27 (by decide) (fun h3 => ?_) (fun h3 => ?_)
  rotate_left
  · cases h3
  refine g_aload_n dX6_rate_36 rfl ?_
  refine g_callV_v (kX6_save hs6) oX6_save pX6_save lX6_60 dX6_rate_37 rfl rfl rfl rfl rfl (Nat.le_of_ble_eq_true rfl) (Nat.le_of_ble_eq_true rfl) (by decide) (fun M' h' => ?_)
  subst h'
  refine g_aload_n dX6_rate_40 rfl ?_
  refine g_get fX6_7 dX6_rate_41 rfl rfl ?_
  refine g_iconst (v := nI 5) dX6_rate_44 (by decide) ?_
  refine g_iload_n dX6_rate_45 rfl ?_
  refine g_iadd_n dX6_rate_46 ?_
  refine g_iald_n dX6_rate_47 rfl (by omega) (by decide) ?_
  refine g_istore_n dX6_rate_48 (by decide) ?_
  refine g_aload_n dX6_rate_49 rfl ?_
  refine g_get fX6_7 dX6_rate_50 rfl rfl ?_
  refine g_iconst (v := nI 5) dX6_rate_53 (by decide) ?_
  refine g_iload_n dX6_rate_54 rfl ?_
  refine g_iadd_n dX6_rate_55 ?_
  refine g_iload_n dX6_rate_56 rfl ?_
  refine g_mst_row dX6_rate_57 (by omega) ?_
  refine g_iload_n dX6_rate_58 rfl ?_
  exact g_ireturn dX6_rate_59 rfl rfl ⟨rfl, rfl, rfl⟩
end MOD8
