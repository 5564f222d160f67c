/-! the reference: single, regular, cancel, off, rate -/
theorem zin_cnt {v : Int32} {c : Nat} (hc : c ≤ 1000) (h : zin v (nI 0) (nI c - nI 1) = true) : ∃ n, n < c ∧ v = nI n := by
  cases c with
  | zero =>
    simp only [zin, Bool.and_eq_true, decide_eq_true_eq] at h
    exact absurd (Int32.le_trans h.1 h.2) (by decide)
  | succ c =>
    rw [show nI (c + 1) - nI 1 = nI c from nI_pred c] at h
    obtain ⟨n, -, h1, rfl⟩ := zin_i (by decide) (by omega) h
    exact ⟨n, by omega, rfl⟩
theorem zin_cnt' {n c : Nat} (hc : c ≤ 1000) (h : n < c) : zin (nI n) (nI 0) (nI c - nI 1) = true := by
  obtain ⟨c, rfl⟩ : ∃ k, c = k + 1 := ⟨c - 1, by omega⟩
  rw [show nI (c + 1) - nI 1 = nI c from nI_pred c, zin_n (by omega) (by decide) (by omega)]
  simp
  omega
def offN (X : Nat → Nat) (h wd f t r : Nat) : Nat → Nat
  | 0 => 0
  | n + 1 => offN X h wd f t r n ||| (if 0 < rsn X h (7 * (X 3 + n) + wd) f t r then 2 ^ (X 3 + n) else 0)
def offW (X : Nat → Nat) (h wd f t r : Nat) : Nat := offN X h wd f t r (X 4 + 1 - X 3)
theorem offN_lt {X : Nat → Nat} (h4 : X 4 ≤ 11) (h wd f t r : Nat) : ∀ n, X 3 + n ≤ X 4 + 1 → offN X h wd f t r n < 2 ^ 12
  | 0, _ => by simp [offN]
  | n + 1, hn => by
    refine Nat.or_lt_two_pow (offN_lt h4 h wd f t r n (by omega)) ?_
    split
    · exact Nat.pow_lt_pow_right (by decide) (by omega)
    · decide
def mrN (X : Nat → Nat) (off h wd f t : Nat) : Nat → Nat × (Nat → Nat)
  | 0 => (0, X)
  | n + 1 => if off / 2 ^ (X 3 + n) % 2 = 0 then ((mrN X off h wd f t n).1 + 1, (gw (mrN X off h wd f t n).2 (7 * (X 3 + n) + wd) h f t).2) else mrN X off h wd f t n
theorem mrN_ok {X : Nat → Nat} (h0 : wf0 X) (h4 : X 4 ≤ 11) {off h wd f t : Nat} (hw : wd ≤ 6) : ∀ n, X 3 + n ≤ X 4 + 1 → wf0 (mrN X off h wd f t n).2 ∧ (∀ j, j < 8 → (mrN X off h wd f t n).2 j = X j) ∧ (mrN X off h wd f t n).2 11 = X 11 ∧ (mrN X off h wd f t n).1 ≤ n
  | 0, _ => ⟨h0, fun _ _ => rfl, rfl, Nat.le_refl _⟩
  | n + 1, hn => by
    obtain ⟨a1, a2, a3, a4⟩ := mrN_ok h0 h4 (off := off) (h := h) (f := f) (t := t) hw n (by omega)
    unfold mrN
    split
    · obtain ⟨b1, b2, b3, b4⟩ := gw_ok a1 (day := 7 * (X 3 + n) + wd) (h := h) (f := f) (t := t) (by omega)
      exact ⟨b1, fun j hj => (b2 j hj).trans (a2 j hj), b4.trans a3, by dsimp only; omega⟩
    · exact ⟨a1, a2, a3, by omega⟩
def mkR0 (X1 : Nat → Nat) (days off h wd f t r te : Nat) : Nat → Nat :=
  let p := 12 + 10 * X1 11
  let X2 := layX X1 p h wd f t r te
  let X3 := uN X2 (p + 6) (rRent X2 h wd f t)
  let X4 := uN X3 (p + 7) (X3 3)
  let X5 := uN X4 (p + 8) (X4 4)
  let X6 := uN X5 (p + 9) off
  let X7 := uN X6 8 (X6 8 + days * X6 (p + 6))
  uN X7 11 (X7 11 + 1)
def mkR (X : Nat → Nat) (h wd f t r te : Nat) : Nat → Nat := mkR0 (mrN X (offW X h wd f t r) h wd f t (X 4 + 1 - X 3)).2 (mrN X (offW X h wd f t r) h wd f t (X 4 + 1 - X 3)).1 (offW X h wd f t r) h wd f t r te
def mkRd (X : Nat → Nat) (h wd f t r : Nat) : Nat := (mrN X (offW X h wd f t r) h wd f t (X 4 + 1 - X 3)).1
/-- some week of the term has no bit -/
def ssN (X : Nat → Nat) (off : Nat) : Nat → Bool
  | 0 => false
  | n + 1 => ssN X off n || decide (off / 2 ^ (X 3 + n) % 2 = 0)
def ssW (X : Nat → Nat) (off : Nat) : Bool := ssN X off (X 4 + 1 - X 3)
abbrev okI (hall a b f t r te : Int32) (wd : Nat) : Bool := zin a (nI 0) (nI wd) && zhrs f t && zwho r te
section MOD7
variable {M0 : zM} {X SV SN AT CH CF CT BU PT : Nat → Nat} {sm ik th mn cl ln sp nu pa : Nat} {hs : Int64}
variable {SS : Nat → Nat → Nat}
theorem kX6_single1 {a0 a1 a2 a3 a4 a5 : Int32} (h : zin a0 (nI 0) (nI 2) = false) : Cn mX6_single 2 0 0 none [.ref 233, .int a0, .int a1, .int a2, .int a3, .int a4, .int a5] (mM M0 X SV SN AT CH CF CT BU PT sm ik th mn cl ln sp nu pa hs) (zi (nI 0) (fun M' => M' = mM M0 X SV SN AT CH CF CT BU PT sm ik 1 mn cl ln sp nu pa hs)) := by
  refine g_aload_n dX6_single_0 rfl ?_
  refine g_iconst (v := nI 0) dX6_single_1 (by decide) ?_
  refine g_mput_thrown fX6_37 dX6_single_2 ?_
  refine g_iload_n dX6_single_5 rfl ?_
  refine g_callS_i (kX6_isHall a0) oX6_isHall pX6_isHall lX6_117 dX6_single_6 rfl rfl (Nat.le_of_ble_eq_true rfl) (Nat.le_of_ble_eq_true rfl) (by decide) (fun M' h' => ?_)
  subst h'
  refine g_if_ne_b (tgt := 18) dX6_single_9 (by decide) (fun h1 => ?_) (fun h1 => ?_)
  · rw [h] at h1; cases h1
  refine g_aload_n dX6_single_12 rfl ?_
  refine g_iconst (v := nI 1) dX6_single_13 (by decide) ?_
  refine g_callV_i (kX6_fails 1) oX6_fails pX6_fails lX6_48 dX6_single_14 rfl rfl rfl rfl rfl (Nat.le_of_ble_eq_true rfl) (Nat.le_of_ble_eq_true rfl) (by decide) (fun M' h' => ?_)
  subst h'
  exact g_ireturn dX6_single_17 rfl rfl ⟨rfl, rfl, rfl⟩
theorem kX6_single2 {a0 a1 a2 a3 a4 a5 : Int32} (h : zin a0 (nI 0) (nI 2) = true) (hb : (zin a1 (nI 0) (nI 83) && zhrs a2 a3 && zwho a4 a5) = false) : Cn mX6_single 2 0 0 none [.ref 233, .int a0, .int a1, .int a2, .int a3, .int a4, .int a5] (mM M0 X SV SN AT CH CF CT BU PT sm ik th mn cl ln sp nu pa hs) (zi (nI 0) (fun M' => M' = mM M0 X SV SN AT CH CF CT BU PT sm ik 2 mn cl ln sp nu pa hs)) := by
  have fin : ∀ L, zl L 0 = some (.ref 233) → G mX6_single 2 0 0 none 44 L [] (mM M0 X SV SN AT CH CF CT BU PT sm ik 0 mn cl ln sp nu pa hs) (zi (nI 0) (fun M' => M' = mM M0 X SV SN AT CH CF CT BU PT sm ik 2 mn cl ln sp nu pa hs)) := fun L hL => by
    refine g_loc (L' := [(0, .ref 233)]) (by simp [hL]) ?_
    refine g_aload_n dX6_single_44 rfl ?_
    refine g_iconst (v := nI 2) dX6_single_45 (by decide) ?_
    refine g_callV_i (kX6_fails 2) oX6_fails pX6_fails lX6_48 dX6_single_46 rfl rfl rfl rfl rfl (Nat.le_of_ble_eq_true rfl) (Nat.le_of_ble_eq_true rfl) (by decide) (fun M' h' => ?_)
    subst h'
    exact g_ireturn dX6_single_49 rfl rfl ⟨rfl, rfl, rfl⟩
  refine g_aload_n dX6_single_0 rfl ?_
  refine g_iconst (v := nI 0) dX6_single_1 (by decide) ?_
  refine g_mput_thrown fX6_37 dX6_single_2 ?_
  refine g_iload_n dX6_single_5 rfl ?_
  refine g_callS_i (kX6_isHall a0) oX6_isHall pX6_isHall lX6_117 dX6_single_6 rfl rfl (Nat.le_of_ble_eq_true rfl) (Nat.le_of_ble_eq_true rfl) (by decide) (fun M' h' => ?_)
  subst h'
  refine g_if_ne_b (tgt := 18) dX6_single_9 (by decide) (fun h1 => ?_) (fun h1 => ?_)
  rotate_left
  · rw [h] at h1; cases h1
  refine g_iload_n dX6_single_18 rfl ?_
  refine g_callS_i (kX6_isDay a1) oX6_isDay pX6_isDay lX6_121 dX6_single_19 rfl rfl (Nat.le_of_ble_eq_true rfl) (Nat.le_of_ble_eq_true rfl) (by decide) (fun M' h' => ?_)
  subst h'
  refine g_if_eq_b (tgt := 44) dX6_single_22 (by decide) (fun h2 => ?_) (fun h2 => ?_)
  · exact fin _ rfl
  refine g_iload_n dX6_single_25 rfl ?_
  refine g_iload dX6_single_26 rfl ?_
  refine g_callS_i (kX6_areHours a2 a3) oX6_areHours pX6_areHours lX6_124 dX6_single_28 rfl rfl (Nat.le_of_ble_eq_true rfl) (Nat.le_of_ble_eq_true rfl) (by decide) (fun M' h' => ?_)
  subst h'
  refine g_if_eq_b (tgt := 44) dX6_single_31 (by decide) (fun h3 => ?_) (fun h3 => ?_)
  · exact fin _ rfl
  refine g_iload dX6_single_34 rfl ?_
  refine g_iload dX6_single_36 rfl ?_
  refine g_callS_i (kX6_isWho a4 a5) oX6_isWho pX6_isWho lX6_127 dX6_single_38 rfl rfl (Nat.le_of_ble_eq_true rfl) (Nat.le_of_ble_eq_true rfl) (by decide) (fun M' h' => ?_)
  subst h'
  refine g_if_ne_b (tgt := 50) dX6_single_41 (by decide) (fun h4 => ?_) (fun h4 => ?_)
  · simp [h2, h3, h4] at hb
  · exact fin _ rfl
theorem single3 (hX : wf0 X) {h day f t r te : Nat} (hh : h ≤ 2) (hd : day < 84) (hft : f < t) (ht : t ≤ 24) (hr : 1 ≤ r) (hr2 : r ≤ 9) (hte : te ≤ 19) (F : zP) (hk : ∀ AT' CH' CF' CT' mn' cl', G mX6_single 5 0 0 none 61 [(0, .ref 233), (1, .int (nI h)), (2, .int (nI day)), (3, .int (nI f)), (4, .int (nI t)), (5, .int (nI r)), (6, .int (nI te))] [.int (nI (rfs X h day f t r))] (mM M0 X SV SN AT' CH' CF' CT' BU PT sm ik 0 mn' cl' ln sp nu pa hs) F) : Cn mX6_single 5 0 0 none [.ref 233, .int (nI h), .int (nI day), .int (nI f), .int (nI t), .int (nI r), .int (nI te)] (mM M0 X SV SN AT CH CF CT BU PT sm ik th mn cl ln sp nu pa hs) F := by
  refine g_aload_n dX6_single_0 rfl ?_
  refine g_iconst (v := nI 0) dX6_single_1 (by decide) ?_
  refine g_mput_thrown fX6_37 dX6_single_2 ?_
  refine g_iload_n dX6_single_5 rfl ?_
  refine g_callS_i (kX6_isHall (nI h)) oX6_isHall pX6_isHall lX6_117 dX6_single_6 rfl rfl (Nat.le_of_ble_eq_true rfl) (Nat.le_of_ble_eq_true rfl) (by decide) (fun M' h' => ?_)
  subst h'
  rw [zin_n (by omega) (by decide) (by decide)]
  refine g_if_ne_b (tgt := 18) dX6_single_9 (by decide) (fun h1 => ?_) (fun h1 => ?_)
  rotate_left
  · simp at h1; omega
  refine g_iload_n dX6_single_18 rfl ?_
  refine g_callS_i (kX6_isDay (nI day)) oX6_isDay pX6_isDay lX6_121 dX6_single_19 rfl rfl (Nat.le_of_ble_eq_true rfl) (Nat.le_of_ble_eq_true rfl) (by decide) (fun M' h' => ?_)
  subst h'
  rw [zin_n (by omega) (by decide) (by decide)]
  refine g_if_eq_b (tgt := 44) dX6_single_22 (by decide) (fun h2 => ?_) (fun h2 => ?_)
  · simp at h2; omega
  refine g_iload_n dX6_single_25 rfl ?_
  refine g_iload dX6_single_26 rfl ?_
  refine g_callS_i (kX6_areHours (nI f) (nI t)) oX6_areHours pX6_areHours lX6_124 dX6_single_28 rfl rfl (Nat.le_of_ble_eq_true rfl) (Nat.le_of_ble_eq_true rfl) (by decide) (fun M' h' => ?_)
  subst h'
  rw [show zhrs (nI f) (nI t) = true by rw [zhrs, nI_add, zin_n (by omega) (by decide) (by decide), zin_n (by omega) (by omega) (by decide)]; simp; omega]
  refine g_if_eq_b (tgt := 44) dX6_single_31 (by decide) (fun h3 => ?_) (fun h3 => ?_)
  · cases h3
  refine g_iload dX6_single_34 rfl ?_
  refine g_iload dX6_single_36 rfl ?_
  refine g_callS_i (kX6_isWho (nI r) (nI te)) oX6_isWho pX6_isWho lX6_127 dX6_single_38 rfl rfl (Nat.le_of_ble_eq_true rfl) (Nat.le_of_ble_eq_true rfl) (by decide) (fun M' h' => ?_)
  subst h'
  rw [show zwho (nI r) (nI te) = true by rw [zwho, zin_n (by omega) (by decide) (by decide), zin_n (by omega) (by decide) (by decide)]; simp; omega]
  refine g_if_ne_b (tgt := 50) dX6_single_41 (by decide) (fun h4 => ?_) (fun h4 => ?_)
  rotate_left
  · cases h4
  refine g_aload_n dX6_single_50 rfl ?_
  refine g_iload_n dX6_single_51 rfl ?_
  refine g_iload_n dX6_single_52 rfl ?_
  refine g_iload_n dX6_single_53 rfl ?_
  refine g_iload dX6_single_54 rfl ?_
  refine g_iload dX6_single_56 rfl ?_
  refine g_callV_i (kX6_refusalOf hX (h := h) (day := day) (f := f) (t := t) (r := r) hd (by omega) (by omega) (by omega) (by omega)) oX6_refusalOf pX6_refusalOf lX6_130 dX6_single_58 rfl rfl rfl rfl rfl (Nat.le_of_ble_eq_true rfl) (Nat.le_of_ble_eq_true rfl) (by decide) (fun M' h' => ?_)
  obtain ⟨AT', CH', CF', CT', mn', cl', rfl⟩ := h'
  exact g_loc rfl (hk _ _ _ _ _ _)
theorem rfs_le (X : Nat → Nat) (h day f t r : Nat) : rfs X h day f t r ≤ 3 := by
  unfold rfs
  split
  · decide
  · exact rsnR_le X h f t r _ _
theorem kX6_single3 (hX : wf0 X) {h day f t r te : Nat} (hh : h ≤ 2) (hd : day < 84) (hft : f < t) (ht : t ≤ 24) (hr : 1 ≤ r) (hr2 : r ≤ 9) (hte : te ≤ 19) (hrf : 0 < rfs X h day f t r) : Cn mX6_single 5 0 0 none [.ref 233, .int (nI h), .int (nI day), .int (nI f), .int (nI t), .int (nI r), .int (nI te)] (mM M0 X SV SN AT CH CF CT BU PT sm ik th mn cl ln sp nu pa hs) (zi (nI 0) (fun M' => ∃ AT' CH' CF' CT' mn' cl', M' = mM M0 X SV SN AT' CH' CF' CT' BU PT sm ik 3 mn' cl' ln sp nu pa hs)) := by
  refine single3 hX hh hd hft ht hr hr2 hte _ (fun AT' CH' CF' CT' mn' cl' => ?_)
  have hle := rfs_le X h day f t r
  refine g_if_le_n (tgt := 70) dX6_single_61 (by decide) (by omega) (fun h1 => ?_) (fun h1 => ?_)
  · omega
  refine g_aload_n dX6_single_64 rfl ?_
  refine g_iconst (v := nI 3) dX6_single_65 (by decide) ?_
  refine g_callV_i (kX6_fails 3) oX6_fails pX6_fails lX6_48 dX6_single_66 rfl rfl rfl rfl rfl (Nat.le_of_ble_eq_true rfl) (Nat.le_of_ble_eq_true rfl) (by decide) (fun M' h' => ?_)
  subst h'
  exact g_ireturn dX6_single_69 rfl rfl ⟨rfl, rfl, AT', CH', CF', CT', mn', cl', rfl⟩
theorem kX6_single (hX : wf0 X) (hX1 : wf1 X) (hs6 : sm ≤ 6) {h day f t r te : Nat} (hh : h ≤ 2) (hd : day < 84) (hft : f < t) (ht : t ≤ 24) (hr : 1 ≤ r) (hr2 : r ≤ 9) (hte : te ≤ 19) (hrf : rfs X h day f t r = 0) : Cn mX6_single 5 0 0 none [.ref 233, .int (nI h), .int (nI day), .int (nI f), .int (nI t), .int (nI r), .int (nI te)] (mM M0 X (SVf SS) SN AT CH CF CT BU PT sm ik th mn cl ln sp nu pa hs) (zi (nI (gw X day h f t).1) (fun M' => ∃ AT' CH' CF' CT' mn' cl', M' = mM M0 (mkS X h day f t r te) (SVf (svS SS sm X)) SN AT' CH' CF' CT' BU PT (svN sm) ik 0 mn' cl' ln sp nu pa hs)) := by
  refine single3 hX hh hd hft ht hr hr2 hte _ (fun AT' CH' CF' CT' mn' cl' => ?_)
  have h92 : X 92 < 12 := by
    have := hX.2.2
    unfold rfs at hrf
    split at hrf
    · cases hrf
    · omega
  refine g_if_le_n (tgt := 70) dX6_single_61 (by decide) (by omega) (fun h1 => ?_) (fun h1 => ?_)
  rotate_left
  · omega
  refine g_aload_n dX6_single_70 rfl ?_
  refine g_callV_v (kX6_save hs6) oX6_save pX6_save lX6_60 dX6_single_71 rfl rfl rfl rfl rfl (Nat.le_of_ble_eq_true rfl) (Nat.le_of_ble_eq_true rfl) (by decide) (fun M' h' => ?_)
  subst h'
  refine g_aload_n dX6_single_74 rfl ?_
  refine g_iload_n dX6_single_75 rfl ?_
  refine g_iload_n dX6_single_76 rfl ?_
  refine g_iload_n dX6_single_77 rfl ?_
  refine g_iload dX6_single_78 rfl ?_
  refine g_iload dX6_single_80 rfl ?_
  refine g_iload dX6_single_82 rfl ?_
  refine g_callV_i (kX6_makeSingle hX hX1 h92 (h := h) (day := day) (f := f) (t := t) (r := r) (te := te) hd hh (by omega) ht) oX6_makeSingle pX6_makeSingle lX6_133 dX6_single_84 rfl rfl rfl rfl rfl (Nat.le_of_ble_eq_true rfl) (Nat.le_of_ble_eq_true rfl) (by decide) (fun M' h' => ?_)
  obtain ⟨AT2, mn2, rfl⟩ := h'
  exact g_ireturn dX6_single_87 rfl rfl ⟨rfl, rfl, AT2, CH', CF', CT', mn2, cl', rfl⟩
theorem offW1 (hX : wf0 X) (hX1 : wf1 X) {h wd f t r : Nat} (hh : h ≤ 2) (hw : wd ≤ 6) (hf : f ≤ 24) (ht : t ≤ 24) (hr : r ≤ 9) : ∀ u n, X 3 + n + u = X 4 + 1 → ∀ AT CH CF CT mn cl, G mX6_offWeeks 4 0 0 none 11 [(0, .ref 233), (1, .int (nI h)), (2, .int (nI wd)), (3, .int (nI f)), (4, .int (nI t)), (5, .int (nI r)), (6, .int (nI (offN X h wd f t r n))), (7, .int (nI (X 3 + n)))] [] (mM M0 X SV SN AT CH CF CT BU PT sm ik th mn cl ln sp nu pa hs) (zi (nI (offW X h wd f t r)) (fun M' => ∃ AT' CH' CF' CT' mn' cl', M' = mM M0 X SV SN AT' CH' CF' CT' BU PT sm ik th mn' cl' ln sp nu pa hs)) := by
  obtain ⟨-, -, -, w3, w4, -⟩ := id hX1
  intro u
  induction u with
  | zero =>
    intro n hn AT CH CF CT mn cl
    refine g_iload dX6_offWeeks_11 rfl ?_
    refine g_aload_n dX6_offWeeks_13 rfl ?_
    refine g_get fX6_7 dX6_offWeeks_14 rfl rfl ?_
    refine g_iconst (v := nI 4) dX6_offWeeks_17 (by decide) ?_
    refine g_iald_n dX6_offWeeks_18 rfl (by omega) (by decide) ?_
    refine g_icmp_gt_n (tgt := 61) dX6_offWeeks_19 (by decide) (by omega) (by omega) (fun h1 => ?_) (fun h1 => ?_)
    · refine g_iload dX6_offWeeks_61 rfl ?_
      refine g_ireturn dX6_offWeeks_63 rfl rfl ⟨rfl, ?_, AT, CH, CF, CT, mn, cl, rfl⟩
      rw [offW, show X 4 + 1 - X 3 = n by omega]
    · omega
  | succ u ih =>
    intro n hn AT CH CF CT mn cl
    refine g_iload dX6_offWeeks_11 rfl ?_
    refine g_aload_n dX6_offWeeks_13 rfl ?_
    refine g_get fX6_7 dX6_offWeeks_14 rfl rfl ?_
    refine g_iconst (v := nI 4) dX6_offWeeks_17 (by decide) ?_
    refine g_iald_n dX6_offWeeks_18 rfl (by omega) (by decide) ?_
    refine g_icmp_gt_n (tgt := 61) dX6_offWeeks_19 (by decide) (by omega) (by omega) (fun h1 => ?_) (fun h1 => ?_)
    · omega
    refine g_iload dX6_offWeeks_22 rfl ?_
    refine g_aload_n dX6_offWeeks_24 rfl ?_
    refine g_iload_n dX6_offWeeks_25 rfl ?_
    refine g_bipush (v := nI 7) dX6_offWeeks_26 (by decide) ?_
    refine g_iload dX6_offWeeks_28 rfl ?_
    refine g_imul_n dX6_offWeeks_30 ?_
    refine g_iload_n dX6_offWeeks_31 rfl ?_
    refine g_iadd_n dX6_offWeeks_32 ?_
    refine g_iload_n dX6_offWeeks_33 rfl ?_
    refine g_iload dX6_offWeeks_34 rfl ?_
    refine g_iload dX6_offWeeks_36 rfl ?_
    refine g_callV_i (kX6_reason hX (h := h) (day := 7 * (X 3 + n) + wd) (f := f) (t := t) (r := r) (by omega) (by omega) (by omega) (by omega) (by omega)) oX6_reason pX6_reason lX6_96 dX6_offWeeks_38 rfl rfl rfl rfl rfl (Nat.le_of_ble_eq_true rfl) (Nat.le_of_ble_eq_true rfl) (by decide) (fun M' h' => ?_)
    obtain ⟨AT', CH', CF', CT', mn', cl', rfl⟩ := h'
    have hle : rsn X h (7 * (X 3 + n) + wd) f t r ≤ 3 := rsnR_le X h f t r _ _
    refine g_if_le_n (tgt := 51) dX6_offWeeks_41 (by decide) (by omega) (fun h2 => ?_) (fun h2 => ?_)
    · refine g_iconst (v := nI 0) dX6_offWeeks_51 (by decide) ?_
      refine g_ior_n dX6_offWeeks_52 ?_
      refine g_istore dX6_offWeeks_53 (by decide) ?_
      refine g_iinc_n (c := 1) dX6_offWeeks_55 rfl (by decide) (by decide) ?_
      refine g_goto (tgt := 11) dX6_offWeeks_58 (by decide) ?_
      have := ih (n + 1) (by omega) AT' CH' CF' CT' mn' cl'
      rw [show offN X h wd f t r (n + 1) = offN X h wd f t r n ||| 0 by rw [offN, if_neg (by omega)]] at this
      exact g_loc rfl this
    · refine g_iconst (v := nI 1) dX6_offWeeks_44 (by decide) ?_
      refine g_iload dX6_offWeeks_45 rfl ?_
      refine g_ishl_n dX6_offWeeks_47 (by omega) ?_
      refine g_goto (tgt := 52) dX6_offWeeks_48 (by decide) ?_
      refine g_ior_n dX6_offWeeks_52 ?_
      refine g_istore dX6_offWeeks_53 (by decide) ?_
      refine g_iinc_n (c := 1) dX6_offWeeks_55 rfl (by decide) (by decide) ?_
      refine g_goto (tgt := 11) dX6_offWeeks_58 (by decide) ?_
      have := ih (n + 1) (by omega) AT' CH' CF' CT' mn' cl'
      rw [show offN X h wd f t r (n + 1) = offN X h wd f t r n ||| 2 ^ (X 3 + n) by rw [offN, if_pos (by omega)]] at this
      exact g_loc rfl this
theorem kX6_offWeeks (hX : wf0 X) (hX1 : wf1 X) {h wd f t r : Nat} (hh : h ≤ 2) (hw : wd ≤ 6) (hf : f ≤ 24) (ht : t ≤ 24) (hr : r ≤ 9) : Cn mX6_offWeeks 4 0 0 none [.ref 233, .int (nI h), .int (nI wd), .int (nI f), .int (nI t), .int (nI r)] (mM M0 X SV SN AT CH CF CT BU PT sm ik th mn cl ln sp nu pa hs) (zi (nI (offW X h wd f t r)) (fun M' => ∃ AT' CH' CF' CT' mn' cl', M' = mM M0 X SV SN AT' CH' CF' CT' BU PT sm ik th mn' cl' ln sp nu pa hs)) := by
  obtain ⟨-, -, -, w3, w4, -⟩ := id hX1
  refine g_iconst (v := nI 0) dX6_offWeeks_0 (by decide) ?_
  refine g_istore dX6_offWeeks_1 (by decide) ?_
  refine g_aload_n dX6_offWeeks_3 rfl ?_
  refine g_get fX6_7 dX6_offWeeks_4 rfl rfl ?_
  refine g_iconst (v := nI 3) dX6_offWeeks_7 (by decide) ?_
  refine g_iald_n dX6_offWeeks_8 rfl (by omega) (by decide) ?_
  refine g_istore dX6_offWeeks_9 (by decide) ?_
  exact g_loc rfl (offW1 hX hX1 hh hw hf ht hr (X 4 + 1 - X 3) 0 (by omega) _ _ _ _ _ _)
theorem ss1 (hX1 : wf1 X) {off : Nat} (ho : off < 2 ^ 12) : ∀ u n, X 3 + n + u = X 4 + 1 → G mX6_standsSomewhere 0 0 0 none 9 [(0, .ref 233), (1, .int (nI off)), (2, .int (nI (ssN X off n).toNat)), (3, .int (nI (X 3 + n)))] [] (mM M0 X SV SN AT CH CF CT BU PT sm ik th mn cl ln sp nu pa hs) (zpi (mM M0 X SV SN AT CH CF CT BU PT sm ik th mn cl ln sp nu pa hs) (nI (ssW X off).toNat)) := by
  obtain ⟨-, -, -, w3, w4, -⟩ := id hX1
  intro u
  induction u with
  | zero =>
    intro n hn
    refine g_iload_n dX6_standsSomewhere_9 rfl ?_
    refine g_aload_n dX6_standsSomewhere_10 rfl ?_
    refine g_get fX6_7 dX6_standsSomewhere_11 rfl rfl ?_
    refine g_iconst (v := nI 4) dX6_standsSomewhere_14 (by decide) ?_
    refine g_iald_n dX6_standsSomewhere_15 rfl (by omega) (by decide) ?_
    refine g_icmp_gt_n (tgt := 43) dX6_standsSomewhere_16 (by decide) (by omega) (by omega) (fun h1 => ?_) (fun h1 => ?_)
    · refine g_iload_n dX6_standsSomewhere_43 rfl ?_
      refine g_ireturn_b dX6_standsSomewhere_44 rfl ⟨rfl, ?_, rfl⟩
      rw [ssW, show X 4 + 1 - X 3 = n by omega]
    · omega
  | succ u ih =>
    intro n hn
    have fin : ∀ b : Bool, b = ssN X off (n + 1) → G mX6_standsSomewhere 0 0 0 none 36 [(0, .ref 233), (1, .int (nI off)), (2, .int (nI (ssN X off n).toNat)), (3, .int (nI (X 3 + n)))] [.int (nI b.toNat)] (mM M0 X SV SN AT CH CF CT BU PT sm ik th mn cl ln sp nu pa hs) (zpi (mM M0 X SV SN AT CH CF CT BU PT sm ik th mn cl ln sp nu pa hs) (nI (ssW X off).toNat)) := fun b hb => by
      refine g_istore_n dX6_standsSomewhere_36 (by decide) ?_
      refine g_iinc_n (c := 1) dX6_standsSomewhere_37 rfl (by decide) (by decide) ?_
      refine g_goto (tgt := 9) dX6_standsSomewhere_40 (by decide) ?_
      subst hb
      exact g_loc rfl (ih (n + 1) (by omega))
    refine g_iload_n dX6_standsSomewhere_9 rfl ?_
    refine g_aload_n dX6_standsSomewhere_10 rfl ?_
    refine g_get fX6_7 dX6_standsSomewhere_11 rfl rfl ?_
    refine g_iconst (v := nI 4) dX6_standsSomewhere_14 (by decide) ?_
    refine g_iald_n dX6_standsSomewhere_15 rfl (by omega) (by decide) ?_
    refine g_icmp_gt_n (tgt := 43) dX6_standsSomewhere_16 (by decide) (by omega) (by omega) (fun h1 => ?_) (fun h1 => ?_)
    · omega
    refine g_iload_n dX6_standsSomewhere_19 rfl ?_
    refine g_if_ne_b (tgt := 31) dX6_standsSomewhere_20 (by decide) (fun h2 => ?_) (fun h2 => ?_)
    · refine g_iconst (v := nI 1) dX6_standsSomewhere_31 (by decide) ?_
      refine g_goto (tgt := 36) dX6_standsSomewhere_32 (by decide) ?_
      exact fin true (by simp [ssN, h2])
    refine g_iload_n dX6_standsSomewhere_23 rfl ?_
    refine g_iload_n dX6_standsSomewhere_24 rfl ?_
    refine g_ishr_n dX6_standsSomewhere_25 (by omega) (by omega) ?_
    refine g_iconst (v := nI 1) dX6_standsSomewhere_26 (by decide) ?_
    refine g_iand1_n dX6_standsSomewhere_27 ?_
    refine g_if_ne_n (tgt := 35) dX6_standsSomewhere_28 (by decide) (by omega) (fun h3 => ?_) (fun h3 => ?_)
    · refine g_iconst (v := nI 0) dX6_standsSomewhere_35 (by decide) ?_
      exact fin false (by simp [ssN, h2]; omega)
    · refine g_iconst (v := nI 1) dX6_standsSomewhere_31 (by decide) ?_
      refine g_goto (tgt := 36) dX6_standsSomewhere_32 (by decide) ?_
      exact fin true (by simp [ssN, h3])
theorem kX6_standsSomewhere (hX1 : wf1 X) {off : Nat} (ho : off < 2 ^ 12) : Cn mX6_standsSomewhere 0 0 0 none [.ref 233, .int (nI off)] (mM M0 X SV SN AT CH CF CT BU PT sm ik th mn cl ln sp nu pa hs) (zpi (mM M0 X SV SN AT CH CF CT BU PT sm ik th mn cl ln sp nu pa hs) (nI (ssW X off).toNat)) := by
  obtain ⟨-, -, -, w3, w4, -⟩ := id hX1
  refine g_iconst (v := nI 0) dX6_standsSomewhere_0 (by decide) ?_
  refine g_istore_n dX6_standsSomewhere_1 (by decide) ?_
  refine g_aload_n dX6_standsSomewhere_2 rfl ?_
  refine g_get fX6_7 dX6_standsSomewhere_3 rfl rfl ?_
  refine g_iconst (v := nI 3) dX6_standsSomewhere_6 (by decide) ?_
  refine g_iald_n dX6_standsSomewhere_7 rfl (by omega) (by decide) ?_
  refine g_istore_n dX6_standsSomewhere_8 (by decide) ?_
  exact g_loc rfl (ss1 hX1 ho (X 4 + 1 - X 3) 0 (by omega))
theorem mr1 (hX : wf0 X) (hX1 : wf1 X) {off h wd f t r te : Nat} (ho : off < 2 ^ 12) (hh : h ≤ 2) (hw : wd ≤ 6) (hf : f ≤ 24) (ht : t ≤ 24) (F : zP) (hk : ∀ AT mn, G mX6_makeRegular 5 0 0 none 71 [(0, .ref 233), (1, .int (nI h)), (2, .int (nI wd)), (3, .int (nI f)), (4, .int (nI t)), (5, .int (nI r)), (6, .int (nI te)), (7, .int (nI off)), (8, .int (nI (mrN X off h wd f t (X 4 + 1 - X 3)).1))] [] (mM M0 (mrN X off h wd f t (X 4 + 1 - X 3)).2 SV SN AT CH CF CT BU PT sm ik th mn cl ln sp nu pa hs) F) : ∀ u n, X 3 + n + u = X 4 + 1 → ∀ AT mn, G mX6_makeRegular 5 0 0 none 24 [(0, .ref 233), (1, .int (nI h)), (2, .int (nI wd)), (3, .int (nI f)), (4, .int (nI t)), (5, .int (nI r)), (6, .int (nI te)), (7, .int (nI off)), (8, .int (nI (mrN X off h wd f t n).1)), (9, .int (nI (X 3 + n)))] [] (mM M0 (mrN X off h wd f t n).2 SV SN AT CH CF CT BU PT sm ik th mn cl ln sp nu pa hs) F := by
  obtain ⟨-, -, -, w3, w4, -⟩ := id hX1
  intro u
  induction u with
  | zero =>
    intro n hn AT mn
    obtain ⟨a1, a2, a3, a4⟩ := mrN_ok hX w4 (off := off) (h := h) (f := f) (t := t) hw n (by omega)
    have e4 := a2 4 (by decide)
    refine g_iload dX6_makeRegular_24 rfl ?_
    refine g_aload_n dX6_makeRegular_26 rfl ?_
    refine g_get fX6_7 dX6_makeRegular_27 rfl rfl ?_
    refine g_iconst (v := nI 4) dX6_makeRegular_30 (by decide) ?_
    refine g_iald_n dX6_makeRegular_31 rfl (by omega) (by decide) ?_
    rw [e4]
    refine g_icmp_gt_n (tgt := 71) dX6_makeRegular_32 (by decide) (by omega) (by omega) (fun h1 => ?_) (fun h1 => ?_)
    · rw [show n = X 4 + 1 - X 3 by omega]
      exact g_loc rfl (hk AT mn)
    · omega
  | succ u ih =>
    intro n hn AT mn
    obtain ⟨a1, a2, a3, a4⟩ := mrN_ok hX w4 (off := off) (h := h) (f := f) (t := t) hw n (by omega)
    have e4 := a2 4 (by decide)
    have ih2 := ih (n + 1) (by omega)
    unfold mrN at ih2
    refine g_iload dX6_makeRegular_24 rfl ?_
    refine g_aload_n dX6_makeRegular_26 rfl ?_
    refine g_get fX6_7 dX6_makeRegular_27 rfl rfl ?_
    refine g_iconst (v := nI 4) dX6_makeRegular_30 (by decide) ?_
    refine g_iald_n dX6_makeRegular_31 rfl (by omega) (by decide) ?_
    rw [e4]
    refine g_icmp_gt_n (tgt := 71) dX6_makeRegular_32 (by decide) (by omega) (by omega) (fun h1 => ?_) (fun h1 => ?_)
    · omega
    refine g_iload dX6_makeRegular_35 rfl ?_
    refine g_iload dX6_makeRegular_37 rfl ?_
    refine g_ishr_n dX6_makeRegular_39 (by omega) (by omega) ?_
    refine g_iconst (v := nI 1) dX6_makeRegular_40 (by decide) ?_
    refine g_iand1_n dX6_makeRegular_41 ?_
    refine g_if_ne_n (tgt := 65) dX6_makeRegular_42 (by decide) (by omega) (fun h3 => ?_) (fun h3 => ?_)
    · refine g_iinc_n (c := 1) dX6_makeRegular_65 rfl (by decide) (by decide) ?_
      refine g_goto (tgt := 24) dX6_makeRegular_68 (by decide) ?_
      rw [if_neg h3] at ih2
      exact g_loc rfl (ih2 AT mn)
    · refine g_aload_n dX6_makeRegular_45 rfl ?_
      refine g_iload_n dX6_makeRegular_46 rfl ?_
      refine g_bipush (v := nI 7) dX6_makeRegular_47 (by decide) ?_
      refine g_iload dX6_makeRegular_49 rfl ?_
      refine g_imul_n dX6_makeRegular_51 ?_
      refine g_iload_n dX6_makeRegular_52 rfl ?_
      refine g_iadd_n dX6_makeRegular_53 ?_
      refine g_iload_n dX6_makeRegular_54 rfl ?_
      refine g_iload dX6_makeRegular_55 rfl ?_
      refine g_callV_i (kX6_giveWay a1 (h := h) (day := 7 * (X 3 + n) + wd) (f := f) (t := t) (by omega) (by omega) (by omega) (by omega)) oX6_giveWay pX6_giveWay lX6_107 dX6_makeRegular_57 rfl rfl rfl rfl rfl (Nat.le_of_ble_eq_true rfl) (Nat.le_of_ble_eq_true rfl) (by decide) (fun M' h' => ?_)
      obtain ⟨AT', mn', rfl⟩ := h'
      refine g_istore dX6_makeRegular_60 (by decide) ?_
      refine g_iinc_n (c := 1) dX6_makeRegular_62 rfl (by decide) (by decide) ?_
      refine g_iinc_n (c := 1) dX6_makeRegular_65 rfl (by decide) (by decide) ?_
      refine g_goto (tgt := 24) dX6_makeRegular_68 (by decide) ?_
      rw [if_pos h3] at ih2
      exact g_loc rfl (ih2 AT' mn')
theorem kX6_makeRegular (hX : wf0 X) (hX1 : wf1 X) (h8 : X 11 < 8) {h wd f t r te : Nat} (hh : h ≤ 2) (hw : wd ≤ 6) (hf : f ≤ t) (ht : t ≤ 24) (hr : r ≤ 9) : Cn mX6_makeRegular 5 0 0 none [.ref 233, .int (nI h), .int (nI wd), .int (nI f), .int (nI t), .int (nI r), .int (nI te)] (mM M0 X SV SN AT CH CF CT BU PT sm ik th mn cl ln sp nu pa hs) (zi (nI (mkRd X h wd f t r)) (fun M' => ∃ AT' CH' CF' CT' mn' cl', M' = mM M0 (mkR X h wd f t r te) SV SN AT' CH' CF' CT' BU PT sm ik th mn' cl' ln sp nu pa hs)) := by
  obtain ⟨-, -, -, w3, w4, -⟩ := id hX1
  have ho : offW X h wd f t r < 2 ^ 12 := offN_lt w4 h wd f t r _ (by omega)
  refine g_aload_n dX6_makeRegular_0 rfl ?_
  refine g_iload_n dX6_makeRegular_1 rfl ?_
  refine g_iload_n dX6_makeRegular_2 rfl ?_
  refine g_iload_n dX6_makeRegular_3 rfl ?_
  refine g_iload dX6_makeRegular_4 rfl ?_
  refine g_iload dX6_makeRegular_6 rfl ?_
  refine g_callV_i (kX6_offWeeks hX hX1 (h := h) (wd := wd) (f := f) (t := t) (r := r) hh hw (by omega) ht hr) oX6_offWeeks pX6_offWeeks lX6_137 dX6_makeRegular_8 rfl rfl rfl rfl rfl (Nat.le_of_ble_eq_true rfl) (Nat.le_of_ble_eq_true rfl) (by decide) (fun M' h' => ?_)
  obtain ⟨AT1, CH1, CF1, CT1, mn1, cl1, rfl⟩ := h'
  obtain ⟨a1, a2, a3, a4⟩ := mrN_ok hX w4 (off := offW X h wd f t r) (h := h) (f := f) (t := t) hw (X 4 + 1 - X 3) (by omega)
  refine g_istore dX6_makeRegular_11 (by decide) ?_
  refine g_iconst (v := nI 0) dX6_makeRegular_13 (by decide) ?_
  refine g_istore dX6_makeRegular_14 (by decide) ?_
  refine g_aload_n dX6_makeRegular_16 rfl ?_
  refine g_get fX6_7 dX6_makeRegular_17 rfl rfl ?_
  refine g_iconst (v := nI 3) dX6_makeRegular_20 (by decide) ?_
  refine g_iald_n dX6_makeRegular_21 rfl (by omega) (by decide) ?_
  refine g_istore dX6_makeRegular_22 (by decide) ?_
  refine g_loc rfl (mr1 hX hX1 (r := r) (te := te) ho hh hw (by omega) ht _ (fun AT mn => ?_) (X 4 + 1 - X 3) 0 (by omega) _ _)
  unfold mkR mkRd
  generalize (mrN X (offW X h wd f t r) h wd f t (X 4 + 1 - X 3)).2 = X1 at a1 a2 a3
  generalize (mrN X (offW X h wd f t r) h wd f t (X 4 + 1 - X 3)).1 = days
  generalize offW X h wd f t r = off
  have hlow : ∀ j, j < 8 → layX X1 (12 + 10 * X1 11) h wd f t r te j = X1 j := fun j hj => by
    unfold layX
    rw [uN_n _ _ (by omega), uN_n _ _ (by omega), uN_n _ _ (by omega), uN_n _ _ (by omega), uN_n _ _ (by omega), uN_n _ _ (by omega)]
  have hwl : wf1 (layX X1 (12 + 10 * X1 11) h wd f t r te) := wf1_low (wf1_low hX1 a2) hlow
  refine g_bipush (v := nI 12) dX6_makeRegular_71 (by decide) ?_
  refine g_bipush (v := nI 10) dX6_makeRegular_73 (by decide) ?_
  refine g_aload_n dX6_makeRegular_75 rfl ?_
  refine g_get fX6_7 dX6_makeRegular_76 rfl rfl ?_
  refine g_bipush (v := nI 11) dX6_makeRegular_79 (by decide) ?_
  refine g_iald_n dX6_makeRegular_81 rfl (by omega) (by decide) ?_
  refine g_imul_n dX6_makeRegular_82 ?_
  refine g_iadd_n dX6_makeRegular_83 ?_
  refine g_istore dX6_makeRegular_84 (by decide) ?_
  refine g_aload_n dX6_makeRegular_86 rfl ?_
  refine g_iload dX6_makeRegular_87 rfl ?_
  refine g_iload_n dX6_makeRegular_89 rfl ?_
  refine g_iload_n dX6_makeRegular_90 rfl ?_
  refine g_iload_n dX6_makeRegular_91 rfl ?_
  refine g_iload dX6_makeRegular_92 rfl ?_
  refine g_iload dX6_makeRegular_94 rfl ?_
  refine g_iload dX6_makeRegular_96 rfl ?_
  refine g_callV_v (kX6_lay (p := 12 + 10 * X1 11) (h := h) (d := wd) (f := f) (t := t) (r := r) (te := te) (by omega)) oX6_lay pX6_lay lX6_110 dX6_makeRegular_98 rfl rfl rfl rfl rfl (Nat.le_of_ble_eq_true rfl) (Nat.le_of_ble_eq_true rfl) (by decide) (fun M' h' => ?_)
  subst h'
  unfold mkR0
  dsimp only
  generalize layX X1 (12 + 10 * X1 11) h wd f t r te = X2 at hwl
  refine g_aload_n dX6_makeRegular_101 rfl ?_
  refine g_get fX6_7 dX6_makeRegular_102 rfl rfl ?_
  refine g_iload dX6_makeRegular_105 rfl ?_
  refine g_bipush (v := nI 6) dX6_makeRegular_107 (by decide) ?_
  refine g_iadd_n dX6_makeRegular_109 ?_
  refine g_aload_n dX6_makeRegular_110 rfl ?_
  refine g_iload_n dX6_makeRegular_111 rfl ?_
  refine g_iload_n dX6_makeRegular_112 rfl ?_
  refine g_iload_n dX6_makeRegular_113 rfl ?_
  refine g_iload dX6_makeRegular_114 rfl ?_
  refine g_callV_i (kX6_regularRent hwl (h := h) (wd := wd) (f := f) (t := t) hh hw hf ht) oX6_regularRent pX6_regularRent lX6_140 dX6_makeRegular_116 rfl rfl rfl rfl rfl (Nat.le_of_ble_eq_true rfl) (Nat.le_of_ble_eq_true rfl) (by decide) (fun M' h' => ?_)
  subst h'
  refine g_mst_row dX6_makeRegular_119 (by omega) ?_
  refine g_aload_n dX6_makeRegular_120 rfl ?_
  refine g_get fX6_7 dX6_makeRegular_121 rfl rfl ?_
  refine g_iload dX6_makeRegular_124 rfl ?_
  refine g_bipush (v := nI 7) dX6_makeRegular_126 (by decide) ?_
  refine g_iadd_n dX6_makeRegular_128 ?_
  refine g_aload_n dX6_makeRegular_129 rfl ?_
  refine g_get fX6_7 dX6_makeRegular_130 rfl rfl ?_
  refine g_iconst (v := nI 3) dX6_makeRegular_133 (by decide) ?_
  refine g_iald_n dX6_makeRegular_134 rfl (by omega) (by decide) ?_
  refine g_mst_row dX6_makeRegular_135 (by omega) ?_
  refine g_aload_n dX6_makeRegular_136 rfl ?_
  refine g_get fX6_7 dX6_makeRegular_137 rfl rfl ?_
  refine g_iload dX6_makeRegular_140 rfl ?_
  refine g_bipush (v := nI 8) dX6_makeRegular_142 (by decide) ?_
  refine g_iadd_n dX6_makeRegular_144 ?_
  refine g_aload_n dX6_makeRegular_145 rfl ?_
  refine g_get fX6_7 dX6_makeRegular_146 rfl rfl ?_
  refine g_iconst (v := nI 4) dX6_makeRegular_149 (by decide) ?_
  refine g_iald_n dX6_makeRegular_150 rfl (by omega) (by decide) ?_
  refine g_mst_row dX6_makeRegular_151 (by omega) ?_
  refine g_aload_n dX6_makeRegular_152 rfl ?_
  refine g_get fX6_7 dX6_makeRegular_153 rfl rfl ?_
  refine g_iload dX6_makeRegular_156 rfl ?_
  refine g_bipush (v := nI 9) dX6_makeRegular_158 (by decide) ?_
  refine g_iadd_n dX6_makeRegular_160 ?_
  refine g_iload dX6_makeRegular_161 rfl ?_
  refine g_mst_row dX6_makeRegular_163 (by omega) ?_
  refine g_aload_n dX6_makeRegular_164 rfl ?_
  refine g_get fX6_7 dX6_makeRegular_165 rfl rfl ?_
  refine g_bipush (v := nI 8) dX6_makeRegular_168 (by decide) ?_
  refine g_dup2 dX6_makeRegular_170 rfl rfl ?_
  refine g_iald_n dX6_makeRegular_171 rfl (by omega) (by decide) ?_
  refine g_iload dX6_makeRegular_172 rfl ?_
  refine g_aload_n dX6_makeRegular_174 rfl ?_
  refine g_get fX6_7 dX6_makeRegular_175 rfl rfl ?_
  refine g_iload dX6_makeRegular_178 rfl ?_
  refine g_bipush (v := nI 6) dX6_makeRegular_180 (by decide) ?_
  refine g_iadd_n dX6_makeRegular_182 ?_
  refine g_iald_n dX6_makeRegular_183 rfl (by omega) (by decide) ?_
  refine g_imul_n dX6_makeRegular_184 ?_
  refine g_iadd_n dX6_makeRegular_185 ?_
  refine g_mst_row dX6_makeRegular_186 (by omega) ?_
  refine g_aload_n dX6_makeRegular_187 rfl ?_
  refine g_get fX6_7 dX6_makeRegular_188 rfl rfl ?_
  refine g_bipush (v := nI 11) dX6_makeRegular_191 (by decide) ?_
  refine g_dup2 dX6_makeRegular_193 rfl rfl ?_
  refine g_iald_n dX6_makeRegular_194 rfl (by omega) (by decide) ?_
  refine g_iconst (v := nI 1) dX6_makeRegular_195 (by decide) ?_
  refine g_iadd_n dX6_makeRegular_196 ?_
  refine g_mst_row dX6_makeRegular_197 (by omega) ?_
  refine g_iload dX6_makeRegular_198 rfl ?_
  exact g_ireturn dX6_makeRegular_200 rfl rfl ⟨rfl, rfl, AT, CH1, CF1, CT1, mn, cl1, rfl⟩
end MOD7
