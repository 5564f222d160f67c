/-! the reference: fullness, meanRent, digest -/
def shN (X : Nat → Nat) (h : Nat) : Nat → Nat
  | 0 => 0
  | k + 1 => shN X h k + ihS X h 1 (lk X k) 0
def shD (X : Nat → Nat) (h : Nat) : UInt64 := FP.ddiv (FP.i2d (nI (shN X h 84))) 4656581277212737536
def mnF (X : Nat → Nat) : UInt32 := FP.fdiv (FP.i2f (nI (oT X (-1) 2))) 1118306304
def mxN (f : Nat → Int64) : Nat → Int64 → Int64
  | 0, h => h
  | k + 1, h => 31 * mxN f k h + f k
def mx1 (v h : Int64) : Int64 := 31 * h + v
def dg1 (X : Nat → Nat) (sm : Nat) (h : Int64) : Int64 := mxN (fun w => (nI (cnt0 X sm w)).toInt64) 13 h
def dg2 (X : Nat → Nat) (h : Int64) : Int64 := mxN (fun j => (nI (oT X (nI (j / 3)) (j % 3))).toInt64) 60 (mxN (fun j => (nI (X (93 + 7 * (j / 7) + j % 7))).toInt64) (7 * X 92) (mxN (fun j => (ofR X (j / 11) (j % 11)).toInt64) (11 * X 11) h))
def dg3 (X : Nat → Nat) (a : Nat) (h : Int64) : Int64 := mx1 (shD X a).toInt64 (mx1 (nI (sRent X a 5 18 20)).toInt64 (mx1 (nI (rfs X a 5 18 20 5)).toInt64 (mx1 (ffD X a 3 84 0).toInt64 (mxN (fun j => (ofH X a (j / 4) (j % 4)).toInt64) 28 (mx1 (nI (X (5 + a))).toInt64 h)))))
def dg3N (X : Nat → Nat) : Nat → Int64 → Int64
  | 0, h => h
  | a + 1, h => dg3 X a (dg3N X a h)
def dgA (X BU : Nat → Nat) (sm ln : Nat) : Int64 := mxN (fun j => (nI (BU j)).toInt64) ln (mx1 (nI ln).toInt64 (mx1 (mnF X).toInt32.toInt64 (mx1 (btN X 20).1.toInt64 (dg3N X 3 (dg2 X (dg1 X sm 3709))))))
section MOD17
variable {M0 : zM} {X SV SN AT CH CF CT BU PT : Nat → Nat} {sm ik th mn cl ln sp nu pa : Nat} {hs : Int64}
theorem sh1 (hX : wf0 X) (hX2 : wf2 X) {h : Nat} (hh : h ≤ 2) (F : zP) (hF : ∀ AT CH CF CT mn cl, F (mM M0 X SV SN AT CH CF CT BU PT sm ik th mn cl ln sp nu pa hs) none (.inl (some (.double (shD X h))))) : ∀ n k AT CH CF CT mn cl, k + n = 84 → G mX6_share 4 0 0 none 4 [(0, .ref 233), (1, .int (nI h)), (2, .int (nI (shN X h k))), (3, .int (nI k))] [] (mM M0 X SV SN AT CH CF CT BU PT sm ik th mn cl ln sp nu pa hs) F := by
  intro n
  induction n with
  | zero =>
    intro k AT CH CF CT mn cl hk
    have : k = 84 := by omega
    subst this
    refine g_iload_n dX6_share_4 rfl ?_
    refine g_bipush (v := nI 84) dX6_share_5 (by decide) ?_
    refine g_icmp_ge_n (tgt := 26) dX6_share_7 (by decide) (by omega) (by omega) (fun h1 => ?_) (fun h1 => ?_)
    · refine g_iload_n dX6_share_26 rfl ?_
      refine g_i2d dX6_share_27 ?_
      refine g_ldcd dX6_share_28 q1241 ?_
      refine g_ddiv dX6_share_31 (vf_of64 (z2016 _)) ?_
      exact g_dreturn dX6_share_32 rfl (hF _ _ _ _ _ _)
    · omega
  | succ n ih =>
    intro k AT CH CF CT mn cl hk
    refine g_iload_n dX6_share_4 rfl ?_
    refine g_bipush (v := nI 84) dX6_share_5 (by decide) ?_
    refine g_icmp_ge_n (tgt := 26) dX6_share_7 (by decide) (by omega) (by omega) (fun h1 => ?_) (fun h1 => ?_)
    · omega
    refine g_iload_n dX6_share_10 rfl ?_
    refine g_aload_n dX6_share_11 rfl ?_
    refine g_iload_n dX6_share_12 rfl ?_
    refine g_iload_n dX6_share_13 rfl ?_
    refine g_iconst (v := nI 1) dX6_share_14 (by decide) ?_
    refine g_callV_i (kX6_inHall hX hX2 (h := h) (day := k) (w := 1) hh (by omega) (by omega)) oX6_inHall pX6_inHall lX6_207 dX6_share_15 rfl rfl rfl rfl rfl (Nat.le_of_ble_eq_true rfl) (Nat.le_of_ble_eq_true rfl) (by decide) (fun M' h' => ?_)
    obtain ⟨AT', CH', CF', CT', mn', cl', rfl⟩ := h'
    refine g_iadd_n dX6_share_18 ?_
    refine g_istore_n dX6_share_19 (by decide) ?_
    refine g_iinc_n (c := 1) dX6_share_20 rfl (by decide) (by decide) ?_
    refine g_goto (tgt := 4) dX6_share_23 (by decide) ?_
    exact g_loc rfl (ih (k + 1) _ _ _ _ _ _ (by omega))
theorem kX6_share (hX : wf0 X) (hX2 : wf2 X) {h : Nat} (hh : h ≤ 2) : Cn mX6_share 4 0 0 none [.ref 233, .int (nI h)] (mM M0 X SV SN AT CH CF CT BU PT sm ik th mn cl ln sp nu pa hs) (zd (shD X h) (fun M' => ∃ AT' CH' CF' CT' mn' cl', M' = mM M0 X SV SN AT' CH' CF' CT' BU PT sm ik th mn' cl' ln sp nu pa hs)) := by
  refine g_iconst (v := nI 0) dX6_share_0 (by decide) ?_
  refine g_istore_n dX6_share_1 (by decide) ?_
  refine g_iconst (v := nI 0) dX6_share_2 (by decide) ?_
  refine g_istore_n dX6_share_3 (by decide) ?_
  exact g_loc rfl (sh1 hX hX2 hh _ (fun AT' CH' CF' CT' mn' cl' => ⟨rfl, rfl, AT', CH', CF', CT', mn', cl', rfl⟩) 84 0 AT CH CF CT mn cl (by omega))
theorem kX6_fullness1 (v : Int32) (h : zin v (nI 0) (nI 2) = false) : Cn mX6_fullness 5 0 0 none [.ref 233, .int v] (mM M0 X SV SN AT CH CF CT BU PT sm ik th mn cl ln sp nu pa hs) (zd (FP.i2d 0) (fun M' => M' = mM M0 X SV SN AT CH CF CT BU PT sm ik 1 mn cl ln sp nu pa hs)) := by
  refine g_aload_n dX6_fullness_0 rfl ?_
  refine g_iconst (v := nI 0) dX6_fullness_1 (by decide) ?_
  refine g_mput_thrown fX6_37 dX6_fullness_2 ?_
  refine g_iload_n dX6_fullness_5 rfl ?_
  refine g_callS_i (kX6_isHall v) oX6_isHall pX6_isHall lX6_117 dX6_fullness_6 rfl rfl (Nat.le_of_ble_eq_true rfl) (Nat.le_of_ble_eq_true rfl) (by decide) (fun M' h' => ?_)
  subst h'
  refine g_if_eq_b (tgt := 20) dX6_fullness_9 (by decide) (fun h1 => ?_) (fun h1 => ?_)
  · refine g_aload_n dX6_fullness_20 rfl ?_
    refine g_iconst (v := nI 1) dX6_fullness_21 (by decide) ?_
    refine g_callV_i (kX6_fails 1) oX6_fails pX6_fails lX6_48 dX6_fullness_22 rfl rfl rfl rfl rfl (Nat.le_of_ble_eq_true rfl) (Nat.le_of_ble_eq_true rfl) (by decide) (fun M' h' => ?_)
    subst h'
    refine g_i2d dX6_fullness_25 ?_
    exact g_dreturn dX6_fullness_26 rfl ⟨rfl, rfl, rfl⟩
  · rw [h] at h1; cases h1
theorem kX6_fullness (hX : wf0 X) (hX2 : wf2 X) {h : Nat} (hh : h ≤ 2) : Cn mX6_fullness 5 0 0 none [.ref 233, .int (nI h)] (mM M0 X SV SN AT CH CF CT BU PT sm ik th mn cl ln sp nu pa hs) (zd (shD X h) (fun M' => ∃ AT' CH' CF' CT' mn' cl', M' = mM M0 X SV SN AT' CH' CF' CT' BU PT sm ik 0 mn' cl' ln sp nu pa hs)) := by
  refine g_aload_n dX6_fullness_0 rfl ?_
  refine g_iconst (v := nI 0) dX6_fullness_1 (by decide) ?_
  refine g_mput_thrown fX6_37 dX6_fullness_2 ?_
  refine g_iload_n dX6_fullness_5 rfl ?_
  refine g_callS_i (kX6_isHall (nI h)) oX6_isHall pX6_isHall lX6_117 dX6_fullness_6 rfl rfl (Nat.le_of_ble_eq_true rfl) (Nat.le_of_ble_eq_true rfl) (by decide) (fun M' h' => ?_)
  subst h'
  rw [zin_t (by omega) hh (by decide)]
  refine g_if_eq_b (tgt := 20) dX6_fullness_9 (by decide) (fun h1 => ?_) (fun h1 => ?_)
  · cases h1
  · refine g_aload_n dX6_fullness_12 rfl ?_
    refine g_iload_n dX6_fullness_13 rfl ?_
    refine g_callV_d (kX6_share hX hX2 hh) oX6_share pX6_share lX6_227 dX6_fullness_14 rfl rfl rfl rfl rfl (Nat.le_of_ble_eq_true rfl) (Nat.le_of_ble_eq_true rfl) (by decide) (fun M' h' => ?_)
    refine g_goto (tgt := 26) dX6_fullness_17 (by decide) ?_
    exact g_dreturn dX6_fullness_26 rfl ⟨rfl, rfl, h'⟩
theorem kX6_mean (hX : wf0 X) : Cn mX6_mean 5 0 0 none [.ref 233] (mM M0 X SV SN AT CH CF CT BU PT sm ik th mn cl ln sp nu pa hs) (zg (mnF X) (fun M' => M' = mM M0 X SV SN AT CH CF CT BU PT sm ik th mn cl ln sp nu pa hs)) := by
  refine g_aload_n dX6_mean_0 rfl ?_
  refine g_iconst (v := nI 3) dX6_mean_1 (by decide) ?_
  refine g_callV_i (kX6_count0 hX (w := 3) (by omega)) oX6_count0 pX6_count0 lX6_216 dX6_mean_2 rfl rfl rfl rfl rfl (Nat.le_of_ble_eq_true rfl) (Nat.le_of_ble_eq_true rfl) (by decide) (fun M' h' => ?_)
  subst h'
  refine g_i2f dX6_mean_5 ?_
  refine g_ldcf dX6_mean_6 q1250 ?_
  refine g_fdiv dX6_mean_8 (vf_of32 (z84 _)) ?_
  exact g_freturn dX6_mean_9 rfl ⟨rfl, rfl, rfl⟩
theorem kX6_meanRent (hX : wf0 X) : Cn mX6_meanRent 6 0 0 none [.ref 233] (mM M0 X SV SN AT CH CF CT BU PT sm ik th mn cl ln sp nu pa hs) (zg (mnF X) (fun M' => M' = mM M0 X SV SN AT CH CF CT BU PT sm ik 0 mn cl ln sp nu pa hs)) := by
  refine g_aload_n dX6_meanRent_0 rfl ?_
  refine g_iconst (v := nI 0) dX6_meanRent_1 (by decide) ?_
  refine g_mput_thrown fX6_37 dX6_meanRent_2 ?_
  refine g_aload_n dX6_meanRent_5 rfl ?_
  refine g_callV_g (kX6_mean hX) oX6_mean pX6_mean lX6_232 dX6_meanRent_6 rfl rfl rfl rfl rfl (Nat.le_of_ble_eq_true rfl) (Nat.le_of_ble_eq_true rfl) (by decide) (fun M' h' => ?_)
  subst h'
  exact g_freturn dX6_meanRent_9 rfl ⟨rfl, rfl, rfl⟩
theorem kX6_mix (v : Int64) : Cn mX6_mix 0 0 0 none [.ref 233, .long v] (mM M0 X SV SN AT CH CF CT BU PT sm ik th mn cl ln sp nu pa hs) (zv (fun M' => M' = mM M0 X SV SN AT CH CF CT BU PT sm ik th mn cl ln sp nu pa (mx1 v hs))) := by
  refine g_aload_n dX6_mix_0 rfl ?_
  refine g_ldcl dX6_mix_1 q1260 ?_
  refine g_aload_n dX6_mix_4 rfl ?_
  refine g_get fX6_238 dX6_mix_5 rfl rfl ?_
  refine g_lmul dX6_mix_8 ?_
  refine g_lload_n dX6_mix_9 rfl ?_
  refine g_ladd dX6_mix_10 ?_
  refine g_mput_hash fX6_238 dX6_mix_11 ?_
  exact g_return dX6_mix_14 rfl ⟨rfl, rfl, rfl⟩
theorem ml3 (hX : wf0 X) (F : zP) (hF : ∀ hs', hs' = mxN (fun j => (nI (oT X (nI (j / 3)) (j % 3))).toInt64) 60 hs → F (mM M0 X SV SN AT CH CF CT BU PT sm ik th mn cl ln sp nu pa hs') none (.inl none)) : ∀ n k, k + n = 60 → G mX6_mixLets 4 0 0 none 80 [(0, .ref 233), (1, .int (nI k))] [] (mM M0 X SV SN AT CH CF CT BU PT sm ik th mn cl ln sp nu pa (mxN (fun j => (nI (oT X (nI (j / 3)) (j % 3))).toInt64) k hs)) F := by
  intro n
  induction n with
  | zero =>
    intro k hk
    have : k = 60 := by omega
    subst this
    refine g_iload_n dX6_mixLets_80 rfl ?_
    refine g_bipush (v := nI 60) dX6_mixLets_81 (by decide) ?_
    refine g_icmp_ge_n (tgt := 107) dX6_mixLets_83 (by decide) (by omega) (by omega) (fun h1 => ?_) (fun h1 => ?_)
    · exact g_return dX6_mixLets_107 rfl (hF _ rfl)
    · omega
  | succ n ih =>
    intro k hk
    refine g_iload_n dX6_mixLets_80 rfl ?_
    refine g_bipush (v := nI 60) dX6_mixLets_81 (by decide) ?_
    refine g_icmp_ge_n (tgt := 107) dX6_mixLets_83 (by decide) (by omega) (by omega) (fun h1 => ?_) (fun h1 => ?_)
    · omega
    refine g_aload_n dX6_mixLets_86 rfl ?_
    refine g_aload_n dX6_mixLets_87 rfl ?_
    refine g_iload_n dX6_mixLets_88 rfl ?_
    refine g_iconst (v := nI 3) dX6_mixLets_89 (by decide) ?_
    refine g_idiv_n dX6_mixLets_90 (by omega) (by omega) (by omega) ?_
    refine g_iload_n dX6_mixLets_91 rfl ?_
    refine g_iconst (v := nI 3) dX6_mixLets_92 (by decide) ?_
    refine g_irem_n dX6_mixLets_93 (by omega) (by omega) (by omega) ?_
    refine g_callV_i (kX6_ofTenant hX (w := k % 3) (te := nI (k / 3)) (by omega)) oX6_ofTenant pX6_ofTenant lX6_213 dX6_mixLets_94 rfl rfl rfl rfl rfl (Nat.le_of_ble_eq_true rfl) (Nat.le_of_ble_eq_true rfl) (by decide) (fun M' h' => ?_)
    subst h'
    refine g_i2l dX6_mixLets_97 ?_
    refine g_callV_v (kX6_mix (nI (oT X (nI (k / 3)) (k % 3))).toInt64) oX6_mix pX6_mix lX6_242 dX6_mixLets_98 rfl rfl rfl rfl rfl (Nat.le_of_ble_eq_true rfl) (Nat.le_of_ble_eq_true rfl) (by decide) (fun M' h' => ?_)
    subst h'
    refine g_iinc_n (c := 1) dX6_mixLets_101 rfl (by decide) (by decide) ?_
    refine g_goto (tgt := 80) dX6_mixLets_104 (by decide) ?_
    exact g_loc rfl (ih (k + 1) (by omega))
theorem ml2 (hX : wf0 X) (F : zP) (hF : ∀ hs', hs' = mxN (fun j => (nI (X (93 + 7 * (j / 7) + j % 7))).toInt64) (7 * X 92) hs → G mX6_mixLets 4 0 0 none 78 [(0, .ref 233)] [] (mM M0 X SV SN AT CH CF CT BU PT sm ik th mn cl ln sp nu pa hs') F) : ∀ n k, k + n = 7 * X 92 → G mX6_mixLets 4 0 0 none 41 [(0, .ref 233), (1, .int (nI k))] [] (mM M0 X SV SN AT CH CF CT BU PT sm ik th mn cl ln sp nu pa (mxN (fun j => (nI (X (93 + 7 * (j / 7) + j % 7))).toInt64) k hs)) F := by
  have h92 := hX.2.2
  intro n
  induction n with
  | zero =>
    intro k hk
    have : k = 7 * X 92 := by omega
    subst this
    refine g_iload_n dX6_mixLets_41 rfl ?_
    refine g_bipush (v := nI 7) dX6_mixLets_42 (by decide) ?_
    refine g_aload_n dX6_mixLets_44 rfl ?_
    refine g_get fX6_7 dX6_mixLets_45 rfl rfl ?_
    refine g_bipush (v := nI 92) dX6_mixLets_48 (by decide) ?_
    refine g_iald_n dX6_mixLets_50 rfl (by omega) (by decide) ?_
    refine g_imul_n dX6_mixLets_51 ?_
    refine g_icmp_ge_n (tgt := 78) dX6_mixLets_52 (by decide) (by omega) (by omega) (fun h1 => ?_) (fun h1 => ?_)
    · exact g_loc rfl (hF _ rfl)
    · omega
  | succ n ih =>
    intro k hk
    refine g_iload_n dX6_mixLets_41 rfl ?_
    refine g_bipush (v := nI 7) dX6_mixLets_42 (by decide) ?_
    refine g_aload_n dX6_mixLets_44 rfl ?_
    refine g_get fX6_7 dX6_mixLets_45 rfl rfl ?_
    refine g_bipush (v := nI 92) dX6_mixLets_48 (by decide) ?_
    refine g_iald_n dX6_mixLets_50 rfl (by omega) (by decide) ?_
    refine g_imul_n dX6_mixLets_51 ?_
    refine g_icmp_ge_n (tgt := 78) dX6_mixLets_52 (by decide) (by omega) (by omega) (fun h1 => ?_) (fun h1 => ?_)
    · omega
    refine g_aload_n dX6_mixLets_55 rfl ?_
    refine g_aload_n dX6_mixLets_56 rfl ?_
    refine g_iload_n dX6_mixLets_57 rfl ?_
    refine g_bipush (v := nI 7) dX6_mixLets_58 (by decide) ?_
    refine g_idiv_n dX6_mixLets_60 (by omega) (by omega) (by omega) ?_
    refine g_iload_n dX6_mixLets_61 rfl ?_
    refine g_bipush (v := nI 7) dX6_mixLets_62 (by decide) ?_
    refine g_irem_n dX6_mixLets_64 (by omega) (by omega) (by omega) ?_
    refine g_callV_i (kX6_dated (i := k / 7) (w := k % 7) (by omega)) oX6_dated pX6_dated lX6_74 dX6_mixLets_65 rfl rfl rfl rfl rfl (Nat.le_of_ble_eq_true rfl) (Nat.le_of_ble_eq_true rfl) (by decide) (fun M' h' => ?_)
    subst h'
    refine g_i2l dX6_mixLets_68 ?_
    refine g_callV_v (kX6_mix (nI (X (93 + 7 * (k / 7) + k % 7))).toInt64) oX6_mix pX6_mix lX6_242 dX6_mixLets_69 rfl rfl rfl rfl rfl (Nat.le_of_ble_eq_true rfl) (Nat.le_of_ble_eq_true rfl) (by decide) (fun M' h' => ?_)
    subst h'
    refine g_iinc_n (c := 1) dX6_mixLets_72 rfl (by decide) (by decide) ?_
    refine g_goto (tgt := 41) dX6_mixLets_75 (by decide) ?_
    exact g_loc rfl (ih (k + 1) (by omega))
theorem ml1 (hX : wf0 X) (F : zP) (hF : ∀ hs', hs' = mxN (fun j => (ofR X (j / 11) (j % 11)).toInt64) (11 * X 11) hs → G mX6_mixLets 4 0 0 none 39 [(0, .ref 233)] [] (mM M0 X SV SN AT CH CF CT BU PT sm ik th mn cl ln sp nu pa hs') F) : ∀ n k, k + n = 11 * X 11 → G mX6_mixLets 4 0 0 none 2 [(0, .ref 233), (1, .int (nI k))] [] (mM M0 X SV SN AT CH CF CT BU PT sm ik th mn cl ln sp nu pa (mxN (fun j => (ofR X (j / 11) (j % 11)).toInt64) k hs)) F := by
  have h11 := hX.2.1
  intro n
  induction n with
  | zero =>
    intro k hk
    have : k = 11 * X 11 := by omega
    subst this
    refine g_iload_n dX6_mixLets_2 rfl ?_
    refine g_bipush (v := nI 11) dX6_mixLets_3 (by decide) ?_
    refine g_aload_n dX6_mixLets_5 rfl ?_
    refine g_get fX6_7 dX6_mixLets_6 rfl rfl ?_
    refine g_bipush (v := nI 11) dX6_mixLets_9 (by decide) ?_
    refine g_iald_n dX6_mixLets_11 rfl (by omega) (by decide) ?_
    refine g_imul_n dX6_mixLets_12 ?_
    refine g_icmp_ge_n (tgt := 39) dX6_mixLets_13 (by decide) (by omega) (by omega) (fun h1 => ?_) (fun h1 => ?_)
    · exact g_loc rfl (hF _ rfl)
    · omega
  | succ n ih =>
    intro k hk
    refine g_iload_n dX6_mixLets_2 rfl ?_
    refine g_bipush (v := nI 11) dX6_mixLets_3 (by decide) ?_
    refine g_aload_n dX6_mixLets_5 rfl ?_
    refine g_get fX6_7 dX6_mixLets_6 rfl rfl ?_
    refine g_bipush (v := nI 11) dX6_mixLets_9 (by decide) ?_
    refine g_iald_n dX6_mixLets_11 rfl (by omega) (by decide) ?_
    refine g_imul_n dX6_mixLets_12 ?_
    refine g_icmp_ge_n (tgt := 39) dX6_mixLets_13 (by decide) (by omega) (by omega) (fun h1 => ?_) (fun h1 => ?_)
    · omega
    refine g_aload_n dX6_mixLets_16 rfl ?_
    refine g_aload_n dX6_mixLets_17 rfl ?_
    refine g_iload_n dX6_mixLets_18 rfl ?_
    refine g_bipush (v := nI 11) dX6_mixLets_19 (by decide) ?_
    refine g_idiv_n dX6_mixLets_21 (by omega) (by omega) (by omega) ?_
    refine g_iload_n dX6_mixLets_22 rfl ?_
    refine g_bipush (v := nI 11) dX6_mixLets_23 (by decide) ?_
    refine g_irem_n dX6_mixLets_25 (by omega) (by omega) (by omega) ?_
    refine g_callV_i (kX6_ofRegular hX (i := k / 11) (w := k % 11) (by omega) (by omega)) oX6_ofRegular pX6_ofRegular lX6_200 dX6_mixLets_26 rfl rfl rfl rfl rfl (Nat.le_of_ble_eq_true rfl) (Nat.le_of_ble_eq_true rfl) (by decide) (fun M' h' => ?_)
    subst h'
    refine g_i2l dX6_mixLets_29 ?_
    refine g_callV_v (kX6_mix (ofR X (k / 11) (k % 11)).toInt64) oX6_mix pX6_mix lX6_242 dX6_mixLets_30 rfl rfl rfl rfl rfl (Nat.le_of_ble_eq_true rfl) (Nat.le_of_ble_eq_true rfl) (by decide) (fun M' h' => ?_)
    subst h'
    refine g_iinc_n (c := 1) dX6_mixLets_33 rfl (by decide) (by decide) ?_
    refine g_goto (tgt := 2) dX6_mixLets_36 (by decide) ?_
    exact g_loc rfl (ih (k + 1) (by omega))
theorem kX6_mixLets (hX : wf0 X) : Cn mX6_mixLets 4 0 0 none [.ref 233] (mM M0 X SV SN AT CH CF CT BU PT sm ik th mn cl ln sp nu pa hs) (zv (fun M' => M' = mM M0 X SV SN AT CH CF CT BU PT sm ik th mn cl ln sp nu pa (dg2 X hs))) := by
  refine g_iconst (v := nI 0) dX6_mixLets_0 (by decide) ?_
  refine g_istore_n dX6_mixLets_1 (by decide) ?_
  refine g_loc rfl (ml1 hX _ (fun h1 e1 => ?_) (11 * X 11) 0 (by omega))
  refine g_iconst (v := nI 0) dX6_mixLets_39 (by decide) ?_
  refine g_istore_n dX6_mixLets_40 (by decide) ?_
  refine g_loc rfl (ml2 hX _ (fun h2 e2 => ?_) (7 * X 92) 0 (by omega))
  refine g_iconst (v := nI 0) dX6_mixLets_78 (by decide) ?_
  refine g_istore_n dX6_mixLets_79 (by decide) ?_
  refine g_loc rfl (ml3 hX _ (fun h3 e3 => ⟨rfl, rfl, ?_⟩) 60 0 (by omega))
  subst e1 e2 e3
  rfl
theorem mh1 (hX : wf0 X) (hX2 : wf2 X) {h : Nat} (hh : h ≤ 2) (F : zP) (hF : ∀ hs' AT CH CF CT mn cl, hs' = mxN (fun j => (ofH X h (j / 4) (j % 4)).toInt64) 28 hs → G mX6_mixHall 6 0 0 none 43 [(0, .ref 233), (1, .int (nI h))] [] (mM M0 X SV SN AT CH CF CT BU PT sm ik th mn cl ln sp nu pa hs') F) : ∀ n k AT CH CF CT mn cl, k + n = 28 → G mX6_mixHall 6 0 0 none 15 [(0, .ref 233), (1, .int (nI h)), (2, .int (nI k))] [] (mM M0 X SV SN AT CH CF CT BU PT sm ik th mn cl ln sp nu pa (mxN (fun j => (ofH X h (j / 4) (j % 4)).toInt64) k hs)) F := by
  intro n
  induction n with
  | zero =>
    intro k AT CH CF CT mn cl hk
    have : k = 28 := by omega
    subst this
    refine g_iload_n dX6_mixHall_15 rfl ?_
    refine g_bipush (v := nI 28) dX6_mixHall_16 (by decide) ?_
    refine g_icmp_ge_n (tgt := 43) dX6_mixHall_18 (by decide) (by omega) (by omega) (fun h1 => ?_) (fun h1 => ?_)
    · exact g_loc rfl (hF _ _ _ _ _ _ _ rfl)
    · omega
  | succ n ih =>
    intro k AT CH CF CT mn cl hk
    refine g_iload_n dX6_mixHall_15 rfl ?_
    refine g_bipush (v := nI 28) dX6_mixHall_16 (by decide) ?_
    refine g_icmp_ge_n (tgt := 43) dX6_mixHall_18 (by decide) (by omega) (by omega) (fun h1 => ?_) (fun h1 => ?_)
    · omega
    refine g_aload_n dX6_mixHall_21 rfl ?_
    refine g_aload_n dX6_mixHall_22 rfl ?_
    refine g_iload_n dX6_mixHall_23 rfl ?_
    refine g_iload_n dX6_mixHall_24 rfl ?_
    refine g_iconst (v := nI 4) dX6_mixHall_25 (by decide) ?_
    refine g_idiv_n dX6_mixHall_26 (by omega) (by omega) (by omega) ?_
    refine g_iload_n dX6_mixHall_27 rfl ?_
    refine g_iconst (v := nI 4) dX6_mixHall_28 (by decide) ?_
    refine g_irem_n dX6_mixHall_29 (by omega) (by omega) (by omega) ?_
    refine g_callV_i (kX6_ofHall hX hX2 (h := h) (day := k / 4) (w := k % 4) hh (by omega) (by omega)) oX6_ofHall pX6_ofHall lX6_210 dX6_mixHall_30 rfl rfl rfl rfl rfl (Nat.le_of_ble_eq_true rfl) (Nat.le_of_ble_eq_true rfl) (by decide) (fun M' h' => ?_)
    obtain ⟨AT', CH', CF', CT', mn', cl', rfl⟩ := h'
    refine g_i2l dX6_mixHall_33 ?_
    refine g_callV_v (kX6_mix (ofH X h (k / 4) (k % 4)).toInt64) oX6_mix pX6_mix lX6_242 dX6_mixHall_34 rfl rfl rfl rfl rfl (Nat.le_of_ble_eq_true rfl) (Nat.le_of_ble_eq_true rfl) (by decide) (fun M' h' => ?_)
    subst h'
    refine g_iinc_n (c := 1) dX6_mixHall_37 rfl (by decide) (by decide) ?_
    refine g_goto (tgt := 15) dX6_mixHall_40 (by decide) ?_
    exact g_loc rfl (ih (k + 1) _ _ _ _ _ _ (by omega))
theorem kX6_mixHall (hX : wf0 X) (hX1 : wf1 X) (hX2 : wf2 X) {h : Nat} (hh : h ≤ 2) : Cn mX6_mixHall 6 0 0 none [.ref 233, .int (nI h)] (mM M0 X SV SN AT CH CF CT BU PT sm ik th mn cl ln sp nu pa hs) (zv (fun M' => ∃ AT' CH' CF' CT' mn' cl', M' = mM M0 X SV SN AT' CH' CF' CT' BU PT sm ik th mn' cl' ln sp nu pa (dg3 X h hs))) := by
  refine g_aload_n dX6_mixHall_0 rfl ?_
  refine g_aload_n dX6_mixHall_1 rfl ?_
  refine g_get fX6_7 dX6_mixHall_2 rfl rfl ?_
  refine g_iconst (v := nI 5) dX6_mixHall_5 (by decide) ?_
  refine g_iload_n dX6_mixHall_6 rfl ?_
  refine g_iadd_n dX6_mixHall_7 ?_
  refine g_iald_n dX6_mixHall_8 rfl (by omega) (by decide) ?_
  refine g_i2l dX6_mixHall_9 ?_
  refine g_callV_v (kX6_mix (nI (X (5 + h))).toInt64) oX6_mix pX6_mix lX6_242 dX6_mixHall_10 rfl rfl rfl rfl rfl (Nat.le_of_ble_eq_true rfl) (Nat.le_of_ble_eq_true rfl) (by decide) (fun M' h' => ?_)
  subst h'
  refine g_iconst (v := nI 0) dX6_mixHall_13 (by decide) ?_
  refine g_istore_n dX6_mixHall_14 (by decide) ?_
  refine g_loc rfl (mh1 hX hX2 hh _ (fun h1 AT CH CF CT mn cl e1 => ?_) 28 0 AT CH CF CT mn cl (by omega))
  refine g_aload_n dX6_mixHall_43 rfl ?_
  refine g_aload_n dX6_mixHall_44 rfl ?_
  refine g_iload_n dX6_mixHall_45 rfl ?_
  refine g_iconst (v := nI 0) dX6_mixHall_46 (by decide) ?_
  refine g_iconst (v := nI 3) dX6_mixHall_47 (by decide) ?_
  refine g_callV_i (kX6_freeFrom hX (h := h) (bg := 0) (hrs := 3) hh (by omega) (by omega) (by omega)) oX6_freeFrom pX6_freeFrom lX6_219 dX6_mixHall_48 rfl rfl rfl rfl rfl (Nat.le_of_ble_eq_true rfl) (Nat.le_of_ble_eq_true rfl) (by decide) (fun M' h' => ?_)
  obtain ⟨AT', CH', CF', CT', mn', cl', rfl⟩ := h'
  refine g_i2l dX6_mixHall_51 ?_
  refine g_callV_v (kX6_mix (ffD X h 3 84 0).toInt64) oX6_mix pX6_mix lX6_242 dX6_mixHall_52 rfl rfl rfl rfl rfl (Nat.le_of_ble_eq_true rfl) (Nat.le_of_ble_eq_true rfl) (by decide) (fun M' h' => ?_)
  subst h'
  refine g_aload_n dX6_mixHall_55 rfl ?_
  refine g_aload_n dX6_mixHall_56 rfl ?_
  refine g_iload_n dX6_mixHall_57 rfl ?_
  refine g_iconst (v := nI 5) dX6_mixHall_58 (by decide) ?_
  refine g_bipush (v := nI 18) dX6_mixHall_59 (by decide) ?_
  refine g_bipush (v := nI 20) dX6_mixHall_61 (by decide) ?_
  refine g_iconst (v := nI 5) dX6_mixHall_63 (by decide) ?_
  refine g_callV_i (kX6_refusalOf hX (h := h) (day := 5) (f := 18) (t := 20) (r := 5) (by omega) (by omega) (by omega) (by omega) (by omega)) oX6_refusalOf pX6_refusalOf lX6_130 dX6_mixHall_64 rfl rfl rfl rfl rfl (Nat.le_of_ble_eq_true rfl) (Nat.le_of_ble_eq_true rfl) (by decide) (fun M' h' => ?_)
  obtain ⟨AT2, CH2, CF2, CT2, mn2, cl2, rfl⟩ := h'
  refine g_i2l dX6_mixHall_67 ?_
  refine g_callV_v (kX6_mix (nI (rfs X h 5 18 20 5)).toInt64) oX6_mix pX6_mix lX6_242 dX6_mixHall_68 rfl rfl rfl rfl rfl (Nat.le_of_ble_eq_true rfl) (Nat.le_of_ble_eq_true rfl) (by decide) (fun M' h' => ?_)
  subst h'
  refine g_aload_n dX6_mixHall_71 rfl ?_
  refine g_aload_n dX6_mixHall_72 rfl ?_
  refine g_iload_n dX6_mixHall_73 rfl ?_
  refine g_iconst (v := nI 5) dX6_mixHall_74 (by decide) ?_
  refine g_bipush (v := nI 18) dX6_mixHall_75 (by decide) ?_
  refine g_bipush (v := nI 20) dX6_mixHall_77 (by decide) ?_
  refine g_callV_i (kX6_singleRent hX1 (h := h) (day := 5) (f := 18) (t := 20) hh (by omega) (by omega) (by omega)) oX6_singleRent pX6_singleRent lX6_114 dX6_mixHall_79 rfl rfl rfl rfl rfl (Nat.le_of_ble_eq_true rfl) (Nat.le_of_ble_eq_true rfl) (by decide) (fun M' h' => ?_)
  subst h'
  refine g_i2l dX6_mixHall_82 ?_
  refine g_callV_v (kX6_mix (nI (sRent X h 5 18 20)).toInt64) oX6_mix pX6_mix lX6_242 dX6_mixHall_83 rfl rfl rfl rfl rfl (Nat.le_of_ble_eq_true rfl) (Nat.le_of_ble_eq_true rfl) (by decide) (fun M' h' => ?_)
  subst h'
  refine g_aload_n dX6_mixHall_86 rfl ?_
  refine g_aload_n dX6_mixHall_87 rfl ?_
  refine g_iload_n dX6_mixHall_88 rfl ?_
  refine g_callV_d (kX6_share hX hX2 hh) oX6_share pX6_share lX6_227 dX6_mixHall_89 rfl rfl rfl rfl rfl (Nat.le_of_ble_eq_true rfl) (Nat.le_of_ble_eq_true rfl) (by decide) (fun M' h' => ?_)
  obtain ⟨AT3, CH3, CF3, CT3, mn3, cl3, rfl⟩ := h'
  refine g_callS_j (kJd_bits (z2016 (nI (shN X h 84)))) oJxe99ae_doubleToLongBits_ccdee pJxe99ae_doubleToLongBits_ccdee lX6_246 dX6_mixHall_92 rfl rfl (Nat.le_of_ble_eq_true rfl) (Nat.le_of_ble_eq_true rfl) (by decide) (fun M' h' => ?_)
  subst h'
  refine g_callV_v (kX6_mix (shD X h).toInt64) oX6_mix pX6_mix lX6_242 dX6_mixHall_95 rfl rfl rfl rfl rfl (Nat.le_of_ble_eq_true rfl) (Nat.le_of_ble_eq_true rfl) (by decide) (fun M' h' => ?_)
  subst h'
  subst e1
  exact g_return dX6_mixHall_98 rfl ⟨rfl, rfl, AT3, CH3, CF3, CT3, mn3, cl3, rfl⟩
theorem dgc1 (hX : wf0 X) (F : zP) (hF : ∀ hs', hs' = dg1 X sm hs → G mX6_digest 7 0 0 none 36 [(0, .ref 233)] [] (mM M0 X SV SN AT CH CF CT BU PT sm ik th mn cl ln sp nu pa hs') F) : ∀ n k, k + n = 13 → G mX6_digest 7 0 0 none 14 [(0, .ref 233), (1, .int (nI k))] [] (mM M0 X SV SN AT CH CF CT BU PT sm ik th mn cl ln sp nu pa (mxN (fun w => (nI (cnt0 X sm w)).toInt64) k hs)) F := by
  intro n
  induction n with
  | zero =>
    intro k hk
    have : k = 13 := by omega
    subst this
    refine g_iload_n dX6_digest_14 rfl ?_
    refine g_bipush (v := nI 13) dX6_digest_15 (by decide) ?_
    refine g_icmp_ge_n (tgt := 36) dX6_digest_17 (by decide) (by omega) (by omega) (fun h1 => ?_) (fun h1 => ?_)
    · exact g_loc rfl (hF _ rfl)
    · omega
  | succ n ih =>
    intro k hk
    refine g_iload_n dX6_digest_14 rfl ?_
    refine g_bipush (v := nI 13) dX6_digest_15 (by decide) ?_
    refine g_icmp_ge_n (tgt := 36) dX6_digest_17 (by decide) (by omega) (by omega) (fun h1 => ?_) (fun h1 => ?_)
    · omega
    refine g_aload_n dX6_digest_20 rfl ?_
    refine g_aload_n dX6_digest_21 rfl ?_
    refine g_iload_n dX6_digest_22 rfl ?_
    refine g_callV_i (kX6_count0 hX (w := k) (by omega)) oX6_count0 pX6_count0 lX6_216 dX6_digest_23 rfl rfl rfl rfl rfl (Nat.le_of_ble_eq_true rfl) (Nat.le_of_ble_eq_true rfl) (by decide) (fun M' h' => ?_)
    subst h'
    refine g_i2l dX6_digest_26 ?_
    refine g_callV_v (kX6_mix (nI (cnt0 X sm k)).toInt64) oX6_mix pX6_mix lX6_242 dX6_digest_27 rfl rfl rfl rfl rfl (Nat.le_of_ble_eq_true rfl) (Nat.le_of_ble_eq_true rfl) (by decide) (fun M' h' => ?_)
    subst h'
    refine g_iinc_n (c := 1) dX6_digest_30 rfl (by decide) (by decide) ?_
    refine g_goto (tgt := 14) dX6_digest_33 (by decide) ?_
    exact g_loc rfl (ih (k + 1) (by omega))
theorem dgc3 (hX : wf0 X) (hX1 : wf1 X) (hX2 : wf2 X) (F : zP) (hF : ∀ hs' AT CH CF CT mn cl, hs' = dg3N X 3 hs → G mX6_digest 7 0 0 none 58 [(0, .ref 233)] [] (mM M0 X SV SN AT CH CF CT BU PT sm ik th mn cl ln sp nu pa hs') F) : ∀ n k AT CH CF CT mn cl, k + n = 3 → G mX6_digest 7 0 0 none 42 [(0, .ref 233), (1, .int (nI k))] [] (mM M0 X SV SN AT CH CF CT BU PT sm ik th mn cl ln sp nu pa (dg3N X k hs)) F := by
  intro n
  induction n with
  | zero =>
    intro k AT CH CF CT mn cl hk
    have : k = 3 := by omega
    subst this
    refine g_iload_n dX6_digest_42 rfl ?_
    refine g_iconst (v := nI 3) dX6_digest_43 (by decide) ?_
    refine g_icmp_ge_n (tgt := 58) dX6_digest_44 (by decide) (by omega) (by omega) (fun h1 => ?_) (fun h1 => ?_)
    · exact g_loc rfl (hF _ _ _ _ _ _ _ rfl)
    · omega
  | succ n ih =>
    intro k AT CH CF CT mn cl hk
    refine g_iload_n dX6_digest_42 rfl ?_
    refine g_iconst (v := nI 3) dX6_digest_43 (by decide) ?_
    refine g_icmp_ge_n (tgt := 58) dX6_digest_44 (by decide) (by omega) (by omega) (fun h1 => ?_) (fun h1 => ?_)
    · omega
    refine g_aload_n dX6_digest_47 rfl ?_
    refine g_iload_n dX6_digest_48 rfl ?_
    refine g_callV_v (kX6_mixHall hX hX1 hX2 (h := k) (by omega)) oX6_mixHall pX6_mixHall lX6_257 dX6_digest_49 rfl rfl rfl rfl rfl (Nat.le_of_ble_eq_true rfl) (Nat.le_of_ble_eq_true rfl) (by decide) (fun M' h' => ?_)
    obtain ⟨AT', CH', CF', CT', mn', cl', rfl⟩ := h'
    refine g_iinc_n (c := 1) dX6_digest_52 rfl (by decide) (by decide) ?_
    refine g_goto (tgt := 42) dX6_digest_55 (by decide) ?_
    exact g_loc rfl (ih (k + 1) _ _ _ _ _ _ (by omega))
theorem dgc4 (hl : ln ≤ 60) (F : zP) (hF : ∀ hs', hs' = mxN (fun j => (nI (BU j)).toInt64) ln hs → F (mM M0 X SV SN AT CH CF CT BU PT sm ik th mn cl ln sp nu pa hs') none (.inl (some (.long hs')))) : ∀ n k, k + n = ln → G mX6_digest 7 0 0 none 90 [(0, .ref 233), (1, .int (nI k))] [] (mM M0 X SV SN AT CH CF CT BU PT sm ik th mn cl ln sp nu pa (mxN (fun j => (nI (BU j)).toInt64) k hs)) F := by
  intro n
  induction n with
  | zero =>
    intro k hk
    have : k = ln := by omega
    subst this
    refine g_iload_n dX6_digest_90 rfl ?_
    refine g_aload_n dX6_digest_91 rfl ?_
    refine g_get fX6_170 dX6_digest_92 rfl rfl ?_
    refine g_icmp_ge_n (tgt := 115) dX6_digest_95 (by decide) (by omega) (by omega) (fun h1 => ?_) (fun h1 => ?_)
    · refine g_aload_n dX6_digest_115 rfl ?_
      refine g_get fX6_238 dX6_digest_116 rfl rfl ?_
      exact g_lreturn dX6_digest_119 rfl (hF _ rfl)
    · omega
  | succ n ih =>
    intro k hk
    refine g_iload_n dX6_digest_90 rfl ?_
    refine g_aload_n dX6_digest_91 rfl ?_
    refine g_get fX6_170 dX6_digest_92 rfl rfl ?_
    refine g_icmp_ge_n (tgt := 115) dX6_digest_95 (by decide) (by omega) (by omega) (fun h1 => ?_) (fun h1 => ?_)
    · omega
    refine g_aload_n dX6_digest_98 rfl ?_
    refine g_aload_n dX6_digest_99 rfl ?_
    refine g_get fX6_31 dX6_digest_100 rfl rfl ?_
    refine g_iload_n dX6_digest_103 rfl ?_
    refine g_iald_n dX6_digest_104 rfl (by omega) (by decide) ?_
    refine g_i2l dX6_digest_105 ?_
    refine g_callV_v (kX6_mix (nI (BU k)).toInt64) oX6_mix pX6_mix lX6_242 dX6_digest_106 rfl rfl rfl rfl rfl (Nat.le_of_ble_eq_true rfl) (Nat.le_of_ble_eq_true rfl) (by decide) (fun M' h' => ?_)
    subst h'
    refine g_iinc_n (c := 1) dX6_digest_109 rfl (by decide) (by decide) ?_
    refine g_goto (tgt := 90) dX6_digest_112 (by decide) ?_
    exact g_loc rfl (ih (k + 1) (by omega))
theorem kX6_digest (hX : wf0 X) (hX1 : wf1 X) (hX2 : wf2 X) (hb : ∀ n, n < 20 → oT X (nI n) 2 < 2 ^ 31) (hl : ln ≤ 60) : Cn mX6_digest 7 0 0 none [.ref 233] (mM M0 X SV SN AT CH CF CT BU PT sm ik th mn cl ln sp nu pa hs) (zj (dgA X BU sm ln) (fun M' => ∃ AT' CH' CF' CT' mn' cl', M' = mM M0 X SV SN AT' CH' CF' CT' BU PT sm ik 0 mn' cl' ln sp nu pa (dgA X BU sm ln))) := by
  refine g_aload_n dX6_digest_0 rfl ?_
  refine g_iconst (v := nI 0) dX6_digest_1 (by decide) ?_
  refine g_mput_thrown fX6_37 dX6_digest_2 ?_
  refine g_aload_n dX6_digest_5 rfl ?_
  refine g_ldcl dX6_digest_6 q1255 ?_
  refine g_mput_hash fX6_238 dX6_digest_9 ?_
  refine g_iconst (v := nI 0) dX6_digest_12 (by decide) ?_
  refine g_istore_n dX6_digest_13 (by decide) ?_
  refine g_loc rfl (dgc1 hX _ (fun h1 e1 => ?_) 13 0 (by omega))
  refine g_aload_n dX6_digest_36 rfl ?_
  refine g_callV_v (kX6_mixLets hX) oX6_mixLets pX6_mixLets lX6_254 dX6_digest_37 rfl rfl rfl rfl rfl (Nat.le_of_ble_eq_true rfl) (Nat.le_of_ble_eq_true rfl) (by decide) (fun M' h' => ?_)
  subst h'
  refine g_iconst (v := nI 0) dX6_digest_40 (by decide) ?_
  refine g_istore_n dX6_digest_41 (by decide) ?_
  refine g_loc rfl (dgc3 hX hX1 hX2 _ (fun h3 AT CH CF CT mn cl e3 => ?_) 3 0 AT CH CF CT mn cl (by omega))
  refine g_aload_n dX6_digest_58 rfl ?_
  refine g_aload_n dX6_digest_59 rfl ?_
  refine g_callV_i (kX6_bestTenant hX hb) oX6_bestTenant pX6_bestTenant lX6_222 dX6_digest_60 rfl rfl rfl rfl rfl (Nat.le_of_ble_eq_true rfl) (Nat.le_of_ble_eq_true rfl) (by decide) (fun M' h' => ?_)
  subst h'
  refine g_i2l dX6_digest_63 ?_
  refine g_callV_v (kX6_mix (btN X 20).1.toInt64) oX6_mix pX6_mix lX6_242 dX6_digest_64 rfl rfl rfl rfl rfl (Nat.le_of_ble_eq_true rfl) (Nat.le_of_ble_eq_true rfl) (by decide) (fun M' h' => ?_)
  subst h'
  refine g_aload_n dX6_digest_67 rfl ?_
  refine g_aload_n dX6_digest_68 rfl ?_
  refine g_callV_g (kX6_mean hX) oX6_mean pX6_mean lX6_232 dX6_digest_69 rfl rfl rfl rfl rfl (Nat.le_of_ble_eq_true rfl) (Nat.le_of_ble_eq_true rfl) (by decide) (fun M' h' => ?_)
  subst h'
  refine g_callSF_i (kJf_bits (z84 (nI (oT X (-1) 2)))) oJxf58ca_floatToIntBits_5c35a pJxf58ca_floatToIntBits_5c35a lX6_260 dX6_digest_72 rfl rfl (Nat.le_of_ble_eq_true rfl) (Nat.le_of_ble_eq_true rfl) (by decide) (fun M' h' => ?_)
  subst h'
  refine g_i2l dX6_digest_75 ?_
  refine g_callV_v (kX6_mix (mnF X).toInt32.toInt64) oX6_mix pX6_mix lX6_242 dX6_digest_76 rfl rfl rfl rfl rfl (Nat.le_of_ble_eq_true rfl) (Nat.le_of_ble_eq_true rfl) (by decide) (fun M' h' => ?_)
  subst h'
  refine g_aload_n dX6_digest_79 rfl ?_
  refine g_aload_n dX6_digest_80 rfl ?_
  refine g_get fX6_170 dX6_digest_81 rfl rfl ?_
  refine g_i2l dX6_digest_84 ?_
  refine g_callV_v (kX6_mix (nI ln).toInt64) oX6_mix pX6_mix lX6_242 dX6_digest_85 rfl rfl rfl rfl rfl (Nat.le_of_ble_eq_true rfl) (Nat.le_of_ble_eq_true rfl) (by decide) (fun M' h' => ?_)
  subst h'
  refine g_iconst (v := nI 0) dX6_digest_88 (by decide) ?_
  refine g_istore_n dX6_digest_89 (by decide) ?_
  refine g_loc rfl (dgc4 hl _ (fun h4 e4 => ?_) ln 0 (by omega))
  subst e1
  subst e3
  have e5 : h4 = dgA X BU sm ln := e4
  subst e5
  exact ⟨rfl, rfl, AT, CH, CF, CT, mn, cl, rfl⟩
end MOD17
