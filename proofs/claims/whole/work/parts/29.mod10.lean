/-! the reference: tenants, counts, what would be -/
theorem nI_m1 {n : Nat} (h : n < 2 ^ 31) : ¬ nI n = -1 := fun e => by
  have h1 := nI_pos h
  rw [e] at h1
  exact h1 (by decide)
section MOD10
variable {M0 : zM} {X SV SN AT CH CF CT BU PT : Nat → Nat} {sm ik th mn cl ln sp nu pa : Nat} {hs : Int64}
theorem ot1 (hX : wf0 X) {w : Nat} {te : Int32} (hw : w ≤ 2) (F : zP) (hk : G mX6_ofTenant 3 0 0 none 87 [(0, .ref 233), (1, .int te), (2, .int (nI w)), (3, .int (nI (otR X te w (X 11))))] [] (mM M0 X SV SN AT CH CF CT BU PT sm ik th mn cl ln sp nu pa hs) F) : ∀ n k, k + n = X 11 → G mX6_ofTenant 3 0 0 none 5 [(0, .ref 233), (1, .int te), (2, .int (nI w)), (3, .int (nI (otR X te w k))), (4, .int (nI k))] [] (mM M0 X SV SN AT CH CF CT BU PT sm ik th mn cl ln sp nu pa hs) F := by
  have h8 := hX.2.1
  intro n
  induction n with
  | zero =>
    intro k hkn
    have : k = X 11 := by omega
    subst this
    refine g_iload dX6_ofTenant_5 rfl ?_
    refine g_aload_n dX6_ofTenant_7 rfl ?_
    refine g_get fX6_7 dX6_ofTenant_8 rfl rfl ?_
    refine g_bipush (v := nI 11) dX6_ofTenant_11 (by decide) ?_
    refine g_iald_n dX6_ofTenant_13 rfl (by omega) (by decide) ?_
    refine g_icmp_ge_n (tgt := 87) dX6_ofTenant_14 (by decide) (by omega) (by omega) (fun h1 => ?_) (fun h1 => ?_)
    · exact g_loc rfl hk
    · omega
  | succ n ih =>
    intro k hkn
    have add : ∀ b, b = (bif tqB te (X (12 + 10 * k + 5)) then ownR X w k else 0) → G mX6_ofTenant 3 0 0 none 79 [(0, .ref 233), (1, .int te), (2, .int (nI w)), (3, .int (nI (otR X te w k))), (4, .int (nI k))] [.int (nI b), .int (nI (otR X te w k))] (mM M0 X SV SN AT CH CF CT BU PT sm ik th mn cl ln sp nu pa hs) F := fun b hb => by
      refine g_iadd_n dX6_ofTenant_79 ?_
      refine g_istore_n dX6_ofTenant_80 (by decide) ?_
      refine g_iinc_n (c := 1) dX6_ofTenant_81 rfl (by decide) (by decide) ?_
      refine g_goto (tgt := 5) dX6_ofTenant_84 (by decide) ?_
      have := ih (k + 1) (by omega)
      unfold otR at this
      rw [← hb] at this
      exact g_loc rfl this
    have fin : ∀ o, o = ownR X w k → G mX6_ofTenant 3 0 0 none 54 [(0, .ref 233), (1, .int te), (2, .int (nI w)), (3, .int (nI (otR X te w k))), (4, .int (nI k))] [.int (nI o)] (mM M0 X SV SN AT CH CF CT BU PT sm ik th mn cl ln sp nu pa hs) F := fun o ho => by
      refine g_istore dX6_ofTenant_54 (by decide) ?_
      refine g_iload_n dX6_ofTenant_56 rfl ?_
      refine g_iload_n dX6_ofTenant_57 rfl ?_
      refine g_iconst (v := (-1)) dX6_ofTenant_58 (by decide) ?_
      refine g_icmp_eq (tgt := 73) dX6_ofTenant_59 (by decide) (fun h2 => ?_) (fun h2 => ?_)
      · refine g_iload dX6_ofTenant_73 rfl ?_
        refine g_goto (tgt := 79) dX6_ofTenant_75 (by decide) ?_
        exact g_loc rfl (add o (by rw [ho]; simp [tqB, h2]))
      refine g_aload_n dX6_ofTenant_62 rfl ?_
      refine g_iload dX6_ofTenant_63 rfl ?_
      refine g_iconst (v := nI 5) dX6_ofTenant_65 (by decide) ?_
      refine g_callV_i (kX6_weekly (i := k) (w := 5) (by omega)) oX6_weekly pX6_weekly lX6_63 dX6_ofTenant_66 rfl rfl rfl rfl rfl (Nat.le_of_ble_eq_true rfl) (Nat.le_of_ble_eq_true rfl) (by decide) (fun M' h' => ?_)
      subst h'
      refine g_iload_n dX6_ofTenant_69 rfl ?_
      refine g_icmp_ne (tgt := 78) dX6_ofTenant_70 (by decide) (fun h3 => ?_) (fun h3 => ?_)
      · refine g_iconst (v := nI 0) dX6_ofTenant_78 (by decide) ?_
        exact g_loc rfl (add 0 (by simp [tqB, h2, h3]))
      · refine g_iload dX6_ofTenant_73 rfl ?_
        refine g_goto (tgt := 79) dX6_ofTenant_75 (by decide) ?_
        exact g_loc rfl (add o (by rw [ho]; simp [tqB, h3]))
    refine g_iload dX6_ofTenant_5 rfl ?_
    refine g_aload_n dX6_ofTenant_7 rfl ?_
    refine g_get fX6_7 dX6_ofTenant_8 rfl rfl ?_
    refine g_bipush (v := nI 11) dX6_ofTenant_11 (by decide) ?_
    refine g_iald_n dX6_ofTenant_13 rfl (by omega) (by decide) ?_
    refine g_icmp_ge_n (tgt := 87) dX6_ofTenant_14 (by decide) (by omega) (by omega) (fun h1 => ?_) (fun h1 => ?_)
    · omega
    refine g_iload_n dX6_ofTenant_17 rfl ?_
    refine g_if_ne_n (tgt := 25) dX6_ofTenant_18 (by decide) (by omega) (fun h2 => ?_) (fun h2 => ?_)
    · refine g_iload_n dX6_ofTenant_25 rfl ?_
      refine g_iconst (v := nI 1) dX6_ofTenant_26 (by decide) ?_
      refine g_icmp_ne_n (tgt := 39) dX6_ofTenant_27 (by decide) (by omega) (by omega) (fun h3 => ?_) (fun h3 => ?_)
      · refine g_aload_n dX6_ofTenant_39 rfl ?_
        refine g_iload dX6_ofTenant_40 rfl ?_
        refine g_callV_i (kX6_daysOf hX (i := k) (by omega)) oX6_daysOf pX6_daysOf lX6_149 dX6_ofTenant_42 rfl rfl rfl rfl rfl (Nat.le_of_ble_eq_true rfl) (Nat.le_of_ble_eq_true rfl) (by decide) (fun M' h' => ?_)
        subst h'
        refine g_aload_n dX6_ofTenant_45 rfl ?_
        refine g_iload dX6_ofTenant_46 rfl ?_
        refine g_bipush (v := nI 6) dX6_ofTenant_48 (by decide) ?_
        refine g_callV_i (kX6_weekly (i := k) (w := 6) (by omega)) oX6_weekly pX6_weekly lX6_63 dX6_ofTenant_50 rfl rfl rfl rfl rfl (Nat.le_of_ble_eq_true rfl) (Nat.le_of_ble_eq_true rfl) (by decide) (fun M' h' => ?_)
        subst h'
        refine g_imul_n dX6_ofTenant_53 ?_
        exact g_loc rfl (fin _ (by rw [ownR, if_neg h2, if_neg h3]))
      · refine g_aload_n dX6_ofTenant_30 rfl ?_
        refine g_iload dX6_ofTenant_31 rfl ?_
        refine g_callV_i (kX6_daysOf hX (i := k) (by omega)) oX6_daysOf pX6_daysOf lX6_149 dX6_ofTenant_33 rfl rfl rfl rfl rfl (Nat.le_of_ble_eq_true rfl) (Nat.le_of_ble_eq_true rfl) (by decide) (fun M' h' => ?_)
        subst h'
        refine g_goto (tgt := 54) dX6_ofTenant_36 (by decide) ?_
        exact g_loc rfl (fin _ (by rw [ownR, if_neg h2, if_pos h3]))
    · refine g_iconst (v := nI 1) dX6_ofTenant_21 (by decide) ?_
      refine g_goto (tgt := 54) dX6_ofTenant_22 (by decide) ?_
      exact g_loc rfl (fin _ (by rw [ownR, if_pos h2]))
theorem ot2 (hX : wf0 X) {w : Nat} {te : Int32} (hw : w ≤ 2) {a : Nat} (F : zP) (hk : G mX6_ofTenant 3 0 0 none 152 [(0, .ref 233), (3, .int (nI (a + otS X te w (X 92))))] [] (mM M0 X SV SN AT CH CF CT BU PT sm ik th mn cl ln sp nu pa hs) F) : ∀ n k, k + n = X 92 → G mX6_ofTenant 3 0 0 none 90 [(0, .ref 233), (1, .int te), (2, .int (nI w)), (3, .int (nI (a + otS X te w k))), (4, .int (nI k))] [] (mM M0 X SV SN AT CH CF CT BU PT sm ik th mn cl ln sp nu pa hs) F := by
  have h8 := hX.2.2
  intro n
  induction n with
  | zero =>
    intro k hkn
    have : k = X 92 := by omega
    subst this
    refine g_iload dX6_ofTenant_90 rfl ?_
    refine g_aload_n dX6_ofTenant_92 rfl ?_
    refine g_get fX6_7 dX6_ofTenant_93 rfl rfl ?_
    refine g_bipush (v := nI 92) dX6_ofTenant_96 (by decide) ?_
    refine g_iald_n dX6_ofTenant_98 rfl (by omega) (by decide) ?_
    refine g_icmp_ge_n (tgt := 152) dX6_ofTenant_99 (by decide) (by omega) (by omega) (fun h1 => ?_) (fun h1 => ?_)
    · exact g_loc rfl hk
    · omega
  | succ n ih =>
    intro k hkn
    have add : ∀ b, b = (bif tqB te (X (93 + 7 * k + 5)) then ownS X w k else 0) → G mX6_ofTenant 3 0 0 none 144 [(0, .ref 233), (1, .int te), (2, .int (nI w)), (3, .int (nI (a + otS X te w k))), (4, .int (nI k))] [.int (nI b), .int (nI (a + otS X te w k))] (mM M0 X SV SN AT CH CF CT BU PT sm ik th mn cl ln sp nu pa hs) F := fun b hb => by
      refine g_iadd_n dX6_ofTenant_144 ?_
      refine g_istore_n dX6_ofTenant_145 (by decide) ?_
      refine g_iinc_n (c := 1) dX6_ofTenant_146 rfl (by decide) (by decide) ?_
      refine g_goto (tgt := 90) dX6_ofTenant_149 (by decide) ?_
      have := ih (k + 1) (by omega)
      unfold otS at this
      rw [← hb, ← Nat.add_assoc] at this
      exact g_loc rfl this
    have fin : ∀ o, o = ownS X w k → G mX6_ofTenant 3 0 0 none 119 [(0, .ref 233), (1, .int te), (2, .int (nI w)), (3, .int (nI (a + otS X te w k))), (4, .int (nI k))] [.int (nI o)] (mM M0 X SV SN AT CH CF CT BU PT sm ik th mn cl ln sp nu pa hs) F := fun o ho => by
      refine g_istore dX6_ofTenant_119 (by decide) ?_
      refine g_iload_n dX6_ofTenant_121 rfl ?_
      refine g_iload_n dX6_ofTenant_122 rfl ?_
      refine g_iconst (v := (-1)) dX6_ofTenant_123 (by decide) ?_
      refine g_icmp_eq (tgt := 138) dX6_ofTenant_124 (by decide) (fun h2 => ?_) (fun h2 => ?_)
      · refine g_iload dX6_ofTenant_138 rfl ?_
        refine g_goto (tgt := 144) dX6_ofTenant_140 (by decide) ?_
        exact g_loc rfl (add o (by rw [ho]; simp [tqB, h2]))
      refine g_aload_n dX6_ofTenant_127 rfl ?_
      refine g_iload dX6_ofTenant_128 rfl ?_
      refine g_iconst (v := nI 5) dX6_ofTenant_130 (by decide) ?_
      refine g_callV_i (kX6_dated (i := k) (w := 5) (by omega)) oX6_dated pX6_dated lX6_74 dX6_ofTenant_131 rfl rfl rfl rfl rfl (Nat.le_of_ble_eq_true rfl) (Nat.le_of_ble_eq_true rfl) (by decide) (fun M' h' => ?_)
      subst h'
      refine g_iload_n dX6_ofTenant_134 rfl ?_
      refine g_icmp_ne (tgt := 143) dX6_ofTenant_135 (by decide) (fun h3 => ?_) (fun h3 => ?_)
      · refine g_iconst (v := nI 0) dX6_ofTenant_143 (by decide) ?_
        exact g_loc rfl (add 0 (by simp [tqB, h2, h3]))
      · refine g_iload dX6_ofTenant_138 rfl ?_
        refine g_goto (tgt := 144) dX6_ofTenant_140 (by decide) ?_
        exact g_loc rfl (add o (by rw [ho]; simp [tqB, h3]))
    refine g_iload dX6_ofTenant_90 rfl ?_
    refine g_aload_n dX6_ofTenant_92 rfl ?_
    refine g_get fX6_7 dX6_ofTenant_93 rfl rfl ?_
    refine g_bipush (v := nI 92) dX6_ofTenant_96 (by decide) ?_
    refine g_iald_n dX6_ofTenant_98 rfl (by omega) (by decide) ?_
    refine g_icmp_ge_n (tgt := 152) dX6_ofTenant_99 (by decide) (by omega) (by omega) (fun h1 => ?_) (fun h1 => ?_)
    · omega
    refine g_iload_n dX6_ofTenant_102 rfl ?_
    refine g_iconst (v := nI 2) dX6_ofTenant_103 (by decide) ?_
    refine g_icmp_ge_n (tgt := 111) dX6_ofTenant_104 (by decide) (by omega) (by omega) (fun h2 => ?_) (fun h2 => ?_)
    · refine g_aload_n dX6_ofTenant_111 rfl ?_
      refine g_iload dX6_ofTenant_112 rfl ?_
      refine g_bipush (v := nI 6) dX6_ofTenant_114 (by decide) ?_
      refine g_callV_i (kX6_dated (i := k) (w := 6) (by omega)) oX6_dated pX6_dated lX6_74 dX6_ofTenant_116 rfl rfl rfl rfl rfl (Nat.le_of_ble_eq_true rfl) (Nat.le_of_ble_eq_true rfl) (by decide) (fun M' h' => ?_)
      subst h'
      exact g_loc rfl (fin _ (by rw [ownS, if_neg (by omega)]))
    · refine g_iconst (v := nI 1) dX6_ofTenant_107 (by decide) ?_
      refine g_goto (tgt := 119) dX6_ofTenant_108 (by decide) ?_
      exact g_loc rfl (fin _ (by rw [ownS, if_pos h2]))
theorem kX6_ofTenant (hX : wf0 X) {w : Nat} {te : Int32} (hw : w ≤ 2) : Cn mX6_ofTenant 3 0 0 none [.ref 233, .int te, .int (nI w)] (mM M0 X SV SN AT CH CF CT BU PT sm ik th mn cl ln sp nu pa hs) (zpi (mM M0 X SV SN AT CH CF CT BU PT sm ik th mn cl ln sp nu pa hs) (nI (oT X te w))) := by
  refine g_iconst (v := nI 0) dX6_ofTenant_0 (by decide) ?_
  refine g_istore_n dX6_ofTenant_1 (by decide) ?_
  refine g_iconst (v := nI 0) dX6_ofTenant_2 (by decide) ?_
  refine g_istore dX6_ofTenant_3 (by decide) ?_
  refine g_loc rfl (ot1 hX hw _ ?_ (X 11) 0 (by omega))
  refine g_iconst (v := nI 0) dX6_ofTenant_87 (by decide) ?_
  refine g_istore dX6_ofTenant_88 (by decide) ?_
  have := ot2 (M0 := M0) (SV := SV) (SN := SN) (AT := AT) (CH := CH) (CF := CF) (CT := CT) (BU := BU) (PT := PT) (sm := sm) (ik := ik) (th := th) (mn := mn) (cl := cl) (ln := ln) (sp := sp) (nu := nu) (pa := pa) (hs := hs) hX (te := te) hw (a := otR X te w (X 11)) (zpi (mM M0 X SV SN AT CH CF CT BU PT sm ik th mn cl ln sp nu pa hs) (nI (oT X te w))) (by
    refine g_iload_n dX6_ofTenant_152 rfl ?_
    exact g_ireturn dX6_ofTenant_153 rfl rfl ⟨rfl, rfl, rfl⟩) (X 92) 0 (by omega)
  exact g_loc rfl this
theorem kX6_tenant1 (v w : Int32) (h : zin v (nI 0) (nI 19) = false) : Cn mX6_tenant 4 0 0 none [.ref 233, .int v, .int w] (mM M0 X SV SN AT CH CF CT BU PT sm ik th mn cl ln sp nu pa hs) (zi (nI 0) (fun M' => M' = mM M0 X SV SN AT CH CF CT BU PT sm ik 1 mn cl ln sp nu pa hs)) := by
  refine g_aload_n dX6_tenant_0 rfl ?_
  refine g_iconst (v := nI 0) dX6_tenant_1 (by decide) ?_
  refine g_mput_thrown fX6_37 dX6_tenant_2 ?_
  refine g_iload_n dX6_tenant_5 rfl ?_
  refine g_iconst (v := nI 0) dX6_tenant_6 (by decide) ?_
  refine g_bipush (v := nI 19) dX6_tenant_7 (by decide) ?_
  refine g_callS_i (kX6_in v (nI 0) (nI 19)) oX6_in pX6_in lX6_41 dX6_tenant_9 rfl rfl (Nat.le_of_ble_eq_true rfl) (Nat.le_of_ble_eq_true rfl) (by decide) (fun M' h' => ?_)
  subst h'
  refine g_if_ne_b (tgt := 21) dX6_tenant_12 (by decide) (fun h1 => ?_) (fun h1 => ?_)
  · rw [h] at h1; cases h1
  refine g_aload_n dX6_tenant_15 rfl ?_
  refine g_iconst (v := nI 1) dX6_tenant_16 (by decide) ?_
  refine g_callV_i (kX6_fails 1) oX6_fails pX6_fails lX6_48 dX6_tenant_17 rfl rfl rfl rfl rfl (Nat.le_of_ble_eq_true rfl) (Nat.le_of_ble_eq_true rfl) (by decide) (fun M' h' => ?_)
  subst h'
  exact g_ireturn dX6_tenant_20 rfl rfl ⟨rfl, rfl, rfl⟩
theorem kX6_tenant2 (v w : Int32) (h : zin v (nI 0) (nI 19) = true) (h2 : zin w (nI 0) (nI 2) = false) : Cn mX6_tenant 4 0 0 none [.ref 233, .int v, .int w] (mM M0 X SV SN AT CH CF CT BU PT sm ik th mn cl ln sp nu pa hs) (zi (nI 0) (fun M' => M' = mM M0 X SV SN AT CH CF CT BU PT sm ik 2 mn cl ln sp nu pa hs)) := by
  refine g_aload_n dX6_tenant_0 rfl ?_
  refine g_iconst (v := nI 0) dX6_tenant_1 (by decide) ?_
  refine g_mput_thrown fX6_37 dX6_tenant_2 ?_
  refine g_iload_n dX6_tenant_5 rfl ?_
  refine g_iconst (v := nI 0) dX6_tenant_6 (by decide) ?_
  refine g_bipush (v := nI 19) dX6_tenant_7 (by decide) ?_
  refine g_callS_i (kX6_in v (nI 0) (nI 19)) oX6_in pX6_in lX6_41 dX6_tenant_9 rfl rfl (Nat.le_of_ble_eq_true rfl) (Nat.le_of_ble_eq_true rfl) (by decide) (fun M' h' => ?_)
  subst h'
  refine g_if_ne_b (tgt := 21) dX6_tenant_12 (by decide) (fun h1 => ?_) (fun h1 => ?_)
  rotate_left
  · rw [h] at h1; cases h1
  refine g_iload_n dX6_tenant_21 rfl ?_
  refine g_iconst (v := nI 0) dX6_tenant_22 (by decide) ?_
  refine g_iconst (v := nI 2) dX6_tenant_23 (by decide) ?_
  refine g_callS_i (kX6_in w (nI 0) (nI 2)) oX6_in pX6_in lX6_41 dX6_tenant_24 rfl rfl (Nat.le_of_ble_eq_true rfl) (Nat.le_of_ble_eq_true rfl) (by decide) (fun M' h' => ?_)
  subst h'
  refine g_if_eq_b (tgt := 39) dX6_tenant_27 (by decide) (fun h3 => ?_) (fun h3 => ?_)
  rotate_left
  · rw [h2] at h3; cases h3
  refine g_aload_n dX6_tenant_39 rfl ?_
  refine g_iconst (v := nI 2) dX6_tenant_40 (by decide) ?_
  refine g_callV_i (kX6_fails 2) oX6_fails pX6_fails lX6_48 dX6_tenant_41 rfl rfl rfl rfl rfl (Nat.le_of_ble_eq_true rfl) (Nat.le_of_ble_eq_true rfl) (by decide) (fun M' h' => ?_)
  subst h'
  exact g_ireturn dX6_tenant_44 rfl rfl ⟨rfl, rfl, rfl⟩
theorem kX6_tenant (hX : wf0 X) {t w : Nat} (ht : t ≤ 19) (hw : w ≤ 2) : Cn mX6_tenant 4 0 0 none [.ref 233, .int (nI t), .int (nI w)] (mM M0 X SV SN AT CH CF CT BU PT sm ik th mn cl ln sp nu pa hs) (zi (nI (oT X (nI t) w)) (fun M' => M' = mM M0 X SV SN AT CH CF CT BU PT sm ik 0 mn cl ln sp nu pa hs)) := by
  refine g_aload_n dX6_tenant_0 rfl ?_
  refine g_iconst (v := nI 0) dX6_tenant_1 (by decide) ?_
  refine g_mput_thrown fX6_37 dX6_tenant_2 ?_
  refine g_iload_n dX6_tenant_5 rfl ?_
  refine g_iconst (v := nI 0) dX6_tenant_6 (by decide) ?_
  refine g_bipush (v := nI 19) dX6_tenant_7 (by decide) ?_
  refine g_callS_i (kX6_in (nI t) (nI 0) (nI 19)) oX6_in pX6_in lX6_41 dX6_tenant_9 rfl rfl (Nat.le_of_ble_eq_true rfl) (Nat.le_of_ble_eq_true rfl) (by decide) (fun M' h' => ?_)
  subst h'
  rw [zin_t (by omega) ht (by decide)]
  refine g_if_ne_b (tgt := 21) dX6_tenant_12 (by decide) (fun h1 => ?_) (fun h1 => ?_)
  rotate_left
  · cases h1
  refine g_iload_n dX6_tenant_21 rfl ?_
  refine g_iconst (v := nI 0) dX6_tenant_22 (by decide) ?_
  refine g_iconst (v := nI 2) dX6_tenant_23 (by decide) ?_
  refine g_callS_i (kX6_in (nI w) (nI 0) (nI 2)) oX6_in pX6_in lX6_41 dX6_tenant_24 rfl rfl (Nat.le_of_ble_eq_true rfl) (Nat.le_of_ble_eq_true rfl) (by decide) (fun M' h' => ?_)
  subst h'
  rw [zin_t (by omega) hw (by decide)]
  refine g_if_eq_b (tgt := 39) dX6_tenant_27 (by decide) (fun h3 => ?_) (fun h3 => ?_)
  · cases h3
  refine g_aload_n dX6_tenant_30 rfl ?_
  refine g_iload_n dX6_tenant_31 rfl ?_
  refine g_iload_n dX6_tenant_32 rfl ?_
  refine g_callV_i (kX6_ofTenant hX (te := nI t) hw) oX6_ofTenant pX6_ofTenant lX6_213 dX6_tenant_33 rfl rfl rfl rfl rfl (Nat.le_of_ble_eq_true rfl) (Nat.le_of_ble_eq_true rfl) (by decide) (fun M' h' => ?_)
  subst h'
  refine g_goto (tgt := 44) dX6_tenant_36 (by decide) ?_
  exact g_ireturn dX6_tenant_44 rfl rfl ⟨rfl, rfl, rfl⟩
theorem kX6_count0 (hX : wf0 X) {w : Nat} (hw : w ≤ 12) : Cn mX6_count0 4 0 0 none [.ref 233, .int (nI w)] (mM M0 X SV SN AT CH CF CT BU PT sm ik th mn cl ln sp nu pa hs) (zpi (mM M0 X SV SN AT CH CF CT BU PT sm ik th mn cl ln sp nu pa hs) (nI (cnt0 X sm w))) := by
  have tail : ∀ v, 7 ≤ v → v ≤ 11 → G mX6_count0 4 0 0 none 127 (lv_args 0 [.ref 233, .int (nI v)]) [] (mM M0 X SV SN AT CH CF CT BU PT sm ik th mn cl ln sp nu pa hs) (zpi (mM M0 X SV SN AT CH CF CT BU PT sm ik th mn cl ln sp nu pa hs) (nI (cnt0 X sm v))) := fun v h1 h2 => by
    refine g_aload_n dX6_count0_127 rfl ?_
    refine g_get fX6_7 dX6_count0_128 rfl rfl ?_
    refine g_iload_n dX6_count0_131 rfl ?_
    refine g_bipush (v := nI 7) dX6_count0_132 (by decide) ?_
    refine g_isub_n dX6_count0_134 (by omega) ?_
    refine g_iald_n dX6_count0_135 rfl (by omega) (by decide) ?_
    refine g_ireturn dX6_count0_136 rfl rfl ⟨rfl, ?_, rfl⟩
    unfold cnt0
    rw [if_neg (by omega), if_neg (by omega), if_neg (by omega), if_neg (by omega), if_neg (by omega), if_neg (by omega), if_neg (by omega), if_neg (by omega)]
  refine g_iload_n dX6_count0_0 rfl ?_
  rcases (show w = 0 ∨ w = 1 ∨ w = 2 ∨ w = 3 ∨ w = 4 ∨ w = 5 ∨ w = 6 ∨ w = 12 ∨ w = 7 ∨ w = 8 ∨ w = 9 ∨ w = 10 ∨ w = 11 by omega) with rfl | rfl | rfl | rfl | rfl | rfl | rfl | rfl | rfl | rfl | rfl | rfl | rfl
  · refine g_tabIn (x := nI 0) (off := 67) (tgt := 68) dX6_count0_1 (by decide) (by decide) (by decide) (by decide) ?_
    refine g_aload_n dX6_count0_68 rfl ?_
    refine g_get fX6_7 dX6_count0_69 rfl rfl ?_
    refine g_bipush (v := nI 11) dX6_count0_72 (by decide) ?_
    refine g_iald_n dX6_count0_74 rfl (by omega) (by decide) ?_
    exact g_ireturn dX6_count0_75 rfl rfl ⟨rfl, rfl, rfl⟩
  · refine g_tabIn (x := nI 1) (off := 75) (tgt := 76) dX6_count0_1 (by decide) (by decide) (by decide) (by decide) ?_
    refine g_aload_n dX6_count0_76 rfl ?_
    refine g_get fX6_7 dX6_count0_77 rfl rfl ?_
    refine g_bipush (v := nI 92) dX6_count0_80 (by decide) ?_
    refine g_iald_n dX6_count0_82 rfl (by omega) (by decide) ?_
    exact g_ireturn dX6_count0_83 rfl rfl ⟨rfl, rfl, rfl⟩
  · refine g_tabIn (x := nI 2) (off := 83) (tgt := 84) dX6_count0_1 (by decide) (by decide) (by decide) (by decide) ?_
    refine g_aload_n dX6_count0_84 rfl ?_
    refine g_iconst (v := (-1)) dX6_count0_85 (by decide) ?_
    refine g_iconst (v := nI 1) dX6_count0_86 (by decide) ?_
    refine g_callV_i (kX6_ofTenant hX (te := -1) (w := 1) (by decide)) oX6_ofTenant pX6_ofTenant lX6_213 dX6_count0_87 rfl rfl rfl rfl rfl (Nat.le_of_ble_eq_true rfl) (Nat.le_of_ble_eq_true rfl) (by decide) (fun M' h' => ?_)
    subst h'
    exact g_ireturn dX6_count0_90 rfl rfl ⟨rfl, rfl, rfl⟩
  · refine g_tabIn (x := nI 3) (off := 90) (tgt := 91) dX6_count0_1 (by decide) (by decide) (by decide) (by decide) ?_
    refine g_aload_n dX6_count0_91 rfl ?_
    refine g_iconst (v := (-1)) dX6_count0_92 (by decide) ?_
    refine g_iconst (v := nI 2) dX6_count0_93 (by decide) ?_
    refine g_callV_i (kX6_ofTenant hX (te := -1) (w := 2) (by decide)) oX6_ofTenant pX6_ofTenant lX6_213 dX6_count0_94 rfl rfl rfl rfl rfl (Nat.le_of_ble_eq_true rfl) (Nat.le_of_ble_eq_true rfl) (by decide) (fun M' h' => ?_)
    subst h'
    exact g_ireturn dX6_count0_97 rfl rfl ⟨rfl, rfl, rfl⟩
  · refine g_tabIn (x := nI 4) (off := 97) (tgt := 98) dX6_count0_1 (by decide) (by decide) (by decide) (by decide) ?_
    refine g_aload_n dX6_count0_98 rfl ?_
    refine g_get fX6_7 dX6_count0_99 rfl rfl ?_
    refine g_bipush (v := nI 8) dX6_count0_102 (by decide) ?_
    refine g_iald_n dX6_count0_104 rfl (by omega) (by decide) ?_
    exact g_ireturn dX6_count0_105 rfl rfl ⟨rfl, rfl, rfl⟩
  · refine g_tabIn (x := nI 5) (off := 105) (tgt := 106) dX6_count0_1 (by decide) (by decide) (by decide) (by decide) ?_
    refine g_aload_n dX6_count0_106 rfl ?_
    refine g_get fX6_7 dX6_count0_107 rfl rfl ?_
    refine g_bipush (v := nI 9) dX6_count0_110 (by decide) ?_
    refine g_iald_n dX6_count0_112 rfl (by omega) (by decide) ?_
    exact g_ireturn dX6_count0_113 rfl rfl ⟨rfl, rfl, rfl⟩
  · refine g_tabIn (x := nI 6) (off := 113) (tgt := 114) dX6_count0_1 (by decide) (by decide) (by decide) (by decide) ?_
    refine g_aload_n dX6_count0_114 rfl ?_
    refine g_get fX6_7 dX6_count0_115 rfl rfl ?_
    refine g_bipush (v := nI 10) dX6_count0_118 (by decide) ?_
    refine g_iald_n dX6_count0_120 rfl (by omega) (by decide) ?_
    exact g_ireturn dX6_count0_121 rfl rfl ⟨rfl, rfl, rfl⟩
  · refine g_tabIn (x := nI 12) (off := 121) (tgt := 122) dX6_count0_1 (by decide) (by decide) (by decide) (by decide) ?_
    refine g_aload_n dX6_count0_122 rfl ?_
    refine g_get fX6_45 dX6_count0_123 rfl rfl ?_
    exact g_ireturn dX6_count0_126 rfl rfl ⟨rfl, rfl, rfl⟩
  · refine g_tabIn (x := nI 7) (off := 126) (tgt := 127) dX6_count0_1 (by decide) (by decide) (by decide) (by decide) ?_
    exact tail 7 (by decide) (by decide)
  · refine g_tabIn (x := nI 8) (off := 126) (tgt := 127) dX6_count0_1 (by decide) (by decide) (by decide) (by decide) ?_
    exact tail 8 (by decide) (by decide)
  · refine g_tabIn (x := nI 9) (off := 126) (tgt := 127) dX6_count0_1 (by decide) (by decide) (by decide) (by decide) ?_
    exact tail 9 (by decide) (by decide)
  · refine g_tabIn (x := nI 10) (off := 126) (tgt := 127) dX6_count0_1 (by decide) (by decide) (by decide) (by decide) ?_
    exact tail 10 (by decide) (by decide)
  · refine g_tabIn (x := nI 11) (off := 126) (tgt := 127) dX6_count0_1 (by decide) (by decide) (by decide) (by decide) ?_
    exact tail 11 (by decide) (by decide)
theorem kX6_count1 (v : Int32) (h : zin v (nI 0) (nI 12) = false) : Cn mX6_count 5 0 0 none [.ref 233, .int v] (mM M0 X SV SN AT CH CF CT BU PT sm ik th mn cl ln sp nu pa hs) (zi (nI 0) (fun M' => M' = mM M0 X SV SN AT CH CF CT BU PT sm ik 1 mn cl ln sp nu pa hs)) := by
  refine g_aload_n dX6_count_0 rfl ?_
  refine g_iconst (v := nI 0) dX6_count_1 (by decide) ?_
  refine g_mput_thrown fX6_37 dX6_count_2 ?_
  refine g_iload_n dX6_count_5 rfl ?_
  refine g_iconst (v := nI 0) dX6_count_6 (by decide) ?_
  refine g_bipush (v := nI 12) dX6_count_7 (by decide) ?_
  refine g_callS_i (kX6_in v (nI 0) (nI 12)) oX6_in pX6_in lX6_41 dX6_count_9 rfl rfl (Nat.le_of_ble_eq_true rfl) (Nat.le_of_ble_eq_true rfl) (by decide) (fun M' h' => ?_)
  subst h'
  refine g_if_eq_b (tgt := 23) dX6_count_12 (by decide) (fun h1 => ?_) (fun h1 => ?_)
  rotate_left
  · rw [h] at h1; cases h1
  refine g_aload_n dX6_count_23 rfl ?_
  refine g_iconst (v := nI 1) dX6_count_24 (by decide) ?_
  refine g_callV_i (kX6_fails 1) oX6_fails pX6_fails lX6_48 dX6_count_25 rfl rfl rfl rfl rfl (Nat.le_of_ble_eq_true rfl) (Nat.le_of_ble_eq_true rfl) (by decide) (fun M' h' => ?_)
  subst h'
  exact g_ireturn dX6_count_28 rfl rfl ⟨rfl, rfl, rfl⟩
theorem kX6_count (hX : wf0 X) {w : Nat} (hw : w ≤ 12) : Cn mX6_count 5 0 0 none [.ref 233, .int (nI w)] (mM M0 X SV SN AT CH CF CT BU PT sm ik th mn cl ln sp nu pa hs) (zi (nI (cnt0 X sm w)) (fun M' => M' = mM M0 X SV SN AT CH CF CT BU PT sm ik 0 mn cl ln sp nu pa hs)) := by
  refine g_aload_n dX6_count_0 rfl ?_
  refine g_iconst (v := nI 0) dX6_count_1 (by decide) ?_
  refine g_mput_thrown fX6_37 dX6_count_2 ?_
  refine g_iload_n dX6_count_5 rfl ?_
  refine g_iconst (v := nI 0) dX6_count_6 (by decide) ?_
  refine g_bipush (v := nI 12) dX6_count_7 (by decide) ?_
  refine g_callS_i (kX6_in (nI w) (nI 0) (nI 12)) oX6_in pX6_in lX6_41 dX6_count_9 rfl rfl (Nat.le_of_ble_eq_true rfl) (Nat.le_of_ble_eq_true rfl) (by decide) (fun M' h' => ?_)
  subst h'
  rw [zin_t (by omega) hw (by decide)]
  refine g_if_eq_b (tgt := 23) dX6_count_12 (by decide) (fun h1 => ?_) (fun h1 => ?_)
  · cases h1
  refine g_aload_n dX6_count_15 rfl ?_
  refine g_iload_n dX6_count_16 rfl ?_
  refine g_callV_i (kX6_count0 hX hw) oX6_count0 pX6_count0 lX6_216 dX6_count_17 rfl rfl rfl rfl rfl (Nat.le_of_ble_eq_true rfl) (Nat.le_of_ble_eq_true rfl) (by decide) (fun M' h' => ?_)
  subst h'
  refine g_goto (tgt := 28) dX6_count_20 (by decide) ?_
  exact g_ireturn dX6_count_28 rfl rfl ⟨rfl, rfl, rfl⟩
theorem kX6_refusal1 (v a b c d : Int32) (h : zin v (nI 0) (nI 2) = false) : Cn mX6_refusal 5 0 0 none [.ref 233, .int v, .int a, .int b, .int c, .int d] (mM M0 X SV SN AT CH CF CT BU PT sm ik th mn cl ln sp nu pa hs) (zi (nI 0) (fun M' => M' = mM M0 X SV SN AT CH CF CT BU PT sm ik 1 mn cl ln sp nu pa hs)) := by
  refine g_aload_n dX6_refusal_0 rfl ?_
  refine g_iconst (v := nI 0) dX6_refusal_1 (by decide) ?_
  refine g_mput_thrown fX6_37 dX6_refusal_2 ?_
  refine g_iload_n dX6_refusal_5 rfl ?_
  refine g_callS_i (kX6_isHall v) oX6_isHall pX6_isHall lX6_117 dX6_refusal_6 rfl rfl (Nat.le_of_ble_eq_true rfl) (Nat.le_of_ble_eq_true rfl) (by decide) (fun M' h' => ?_)
  subst h'
  refine g_if_ne_b (tgt := 18) dX6_refusal_9 (by decide) (fun h1 => ?_) (fun h1 => ?_)
  · rw [h] at h1; cases h1
  refine g_aload_n dX6_refusal_12 rfl ?_
  refine g_iconst (v := nI 1) dX6_refusal_13 (by decide) ?_
  refine g_callV_i (kX6_fails 1) oX6_fails pX6_fails lX6_48 dX6_refusal_14 rfl rfl rfl rfl rfl (Nat.le_of_ble_eq_true rfl) (Nat.le_of_ble_eq_true rfl) (by decide) (fun M' h' => ?_)
  subst h'
  exact g_ireturn dX6_refusal_17 rfl rfl ⟨rfl, rfl, rfl⟩
theorem kX6_refusal2 (v a b c d : Int32) (h : zin v (nI 0) (nI 2) = true) (h2 : (zin a (nI 0) (nI 83) && zhrs b c && zin d (nI 1) (nI 9)) = false) : Cn mX6_refusal 5 0 0 none [.ref 233, .int v, .int a, .int b, .int c, .int d] (mM M0 X SV SN AT CH CF CT BU PT sm ik th mn cl ln sp nu pa hs) (zi (nI 0) (fun M' => M' = mM M0 X SV SN AT CH CF CT BU PT sm ik 2 mn cl ln sp nu pa hs)) := by
  have fin : ∀ L, zl L 0 = some (.ref 233) → G mX6_refusal 5 0 0 none 59 L [] (mM M0 X SV SN AT CH CF CT BU PT sm ik 0 mn cl ln sp nu pa hs) (zi (nI 0) (fun M' => M' = mM M0 X SV SN AT CH CF CT BU PT sm ik 2 mn cl ln sp nu pa hs)) := fun L hL => by
    refine g_loc (L' := [(0, .ref 233)]) (by simp [hL]) ?_
    refine g_aload_n dX6_refusal_59 rfl ?_
    refine g_iconst (v := nI 2) dX6_refusal_60 (by decide) ?_
    refine g_callV_i (kX6_fails 2) oX6_fails pX6_fails lX6_48 dX6_refusal_61 rfl rfl rfl rfl rfl (Nat.le_of_ble_eq_true rfl) (Nat.le_of_ble_eq_true rfl) (by decide) (fun M' h' => ?_)
    subst h'
    exact g_ireturn dX6_refusal_64 rfl rfl ⟨rfl, rfl, rfl⟩
  refine g_aload_n dX6_refusal_0 rfl ?_
  refine g_iconst (v := nI 0) dX6_refusal_1 (by decide) ?_
  refine g_mput_thrown fX6_37 dX6_refusal_2 ?_
  refine g_iload_n dX6_refusal_5 rfl ?_
  refine g_callS_i (kX6_isHall v) oX6_isHall pX6_isHall lX6_117 dX6_refusal_6 rfl rfl (Nat.le_of_ble_eq_true rfl) (Nat.le_of_ble_eq_true rfl) (by decide) (fun M' h' => ?_)
  subst h'
  refine g_if_ne_b (tgt := 18) dX6_refusal_9 (by decide) (fun h1 => ?_) (fun h1 => ?_)
  rotate_left
  · rw [h] at h1; cases h1
  refine g_iload_n dX6_refusal_18 rfl ?_
  refine g_callS_i (kX6_isDay a) oX6_isDay pX6_isDay lX6_121 dX6_refusal_19 rfl rfl (Nat.le_of_ble_eq_true rfl) (Nat.le_of_ble_eq_true rfl) (by decide) (fun M' h' => ?_)
  subst h'
  refine g_if_eq_b (tgt := 59) dX6_refusal_22 (by decide) (fun h3 => ?_) (fun h3 => ?_)
  · exact fin _ rfl
  refine g_iload_n dX6_refusal_25 rfl ?_
  refine g_iload dX6_refusal_26 rfl ?_
  refine g_callS_i (kX6_areHours b c) oX6_areHours pX6_areHours lX6_124 dX6_refusal_28 rfl rfl (Nat.le_of_ble_eq_true rfl) (Nat.le_of_ble_eq_true rfl) (by decide) (fun M' h' => ?_)
  subst h'
  refine g_if_eq_b (tgt := 59) dX6_refusal_31 (by decide) (fun h4 => ?_) (fun h4 => ?_)
  · exact fin _ rfl
  refine g_iload dX6_refusal_34 rfl ?_
  refine g_iconst (v := nI 1) dX6_refusal_36 (by decide) ?_
  refine g_bipush (v := nI 9) dX6_refusal_37 (by decide) ?_
  refine g_callS_i (kX6_in d (nI 1) (nI 9)) oX6_in pX6_in lX6_41 dX6_refusal_39 rfl rfl (Nat.le_of_ble_eq_true rfl) (Nat.le_of_ble_eq_true rfl) (by decide) (fun M' h' => ?_)
  subst h'
  refine g_if_eq_b (tgt := 59) dX6_refusal_42 (by decide) (fun h5 => ?_) (fun h5 => ?_)
  · exact fin _ rfl
  · simp [h3, h4, h5] at h2
theorem kX6_refusal (hX : wf0 X) {h day f t r : Nat} (hh : h ≤ 2) (hd : day < 84) (hft : f < t) (ht : t ≤ 24) (hr : 1 ≤ r) (hr2 : r ≤ 9) : Cn mX6_refusal 5 0 0 none [.ref 233, .int (nI h), .int (nI day), .int (nI f), .int (nI t), .int (nI r)] (mM M0 X SV SN AT CH CF CT BU PT sm ik th mn cl ln sp nu pa hs) (zi (nI (rfs X h day f t r)) (fun M' => ∃ AT' CH' CF' CT' mn' cl', M' = mM M0 X SV SN AT' CH' CF' CT' BU PT sm ik 0 mn' cl' ln sp nu pa hs)) := by
  refine g_aload_n dX6_refusal_0 rfl ?_
  refine g_iconst (v := nI 0) dX6_refusal_1 (by decide) ?_
  refine g_mput_thrown fX6_37 dX6_refusal_2 ?_
  refine g_iload_n dX6_refusal_5 rfl ?_
  refine g_callS_i (kX6_isHall (nI h)) oX6_isHall pX6_isHall lX6_117 dX6_refusal_6 rfl rfl (Nat.le_of_ble_eq_true rfl) (Nat.le_of_ble_eq_true rfl) (by decide) (fun M' h' => ?_)
  subst h'
  rw [zin_t (by omega) hh (by decide)]
  refine g_if_ne_b (tgt := 18) dX6_refusal_9 (by decide) (fun h1 => ?_) (fun h1 => ?_)
  rotate_left
  · cases h1
  refine g_iload_n dX6_refusal_18 rfl ?_
  refine g_callS_i (kX6_isDay (nI day)) oX6_isDay pX6_isDay lX6_121 dX6_refusal_19 rfl rfl (Nat.le_of_ble_eq_true rfl) (Nat.le_of_ble_eq_true rfl) (by decide) (fun M' h' => ?_)
  subst h'
  rw [zin_t (by omega) (by omega) (by decide)]
  refine g_if_eq_b (tgt := 59) dX6_refusal_22 (by decide) (fun h3 => ?_) (fun h3 => ?_)
  · cases h3
  refine g_iload_n dX6_refusal_25 rfl ?_
  refine g_iload dX6_refusal_26 rfl ?_
  refine g_callS_i (kX6_areHours (nI f) (nI t)) oX6_areHours pX6_areHours lX6_124 dX6_refusal_28 rfl rfl (Nat.le_of_ble_eq_true rfl) (Nat.le_of_ble_eq_true rfl) (by decide) (fun M' h' => ?_)
  subst h'
  rw [zhrs_n hft ht]
  refine g_if_eq_b (tgt := 59) dX6_refusal_31 (by decide) (fun h4 => ?_) (fun h4 => ?_)
  · cases h4
  refine g_iload dX6_refusal_34 rfl ?_
  refine g_iconst (v := nI 1) dX6_refusal_36 (by decide) ?_
  refine g_bipush (v := nI 9) dX6_refusal_37 (by decide) ?_
  refine g_callS_i (kX6_in (nI r) (nI 1) (nI 9)) oX6_in pX6_in lX6_41 dX6_refusal_39 rfl rfl (Nat.le_of_ble_eq_true rfl) (Nat.le_of_ble_eq_true rfl) (by decide) (fun M' h' => ?_)
  subst h'
  rw [zin_t (by omega) (by omega) (by decide)]
  refine g_if_eq_b (tgt := 59) dX6_refusal_42 (by decide) (fun h5 => ?_) (fun h5 => ?_)
  · cases h5
  refine g_aload_n dX6_refusal_45 rfl ?_
  refine g_iload_n dX6_refusal_46 rfl ?_
  refine g_iload_n dX6_refusal_47 rfl ?_
  refine g_iload_n dX6_refusal_48 rfl ?_
  refine g_iload dX6_refusal_49 rfl ?_
  refine g_iload dX6_refusal_51 rfl ?_
  refine g_callV_i (kX6_refusalOf hX (h := h) (day := day) (f := f) (t := t) (r := r) hd (by omega) (by omega) (by omega) (by omega)) oX6_refusalOf pX6_refusalOf lX6_130 dX6_refusal_53 rfl rfl rfl rfl rfl (Nat.le_of_ble_eq_true rfl) (Nat.le_of_ble_eq_true rfl) (by decide) (fun M' h' => ?_)
  refine g_goto (tgt := 64) dX6_refusal_56 (by decide) ?_
  exact g_ireturn dX6_refusal_64 rfl rfl ⟨rfl, rfl, h'⟩
theorem kX6_price1 (v a b c : Int32) (h : zin v (nI 0) (nI 2) = false) : Cn mX6_price 2 0 0 none [.ref 233, .int v, .int a, .int b, .int c] (mM M0 X SV SN AT CH CF CT BU PT sm ik th mn cl ln sp nu pa hs) (zi (nI 0) (fun M' => M' = mM M0 X SV SN AT CH CF CT BU PT sm ik 1 mn cl ln sp nu pa hs)) := by
  refine g_aload_n dX6_price_0 rfl ?_
  refine g_iconst (v := nI 0) dX6_price_1 (by decide) ?_
  refine g_mput_thrown fX6_37 dX6_price_2 ?_
  refine g_iload_n dX6_price_5 rfl ?_
  refine g_callS_i (kX6_isHall v) oX6_isHall pX6_isHall lX6_117 dX6_price_6 rfl rfl (Nat.le_of_ble_eq_true rfl) (Nat.le_of_ble_eq_true rfl) (by decide) (fun M' h' => ?_)
  subst h'
  refine g_if_ne_b (tgt := 18) dX6_price_9 (by decide) (fun h1 => ?_) (fun h1 => ?_)
  · rw [h] at h1; cases h1
  refine g_aload_n dX6_price_12 rfl ?_
  refine g_iconst (v := nI 1) dX6_price_13 (by decide) ?_
  refine g_callV_i (kX6_fails 1) oX6_fails pX6_fails lX6_48 dX6_price_14 rfl rfl rfl rfl rfl (Nat.le_of_ble_eq_true rfl) (Nat.le_of_ble_eq_true rfl) (by decide) (fun M' h' => ?_)
  subst h'
  exact g_ireturn dX6_price_17 rfl rfl ⟨rfl, rfl, rfl⟩
theorem kX6_price2 (v a b c : Int32) (h : zin v (nI 0) (nI 2) = true) (h2 : (zin a (nI 0) (nI 83) && zhrs b c) = false) : Cn mX6_price 2 0 0 none [.ref 233, .int v, .int a, .int b, .int c] (mM M0 X SV SN AT CH CF CT BU PT sm ik th mn cl ln sp nu pa hs) (zi (nI 0) (fun M' => M' = mM M0 X SV SN AT CH CF CT BU PT sm ik 2 mn cl ln sp nu pa hs)) := by
  have fin : ∀ L, zl L 0 = some (.ref 233) → G mX6_price 2 0 0 none 46 L [] (mM M0 X SV SN AT CH CF CT BU PT sm ik 0 mn cl ln sp nu pa hs) (zi (nI 0) (fun M' => M' = mM M0 X SV SN AT CH CF CT BU PT sm ik 2 mn cl ln sp nu pa hs)) := fun L hL => by
    refine g_loc (L' := [(0, .ref 233)]) (by simp [hL]) ?_
    refine g_aload_n dX6_price_46 rfl ?_
    refine g_iconst (v := nI 2) dX6_price_47 (by decide) ?_
    refine g_callV_i (kX6_fails 2) oX6_fails pX6_fails lX6_48 dX6_price_48 rfl rfl rfl rfl rfl (Nat.le_of_ble_eq_true rfl) (Nat.le_of_ble_eq_true rfl) (by decide) (fun M' h' => ?_)
    subst h'
    exact g_ireturn dX6_price_51 rfl rfl ⟨rfl, rfl, rfl⟩
  refine g_aload_n dX6_price_0 rfl ?_
  refine g_iconst (v := nI 0) dX6_price_1 (by decide) ?_
  refine g_mput_thrown fX6_37 dX6_price_2 ?_
  refine g_iload_n dX6_price_5 rfl ?_
  refine g_callS_i (kX6_isHall v) oX6_isHall pX6_isHall lX6_117 dX6_price_6 rfl rfl (Nat.le_of_ble_eq_true rfl) (Nat.le_of_ble_eq_true rfl) (by decide) (fun M' h' => ?_)
  subst h'
  refine g_if_ne_b (tgt := 18) dX6_price_9 (by decide) (fun h1 => ?_) (fun h1 => ?_)
  rotate_left
  · rw [h] at h1; cases h1
  refine g_iload_n dX6_price_18 rfl ?_
  refine g_callS_i (kX6_isDay a) oX6_isDay pX6_isDay lX6_121 dX6_price_19 rfl rfl (Nat.le_of_ble_eq_true rfl) (Nat.le_of_ble_eq_true rfl) (by decide) (fun M' h' => ?_)
  subst h'
  refine g_if_eq_b (tgt := 46) dX6_price_22 (by decide) (fun h3 => ?_) (fun h3 => ?_)
  · exact fin _ rfl
  refine g_iload_n dX6_price_25 rfl ?_
  refine g_iload dX6_price_26 rfl ?_
  refine g_callS_i (kX6_areHours b c) oX6_areHours pX6_areHours lX6_124 dX6_price_28 rfl rfl (Nat.le_of_ble_eq_true rfl) (Nat.le_of_ble_eq_true rfl) (by decide) (fun M' h' => ?_)
  subst h'
  refine g_if_eq_b (tgt := 46) dX6_price_31 (by decide) (fun h4 => ?_) (fun h4 => ?_)
  · exact fin _ rfl
  · simp [h3, h4] at h2
theorem kX6_price (hX : wf1 X) {h day f t : Nat} (hh : h ≤ 2) (hd : day < 84) (hft : f < t) (ht : t ≤ 24) : Cn mX6_price 2 0 0 none [.ref 233, .int (nI h), .int (nI day), .int (nI f), .int (nI t)] (mM M0 X SV SN AT CH CF CT BU PT sm ik th mn cl ln sp nu pa hs) (zi (nI (sRent X h day f t)) (fun M' => M' = mM M0 X SV SN AT CH CF CT BU PT sm ik 0 mn cl ln sp nu pa hs)) := by
  refine g_aload_n dX6_price_0 rfl ?_
  refine g_iconst (v := nI 0) dX6_price_1 (by decide) ?_
  refine g_mput_thrown fX6_37 dX6_price_2 ?_
  refine g_iload_n dX6_price_5 rfl ?_
  refine g_callS_i (kX6_isHall (nI h)) oX6_isHall pX6_isHall lX6_117 dX6_price_6 rfl rfl (Nat.le_of_ble_eq_true rfl) (Nat.le_of_ble_eq_true rfl) (by decide) (fun M' h' => ?_)
  subst h'
  rw [zin_t (by omega) hh (by decide)]
  refine g_if_ne_b (tgt := 18) dX6_price_9 (by decide) (fun h1 => ?_) (fun h1 => ?_)
  rotate_left
  · cases h1
  refine g_iload_n dX6_price_18 rfl ?_
  refine g_callS_i (kX6_isDay (nI day)) oX6_isDay pX6_isDay lX6_121 dX6_price_19 rfl rfl (Nat.le_of_ble_eq_true rfl) (Nat.le_of_ble_eq_true rfl) (by decide) (fun M' h' => ?_)
  subst h'
  rw [zin_t (by omega) (by omega) (by decide)]
  refine g_if_eq_b (tgt := 46) dX6_price_22 (by decide) (fun h3 => ?_) (fun h3 => ?_)
  · cases h3
  refine g_iload_n dX6_price_25 rfl ?_
  refine g_iload dX6_price_26 rfl ?_
  refine g_callS_i (kX6_areHours (nI f) (nI t)) oX6_areHours pX6_areHours lX6_124 dX6_price_28 rfl rfl (Nat.le_of_ble_eq_true rfl) (Nat.le_of_ble_eq_true rfl) (by decide) (fun M' h' => ?_)
  subst h'
  rw [zhrs_n hft ht]
  refine g_if_eq_b (tgt := 46) dX6_price_31 (by decide) (fun h4 => ?_) (fun h4 => ?_)
  · cases h4
  refine g_aload_n dX6_price_34 rfl ?_
  refine g_iload_n dX6_price_35 rfl ?_
  refine g_iload_n dX6_price_36 rfl ?_
  refine g_iload_n dX6_price_37 rfl ?_
  refine g_iload dX6_price_38 rfl ?_
  refine g_callV_i (kX6_singleRent hX hh hd (by omega) ht) oX6_singleRent pX6_singleRent lX6_114 dX6_price_40 rfl rfl rfl rfl rfl (Nat.le_of_ble_eq_true rfl) (Nat.le_of_ble_eq_true rfl) (by decide) (fun M' h' => ?_)
  subst h'
  refine g_goto (tgt := 51) dX6_price_43 (by decide) ?_
  exact g_ireturn dX6_price_51 rfl rfl ⟨rfl, rfl, rfl⟩
theorem ff1 (hX : wf0 X) {h bg hrs day : Nat} (hh : h ≤ 2) (hd : day < 84) (h1 : 1 ≤ hrs) (h24 : hrs ≤ 24) (F : zP) (hsome : ∀ v AT CH CF CT mn cl, ffH X h hrs day 25 0 = some v → F (mM M0 X SV SN AT CH CF CT BU PT sm ik th mn cl ln sp nu pa hs) none (.inl (some (.int (nI v))))) (hnone : ∀ AT CH CF CT mn cl, ffH X h hrs day 25 0 = none → G mX6_freeFrom 5 0 0 none 54 [(0, .ref 233), (1, .int (nI h)), (2, .int (nI bg)), (3, .int (nI hrs)), (4, .int (nI day))] [] (mM M0 X SV SN AT CH CF CT BU PT sm ik th mn cl ln sp nu pa hs) F) : ∀ n f AT CH CF CT mn cl, f + n = 25 → ffH X h hrs day n f = ffH X h hrs day 25 0 → G mX6_freeFrom 5 0 0 none 13 [(0, .ref 233), (1, .int (nI h)), (2, .int (nI bg)), (3, .int (nI hrs)), (4, .int (nI day)), (5, .int (nI f))] [] (mM M0 X SV SN AT CH CF CT BU PT sm ik th mn cl ln sp nu pa hs) F := by
  intro n
  induction n with
  | zero =>
    intro f AT CH CF CT mn cl hf he
    refine g_iload dX6_freeFrom_13 rfl ?_
    refine g_iload_n dX6_freeFrom_15 rfl ?_
    refine g_iadd_n dX6_freeFrom_16 ?_
    refine g_bipush (v := nI 24) dX6_freeFrom_17 (by decide) ?_
    refine g_icmp_gt_n (tgt := 54) dX6_freeFrom_19 (by decide) (by omega) (by omega) (fun h2 => ?_) (fun h2 => ?_)
    · exact g_loc rfl (hnone _ _ _ _ _ _ he.symm)
    · omega
  | succ n ih =>
    intro f AT CH CF CT mn cl hf he
    unfold ffH at he
    refine g_iload dX6_freeFrom_13 rfl ?_
    refine g_iload_n dX6_freeFrom_15 rfl ?_
    refine g_iadd_n dX6_freeFrom_16 ?_
    refine g_bipush (v := nI 24) dX6_freeFrom_17 (by decide) ?_
    refine g_icmp_gt_n (tgt := 54) dX6_freeFrom_19 (by decide) (by omega) (by omega) (fun h2 => ?_) (fun h2 => ?_)
    · rw [if_neg (by omega)] at he
      exact g_loc rfl (hnone _ _ _ _ _ _ he.symm)
    rw [if_pos h2] at he
    refine g_aload_n dX6_freeFrom_22 rfl ?_
    refine g_iload_n dX6_freeFrom_23 rfl ?_
    refine g_iload dX6_freeFrom_24 rfl ?_
    refine g_iload dX6_freeFrom_26 rfl ?_
    refine g_iload dX6_freeFrom_28 rfl ?_
    refine g_iload_n dX6_freeFrom_30 rfl ?_
    refine g_iadd_n dX6_freeFrom_31 ?_
    refine g_iconst (v := nI 1) dX6_freeFrom_32 (by decide) ?_
    refine g_callV_i (kX6_refusalOf hX (h := h) (day := day) (f := f) (t := f + hrs) (r := 1) hd (by omega) (by omega) (by omega) (by omega)) oX6_refusalOf pX6_refusalOf lX6_130 dX6_freeFrom_33 rfl rfl rfl rfl rfl (Nat.le_of_ble_eq_true rfl) (Nat.le_of_ble_eq_true rfl) (by decide) (fun M' h' => ?_)
    obtain ⟨AT', CH', CF', CT', mn', cl', rfl⟩ := h'
    have hle := rfs_le X h day f (f + hrs) 1
    refine g_if_ne_n (tgt := 48) dX6_freeFrom_36 (by decide) (by omega) (fun h3 => ?_) (fun h3 => ?_)
    · rw [if_neg h3] at he
      refine g_iinc_n (c := 1) dX6_freeFrom_48 rfl (by decide) (by decide) ?_
      refine g_goto (tgt := 13) dX6_freeFrom_51 (by decide) ?_
      exact g_loc rfl (ih (f + 1) _ _ _ _ _ _ (by omega) he)
    · rw [if_pos h3] at he
      refine g_bipush (v := nI 24) dX6_freeFrom_39 (by decide) ?_
      refine g_iload dX6_freeFrom_41 rfl ?_
      refine g_imul_n dX6_freeFrom_43 ?_
      refine g_iload dX6_freeFrom_44 rfl ?_
      refine g_iadd_n dX6_freeFrom_46 ?_
      exact g_ireturn dX6_freeFrom_47 rfl rfl (hsome _ _ _ _ _ _ _ he.symm)
theorem ff2 (hX : wf0 X) {h bg hrs : Nat} (hh : h ≤ 2) (h1 : 1 ≤ hrs) (h24 : hrs ≤ 24) : ∀ n day AT CH CF CT mn cl, day + n = 84 → G mX6_freeFrom 5 0 0 none 3 [(0, .ref 233), (1, .int (nI h)), (2, .int (nI bg)), (3, .int (nI hrs)), (4, .int (nI day))] [] (mM M0 X SV SN AT CH CF CT BU PT sm ik th mn cl ln sp nu pa hs) (zi (ffD X h hrs n day) (fun M' => ∃ AT' CH' CF' CT' mn' cl', M' = mM M0 X SV SN AT' CH' CF' CT' BU PT sm ik th mn' cl' ln sp nu pa hs)) := by
  intro n
  induction n with
  | zero =>
    intro day AT CH CF CT mn cl hd
    refine g_iload dX6_freeFrom_3 rfl ?_
    refine g_bipush (v := nI 84) dX6_freeFrom_5 (by decide) ?_
    refine g_icmp_ge_n (tgt := 60) dX6_freeFrom_7 (by decide) (by omega) (by omega) (fun h2 => ?_) (fun h2 => ?_)
    · refine g_iconst (v := (-1)) dX6_freeFrom_60 (by decide) ?_
      exact g_ireturn dX6_freeFrom_61 rfl rfl ⟨rfl, rfl, AT, CH, CF, CT, mn, cl, rfl⟩
    · omega
  | succ n ih =>
    intro day AT CH CF CT mn cl hd
    unfold ffD
    refine g_iload dX6_freeFrom_3 rfl ?_
    refine g_bipush (v := nI 84) dX6_freeFrom_5 (by decide) ?_
    refine g_icmp_ge_n (tgt := 60) dX6_freeFrom_7 (by decide) (by omega) (by omega) (fun h2 => ?_) (fun h2 => ?_)
    · omega
    refine g_iconst (v := nI 0) dX6_freeFrom_10 (by decide) ?_
    refine g_istore dX6_freeFrom_11 (by decide) ?_
    refine g_loc rfl (ff1 hX hh h2 h1 h24 _ (fun v AT' CH' CF' CT' mn' cl' he => ?_) (fun AT' CH' CF' CT' mn' cl' he => ?_) 25 0 AT CH CF CT mn cl (by omega) rfl)
    · rw [he]
      exact ⟨rfl, rfl, AT', CH', CF', CT', mn', cl', rfl⟩
    · rw [he]
      refine g_iinc_n (c := 1) dX6_freeFrom_54 rfl (by decide) (by decide) ?_
      refine g_goto (tgt := 3) dX6_freeFrom_57 (by decide) ?_
      exact g_loc rfl (ih (day + 1) _ _ _ _ _ _ (by omega))
theorem kX6_freeFrom (hX : wf0 X) {h bg hrs : Nat} (hh : h ≤ 2) (hd : bg < 84) (h1 : 1 ≤ hrs) (h24 : hrs ≤ 24) : Cn mX6_freeFrom 5 0 0 none [.ref 233, .int (nI h), .int (nI bg), .int (nI hrs)] (mM M0 X SV SN AT CH CF CT BU PT sm ik th mn cl ln sp nu pa hs) (zi (ffD X h hrs (84 - bg) bg) (fun M' => ∃ AT' CH' CF' CT' mn' cl', M' = mM M0 X SV SN AT' CH' CF' CT' BU PT sm ik th mn' cl' ln sp nu pa hs)) := by
  refine g_iload_n dX6_freeFrom_0 rfl ?_
  refine g_istore dX6_freeFrom_1 (by decide) ?_
  exact g_loc rfl (ff2 hX hh h1 h24 (84 - bg) bg AT CH CF CT mn cl (by omega))
theorem kX6_nextFree1 (v d w : Int32) (h : zin v (nI 0) (nI 2) = false) : Cn mX6_nextFree 6 0 0 none [.ref 233, .int v, .int d, .int w] (mM M0 X SV SN AT CH CF CT BU PT sm ik th mn cl ln sp nu pa hs) (zi (nI 0) (fun M' => M' = mM M0 X SV SN AT CH CF CT BU PT sm ik 1 mn cl ln sp nu pa hs)) := by
  refine g_aload_n dX6_nextFree_0 rfl ?_
  refine g_iconst (v := nI 0) dX6_nextFree_1 (by decide) ?_
  refine g_mput_thrown fX6_37 dX6_nextFree_2 ?_
  refine g_iload_n dX6_nextFree_5 rfl ?_
  refine g_callS_i (kX6_isHall v) oX6_isHall pX6_isHall lX6_117 dX6_nextFree_6 rfl rfl (Nat.le_of_ble_eq_true rfl) (Nat.le_of_ble_eq_true rfl) (by decide) (fun M' h' => ?_)
  subst h'
  refine g_if_ne_b (tgt := 18) dX6_nextFree_9 (by decide) (fun h1 => ?_) (fun h1 => ?_)
  · rw [h] at h1; cases h1
  refine g_aload_n dX6_nextFree_12 rfl ?_
  refine g_iconst (v := nI 1) dX6_nextFree_13 (by decide) ?_
  refine g_callV_i (kX6_fails 1) oX6_fails pX6_fails lX6_48 dX6_nextFree_14 rfl rfl rfl rfl rfl (Nat.le_of_ble_eq_true rfl) (Nat.le_of_ble_eq_true rfl) (by decide) (fun M' h' => ?_)
  subst h'
  exact g_ireturn dX6_nextFree_17 rfl rfl ⟨rfl, rfl, rfl⟩
theorem kX6_nextFree2 (v d w : Int32) (h : zin v (nI 0) (nI 2) = true) (h2 : (zin d (nI 0) (nI 83) && zin w (nI 1) (nI 24)) = false) : Cn mX6_nextFree 6 0 0 none [.ref 233, .int v, .int d, .int w] (mM M0 X SV SN AT CH CF CT BU PT sm ik th mn cl ln sp nu pa hs) (zi (nI 0) (fun M' => M' = mM M0 X SV SN AT CH CF CT BU PT sm ik 2 mn cl ln sp nu pa hs)) := by
  refine g_aload_n dX6_nextFree_0 rfl ?_
  refine g_iconst (v := nI 0) dX6_nextFree_1 (by decide) ?_
  refine g_mput_thrown fX6_37 dX6_nextFree_2 ?_
  refine g_iload_n dX6_nextFree_5 rfl ?_
  refine g_callS_i (kX6_isHall v) oX6_isHall pX6_isHall lX6_117 dX6_nextFree_6 rfl rfl (Nat.le_of_ble_eq_true rfl) (Nat.le_of_ble_eq_true rfl) (by decide) (fun M' h' => ?_)
  subst h'
  refine g_if_ne_b (tgt := 18) dX6_nextFree_9 (by decide) (fun h1 => ?_) (fun h1 => ?_)
  rotate_left
  · rw [h] at h1; cases h1
  refine g_iload_n dX6_nextFree_18 rfl ?_
  refine g_callS_i (kX6_isDay d) oX6_isDay pX6_isDay lX6_121 dX6_nextFree_19 rfl rfl (Nat.le_of_ble_eq_true rfl) (Nat.le_of_ble_eq_true rfl) (by decide) (fun M' h' => ?_)
  subst h'
  refine g_if_eq_b (tgt := 45) dX6_nextFree_22 (by decide) (fun h3 => ?_) (fun h3 => ?_)
  · refine g_aload_n dX6_nextFree_45 rfl ?_
    refine g_iconst (v := nI 2) dX6_nextFree_46 (by decide) ?_
    refine g_callV_i (kX6_fails 2) oX6_fails pX6_fails lX6_48 dX6_nextFree_47 rfl rfl rfl rfl rfl (Nat.le_of_ble_eq_true rfl) (Nat.le_of_ble_eq_true rfl) (by decide) (fun M' h' => ?_)
    subst h'
    exact g_ireturn dX6_nextFree_50 rfl rfl ⟨rfl, rfl, rfl⟩
  refine g_iload_n dX6_nextFree_25 rfl ?_
  refine g_iconst (v := nI 1) dX6_nextFree_26 (by decide) ?_
  refine g_bipush (v := nI 24) dX6_nextFree_27 (by decide) ?_
  refine g_callS_i (kX6_in w (nI 1) (nI 24)) oX6_in pX6_in lX6_41 dX6_nextFree_29 rfl rfl (Nat.le_of_ble_eq_true rfl) (Nat.le_of_ble_eq_true rfl) (by decide) (fun M' h' => ?_)
  subst h'
  refine g_if_eq_b (tgt := 45) dX6_nextFree_32 (by decide) (fun h4 => ?_) (fun h4 => ?_)
  · refine g_aload_n dX6_nextFree_45 rfl ?_
    refine g_iconst (v := nI 2) dX6_nextFree_46 (by decide) ?_
    refine g_callV_i (kX6_fails 2) oX6_fails pX6_fails lX6_48 dX6_nextFree_47 rfl rfl rfl rfl rfl (Nat.le_of_ble_eq_true rfl) (Nat.le_of_ble_eq_true rfl) (by decide) (fun M' h' => ?_)
    subst h'
    exact g_ireturn dX6_nextFree_50 rfl rfl ⟨rfl, rfl, rfl⟩
  · simp [h3, h4] at h2
theorem kX6_nextFree (hX : wf0 X) {h day hr : Nat} (hh : h ≤ 2) (hd : day < 84) (hr0 : 1 ≤ hr) (hr1 : hr ≤ 24) : Cn mX6_nextFree 6 0 0 none [.ref 233, .int (nI h), .int (nI day), .int (nI hr)] (mM M0 X SV SN AT CH CF CT BU PT sm ik th mn cl ln sp nu pa hs) (zi (ffD X h hr (84 - day) day) (fun M' => ∃ AT' CH' CF' CT' mn' cl', M' = mM M0 X SV SN AT' CH' CF' CT' BU PT sm ik 0 mn' cl' ln sp nu pa hs)) := by
  refine g_aload_n dX6_nextFree_0 rfl ?_
  refine g_iconst (v := nI 0) dX6_nextFree_1 (by decide) ?_
  refine g_mput_thrown fX6_37 dX6_nextFree_2 ?_
  refine g_iload_n dX6_nextFree_5 rfl ?_
  refine g_callS_i (kX6_isHall (nI h)) oX6_isHall pX6_isHall lX6_117 dX6_nextFree_6 rfl rfl (Nat.le_of_ble_eq_true rfl) (Nat.le_of_ble_eq_true rfl) (by decide) (fun M' h' => ?_)
  subst h'
  rw [zin_t (by omega) hh (by decide)]
  refine g_if_ne_b (tgt := 18) dX6_nextFree_9 (by decide) (fun h1 => ?_) (fun h1 => ?_)
  rotate_left
  · cases h1
  refine g_iload_n dX6_nextFree_18 rfl ?_
  refine g_callS_i (kX6_isDay (nI day)) oX6_isDay pX6_isDay lX6_121 dX6_nextFree_19 rfl rfl (Nat.le_of_ble_eq_true rfl) (Nat.le_of_ble_eq_true rfl) (by decide) (fun M' h' => ?_)
  subst h'
  rw [zin_t (by omega) (by omega) (by decide)]
  refine g_if_eq_b (tgt := 45) dX6_nextFree_22 (by decide) (fun h3 => ?_) (fun h3 => ?_)
  · cases h3
  refine g_iload_n dX6_nextFree_25 rfl ?_
  refine g_iconst (v := nI 1) dX6_nextFree_26 (by decide) ?_
  refine g_bipush (v := nI 24) dX6_nextFree_27 (by decide) ?_
  refine g_callS_i (kX6_in (nI hr) (nI 1) (nI 24)) oX6_in pX6_in lX6_41 dX6_nextFree_29 rfl rfl (Nat.le_of_ble_eq_true rfl) (Nat.le_of_ble_eq_true rfl) (by decide) (fun M' h' => ?_)
  subst h'
  rw [zin_t hr0 hr1 (by decide)]
  refine g_if_eq_b (tgt := 45) dX6_nextFree_32 (by decide) (fun h4 => ?_) (fun h4 => ?_)
  · cases h4
  refine g_aload_n dX6_nextFree_35 rfl ?_
  refine g_iload_n dX6_nextFree_36 rfl ?_
  refine g_iload_n dX6_nextFree_37 rfl ?_
  refine g_iload_n dX6_nextFree_38 rfl ?_
  refine g_callV_i (kX6_freeFrom hX hh hd hr0 hr1) oX6_freeFrom pX6_freeFrom lX6_219 dX6_nextFree_39 rfl rfl rfl rfl rfl (Nat.le_of_ble_eq_true rfl) (Nat.le_of_ble_eq_true rfl) (by decide) (fun M' h' => ?_)
  refine g_goto (tgt := 50) dX6_nextFree_42 (by decide) ?_
  exact g_ireturn dX6_nextFree_50 rfl rfl ⟨rfl, rfl, h'⟩
theorem bt1 (hX : wf0 X) (hb : ∀ n, n < 20 → oT X (nI n) 2 < 2 ^ 31) : ∀ u n, n + u = 20 → (btN X n).2 < 2 ^ 31 → G mX6_bestTenant 4 0 0 none 6 [(0, .ref 233), (1, .int (btN X n).1), (2, .int (nI (btN X n).2)), (3, .int (nI n))] [] (mM M0 X SV SN AT CH CF CT BU PT sm ik th mn cl ln sp nu pa hs) (zpi (mM M0 X SV SN AT CH CF CT BU PT sm ik th mn cl ln sp nu pa hs) (btN X 20).1) := by
  intro u
  induction u with
  | zero =>
    intro n hn h31
    have : n = 20 := by omega
    subst this
    refine g_iload_n dX6_bestTenant_6 rfl ?_
    refine g_bipush (v := nI 20) dX6_bestTenant_7 (by decide) ?_
    refine g_icmp_ge_n (tgt := 51) dX6_bestTenant_9 (by decide) (by omega) (by omega) (fun h1 => ?_) (fun h1 => ?_)
    · refine g_iload_n dX6_bestTenant_51 rfl ?_
      exact g_ireturn dX6_bestTenant_52 rfl rfl ⟨rfl, rfl, rfl⟩
    · omega
  | succ u ih =>
    intro n hn h31
    refine g_iload_n dX6_bestTenant_6 rfl ?_
    refine g_bipush (v := nI 20) dX6_bestTenant_7 (by decide) ?_
    refine g_icmp_ge_n (tgt := 51) dX6_bestTenant_9 (by decide) (by omega) (by omega) (fun h1 => ?_) (fun h1 => ?_)
    · omega
    have hbn := hb n h1
    have ih2 := ih (n + 1) (by omega)
    unfold btN at ih2
    refine g_aload_n dX6_bestTenant_12 rfl ?_
    refine g_iload_n dX6_bestTenant_13 rfl ?_
    refine g_iconst (v := nI 2) dX6_bestTenant_14 (by decide) ?_
    refine g_callV_i (kX6_ofTenant hX (te := nI n) (w := 2) (by decide)) oX6_ofTenant pX6_ofTenant lX6_213 dX6_bestTenant_15 rfl rfl rfl rfl rfl (Nat.le_of_ble_eq_true rfl) (Nat.le_of_ble_eq_true rfl) (by decide) (fun M' h' => ?_)
    subst h'
    refine g_istore dX6_bestTenant_18 (by decide) ?_
    refine g_iload dX6_bestTenant_20 rfl ?_
    refine g_iload_n dX6_bestTenant_22 rfl ?_
    refine g_icmp_le_n (tgt := 30) dX6_bestTenant_23 (by decide) (by omega) (by omega) (fun h2 => ?_) (fun h2 => ?_)
    · rw [if_neg (by omega)] at ih2
      refine g_iload_n dX6_bestTenant_30 rfl ?_
      refine g_istore_n dX6_bestTenant_31 (by decide) ?_
      refine g_iload dX6_bestTenant_32 rfl ?_
      refine g_iload_n dX6_bestTenant_34 rfl ?_
      refine g_icmp_le_n (tgt := 43) dX6_bestTenant_35 (by decide) (by omega) (by omega) (fun h3 => ?_) (fun h3 => ?_)
      · refine g_iload_n dX6_bestTenant_43 rfl ?_
        refine g_istore_n dX6_bestTenant_44 (by decide) ?_
        refine g_iinc_n (c := 1) dX6_bestTenant_45 rfl (by decide) (by decide) ?_
        refine g_goto (tgt := 6) dX6_bestTenant_48 (by decide) ?_
        exact g_loc rfl (ih2 h31)
      · omega
    · rw [if_pos h2] at ih2
      refine g_iload_n dX6_bestTenant_26 rfl ?_
      refine g_goto (tgt := 31) dX6_bestTenant_27 (by decide) ?_
      refine g_istore_n dX6_bestTenant_31 (by decide) ?_
      refine g_iload dX6_bestTenant_32 rfl ?_
      refine g_iload_n dX6_bestTenant_34 rfl ?_
      refine g_icmp_le_n (tgt := 43) dX6_bestTenant_35 (by decide) (by omega) (by omega) (fun h3 => ?_) (fun h3 => ?_)
      · omega
      · refine g_iload dX6_bestTenant_38 rfl ?_
        refine g_goto (tgt := 44) dX6_bestTenant_40 (by decide) ?_
        refine g_istore_n dX6_bestTenant_44 (by decide) ?_
        refine g_iinc_n (c := 1) dX6_bestTenant_45 rfl (by decide) (by decide) ?_
        refine g_goto (tgt := 6) dX6_bestTenant_48 (by decide) ?_
        exact g_loc rfl (ih2 hbn)
theorem kX6_bestTenant (hX : wf0 X) (hb : ∀ n, n < 20 → oT X (nI n) 2 < 2 ^ 31) : Cn mX6_bestTenant 4 0 0 none [.ref 233] (mM M0 X SV SN AT CH CF CT BU PT sm ik th mn cl ln sp nu pa hs) (zpi (mM M0 X SV SN AT CH CF CT BU PT sm ik th mn cl ln sp nu pa hs) (btN X 20).1) := by
  refine g_iconst (v := (-1)) dX6_bestTenant_0 (by decide) ?_
  refine g_istore_n dX6_bestTenant_1 (by decide) ?_
  refine g_iconst (v := nI 0) dX6_bestTenant_2 (by decide) ?_
  refine g_istore_n dX6_bestTenant_3 (by decide) ?_
  refine g_iconst (v := nI 0) dX6_bestTenant_4 (by decide) ?_
  refine g_istore_n dX6_bestTenant_5 (by decide) ?_
  exact g_loc rfl (bt1 hX hb 20 0 (by omega) (by simp [btN]))
theorem kX6_best (hX : wf0 X) (hb : ∀ n, n < 20 → oT X (nI n) 2 < 2 ^ 31) : Cn mX6_best 5 0 0 none [.ref 233] (mM M0 X SV SN AT CH CF CT BU PT sm ik th mn cl ln sp nu pa hs) (zi (btN X 20).1 (fun M' => M' = mM M0 X SV SN AT CH CF CT BU PT sm ik 0 mn cl ln sp nu pa hs)) := by
  refine g_aload_n dX6_best_0 rfl ?_
  refine g_iconst (v := nI 0) dX6_best_1 (by decide) ?_
  refine g_mput_thrown fX6_37 dX6_best_2 ?_
  refine g_aload_n dX6_best_5 rfl ?_
  refine g_callV_i (kX6_bestTenant hX hb) oX6_bestTenant pX6_bestTenant lX6_222 dX6_best_6 rfl rfl rfl rfl rfl (Nat.le_of_ble_eq_true rfl) (Nat.le_of_ble_eq_true rfl) (by decide) (fun M' h' => ?_)
  subst h'
  exact g_ireturn dX6_best_9 rfl rfl ⟨rfl, rfl, rfl⟩
end MOD10
