/-! the reference: set, append, clearBuffer -/
section MOD12
variable {M0 : zM} {X SV SN AT CH CF CT BU PT : Nat → Nat} {sm ik th mn cl ln sp nu pa : Nat} {hs : Int64}
theorem iGW1 {w v old : Nat} (hX : wf0 X) (F : zP) (hF : ∀ b : Bool, b = alD X 84 0 → ∀ AT' CH' CF' CT' mn' cl', G mX6_isGoodWith 6 0 0 none 69 [(0, .ref 233), (1, .int (nI w)), (2, .int (nI v)), (3, .int (nI old)), (4, .int (nI b.toNat))] [] (mM M0 X SV SN AT' CH' CF' CT' BU PT sm ik th mn' cl' ln sp nu pa hs) F) (hw : w = 0) : ∀ n k AT CH CF CT mn cl, k + n = 84 → alD X n k = alD X 84 0 → G mX6_isGoodWith 6 0 0 none 39 [(0, .ref 233), (1, .int (nI w)), (2, .int (nI v)), (3, .int (nI old)), (4, .int (nI true.toNat)), (5, .int (nI k))] [] (mM M0 X SV SN AT CH CF CT BU PT sm ik th mn cl ln sp nu pa hs) F := by
  subst hw
  intro n
  induction n with
  | zero =>
    intro k AT CH CF CT mn cl hk he
    refine g_iload dX6_isGoodWith_39 rfl ?_
    refine g_bipush (v := nI 84) dX6_isGoodWith_41 (by decide) ?_
    refine g_icmp_ge_n (tgt := 69) dX6_isGoodWith_43 (by decide) (by omega) (by omega) (fun h1 => ?_) (fun h1 => ?_)
    · exact g_loc rfl (hF true he AT CH CF CT mn cl)
    · omega
  | succ n ih =>
    intro k AT CH CF CT mn cl hk he
    refine g_iload dX6_isGoodWith_39 rfl ?_
    refine g_bipush (v := nI 84) dX6_isGoodWith_41 (by decide) ?_
    refine g_icmp_ge_n (tgt := 69) dX6_isGoodWith_43 (by decide) (by omega) (by omega) (fun h1 => ?_) (fun h1 => ?_)
    · omega
    refine g_iload dX6_isGoodWith_46 rfl ?_
    refine g_if_eq_b (tgt := 69) dX6_isGoodWith_48 (by decide) (fun h2 => ?_) (fun h2 => ?_)
    · cases h2
    refine g_iload_n dX6_isGoodWith_51 rfl ?_
    refine g_if_ne_n (tgt := 69) dX6_isGoodWith_52 (by decide) (by omega) (fun h3 => ?_) (fun h3 => ?_)
    · exact absurd rfl h3
    refine g_aload_n dX6_isGoodWith_55 rfl ?_
    refine g_iload dX6_isGoodWith_56 rfl ?_
    refine g_callV_i (kX6_isGood hX (day := k) (by omega)) oX6_isGood pX6_isGood lX6_161 dX6_isGoodWith_58 rfl rfl rfl rfl rfl (Nat.le_of_ble_eq_true rfl) (Nat.le_of_ble_eq_true rfl) (by decide) (fun M' h' => ?_)
    obtain ⟨AT', CH', CF', CT', mn', cl', rfl⟩ := h'
    refine g_istore dX6_isGoodWith_61 (by decide) ?_
    refine g_iinc_n (c := 1) dX6_isGoodWith_63 rfl (by decide) (by decide) ?_
    refine g_goto (tgt := 39) dX6_isGoodWith_66 (by decide) ?_
    simp only [alD] at he
    cases hg : gdD X k
    · rw [hg] at he
      refine g_iload dX6_isGoodWith_39 rfl ?_
      refine g_bipush (v := nI 84) dX6_isGoodWith_41 (by decide) ?_
      refine g_icmp_ge_n (tgt := 69) dX6_isGoodWith_43 (by decide) (by omega) (by omega) (fun h4 => ?_) (fun h4 => ?_)
      · exact g_loc rfl (hF false he _ _ _ _ _ _)
      refine g_iload dX6_isGoodWith_46 rfl ?_
      refine g_if_eq_b (tgt := 69) dX6_isGoodWith_48 (by decide) (fun h5 => ?_) (fun h5 => ?_)
      · exact g_loc rfl (hF false he _ _ _ _ _ _)
      · cases h5
    · rw [hg] at he
      exact g_loc rfl (ih (k + 1) _ _ _ _ _ _ (by omega) he)
theorem kX6_isGoodWith (hX : wf0 X) {w v : Nat} (hw : w ≤ 4) (hv : v ≤ 100) : Cn mX6_isGoodWith 6 0 0 none [.ref 233, .int (nI w), .int (nI v)] (mM M0 X SV SN AT CH CF CT BU PT sm ik th mn cl ln sp nu pa hs) (zi (nI (gdW X w v).toNat) (fun M' => ∃ AT' CH' CF' CT' mn' cl', M' = mM M0 X SV SN AT' CH' CF' CT' BU PT sm ik th mn' cl' ln sp nu pa hs)) := by
  have hX' := wf0_set hX hw hv
  have bw := hX.1 w (by omega) (by omega) (by omega) (by omega)
  have b3 := hX'.1 3 (by omega) (by omega) (by omega) (by omega)
  have b4 := hX'.1 4 (by omega) (by omega) (by omega) (by omega)
  have fin : ∀ b : Bool, b = gdW X w v → ∀ AT' CH' CF' CT' mn' cl', G mX6_isGoodWith 6 0 0 none 69 [(0, .ref 233), (1, .int (nI w)), (2, .int (nI v)), (3, .int (nI (X w))), (4, .int (nI b.toNat))] [] (mM M0 (uN X w v) SV SN AT' CH' CF' CT' BU PT sm ik th mn' cl' ln sp nu pa hs) (zi (nI (gdW X w v).toNat) (fun M' => ∃ AT' CH' CF' CT' mn' cl', M' = mM M0 X SV SN AT' CH' CF' CT' BU PT sm ik th mn' cl' ln sp nu pa hs)) := fun b hb AT' CH' CF' CT' mn' cl' => by
    subst hb
    refine g_aload_n dX6_isGoodWith_69 rfl ?_
    refine g_get fX6_7 dX6_isGoodWith_70 rfl rfl ?_
    refine g_iload_n dX6_isGoodWith_73 rfl ?_
    refine g_iload_n dX6_isGoodWith_74 rfl ?_
    refine g_mst_row dX6_isGoodWith_75 (by omega) ?_
    refine g_iload dX6_isGoodWith_76 rfl ?_
    rw [uN_b]
    exact g_ireturn_b dX6_isGoodWith_78 rfl ⟨rfl, rfl, AT', CH', CF', CT', mn', cl', rfl⟩
  have go : ∀ c : Bool, c = decide (uN X w v 3 ≤ uN X w v 4) → G mX6_isGoodWith 6 0 0 none 34 [(0, .ref 233), (1, .int (nI w)), (2, .int (nI v)), (3, .int (nI (X w)))] [.int (nI c.toNat)] (mM M0 (uN X w v) SV SN AT CH CF CT BU PT sm ik th mn cl ln sp nu pa hs) (zi (nI (gdW X w v).toNat) (fun M' => ∃ AT' CH' CF' CT' mn' cl', M' = mM M0 X SV SN AT' CH' CF' CT' BU PT sm ik th mn' cl' ln sp nu pa hs)) := fun c hc => by
    refine g_istore dX6_isGoodWith_34 (by decide) ?_
    refine g_iconst (v := nI 0) dX6_isGoodWith_36 (by decide) ?_
    refine g_istore dX6_isGoodWith_37 (by decide) ?_
    by_cases hw0 : w = 0
    · cases c
      · refine g_iload dX6_isGoodWith_39 rfl ?_
        refine g_bipush (v := nI 84) dX6_isGoodWith_41 (by decide) ?_
        refine g_icmp_ge_n (tgt := 69) dX6_isGoodWith_43 (by decide) (by omega) (by omega) (fun h1 => ?_) (fun h1 => ?_)
        · omega
        refine g_iload dX6_isGoodWith_46 rfl ?_
        refine g_if_eq_b (tgt := 69) dX6_isGoodWith_48 (by decide) (fun h2 => ?_) (fun h2 => ?_)
        · exact g_loc rfl (fin false (by simp [gdW, ← hc]) _ _ _ _ _ _)
        · cases h2
      · refine g_loc rfl (iGW1 hX' _ (fun b hb AT' CH' CF' CT' mn' cl' => fin b (by subst hb; unfold gdW; rw [← hc]; simp [hw0]) _ _ _ _ _ _) hw0 84 0 AT CH CF CT mn cl (by omega) rfl)
    · refine g_iload dX6_isGoodWith_39 rfl ?_
      refine g_bipush (v := nI 84) dX6_isGoodWith_41 (by decide) ?_
      refine g_icmp_ge_n (tgt := 69) dX6_isGoodWith_43 (by decide) (by omega) (by omega) (fun h1 => ?_) (fun h1 => ?_)
      · omega
      refine g_iload dX6_isGoodWith_46 rfl ?_
      refine g_if_eq_b (tgt := 69) dX6_isGoodWith_48 (by decide) (fun h2 => ?_) (fun h2 => ?_)
      · exact g_loc rfl (fin c (by simp [gdW, ← hc, hw0]) _ _ _ _ _ _)
      · refine g_iload_n dX6_isGoodWith_51 rfl ?_
        refine g_if_ne_n (tgt := 69) dX6_isGoodWith_52 (by decide) (by omega) (fun h3 => ?_) (fun h3 => ?_)
        · exact g_loc rfl (fin c (by simp [gdW, ← hc, hw0]) _ _ _ _ _ _)
        · exact absurd h3 hw0
  refine g_aload_n dX6_isGoodWith_0 rfl ?_
  refine g_get fX6_7 dX6_isGoodWith_1 rfl rfl ?_
  refine g_iload_n dX6_isGoodWith_4 rfl ?_
  refine g_iald_n dX6_isGoodWith_5 rfl (by omega) (by decide) ?_
  refine g_istore_n dX6_isGoodWith_6 (by decide) ?_
  refine g_aload_n dX6_isGoodWith_7 rfl ?_
  refine g_get fX6_7 dX6_isGoodWith_8 rfl rfl ?_
  refine g_iload_n dX6_isGoodWith_11 rfl ?_
  refine g_iload_n dX6_isGoodWith_12 rfl ?_
  refine g_mst_row dX6_isGoodWith_13 (by omega) ?_
  refine g_aload_n dX6_isGoodWith_14 rfl ?_
  refine g_get fX6_7 dX6_isGoodWith_15 rfl rfl ?_
  refine g_iconst (v := nI 3) dX6_isGoodWith_18 (by decide) ?_
  refine g_iald_n dX6_isGoodWith_19 rfl (by omega) (by decide) ?_
  refine g_aload_n dX6_isGoodWith_20 rfl ?_
  refine g_get fX6_7 dX6_isGoodWith_21 rfl rfl ?_
  refine g_iconst (v := nI 4) dX6_isGoodWith_24 (by decide) ?_
  refine g_iald_n dX6_isGoodWith_25 rfl (by omega) (by decide) ?_
  refine g_icmp_gt_n (tgt := 33) dX6_isGoodWith_26 (by decide) (by omega) (by omega) (fun h1 => ?_) (fun h1 => ?_)
  · refine g_iconst (v := nI 0) dX6_isGoodWith_33 (by decide) ?_
    exact g_loc rfl (go false (by simp; omega))
  · refine g_iconst (v := nI 1) dX6_isGoodWith_29 (by decide) ?_
    refine g_goto (tgt := 34) dX6_isGoodWith_30 (by decide) ?_
    exact g_loc rfl (go true (by simp; omega))
theorem kX6_maySet {M : zM} {w : Nat} (v : Int32) (hw : w ≤ 4) : Cn mX6_maySet 2 0 0 none [.int (nI w), .int v] M (zpi M (nI (zin v (nI 0) (nI (mxS w))).toNat)) := by
  rcases (show w = 0 ∨ w = 1 ∨ w = 2 ∨ w = 3 ∨ w = 4 by omega) with rfl | rfl | rfl | rfl | rfl
  · refine g_iload_n dX6_maySet_0 rfl ?_
    refine g_tabIn (x := nI 0) (off := 27) (tgt := 28) dX6_maySet_1 (by decide) (by decide) (by decide) (by decide) ?_
    refine g_iload_n dX6_maySet_28 rfl ?_
    refine g_iconst (v := nI 0) dX6_maySet_29 (by decide) ?_
    refine g_iconst (v := nI 4) dX6_maySet_30 (by decide) ?_
    refine g_callS_i (kX6_in v (nI 0) (nI 4)) oX6_in pX6_in lX6_41 dX6_maySet_31 rfl rfl (Nat.le_of_ble_eq_true rfl) (Nat.le_of_ble_eq_true rfl) (by decide) (fun M' h' => ?_)
    subst h'
    exact g_ireturn_b dX6_maySet_34 rfl ⟨rfl, rfl, rfl⟩
  · refine g_iload_n dX6_maySet_0 rfl ?_
    refine g_tabIn (x := nI 1) (off := 34) (tgt := 35) dX6_maySet_1 (by decide) (by decide) (by decide) (by decide) ?_
    refine g_iload_n dX6_maySet_35 rfl ?_
    refine g_iconst (v := nI 0) dX6_maySet_36 (by decide) ?_
    refine g_bipush (v := nI 50) dX6_maySet_37 (by decide) ?_
    refine g_callS_i (kX6_in v (nI 0) (nI 50)) oX6_in pX6_in lX6_41 dX6_maySet_39 rfl rfl (Nat.le_of_ble_eq_true rfl) (Nat.le_of_ble_eq_true rfl) (by decide) (fun M' h' => ?_)
    subst h'
    exact g_ireturn_b dX6_maySet_42 rfl ⟨rfl, rfl, rfl⟩
  · refine g_iload_n dX6_maySet_0 rfl ?_
    refine g_tabIn (x := nI 2) (off := 42) (tgt := 43) dX6_maySet_1 (by decide) (by decide) (by decide) (by decide) ?_
    refine g_iload_n dX6_maySet_43 rfl ?_
    refine g_iconst (v := nI 0) dX6_maySet_44 (by decide) ?_
    refine g_bipush (v := nI 100) dX6_maySet_45 (by decide) ?_
    refine g_callS_i (kX6_in v (nI 0) (nI 100)) oX6_in pX6_in lX6_41 dX6_maySet_47 rfl rfl (Nat.le_of_ble_eq_true rfl) (Nat.le_of_ble_eq_true rfl) (by decide) (fun M' h' => ?_)
    subst h'
    exact g_ireturn_b dX6_maySet_50 rfl ⟨rfl, rfl, rfl⟩
  · refine g_iload_n dX6_maySet_0 rfl ?_
    refine g_tabOut (x := nI 3) (tgt := 51) dX6_maySet_1 (by decide) (by decide) ?_
    refine g_iload_n dX6_maySet_51 rfl ?_
    refine g_iconst (v := nI 0) dX6_maySet_52 (by decide) ?_
    refine g_bipush (v := nI 11) dX6_maySet_53 (by decide) ?_
    refine g_callS_i (kX6_in v (nI 0) (nI 11)) oX6_in pX6_in lX6_41 dX6_maySet_55 rfl rfl (Nat.le_of_ble_eq_true rfl) (Nat.le_of_ble_eq_true rfl) (by decide) (fun M' h' => ?_)
    subst h'
    exact g_ireturn_b dX6_maySet_58 rfl ⟨rfl, rfl, rfl⟩
  · refine g_iload_n dX6_maySet_0 rfl ?_
    refine g_tabOut (x := nI 4) (tgt := 51) dX6_maySet_1 (by decide) (by decide) ?_
    refine g_iload_n dX6_maySet_51 rfl ?_
    refine g_iconst (v := nI 0) dX6_maySet_52 (by decide) ?_
    refine g_bipush (v := nI 11) dX6_maySet_53 (by decide) ?_
    refine g_callS_i (kX6_in v (nI 0) (nI 11)) oX6_in pX6_in lX6_41 dX6_maySet_55 rfl rfl (Nat.le_of_ble_eq_true rfl) (Nat.le_of_ble_eq_true rfl) (by decide) (fun M' h' => ?_)
    subst h'
    exact g_ireturn_b dX6_maySet_58 rfl ⟨rfl, rfl, rfl⟩
theorem kX6_set1 (w v : Int32) (h : zin w (nI 0) (nI 4) = false) : Cn mX6_set 8 0 0 none [.ref 233, .int w, .int v] (mM M0 X SV SN AT CH CF CT BU PT sm ik th mn cl ln sp nu pa hs) (zi (nI 0) (fun M' => M' = mM M0 X SV SN AT CH CF CT BU PT sm ik 1 mn cl ln sp nu pa hs)) := by
  refine g_aload_n dX6_set_0 rfl ?_
  refine g_iconst (v := nI 0) dX6_set_1 (by decide) ?_
  refine g_mput_thrown fX6_37 dX6_set_2 ?_
  refine g_iload_n dX6_set_5 rfl ?_
  refine g_iconst (v := nI 0) dX6_set_6 (by decide) ?_
  refine g_iconst (v := nI 4) dX6_set_7 (by decide) ?_
  refine g_callS_i (kX6_in w (nI 0) (nI 4)) oX6_in pX6_in lX6_41 dX6_set_8 rfl rfl (Nat.le_of_ble_eq_true rfl) (Nat.le_of_ble_eq_true rfl) (by decide) (fun M' h' => ?_)
  subst h'
  refine g_if_ne_b (tgt := 20) dX6_set_11 (by decide) (fun h1 => ?_) (fun h1 => ?_)
  · rw [h] at h1; cases h1
  refine g_aload_n dX6_set_14 rfl ?_
  refine g_iconst (v := nI 1) dX6_set_15 (by decide) ?_
  refine g_callV_i (kX6_fails 1) oX6_fails pX6_fails lX6_48 dX6_set_16 rfl rfl rfl rfl rfl (Nat.le_of_ble_eq_true rfl) (Nat.le_of_ble_eq_true rfl) (by decide) (fun M' h' => ?_)
  subst h'
  exact g_ireturn dX6_set_19 rfl rfl ⟨rfl, rfl, rfl⟩
theorem kX6_set2 {w : Nat} (v : Int32) (hw : w ≤ 4) (h : zin v (nI 0) (nI (mxS w)) = false) : Cn mX6_set 8 0 0 none [.ref 233, .int (nI w), .int v] (mM M0 X SV SN AT CH CF CT BU PT sm ik th mn cl ln sp nu pa hs) (zi (nI 0) (fun M' => M' = mM M0 X SV SN AT CH CF CT BU PT sm ik 2 mn cl ln sp nu pa hs)) := by
  refine g_aload_n dX6_set_0 rfl ?_
  refine g_iconst (v := nI 0) dX6_set_1 (by decide) ?_
  refine g_mput_thrown fX6_37 dX6_set_2 ?_
  refine g_iload_n dX6_set_5 rfl ?_
  refine g_iconst (v := nI 0) dX6_set_6 (by decide) ?_
  refine g_iconst (v := nI 4) dX6_set_7 (by decide) ?_
  refine g_callS_i (kX6_in (nI w) (nI 0) (nI 4)) oX6_in pX6_in lX6_41 dX6_set_8 rfl rfl (Nat.le_of_ble_eq_true rfl) (Nat.le_of_ble_eq_true rfl) (by decide) (fun M' h' => ?_)
  subst h'
  rw [zin_t (by omega) hw (by decide)]
  refine g_if_ne_b (tgt := 20) dX6_set_11 (by decide) (fun h1 => ?_) (fun h1 => ?_)
  rotate_left
  · cases h1
  refine g_iload_n dX6_set_20 rfl ?_
  refine g_iload_n dX6_set_21 rfl ?_
  refine g_callS_i (kX6_maySet v hw) oX6_maySet pX6_maySet lX6_164 dX6_set_22 rfl rfl (Nat.le_of_ble_eq_true rfl) (Nat.le_of_ble_eq_true rfl) (by decide) (fun M' h' => ?_)
  subst h'
  refine g_if_ne_b (tgt := 34) dX6_set_25 (by decide) (fun h2 => ?_) (fun h2 => ?_)
  · rw [h] at h2; cases h2
  refine g_aload_n dX6_set_28 rfl ?_
  refine g_iconst (v := nI 2) dX6_set_29 (by decide) ?_
  refine g_callV_i (kX6_fails 2) oX6_fails pX6_fails lX6_48 dX6_set_30 rfl rfl rfl rfl rfl (Nat.le_of_ble_eq_true rfl) (Nat.le_of_ble_eq_true rfl) (by decide) (fun M' h' => ?_)
  subst h'
  exact g_ireturn dX6_set_33 rfl rfl ⟨rfl, rfl, rfl⟩
theorem mxS_le (w : Nat) : mxS w ≤ 100 := by
  simp only [mxS]
  repeat' split
  all_goals omega
theorem kX6_set3 (hX : wf0 X) {w v : Nat} (hw : w ≤ 4) (hv : v ≤ mxS w) (h : gdW X w v = false) : Cn mX6_set 8 0 0 none [.ref 233, .int (nI w), .int (nI v)] (mM M0 X SV SN AT CH CF CT BU PT sm ik th mn cl ln sp nu pa hs) (zi (nI 0) (fun M' => ∃ AT' CH' CF' CT' mn' cl', M' = mM M0 X SV SN AT' CH' CF' CT' BU PT sm ik 3 mn' cl' ln sp nu pa hs)) := by
  have hm := mxS_le w
  refine g_aload_n dX6_set_0 rfl ?_
  refine g_iconst (v := nI 0) dX6_set_1 (by decide) ?_
  refine g_mput_thrown fX6_37 dX6_set_2 ?_
  refine g_iload_n dX6_set_5 rfl ?_
  refine g_iconst (v := nI 0) dX6_set_6 (by decide) ?_
  refine g_iconst (v := nI 4) dX6_set_7 (by decide) ?_
  refine g_callS_i (kX6_in (nI w) (nI 0) (nI 4)) oX6_in pX6_in lX6_41 dX6_set_8 rfl rfl (Nat.le_of_ble_eq_true rfl) (Nat.le_of_ble_eq_true rfl) (by decide) (fun M' h' => ?_)
  subst h'
  rw [zin_t (by omega) hw (by decide)]
  refine g_if_ne_b (tgt := 20) dX6_set_11 (by decide) (fun h1 => ?_) (fun h1 => ?_)
  rotate_left
  · cases h1
  refine g_iload_n dX6_set_20 rfl ?_
  refine g_iload_n dX6_set_21 rfl ?_
  refine g_callS_i (kX6_maySet (nI v) hw) oX6_maySet pX6_maySet lX6_164 dX6_set_22 rfl rfl (Nat.le_of_ble_eq_true rfl) (Nat.le_of_ble_eq_true rfl) (by decide) (fun M' h' => ?_)
  subst h'
  rw [zin_t (by omega) hv (by omega)]
  refine g_if_ne_b (tgt := 34) dX6_set_25 (by decide) (fun h2 => ?_) (fun h2 => ?_)
  rotate_left
  · cases h2
  refine g_aload_n dX6_set_34 rfl ?_
  refine g_iload_n dX6_set_35 rfl ?_
  refine g_iload_n dX6_set_36 rfl ?_
  refine g_callV_i (kX6_isGoodWith hX hw (v := v) (by omega)) oX6_isGoodWith pX6_isGoodWith lX6_167 dX6_set_37 rfl rfl rfl rfl rfl (Nat.le_of_ble_eq_true rfl) (Nat.le_of_ble_eq_true rfl) (by decide) (fun M' h' => ?_)
  obtain ⟨AT', CH', CF', CT', mn', cl', rfl⟩ := h'
  rw [h]
  refine g_if_ne_b (tgt := 49) dX6_set_40 (by decide) (fun h3 => ?_) (fun h3 => ?_)
  · cases h3
  refine g_aload_n dX6_set_43 rfl ?_
  refine g_iconst (v := nI 3) dX6_set_44 (by decide) ?_
  refine g_callV_i (kX6_fails 3) oX6_fails pX6_fails lX6_48 dX6_set_45 rfl rfl rfl rfl rfl (Nat.le_of_ble_eq_true rfl) (Nat.le_of_ble_eq_true rfl) (by decide) (fun M' h' => ?_)
  subst h'
  exact g_ireturn dX6_set_48 rfl rfl ⟨rfl, rfl, AT', CH', CF', CT', mn', cl', rfl⟩
theorem kX6_set (hX : wf0 X) {SS : Nat → Nat → Nat} (hs6 : sm ≤ 6) {w v : Nat} (hw : w ≤ 4) (hv : v ≤ mxS w) (h : gdW X w v = true) : Cn mX6_set 8 0 0 none [.ref 233, .int (nI w), .int (nI v)] (mM M0 X (SVf SS) SN AT CH CF CT BU PT sm ik th mn cl ln sp nu pa hs) (zi (nI (X w)) (fun M' => ∃ AT' CH' CF' CT' mn' cl', M' = mM M0 (uN X w v) (SVf (svS SS sm X)) SN AT' CH' CF' CT' BU PT (svN sm) ik 0 mn' cl' ln sp nu pa hs)) := by
  have hm := mxS_le w
  refine g_aload_n dX6_set_0 rfl ?_
  refine g_iconst (v := nI 0) dX6_set_1 (by decide) ?_
  refine g_mput_thrown fX6_37 dX6_set_2 ?_
  refine g_iload_n dX6_set_5 rfl ?_
  refine g_iconst (v := nI 0) dX6_set_6 (by decide) ?_
  refine g_iconst (v := nI 4) dX6_set_7 (by decide) ?_
  refine g_callS_i (kX6_in (nI w) (nI 0) (nI 4)) oX6_in pX6_in lX6_41 dX6_set_8 rfl rfl (Nat.le_of_ble_eq_true rfl) (Nat.le_of_ble_eq_true rfl) (by decide) (fun M' h' => ?_)
  subst h'
  rw [zin_t (by omega) hw (by decide)]
  refine g_if_ne_b (tgt := 20) dX6_set_11 (by decide) (fun h1 => ?_) (fun h1 => ?_)
  rotate_left
  · cases h1
  refine g_iload_n dX6_set_20 rfl ?_
  refine g_iload_n dX6_set_21 rfl ?_
  refine g_callS_i (kX6_maySet (nI v) hw) oX6_maySet pX6_maySet lX6_164 dX6_set_22 rfl rfl (Nat.le_of_ble_eq_true rfl) (Nat.le_of_ble_eq_true rfl) (by decide) (fun M' h' => ?_)
  subst h'
  rw [zin_t (by omega) hv (by omega)]
  refine g_if_ne_b (tgt := 34) dX6_set_25 (by decide) (fun h2 => ?_) (fun h2 => ?_)
  rotate_left
  · cases h2
  refine g_aload_n dX6_set_34 rfl ?_
  refine g_iload_n dX6_set_35 rfl ?_
  refine g_iload_n dX6_set_36 rfl ?_
  refine g_callV_i (kX6_isGoodWith hX hw (v := v) (by omega)) oX6_isGoodWith pX6_isGoodWith lX6_167 dX6_set_37 rfl rfl rfl rfl rfl (Nat.le_of_ble_eq_true rfl) (Nat.le_of_ble_eq_true rfl) (by decide) (fun M' h' => ?_)
  obtain ⟨AT', CH', CF', CT', mn', cl', rfl⟩ := h'
  rw [h]
  refine g_if_ne_b (tgt := 49) dX6_set_40 (by decide) (fun h3 => ?_) (fun h3 => ?_)
  rotate_left
  · cases h3
  refine g_aload_n dX6_set_49 rfl ?_
  refine g_callV_v (kX6_save (SS := SS) hs6) oX6_save pX6_save lX6_60 dX6_set_50 rfl rfl rfl rfl rfl (Nat.le_of_ble_eq_true rfl) (Nat.le_of_ble_eq_true rfl) (by decide) (fun M' h' => ?_)
  subst h'
  refine g_aload_n dX6_set_53 rfl ?_
  refine g_get fX6_7 dX6_set_54 rfl rfl ?_
  refine g_iload_n dX6_set_57 rfl ?_
  refine g_iald_n dX6_set_58 rfl (by omega) (by decide) ?_
  refine g_istore_n dX6_set_59 (by decide) ?_
  refine g_aload_n dX6_set_60 rfl ?_
  refine g_get fX6_7 dX6_set_61 rfl rfl ?_
  refine g_iload_n dX6_set_64 rfl ?_
  refine g_iload_n dX6_set_65 rfl ?_
  refine g_mst_row dX6_set_66 (by omega) ?_
  refine g_iload_n dX6_set_67 rfl ?_
  exact g_ireturn dX6_set_68 rfl rfl ⟨rfl, rfl, AT', CH', CF', CT', mn', cl', rfl⟩
theorem kX6_append1 (c : Int32) (h : zin c (nI 33) (nI 126) = false) : Cn mX6_append 1 0 0 none [.ref 233, .int c] (mM M0 X SV SN AT CH CF CT BU PT sm ik th mn cl ln sp nu pa hs) (zi (nI 0) (fun M' => M' = mM M0 X SV SN AT CH CF CT BU PT sm ik 1 mn cl ln sp nu pa hs)) := by
  refine g_aload_n dX6_append_0 rfl ?_
  refine g_iconst (v := nI 0) dX6_append_1 (by decide) ?_
  refine g_mput_thrown fX6_37 dX6_append_2 ?_
  refine g_iload_n dX6_append_5 rfl ?_
  refine g_bipush (v := nI 33) dX6_append_6 (by decide) ?_
  refine g_bipush (v := nI 126) dX6_append_8 (by decide) ?_
  refine g_callS_i (kX6_in c (nI 33) (nI 126)) oX6_in pX6_in lX6_41 dX6_append_10 rfl rfl (Nat.le_of_ble_eq_true rfl) (Nat.le_of_ble_eq_true rfl) (by decide) (fun M' h' => ?_)
  subst h'
  refine g_if_ne_b (tgt := 22) dX6_append_13 (by decide) (fun h1 => ?_) (fun h1 => ?_)
  · rw [h] at h1; cases h1
  refine g_aload_n dX6_append_16 rfl ?_
  refine g_iconst (v := nI 1) dX6_append_17 (by decide) ?_
  refine g_callV_i (kX6_fails 1) oX6_fails pX6_fails lX6_48 dX6_append_18 rfl rfl rfl rfl rfl (Nat.le_of_ble_eq_true rfl) (Nat.le_of_ble_eq_true rfl) (by decide) (fun M' h' => ?_)
  subst h'
  exact g_ireturn dX6_append_21 rfl rfl ⟨rfl, rfl, rfl⟩
theorem kX6_append2 {c : Nat} (h1 : 33 ≤ c) (h2 : c ≤ 126) : Cn mX6_append 1 0 0 none [.ref 233, .int (nI c)] (mM M0 X SV SN AT CH CF CT BU PT sm ik th mn cl 60 sp nu pa hs) (zi (nI 0) (fun M' => M' = mM M0 X SV SN AT CH CF CT BU PT sm ik 2 mn cl 60 sp nu pa hs)) := by
  refine g_aload_n dX6_append_0 rfl ?_
  refine g_iconst (v := nI 0) dX6_append_1 (by decide) ?_
  refine g_mput_thrown fX6_37 dX6_append_2 ?_
  refine g_iload_n dX6_append_5 rfl ?_
  refine g_bipush (v := nI 33) dX6_append_6 (by decide) ?_
  refine g_bipush (v := nI 126) dX6_append_8 (by decide) ?_
  refine g_callS_i (kX6_in (nI c) (nI 33) (nI 126)) oX6_in pX6_in lX6_41 dX6_append_10 rfl rfl (Nat.le_of_ble_eq_true rfl) (Nat.le_of_ble_eq_true rfl) (by decide) (fun M' h' => ?_)
  subst h'
  rw [zin_t h1 h2 (by decide)]
  refine g_if_ne_b (tgt := 22) dX6_append_13 (by decide) (fun h1 => ?_) (fun h1 => ?_)
  rotate_left
  · cases h1
  refine g_aload_n dX6_append_22 rfl ?_
  refine g_get fX6_170 dX6_append_23 rfl rfl ?_
  refine g_bipush (v := nI 60) dX6_append_26 (by decide) ?_
  refine g_icmp_ne_n (tgt := 37) dX6_append_28 (by decide) (by omega) (by omega) (fun h3 => ?_) (fun h3 => ?_)
  · exact absurd rfl h3
  refine g_aload_n dX6_append_31 rfl ?_
  refine g_iconst (v := nI 2) dX6_append_32 (by decide) ?_
  refine g_callV_i (kX6_fails 2) oX6_fails pX6_fails lX6_48 dX6_append_33 rfl rfl rfl rfl rfl (Nat.le_of_ble_eq_true rfl) (Nat.le_of_ble_eq_true rfl) (by decide) (fun M' h' => ?_)
  subst h'
  exact g_ireturn dX6_append_36 rfl rfl ⟨rfl, rfl, rfl⟩
theorem kX6_append {c : Nat} (h1 : 33 ≤ c) (h2 : c ≤ 126) (hl : ln < 60) : Cn mX6_append 1 0 0 none [.ref 233, .int (nI c)] (mM M0 X SV SN AT CH CF CT BU PT sm ik th mn cl ln sp nu pa hs) (zi (nI (ln + 1)) (fun M' => M' = mM M0 X SV SN AT CH CF CT (uN BU ln c) PT sm ik 0 mn cl (ln+1) sp nu pa hs)) := by
  refine g_aload_n dX6_append_0 rfl ?_
  refine g_iconst (v := nI 0) dX6_append_1 (by decide) ?_
  refine g_mput_thrown fX6_37 dX6_append_2 ?_
  refine g_iload_n dX6_append_5 rfl ?_
  refine g_bipush (v := nI 33) dX6_append_6 (by decide) ?_
  refine g_bipush (v := nI 126) dX6_append_8 (by decide) ?_
  refine g_callS_i (kX6_in (nI c) (nI 33) (nI 126)) oX6_in pX6_in lX6_41 dX6_append_10 rfl rfl (Nat.le_of_ble_eq_true rfl) (Nat.le_of_ble_eq_true rfl) (by decide) (fun M' h' => ?_)
  subst h'
  rw [zin_t h1 h2 (by decide)]
  refine g_if_ne_b (tgt := 22) dX6_append_13 (by decide) (fun h1 => ?_) (fun h1 => ?_)
  rotate_left
  · cases h1
  refine g_aload_n dX6_append_22 rfl ?_
  refine g_get fX6_170 dX6_append_23 rfl rfl ?_
  refine g_bipush (v := nI 60) dX6_append_26 (by decide) ?_
  refine g_icmp_ne_n (tgt := 37) dX6_append_28 (by decide) (by omega) (by omega) (fun h3 => ?_) (fun h3 => ?_)
  · refine g_aload_n dX6_append_37 rfl ?_
    refine g_get fX6_31 dX6_append_38 rfl rfl ?_
    refine g_aload_n dX6_append_41 rfl ?_
    refine g_get fX6_170 dX6_append_42 rfl rfl ?_
    refine g_iload_n dX6_append_45 rfl ?_
    refine g_mst_buffer dX6_append_46 (by omega) ?_
    refine g_aload_n dX6_append_47 rfl ?_
    refine g_dup dX6_append_48 rfl ?_
    refine g_get fX6_170 dX6_append_49 rfl rfl ?_
    refine g_iconst (v := nI 1) dX6_append_52 (by decide) ?_
    refine g_iadd_n dX6_append_53 ?_
    refine g_mput_length fX6_170 dX6_append_54 ?_
    refine g_aload_n dX6_append_57 rfl ?_
    refine g_get fX6_170 dX6_append_58 rfl rfl ?_
    exact g_ireturn dX6_append_61 rfl rfl ⟨rfl, rfl, rfl⟩
  · omega
theorem kX6_clearBuffer : Cn mX6_clearBuffer 0 0 0 none [.ref 233] (mM M0 X SV SN AT CH CF CT BU PT sm ik th mn cl ln sp nu pa hs) (zi (nI ln) (fun M' => M' = mM M0 X SV SN AT CH CF CT BU PT sm ik 0 mn cl 0 sp nu pa hs)) := by
  refine g_aload_n dX6_clearBuffer_0 rfl ?_
  refine g_iconst (v := nI 0) dX6_clearBuffer_1 (by decide) ?_
  refine g_mput_thrown fX6_37 dX6_clearBuffer_2 ?_
  refine g_aload_n dX6_clearBuffer_5 rfl ?_
  refine g_get fX6_170 dX6_clearBuffer_6 rfl rfl ?_
  refine g_istore_n dX6_clearBuffer_9 (by decide) ?_
  refine g_aload_n dX6_clearBuffer_10 rfl ?_
  refine g_iconst (v := nI 0) dX6_clearBuffer_11 (by decide) ?_
  refine g_mput_length fX6_170 dX6_clearBuffer_12 ?_
  refine g_iload_n dX6_clearBuffer_15 rfl ?_
  exact g_ireturn dX6_clearBuffer_16 rfl rfl ⟨rfl, rfl, rfl⟩
end MOD12
