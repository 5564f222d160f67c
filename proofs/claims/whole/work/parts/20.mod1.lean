/-! the reference: leaves -/
abbrev zpi (M : zM) (r : Int32) : zP := zi r (fun M' => M' = M)
def zin (v lo hi : Int32) : Bool := decide (lo ≤ v) && decide (v ≤ hi)
theorem zin_n {w a b : Nat} (hw : w < 2 ^ 31) (ha : a < 2 ^ 31) (hb : b < 2 ^ 31) : zin (nI w) (nI a) (nI b) = (decide (a ≤ w) && decide (w ≤ b)) := by
  simp only [zin, nI_leI ha hw, nI_leI hw hb]
theorem zin_i {v : Int32} {a b : Nat} (ha : a < 2 ^ 31) (hb : b < 2 ^ 31) (h : zin v (nI a) (nI b) = true) : ∃ n, a ≤ n ∧ n ≤ b ∧ v = nI n := by
  simp only [zin, Bool.and_eq_true, decide_eq_true_eq] at h
  have h0 : ¬ v < 0 := fun q => by
    have h1 : False := Int32.not_le.mpr q (Int32.le_trans (nI_pos' ha) h.1)
    exact h1
  obtain ⟨n, hn, rfl⟩ := nI_of h0
  exact ⟨n, (nI_leI ha hn).mp h.1, (nI_leI hn hb).mp h.2, rfl⟩
theorem kX6_in {M : zM} (v lo hi : Int32) : Cn mX6_in 0 0 0 none [.int v, .int lo, .int hi] M (zpi M (nI (zin v lo hi).toNat)) := by
  refine g_iload_n dX6_in_0 rfl ?_
  refine g_iload_n dX6_in_1 rfl ?_
  refine g_icmp_lt (tgt := 14) dX6_in_2 (by decide) (fun h => ?_) (fun h => ?_)
  · refine g_iconst (v := nI 0) dX6_in_14 (by decide) ?_
    refine g_ireturn dX6_in_15 rfl rfl ⟨rfl, ?_, rfl⟩
    rw [show zin v lo hi = false by simp [zin, Int32.not_le.mpr h]]
    rfl
  refine g_iload_n dX6_in_5 rfl ?_
  refine g_iload_n dX6_in_6 rfl ?_
  refine g_icmp_gt (tgt := 14) dX6_in_7 (by decide) (fun h2 => ?_) (fun h2 => ?_)
  · refine g_iconst (v := nI 0) dX6_in_14 (by decide) ?_
    refine g_ireturn dX6_in_15 rfl rfl ⟨rfl, ?_, rfl⟩
    rw [show zin v lo hi = false by simp [zin, Int32.not_le.mpr h2]]
    rfl
  refine g_iconst (v := nI 1) dX6_in_10 (by decide) ?_
  refine g_goto (tgt := 15) dX6_in_11 (by decide) ?_
  refine g_ireturn dX6_in_15 rfl rfl ⟨rfl, ?_, rfl⟩
  rw [show zin v lo hi = true by simp [zin, Int32.not_lt.mp h, Int32.not_lt.mp h2]]
  rfl
theorem kX6_isHall {M : zM} (v : Int32) : Cn mX6_isHall 1 0 0 none [.int v] M (zpi M (nI (zin v (nI 0) (nI 2)).toNat)) := by
  refine g_iload_n dX6_isHall_0 rfl ?_
  refine g_iconst (v := nI 0) dX6_isHall_1 (by decide) ?_
  refine g_iconst (v := nI 2) dX6_isHall_2 (by decide) ?_
  refine g_callS_i (kX6_in v (nI 0) (nI 2)) oX6_in pX6_in lX6_41 dX6_isHall_3 rfl rfl (Nat.le_of_ble_eq_true rfl) (Nat.le_of_ble_eq_true rfl) (by decide) (fun M' h' => ?_)
  subst h'
  exact g_ireturn_b dX6_isHall_6 rfl ⟨rfl, rfl, rfl⟩
theorem kX6_isDay {M : zM} (v : Int32) : Cn mX6_isDay 1 0 0 none [.int v] M (zpi M (nI (zin v (nI 0) (nI 83)).toNat)) := by
  refine g_iload_n dX6_isDay_0 rfl ?_
  refine g_iconst (v := nI 0) dX6_isDay_1 (by decide) ?_
  refine g_bipush (v := nI 83) dX6_isDay_2 (by decide) ?_
  refine g_callS_i (kX6_in v (nI 0) (nI 83)) oX6_in pX6_in lX6_41 dX6_isDay_4 rfl rfl (Nat.le_of_ble_eq_true rfl) (Nat.le_of_ble_eq_true rfl) (by decide) (fun M' h' => ?_)
  subst h'
  exact g_ireturn_b dX6_isDay_7 rfl ⟨rfl, rfl, rfl⟩
def zhrs (f t : Int32) : Bool := zin f (nI 0) (nI 23) && zin t (f + nI 1) (nI 24)
theorem kX6_areHours {M : zM} (f t : Int32) : Cn mX6_areHours 1 0 0 none [.int f, .int t] M (zpi M (nI (zhrs f t).toNat)) := by
  refine g_iload_n dX6_areHours_0 rfl ?_
  refine g_iconst (v := nI 0) dX6_areHours_1 (by decide) ?_
  refine g_bipush (v := nI 23) dX6_areHours_2 (by decide) ?_
  refine g_callS_i (kX6_in f (nI 0) (nI 23)) oX6_in pX6_in lX6_41 dX6_areHours_4 rfl rfl (Nat.le_of_ble_eq_true rfl) (Nat.le_of_ble_eq_true rfl) (by decide) (fun M' h' => ?_)
  subst h'
  refine g_if_eq_b (tgt := 26) dX6_areHours_7 (by decide) (fun h1 => ?_) (fun h1 => ?_)
  · refine g_iconst (v := nI 0) dX6_areHours_26 (by decide) ?_
    refine g_ireturn dX6_areHours_27 rfl rfl ⟨rfl, ?_, rfl⟩
    simp [zhrs, h1]
  refine g_iload_n dX6_areHours_10 rfl ?_
  refine g_iload_n dX6_areHours_11 rfl ?_
  refine g_iconst (v := nI 1) dX6_areHours_12 (by decide) ?_
  refine g_iadd dX6_areHours_13 ?_
  refine g_bipush (v := nI 24) dX6_areHours_14 (by decide) ?_
  refine g_callS_i (kX6_in t (f + nI 1) (nI 24)) oX6_in pX6_in lX6_41 dX6_areHours_16 rfl rfl (Nat.le_of_ble_eq_true rfl) (Nat.le_of_ble_eq_true rfl) (by decide) (fun M' h' => ?_)
  subst h'
  refine g_if_eq_b (tgt := 26) dX6_areHours_19 (by decide) (fun h2 => ?_) (fun h2 => ?_)
  · refine g_iconst (v := nI 0) dX6_areHours_26 (by decide) ?_
    refine g_ireturn dX6_areHours_27 rfl rfl ⟨rfl, ?_, rfl⟩
    simp [zhrs, h2]
  refine g_iconst (v := nI 1) dX6_areHours_22 (by decide) ?_
  refine g_goto (tgt := 27) dX6_areHours_23 (by decide) ?_
  refine g_ireturn dX6_areHours_27 rfl rfl ⟨rfl, ?_, rfl⟩
  simp [zhrs, h1, h2]
def zwho (r t : Int32) : Bool := zin r (nI 1) (nI 9) && zin t (nI 0) (nI 19)
theorem kX6_isWho {M : zM} (r t : Int32) : Cn mX6_isWho 1 0 0 none [.int r, .int t] M (zpi M (nI (zwho r t).toNat)) := by
  refine g_iload_n dX6_isWho_0 rfl ?_
  refine g_iconst (v := nI 1) dX6_isWho_1 (by decide) ?_
  refine g_bipush (v := nI 9) dX6_isWho_2 (by decide) ?_
  refine g_callS_i (kX6_in r (nI 1) (nI 9)) oX6_in pX6_in lX6_41 dX6_isWho_4 rfl rfl (Nat.le_of_ble_eq_true rfl) (Nat.le_of_ble_eq_true rfl) (by decide) (fun M' h' => ?_)
  subst h'
  refine g_if_eq_b (tgt := 24) dX6_isWho_7 (by decide) (fun h1 => ?_) (fun h1 => ?_)
  · refine g_iconst (v := nI 0) dX6_isWho_24 (by decide) ?_
    refine g_ireturn dX6_isWho_25 rfl rfl ⟨rfl, ?_, rfl⟩
    simp [zwho, h1]
  refine g_iload_n dX6_isWho_10 rfl ?_
  refine g_iconst (v := nI 0) dX6_isWho_11 (by decide) ?_
  refine g_bipush (v := nI 19) dX6_isWho_12 (by decide) ?_
  refine g_callS_i (kX6_in t (nI 0) (nI 19)) oX6_in pX6_in lX6_41 dX6_isWho_14 rfl rfl (Nat.le_of_ble_eq_true rfl) (Nat.le_of_ble_eq_true rfl) (by decide) (fun M' h' => ?_)
  subst h'
  refine g_if_eq_b (tgt := 24) dX6_isWho_17 (by decide) (fun h2 => ?_) (fun h2 => ?_)
  · refine g_iconst (v := nI 0) dX6_isWho_24 (by decide) ?_
    refine g_ireturn dX6_isWho_25 rfl rfl ⟨rfl, ?_, rfl⟩
    simp [zwho, h2]
  refine g_iconst (v := nI 1) dX6_isWho_20 (by decide) ?_
  refine g_goto (tgt := 25) dX6_isWho_21 (by decide) ?_
  refine g_ireturn dX6_isWho_25 rfl rfl ⟨rfl, ?_, rfl⟩
  simp [zwho, h1, h2]
section MOD1
variable {M0 : zM} {X SV SN AT CH CF CT BU PT : Nat → Nat} {sm ik th mn cl ln sp nu pa : Nat} {hs : Int64}
theorem kX6_thrown : Cn mX6_thrown 0 0 0 none [.ref 233] (mM M0 X SV SN AT CH CF CT BU PT sm ik th mn cl ln sp nu pa hs) (zpi (mM M0 X SV SN AT CH CF CT BU PT sm ik th mn cl ln sp nu pa hs) (nI th)) := by
  refine g_aload_n dX6_thrown_0 rfl ?_
  refine g_get fX6_37 dX6_thrown_1 rfl rfl ?_
  exact g_ireturn dX6_thrown_4 rfl rfl ⟨rfl, rfl, rfl⟩
theorem kX6_fails (e : Nat) : Cn mX6_fails 0 0 0 none [.ref 233, .int (nI e)] (mM M0 X SV SN AT CH CF CT BU PT sm ik th mn cl ln sp nu pa hs) (zi (nI 0) (fun M' => M' = mM M0 X SV SN AT CH CF CT BU PT sm ik e mn cl ln sp nu pa hs)) := by
  refine g_aload_n dX6_fails_0 rfl ?_
  refine g_iload_n dX6_fails_1 rfl ?_
  refine g_mput_thrown fX6_37 dX6_fails_2 ?_
  refine g_iconst (v := nI 0) dX6_fails_5 (by decide) ?_
  exact g_ireturn dX6_fails_6 rfl rfl ⟨rfl, rfl, rfl⟩
theorem kX6_weekly {i w : Nat} (h : 12 + 10 * i + w < 177) : Cn mX6_weekly 0 0 0 none [.ref 233, .int (nI i), .int (nI w)] (mM M0 X SV SN AT CH CF CT BU PT sm ik th mn cl ln sp nu pa hs) (zpi (mM M0 X SV SN AT CH CF CT BU PT sm ik th mn cl ln sp nu pa hs) (nI (X (12 + 10 * i + w)))) := by
  refine g_aload_n dX6_weekly_0 rfl ?_
  refine g_get fX6_7 dX6_weekly_1 rfl rfl ?_
  refine g_bipush (v := nI 12) dX6_weekly_4 (by decide) ?_
  refine g_bipush (v := nI 10) dX6_weekly_6 (by decide) ?_
  refine g_iload_n dX6_weekly_8 rfl ?_
  refine g_imul_n dX6_weekly_9 ?_
  refine g_iadd_n dX6_weekly_10 ?_
  refine g_iload_n dX6_weekly_11 rfl ?_
  refine g_iadd_n dX6_weekly_12 ?_
  refine g_iald_n dX6_weekly_13 rfl (by omega) (by decide) ?_
  exact g_ireturn dX6_weekly_14 rfl rfl ⟨rfl, rfl, rfl⟩
theorem kX6_dated {i w : Nat} (h : 93 + 7 * i + w < 177) : Cn mX6_dated 0 0 0 none [.ref 233, .int (nI i), .int (nI w)] (mM M0 X SV SN AT CH CF CT BU PT sm ik th mn cl ln sp nu pa hs) (zpi (mM M0 X SV SN AT CH CF CT BU PT sm ik th mn cl ln sp nu pa hs) (nI (X (93 + 7 * i + w)))) := by
  refine g_aload_n dX6_dated_0 rfl ?_
  refine g_get fX6_7 dX6_dated_1 rfl rfl ?_
  refine g_bipush (v := nI 93) dX6_dated_4 (by decide) ?_
  refine g_bipush (v := nI 7) dX6_dated_6 (by decide) ?_
  refine g_iload_n dX6_dated_8 rfl ?_
  refine g_imul_n dX6_dated_9 ?_
  refine g_iadd_n dX6_dated_10 ?_
  refine g_iload_n dX6_dated_11 rfl ?_
  refine g_iadd_n dX6_dated_12 ?_
  refine g_iald_n dX6_dated_13 rfl (by omega) (by decide) ?_
  exact g_ireturn dX6_dated_14 rfl rfl ⟨rfl, rfl, rfl⟩
theorem kX6_allLets : Cn mX6_allLets 0 0 0 none [.ref 233] (mM M0 X SV SN AT CH CF CT BU PT sm ik th mn cl ln sp nu pa hs) (zpi (mM M0 X SV SN AT CH CF CT BU PT sm ik th mn cl ln sp nu pa hs) (nI (X 11 + X 92))) := by
  refine g_aload_n dX6_allLets_0 rfl ?_
  refine g_get fX6_7 dX6_allLets_1 rfl rfl ?_
  refine g_bipush (v := nI 11) dX6_allLets_4 (by decide) ?_
  refine g_iald_n dX6_allLets_6 rfl (by omega) (by decide) ?_
  refine g_aload_n dX6_allLets_7 rfl ?_
  refine g_get fX6_7 dX6_allLets_8 rfl rfl ?_
  refine g_bipush (v := nI 92) dX6_allLets_11 (by decide) ?_
  refine g_iald_n dX6_allLets_13 rfl (by omega) (by decide) ?_
  refine g_iadd_n dX6_allLets_14 ?_
  exact g_ireturn dX6_allLets_15 rfl rfl ⟨rfl, rfl, rfl⟩
/-- all of a state but the sums of money and lets that gave way is small -/
def rB (X : Nat → Nat) : Prop := ∀ j, j < 177 → j ≠ 8 → j ≠ 9 → j ≠ 10 → X j < 1048576
/-- a regular let stands on a day -/
def stdR (X : Nat → Nat) (i day : Nat) : Bool := decide (X (12 + 10 * i + 1) = day % 7) && ((decide (X (12 + 10 * i + 7) ≤ day / 7) && decide (day / 7 ≤ X (12 + 10 * i + 8))) && decide (X (12 + 10 * i + 9) / 2 ^ (day / 7) % 2 = 0))
theorem kX6_standsOn (hX : rB X) {i day : Nat} (hi : i < 8) (hd : day < 84) : Cn mX6_standsOn 1 0 0 none [.ref 233, .int (nI i), .int (nI day)] (mM M0 X SV SN AT CH CF CT BU PT sm ik th mn cl ln sp nu pa hs) (zpi (mM M0 X SV SN AT CH CF CT BU PT sm ik th mn cl ln sp nu pa hs) (nI (stdR X i day).toNat)) := by
  have b1 := hX (12 + 10 * i + 1) (by omega) (by omega) (by omega) (by omega)
  have b7 := hX (12 + 10 * i + 7) (by omega) (by omega) (by omega) (by omega)
  have b8 := hX (12 + 10 * i + 8) (by omega) (by omega) (by omega) (by omega)
  have b9 := hX (12 + 10 * i + 9) (by omega) (by omega) (by omega) (by omega)
  refine g_iload_n dX6_standsOn_0 rfl ?_
  refine g_bipush (v := nI 7) dX6_standsOn_1 (by decide) ?_
  refine g_idiv_n dX6_standsOn_3 (by omega) (by omega) (by omega) ?_
  refine g_istore_n dX6_standsOn_4 (by decide) ?_
  refine g_aload_n dX6_standsOn_5 rfl ?_
  refine g_iload_n dX6_standsOn_6 rfl ?_
  refine g_iconst (v := nI 1) dX6_standsOn_7 (by decide) ?_
  refine g_callV_i (kX6_weekly (i := i) (w := 1) (by omega)) oX6_weekly pX6_weekly lX6_63 dX6_standsOn_8 rfl rfl rfl rfl rfl (Nat.le_of_ble_eq_true rfl) (Nat.le_of_ble_eq_true rfl) (by decide) (fun M' h' => ?_)
  subst h'
  refine g_iload_n dX6_standsOn_11 rfl ?_
  refine g_bipush (v := nI 7) dX6_standsOn_12 (by decide) ?_
  refine g_irem_n dX6_standsOn_14 (by omega) (by omega) (by omega) ?_
  refine g_icmp_ne_n (tgt := 57) dX6_standsOn_15 (by decide) (by omega) (by omega) (fun h1 => ?_) (fun h1 => ?_)
  · refine g_iconst (v := nI 0) dX6_standsOn_57 (by decide) ?_
    refine g_ireturn dX6_standsOn_58 rfl rfl ⟨rfl, ?_, rfl⟩
    simp [stdR, h1]
  refine g_iload_n dX6_standsOn_18 rfl ?_
  refine g_aload_n dX6_standsOn_19 rfl ?_
  refine g_iload_n dX6_standsOn_20 rfl ?_
  refine g_bipush (v := nI 7) dX6_standsOn_21 (by decide) ?_
  refine g_callV_i (kX6_weekly (i := i) (w := 7) (by omega)) oX6_weekly pX6_weekly lX6_63 dX6_standsOn_23 rfl rfl rfl rfl rfl (Nat.le_of_ble_eq_true rfl) (Nat.le_of_ble_eq_true rfl) (by decide) (fun M' h' => ?_)
  subst h'
  refine g_aload_n dX6_standsOn_26 rfl ?_
  refine g_iload_n dX6_standsOn_27 rfl ?_
  refine g_bipush (v := nI 8) dX6_standsOn_28 (by decide) ?_
  refine g_callV_i (kX6_weekly (i := i) (w := 8) (by omega)) oX6_weekly pX6_weekly lX6_63 dX6_standsOn_30 rfl rfl rfl rfl rfl (Nat.le_of_ble_eq_true rfl) (Nat.le_of_ble_eq_true rfl) (by decide) (fun M' h' => ?_)
  subst h'
  refine g_callS_i (kX6_in (nI (day / 7)) (nI (X (12 + 10 * i + 7))) (nI (X (12 + 10 * i + 8)))) oX6_in pX6_in lX6_41 dX6_standsOn_33 rfl rfl (Nat.le_of_ble_eq_true rfl) (Nat.le_of_ble_eq_true rfl) (by decide) (fun M' h' => ?_)
  subst h'
  rw [zin_n (by omega) (by omega) (by omega)]
  refine g_if_eq_b (tgt := 57) dX6_standsOn_36 (by decide) (fun h2 => ?_) (fun h2 => ?_)
  · refine g_iconst (v := nI 0) dX6_standsOn_57 (by decide) ?_
    refine g_ireturn dX6_standsOn_58 rfl rfl ⟨rfl, ?_, rfl⟩
    simp only [stdR, h2]
    simp
  refine g_aload_n dX6_standsOn_39 rfl ?_
  refine g_iload_n dX6_standsOn_40 rfl ?_
  refine g_bipush (v := nI 9) dX6_standsOn_41 (by decide) ?_
  refine g_callV_i (kX6_weekly (i := i) (w := 9) (by omega)) oX6_weekly pX6_weekly lX6_63 dX6_standsOn_43 rfl rfl rfl rfl rfl (Nat.le_of_ble_eq_true rfl) (Nat.le_of_ble_eq_true rfl) (by decide) (fun M' h' => ?_)
  subst h'
  refine g_iload_n dX6_standsOn_46 rfl ?_
  refine g_ishr_n dX6_standsOn_47 (by omega) (by omega) ?_
  refine g_iconst (v := nI 1) dX6_standsOn_48 (by decide) ?_
  refine g_iand1_n dX6_standsOn_49 ?_
  refine g_if_ne_n (tgt := 57) dX6_standsOn_50 (by decide) (by omega) (fun h3 => ?_) (fun h3 => ?_)
  · refine g_iconst (v := nI 0) dX6_standsOn_57 (by decide) ?_
    refine g_ireturn dX6_standsOn_58 rfl rfl ⟨rfl, ?_, rfl⟩
    simp only [stdR, decide_eq_false h3]
    simp
  refine g_iconst (v := nI 1) dX6_standsOn_53 (by decide) ?_
  refine g_goto (tgt := 58) dX6_standsOn_54 (by decide) ?_
  refine g_ireturn dX6_standsOn_58 rfl rfl ⟨rfl, ?_, rfl⟩
  simp only [stdR, h2, h1, h3]
  simp
end MOD1
