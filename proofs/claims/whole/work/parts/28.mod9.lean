/-! the reference: looks -/
/-- a let as it must be -/
def lOK (X : Nat → Nat) (p : Nat) : Prop := X p ≤ 2 ∧ X (p + 2) < X (p + 3) ∧ X (p + 3) ≤ 24 ∧ 1 ≤ X (p + 4) ∧ X (p + 4) ≤ 9 ∧ X (p + 5) ≤ 19 ∧ X (p + 6) ≤ 240000
def wf2 (X : Nat → Nat) : Prop := (∀ i, i < X 11 → lOK X (12 + 10 * i) ∧ X (12 + 10 * i + 1) ≤ 6 ∧ X (12 + 10 * i + 7) ≤ X (12 + 10 * i + 8) ∧ X (12 + 10 * i + 8) ≤ 11 ∧ X (12 + 10 * i + 9) < 4096) ∧ ∀ i, i < X 92 → lOK X (93 + 7 * i) ∧ X (93 + 7 * i + 1) ≤ 83
theorem lk_ok {X : Nat → Nat} (h : wf2 X) {day p : Nat} (hp : p ∈ lk X day) : lOK X p := by
  rcases List.mem_append.mp hp with h1 | h1
  · obtain ⟨i, h2, rfl, -⟩ := lkR_mem h1
    exact (h.1 i h2).1
  · obtain ⟨i, h2, rfl, -⟩ := lkS_mem h1
    exact (h.2 i h2).1
def fdS (X : Nat → Nat) (i : Nat) : Nat → Nat → Int32
  | 0, _ => -1
  | n + 1, k => bif stdR X i k then nI k else fdS X i n (k + 1)
def ofR (X : Nat → Nat) (i w : Nat) : Int32 := if w < 9 then nI (X (12 + 10 * i + w)) else if w = 9 then nI (dcnt X i 84) else fdS X i 84 0
def tnS (X : Nat → Nat) (h hr : Nat) : List Nat → Int32 → Int32
  | [], a => a
  | p :: ps, a => tnS X h hr ps (bif decide (X p = h) && zin (nI hr) (nI (X (p + 2))) (nI (X (p + 3)) - nI 1) then nI (X (p + 5)) else a)
def ownH (X : Nat → Nat) (w p : Nat) : Nat := if w = 0 then 1 else if w = 1 then X (p + 3) - X (p + 2) else X (p + 6)
def ihS (X : Nat → Nat) (h w : Nat) : List Nat → Nat → Nat
  | [], a => a
  | p :: ps, a => ihS X h w ps (a + if X p = h then ownH X w p else 0)
def ofH (X : Nat → Nat) (h day w : Nat) : Int32 := if w = 0 then nI (ihS X h 0 (lk X day) 0) else if w = 3 then nI (ihS X h 2 (lk X day) 0) else nI 24 - nI (ihS X h 1 (lk X day) 0)
def tqB (te : Int32) (v : Nat) : Bool := decide (te = -1) || decide (nI v = te)
def ownR (X : Nat → Nat) (w i : Nat) : Nat := if w = 0 then 1 else if w = 1 then dcnt X i 84 else dcnt X i 84 * X (12 + 10 * i + 6)
def ownS (X : Nat → Nat) (w i : Nat) : Nat := if w < 2 then 1 else X (93 + 7 * i + 6)
def otR (X : Nat → Nat) (te : Int32) (w : Nat) : Nat → Nat
  | 0 => 0
  | n + 1 => otR X te w n + (bif tqB te (X (12 + 10 * n + 5)) then ownR X w n else 0)
def otS (X : Nat → Nat) (te : Int32) (w : Nat) : Nat → Nat
  | 0 => 0
  | n + 1 => otS X te w n + (bif tqB te (X (93 + 7 * n + 5)) then ownS X w n else 0)
def oT (X : Nat → Nat) (te : Int32) (w : Nat) : Nat := otR X te w (X 11) + otS X te w (X 92)
def cnt0 (X : Nat → Nat) (sm w : Nat) : Nat := if w = 0 then X 11 else if w = 1 then X 92 else if w = 2 then oT X (-1) 1 else if w = 3 then oT X (-1) 2 else if w = 4 then X 8 else if w = 5 then X 9 else if w = 6 then X 10 else if w = 12 then sm else X (w - 7)
def ffH (X : Nat → Nat) (h hrs day : Nat) : Nat → Nat → Option Nat
  | 0, _ => none
  | n + 1, f => if f + hrs ≤ 24 then (if rfs X h day f (f + hrs) 1 = 0 then some (24 * day + f) else ffH X h hrs day n (f + 1)) else none
def ffD (X : Nat → Nat) (h hrs : Nat) : Nat → Nat → Int32
  | 0, _ => -1
  | n + 1, day => match ffH X h hrs day 25 0 with | some v => nI v | none => ffD X h hrs n (day + 1)
def btN (X : Nat → Nat) : Nat → Int32 × Nat
  | 0 => (-1, 0)
  | n + 1 => if (btN X n).2 < oT X (nI n) 2 then (nI n, oT X (nI n) 2) else btN X n
section MOD9
variable {M0 : zM} {X SV SN AT CH CF CT BU PT : Nat → Nat} {sm ik th mn cl ln sp nu pa : Nat} {hs : Int64}
theorem fd1 (hX : wf0 X) {i : Nat} (hi : i < 8) : ∀ n k, k + n = 84 → G mX6_firstDayOf 2 0 0 none 2 [(0, .ref 233), (1, .int (nI i)), (2, .int (nI k))] [] (mM M0 X SV SN AT CH CF CT BU PT sm ik th mn cl ln sp nu pa hs) (zpi (mM M0 X SV SN AT CH CF CT BU PT sm ik th mn cl ln sp nu pa hs) (fdS X i n k)) := by
  intro n
  induction n with
  | zero =>
    intro k hk
    refine g_iload_n dX6_firstDayOf_2 rfl ?_
    refine g_bipush (v := nI 84) dX6_firstDayOf_3 (by decide) ?_
    refine g_icmp_ge_n (tgt := 25) dX6_firstDayOf_5 (by decide) (by omega) (by omega) (fun h1 => ?_) (fun h1 => ?_)
    · refine g_iconst (v := (-1)) dX6_firstDayOf_25 (by decide) ?_
      exact g_ireturn dX6_firstDayOf_26 rfl rfl ⟨rfl, rfl, rfl⟩
    · omega
  | succ n ih =>
    intro k hk
    refine g_iload_n dX6_firstDayOf_2 rfl ?_
    refine g_bipush (v := nI 84) dX6_firstDayOf_3 (by decide) ?_
    refine g_icmp_ge_n (tgt := 25) dX6_firstDayOf_5 (by decide) (by omega) (by omega) (fun h1 => ?_) (fun h1 => ?_)
    · omega
    refine g_aload_n dX6_firstDayOf_8 rfl ?_
    refine g_iload_n dX6_firstDayOf_9 rfl ?_
    refine g_iload_n dX6_firstDayOf_10 rfl ?_
    refine g_callV_i (kX6_standsOn hX.1 (i := i) (day := k) hi (by omega)) oX6_standsOn pX6_standsOn lX6_70 dX6_firstDayOf_11 rfl rfl rfl rfl rfl (Nat.le_of_ble_eq_true rfl) (Nat.le_of_ble_eq_true rfl) (by decide) (fun M' h' => ?_)
    subst h'
    unfold fdS
    refine g_if_eq_b (tgt := 19) dX6_firstDayOf_14 (by decide) (fun h2 => ?_) (fun h2 => ?_)
    · refine g_iinc_n (c := 1) dX6_firstDayOf_19 rfl (by decide) (by decide) ?_
      refine g_goto (tgt := 2) dX6_firstDayOf_22 (by decide) ?_
      rw [h2]
      exact g_loc rfl (ih (k + 1) (by omega))
    · refine g_iload_n dX6_firstDayOf_17 rfl ?_
      refine g_ireturn dX6_firstDayOf_18 rfl rfl ⟨rfl, ?_, rfl⟩
      rw [h2]
      rfl
theorem kX6_firstDayOf (hX : wf0 X) {i : Nat} (hi : i < 8) : Cn mX6_firstDayOf 2 0 0 none [.ref 233, .int (nI i)] (mM M0 X SV SN AT CH CF CT BU PT sm ik th mn cl ln sp nu pa hs) (zpi (mM M0 X SV SN AT CH CF CT BU PT sm ik th mn cl ln sp nu pa hs) (fdS X i 84 0)) := by
  refine g_iconst (v := nI 0) dX6_firstDayOf_0 (by decide) ?_
  refine g_istore_n dX6_firstDayOf_1 (by decide) ?_
  exact g_loc rfl (fd1 hX hi 84 0 (by omega))
theorem kX6_ofRegular (hX : wf0 X) {i w : Nat} (hi : i < 8) (hw : w ≤ 10) : Cn mX6_ofRegular 3 0 0 none [.ref 233, .int (nI i), .int (nI w)] (mM M0 X SV SN AT CH CF CT BU PT sm ik th mn cl ln sp nu pa hs) (zpi (mM M0 X SV SN AT CH CF CT BU PT sm ik th mn cl ln sp nu pa hs) (ofR X i w)) := by
  refine g_iload_n dX6_ofRegular_0 rfl ?_
  refine g_bipush (v := nI 9) dX6_ofRegular_1 (by decide) ?_
  unfold ofR
  refine g_icmp_ge_n (tgt := 15) dX6_ofRegular_3 (by decide) (by omega) (by omega) (fun h1 => ?_) (fun h1 => ?_)
  · refine g_iload_n dX6_ofRegular_15 rfl ?_
    refine g_bipush (v := nI 9) dX6_ofRegular_16 (by decide) ?_
    refine g_icmp_ne_n (tgt := 29) dX6_ofRegular_18 (by decide) (by omega) (by omega) (fun h2 => ?_) (fun h2 => ?_)
    · refine g_aload_n dX6_ofRegular_29 rfl ?_
      refine g_iload_n dX6_ofRegular_30 rfl ?_
      refine g_callV_i (kX6_firstDayOf hX hi) oX6_firstDayOf pX6_firstDayOf lX6_197 dX6_ofRegular_31 rfl rfl rfl rfl rfl (Nat.le_of_ble_eq_true rfl) (Nat.le_of_ble_eq_true rfl) (by decide) (fun M' h' => ?_)
      subst h'
      refine g_ireturn dX6_ofRegular_34 rfl rfl ⟨rfl, ?_, rfl⟩
      rw [if_neg (by omega), if_neg h2]
    · refine g_aload_n dX6_ofRegular_21 rfl ?_
      refine g_iload_n dX6_ofRegular_22 rfl ?_
      refine g_callV_i (kX6_daysOf hX hi) oX6_daysOf pX6_daysOf lX6_149 dX6_ofRegular_23 rfl rfl rfl rfl rfl (Nat.le_of_ble_eq_true rfl) (Nat.le_of_ble_eq_true rfl) (by decide) (fun M' h' => ?_)
      subst h'
      refine g_goto (tgt := 34) dX6_ofRegular_26 (by decide) ?_
      refine g_ireturn dX6_ofRegular_34 rfl rfl ⟨rfl, ?_, rfl⟩
      rw [if_neg (by omega), if_pos h2]
  · refine g_aload_n dX6_ofRegular_6 rfl ?_
    refine g_iload_n dX6_ofRegular_7 rfl ?_
    refine g_iload_n dX6_ofRegular_8 rfl ?_
    refine g_callV_i (kX6_weekly (i := i) (w := w) (by omega)) oX6_weekly pX6_weekly lX6_63 dX6_ofRegular_9 rfl rfl rfl rfl rfl (Nat.le_of_ble_eq_true rfl) (Nat.le_of_ble_eq_true rfl) (by decide) (fun M' h' => ?_)
    subst h'
    refine g_goto (tgt := 34) dX6_ofRegular_12 (by decide) ?_
    refine g_ireturn dX6_ofRegular_34 rfl rfl ⟨rfl, ?_, rfl⟩
    rw [if_pos h1]
theorem kX6_regularOf1 (v w : Int32) (h : zin v (nI 0) (nI (X 11) - nI 1) = false) : Cn mX6_regularOf 4 0 0 none [.ref 233, .int v, .int w] (mM M0 X SV SN AT CH CF CT BU PT sm ik th mn cl ln sp nu pa hs) (zi (nI 0) (fun M' => M' = mM M0 X SV SN AT CH CF CT BU PT sm ik 1 mn cl ln sp nu pa hs)) := by
  refine g_aload_n dX6_regularOf_0 rfl ?_
  refine g_iconst (v := nI 0) dX6_regularOf_1 (by decide) ?_
  refine g_mput_thrown fX6_37 dX6_regularOf_2 ?_
  refine g_iload_n dX6_regularOf_5 rfl ?_
  refine g_iconst (v := nI 0) dX6_regularOf_6 (by decide) ?_
  refine g_aload_n dX6_regularOf_7 rfl ?_
  refine g_get fX6_7 dX6_regularOf_8 rfl rfl ?_
  refine g_bipush (v := nI 11) dX6_regularOf_11 (by decide) ?_
  refine g_iald_n dX6_regularOf_13 rfl (by omega) (by decide) ?_
  refine g_iconst (v := nI 1) dX6_regularOf_14 (by decide) ?_
  refine g_isub dX6_regularOf_15 ?_
  refine g_callS_i (kX6_in v (nI 0) (nI (X 11) - nI 1)) oX6_in pX6_in lX6_41 dX6_regularOf_16 rfl rfl (Nat.le_of_ble_eq_true rfl) (Nat.le_of_ble_eq_true rfl) (by decide) (fun M' h' => ?_)
  subst h'
  refine g_if_ne_b (tgt := 28) dX6_regularOf_19 (by decide) (fun h1 => ?_) (fun h1 => ?_)
  · rw [h] at h1; cases h1
  refine g_aload_n dX6_regularOf_22 rfl ?_
  refine g_iconst (v := nI 1) dX6_regularOf_23 (by decide) ?_
  refine g_callV_i (kX6_fails 1) oX6_fails pX6_fails lX6_48 dX6_regularOf_24 rfl rfl rfl rfl rfl (Nat.le_of_ble_eq_true rfl) (Nat.le_of_ble_eq_true rfl) (by decide) (fun M' h' => ?_)
  subst h'
  exact g_ireturn dX6_regularOf_27 rfl rfl ⟨rfl, rfl, rfl⟩
theorem kX6_regularOf2 (v w : Int32) (h : zin v (nI 0) (nI (X 11) - nI 1) = true) (h2 : zin w (nI 0) (nI 10) = false) : Cn mX6_regularOf 4 0 0 none [.ref 233, .int v, .int w] (mM M0 X SV SN AT CH CF CT BU PT sm ik th mn cl ln sp nu pa hs) (zi (nI 0) (fun M' => M' = mM M0 X SV SN AT CH CF CT BU PT sm ik 2 mn cl ln sp nu pa hs)) := by
  refine g_aload_n dX6_regularOf_0 rfl ?_
  refine g_iconst (v := nI 0) dX6_regularOf_1 (by decide) ?_
  refine g_mput_thrown fX6_37 dX6_regularOf_2 ?_
  refine g_iload_n dX6_regularOf_5 rfl ?_
  refine g_iconst (v := nI 0) dX6_regularOf_6 (by decide) ?_
  refine g_aload_n dX6_regularOf_7 rfl ?_
  refine g_get fX6_7 dX6_regularOf_8 rfl rfl ?_
  refine g_bipush (v := nI 11) dX6_regularOf_11 (by decide) ?_
  refine g_iald_n dX6_regularOf_13 rfl (by omega) (by decide) ?_
  refine g_iconst (v := nI 1) dX6_regularOf_14 (by decide) ?_
  refine g_isub dX6_regularOf_15 ?_
  refine g_callS_i (kX6_in v (nI 0) (nI (X 11) - nI 1)) oX6_in pX6_in lX6_41 dX6_regularOf_16 rfl rfl (Nat.le_of_ble_eq_true rfl) (Nat.le_of_ble_eq_true rfl) (by decide) (fun M' h' => ?_)
  subst h'
  refine g_if_ne_b (tgt := 28) dX6_regularOf_19 (by decide) (fun h1 => ?_) (fun h1 => ?_)
  rotate_left
  · rw [h] at h1; cases h1
  refine g_iload_n dX6_regularOf_28 rfl ?_
  refine g_iconst (v := nI 0) dX6_regularOf_29 (by decide) ?_
  refine g_bipush (v := nI 10) dX6_regularOf_30 (by decide) ?_
  refine g_callS_i (kX6_in w (nI 0) (nI 10)) oX6_in pX6_in lX6_41 dX6_regularOf_32 rfl rfl (Nat.le_of_ble_eq_true rfl) (Nat.le_of_ble_eq_true rfl) (by decide) (fun M' h' => ?_)
  subst h'
  refine g_if_eq_b (tgt := 47) dX6_regularOf_35 (by decide) (fun h3 => ?_) (fun h3 => ?_)
  rotate_left
  · rw [h2] at h3; cases h3
  refine g_aload_n dX6_regularOf_47 rfl ?_
  refine g_iconst (v := nI 2) dX6_regularOf_48 (by decide) ?_
  refine g_callV_i (kX6_fails 2) oX6_fails pX6_fails lX6_48 dX6_regularOf_49 rfl rfl rfl rfl rfl (Nat.le_of_ble_eq_true rfl) (Nat.le_of_ble_eq_true rfl) (by decide) (fun M' h' => ?_)
  subst h'
  exact g_ireturn dX6_regularOf_52 rfl rfl ⟨rfl, rfl, rfl⟩
theorem kX6_regularOf (hX : wf0 X) {i w : Nat} (hi : i < X 11) (hw : w ≤ 10) : Cn mX6_regularOf 4 0 0 none [.ref 233, .int (nI i), .int (nI w)] (mM M0 X SV SN AT CH CF CT BU PT sm ik th mn cl ln sp nu pa hs) (zi (ofR X i w) (fun M' => M' = mM M0 X SV SN AT CH CF CT BU PT sm ik 0 mn cl ln sp nu pa hs)) := by
  have h8 := hX.2.1
  refine g_aload_n dX6_regularOf_0 rfl ?_
  refine g_iconst (v := nI 0) dX6_regularOf_1 (by decide) ?_
  refine g_mput_thrown fX6_37 dX6_regularOf_2 ?_
  refine g_iload_n dX6_regularOf_5 rfl ?_
  refine g_iconst (v := nI 0) dX6_regularOf_6 (by decide) ?_
  refine g_aload_n dX6_regularOf_7 rfl ?_
  refine g_get fX6_7 dX6_regularOf_8 rfl rfl ?_
  refine g_bipush (v := nI 11) dX6_regularOf_11 (by decide) ?_
  refine g_iald_n dX6_regularOf_13 rfl (by omega) (by decide) ?_
  refine g_iconst (v := nI 1) dX6_regularOf_14 (by decide) ?_
  refine g_isub dX6_regularOf_15 ?_
  refine g_callS_i (kX6_in (nI i) (nI 0) (nI (X 11) - nI 1)) oX6_in pX6_in lX6_41 dX6_regularOf_16 rfl rfl (Nat.le_of_ble_eq_true rfl) (Nat.le_of_ble_eq_true rfl) (by decide) (fun M' h' => ?_)
  subst h'
  rw [zin_cnt' (by omega) hi]
  refine g_if_ne_b (tgt := 28) dX6_regularOf_19 (by decide) (fun h1 => ?_) (fun h1 => ?_)
  rotate_left
  · cases h1
  refine g_iload_n dX6_regularOf_28 rfl ?_
  refine g_iconst (v := nI 0) dX6_regularOf_29 (by decide) ?_
  refine g_bipush (v := nI 10) dX6_regularOf_30 (by decide) ?_
  refine g_callS_i (kX6_in (nI w) (nI 0) (nI 10)) oX6_in pX6_in lX6_41 dX6_regularOf_32 rfl rfl (Nat.le_of_ble_eq_true rfl) (Nat.le_of_ble_eq_true rfl) (by decide) (fun M' h' => ?_)
  subst h'
  rw [zin_t (by omega) hw (by decide)]
  refine g_if_eq_b (tgt := 47) dX6_regularOf_35 (by decide) (fun h3 => ?_) (fun h3 => ?_)
  · cases h3
  refine g_aload_n dX6_regularOf_38 rfl ?_
  refine g_iload_n dX6_regularOf_39 rfl ?_
  refine g_iload_n dX6_regularOf_40 rfl ?_
  refine g_callV_i (kX6_ofRegular hX (i := i) (w := w) (by omega) hw) oX6_ofRegular pX6_ofRegular lX6_200 dX6_regularOf_41 rfl rfl rfl rfl rfl (Nat.le_of_ble_eq_true rfl) (Nat.le_of_ble_eq_true rfl) (by decide) (fun M' h' => ?_)
  subst h'
  refine g_goto (tgt := 52) dX6_regularOf_44 (by decide) ?_
  exact g_ireturn dX6_regularOf_52 rfl rfl ⟨rfl, rfl, rfl⟩
theorem kX6_singleOf1 (v w : Int32) (h : zin v (nI 0) (nI (X 92) - nI 1) = false) : Cn mX6_singleOf 4 0 0 none [.ref 233, .int v, .int w] (mM M0 X SV SN AT CH CF CT BU PT sm ik th mn cl ln sp nu pa hs) (zi (nI 0) (fun M' => M' = mM M0 X SV SN AT CH CF CT BU PT sm ik 1 mn cl ln sp nu pa hs)) := by
  refine g_aload_n dX6_singleOf_0 rfl ?_
  refine g_iconst (v := nI 0) dX6_singleOf_1 (by decide) ?_
  refine g_mput_thrown fX6_37 dX6_singleOf_2 ?_
  refine g_iload_n dX6_singleOf_5 rfl ?_
  refine g_iconst (v := nI 0) dX6_singleOf_6 (by decide) ?_
  refine g_aload_n dX6_singleOf_7 rfl ?_
  refine g_get fX6_7 dX6_singleOf_8 rfl rfl ?_
  refine g_bipush (v := nI 92) dX6_singleOf_11 (by decide) ?_
  refine g_iald_n dX6_singleOf_13 rfl (by omega) (by decide) ?_
  refine g_iconst (v := nI 1) dX6_singleOf_14 (by decide) ?_
  refine g_isub dX6_singleOf_15 ?_
  refine g_callS_i (kX6_in v (nI 0) (nI (X 92) - nI 1)) oX6_in pX6_in lX6_41 dX6_singleOf_16 rfl rfl (Nat.le_of_ble_eq_true rfl) (Nat.le_of_ble_eq_true rfl) (by decide) (fun M' h' => ?_)
  subst h'
  refine g_if_ne_b (tgt := 28) dX6_singleOf_19 (by decide) (fun h1 => ?_) (fun h1 => ?_)
  · rw [h] at h1; cases h1
  refine g_aload_n dX6_singleOf_22 rfl ?_
  refine g_iconst (v := nI 1) dX6_singleOf_23 (by decide) ?_
  refine g_callV_i (kX6_fails 1) oX6_fails pX6_fails lX6_48 dX6_singleOf_24 rfl rfl rfl rfl rfl (Nat.le_of_ble_eq_true rfl) (Nat.le_of_ble_eq_true rfl) (by decide) (fun M' h' => ?_)
  subst h'
  exact g_ireturn dX6_singleOf_27 rfl rfl ⟨rfl, rfl, rfl⟩
theorem kX6_singleOf2 (v w : Int32) (h : zin v (nI 0) (nI (X 92) - nI 1) = true) (h2 : zin w (nI 0) (nI 6) = false) : Cn mX6_singleOf 4 0 0 none [.ref 233, .int v, .int w] (mM M0 X SV SN AT CH CF CT BU PT sm ik th mn cl ln sp nu pa hs) (zi (nI 0) (fun M' => M' = mM M0 X SV SN AT CH CF CT BU PT sm ik 2 mn cl ln sp nu pa hs)) := by
  refine g_aload_n dX6_singleOf_0 rfl ?_
  refine g_iconst (v := nI 0) dX6_singleOf_1 (by decide) ?_
  refine g_mput_thrown fX6_37 dX6_singleOf_2 ?_
  refine g_iload_n dX6_singleOf_5 rfl ?_
  refine g_iconst (v := nI 0) dX6_singleOf_6 (by decide) ?_
  refine g_aload_n dX6_singleOf_7 rfl ?_
  refine g_get fX6_7 dX6_singleOf_8 rfl rfl ?_
  refine g_bipush (v := nI 92) dX6_singleOf_11 (by decide) ?_
  refine g_iald_n dX6_singleOf_13 rfl (by omega) (by decide) ?_
  refine g_iconst (v := nI 1) dX6_singleOf_14 (by decide) ?_
  refine g_isub dX6_singleOf_15 ?_
  refine g_callS_i (kX6_in v (nI 0) (nI (X 92) - nI 1)) oX6_in pX6_in lX6_41 dX6_singleOf_16 rfl rfl (Nat.le_of_ble_eq_true rfl) (Nat.le_of_ble_eq_true rfl) (by decide) (fun M' h' => ?_)
  subst h'
  refine g_if_ne_b (tgt := 28) dX6_singleOf_19 (by decide) (fun h1 => ?_) (fun h1 => ?_)
  rotate_left
  · rw [h] at h1; cases h1
  refine g_iload_n dX6_singleOf_28 rfl ?_
  refine g_iconst (v := nI 0) dX6_singleOf_29 (by decide) ?_
  refine g_bipush (v := nI 6) dX6_singleOf_30 (by decide) ?_
  refine g_callS_i (kX6_in w (nI 0) (nI 6)) oX6_in pX6_in lX6_41 dX6_singleOf_32 rfl rfl (Nat.le_of_ble_eq_true rfl) (Nat.le_of_ble_eq_true rfl) (by decide) (fun M' h' => ?_)
  subst h'
  refine g_if_eq_b (tgt := 47) dX6_singleOf_35 (by decide) (fun h3 => ?_) (fun h3 => ?_)
  rotate_left
  · rw [h2] at h3; cases h3
  refine g_aload_n dX6_singleOf_47 rfl ?_
  refine g_iconst (v := nI 2) dX6_singleOf_48 (by decide) ?_
  refine g_callV_i (kX6_fails 2) oX6_fails pX6_fails lX6_48 dX6_singleOf_49 rfl rfl rfl rfl rfl (Nat.le_of_ble_eq_true rfl) (Nat.le_of_ble_eq_true rfl) (by decide) (fun M' h' => ?_)
  subst h'
  exact g_ireturn dX6_singleOf_52 rfl rfl ⟨rfl, rfl, rfl⟩
theorem kX6_singleOf (hX : wf0 X) {i w : Nat} (hi : i < X 92) (hw : w ≤ 6) : Cn mX6_singleOf 4 0 0 none [.ref 233, .int (nI i), .int (nI w)] (mM M0 X SV SN AT CH CF CT BU PT sm ik th mn cl ln sp nu pa hs) (zi (nI (X (93 + 7 * i + w))) (fun M' => M' = mM M0 X SV SN AT CH CF CT BU PT sm ik 0 mn cl ln sp nu pa hs)) := by
  have h8 := hX.2.2
  refine g_aload_n dX6_singleOf_0 rfl ?_
  refine g_iconst (v := nI 0) dX6_singleOf_1 (by decide) ?_
  refine g_mput_thrown fX6_37 dX6_singleOf_2 ?_
  refine g_iload_n dX6_singleOf_5 rfl ?_
  refine g_iconst (v := nI 0) dX6_singleOf_6 (by decide) ?_
  refine g_aload_n dX6_singleOf_7 rfl ?_
  refine g_get fX6_7 dX6_singleOf_8 rfl rfl ?_
  refine g_bipush (v := nI 92) dX6_singleOf_11 (by decide) ?_
  refine g_iald_n dX6_singleOf_13 rfl (by omega) (by decide) ?_
  refine g_iconst (v := nI 1) dX6_singleOf_14 (by decide) ?_
  refine g_isub dX6_singleOf_15 ?_
  refine g_callS_i (kX6_in (nI i) (nI 0) (nI (X 92) - nI 1)) oX6_in pX6_in lX6_41 dX6_singleOf_16 rfl rfl (Nat.le_of_ble_eq_true rfl) (Nat.le_of_ble_eq_true rfl) (by decide) (fun M' h' => ?_)
  subst h'
  rw [zin_cnt' (by omega) hi]
  refine g_if_ne_b (tgt := 28) dX6_singleOf_19 (by decide) (fun h1 => ?_) (fun h1 => ?_)
  rotate_left
  · cases h1
  refine g_iload_n dX6_singleOf_28 rfl ?_
  refine g_iconst (v := nI 0) dX6_singleOf_29 (by decide) ?_
  refine g_bipush (v := nI 6) dX6_singleOf_30 (by decide) ?_
  refine g_callS_i (kX6_in (nI w) (nI 0) (nI 6)) oX6_in pX6_in lX6_41 dX6_singleOf_32 rfl rfl (Nat.le_of_ble_eq_true rfl) (Nat.le_of_ble_eq_true rfl) (by decide) (fun M' h' => ?_)
  subst h'
  rw [zin_t (by omega) hw (by decide)]
  refine g_if_eq_b (tgt := 47) dX6_singleOf_35 (by decide) (fun h3 => ?_) (fun h3 => ?_)
  · cases h3
  refine g_aload_n dX6_singleOf_38 rfl ?_
  refine g_iload_n dX6_singleOf_39 rfl ?_
  refine g_iload_n dX6_singleOf_40 rfl ?_
  refine g_callV_i (kX6_dated (i := i) (w := w) (by omega)) oX6_dated pX6_dated lX6_74 dX6_singleOf_41 rfl rfl rfl rfl rfl (Nat.le_of_ble_eq_true rfl) (Nat.le_of_ble_eq_true rfl) (by decide) (fun M' h' => ?_)
  subst h'
  refine g_goto (tgt := 52) dX6_singleOf_44 (by decide) ?_
  exact g_ireturn dX6_singleOf_52 rfl rfl ⟨rfl, rfl, rfl⟩
theorem ta1 (hX : wf0 X) {h day hr : Nat} (hh : h ≤ 2) (hr1 : hr ≤ 23) (hat : atL (lk X day) AT) : ∀ n k (a : Int32), k + n = (lk X day).length → G mX6_tenantAt 4 0 0 none 11 [(0, .ref 233), (1, .int (nI h)), (2, .int (nI day)), (3, .int (nI hr)), (4, .int a), (5, .int (nI k))] [] (mM M0 X SV SN AT CH CF CT BU PT sm ik th (lk X day).length cl ln sp nu pa hs) (zpi (mM M0 X SV SN AT CH CF CT BU PT sm ik th (lk X day).length cl ln sp nu pa hs) (tnS X h hr ((lk X day).drop k) a)) := by
  have hlen := lk_len hX day
  intro n
  induction n with
  | zero =>
    intro k a hk
    have : k = (lk X day).length := by omega
    subst this
    refine g_iload dX6_tenantAt_11 rfl ?_
    refine g_aload_n dX6_tenantAt_13 rfl ?_
    refine g_get fX6_67 dX6_tenantAt_14 rfl rfl ?_
    refine g_icmp_ge_n (tgt := 102) dX6_tenantAt_17 (by decide) (by omega) (by omega) (fun h1 => ?_) (fun h1 => ?_)
    · refine g_iload dX6_tenantAt_102 rfl ?_
      refine g_ireturn dX6_tenantAt_104 rfl rfl ⟨rfl, ?_, rfl⟩
      rw [List.drop_length]
      rfl
    · omega
  | succ n ih =>
    intro k a hk
    have hx : (lk X day)[k]? = some (lk X day)[k] := List.getElem?_eq_getElem (by omega)
    generalize hxe : (lk X day)[k] = p at hx
    have hp := hat k p hx
    obtain ⟨p1, p2⟩ := lk_lt hX (List.mem_of_getElem? hx)
    have b1 := hX.1 p (by omega) (by omega) (by omega) (by omega)
    rw [drop_get hx]
    unfold tnS
    have fin : ∀ b : Int32, b = (bif decide (X p = h) && zin (nI hr) (nI (X (p + 2))) (nI (X (p + 3)) - nI 1) then nI (X (p + 5)) else a) → G mX6_tenantAt 4 0 0 none 94 [(0, .ref 233), (1, .int (nI h)), (2, .int (nI day)), (3, .int (nI hr)), (4, .int a), (5, .int (nI k))] [.int b] (mM M0 X SV SN AT CH CF CT BU PT sm ik th (lk X day).length cl ln sp nu pa hs) (zpi (mM M0 X SV SN AT CH CF CT BU PT sm ik th (lk X day).length cl ln sp nu pa hs) (tnS X h hr ((lk X day).drop (k + 1)) (bif decide (X p = h) && zin (nI hr) (nI (X (p + 2))) (nI (X (p + 3)) - nI 1) then nI (X (p + 5)) else a))) := fun b hb => by
      refine g_istore dX6_tenantAt_94 (by decide) ?_
      refine g_iinc_n (c := 1) dX6_tenantAt_96 rfl (by decide) (by decide) ?_
      refine g_goto (tgt := 11) dX6_tenantAt_99 (by decide) ?_
      rw [← hb]
      exact g_loc rfl (ih (k + 1) b (by omega))
    refine g_iload dX6_tenantAt_11 rfl ?_
    refine g_aload_n dX6_tenantAt_13 rfl ?_
    refine g_get fX6_67 dX6_tenantAt_14 rfl rfl ?_
    refine g_icmp_ge_n (tgt := 102) dX6_tenantAt_17 (by decide) (by omega) (by omega) (fun h1 => ?_) (fun h1 => ?_)
    · omega
    refine g_aload_n dX6_tenantAt_20 rfl ?_
    refine g_get fX6_7 dX6_tenantAt_21 rfl rfl ?_
    refine g_aload_n dX6_tenantAt_24 rfl ?_
    refine g_get fX6_19 dX6_tenantAt_25 rfl rfl ?_
    refine g_iload dX6_tenantAt_28 rfl ?_
    refine g_iald_n dX6_tenantAt_30 rfl (by omega) (by decide) ?_
    refine g_iconst (v := nI 0) dX6_tenantAt_31 (by decide) ?_
    refine g_iadd_n dX6_tenantAt_32 ?_
    refine g_iald_n dX6_tenantAt_33 rfl (by omega) (by decide) ?_
    refine g_iload_n dX6_tenantAt_34 rfl ?_
    simp only [hp, Nat.add_zero]
    refine g_icmp_ne_n (tgt := 92) dX6_tenantAt_35 (by decide) (by omega) (by omega) (fun h2 => ?_) (fun h2 => ?_)
    · refine g_iload dX6_tenantAt_92 rfl ?_
      exact g_loc rfl (fin a (by simp [h2]))
    refine g_iload_n dX6_tenantAt_38 rfl ?_
    refine g_aload_n dX6_tenantAt_39 rfl ?_
    refine g_get fX6_7 dX6_tenantAt_40 rfl rfl ?_
    refine g_aload_n dX6_tenantAt_43 rfl ?_
    refine g_get fX6_19 dX6_tenantAt_44 rfl rfl ?_
    refine g_iload dX6_tenantAt_47 rfl ?_
    refine g_iald_n dX6_tenantAt_49 rfl (by omega) (by decide) ?_
    refine g_iconst (v := nI 2) dX6_tenantAt_50 (by decide) ?_
    refine g_iadd_n dX6_tenantAt_51 ?_
    refine g_iald_n dX6_tenantAt_52 rfl (by omega) (by decide) ?_
    refine g_aload_n dX6_tenantAt_53 rfl ?_
    refine g_get fX6_7 dX6_tenantAt_54 rfl rfl ?_
    refine g_aload_n dX6_tenantAt_57 rfl ?_
    refine g_get fX6_19 dX6_tenantAt_58 rfl rfl ?_
    refine g_iload dX6_tenantAt_61 rfl ?_
    refine g_iald_n dX6_tenantAt_63 rfl (by omega) (by decide) ?_
    refine g_iconst (v := nI 3) dX6_tenantAt_64 (by decide) ?_
    refine g_iadd_n dX6_tenantAt_65 ?_
    refine g_iald_n dX6_tenantAt_66 rfl (by omega) (by decide) ?_
    refine g_iconst (v := nI 1) dX6_tenantAt_67 (by decide) ?_
    refine g_isub dX6_tenantAt_68 ?_
    simp only [hp]
    refine g_callS_i (kX6_in (nI hr) (nI (X (p + 2))) (nI (X (p + 3)) - nI 1)) oX6_in pX6_in lX6_41 dX6_tenantAt_69 rfl rfl (Nat.le_of_ble_eq_true rfl) (Nat.le_of_ble_eq_true rfl) (by decide) (fun M' h' => ?_)
    subst h'
    refine g_if_eq_b (tgt := 92) dX6_tenantAt_72 (by decide) (fun h3 => ?_) (fun h3 => ?_)
    · refine g_iload dX6_tenantAt_92 rfl ?_
      exact g_loc rfl (fin a (by simp [h2, h3]))
    · refine g_aload_n dX6_tenantAt_75 rfl ?_
      refine g_get fX6_7 dX6_tenantAt_76 rfl rfl ?_
      refine g_aload_n dX6_tenantAt_79 rfl ?_
      refine g_get fX6_19 dX6_tenantAt_80 rfl rfl ?_
      refine g_iload dX6_tenantAt_83 rfl ?_
      refine g_iald_n dX6_tenantAt_85 rfl (by omega) (by decide) ?_
      refine g_iconst (v := nI 5) dX6_tenantAt_86 (by decide) ?_
      refine g_iadd_n dX6_tenantAt_87 ?_
      refine g_iald_n dX6_tenantAt_88 rfl (by omega) (by decide) ?_
      refine g_goto (tgt := 94) dX6_tenantAt_89 (by decide) ?_
      simp only [hp]
      exact g_loc rfl (fin _ (by simp [h2, h3]))
theorem kX6_tenantAt (hX : wf0 X) {h day hr : Nat} (hh : h ≤ 2) (hd : day < 84) (hr1 : hr ≤ 23) : Cn mX6_tenantAt 4 0 0 none [.ref 233, .int (nI h), .int (nI day), .int (nI hr)] (mM M0 X SV SN AT CH CF CT BU PT sm ik th mn cl ln sp nu pa hs) (zi (tnS X h hr (lk X day) (-1)) (fun M' => ∃ AT' CH' CF' CT' mn' cl', M' = mM M0 X SV SN AT' CH' CF' CT' BU PT sm ik th mn' cl' ln sp nu pa hs)) := by
  refine g_aload_n dX6_tenantAt_0 rfl ?_
  refine g_iload_n dX6_tenantAt_1 rfl ?_
  refine g_callV_v (kX6_look hX hd) oX6_look pX6_look lX6_80 dX6_tenantAt_2 rfl rfl rfl rfl rfl (Nat.le_of_ble_eq_true rfl) (Nat.le_of_ble_eq_true rfl) (by decide) (fun M' h' => ?_)
  obtain ⟨AT', rfl, hat⟩ := h'
  refine g_iconst (v := (-1)) dX6_tenantAt_5 (by decide) ?_
  refine g_istore dX6_tenantAt_6 (by decide) ?_
  refine g_iconst (v := nI 0) dX6_tenantAt_8 (by decide) ?_
  refine g_istore dX6_tenantAt_9 (by decide) ?_
  refine g_loc rfl ((ta1 hX hh hr1 hat (lk X day).length 0 (-1) (by omega)).to ?_)
  rintro M nx o ⟨rfl, rfl, rfl⟩
  exact ⟨rfl, rfl, AT', CH, CF, CT, _, cl, rfl⟩
theorem kX6_who1 (v d w : Int32) (h : zin v (nI 0) (nI 2) = false) : Cn mX6_who 5 0 0 none [.ref 233, .int v, .int d, .int w] (mM M0 X SV SN AT CH CF CT BU PT sm ik th mn cl ln sp nu pa hs) (zi (nI 0) (fun M' => M' = mM M0 X SV SN AT CH CF CT BU PT sm ik 1 mn cl ln sp nu pa hs)) := by
  refine g_aload_n dX6_who_0 rfl ?_
  refine g_iconst (v := nI 0) dX6_who_1 (by decide) ?_
  refine g_mput_thrown fX6_37 dX6_who_2 ?_
  refine g_iload_n dX6_who_5 rfl ?_
  refine g_callS_i (kX6_isHall v) oX6_isHall pX6_isHall lX6_117 dX6_who_6 rfl rfl (Nat.le_of_ble_eq_true rfl) (Nat.le_of_ble_eq_true rfl) (by decide) (fun M' h' => ?_)
  subst h'
  refine g_if_ne_b (tgt := 18) dX6_who_9 (by decide) (fun h1 => ?_) (fun h1 => ?_)
  · rw [h] at h1; cases h1
  refine g_aload_n dX6_who_12 rfl ?_
  refine g_iconst (v := nI 1) dX6_who_13 (by decide) ?_
  refine g_callV_i (kX6_fails 1) oX6_fails pX6_fails lX6_48 dX6_who_14 rfl rfl rfl rfl rfl (Nat.le_of_ble_eq_true rfl) (Nat.le_of_ble_eq_true rfl) (by decide) (fun M' h' => ?_)
  subst h'
  exact g_ireturn dX6_who_17 rfl rfl ⟨rfl, rfl, rfl⟩
theorem kX6_who2 (v d w : Int32) (h : zin v (nI 0) (nI 2) = true) (h2 : (zin d (nI 0) (nI 83) && zin w (nI 0) (nI 23)) = false) : Cn mX6_who 5 0 0 none [.ref 233, .int v, .int d, .int w] (mM M0 X SV SN AT CH CF CT BU PT sm ik th mn cl ln sp nu pa hs) (zi (nI 0) (fun M' => M' = mM M0 X SV SN AT CH CF CT BU PT sm ik 2 mn cl ln sp nu pa hs)) := by
  refine g_aload_n dX6_who_0 rfl ?_
  refine g_iconst (v := nI 0) dX6_who_1 (by decide) ?_
  refine g_mput_thrown fX6_37 dX6_who_2 ?_
  refine g_iload_n dX6_who_5 rfl ?_
  refine g_callS_i (kX6_isHall v) oX6_isHall pX6_isHall lX6_117 dX6_who_6 rfl rfl (Nat.le_of_ble_eq_true rfl) (Nat.le_of_ble_eq_true rfl) (by decide) (fun M' h' => ?_)
  subst h'
  refine g_if_ne_b (tgt := 18) dX6_who_9 (by decide) (fun h1 => ?_) (fun h1 => ?_)
  rotate_left
  · rw [h] at h1; cases h1
  refine g_iload_n dX6_who_18 rfl ?_
  refine g_callS_i (kX6_isDay d) oX6_isDay pX6_isDay lX6_121 dX6_who_19 rfl rfl (Nat.le_of_ble_eq_true rfl) (Nat.le_of_ble_eq_true rfl) (by decide) (fun M' h' => ?_)
  subst h'
  refine g_if_eq_b (tgt := 45) dX6_who_22 (by decide) (fun h3 => ?_) (fun h3 => ?_)
  · refine g_aload_n dX6_who_45 rfl ?_
    refine g_iconst (v := nI 2) dX6_who_46 (by decide) ?_
    refine g_callV_i (kX6_fails 2) oX6_fails pX6_fails lX6_48 dX6_who_47 rfl rfl rfl rfl rfl (Nat.le_of_ble_eq_true rfl) (Nat.le_of_ble_eq_true rfl) (by decide) (fun M' h' => ?_)
    subst h'
    exact g_ireturn dX6_who_50 rfl rfl ⟨rfl, rfl, rfl⟩
  refine g_iload_n dX6_who_25 rfl ?_
  refine g_iconst (v := nI 0) dX6_who_26 (by decide) ?_
  refine g_bipush (v := nI 23) dX6_who_27 (by decide) ?_
  refine g_callS_i (kX6_in w (nI 0) (nI 23)) oX6_in pX6_in lX6_41 dX6_who_29 rfl rfl (Nat.le_of_ble_eq_true rfl) (Nat.le_of_ble_eq_true rfl) (by decide) (fun M' h' => ?_)
  subst h'
  refine g_if_eq_b (tgt := 45) dX6_who_32 (by decide) (fun h4 => ?_) (fun h4 => ?_)
  · refine g_aload_n dX6_who_45 rfl ?_
    refine g_iconst (v := nI 2) dX6_who_46 (by decide) ?_
    refine g_callV_i (kX6_fails 2) oX6_fails pX6_fails lX6_48 dX6_who_47 rfl rfl rfl rfl rfl (Nat.le_of_ble_eq_true rfl) (Nat.le_of_ble_eq_true rfl) (by decide) (fun M' h' => ?_)
    subst h'
    exact g_ireturn dX6_who_50 rfl rfl ⟨rfl, rfl, rfl⟩
  · simp [h3, h4] at h2
theorem kX6_who (hX : wf0 X) {h day hr : Nat} (hh : h ≤ 2) (hd : day < 84) (hr1 : hr ≤ 23) : Cn mX6_who 5 0 0 none [.ref 233, .int (nI h), .int (nI day), .int (nI hr)] (mM M0 X SV SN AT CH CF CT BU PT sm ik th mn cl ln sp nu pa hs) (zi (tnS X h hr (lk X day) (-1)) (fun M' => ∃ AT' CH' CF' CT' mn' cl', M' = mM M0 X SV SN AT' CH' CF' CT' BU PT sm ik 0 mn' cl' ln sp nu pa hs)) := by
  refine g_aload_n dX6_who_0 rfl ?_
  refine g_iconst (v := nI 0) dX6_who_1 (by decide) ?_
  refine g_mput_thrown fX6_37 dX6_who_2 ?_
  refine g_iload_n dX6_who_5 rfl ?_
  refine g_callS_i (kX6_isHall (nI h)) oX6_isHall pX6_isHall lX6_117 dX6_who_6 rfl rfl (Nat.le_of_ble_eq_true rfl) (Nat.le_of_ble_eq_true rfl) (by decide) (fun M' h' => ?_)
  subst h'
  rw [zin_t (by omega) hh (by decide)]
  refine g_if_ne_b (tgt := 18) dX6_who_9 (by decide) (fun h1 => ?_) (fun h1 => ?_)
  rotate_left
  · cases h1
  refine g_iload_n dX6_who_18 rfl ?_
  refine g_callS_i (kX6_isDay (nI day)) oX6_isDay pX6_isDay lX6_121 dX6_who_19 rfl rfl (Nat.le_of_ble_eq_true rfl) (Nat.le_of_ble_eq_true rfl) (by decide) (fun M' h' => ?_)
  subst h'
  rw [zin_t (by omega) (by omega) (by decide)]
  refine g_if_eq_b (tgt := 45) dX6_who_22 (by decide) (fun h3 => ?_) (fun h3 => ?_)
  · cases h3
  refine g_iload_n dX6_who_25 rfl ?_
  refine g_iconst (v := nI 0) dX6_who_26 (by decide) ?_
  refine g_bipush (v := nI 23) dX6_who_27 (by decide) ?_
  refine g_callS_i (kX6_in (nI hr) (nI 0) (nI 23)) oX6_in pX6_in lX6_41 dX6_who_29 rfl rfl (Nat.le_of_ble_eq_true rfl) (Nat.le_of_ble_eq_true rfl) (by decide) (fun M' h' => ?_)
  subst h'
  rw [zin_t (by omega) hr1 (by decide)]
  refine g_if_eq_b (tgt := 45) dX6_who_32 (by decide) (fun h4 => ?_) (fun h4 => ?_)
  · cases h4
  refine g_aload_n dX6_who_35 rfl ?_
  refine g_iload_n dX6_who_36 rfl ?_
  refine g_iload_n dX6_who_37 rfl ?_
  refine g_iload_n dX6_who_38 rfl ?_
  refine g_callV_i (kX6_tenantAt hX hh hd hr1) oX6_tenantAt pX6_tenantAt lX6_203 dX6_who_39 rfl rfl rfl rfl rfl (Nat.le_of_ble_eq_true rfl) (Nat.le_of_ble_eq_true rfl) (by decide) (fun M' h' => ?_)
  refine g_goto (tgt := 50) dX6_who_42 (by decide) ?_
  exact g_ireturn dX6_who_50 rfl rfl ⟨rfl, rfl, h'⟩
theorem ih1 (hX : wf0 X) (hX2 : wf2 X) {h day w : Nat} (hh : h ≤ 2) (hw : w ≤ 2) (hat : atL (lk X day) AT) : ∀ n k a, k + n = (lk X day).length → G mX6_inHall 3 0 0 none 11 [(0, .ref 233), (1, .int (nI h)), (2, .int (nI day)), (3, .int (nI w)), (4, .int (nI a)), (5, .int (nI k))] [] (mM M0 X SV SN AT CH CF CT BU PT sm ik th (lk X day).length cl ln sp nu pa hs) (zpi (mM M0 X SV SN AT CH CF CT BU PT sm ik th (lk X day).length cl ln sp nu pa hs) (nI (ihS X h w ((lk X day).drop k) a))) := by
  have hlen := lk_len hX day
  intro n
  induction n with
  | zero =>
    intro k a hk
    have : k = (lk X day).length := by omega
    subst this
    refine g_iload dX6_inHall_11 rfl ?_
    refine g_aload_n dX6_inHall_13 rfl ?_
    refine g_get fX6_67 dX6_inHall_14 rfl rfl ?_
    refine g_icmp_ge_n (tgt := 117) dX6_inHall_17 (by decide) (by omega) (by omega) (fun h1 => ?_) (fun h1 => ?_)
    · refine g_iload dX6_inHall_117 rfl ?_
      refine g_ireturn dX6_inHall_119 rfl rfl ⟨rfl, ?_, rfl⟩
      rw [List.drop_length]
      rfl
    · omega
  | succ n ih =>
    intro k a hk
    have hx : (lk X day)[k]? = some (lk X day)[k] := List.getElem?_eq_getElem (by omega)
    generalize hxe : (lk X day)[k] = p at hx
    have hp := hat k p hx
    obtain ⟨p1, p2⟩ := lk_lt hX (List.mem_of_getElem? hx)
    have b1 := hX.1 p (by omega) (by omega) (by omega) (by omega)
    obtain ⟨q1, q2, q3, -⟩ := lk_ok hX2 (List.mem_of_getElem? hx)
    rw [drop_get hx]
    unfold ihS
    have fin : ∀ b, b = ownH X w p → G mX6_inHall 3 0 0 none 80 [(0, .ref 233), (1, .int (nI h)), (2, .int (nI day)), (3, .int (nI w)), (4, .int (nI a)), (5, .int (nI k))] [.int (nI b)] (mM M0 X SV SN AT CH CF CT BU PT sm ik th (lk X day).length cl ln sp nu pa hs) (zpi (mM M0 X SV SN AT CH CF CT BU PT sm ik th (lk X day).length cl ln sp nu pa hs) (nI (ihS X h w ((lk X day).drop (k + 1)) (a + if X p = h then ownH X w p else 0)))) := fun b hb => by
      subst hb
      refine g_istore dX6_inHall_80 (by decide) ?_
      refine g_iload dX6_inHall_82 rfl ?_
      refine g_aload_n dX6_inHall_84 rfl ?_
      refine g_get fX6_7 dX6_inHall_85 rfl rfl ?_
      refine g_aload_n dX6_inHall_88 rfl ?_
      refine g_get fX6_19 dX6_inHall_89 rfl rfl ?_
      refine g_iload dX6_inHall_92 rfl ?_
      refine g_iald_n dX6_inHall_94 rfl (by omega) (by decide) ?_
      refine g_iconst (v := nI 0) dX6_inHall_95 (by decide) ?_
      refine g_iadd_n dX6_inHall_96 ?_
      refine g_iald_n dX6_inHall_97 rfl (by omega) (by decide) ?_
      refine g_iload_n dX6_inHall_98 rfl ?_
      simp only [hp, Nat.add_zero]
      refine g_icmp_ne_n (tgt := 107) dX6_inHall_99 (by decide) (by omega) (by omega) (fun h5 => ?_) (fun h5 => ?_)
      · refine g_iconst (v := nI 0) dX6_inHall_107 (by decide) ?_
        refine g_iadd_n dX6_inHall_108 ?_
        refine g_istore dX6_inHall_109 (by decide) ?_
        refine g_iinc_n (c := 1) dX6_inHall_111 rfl (by decide) (by decide) ?_
        refine g_goto (tgt := 11) dX6_inHall_114 (by decide) ?_
        rw [if_neg h5]
        exact g_loc rfl (ih (k + 1) _ (by omega))
      · refine g_iload dX6_inHall_102 rfl ?_
        refine g_goto (tgt := 108) dX6_inHall_104 (by decide) ?_
        refine g_iadd_n dX6_inHall_108 ?_
        refine g_istore dX6_inHall_109 (by decide) ?_
        refine g_iinc_n (c := 1) dX6_inHall_111 rfl (by decide) (by decide) ?_
        refine g_goto (tgt := 11) dX6_inHall_114 (by decide) ?_
        rw [if_pos h5]
        exact g_loc rfl (ih (k + 1) _ (by omega))
    refine g_iload dX6_inHall_11 rfl ?_
    refine g_aload_n dX6_inHall_13 rfl ?_
    refine g_get fX6_67 dX6_inHall_14 rfl rfl ?_
    refine g_icmp_ge_n (tgt := 117) dX6_inHall_17 (by decide) (by omega) (by omega) (fun h1 => ?_) (fun h1 => ?_)
    · omega
    refine g_iload_n dX6_inHall_20 rfl ?_
    refine g_if_ne_n (tgt := 28) dX6_inHall_21 (by decide) (by omega) (fun h2 => ?_) (fun h2 => ?_)
    · refine g_iload_n dX6_inHall_28 rfl ?_
      refine g_iconst (v := nI 1) dX6_inHall_29 (by decide) ?_
      refine g_icmp_ne_n (tgt := 65) dX6_inHall_30 (by decide) (by omega) (by omega) (fun h3 => ?_) (fun h3 => ?_)
      · refine g_aload_n dX6_inHall_65 rfl ?_
        refine g_get fX6_7 dX6_inHall_66 rfl rfl ?_
        refine g_aload_n dX6_inHall_69 rfl ?_
        refine g_get fX6_19 dX6_inHall_70 rfl rfl ?_
        refine g_iload dX6_inHall_73 rfl ?_
        refine g_iald_n dX6_inHall_75 rfl (by omega) (by decide) ?_
        refine g_bipush (v := nI 6) dX6_inHall_76 (by decide) ?_
        refine g_iadd_n dX6_inHall_78 ?_
        refine g_iald_n dX6_inHall_79 rfl (by omega) (by decide) ?_
        simp only [hp]
        exact g_loc rfl (fin _ (by rw [ownH, if_neg h2, if_neg h3]))
      · refine g_aload_n dX6_inHall_33 rfl ?_
        refine g_get fX6_7 dX6_inHall_34 rfl rfl ?_
        refine g_aload_n dX6_inHall_37 rfl ?_
        refine g_get fX6_19 dX6_inHall_38 rfl rfl ?_
        refine g_iload dX6_inHall_41 rfl ?_
        refine g_iald_n dX6_inHall_43 rfl (by omega) (by decide) ?_
        refine g_iconst (v := nI 3) dX6_inHall_44 (by decide) ?_
        refine g_iadd_n dX6_inHall_45 ?_
        refine g_iald_n dX6_inHall_46 rfl (by omega) (by decide) ?_
        refine g_aload_n dX6_inHall_47 rfl ?_
        refine g_get fX6_7 dX6_inHall_48 rfl rfl ?_
        refine g_aload_n dX6_inHall_51 rfl ?_
        refine g_get fX6_19 dX6_inHall_52 rfl rfl ?_
        refine g_iload dX6_inHall_55 rfl ?_
        refine g_iald_n dX6_inHall_57 rfl (by omega) (by decide) ?_
        refine g_iconst (v := nI 2) dX6_inHall_58 (by decide) ?_
        refine g_iadd_n dX6_inHall_59 ?_
        refine g_iald_n dX6_inHall_60 rfl (by omega) (by decide) ?_
        simp only [hp]
        refine g_isub_n dX6_inHall_61 (by omega) ?_
        refine g_goto (tgt := 80) dX6_inHall_62 (by decide) ?_
        exact g_loc rfl (fin _ (by rw [ownH, if_neg h2, if_pos h3]))
    · refine g_iconst (v := nI 1) dX6_inHall_24 (by decide) ?_
      refine g_goto (tgt := 80) dX6_inHall_25 (by decide) ?_
      exact g_loc rfl (fin _ (by rw [ownH, if_pos h2]))
theorem kX6_inHall (hX : wf0 X) (hX2 : wf2 X) {h day w : Nat} (hh : h ≤ 2) (hd : day < 84) (hw : w ≤ 2) : Cn mX6_inHall 3 0 0 none [.ref 233, .int (nI h), .int (nI day), .int (nI w)] (mM M0 X SV SN AT CH CF CT BU PT sm ik th mn cl ln sp nu pa hs) (zi (nI (ihS X h w (lk X day) 0)) (fun M' => ∃ AT' CH' CF' CT' mn' cl', M' = mM M0 X SV SN AT' CH' CF' CT' BU PT sm ik th mn' cl' ln sp nu pa hs)) := by
  refine g_aload_n dX6_inHall_0 rfl ?_
  refine g_iload_n dX6_inHall_1 rfl ?_
  refine g_callV_v (kX6_look hX hd) oX6_look pX6_look lX6_80 dX6_inHall_2 rfl rfl rfl rfl rfl (Nat.le_of_ble_eq_true rfl) (Nat.le_of_ble_eq_true rfl) (by decide) (fun M' h' => ?_)
  obtain ⟨AT', rfl, hat⟩ := h'
  refine g_iconst (v := nI 0) dX6_inHall_5 (by decide) ?_
  refine g_istore dX6_inHall_6 (by decide) ?_
  refine g_iconst (v := nI 0) dX6_inHall_8 (by decide) ?_
  refine g_istore dX6_inHall_9 (by decide) ?_
  refine g_loc rfl ((ih1 hX hX2 hh hw hat (lk X day).length 0 0 (by omega)).to ?_)
  rintro M nx o ⟨rfl, rfl, rfl⟩
  exact ⟨rfl, rfl, AT', CH, CF, CT, _, cl, rfl⟩
theorem kX6_ofHall (hX : wf0 X) (hX2 : wf2 X) {h day w : Nat} (hh : h ≤ 2) (hd : day < 84) (hw : w ≤ 3) : Cn mX6_ofHall 4 0 0 none [.ref 233, .int (nI h), .int (nI day), .int (nI w)] (mM M0 X SV SN AT CH CF CT BU PT sm ik th mn cl ln sp nu pa hs) (zi (ofH X h day w) (fun M' => ∃ AT' CH' CF' CT' mn' cl', M' = mM M0 X SV SN AT' CH' CF' CT' BU PT sm ik th mn' cl' ln sp nu pa hs)) := by
  unfold ofH
  refine g_iload_n dX6_ofHall_0 rfl ?_
  refine g_if_ne_n (tgt := 14) dX6_ofHall_1 (by decide) (by omega) (fun h1 => ?_) (fun h1 => ?_)
  · refine g_iload_n dX6_ofHall_14 rfl ?_
    refine g_iconst (v := nI 3) dX6_ofHall_15 (by decide) ?_
    refine g_icmp_ne_n (tgt := 29) dX6_ofHall_16 (by decide) (by omega) (by omega) (fun h2 => ?_) (fun h2 => ?_)
    · refine g_bipush (v := nI 24) dX6_ofHall_29 (by decide) ?_
      refine g_aload_n dX6_ofHall_31 rfl ?_
      refine g_iload_n dX6_ofHall_32 rfl ?_
      refine g_iload_n dX6_ofHall_33 rfl ?_
      refine g_iconst (v := nI 1) dX6_ofHall_34 (by decide) ?_
      refine g_callV_i (kX6_inHall hX hX2 hh hd (w := 1) (by omega)) oX6_inHall pX6_inHall lX6_207 dX6_ofHall_35 rfl rfl rfl rfl rfl (Nat.le_of_ble_eq_true rfl) (Nat.le_of_ble_eq_true rfl) (by decide) (fun M' h' => ?_)
      refine g_isub dX6_ofHall_38 ?_
      refine g_ireturn dX6_ofHall_39 rfl rfl ⟨rfl, ?_, h'⟩
      rw [if_neg h1, if_neg h2]
    · refine g_aload_n dX6_ofHall_19 rfl ?_
      refine g_iload_n dX6_ofHall_20 rfl ?_
      refine g_iload_n dX6_ofHall_21 rfl ?_
      refine g_iconst (v := nI 2) dX6_ofHall_22 (by decide) ?_
      refine g_callV_i (kX6_inHall hX hX2 hh hd (w := 2) (by omega)) oX6_inHall pX6_inHall lX6_207 dX6_ofHall_23 rfl rfl rfl rfl rfl (Nat.le_of_ble_eq_true rfl) (Nat.le_of_ble_eq_true rfl) (by decide) (fun M' h' => ?_)
      refine g_goto (tgt := 39) dX6_ofHall_26 (by decide) ?_
      refine g_ireturn dX6_ofHall_39 rfl rfl ⟨rfl, ?_, h'⟩
      rw [if_neg h1, if_pos h2]
  · refine g_aload_n dX6_ofHall_4 rfl ?_
    refine g_iload_n dX6_ofHall_5 rfl ?_
    refine g_iload_n dX6_ofHall_6 rfl ?_
    refine g_iconst (v := nI 0) dX6_ofHall_7 (by decide) ?_
    refine g_callV_i (kX6_inHall hX hX2 hh hd (w := 0) (by omega)) oX6_inHall pX6_inHall lX6_207 dX6_ofHall_8 rfl rfl rfl rfl rfl (Nat.le_of_ble_eq_true rfl) (Nat.le_of_ble_eq_true rfl) (by decide) (fun M' h' => ?_)
    refine g_goto (tgt := 39) dX6_ofHall_11 (by decide) ?_
    refine g_ireturn dX6_ofHall_39 rfl rfl ⟨rfl, ?_, h'⟩
    rw [if_pos h1]
theorem kX6_hallOf1 (v d w : Int32) (h : zin v (nI 0) (nI 2) = false) : Cn mX6_hallOf 5 0 0 none [.ref 233, .int v, .int d, .int w] (mM M0 X SV SN AT CH CF CT BU PT sm ik th mn cl ln sp nu pa hs) (zi (nI 0) (fun M' => M' = mM M0 X SV SN AT CH CF CT BU PT sm ik 1 mn cl ln sp nu pa hs)) := by
  refine g_aload_n dX6_hallOf_0 rfl ?_
  refine g_iconst (v := nI 0) dX6_hallOf_1 (by decide) ?_
  refine g_mput_thrown fX6_37 dX6_hallOf_2 ?_
  refine g_iload_n dX6_hallOf_5 rfl ?_
  refine g_callS_i (kX6_isHall v) oX6_isHall pX6_isHall lX6_117 dX6_hallOf_6 rfl rfl (Nat.le_of_ble_eq_true rfl) (Nat.le_of_ble_eq_true rfl) (by decide) (fun M' h' => ?_)
  subst h'
  refine g_if_ne_b (tgt := 18) dX6_hallOf_9 (by decide) (fun h1 => ?_) (fun h1 => ?_)
  · rw [h] at h1; cases h1
  refine g_aload_n dX6_hallOf_12 rfl ?_
  refine g_iconst (v := nI 1) dX6_hallOf_13 (by decide) ?_
  refine g_callV_i (kX6_fails 1) oX6_fails pX6_fails lX6_48 dX6_hallOf_14 rfl rfl rfl rfl rfl (Nat.le_of_ble_eq_true rfl) (Nat.le_of_ble_eq_true rfl) (by decide) (fun M' h' => ?_)
  subst h'
  exact g_ireturn dX6_hallOf_17 rfl rfl ⟨rfl, rfl, rfl⟩
theorem kX6_hallOf2 (v d w : Int32) (h : zin v (nI 0) (nI 2) = true) (h2 : (zin d (nI 0) (nI 83) && zin w (nI 0) (nI 3)) = false) : Cn mX6_hallOf 5 0 0 none [.ref 233, .int v, .int d, .int w] (mM M0 X SV SN AT CH CF CT BU PT sm ik th mn cl ln sp nu pa hs) (zi (nI 0) (fun M' => M' = mM M0 X SV SN AT CH CF CT BU PT sm ik 2 mn cl ln sp nu pa hs)) := by
  refine g_aload_n dX6_hallOf_0 rfl ?_
  refine g_iconst (v := nI 0) dX6_hallOf_1 (by decide) ?_
  refine g_mput_thrown fX6_37 dX6_hallOf_2 ?_
  refine g_iload_n dX6_hallOf_5 rfl ?_
  refine g_callS_i (kX6_isHall v) oX6_isHall pX6_isHall lX6_117 dX6_hallOf_6 rfl rfl (Nat.le_of_ble_eq_true rfl) (Nat.le_of_ble_eq_true rfl) (by decide) (fun M' h' => ?_)
  subst h'
  refine g_if_ne_b (tgt := 18) dX6_hallOf_9 (by decide) (fun h1 => ?_) (fun h1 => ?_)
  rotate_left
  · rw [h] at h1; cases h1
  refine g_iload_n dX6_hallOf_18 rfl ?_
  refine g_callS_i (kX6_isDay d) oX6_isDay pX6_isDay lX6_121 dX6_hallOf_19 rfl rfl (Nat.le_of_ble_eq_true rfl) (Nat.le_of_ble_eq_true rfl) (by decide) (fun M' h' => ?_)
  subst h'
  refine g_if_eq_b (tgt := 44) dX6_hallOf_22 (by decide) (fun h3 => ?_) (fun h3 => ?_)
  · refine g_aload_n dX6_hallOf_44 rfl ?_
    refine g_iconst (v := nI 2) dX6_hallOf_45 (by decide) ?_
    refine g_callV_i (kX6_fails 2) oX6_fails pX6_fails lX6_48 dX6_hallOf_46 rfl rfl rfl rfl rfl (Nat.le_of_ble_eq_true rfl) (Nat.le_of_ble_eq_true rfl) (by decide) (fun M' h' => ?_)
    subst h'
    exact g_ireturn dX6_hallOf_49 rfl rfl ⟨rfl, rfl, rfl⟩
  refine g_iload_n dX6_hallOf_25 rfl ?_
  refine g_iconst (v := nI 0) dX6_hallOf_26 (by decide) ?_
  refine g_iconst (v := nI 3) dX6_hallOf_27 (by decide) ?_
  refine g_callS_i (kX6_in w (nI 0) (nI 3)) oX6_in pX6_in lX6_41 dX6_hallOf_28 rfl rfl (Nat.le_of_ble_eq_true rfl) (Nat.le_of_ble_eq_true rfl) (by decide) (fun M' h' => ?_)
  subst h'
  refine g_if_eq_b (tgt := 44) dX6_hallOf_31 (by decide) (fun h4 => ?_) (fun h4 => ?_)
  · refine g_aload_n dX6_hallOf_44 rfl ?_
    refine g_iconst (v := nI 2) dX6_hallOf_45 (by decide) ?_
    refine g_callV_i (kX6_fails 2) oX6_fails pX6_fails lX6_48 dX6_hallOf_46 rfl rfl rfl rfl rfl (Nat.le_of_ble_eq_true rfl) (Nat.le_of_ble_eq_true rfl) (by decide) (fun M' h' => ?_)
    subst h'
    exact g_ireturn dX6_hallOf_49 rfl rfl ⟨rfl, rfl, rfl⟩
  · simp [h3, h4] at h2
theorem kX6_hallOf (hX : wf0 X) (hX2 : wf2 X) {h day w : Nat} (hh : h ≤ 2) (hd : day < 84) (hw : w ≤ 3) : Cn mX6_hallOf 5 0 0 none [.ref 233, .int (nI h), .int (nI day), .int (nI w)] (mM M0 X SV SN AT CH CF CT BU PT sm ik th mn cl ln sp nu pa hs) (zi (ofH X h day w) (fun M' => ∃ AT' CH' CF' CT' mn' cl', M' = mM M0 X SV SN AT' CH' CF' CT' BU PT sm ik 0 mn' cl' ln sp nu pa hs)) := by
  refine g_aload_n dX6_hallOf_0 rfl ?_
  refine g_iconst (v := nI 0) dX6_hallOf_1 (by decide) ?_
  refine g_mput_thrown fX6_37 dX6_hallOf_2 ?_
  refine g_iload_n dX6_hallOf_5 rfl ?_
  refine g_callS_i (kX6_isHall (nI h)) oX6_isHall pX6_isHall lX6_117 dX6_hallOf_6 rfl rfl (Nat.le_of_ble_eq_true rfl) (Nat.le_of_ble_eq_true rfl) (by decide) (fun M' h' => ?_)
  subst h'
  rw [zin_t (by omega) hh (by decide)]
  refine g_if_ne_b (tgt := 18) dX6_hallOf_9 (by decide) (fun h1 => ?_) (fun h1 => ?_)
  rotate_left
  · cases h1
  refine g_iload_n dX6_hallOf_18 rfl ?_
  refine g_callS_i (kX6_isDay (nI day)) oX6_isDay pX6_isDay lX6_121 dX6_hallOf_19 rfl rfl (Nat.le_of_ble_eq_true rfl) (Nat.le_of_ble_eq_true rfl) (by decide) (fun M' h' => ?_)
  subst h'
  rw [zin_t (by omega) (by omega) (by decide)]
  refine g_if_eq_b (tgt := 44) dX6_hallOf_22 (by decide) (fun h3 => ?_) (fun h3 => ?_)
  · cases h3
  refine g_iload_n dX6_hallOf_25 rfl ?_
  refine g_iconst (v := nI 0) dX6_hallOf_26 (by decide) ?_
  refine g_iconst (v := nI 3) dX6_hallOf_27 (by decide) ?_
  refine g_callS_i (kX6_in (nI w) (nI 0) (nI 3)) oX6_in pX6_in lX6_41 dX6_hallOf_28 rfl rfl (Nat.le_of_ble_eq_true rfl) (Nat.le_of_ble_eq_true rfl) (by decide) (fun M' h' => ?_)
  subst h'
  rw [zin_t (by omega) hw (by decide)]
  refine g_if_eq_b (tgt := 44) dX6_hallOf_31 (by decide) (fun h4 => ?_) (fun h4 => ?_)
  · cases h4
  refine g_aload_n dX6_hallOf_34 rfl ?_
  refine g_iload_n dX6_hallOf_35 rfl ?_
  refine g_iload_n dX6_hallOf_36 rfl ?_
  refine g_iload_n dX6_hallOf_37 rfl ?_
  refine g_callV_i (kX6_ofHall hX hX2 hh hd hw) oX6_ofHall pX6_ofHall lX6_210 dX6_hallOf_38 rfl rfl rfl rfl rfl (Nat.le_of_ble_eq_true rfl) (Nat.le_of_ble_eq_true rfl) (by decide) (fun M' h' => ?_)
  refine g_goto (tgt := 49) dX6_hallOf_41 (by decide) ?_
  exact g_ireturn dX6_hallOf_49 rfl rfl ⟨rfl, rfl, h'⟩
end MOD9
