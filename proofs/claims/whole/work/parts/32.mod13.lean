/-! the reference: reading the text -/
def atB (BU : Nat → Nat) (ln sp lo hi : Nat) : Bool := decide (sp < ln) && (decide (lo ≤ BU sp) && decide (BU sp ≤ hi))
/-- a number from low to high: its value and where it ends -/
def rdN (BU : Nat → Nat) (ln lo hi sp : Nat) : Option (Nat × Nat) :=
  bif atB BU ln sp (48 + lo) (if hi < 9 then 48 + hi else 57) then
    (if 0 < BU sp - 48 ∧ atB BU ln (sp + 1) 48 57 = true ∧ 10 * (BU sp - 48) + (BU (sp + 1) - 48) ≤ hi then some (10 * (BU sp - 48) + (BU (sp + 1) - 48), sp + 2) else some (BU sp - 48, sp + 1))
  else none
/-- the eleven steps of one let: numbers (true, low, high, place) and signs (false, sign, 0, 0) -/
def rpS (BU : Nat → Nat) (ln pa : Nat) : List (Bool × Nat × Nat × Nat) → Nat → (Nat → Nat) → Bool × Nat × (Nat → Nat)
  | [], sp, PT => (true, sp, PT)
  | (true, lo, hi, w) :: l, sp, PT => match rdN BU ln lo hi sp with | none => (false, sp, PT) | some (v, s) => rpS BU ln pa l s (uN PT (6 * pa + w) v)
  | (false, c, _, _) :: l, sp, PT => bif atB BU ln sp c c then rpS BU ln pa l (sp + 1) PT else (false, sp, PT)
def rpL1 : List (Bool × Nat × Nat × Nat) := [(true, 1, 24, 3), (false, 42, 0, 0), (true, 1, 9, 4), (false, 64, 0, 0), (true, 0, 19, 5)]
def rpL : List (Bool × Nat × Nat × Nat) := [(true, 0, 2, 0), (false, 58, 0, 0), (true, 0, 83, 1), (false, 44, 0, 0), (true, 0, 23, 2), (false, 45, 0, 0)] ++ rpL1
def rpF (BU : Nat → Nat) (ln pa sp : Nat) (PT : Nat → Nat) : Bool × Nat × (Nat → Nat) := rpS BU ln pa rpL sp PT
def bB (BU : Nat → Nat) : Prop := ∀ j, BU j < 128
section MOD13
variable {M0 : zM} {X SV SN AT CH CF CT BU PT : Nat → Nat} {sm ik th mn cl ln sp nu pa : Nat} {hs : Int64}
theorem kX6_isAt (hB : bB BU) (hl : ln ≤ 60) (hsp : sp ≤ 60) {lo hi : Nat} (hlo : lo < 1000) (hhi : hi < 1000) : Cn mX6_isAt 1 0 0 none [.ref 233, .int (nI lo), .int (nI hi)] (mM M0 X SV SN AT CH CF CT BU PT sm ik th mn cl ln sp nu pa hs) (zpi (mM M0 X SV SN AT CH CF CT BU PT sm ik th mn cl ln sp nu pa hs) (nI (atB BU ln sp lo hi).toNat)) := by
  have hb := hB sp
  refine g_aload_n dX6_isAt_0 rfl ?_
  refine g_get fX6_173 dX6_isAt_1 rfl rfl ?_
  refine g_aload_n dX6_isAt_4 rfl ?_
  refine g_get fX6_170 dX6_isAt_5 rfl rfl ?_
  refine g_icmp_ge_n (tgt := 32) dX6_isAt_8 (by decide) (by omega) (by omega) (fun h1 => ?_) (fun h1 => ?_)
  · refine g_iconst (v := nI 0) dX6_isAt_32 (by decide) ?_
    refine g_ireturn dX6_isAt_33 rfl rfl ⟨rfl, ?_, rfl⟩
    rw [show atB BU ln sp lo hi = false by simp [atB]; omega]
    rfl
  refine g_aload_n dX6_isAt_11 rfl ?_
  refine g_get fX6_31 dX6_isAt_12 rfl rfl ?_
  refine g_aload_n dX6_isAt_15 rfl ?_
  refine g_get fX6_173 dX6_isAt_16 rfl rfl ?_
  refine g_iald_n dX6_isAt_19 rfl (by omega) (by decide) ?_
  refine g_iload_n dX6_isAt_20 rfl ?_
  refine g_iload_n dX6_isAt_21 rfl ?_
  refine g_callS_i (kX6_in (nI (BU sp)) (nI lo) (nI hi)) oX6_in pX6_in lX6_41 dX6_isAt_22 rfl rfl (Nat.le_of_ble_eq_true rfl) (Nat.le_of_ble_eq_true rfl) (by decide) (fun M' h' => ?_)
  subst h'
  rw [zin_n (by omega) (by omega) (by omega)]
  refine g_if_eq_b (tgt := 32) dX6_isAt_25 (by decide) (fun h2 => ?_) (fun h2 => ?_)
  · refine g_iconst (v := nI 0) dX6_isAt_32 (by decide) ?_
    refine g_ireturn dX6_isAt_33 rfl rfl ⟨rfl, ?_, rfl⟩
    rw [show atB BU ln sp lo hi = false by simp only [atB, h2, Bool.and_false]]
    rfl
  · refine g_iconst (v := nI 1) dX6_isAt_28 (by decide) ?_
    refine g_goto (tgt := 33) dX6_isAt_29 (by decide) ?_
    refine g_ireturn dX6_isAt_33 rfl rfl ⟨rfl, ?_, rfl⟩
    rw [show atB BU ln sp lo hi = true by simp only [atB, h2, Bool.and_true]; simpa using h1]
    rfl
theorem kX6_takes (hB : bB BU) (hl : ln ≤ 60) (hsp : sp ≤ 60) {c : Nat} (hc : c < 1000) : Cn mX6_takes 2 0 0 none [.ref 233, .int (nI c)] (mM M0 X SV SN AT CH CF CT BU PT sm ik th mn cl ln sp nu pa hs) (zi (nI (atB BU ln sp c c).toNat) (fun M' => M' = mM M0 X SV SN AT CH CF CT BU PT sm ik th mn cl ln (sp+(atB BU ln sp c c).toNat) nu pa hs)) := by
  refine g_aload_n dX6_takes_0 rfl ?_
  refine g_iload_n dX6_takes_1 rfl ?_
  refine g_iload_n dX6_takes_2 rfl ?_
  refine g_callV_i (kX6_isAt hB hl hsp (lo := c) (hi := c) hc hc) oX6_isAt pX6_isAt lX6_176 dX6_takes_3 rfl rfl rfl rfl rfl (Nat.le_of_ble_eq_true rfl) (Nat.le_of_ble_eq_true rfl) (by decide) (fun M' h' => ?_)
  subst h'
  refine g_istore_n dX6_takes_6 (by decide) ?_
  refine g_aload_n dX6_takes_7 rfl ?_
  refine g_dup dX6_takes_8 rfl ?_
  refine g_get fX6_173 dX6_takes_9 rfl rfl ?_
  refine g_iload_n dX6_takes_12 rfl ?_
  refine g_if_eq_b (tgt := 20) dX6_takes_13 (by decide) (fun h1 => ?_) (fun h1 => ?_)
  · refine g_iconst (v := nI 0) dX6_takes_20 (by decide) ?_
    refine g_iadd_n dX6_takes_21 ?_
    refine g_mput_spot fX6_173 dX6_takes_22 ?_
    refine g_iload_n dX6_takes_25 rfl ?_
    refine g_ireturn_b dX6_takes_26 rfl ⟨rfl, rfl, ?_⟩
    rw [h1]
    rfl
  · refine g_iconst (v := nI 1) dX6_takes_16 (by decide) ?_
    refine g_goto (tgt := 21) dX6_takes_17 (by decide) ?_
    refine g_iadd_n dX6_takes_21 ?_
    refine g_mput_spot fX6_173 dX6_takes_22 ?_
    refine g_iload_n dX6_takes_25 rfl ?_
    refine g_ireturn_b dX6_takes_26 rfl ⟨rfl, rfl, ?_⟩
    rw [h1]
    rfl
theorem rdN_b (hB : bB BU) {lo hi v s : Nat} (hhi : hi < 100) (h : rdN BU ln lo hi sp = some (v, s)) : sp < s ∧ s ≤ ln ∧ v ≤ hi ∧ s ≤ sp + 2 := by
  have hb := hB sp
  cases he : atB BU ln sp (48 + lo) (if hi < 9 then 48 + hi else 57)
  · rw [rdN, he] at h; cases h
  have h0' := he
  simp only [atB, Bool.and_eq_true, decide_eq_true_eq] at h0'
  obtain ⟨c1, c2, c3⟩ := h0'
  have c4 : BU sp - 48 ≤ hi := by split at c3 <;> omega
  rw [rdN, he, cond_true] at h
  split at h
  · rename_i h1
    obtain ⟨d1, d2, d3⟩ := h1
    simp only [atB, Bool.and_eq_true, decide_eq_true_eq] at d2
    obtain ⟨rfl, rfl⟩ := Prod.mk.inj (Option.some.inj h)
    omega
  · obtain ⟨rfl, rfl⟩ := Prod.mk.inj (Option.some.inj h)
    omega
theorem kX6_readsN (hB : bB BU) (hl : ln ≤ 60) (hsp : sp ≤ 60) {lo hi w : Nat} (hlo : lo < 100) (hhi : hi < 100) (hw : 6 * pa + w < 60) (h : rdN BU ln lo hi sp = none) : Cn mX6_reads 2 0 0 none [.ref 233, .int (nI lo), .int (nI hi), .int (nI w)] (mM M0 X SV SN AT CH CF CT BU PT sm ik th mn cl ln sp nu pa hs) (zpi (mM M0 X SV SN AT CH CF CT BU PT sm ik th mn cl ln sp nu pa hs) (nI 0)) := by
  have h0 : atB BU ln sp (48 + lo) (if hi < 9 then 48 + hi else 57) = false := by
    cases he : atB BU ln sp (48 + lo) (if hi < 9 then 48 + hi else 57)
    · rfl
    · rw [rdN, he] at h
      simp only [cond_true] at h
      split at h <;> cases h
  have go : ∀ z, z = (if hi < 9 then 48 + hi else 57) → G mX6_reads 2 0 0 none 20 [(0, .ref 233), (1, .int (nI lo)), (2, .int (nI hi)), (3, .int (nI w))] [.int (nI z), .int (nI (48 + lo)), .ref 233] (mM M0 X SV SN AT CH CF CT BU PT sm ik th mn cl ln sp nu pa hs) (zpi (mM M0 X SV SN AT CH CF CT BU PT sm ik th mn cl ln sp nu pa hs) (nI 0)) := fun z hz => by
    refine g_callV_i (kX6_isAt hB hl hsp (lo := 48 + lo) (hi := z) (by omega) (by rw [hz]; split <;> omega)) oX6_isAt pX6_isAt lX6_176 dX6_reads_20 rfl rfl rfl rfl rfl (Nat.le_of_ble_eq_true rfl) (Nat.le_of_ble_eq_true rfl) (by decide) (fun M' h' => ?_)
    subst h'
    rw [hz, h0]
    refine g_if_ne_b (tgt := 28) dX6_reads_23 (by decide) (fun h1 => ?_) (fun h1 => ?_)
    · cases h1
    · refine g_iconst (v := nI 0) dX6_reads_26 (by decide) ?_
      exact g_ireturn dX6_reads_27 rfl rfl ⟨rfl, rfl, rfl⟩
  refine g_aload_n dX6_reads_0 rfl ?_
  refine g_bipush (v := nI 48) dX6_reads_1 (by decide) ?_
  refine g_iload_n dX6_reads_3 rfl ?_
  refine g_iadd_n dX6_reads_4 ?_
  refine g_iload_n dX6_reads_5 rfl ?_
  refine g_bipush (v := nI 9) dX6_reads_6 (by decide) ?_
  refine g_icmp_ge_n (tgt := 18) dX6_reads_8 (by decide) (by omega) (by omega) (fun h1 => ?_) (fun h1 => ?_)
  · refine g_bipush (v := nI 57) dX6_reads_18 (by decide) ?_
    exact g_loc rfl (go 57 (by rw [if_neg (by omega)]))
  · refine g_bipush (v := nI 48) dX6_reads_11 (by decide) ?_
    refine g_iload_n dX6_reads_13 rfl ?_
    refine g_iadd_n dX6_reads_14 ?_
    refine g_goto (tgt := 20) dX6_reads_15 (by decide) ?_
    exact g_loc rfl (go (48 + hi) (by rw [if_pos (by omega)]))
theorem kX6_reads (hB : bB BU) (hl : ln ≤ 60) (hsp : sp ≤ 60) {lo hi w v s : Nat} (hlo : lo < 100) (hhi : hi < 100) (hw : 6 * pa + w < 60) (h : rdN BU ln lo hi sp = some (v, s)) : Cn mX6_reads 2 0 0 none [.ref 233, .int (nI lo), .int (nI hi), .int (nI w)] (mM M0 X SV SN AT CH CF CT BU PT sm ik th mn cl ln sp nu pa hs) (zi (nI 1) (fun M' => ∃ nu', M' = mM M0 X SV SN AT CH CF CT BU (uN PT (6*pa+w) v) sm ik th mn cl ln s nu' pa hs)) := by
  have hb := hB sp
  have hb1 := hB (sp + 1)
  have h0 : atB BU ln sp (48 + lo) (if hi < 9 then 48 + hi else 57) = true := by
    cases he : atB BU ln sp (48 + lo) (if hi < 9 then 48 + hi else 57)
    · rw [rdN, he] at h; cases h
    · rfl
  have h0' := h0
  simp only [atB, Bool.and_eq_true, decide_eq_true_eq] at h0'
  obtain ⟨c1, c2, c3⟩ := h0'
  have c4 : BU sp ≤ 57 := Nat.le_trans c3 (by split <;> omega)
  rw [rdN, h0, cond_true] at h
  have one : ∀ v s : Nat, v ≤ 100 → G mX6_reads 2 0 0 none 130 [(0, .ref 233), (1, .int (nI lo)), (2, .int (nI hi)), (3, .int (nI w))] [] (mM M0 X SV SN AT CH CF CT BU PT sm ik th mn cl ln s v pa hs) (zi (nI 1) (fun M' => ∃ nu', M' = mM M0 X SV SN AT CH CF CT BU (uN PT (6*pa+w) v) sm ik th mn cl ln s nu' pa hs)) := fun v s hv => by
    refine g_aload_n dX6_reads_130 rfl ?_
    refine g_get fX6_34 dX6_reads_131 rfl rfl ?_
    refine g_bipush (v := nI 6) dX6_reads_134 (by decide) ?_
    refine g_aload_n dX6_reads_136 rfl ?_
    refine g_get fX6_182 dX6_reads_137 rfl rfl ?_
    refine g_imul_n dX6_reads_140 ?_
    refine g_iload_n dX6_reads_141 rfl ?_
    refine g_iadd_n dX6_reads_142 ?_
    refine g_aload_n dX6_reads_143 rfl ?_
    refine g_get fX6_179 dX6_reads_144 rfl rfl ?_
    refine g_mst_part dX6_reads_147 (by omega) ?_
    refine g_iconst (v := nI 1) dX6_reads_148 (by decide) ?_
    exact g_ireturn dX6_reads_149 rfl rfl ⟨rfl, rfl, v, rfl⟩
  have go : ∀ z, z = (if hi < 9 then 48 + hi else 57) → G mX6_reads 2 0 0 none 20 [(0, .ref 233), (1, .int (nI lo)), (2, .int (nI hi)), (3, .int (nI w))] [.int (nI z), .int (nI (48 + lo)), .ref 233] (mM M0 X SV SN AT CH CF CT BU PT sm ik th mn cl ln sp nu pa hs) (zi (nI 1) (fun M' => ∃ nu', M' = mM M0 X SV SN AT CH CF CT BU (uN PT (6*pa+w) v) sm ik th mn cl ln s nu' pa hs)) := fun z hz => by
    refine g_callV_i (kX6_isAt hB hl hsp (lo := 48 + lo) (hi := z) (by omega) (by rw [hz]; split <;> omega)) oX6_isAt pX6_isAt lX6_176 dX6_reads_20 rfl rfl rfl rfl rfl (Nat.le_of_ble_eq_true rfl) (Nat.le_of_ble_eq_true rfl) (by decide) (fun M' h' => ?_)
    subst h'
    rw [hz, h0]
    refine g_if_ne_b (tgt := 28) dX6_reads_23 (by decide) (fun h1 => ?_) (fun h1 => ?_)
    rotate_left
    · cases h1
    refine g_aload_n dX6_reads_28 rfl ?_
    refine g_aload_n dX6_reads_29 rfl ?_
    refine g_get fX6_31 dX6_reads_30 rfl rfl ?_
    refine g_aload_n dX6_reads_33 rfl ?_
    refine g_get fX6_173 dX6_reads_34 rfl rfl ?_
    refine g_iald_n dX6_reads_37 rfl (by omega) (by decide) ?_
    refine g_bipush (v := nI 48) dX6_reads_38 (by decide) ?_
    refine g_isub_n dX6_reads_40 (by omega) ?_
    refine g_mput_number fX6_179 dX6_reads_41 ?_
    refine g_aload_n dX6_reads_44 rfl ?_
    refine g_dup dX6_reads_45 rfl ?_
    refine g_get fX6_173 dX6_reads_46 rfl rfl ?_
    refine g_iconst (v := nI 1) dX6_reads_49 (by decide) ?_
    refine g_iadd_n dX6_reads_50 ?_
    refine g_mput_spot fX6_173 dX6_reads_51 ?_
    refine g_aload_n dX6_reads_54 rfl ?_
    refine g_get fX6_179 dX6_reads_55 rfl rfl ?_
    refine g_if_le_n (tgt := 130) dX6_reads_58 (by decide) (by omega) (fun h2 => ?_) (fun h2 => ?_)
    · rw [if_neg (by omega)] at h
      obtain ⟨rfl, rfl⟩ := Prod.mk.inj (Option.some.inj h)
      exact g_loc rfl (one _ _ (by omega))
    refine g_aload_n dX6_reads_61 rfl ?_
    refine g_bipush (v := nI 48) dX6_reads_62 (by decide) ?_
    refine g_bipush (v := nI 57) dX6_reads_64 (by decide) ?_
    refine g_callV_i (kX6_isAt hB hl (sp := sp + 1) (by omega) (lo := 48) (hi := 57) (by omega) (by omega)) oX6_isAt pX6_isAt lX6_176 dX6_reads_66 rfl rfl rfl rfl rfl (Nat.le_of_ble_eq_true rfl) (Nat.le_of_ble_eq_true rfl) (by decide) (fun M' h' => ?_)
    subst h'
    refine g_if_eq_b (tgt := 130) dX6_reads_69 (by decide) (fun h3 => ?_) (fun h3 => ?_)
    · rw [if_neg (by rw [h3]; intro q; cases q.2.1)] at h
      obtain ⟨rfl, rfl⟩ := Prod.mk.inj (Option.some.inj h)
      exact g_loc rfl (one _ _ (by omega))
    have h3' := h3
    simp only [atB, Bool.and_eq_true, decide_eq_true_eq] at h3'
    obtain ⟨e1, e2, e3⟩ := h3'
    refine g_bipush (v := nI 10) dX6_reads_72 (by decide) ?_
    refine g_aload_n dX6_reads_74 rfl ?_
    refine g_get fX6_179 dX6_reads_75 rfl rfl ?_
    refine g_imul_n dX6_reads_78 ?_
    refine g_aload_n dX6_reads_79 rfl ?_
    refine g_get fX6_31 dX6_reads_80 rfl rfl ?_
    refine g_aload_n dX6_reads_83 rfl ?_
    refine g_get fX6_173 dX6_reads_84 rfl rfl ?_
    refine g_iald_n dX6_reads_87 rfl (by omega) (by decide) ?_
    refine g_iadd_n dX6_reads_88 ?_
    refine g_bipush (v := nI 48) dX6_reads_89 (by decide) ?_
    refine g_isub_n dX6_reads_91 (by omega) ?_
    refine g_iload_n dX6_reads_92 rfl ?_
    rw [show 10 * (BU sp - 48) + BU (sp + 1) - 48 = 10 * (BU sp - 48) + (BU (sp + 1) - 48) by omega]
    refine g_icmp_gt_n (tgt := 130) dX6_reads_93 (by decide) (by omega) (by omega) (fun h4 => ?_) (fun h4 => ?_)
    · rw [if_neg (by omega)] at h
      obtain ⟨rfl, rfl⟩ := Prod.mk.inj (Option.some.inj h)
      exact g_loc rfl (one _ _ (by omega))
    rw [if_pos ⟨h2, h3, h4⟩] at h
    obtain ⟨rfl, rfl⟩ := Prod.mk.inj (Option.some.inj h)
    refine g_aload_n dX6_reads_96 rfl ?_
    refine g_bipush (v := nI 10) dX6_reads_97 (by decide) ?_
    refine g_aload_n dX6_reads_99 rfl ?_
    refine g_get fX6_179 dX6_reads_100 rfl rfl ?_
    refine g_imul_n dX6_reads_103 ?_
    refine g_aload_n dX6_reads_104 rfl ?_
    refine g_get fX6_31 dX6_reads_105 rfl rfl ?_
    refine g_aload_n dX6_reads_108 rfl ?_
    refine g_get fX6_173 dX6_reads_109 rfl rfl ?_
    refine g_iald_n dX6_reads_112 rfl (by omega) (by decide) ?_
    refine g_iadd_n dX6_reads_113 ?_
    refine g_bipush (v := nI 48) dX6_reads_114 (by decide) ?_
    refine g_isub_n dX6_reads_116 (by omega) ?_
    refine g_mput_number fX6_179 dX6_reads_117 ?_
    refine g_aload_n dX6_reads_120 rfl ?_
    refine g_dup dX6_reads_121 rfl ?_
    refine g_get fX6_173 dX6_reads_122 rfl rfl ?_
    refine g_iconst (v := nI 1) dX6_reads_125 (by decide) ?_
    refine g_iadd_n dX6_reads_126 ?_
    refine g_mput_spot fX6_173 dX6_reads_127 ?_
    rw [show 10 * (BU sp - 48) + BU (sp + 1) - 48 = 10 * (BU sp - 48) + (BU (sp + 1) - 48) by omega]
    exact g_loc rfl (one _ _ (by omega))
  refine g_aload_n dX6_reads_0 rfl ?_
  refine g_bipush (v := nI 48) dX6_reads_1 (by decide) ?_
  refine g_iload_n dX6_reads_3 rfl ?_
  refine g_iadd_n dX6_reads_4 ?_
  refine g_iload_n dX6_reads_5 rfl ?_
  refine g_bipush (v := nI 9) dX6_reads_6 (by decide) ?_
  refine g_icmp_ge_n (tgt := 18) dX6_reads_8 (by decide) (by omega) (by omega) (fun h1 => ?_) (fun h1 => ?_)
  · refine g_bipush (v := nI 57) dX6_reads_18 (by decide) ?_
    exact g_loc rfl (go 57 (by rw [if_neg (by omega)]))
  · refine g_bipush (v := nI 48) dX6_reads_11 (by decide) ?_
    refine g_iload_n dX6_reads_13 rfl ?_
    refine g_iadd_n dX6_reads_14 ?_
    refine g_goto (tgt := 20) dX6_reads_15 (by decide) ?_
    exact g_loc rfl (go (48 + hi) (by rw [if_pos (by omega)]))
end MOD13
