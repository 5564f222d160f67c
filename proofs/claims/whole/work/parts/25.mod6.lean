/-! the reference: giving way, making a single let -/
def gwStep (X : Nat → Nat) (p day : Nat) : Nat → Nat := if 93 ≤ p then rmS (uN X 9 (X 9 + X (p + 6))) ((p - 93) / 7) else uN (uN X 9 (X 9 + X (p + 6))) (p + 9) (uN X 9 (X 9 + X (p + 6)) (p + 9) ||| 2 ^ (day / 7))
def gwL (day h f t : Nat) : List Nat → (Nat → Nat) → Nat → Nat × (Nat → Nat)
  | [], X, g => (g, X)
  | p :: ps, X, g => bif clsh X p h f t then gwL day h f t ps (gwStep X p day) (g + 1) else gwL day h f t ps X g
def gw (X : Nat → Nat) (day h f t : Nat) : Nat × (Nat → Nat) := ((gwL day h f t (lk X day).reverse X 0).1, uN (gwL day h f t (lk X day).reverse X 0).2 10 ((gwL day h f t (lk X day).reverse X 0).2 10 + (gwL day h f t (lk X day).reverse X 0).1))
theorem rB_uN {X : Nat → Nat} (h : rB X) {k v : Nat} (hv : v < 1048576 ∨ k = 8 ∨ k = 9 ∨ k = 10) : rB (uN X k v) := fun j h1 h2 h3 h4 => by
  by_cases hj : j = k
  · subst hj
    rw [uN_s]
    omega
  · rw [uN_n _ _ hj]
    exact h j h1 h2 h3 h4
theorem rB_rmS {X : Nat → Nat} (h : rB X) (h12 : X 92 ≤ 12) (n : Nat) : rB (rmS X n) := fun j h1 h2 h3 h4 => by
  unfold rmS
  split
  · omega
  · split
    · exact h _ (by omega) (by omega) (by omega) (by omega)
    · split
      · omega
      · exact h j h1 h2 h3 h4
theorem or_b {a w : Nat} (ha : a < 1048576) (hw : w ≤ 11) : a ||| 2 ^ w < 1048576 := Nat.or_lt_two_pow (n := 20) ha (Nat.lt_of_le_of_lt (Nat.pow_le_pow_right (by decide) hw) (by decide))
theorem gwStep_wf {X : Nat → Nat} (h : wf0 X) {p day : Nat} (hp : p + 6 < 177) (hd : day < 84) (h2 : 93 ≤ p ∨ p + 9 < 92) (hp3 : 12 ≤ p) : wf0 (gwStep X p day) := by
  obtain ⟨hB, h8, h12⟩ := h
  have hb1 := rB_uN hB (k := 9) (v := X 9 + X (p + 6)) (Or.inr (Or.inr (Or.inl rfl)))
  have e11 : uN X 9 (X 9 + X (p + 6)) 11 = X 11 := uN_n _ _ (by decide)
  have e92 : uN X 9 (X 9 + X (p + 6)) 92 = X 92 := uN_n _ _ (by decide)
  unfold gwStep
  by_cases hc : 93 ≤ p
  · rw [if_pos hc]
    refine ⟨rB_rmS hb1 (by rw [e92]; exact h12) _, ?_, ?_⟩
    · unfold rmS
      rw [if_neg (by decide), if_neg (by omega), if_neg (by omega), e11]
      exact h8
    · unfold rmS
      rw [if_pos rfl, e92]
      omega
  · rw [if_neg hc]
    refine ⟨rB_uN hb1 (Or.inl (or_b (hb1 _ (by omega) (by omega) (by omega) (by omega)) (by omega))), ?_, ?_⟩
    · rw [uN_n _ _ (by omega), e11]
      exact h8
    · rw [uN_n _ _ (by omega), e92]
      exact h12
theorem gwStep_low {X : Nat → Nat} {p day j : Nat} (hp : 12 ≤ p) (hj : j < 8) : gwStep X p day j = X j := by
  unfold gwStep
  split
  · unfold rmS
    rw [if_neg (by omega), if_neg (by omega), if_neg (by omega), uN_n _ _ (by omega)]
  · rw [uN_n _ _ (by omega), uN_n _ _ (by omega)]
/-- places as they lie: of a regular let, or of a single one that is there -/
def plc (X : Nat → Nat) (p : Nat) : Prop := (∃ i, i < 8 ∧ p = 12 + 10 * i) ∨ ∃ i, i < X 92 ∧ p = 93 + 7 * i
theorem lk_plc {X : Nat → Nat} (h : wf0 X) {day p : Nat} (hp : p ∈ lk X day) : plc X p := by
  obtain ⟨-, h3, h4⟩ := h
  rcases List.mem_append.mp hp with h | h
  · obtain ⟨i, h1, h2, -⟩ := lkR_mem h
    exact Or.inl ⟨i, by omega, h2⟩
  · obtain ⟨i, h1, h2, -⟩ := lkS_mem h
    exact Or.inr ⟨i, h1, h2⟩
theorem lkR_pw (X : Nat → Nat) (day : Nat) : ∀ k, (lkR X day k).Pairwise (· < ·)
  | 0 => List.Pairwise.nil
  | k + 1 => by
    unfold lkR
    refine List.pairwise_append.mpr ⟨lkR_pw X day k, by cases stdR X k day <;> simp, fun a ha b hb => ?_⟩
    obtain ⟨i, hi, rfl, -⟩ := lkR_mem ha
    cases hs : stdR X k day
    · rw [hs] at hb; cases hb
    · rw [hs] at hb
      have := List.mem_singleton.mp hb
      omega
theorem lkS_pw (X : Nat → Nat) (day : Nat) : ∀ k, (lkS X day k).Pairwise (· < ·)
  | 0 => List.Pairwise.nil
  | k + 1 => by
    unfold lkS
    refine List.pairwise_append.mpr ⟨lkS_pw X day k, by cases decide (X (93 + 7 * k + 1) = day) <;> simp, fun a ha b hb => ?_⟩
    obtain ⟨i, hi, rfl, -⟩ := lkS_mem ha
    cases hs : decide (X (93 + 7 * k + 1) = day)
    · rw [hs] at hb; cases hb
    · rw [hs] at hb
      have := List.mem_singleton.mp hb
      omega
theorem lk_pw {X : Nat → Nat} (h : wf0 X) (day : Nat) : (lk X day).Pairwise (· < ·) := by
  refine List.pairwise_append.mpr ⟨lkR_pw X day _, lkS_pw X day _, fun a ha b hb => ?_⟩
  obtain ⟨-, h3, h4⟩ := h
  obtain ⟨i, hi, rfl, -⟩ := lkR_mem ha
  obtain ⟨j, hj, rfl, -⟩ := lkS_mem hb
  omega
theorem gwStep_plc {X : Nat → Nat} {p q day : Nat} (hp : plc X p) (hq : plc X q) (hlt : q < p) : plc (gwStep X p day) q := by
  rcases hq with h | ⟨i, hi, rfl⟩
  · exact Or.inl h
  · rcases hp with ⟨i2, h2, rfl⟩ | ⟨i2, h2, rfl⟩
    · exact absurd hlt (by omega)
    · refine Or.inr ⟨i, ?_, rfl⟩
      unfold gwStep rmS
      rw [if_pos (by omega), if_pos rfl, uN_n _ _ (by decide)]
      omega
theorem gwL_ok {day h f t : Nat} (hd : day < 84) : ∀ (ps : List Nat) (X : Nat → Nat) (g : Nat), wf0 X → (∀ p ∈ ps, plc X p) → ps.Pairwise (· > ·) → wf0 (gwL day h f t ps X g).2 ∧ (∀ j, j < 8 → (gwL day h f t ps X g).2 j = X j) ∧ (gwL day h f t ps X g).2 92 ≤ X 92 ∧ (gwL day h f t ps X g).1 ≤ g + ps.length ∧ (gwL day h f t ps X g).2 11 = X 11
  | [], X, g, h1, h2, h3 => ⟨h1, fun _ _ => rfl, Nat.le_refl _, Nat.le_refl _, rfl⟩
  | p :: ps, X, g, h1, h2, h3 => by
    unfold gwL
    have hp := h2 p List.mem_cons_self
    rw [List.pairwise_cons] at h3
    cases hc : clsh X p h f t
    · have := gwL_ok (h := h) (f := f) (t := t) hd ps X g h1 (fun q hq => h2 q (List.mem_cons_of_mem _ hq)) h3.2
      simp only [cond_false, List.length_cons]
      exact ⟨this.1, this.2.1, this.2.2.1, by omega, this.2.2.2.2⟩
    · have h12 := h1.2.2
      have hw : wf0 (gwStep X p day) := gwStep_wf h1 (by rcases hp with ⟨i, hi, rfl⟩ | ⟨i, hi, rfl⟩ <;> omega) hd (by rcases hp with ⟨i, hi, rfl⟩ | ⟨i, hi, rfl⟩ <;> omega) (by rcases hp with ⟨i, hi, rfl⟩ | ⟨i, hi, rfl⟩ <;> omega)
      obtain ⟨a1, a2, a3, a4, a5⟩ := gwL_ok (h := h) (f := f) (t := t) hd ps (gwStep X p day) (g + 1) hw (fun q hq => gwStep_plc hp (h2 q (List.mem_cons_of_mem _ hq)) (h3.1 q hq)) h3.2
      simp only [cond_true, List.length_cons]
      have hp12 : 12 ≤ p := by rcases hp with ⟨i, hi, rfl⟩ | ⟨i, hi, rfl⟩ <;> omega
      have e92 : gwStep X p day 92 ≤ X 92 := by
        unfold gwStep
        split
        · unfold rmS
          rw [if_pos rfl, uN_n _ _ (by decide)]
          omega
        · rw [uN_n _ _ (by rcases hp with ⟨i, hi, rfl⟩ | ⟨i, hi, rfl⟩ <;> omega), uN_n _ _ (by decide)]
          exact Nat.le_refl _
      have e11 : gwStep X p day 11 = X 11 := by
        unfold gwStep
        split
        · unfold rmS
          rw [if_neg (by omega), if_neg (by omega), if_neg (by omega), uN_n _ _ (by decide)]
        · rw [uN_n _ _ (by omega), uN_n _ _ (by decide)]
      exact ⟨a1, fun j hj => (a2 j hj).trans (gwStep_low hp12 hj), by omega, by omega, a5.trans e11⟩
theorem gw_ok {X : Nat → Nat} (h0 : wf0 X) {day h f t : Nat} (hd : day < 84) : wf0 (gw X day h f t).2 ∧ (∀ j, j < 8 → (gw X day h f t).2 j = X j) ∧ (gw X day h f t).2 92 ≤ X 92 ∧ (gw X day h f t).2 11 = X 11 := by
  obtain ⟨a1, a2, a3, a4, a5⟩ := gwL_ok (h := h) (f := f) (t := t) hd (lk X day).reverse X 0 h0 (fun p hp => lk_plc h0 (List.mem_reverse.mp hp)) (List.pairwise_reverse.mpr (lk_pw h0 day))
  unfold gw
  refine ⟨⟨rB_uN a1.1 (Or.inr (Or.inr (Or.inr rfl))), ?_, ?_⟩, fun j hj => ?_, ?_, ?_⟩
  · dsimp only
    rw [uN_n _ _ (by decide)]; exact a1.2.1
  · dsimp only
    rw [uN_n _ _ (by decide)]; exact a1.2.2
  · dsimp only
    rw [uN_n _ _ (by omega)]; exact a2 j hj
  · dsimp only
    rw [uN_n _ _ (by decide)]; exact a3
  · dsimp only
    rw [uN_n _ _ (by decide)]; exact a5
theorem wf1_low {X Y : Nat → Nat} (h : wf1 X) (e : ∀ j, j < 8 → Y j = X j) : wf1 Y := by
  unfold wf1 at h ⊢
  rw [e 0 (by decide), e 1 (by decide), e 2 (by decide), e 3 (by decide), e 4 (by decide), e 5 (by decide), e 6 (by decide), e 7 (by decide)]
  exact h
def layX (X : Nat → Nat) (p h d f t r te : Nat) : Nat → Nat := uN (uN (uN (uN (uN (uN X (p + 0) h) (p + 1) d) (p + 2) f) (p + 3) t) (p + 4) r) (p + 5) te
def mkS (X : Nat → Nat) (h day f t r te : Nat) : Nat → Nat :=
  let X1 := (gw X day h f t).2
  let p := 93 + 7 * X1 92
  let X2 := layX X1 p h day f t r te
  let X3 := uN X2 (p + 6) (sRent X2 h day f t)
  let X4 := uN X3 8 (X3 8 + X3 (p + 6))
  uN X4 92 (X4 92 + 1)
theorem i32_m1 (x : Int32) : x + Int32.ofInt (-1) = x - nI 1 := by
  rw [Int32.sub_eq_add_neg]
  rfl
section MOD6
variable {M0 : zM} {X SV SN AT CH CF CT BU PT : Nat → Nat} {sm ik th mn cl ln sp nu pa : Nat} {hs : Int64}
theorem gwL1 {day h f t : Nat} (hd : day < 84) (hh : h < 1048576) (hf : f < 1048576) (ht : t < 1048576) (F : zP) : ∀ (ps : List Nat) (X : Nat → Nat) (g : Nat), wf0 X → (∀ p ∈ ps, plc X p) → ps.Pairwise (· > ·) → ps.length ≤ 20 → atL ps.reverse AT → G mX6_giveWay 3 0 0 none 124 [(0, .ref 233), (5, .int (nI (gwL day h f t ps X g).1))] [] (mM M0 (gwL day h f t ps X g).2 SV SN AT CH CF CT BU PT sm ik th mn cl ln sp nu pa hs) F → G mX6_giveWay 3 0 0 none 16 [(0, .ref 233), (1, .int (nI h)), (2, .int (nI day)), (3, .int (nI f)), (4, .int (nI t)), (5, .int (nI g)), (6, .int (nI ps.length - nI 1))] [] (mM M0 X SV SN AT CH CF CT BU PT sm ik th mn cl ln sp nu pa hs) F := by
  intro ps
  induction ps with
  | nil =>
    intro X g h1 h2 h3 hl hat hF
    refine g_iload dX6_giveWay_16 rfl ?_
    refine g_if_lt (tgt := 124) dX6_giveWay_18 (by decide) (fun h1 => ?_) (fun h1 => absurd (by decide) h1)
    exact g_loc rfl hF
  | cons p ps ih =>
    intro X g h1 h2 h3 hl hat hF
    have hp := h2 p List.mem_cons_self
    rw [List.pairwise_cons] at h3
    rw [List.length_cons] at hl
    have hap := hat ps.length p (by rw [List.reverse_cons, List.getElem?_append_right (by simp)]; simp)
    have h12 := h1.2.2
    have hp1 : 12 ≤ p ∧ p + 6 < 177 := by rcases hp with ⟨i, hi, rfl⟩ | ⟨i, hi, rfl⟩ <;> omega
    have hat' : atL ps.reverse AT := fun j a hj => hat j a (by rw [List.reverse_cons, List.getElem?_append_left (List.getElem?_eq_some_iff.mp hj).1]; exact hj)
    rw [List.length_cons, show nI (ps.length + 1) - nI 1 = nI ps.length from nI_pred ps.length]
    refine g_iload dX6_giveWay_16 rfl ?_
    refine g_if_lt_n (tgt := 124) dX6_giveWay_18 (by decide) (by omega) (fun hc1 => ?_) (fun hc1 => ?_)
    · omega
    refine g_aload_n dX6_giveWay_21 rfl ?_
    refine g_iload dX6_giveWay_22 rfl ?_
    refine g_iload_n dX6_giveWay_24 rfl ?_
    refine g_iload_n dX6_giveWay_25 rfl ?_
    refine g_iload dX6_giveWay_26 rfl ?_
    refine g_callV_i (kX6_clashes h1 (k := ps.length) (h := h) (f := f) (t := t) (by omega) (by omega) (by omega) hh hf ht) oX6_clashes pX6_clashes lX6_84 dX6_giveWay_28 rfl rfl rfl rfl rfl (Nat.le_of_ble_eq_true rfl) (Nat.le_of_ble_eq_true rfl) (by decide) (fun M' h' => ?_)
    subst h'
    rw [hap]
    unfold gwL at hF
    refine g_if_eq_b (tgt := 118) dX6_giveWay_31 (by decide) (fun hc => ?_) (fun hc => ?_)
    · rw [hc] at hF
      refine g_iinc (v := nI ps.length - nI 1) dX6_giveWay_118 rfl (i32_m1 _) (by decide) ?_
      refine g_goto (tgt := 16) dX6_giveWay_121 (by decide) ?_
      exact g_loc rfl (ih X g h1 (fun q hq => h2 q (List.mem_cons_of_mem _ hq)) h3.2 (by omega) hat' hF)
    · rw [hc] at hF
      have hw : wf0 (gwStep X p day) := gwStep_wf h1 (by omega) hd (by rcases hp with ⟨i, hi, rfl⟩ | ⟨i, hi, rfl⟩ <;> omega) (by omega)
      have fin : ∀ Y, Y = gwStep X p day → G mX6_giveWay 3 0 0 none 118 [(0, .ref 233), (1, .int (nI h)), (2, .int (nI day)), (3, .int (nI f)), (4, .int (nI t)), (5, .int (nI (g + 1))), (6, .int (nI ps.length))] [] (mM M0 Y SV SN AT CH CF CT BU PT sm ik th mn cl ln sp nu pa hs) F := fun Y hY => by
        subst hY
        refine g_iinc (v := nI ps.length - nI 1) dX6_giveWay_118 rfl (i32_m1 _) (by decide) ?_
        refine g_goto (tgt := 16) dX6_giveWay_121 (by decide) ?_
        exact g_loc rfl (ih (gwStep X p day) (g + 1) hw (fun q hq => gwStep_plc hp (h2 q (List.mem_cons_of_mem _ hq)) (h3.1 q hq)) h3.2 (by omega) hat' hF)
      refine g_aload_n dX6_giveWay_34 rfl ?_
      refine g_get fX6_7 dX6_giveWay_35 rfl rfl ?_
      refine g_bipush (v := nI 9) dX6_giveWay_38 (by decide) ?_
      refine g_dup2 dX6_giveWay_40 rfl rfl ?_
      refine g_iald_n dX6_giveWay_41 rfl (by omega) (by decide) ?_
      refine g_aload_n dX6_giveWay_42 rfl ?_
      refine g_get fX6_7 dX6_giveWay_43 rfl rfl ?_
      refine g_aload_n dX6_giveWay_46 rfl ?_
      refine g_get fX6_19 dX6_giveWay_47 rfl rfl ?_
      refine g_iload dX6_giveWay_50 rfl ?_
      refine g_iald_n dX6_giveWay_52 rfl (by omega) (by decide) ?_
      refine g_bipush (v := nI 6) dX6_giveWay_53 (by decide) ?_
      refine g_iadd_n dX6_giveWay_55 ?_
      refine g_iald_n dX6_giveWay_56 rfl (by omega) (by decide) ?_
      refine g_iadd_n dX6_giveWay_57 ?_
      simp only [hap]
      refine g_mst_row dX6_giveWay_58 (by omega) ?_
      refine g_iinc_n (c := 1) dX6_giveWay_59 rfl (by decide) (by decide) ?_
      refine g_aload_n dX6_giveWay_62 rfl ?_
      refine g_get fX6_19 dX6_giveWay_63 rfl rfl ?_
      refine g_iload dX6_giveWay_66 rfl ?_
      refine g_iald_n dX6_giveWay_68 rfl (by omega) (by decide) ?_
      refine g_bipush (v := nI 93) dX6_giveWay_69 (by decide) ?_
      simp only [hap]
      refine g_icmp_lt_n (tgt := 94) dX6_giveWay_71 (by decide) (by omega) (by omega) (fun h93 => ?_) (fun h93 => ?_)
      · refine g_aload_n dX6_giveWay_94 rfl ?_
        refine g_get fX6_7 dX6_giveWay_95 rfl rfl ?_
        refine g_aload_n dX6_giveWay_98 rfl ?_
        refine g_get fX6_19 dX6_giveWay_99 rfl rfl ?_
        refine g_iload dX6_giveWay_102 rfl ?_
        refine g_iald_n dX6_giveWay_104 rfl (by omega) (by decide) ?_
        refine g_bipush (v := nI 9) dX6_giveWay_105 (by decide) ?_
        refine g_iadd_n dX6_giveWay_107 ?_
        refine g_dup2 dX6_giveWay_108 rfl rfl ?_
        refine g_iald_n dX6_giveWay_109 rfl (by omega) (by decide) ?_
        refine g_iconst (v := nI 1) dX6_giveWay_110 (by decide) ?_
        refine g_iload_n dX6_giveWay_111 rfl ?_
        refine g_bipush (v := nI 7) dX6_giveWay_112 (by decide) ?_
        refine g_idiv_n dX6_giveWay_114 (by omega) (by omega) (by omega) ?_
        refine g_ishl_n dX6_giveWay_115 (by omega) ?_
        refine g_ior_n dX6_giveWay_116 ?_
        simp only [hap]
        refine g_mst_row dX6_giveWay_117 (by omega) ?_
        refine g_loc rfl (fin _ ?_)
        unfold gwStep
        rw [if_neg (by omega)]
      · obtain ⟨i, hi, hpi⟩ : ∃ i, i < X 92 ∧ p = 93 + 7 * i := by 
          rcases hp with ⟨i, hi, rfl⟩ | h
          · omega
          · exact h
        have e92 : uN X 9 (X 9 + X (p + 6)) 92 = X 92 := uN_n _ _ (by decide)
        refine g_aload_n dX6_giveWay_74 rfl ?_
        refine g_aload_n dX6_giveWay_75 rfl ?_
        refine g_get fX6_19 dX6_giveWay_76 rfl rfl ?_
        refine g_iload dX6_giveWay_79 rfl ?_
        refine g_iald_n dX6_giveWay_81 rfl (by omega) (by decide) ?_
        refine g_bipush (v := nI 93) dX6_giveWay_82 (by decide) ?_
        refine g_isub_n dX6_giveWay_84 (by omega) ?_
        refine g_bipush (v := nI 7) dX6_giveWay_85 (by decide) ?_
        refine g_idiv_n dX6_giveWay_87 (by omega) (by omega) (by omega) ?_
        simp only [hap]
        refine g_callV_v (kX6_removeSingle (n := (p - 93) / 7) (by rw [e92]; omega) (by rw [e92]; exact h12)) oX6_removeSingle pX6_removeSingle lX6_104 dX6_giveWay_88 rfl rfl rfl rfl rfl (Nat.le_of_ble_eq_true rfl) (Nat.le_of_ble_eq_true rfl) (by decide) (fun M' h' => ?_)
        subst h'
        refine g_goto (tgt := 118) dX6_giveWay_91 (by decide) ?_
        refine g_loc rfl (fin _ ?_)
        unfold gwStep
        rw [if_pos (by omega)]
theorem kX6_giveWay (hX : wf0 X) {day h f t : Nat} (hd : day < 84) (hh : h < 1048576) (hf : f < 1048576) (ht : t < 1048576) : Cn mX6_giveWay 3 0 0 none [.ref 233, .int (nI h), .int (nI day), .int (nI f), .int (nI t)] (mM M0 X SV SN AT CH CF CT BU PT sm ik th mn cl ln sp nu pa hs) (zi (nI (gw X day h f t).1) (fun M' => ∃ AT' mn', M' = mM M0 (gw X day h f t).2 SV SN AT' CH CF CT BU PT sm ik th mn' cl ln sp nu pa hs)) := by
  refine g_aload_n dX6_giveWay_0 rfl ?_
  refine g_iload_n dX6_giveWay_1 rfl ?_
  refine g_callV_v (kX6_look hX hd) oX6_look pX6_look lX6_80 dX6_giveWay_2 rfl rfl rfl rfl rfl (Nat.le_of_ble_eq_true rfl) (Nat.le_of_ble_eq_true rfl) (by decide) (fun M' h' => ?_)
  obtain ⟨AT', rfl, hat⟩ := h'
  have hl := lk_len hX day
  refine g_iconst (v := nI 0) dX6_giveWay_5 (by decide) ?_
  refine g_istore dX6_giveWay_6 (by decide) ?_
  refine g_aload_n dX6_giveWay_8 rfl ?_
  refine g_get fX6_67 dX6_giveWay_9 rfl rfl ?_
  refine g_iconst (v := nI 1) dX6_giveWay_12 (by decide) ?_
  refine g_isub dX6_giveWay_13 ?_
  refine g_istore dX6_giveWay_14 (by decide) ?_
  have := gwL1 (M0 := M0) (SV := SV) (SN := SN) (CH := CH) (CF := CF) (CT := CT) (BU := BU) (PT := PT) (sm := sm) (ik := ik) (th := th) (mn := (lk X day).length) (cl := cl) (ln := ln) (sp := sp) (nu := nu) (pa := pa) (hs := hs) (AT := AT') hd hh hf ht (zi (nI (gw X day h f t).1) (fun M' => ∃ AT' mn', M' = mM M0 (gw X day h f t).2 SV SN AT' CH CF CT BU PT sm ik th mn' cl ln sp nu pa hs)) (lk X day).reverse X 0 hX (fun p hp => lk_plc hX (List.mem_reverse.mp hp)) (List.pairwise_reverse.mpr (lk_pw hX day)) (by simpa using hl) (by rw [List.reverse_reverse]; exact hat) (by
    refine g_aload_n dX6_giveWay_124 rfl ?_
    refine g_get fX6_7 dX6_giveWay_125 rfl rfl ?_
    refine g_bipush (v := nI 10) dX6_giveWay_128 (by decide) ?_
    refine g_dup2 dX6_giveWay_130 rfl rfl ?_
    refine g_iald_n dX6_giveWay_131 rfl (by omega) (by decide) ?_
    refine g_iload dX6_giveWay_132 rfl ?_
    refine g_iadd_n dX6_giveWay_134 ?_
    refine g_mst_row dX6_giveWay_135 (by omega) ?_
    refine g_iload dX6_giveWay_136 rfl ?_
    exact g_ireturn dX6_giveWay_138 rfl rfl ⟨rfl, rfl, AT', _, rfl⟩)
  rw [List.length_reverse] at this
  exact g_loc rfl this
theorem kX6_lay {p h d f t r te : Nat} (hp : p + 5 < 177) : Cn mX6_lay 0 0 0 none [.ref 233, .int (nI p), .int (nI h), .int (nI d), .int (nI f), .int (nI t), .int (nI r), .int (nI te)] (mM M0 X SV SN AT CH CF CT BU PT sm ik th mn cl ln sp nu pa hs) (zv (fun M' => M' = mM M0 (layX X p h d f t r te) SV SN AT CH CF CT BU PT sm ik th mn cl ln sp nu pa hs)) := by
  refine g_aload_n dX6_lay_0 rfl ?_
  refine g_get fX6_7 dX6_lay_1 rfl rfl ?_
  refine g_iload_n dX6_lay_4 rfl ?_
  refine g_iconst (v := nI 0) dX6_lay_5 (by decide) ?_
  refine g_iadd_n dX6_lay_6 ?_
  refine g_iload_n dX6_lay_7 rfl ?_
  refine g_mst_row dX6_lay_8 (by omega) ?_
  refine g_aload_n dX6_lay_9 rfl ?_
  refine g_get fX6_7 dX6_lay_10 rfl rfl ?_
  refine g_iload_n dX6_lay_13 rfl ?_
  refine g_iconst (v := nI 1) dX6_lay_14 (by decide) ?_
  refine g_iadd_n dX6_lay_15 ?_
  refine g_iload_n dX6_lay_16 rfl ?_
  refine g_mst_row dX6_lay_17 (by omega) ?_
  refine g_aload_n dX6_lay_18 rfl ?_
  refine g_get fX6_7 dX6_lay_19 rfl rfl ?_
  refine g_iload_n dX6_lay_22 rfl ?_
  refine g_iconst (v := nI 2) dX6_lay_23 (by decide) ?_
  refine g_iadd_n dX6_lay_24 ?_
  refine g_iload dX6_lay_25 rfl ?_
  refine g_mst_row dX6_lay_27 (by omega) ?_
  refine g_aload_n dX6_lay_28 rfl ?_
  refine g_get fX6_7 dX6_lay_29 rfl rfl ?_
  refine g_iload_n dX6_lay_32 rfl ?_
  refine g_iconst (v := nI 3) dX6_lay_33 (by decide) ?_
  refine g_iadd_n dX6_lay_34 ?_
  refine g_iload dX6_lay_35 rfl ?_
  refine g_mst_row dX6_lay_37 (by omega) ?_
  refine g_aload_n dX6_lay_38 rfl ?_
  refine g_get fX6_7 dX6_lay_39 rfl rfl ?_
  refine g_iload_n dX6_lay_42 rfl ?_
  refine g_iconst (v := nI 4) dX6_lay_43 (by decide) ?_
  refine g_iadd_n dX6_lay_44 ?_
  refine g_iload dX6_lay_45 rfl ?_
  refine g_mst_row dX6_lay_47 (by omega) ?_
  refine g_aload_n dX6_lay_48 rfl ?_
  refine g_get fX6_7 dX6_lay_49 rfl rfl ?_
  refine g_iload_n dX6_lay_52 rfl ?_
  refine g_iconst (v := nI 5) dX6_lay_53 (by decide) ?_
  refine g_iadd_n dX6_lay_54 ?_
  refine g_iload dX6_lay_55 rfl ?_
  refine g_mst_row dX6_lay_57 (by omega) ?_
  exact g_return dX6_lay_58 rfl ⟨rfl, rfl, rfl⟩
theorem kX6_makeSingle (hX : wf0 X) (h1 : wf1 X) (hlt : X 92 < 12) {day h f t r te : Nat} (hd : day < 84) (hh : h ≤ 2) (hf : f ≤ t) (ht : t ≤ 24) : Cn mX6_makeSingle 4 0 0 none [.ref 233, .int (nI h), .int (nI day), .int (nI f), .int (nI t), .int (nI r), .int (nI te)] (mM M0 X SV SN AT CH CF CT BU PT sm ik th mn cl ln sp nu pa hs) (zi (nI (gw X day h f t).1) (fun M' => ∃ AT' mn', M' = mM M0 (mkS X h day f t r te) SV SN AT' CH CF CT BU PT sm ik th mn' cl ln sp nu pa hs)) := by
  obtain ⟨g1, g2, g3, g4⟩ := gw_ok hX (h := h) (f := f) (t := t) hd
  refine g_aload_n dX6_makeSingle_0 rfl ?_
  refine g_iload_n dX6_makeSingle_1 rfl ?_
  refine g_iload_n dX6_makeSingle_2 rfl ?_
  refine g_iload_n dX6_makeSingle_3 rfl ?_
  refine g_iload dX6_makeSingle_4 rfl ?_
  refine g_callV_i (kX6_giveWay hX hd (h := h) (f := f) (t := t) (by omega) (by omega) (by omega)) oX6_giveWay pX6_giveWay lX6_107 dX6_makeSingle_6 rfl rfl rfl rfl rfl (Nat.le_of_ble_eq_true rfl) (Nat.le_of_ble_eq_true rfl) (by decide) (fun M' h' => ?_)
  obtain ⟨AT', mn', rfl⟩ := h'
  generalize hX1 : (gw X day h f t).2 = X1 at g1 g2 g3 g4
  have hm : mkS X h day f t r te = uN (uN (uN (layX X1 (93 + 7 * X1 92) h day f t r te) (93 + 7 * X1 92 + 6) (sRent (layX X1 (93 + 7 * X1 92) h day f t r te) h day f t)) 8 (uN (layX X1 (93 + 7 * X1 92) h day f t r te) (93 + 7 * X1 92 + 6) (sRent (layX X1 (93 + 7 * X1 92) h day f t r te) h day f t) 8 + uN (layX X1 (93 + 7 * X1 92) h day f t r te) (93 + 7 * X1 92 + 6) (sRent (layX X1 (93 + 7 * X1 92) h day f t r te) h day f t) (93 + 7 * X1 92 + 6))) 92 (uN (uN (layX X1 (93 + 7 * X1 92) h day f t r te) (93 + 7 * X1 92 + 6) (sRent (layX X1 (93 + 7 * X1 92) h day f t r te) h day f t)) 8 (uN (layX X1 (93 + 7 * X1 92) h day f t r te) (93 + 7 * X1 92 + 6) (sRent (layX X1 (93 + 7 * X1 92) h day f t r te) h day f t) 8 + uN (layX X1 (93 + 7 * X1 92) h day f t r te) (93 + 7 * X1 92 + 6) (sRent (layX X1 (93 + 7 * X1 92) h day f t r te) h day f t) (93 + 7 * X1 92 + 6)) 92 + 1) := by
    unfold mkS
    rw [hX1]
  rw [hm]
  have hlow : ∀ j, j < 8 → layX X1 (93 + 7 * X1 92) h day f t r te j = X1 j := fun j hj => by
    unfold layX
    rw [uN_n _ _ (by omega), uN_n _ _ (by omega), uN_n _ _ (by omega), uN_n _ _ (by omega), uN_n _ _ (by omega), uN_n _ _ (by omega)]
  have hwl : wf1 (layX X1 (93 + 7 * X1 92) h day f t r te) := wf1_low (wf1_low h1 g2) hlow
  refine g_istore dX6_makeSingle_9 (by decide) ?_
  refine g_bipush (v := nI 93) dX6_makeSingle_11 (by decide) ?_
  refine g_bipush (v := nI 7) dX6_makeSingle_13 (by decide) ?_
  refine g_aload_n dX6_makeSingle_15 rfl ?_
  refine g_get fX6_7 dX6_makeSingle_16 rfl rfl ?_
  refine g_bipush (v := nI 92) dX6_makeSingle_19 (by decide) ?_
  refine g_iald_n dX6_makeSingle_21 rfl (by omega) (by decide) ?_
  refine g_imul_n dX6_makeSingle_22 ?_
  refine g_iadd_n dX6_makeSingle_23 ?_
  refine g_istore dX6_makeSingle_24 (by decide) ?_
  refine g_aload_n dX6_makeSingle_26 rfl ?_
  refine g_iload dX6_makeSingle_27 rfl ?_
  refine g_iload_n dX6_makeSingle_29 rfl ?_
  refine g_iload_n dX6_makeSingle_30 rfl ?_
  refine g_iload_n dX6_makeSingle_31 rfl ?_
  refine g_iload dX6_makeSingle_32 rfl ?_
  refine g_iload dX6_makeSingle_34 rfl ?_
  refine g_iload dX6_makeSingle_36 rfl ?_
  refine g_callV_v (kX6_lay (p := 93 + 7 * X1 92) (h := h) (d := day) (f := f) (t := t) (r := r) (te := te) (by omega)) oX6_lay pX6_lay lX6_110 dX6_makeSingle_38 rfl rfl rfl rfl rfl (Nat.le_of_ble_eq_true rfl) (Nat.le_of_ble_eq_true rfl) (by decide) (fun M' h' => ?_)
  subst h'
  generalize layX X1 (93 + 7 * X1 92) h day f t r te = X2 at hwl
  refine g_aload_n dX6_makeSingle_41 rfl ?_
  refine g_get fX6_7 dX6_makeSingle_42 rfl rfl ?_
  refine g_iload dX6_makeSingle_45 rfl ?_
  refine g_bipush (v := nI 6) dX6_makeSingle_47 (by decide) ?_
  refine g_iadd_n dX6_makeSingle_49 ?_
  refine g_aload_n dX6_makeSingle_50 rfl ?_
  refine g_iload_n dX6_makeSingle_51 rfl ?_
  refine g_iload_n dX6_makeSingle_52 rfl ?_
  refine g_iload_n dX6_makeSingle_53 rfl ?_
  refine g_iload dX6_makeSingle_54 rfl ?_
  refine g_callV_i (kX6_singleRent hwl (h := h) (day := day) (f := f) (t := t) hh hd hf ht) oX6_singleRent pX6_singleRent lX6_114 dX6_makeSingle_56 rfl rfl rfl rfl rfl (Nat.le_of_ble_eq_true rfl) (Nat.le_of_ble_eq_true rfl) (by decide) (fun M' h' => ?_)
  subst h'
  refine g_mst_row dX6_makeSingle_59 (by omega) ?_
  refine g_aload_n dX6_makeSingle_60 rfl ?_
  refine g_get fX6_7 dX6_makeSingle_61 rfl rfl ?_
  refine g_bipush (v := nI 8) dX6_makeSingle_64 (by decide) ?_
  refine g_dup2 dX6_makeSingle_66 rfl rfl ?_
  refine g_iald_n dX6_makeSingle_67 rfl (by omega) (by decide) ?_
  refine g_aload_n dX6_makeSingle_68 rfl ?_
  refine g_get fX6_7 dX6_makeSingle_69 rfl rfl ?_
  refine g_iload dX6_makeSingle_72 rfl ?_
  refine g_bipush (v := nI 6) dX6_makeSingle_74 (by decide) ?_
  refine g_iadd_n dX6_makeSingle_76 ?_
  refine g_iald_n dX6_makeSingle_77 rfl (by omega) (by decide) ?_
  refine g_iadd_n dX6_makeSingle_78 ?_
  refine g_mst_row dX6_makeSingle_79 (by omega) ?_
  refine g_aload_n dX6_makeSingle_80 rfl ?_
  refine g_get fX6_7 dX6_makeSingle_81 rfl rfl ?_
  refine g_bipush (v := nI 92) dX6_makeSingle_84 (by decide) ?_
  refine g_dup2 dX6_makeSingle_86 rfl rfl ?_
  refine g_iald_n dX6_makeSingle_87 rfl (by omega) (by decide) ?_
  refine g_iconst (v := nI 1) dX6_makeSingle_88 (by decide) ?_
  refine g_iadd_n dX6_makeSingle_89 ?_
  refine g_mst_row dX6_makeSingle_90 (by omega) ?_
  refine g_iload dX6_makeSingle_91 rfl ?_
  exact g_ireturn dX6_makeSingle_93 rfl rfl ⟨rfl, rfl, AT', mn', rfl⟩
end MOD6
