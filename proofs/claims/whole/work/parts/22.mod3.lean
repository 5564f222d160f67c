/-! the reference: days, clashes, the list of cleanings -/
def dcnt (X : Nat → Nat) (i : Nat) : Nat → Nat
  | 0 => 0
  | k + 1 => dcnt X i k + (stdR X i k).toNat
theorem dcnt_le (X : Nat → Nat) (i : Nat) : ∀ k, dcnt X i k ≤ k
  | 0 => Nat.le_refl 0
  | k + 1 => by
    have h := dcnt_le X i k
    simp only [dcnt]
    cases stdR X i k <;> simp <;> omega
def clsh (X : Nat → Nat) (p h f t : Nat) : Bool := decide (X p = h) && (decide (f < X (p + 3) + X 0) && decide (X (p + 2) < t + X 0))
section MOD3
variable {M0 : zM} {X SV SN AT CH CF CT BU PT : Nat → Nat} {sm ik th mn cl ln sp nu pa : Nat} {hs : Int64}
theorem daysOf1 (hX : wf0 X) {i : Nat} (hi : i < 8) : ∀ n k, k + n = 84 → G mX6_daysOf 2 0 0 none 4 [(0, .ref 233), (1, .int (nI i)), (2, .int (nI (dcnt X i k))), (3, .int (nI k))] [] (mM M0 X SV SN AT CH CF CT BU PT sm ik th mn cl ln sp nu pa hs) (zpi (mM M0 X SV SN AT CH CF CT BU PT sm ik th mn cl ln sp nu pa hs) (nI (dcnt X i 84))) := by
  intro n
  induction n with
  | zero =>
    intro k hkn
    have : k = 84 := by omega
    subst this
    refine g_iload_n dX6_daysOf_4 rfl ?_
    refine g_bipush (v := nI 84) dX6_daysOf_5 (by decide) ?_
    refine g_icmp_ge_n (tgt := 33) dX6_daysOf_7 (by decide) (by omega) (by omega) (fun h1 => ?_) (fun h1 => ?_)
    · refine g_iload_n dX6_daysOf_33 rfl ?_
      exact g_ireturn dX6_daysOf_34 rfl rfl ⟨rfl, rfl, rfl⟩
    · omega
  | succ n ih =>
    intro k hkn
    refine g_iload_n dX6_daysOf_4 rfl ?_
    refine g_bipush (v := nI 84) dX6_daysOf_5 (by decide) ?_
    refine g_icmp_ge_n (tgt := 33) dX6_daysOf_7 (by decide) (by omega) (by omega) (fun h1 => ?_) (fun h1 => ?_)
    · omega
    refine g_iload_n dX6_daysOf_10 rfl ?_
    refine g_aload_n dX6_daysOf_11 rfl ?_
    refine g_iload_n dX6_daysOf_12 rfl ?_
    refine g_iload_n dX6_daysOf_13 rfl ?_
    refine g_callV_i (kX6_standsOn hX.1 (i := i) (day := k) hi (by omega)) oX6_standsOn pX6_standsOn lX6_70 dX6_daysOf_14 rfl rfl rfl rfl rfl (Nat.le_of_ble_eq_true rfl) (Nat.le_of_ble_eq_true rfl) (by decide) (fun M' h' => ?_)
    subst h'
    refine g_if_eq_b (tgt := 24) dX6_daysOf_17 (by decide) (fun h2 => ?_) (fun h2 => ?_)
    · refine g_iconst (v := nI 0) dX6_daysOf_24 (by decide) ?_
      refine g_iadd_n dX6_daysOf_25 ?_
      refine g_istore_n dX6_daysOf_26 (by decide) ?_
      refine g_iinc_n (c := 1) dX6_daysOf_27 rfl (by decide) (by decide) ?_
      refine g_goto (tgt := 4) dX6_daysOf_30 (by decide) ?_
      have := ih (k + 1) (by omega)
      rw [show dcnt X i (k + 1) = dcnt X i k + 0 by simp [dcnt, h2]] at this
      exact g_loc rfl this
    · refine g_iconst (v := nI 1) dX6_daysOf_20 (by decide) ?_
      refine g_goto (tgt := 25) dX6_daysOf_21 (by decide) ?_
      refine g_iadd_n dX6_daysOf_25 ?_
      refine g_istore_n dX6_daysOf_26 (by decide) ?_
      refine g_iinc_n (c := 1) dX6_daysOf_27 rfl (by decide) (by decide) ?_
      refine g_goto (tgt := 4) dX6_daysOf_30 (by decide) ?_
      have := ih (k + 1) (by omega)
      rw [show dcnt X i (k + 1) = dcnt X i k + 1 by simp [dcnt, h2]] at this
      exact g_loc rfl this
theorem kX6_daysOf (hX : wf0 X) {i : Nat} (hi : i < 8) : Cn mX6_daysOf 2 0 0 none [.ref 233, .int (nI i)] (mM M0 X SV SN AT CH CF CT BU PT sm ik th mn cl ln sp nu pa hs) (zpi (mM M0 X SV SN AT CH CF CT BU PT sm ik th mn cl ln sp nu pa hs) (nI (dcnt X i 84))) := by
  refine g_iconst (v := nI 0) dX6_daysOf_0 (by decide) ?_
  refine g_istore_n dX6_daysOf_1 (by decide) ?_
  refine g_iconst (v := nI 0) dX6_daysOf_2 (by decide) ?_
  refine g_istore_n dX6_daysOf_3 (by decide) ?_
  exact g_loc rfl (daysOf1 hX hi 84 0 (by omega))
theorem kX6_clashes (hX : wf0 X) {k h f t : Nat} (hk : k < 24) (hp : AT k + 6 < 177) (hp2 : 12 ≤ AT k) (hh : h < 1048576) (hf : f < 1048576) (ht : t < 1048576) : Cn mX6_clashes 0 0 0 none [.ref 233, .int (nI k), .int (nI h), .int (nI f), .int (nI t)] (mM M0 X SV SN AT CH CF CT BU PT sm ik th mn cl ln sp nu pa hs) (zpi (mM M0 X SV SN AT CH CF CT BU PT sm ik th mn cl ln sp nu pa hs) (nI (clsh X (AT k) h f t).toNat)) := by
  have b0 := hX.1 0 (by omega) (by omega) (by omega) (by omega)
  have b1 := hX.1 (AT k) (by omega) (by omega) (by omega) (by omega)
  have b2 := hX.1 (AT k + 2) (by omega) (by omega) (by omega) (by omega)
  have b3 := hX.1 (AT k + 3) (by omega) (by omega) (by omega) (by omega)
  refine g_aload_n dX6_clashes_0 rfl ?_
  refine g_get fX6_7 dX6_clashes_1 rfl rfl ?_
  refine g_aload_n dX6_clashes_4 rfl ?_
  refine g_get fX6_19 dX6_clashes_5 rfl rfl ?_
  refine g_iload_n dX6_clashes_8 rfl ?_
  refine g_iald_n dX6_clashes_9 rfl (by omega) (by decide) ?_
  refine g_iconst (v := nI 0) dX6_clashes_10 (by decide) ?_
  refine g_iadd_n dX6_clashes_11 ?_
  refine g_iald_n dX6_clashes_12 rfl (by omega) (by decide) ?_
  refine g_iload_n dX6_clashes_13 rfl ?_
  simp only [Nat.add_zero]
  refine g_icmp_ne_n (tgt := 70) dX6_clashes_14 (by decide) (by omega) (by omega) (fun h1 => ?_) (fun h1 => ?_)
  · refine g_iconst (v := nI 0) dX6_clashes_70 (by decide) ?_
    refine g_ireturn dX6_clashes_71 rfl rfl ⟨rfl, ?_, rfl⟩
    simp [clsh, h1]
  refine g_iload_n dX6_clashes_17 rfl ?_
  refine g_aload_n dX6_clashes_18 rfl ?_
  refine g_get fX6_7 dX6_clashes_19 rfl rfl ?_
  refine g_aload_n dX6_clashes_22 rfl ?_
  refine g_get fX6_19 dX6_clashes_23 rfl rfl ?_
  refine g_iload_n dX6_clashes_26 rfl ?_
  refine g_iald_n dX6_clashes_27 rfl (by omega) (by decide) ?_
  refine g_iconst (v := nI 3) dX6_clashes_28 (by decide) ?_
  refine g_iadd_n dX6_clashes_29 ?_
  refine g_iald_n dX6_clashes_30 rfl (by omega) (by decide) ?_
  refine g_aload_n dX6_clashes_31 rfl ?_
  refine g_get fX6_7 dX6_clashes_32 rfl rfl ?_
  refine g_iconst (v := nI 0) dX6_clashes_35 (by decide) ?_
  refine g_iald_n dX6_clashes_36 rfl (by omega) (by decide) ?_
  refine g_iadd_n dX6_clashes_37 ?_
  refine g_icmp_ge_n (tgt := 70) dX6_clashes_38 (by decide) (by omega) (by omega) (fun h2 => ?_) (fun h2 => ?_)
  · refine g_iconst (v := nI 0) dX6_clashes_70 (by decide) ?_
    refine g_ireturn dX6_clashes_71 rfl rfl ⟨rfl, ?_, rfl⟩
    rw [show clsh X (AT k) h f t = false by simp [clsh]; intros; omega]
    rfl
  refine g_aload_n dX6_clashes_41 rfl ?_
  refine g_get fX6_7 dX6_clashes_42 rfl rfl ?_
  refine g_aload_n dX6_clashes_45 rfl ?_
  refine g_get fX6_19 dX6_clashes_46 rfl rfl ?_
  refine g_iload_n dX6_clashes_49 rfl ?_
  refine g_iald_n dX6_clashes_50 rfl (by omega) (by decide) ?_
  refine g_iconst (v := nI 2) dX6_clashes_51 (by decide) ?_
  refine g_iadd_n dX6_clashes_52 ?_
  refine g_iald_n dX6_clashes_53 rfl (by omega) (by decide) ?_
  refine g_iload dX6_clashes_54 rfl ?_
  refine g_aload_n dX6_clashes_56 rfl ?_
  refine g_get fX6_7 dX6_clashes_57 rfl rfl ?_
  refine g_iconst (v := nI 0) dX6_clashes_60 (by decide) ?_
  refine g_iald_n dX6_clashes_61 rfl (by omega) (by decide) ?_
  refine g_iadd_n dX6_clashes_62 ?_
  refine g_icmp_ge_n (tgt := 70) dX6_clashes_63 (by decide) (by omega) (by omega) (fun h3 => ?_) (fun h3 => ?_)
  · refine g_iconst (v := nI 0) dX6_clashes_70 (by decide) ?_
    refine g_ireturn dX6_clashes_71 rfl rfl ⟨rfl, ?_, rfl⟩
    rw [show clsh X (AT k) h f t = false by simp [clsh]; intros; omega]
    rfl
  refine g_iconst (v := nI 1) dX6_clashes_66 (by decide) ?_
  refine g_goto (tgt := 71) dX6_clashes_67 (by decide) ?_
  refine g_ireturn dX6_clashes_71 rfl rfl ⟨rfl, ?_, rfl⟩
  rw [show clsh X (AT k) h f t = true by simp [clsh]; omega]
  rfl
end MOD3
/-- a let for cleaning: hall, from, to -/
abbrev cE : Type := Nat × Nat × Nat
def gtE (a e : cE) : Bool := decide (e.2.2 < a.2.2) || (decide (a.2.2 = e.2.2) && decide (e.1 < a.1))
/-- put from the end of the list (given from its end) -/
def insR (e : cE) : List cE → List cE
  | [] => [e]
  | a :: r => bif gtE a e then a :: insR e r else e :: a :: r
def addC (e : cE) (l : List cE) : List cE := (insR e l.reverse).reverse
theorem insR_len (e : cE) : ∀ r, (insR e r).length = r.length + 1
  | [] => rfl
  | a :: r => by
    simp only [insR]
    cases gtE a e
    · rfl
    · simp [insR_len e r]
theorem addC_len (e : cE) (l : List cE) : (addC e l).length = l.length + 1 := by simp [addC, insR_len]
/-- the list from place o on -/
def cAt (l : List cE) (o : Nat) (CH CF CT : Nat → Nat) : Prop := ∀ j a, l[j]? = some a → CH (o + j) = a.1 ∧ CF (o + j) = a.2.1 ∧ CT (o + j) = a.2.2
def cS (e : cE) : Prop := e.1 < 1048576 ∧ e.2.1 < 1048576 ∧ e.2.2 < 1048576
theorem cAt_nil {o : Nat} {CH CF CT : Nat → Nat} : cAt [] o CH CF CT := fun j a h => by simp at h
theorem cAt_put {l : List cE} {o k : Nat} {CH CF CT : Nat → Nat} {x y z : Nat} (h : cAt l o CH CF CT) (hk : k < o ∨ o + l.length ≤ k) : cAt l o (uN CH k x) (uN CF k y) (uN CT k z) := fun j a hj => by
  have hl := (List.getElem?_eq_some_iff.mp hj).1
  rw [uN_n _ _ (by omega), uN_n _ _ (by omega), uN_n _ _ (by omega)]
  exact h j a hj
theorem cAt_cons {l : List cE} {o : Nat} {CH CF CT : Nat → Nat} {a : cE} (h : cAt l (o + 1) CH CF CT) (h1 : CH o = a.1) (h2 : CF o = a.2.1) (h3 : CT o = a.2.2) : cAt (a :: l) o CH CF CT := fun j b hj => by
  cases j with
  | zero => cases hj; exact ⟨h1, h2, h3⟩
  | succ j =>
    have := h j b hj
    rw [show o + (j + 1) = o + 1 + j by omega]
    exact this
theorem cAt_app {l m : List cE} {o : Nat} {CH CF CT : Nat → Nat} (h : cAt l o CH CF CT) (h2 : cAt m (o + l.length) CH CF CT) : cAt (l ++ m) o CH CF CT := fun j b hj => by
  by_cases hl : j < l.length
  · rw [List.getElem?_append_left hl] at hj
    exact h j b hj
  · rw [List.getElem?_append_right (by omega)] at hj
    have := h2 _ b hj
    rw [show o + l.length + (j - l.length) = o + j by omega] at this
    exact this
theorem cAt_left {l m : List cE} {o : Nat} {CH CF CT : Nat → Nat} (h : cAt (l ++ m) o CH CF CT) : cAt l o CH CF CT := fun j b hj => h j b (by rw [List.getElem?_append_left (List.getElem?_eq_some_iff.mp hj).1]; exact hj)
section MOD3
variable {M0 : zM} {X SV SN AT BU PT : Nat → Nat} {sm ik th mn ln sp nu pa : Nat} {hs : Int64}
theorem addC1 {e : cE} (he : cS e) : ∀ (r D : List cE) (CH CF CT : Nat → Nat) (F : zP), (∀ a ∈ r, cS a) → r.length + D.length < 24 → cAt r.reverse 0 CH CF CT → cAt D (r.length + 1) CH CF CT → (∀ CH' CF' CT', cAt ((insR e r).reverse ++ D) 0 CH' CF' CT' → F (mM M0 X SV SN AT CH' CF' CT' BU PT sm ik th mn (r.length+D.length+1) ln sp nu pa hs) none (.inl none)) → G mX6_addCleaning 0 0 0 none 6 [(0, .ref 233), (1, .int (nI e.1)), (2, .int (nI e.2.1)), (3, .int (nI e.2.2)), (4, .int (nI r.length))] [] (mM M0 X SV SN AT CH CF CT BU PT sm ik th mn (r.length+D.length) ln sp nu pa hs) F := by
  intro r
  induction r with
  | nil =>
    intro D CH CF CT F hS hl hr hD hF
    simp only [List.length_nil, Nat.zero_add] at hl hD hF ⊢
    refine g_iload dX6_addCleaning_6 rfl ?_
    refine g_if_le_n (tgt := 104) dX6_addCleaning_8 (by decide) (by omega) (fun h1 => ?_) (fun h1 => ?_)
    · refine g_aload_n dX6_addCleaning_104 rfl ?_
      refine g_get fX6_22 dX6_addCleaning_105 rfl rfl ?_
      refine g_iload dX6_addCleaning_108 rfl ?_
      refine g_iload_n dX6_addCleaning_110 rfl ?_
      refine g_mst_cleanHall dX6_addCleaning_111 (by omega) ?_
      refine g_aload_n dX6_addCleaning_112 rfl ?_
      refine g_get fX6_25 dX6_addCleaning_113 rfl rfl ?_
      refine g_iload dX6_addCleaning_116 rfl ?_
      refine g_iload_n dX6_addCleaning_118 rfl ?_
      refine g_mst_cleanFrom dX6_addCleaning_119 (by omega) ?_
      refine g_aload_n dX6_addCleaning_120 rfl ?_
      refine g_get fX6_28 dX6_addCleaning_121 rfl rfl ?_
      refine g_iload dX6_addCleaning_124 rfl ?_
      refine g_iload_n dX6_addCleaning_126 rfl ?_
      refine g_mst_cleanTo dX6_addCleaning_127 (by omega) ?_
      refine g_aload_n dX6_addCleaning_128 rfl ?_
      refine g_dup dX6_addCleaning_129 rfl ?_
      refine g_get fX6_77 dX6_addCleaning_130 rfl rfl ?_
      refine g_iconst (v := nI 1) dX6_addCleaning_133 (by decide) ?_
      refine g_iadd_n dX6_addCleaning_134 ?_
      refine g_mput_cleans fX6_77 dX6_addCleaning_135 ?_
      refine g_return dX6_addCleaning_138 rfl (hF _ _ _ ?_)
      exact cAt_cons (cAt_put hD (Or.inl (by omega))) (uN_s _ _ _) (uN_s _ _ _) (uN_s _ _ _)
    · omega
  | cons a r ih =>
    intro D CH CF CT F hS hl hr hD hF
    simp only [List.length_cons] at hl hD hF ⊢
    have hlast := hr r.length a (by simp)
    rw [Nat.zero_add] at hlast
    obtain ⟨g1, g2, g3⟩ := hlast
    obtain ⟨s1, s2, s3⟩ := hS a List.mem_cons_self
    obtain ⟨e1, e2, e3⟩ := he
    have hr' : cAt r.reverse 0 CH CF CT := by
      rw [List.reverse_cons] at hr
      exact cAt_left hr
    have stop : gtE a e = false → G mX6_addCleaning 0 0 0 none 104 [(0, .ref 233), (1, .int (nI e.1)), (2, .int (nI e.2.1)), (3, .int (nI e.2.2)), (4, .int (nI (r.length + 1)))] [] (mM M0 X SV SN AT CH CF CT BU PT sm ik th mn (r.length+1+D.length) ln sp nu pa hs) F := fun hg => by
      refine g_aload_n dX6_addCleaning_104 rfl ?_
      refine g_get fX6_22 dX6_addCleaning_105 rfl rfl ?_
      refine g_iload dX6_addCleaning_108 rfl ?_
      refine g_iload_n dX6_addCleaning_110 rfl ?_
      refine g_mst_cleanHall dX6_addCleaning_111 (by omega) ?_
      refine g_aload_n dX6_addCleaning_112 rfl ?_
      refine g_get fX6_25 dX6_addCleaning_113 rfl rfl ?_
      refine g_iload dX6_addCleaning_116 rfl ?_
      refine g_iload_n dX6_addCleaning_118 rfl ?_
      refine g_mst_cleanFrom dX6_addCleaning_119 (by omega) ?_
      refine g_aload_n dX6_addCleaning_120 rfl ?_
      refine g_get fX6_28 dX6_addCleaning_121 rfl rfl ?_
      refine g_iload dX6_addCleaning_124 rfl ?_
      refine g_iload_n dX6_addCleaning_126 rfl ?_
      refine g_mst_cleanTo dX6_addCleaning_127 (by omega) ?_
      refine g_aload_n dX6_addCleaning_128 rfl ?_
      refine g_dup dX6_addCleaning_129 rfl ?_
      refine g_get fX6_77 dX6_addCleaning_130 rfl rfl ?_
      refine g_iconst (v := nI 1) dX6_addCleaning_133 (by decide) ?_
      refine g_iadd_n dX6_addCleaning_134 ?_
      refine g_mput_cleans fX6_77 dX6_addCleaning_135 ?_
      refine g_return dX6_addCleaning_138 rfl (hF _ _ _ ?_)
      rw [show insR e (a :: r) = e :: a :: r by simp [insR, hg], List.reverse_cons, List.append_assoc]
      refine cAt_app (cAt_put hr (Or.inr (by simp))) ?_
      rw [List.length_reverse, List.length_cons, Nat.zero_add]
      exact cAt_cons (cAt_put hD (Or.inl (by omega))) (uN_s _ _ _) (uN_s _ _ _) (uN_s _ _ _)
    have move : gtE a e = true → G mX6_addCleaning 0 0 0 none 50 [(0, .ref 233), (1, .int (nI e.1)), (2, .int (nI e.2.1)), (3, .int (nI e.2.2)), (4, .int (nI (r.length + 1)))] [] (mM M0 X SV SN AT CH CF CT BU PT sm ik th mn (r.length+1+D.length) ln sp nu pa hs) F := fun hg => by
      refine g_aload_n dX6_addCleaning_50 rfl ?_
      refine g_get fX6_22 dX6_addCleaning_51 rfl rfl ?_
      refine g_iload dX6_addCleaning_54 rfl ?_
      refine g_aload_n dX6_addCleaning_56 rfl ?_
      refine g_get fX6_22 dX6_addCleaning_57 rfl rfl ?_
      refine g_iload dX6_addCleaning_60 rfl ?_
      refine g_iconst (v := nI 1) dX6_addCleaning_62 (by decide) ?_
      refine g_isub_n dX6_addCleaning_63 (by omega) ?_
      refine g_iald_n dX6_addCleaning_64 rfl (by omega) (by decide) ?_
      refine g_mst_cleanHall dX6_addCleaning_65 (by omega) ?_
      refine g_aload_n dX6_addCleaning_66 rfl ?_
      refine g_get fX6_25 dX6_addCleaning_67 rfl rfl ?_
      refine g_iload dX6_addCleaning_70 rfl ?_
      refine g_aload_n dX6_addCleaning_72 rfl ?_
      refine g_get fX6_25 dX6_addCleaning_73 rfl rfl ?_
      refine g_iload dX6_addCleaning_76 rfl ?_
      refine g_iconst (v := nI 1) dX6_addCleaning_78 (by decide) ?_
      refine g_isub_n dX6_addCleaning_79 (by omega) ?_
      refine g_iald_n dX6_addCleaning_80 rfl (by omega) (by decide) ?_
      refine g_mst_cleanFrom dX6_addCleaning_81 (by omega) ?_
      refine g_aload_n dX6_addCleaning_82 rfl ?_
      refine g_get fX6_28 dX6_addCleaning_83 rfl rfl ?_
      refine g_iload dX6_addCleaning_86 rfl ?_
      refine g_aload_n dX6_addCleaning_88 rfl ?_
      refine g_get fX6_28 dX6_addCleaning_89 rfl rfl ?_
      refine g_iload dX6_addCleaning_92 rfl ?_
      refine g_iconst (v := nI 1) dX6_addCleaning_94 (by decide) ?_
      refine g_isub_n dX6_addCleaning_95 (by omega) ?_
      refine g_iald_n dX6_addCleaning_96 rfl (by omega) (by decide) ?_
      refine g_mst_cleanTo dX6_addCleaning_97 (by omega) ?_
      refine g_iinc_m dX6_addCleaning_98 rfl (by decide) ?_
      refine g_goto (tgt := 6) dX6_addCleaning_101 (by decide) ?_
      have := ih (a :: D) (uN CH (r.length + 1) (CH r.length)) (uN CF (r.length + 1) (CF r.length)) (uN CT (r.length + 1) (CT r.length)) F (fun b hb => hS b (List.mem_cons_of_mem _ hb)) (by rw [List.length_cons]; omega) (cAt_put hr' (Or.inr (by simp))) (cAt_cons (cAt_put hD (Or.inl (by omega))) (by rw [uN_s]; exact g1) (by rw [uN_s]; exact g2) (by rw [uN_s]; exact g3)) (fun CH' CF' CT' hc => by
        rw [List.length_cons, show r.length + (D.length + 1) + 1 = r.length + 1 + D.length + 1 by omega]
        refine hF CH' CF' CT' ?_
        rw [show insR e (a :: r) = a :: insR e r by simp [insR, hg], List.reverse_cons, List.append_assoc]
        exact hc)
      rw [List.length_cons, show r.length + (D.length + 1) = r.length + 1 + D.length by omega] at this
      exact g_loc rfl this
    refine g_iload dX6_addCleaning_6 rfl ?_
    refine g_if_le_n (tgt := 104) dX6_addCleaning_8 (by decide) (by omega) (fun h1 => ?_) (fun h1 => ?_)
    · omega
    refine g_aload_n dX6_addCleaning_11 rfl ?_
    refine g_get fX6_28 dX6_addCleaning_12 rfl rfl ?_
    refine g_iload dX6_addCleaning_15 rfl ?_
    refine g_iconst (v := nI 1) dX6_addCleaning_17 (by decide) ?_
    refine g_isub_n dX6_addCleaning_18 (by omega) ?_
    refine g_iald_n dX6_addCleaning_19 rfl (by omega) (by decide) ?_
    refine g_iload_n dX6_addCleaning_20 rfl ?_
    simp only [Nat.add_sub_cancel, g3]
    refine g_icmp_gt_n (tgt := 50) dX6_addCleaning_21 (by decide) (by omega) (by omega) (fun h2 => ?_) (fun h2 => ?_)
    · exact g_loc rfl (move (by simp [gtE, h2]))
    refine g_aload_n dX6_addCleaning_24 rfl ?_
    refine g_get fX6_28 dX6_addCleaning_25 rfl rfl ?_
    refine g_iload dX6_addCleaning_28 rfl ?_
    refine g_iconst (v := nI 1) dX6_addCleaning_30 (by decide) ?_
    refine g_isub_n dX6_addCleaning_31 (by omega) ?_
    refine g_iald_n dX6_addCleaning_32 rfl (by omega) (by decide) ?_
    refine g_iload_n dX6_addCleaning_33 rfl ?_
    simp only [Nat.add_sub_cancel, g3]
    refine g_icmp_ne_n (tgt := 104) dX6_addCleaning_34 (by decide) (by omega) (by omega) (fun h3 => ?_) (fun h3 => ?_)
    · exact g_loc rfl (stop (by simp [gtE, h3]; omega))
    refine g_aload_n dX6_addCleaning_37 rfl ?_
    refine g_get fX6_22 dX6_addCleaning_38 rfl rfl ?_
    refine g_iload dX6_addCleaning_41 rfl ?_
    refine g_iconst (v := nI 1) dX6_addCleaning_43 (by decide) ?_
    refine g_isub_n dX6_addCleaning_44 (by omega) ?_
    refine g_iald_n dX6_addCleaning_45 rfl (by omega) (by decide) ?_
    refine g_iload_n dX6_addCleaning_46 rfl ?_
    simp only [Nat.add_sub_cancel, g1]
    refine g_icmp_le_n (tgt := 104) dX6_addCleaning_47 (by decide) (by omega) (by omega) (fun h4 => ?_) (fun h4 => ?_)
    · exact g_loc rfl (stop (by simp [gtE]; omega))
    · exact g_loc rfl (move (by simp [gtE]; omega))
theorem kX6_addCleaning {CH CF CT : Nat → Nat} {e : cE} (he : cS e) {l : List cE} (hl : l.length < 24) (hS : ∀ a ∈ l, cS a) (hc : cAt l 0 CH CF CT) : Cn mX6_addCleaning 0 0 0 none [.ref 233, .int (nI e.1), .int (nI e.2.1), .int (nI e.2.2)] (mM M0 X SV SN AT CH CF CT BU PT sm ik th mn l.length ln sp nu pa hs) (zv (fun M' => ∃ CH' CF' CT', M' = mM M0 X SV SN AT CH' CF' CT' BU PT sm ik th mn (addC e l).length ln sp nu pa hs ∧ cAt (addC e l) 0 CH' CF' CT')) := by
  refine g_aload_n dX6_addCleaning_0 rfl ?_
  refine g_get fX6_77 dX6_addCleaning_1 rfl rfl ?_
  refine g_istore dX6_addCleaning_4 (by decide) ?_
  have := addC1 (M0 := M0) (X := X) (SV := SV) (SN := SN) (AT := AT) (BU := BU) (PT := PT) (sm := sm) (ik := ik) (th := th) (mn := mn) (ln := ln) (sp := sp) (nu := nu) (pa := pa) (hs := hs) he l.reverse [] CH CF CT (zv (fun M' => ∃ CH' CF' CT', M' = mM M0 X SV SN AT CH' CF' CT' BU PT sm ik th mn (addC e l).length ln sp nu pa hs ∧ cAt (addC e l) 0 CH' CF' CT')) (fun a ha => hS a (List.mem_reverse.mp ha)) (by simpa using hl) (by rw [List.reverse_reverse]; exact hc) cAt_nil (fun CH' CF' CT' h => ⟨rfl, rfl, CH', CF', CT', by rw [addC_len]; simp, by simpa [addC] using h⟩)
  simp only [List.length_reverse, List.length_nil, Nat.add_zero] at this
  exact g_loc rfl this
end MOD3
