/-! the reference: lets -/
def ltOk (P X : Nat → Nat) (k : Nat) : Bool := decide (P (6 * k + 2) < P (6 * k + 3)) && decide (rfs X (P (6 * k)) (P (6 * k + 1)) (P (6 * k + 2)) (P (6 * k + 3)) (P (6 * k + 4)) = 0)
def ltX (P X : Nat → Nat) (k : Nat) : Nat → Nat := mkS X (P (6 * k)) (P (6 * k + 1)) (P (6 * k + 2)) (P (6 * k + 3)) (P (6 * k + 4)) (P (6 * k + 5))
def ltT (P X : Nat → Nat) : Nat → Nat × (Nat → Nat)
  | 0 => (0, X)
  | k + 1 => bif ltOk P (ltT P X k).2 k then ((ltT P X k).1 + 1, ltX P (ltT P X k).2 k) else ltT P X k
theorem rB_lay {X : Nat → Nat} (h : rB X) {p a b c d e f : Nat} (ha : a < 1048576) (hb : b < 1048576) (hc : c < 1048576) (hd : d < 1048576) (he : e < 1048576) (hf : f < 1048576) : rB (layX X p a b c d e f) := by
  intro j h1 h2 h3 h4
  have := h j h1 h2 h3 h4
  simp only [layX, uN]
  repeat' split
  all_goals assumption
theorem rB_u {X : Nat → Nat} (h : rB X) {p v : Nat} (hv : v < 1048576 ∨ p = 8 ∨ p = 9 ∨ p = 10) : rB (uN X p v) := by
  intro j h1 h2 h3 h4
  have := h j h1 h2 h3 h4
  simp only [uN]
  split
  · omega
  · assumption
theorem mkS_ok {X : Nat → Nat} (hX : wf0 X) (h1 : wf1 X) (hlt : X 92 < 12) {day h f t r te : Nat} (hd : day < 84) (hh : h ≤ 2) (ht : t ≤ 24) (hf : f ≤ t) (hr : r ≤ 9) (hte : te ≤ 19) : wf0 (mkS X h day f t r te) ∧ wf1 (mkS X h day f t r te) ∧ (mkS X h day f t r te) 11 = X 11 ∧ ∀ j, j < 8 → mkS X h day f t r te j = X j := by
  obtain ⟨g1, g2, g3, g4⟩ := gw_ok hX (h := h) (f := f) (t := t) hd
  unfold mkS
  generalize hX1 : (gw X day h f t).2 = X1 at g1 g2 g3 g4
  have hlow : ∀ j, j < 93 → layX X1 (93 + 7 * X1 92) h day f t r te j = X1 j := fun j hj => by
    unfold layX
    rw [uN_n _ _ (by omega), uN_n _ _ (by omega), uN_n _ _ (by omega), uN_n _ _ (by omega), uN_n _ _ (by omega), uN_n _ _ (by omega)]
  have hw1 : wf1 (layX X1 (93 + 7 * X1 92) h day f t r te) := wf1_low h1 (fun j hj => (hlow j (by omega)).trans (g2 j hj))
  have hrent : sRent (layX X1 (93 + 7 * X1 92) h day f t r te) h day f t ≤ 240000 := rentF_le hw1 hh (by omega) (by omega)
  dsimp only
  have hrB := rB_u (rB_u (rB_u (rB_lay g1.1 (p := 93 + 7 * X1 92) (a := h) (b := day) (c := f) (d := t) (e := r) (f := te) (by omega) (by omega) (by omega) (by omega) (by omega) (by omega)) (p := 93 + 7 * X1 92 + 6) (v := sRent (layX X1 (93 + 7 * X1 92) h day f t r te) h day f t) (Or.inl (by omega))) (p := 8) (v := uN (layX X1 (93 + 7 * X1 92) h day f t r te) (93 + 7 * X1 92 + 6) (sRent (layX X1 (93 + 7 * X1 92) h day f t r te) h day f t) 8 + uN (layX X1 (93 + 7 * X1 92) h day f t r te) (93 + 7 * X1 92 + 6) (sRent (layX X1 (93 + 7 * X1 92) h day f t r te) h day f t) (93 + 7 * X1 92 + 6)) (Or.inr (Or.inl rfl))) (p := 92) (v := X1 92 + 1) (Or.inl (by omega))
  have e92 : uN (uN (layX X1 (93 + 7 * X1 92) h day f t r te) (93 + 7 * X1 92 + 6) (sRent (layX X1 (93 + 7 * X1 92) h day f t r te) h day f t)) 8 (uN (layX X1 (93 + 7 * X1 92) h day f t r te) (93 + 7 * X1 92 + 6) (sRent (layX X1 (93 + 7 * X1 92) h day f t r te) h day f t) 8 + uN (layX X1 (93 + 7 * X1 92) h day f t r te) (93 + 7 * X1 92 + 6) (sRent (layX X1 (93 + 7 * X1 92) h day f t r te) h day f t) (93 + 7 * X1 92 + 6)) 92 = X1 92 := by
    rw [uN_n _ _ (by omega), uN_n _ _ (by omega), hlow 92 (by omega)]
  rw [e92]
  have el : ∀ j, j < 92 → j ≠ 8 → uN (uN (uN (layX X1 (93 + 7 * X1 92) h day f t r te) (93 + 7 * X1 92 + 6) (sRent (layX X1 (93 + 7 * X1 92) h day f t r te) h day f t)) 8 (uN (layX X1 (93 + 7 * X1 92) h day f t r te) (93 + 7 * X1 92 + 6) (sRent (layX X1 (93 + 7 * X1 92) h day f t r te) h day f t) 8 + uN (layX X1 (93 + 7 * X1 92) h day f t r te) (93 + 7 * X1 92 + 6) (sRent (layX X1 (93 + 7 * X1 92) h day f t r te) h day f t) (93 + 7 * X1 92 + 6))) 92 (X1 92 + 1) j = X1 j := fun j hj h8 => by
    rw [uN_n _ _ (by omega), uN_n _ _ (by omega), uN_n _ _ (by omega), hlow j (by omega)]
  refine ⟨⟨hrB, ?_, ?_⟩, wf1_low h1 (fun j hj => (el j (by omega) (by omega)).trans (g2 j hj)), (el 11 (by omega) (by omega)).trans g4, fun j hj => (el j (by omega) (by omega)).trans (g2 j hj)⟩
  · rw [el 11 (by omega) (by omega)]; exact g1.2.1
  · rw [uN_s]; omega
theorem ltOk_h {P X : Nat → Nat} {k : Nat} (h : ltOk P X k = true) : P (6 * k + 2) < P (6 * k + 3) ∧ rfs X (P (6 * k)) (P (6 * k + 1)) (P (6 * k + 2)) (P (6 * k + 3)) (P (6 * k + 4)) = 0 ∧ X 92 ≠ 12 := by
  simp only [ltOk, Bool.and_eq_true, decide_eq_true_eq] at h
  refine ⟨h.1, h.2, fun e => ?_⟩
  rw [rfs, if_pos e] at h
  exact absurd h.2 (by decide)
theorem ltT_ok {P X : Nat → Nat} (hX : wf0 X) (h1 : wf1 X) : ∀ k, prA P k → wf0 (ltT P X k).2 ∧ wf1 (ltT P X k).2 ∧ (ltT P X k).1 ≤ k
  | 0, _ => ⟨hX, h1, Nat.le_refl 0⟩
  | k + 1, hA => by
    obtain ⟨a1, a2, a3⟩ := ltT_ok hX h1 k (fun j hj => hA j (by omega))
    obtain ⟨p0, p1, p2, p3, p4, p5, p6, p7⟩ := hA k (by omega)
    simp only [ltT]
    cases hk : ltOk P (ltT P X k).2 k
    · exact ⟨a1, a2, Nat.le_succ_of_le a3⟩
    · obtain ⟨b1, b2, b3⟩ := ltOk_h hk
      have := a1.2.2
      obtain ⟨c1, c2, -⟩ := mkS_ok a1 a2 (by omega) (day := P (6 * k + 1)) (h := P (6 * k)) (f := P (6 * k + 2)) (t := P (6 * k + 3)) (r := P (6 * k + 4)) (te := P (6 * k + 5)) (by omega) p0 p4 (by omega) p6 p7
      exact ⟨c1, c2, by simp only [cond_true]; omega⟩
section MOD16
variable {M0 : zM} {X SV SN AT CH CF CT BU PT : Nat → Nat} {sm ik th mn cl ln sp nu pa : Nat} {hs : Int64}
theorem lt1 (hX : wf0 X) (h1 : wf1 X) (hA : prA PT pa) (hpa : pa ≤ 6) (F : zP) (hF : ∀ AT CH CF CT mn cl, G mX6_lets 5 0 0 none 161 [(0, .ref 233), (1, .int (nI (ltT PT X pa).1))] [] (mM M0 (ltT PT X pa).2 SV SN AT CH CF CT BU PT sm ik th mn cl ln sp nu pa hs) F) : ∀ n k AT CH CF CT mn cl, k + n = pa → G mX6_lets 5 0 0 none 26 [(0, .ref 233), (1, .int (nI (ltT PT X k).1)), (2, .int (nI (6 * k)))] [] (mM M0 (ltT PT X k).2 SV SN AT CH CF CT BU PT sm ik th mn cl ln sp nu pa hs) F := by
  intro n
  induction n with
  | zero =>
    intro k AT CH CF CT mn cl hk
    have : k = pa := by omega
    subst this
    refine g_iload_n dX6_lets_26 rfl ?_
    refine g_bipush (v := nI 6) dX6_lets_27 (by decide) ?_
    refine g_aload_n dX6_lets_29 rfl ?_
    refine g_get fX6_182 dX6_lets_30 rfl rfl ?_
    refine g_imul_n dX6_lets_33 ?_
    refine g_icmp_ge_n (tgt := 161) dX6_lets_34 (by decide) (by omega) (by omega) (fun h2 => ?_) (fun h2 => ?_)
    · exact g_loc rfl (hF _ _ _ _ _ _)
    · omega
  | succ n ih =>
    intro k AT CH CF CT mn cl hk
    obtain ⟨a1, a2, a3⟩ := ltT_ok (P := PT) hX h1 k (fun j hj => hA j (by omega))
    obtain ⟨p0, p1, p2, p3, p4, p5, p6, p7⟩ := hA k (by omega)
    simp only [Nat.add_zero] at p0
    have nxt : ltOk PT (ltT PT X k).2 k = false → ∀ AT CH CF CT mn cl, G mX6_lets 5 0 0 none 155 [(0, .ref 233), (1, .int (nI (ltT PT X k).1)), (2, .int (nI (6 * k)))] [] (mM M0 (ltT PT X k).2 SV SN AT CH CF CT BU PT sm ik th mn cl ln sp nu pa hs) F := fun hq AT CH CF CT mn cl => by
      refine g_iinc_n (c := 6) dX6_lets_155 rfl (by decide) (by decide) ?_
      refine g_goto (tgt := 26) dX6_lets_158 (by decide) ?_
      have := ih (k + 1) AT CH CF CT mn cl (by omega)
      simp only [ltT, hq, cond_false] at this
      exact g_loc rfl this
    refine g_iload_n dX6_lets_26 rfl ?_
    refine g_bipush (v := nI 6) dX6_lets_27 (by decide) ?_
    refine g_aload_n dX6_lets_29 rfl ?_
    refine g_get fX6_182 dX6_lets_30 rfl rfl ?_
    refine g_imul_n dX6_lets_33 ?_
    refine g_icmp_ge_n (tgt := 161) dX6_lets_34 (by decide) (by omega) (by omega) (fun h2 => ?_) (fun h2 => ?_)
    · omega
    refine g_aload_n dX6_lets_37 rfl ?_
    refine g_get fX6_34 dX6_lets_38 rfl rfl ?_
    refine g_iload_n dX6_lets_41 rfl ?_
    refine g_iconst (v := nI 3) dX6_lets_42 (by decide) ?_
    refine g_iadd_n dX6_lets_43 ?_
    refine g_iald_n dX6_lets_44 rfl (by omega) (by decide) ?_
    refine g_aload_n dX6_lets_45 rfl ?_
    refine g_get fX6_34 dX6_lets_46 rfl rfl ?_
    refine g_iload_n dX6_lets_49 rfl ?_
    refine g_iconst (v := nI 2) dX6_lets_50 (by decide) ?_
    refine g_iadd_n dX6_lets_51 ?_
    refine g_iald_n dX6_lets_52 rfl (by omega) (by decide) ?_
    refine g_icmp_le_n (tgt := 155) dX6_lets_53 (by decide) (by omega) (by omega) (fun h3 => ?_) (fun h3 => ?_)
    · exact g_loc rfl (nxt (by simp only [ltOk, show decide (PT (6 * k + 2) < PT (6 * k + 3)) = false by simp; omega, Bool.false_and]) _ _ _ _ _ _)
    refine g_aload_n dX6_lets_56 rfl ?_
    refine g_aload_n dX6_lets_57 rfl ?_
    refine g_get fX6_34 dX6_lets_58 rfl rfl ?_
    refine g_iload_n dX6_lets_61 rfl ?_
    refine g_iald_n dX6_lets_62 rfl (by omega) (by decide) ?_
    refine g_aload_n dX6_lets_63 rfl ?_
    refine g_get fX6_34 dX6_lets_64 rfl rfl ?_
    refine g_iload_n dX6_lets_67 rfl ?_
    refine g_iconst (v := nI 1) dX6_lets_68 (by decide) ?_
    refine g_iadd_n dX6_lets_69 ?_
    refine g_iald_n dX6_lets_70 rfl (by omega) (by decide) ?_
    refine g_aload_n dX6_lets_71 rfl ?_
    refine g_get fX6_34 dX6_lets_72 rfl rfl ?_
    refine g_iload_n dX6_lets_75 rfl ?_
    refine g_iconst (v := nI 2) dX6_lets_76 (by decide) ?_
    refine g_iadd_n dX6_lets_77 ?_
    refine g_iald_n dX6_lets_78 rfl (by omega) (by decide) ?_
    refine g_aload_n dX6_lets_79 rfl ?_
    refine g_get fX6_34 dX6_lets_80 rfl rfl ?_
    refine g_iload_n dX6_lets_83 rfl ?_
    refine g_iconst (v := nI 3) dX6_lets_84 (by decide) ?_
    refine g_iadd_n dX6_lets_85 ?_
    refine g_iald_n dX6_lets_86 rfl (by omega) (by decide) ?_
    refine g_aload_n dX6_lets_87 rfl ?_
    refine g_get fX6_34 dX6_lets_88 rfl rfl ?_
    refine g_iload_n dX6_lets_91 rfl ?_
    refine g_iconst (v := nI 4) dX6_lets_92 (by decide) ?_
    refine g_iadd_n dX6_lets_93 ?_
    refine g_iald_n dX6_lets_94 rfl (by omega) (by decide) ?_
    refine g_callV_i (kX6_refusalOf a1 (h := PT (6 * k)) (day := PT (6 * k + 1)) (f := PT (6 * k + 2)) (t := PT (6 * k + 3)) (r := PT (6 * k + 4)) (by omega) (by omega) (by omega) (by omega) (by omega)) oX6_refusalOf pX6_refusalOf lX6_130 dX6_lets_95 rfl rfl rfl rfl rfl (Nat.le_of_ble_eq_true rfl) (Nat.le_of_ble_eq_true rfl) (by decide) (fun M' h' => ?_)
    obtain ⟨AT', CH', CF', CT', mn', cl', rfl⟩ := h'
    have hle := rfs_le (ltT PT X k).2 (PT (6 * k)) (PT (6 * k + 1)) (PT (6 * k + 2)) (PT (6 * k + 3)) (PT (6 * k + 4))
    refine g_if_ne_n (tgt := 155) dX6_lets_98 (by decide) (by omega) (fun h4 => ?_) (fun h4 => ?_)
    · exact g_loc rfl (nxt (by simp only [ltOk, show decide (rfs (ltT PT X k).2 (PT (6 * k)) (PT (6 * k + 1)) (PT (6 * k + 2)) (PT (6 * k + 3)) (PT (6 * k + 4)) = 0) = false by simp [h4], Bool.and_false]) _ _ _ _ _ _)
    have hq : ltOk PT (ltT PT X k).2 k = true := by simp [ltOk, h3, h4]
    obtain ⟨b1, b2, b3⟩ := ltOk_h hq
    have b4 := a1.2.2
    refine g_aload_n dX6_lets_101 rfl ?_
    refine g_aload_n dX6_lets_102 rfl ?_
    refine g_get fX6_34 dX6_lets_103 rfl rfl ?_
    refine g_iload_n dX6_lets_106 rfl ?_
    refine g_iald_n dX6_lets_107 rfl (by omega) (by decide) ?_
    refine g_aload_n dX6_lets_108 rfl ?_
    refine g_get fX6_34 dX6_lets_109 rfl rfl ?_
    refine g_iload_n dX6_lets_112 rfl ?_
    refine g_iconst (v := nI 1) dX6_lets_113 (by decide) ?_
    refine g_iadd_n dX6_lets_114 ?_
    refine g_iald_n dX6_lets_115 rfl (by omega) (by decide) ?_
    refine g_aload_n dX6_lets_116 rfl ?_
    refine g_get fX6_34 dX6_lets_117 rfl rfl ?_
    refine g_iload_n dX6_lets_120 rfl ?_
    refine g_iconst (v := nI 2) dX6_lets_121 (by decide) ?_
    refine g_iadd_n dX6_lets_122 ?_
    refine g_iald_n dX6_lets_123 rfl (by omega) (by decide) ?_
    refine g_aload_n dX6_lets_124 rfl ?_
    refine g_get fX6_34 dX6_lets_125 rfl rfl ?_
    refine g_iload_n dX6_lets_128 rfl ?_
    refine g_iconst (v := nI 3) dX6_lets_129 (by decide) ?_
    refine g_iadd_n dX6_lets_130 ?_
    refine g_iald_n dX6_lets_131 rfl (by omega) (by decide) ?_
    refine g_aload_n dX6_lets_132 rfl ?_
    refine g_get fX6_34 dX6_lets_133 rfl rfl ?_
    refine g_iload_n dX6_lets_136 rfl ?_
    refine g_iconst (v := nI 4) dX6_lets_137 (by decide) ?_
    refine g_iadd_n dX6_lets_138 ?_
    refine g_iald_n dX6_lets_139 rfl (by omega) (by decide) ?_
    refine g_aload_n dX6_lets_140 rfl ?_
    refine g_get fX6_34 dX6_lets_141 rfl rfl ?_
    refine g_iload_n dX6_lets_144 rfl ?_
    refine g_iconst (v := nI 5) dX6_lets_145 (by decide) ?_
    refine g_iadd_n dX6_lets_146 ?_
    refine g_iald_n dX6_lets_147 rfl (by omega) (by decide) ?_
    refine g_callV_i (kX6_makeSingle a1 a2 (by omega) (day := PT (6 * k + 1)) (h := PT (6 * k)) (f := PT (6 * k + 2)) (t := PT (6 * k + 3)) (r := PT (6 * k + 4)) (te := PT (6 * k + 5)) (by omega) p0 (by omega) p4) oX6_makeSingle pX6_makeSingle lX6_133 dX6_lets_148 rfl rfl rfl rfl rfl (Nat.le_of_ble_eq_true rfl) (Nat.le_of_ble_eq_true rfl) (by decide) (fun M' h' => ?_)
    obtain ⟨AT2, mn2, rfl⟩ := h'
    refine g_istore_n dX6_lets_151 (by decide) ?_
    refine g_iinc_n (c := 1) dX6_lets_152 rfl (by decide) (by decide) ?_
    refine g_iinc_n (c := 6) dX6_lets_155 rfl (by decide) (by decide) ?_
    refine g_goto (tgt := 26) dX6_lets_158 (by decide) ?_
    have := ih (k + 1) AT2 CH' CF' CT' mn2 cl' (by omega)
    simp only [ltT, hq, cond_true] at this
    exact g_loc rfl this
theorem kX6_lets1 (hB : bB BU) (hl : ln ≤ 60) (hq : alB BU ln PT = false) : Cn mX6_lets 5 0 0 none [.ref 233] (mM M0 X SV SN AT CH CF CT BU PT sm ik th mn cl ln sp nu pa hs) (zi (nI 0) (fun M' => ∃ nu', M' = mM M0 X SV SN AT CH CF CT BU (alF BU ln PT).2.2.2 sm ik 1 mn cl ln (alF BU ln PT).2.2.1 nu' (alF BU ln PT).2.1 hs)) := by
  refine g_aload_n dX6_lets_0 rfl ?_
  refine g_iconst (v := nI 0) dX6_lets_1 (by decide) ?_
  refine g_mput_thrown fX6_37 dX6_lets_2 ?_
  refine g_aload_n dX6_lets_5 rfl ?_
  refine g_callV_i (kX6_areLets hB hl) oX6_areLets pX6_areLets lX6_194 dX6_lets_6 rfl rfl rfl rfl rfl (Nat.le_of_ble_eq_true rfl) (Nat.le_of_ble_eq_true rfl) (by decide) (fun M' h' => ?_)
  obtain ⟨nu', rfl⟩ := h'
  rw [hq]
  refine g_if_ne_b (tgt := 18) dX6_lets_9 (by decide) (fun h1 => ?_) (fun h1 => ?_)
  · cases h1
  refine g_aload_n dX6_lets_12 rfl ?_
  refine g_iconst (v := nI 1) dX6_lets_13 (by decide) ?_
  refine g_callV_i (kX6_fails 1) oX6_fails pX6_fails lX6_48 dX6_lets_14 rfl rfl rfl rfl rfl (Nat.le_of_ble_eq_true rfl) (Nat.le_of_ble_eq_true rfl) (by decide) (fun M' h' => ?_)
  subst h'
  exact g_ireturn dX6_lets_17 rfl rfl ⟨rfl, rfl, nu', rfl⟩
theorem kX6_lets (hX : wf0 X) (hX1 : wf1 X) {SS : Nat → Nat → Nat} (hs6 : sm ≤ 6) (hB : bB BU) (hl : ln ≤ 60) (hq : alB BU ln PT = true) : Cn mX6_lets 5 0 0 none [.ref 233] (mM M0 X (SVf SS) SN AT CH CF CT BU PT sm ik th mn cl ln sp nu pa hs) (zi (nI (ltT (alF BU ln PT).2.2.2 X (alF BU ln PT).2.1).1) (fun M' => ∃ nu' AT' CH' CF' CT' mn' cl', M' = mM M0 (ltT (alF BU ln PT).2.2.2 X (alF BU ln PT).2.1).2 (SVf (svS SS sm X)) SN AT' CH' CF' CT' BU (alF BU ln PT).2.2.2 (svN sm) ik 0 mn' cl' 0 (alF BU ln PT).2.2.1 nu' (alF BU ln PT).2.1 hs)) := by
  obtain ⟨hA, hpa⟩ := alT_ok hB (ln := ln) 6 0 0 PT (fun j hj => by omega)
  refine g_aload_n dX6_lets_0 rfl ?_
  refine g_iconst (v := nI 0) dX6_lets_1 (by decide) ?_
  refine g_mput_thrown fX6_37 dX6_lets_2 ?_
  refine g_aload_n dX6_lets_5 rfl ?_
  refine g_callV_i (kX6_areLets hB hl) oX6_areLets pX6_areLets lX6_194 dX6_lets_6 rfl rfl rfl rfl rfl (Nat.le_of_ble_eq_true rfl) (Nat.le_of_ble_eq_true rfl) (by decide) (fun M' h' => ?_)
  obtain ⟨nu', rfl⟩ := h'
  rw [hq]
  refine g_if_ne_b (tgt := 18) dX6_lets_9 (by decide) (fun h1 => ?_) (fun h1 => ?_)
  rotate_left
  · cases h1
  refine g_aload_n dX6_lets_18 rfl ?_
  refine g_callV_v (kX6_save (SS := SS) hs6) oX6_save pX6_save lX6_60 dX6_lets_19 rfl rfl rfl rfl rfl (Nat.le_of_ble_eq_true rfl) (Nat.le_of_ble_eq_true rfl) (by decide) (fun M' h' => ?_)
  subst h'
  refine g_iconst (v := nI 0) dX6_lets_22 (by decide) ?_
  refine g_istore_n dX6_lets_23 (by decide) ?_
  refine g_iconst (v := nI 0) dX6_lets_24 (by decide) ?_
  refine g_istore_n dX6_lets_25 (by decide) ?_
  refine g_loc rfl (lt1 (pa := (alF BU ln PT).2.1) (PT := (alF BU ln PT).2.2.2) hX hX1 hA (by simpa [alF] using hpa) _ (fun AT' CH' CF' CT' mn' cl' => ?_) (alF BU ln PT).2.1 0 AT CH CF CT mn cl (by omega))
  refine g_aload_n dX6_lets_161 rfl ?_
  refine g_iconst (v := nI 0) dX6_lets_162 (by decide) ?_
  refine g_mput_length fX6_170 dX6_lets_163 ?_
  refine g_iload_n dX6_lets_166 rfl ?_
  exact g_ireturn dX6_lets_167 rfl rfl ⟨rfl, rfl, nu', AT', CH', CF', CT', mn', cl', rfl⟩
end MOD16
