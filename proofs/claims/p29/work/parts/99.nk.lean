/-! the law's areBills -/
def aM (M0 : zM) (t : Nat) (A B C : Nat → Nat) : zM := zu (zu (zu M0 t (iA 20 A)) (t + 1) (iA 20 B)) (t + 2) (iA 20 C)
section AM
variable {M0 : zM} {N R D A B C A' : Nat → Nat} {Y : Nat → Nat → Nat} {t : Nat}
theorem aM_A (ht : 236 ≤ t) : cM (lM (aM M0 t A B C) N R D) Y t = some (iA 20 A) := by rw [lM_o ht, aM, zu_n _ _ (by omega), zu_n _ _ (by omega), zu_s]
theorem aM_B (ht : 236 ≤ t) : cM (lM (aM M0 t A B C) N R D) Y (t + 1) = some (iA 20 B) := by rw [lM_o (by omega), aM, zu_n _ _ (by omega), zu_s]
theorem aM_C (ht : 236 ≤ t) : cM (lM (aM M0 t A B C) N R D) Y (t + 2) = some (iA 20 C) := by rw [lM_o (by omega), aM, zu_s]
theorem zu_aA (ht : 236 ≤ t) : zu (cM (lM (aM M0 t A B C) N R D) Y) t (iA 20 A') = cM (lM (aM M0 t A' B C) N R D) Y := by
  rw [zu_lT ht, aM, aM, zu_c _ _ _ (show t + 2 ≠ t by omega), zu_c _ _ _ (show t + 1 ≠ t by omega), zu_u]
theorem zu_aB (ht : 236 ≤ t) : zu (cM (lM (aM M0 t A B C) N R D) Y) (t + 1) (iA 20 A') = cM (lM (aM M0 t A A' C) N R D) Y := by
  rw [zu_lT (by omega), aM, aM, zu_c _ _ _ (show t + 2 ≠ t + 1 by omega), zu_u]
theorem zu_aC (ht : 236 ≤ t) : zu (cM (lM (aM M0 t A B C) N R D) Y) (t + 2) (iA 20 A') = cM (lM (aM M0 t A B A') N R D) Y := by
  rw [zu_lT (by omega), aM, aM, zu_u]
theorem aM_drop (ht : 236 ≤ t) (h : ∀ v, t ≤ v → M0 v = none) : ∀ v f, cM (lM M0 N R D) Y v = some f → cM (lM (aM M0 t A B C) N R D) Y v = some f := fun v f hv => by
  refine lM_drop (by omega) ?_ v f (lM_drop (by omega) ?_ v f (lM_drop ht (h t (Nat.le_refl _)) v f hv))
  · rw [zu_n _ _ (by omega), zu_n _ _ (by omega)]; exact h _ (by omega)
  · rw [zu_n _ _ (by omega)]; exact h _ (by omega)
end AM
/-- sums by tenant -/
def tS (X A B C : Nat → Nat) (k1 k2 : Nat) : Prop := ∀ w, w < 20 → A w = otR X (nI w) 0 k1 + otS X (nI w) 0 k2 ∧ B w = otR X (nI w) 1 k1 + otS X (nI w) 1 k2 ∧ C w = otR X (nI w) 2 k1 + otS X (nI w) 2 k2
theorem tq_w {w v : Nat} (hw : w < 20) (hv : v < 20) : tqB (nI w) v = decide (v = w) := by
  unfold tqB
  rw [decide_eq_false (nI_m1 (by omega)), Bool.false_or]
  exact decide_eq_decide.mpr (nI_eq (by omega) (by omega))
theorem tS_R {X A B C : Nat → Nat} {k k2 v : Nat} (h : tS X A B C k k2) (hv : v = X (12 + 10 * k + 5)) (hv2 : v < 20) : tS X (uN A v (A v + 1)) (uN B v (B v + dcnt X k 84)) (uN C v (C v + dcnt X k 84 * X (12 + 10 * k + 6))) (k + 1) k2 := fun w hw => by
  have e : ∀ m, otR X (nI w) m (k + 1) = otR X (nI w) m k + (if v = w then ownR X m k else 0) := fun m => by
    rw [otR, ← hv, tq_w hw hv2]
    by_cases q : v = w
    · rw [decide_eq_true q, if_pos q]; rfl
    · rw [decide_eq_false q, if_neg q]; rfl
  obtain ⟨h0, h1, h2⟩ := h w hw
  rw [e 0, e 1, e 2]
  by_cases q : v = w
  · subst q
    rw [uN_s, uN_s, uN_s, if_pos rfl, if_pos rfl, if_pos rfl, h0, h1, h2]
    refine ⟨?_, ?_, ?_⟩
    · show _ + 1 = _ + 1 + _; omega
    · show _ + dcnt X k 84 = _ + dcnt X k 84 + _; omega
    · show _ + dcnt X k 84 * _ = _ + dcnt X k 84 * _ + _; omega
  · rw [uN_n _ _ (fun z => q z.symm), uN_n _ _ (fun z => q z.symm), uN_n _ _ (fun z => q z.symm), if_neg q, if_neg q, if_neg q]
    exact ⟨h0, h1, h2⟩
theorem tS_S {X A B C : Nat → Nat} {k k2 v : Nat} (h : tS X A B C k2 k) (hv : v = X (93 + 7 * k + 5)) (hv2 : v < 20) : tS X (uN A v (A v + 1)) (uN B v (B v + 1)) (uN C v (C v + X (93 + 7 * k + 6))) k2 (k + 1) := fun w hw => by
  have e : ∀ m, otS X (nI w) m (k + 1) = otS X (nI w) m k + (if v = w then ownS X m k else 0) := fun m => by
    rw [otS, ← hv, tq_w hw hv2]
    by_cases q : v = w
    · rw [decide_eq_true q, if_pos q]; rfl
    · rw [decide_eq_false q, if_neg q]; rfl
  obtain ⟨h0, h1, h2⟩ := h w hw
  rw [e 0, e 1, e 2]
  by_cases q : v = w
  · subst q
    rw [uN_s, uN_s, uN_s, if_pos rfl, if_pos rfl, if_pos rfl, h0, h1, h2]
    have o0 : ownS X 0 k = 1 := rfl
    have o1 : ownS X 1 k = 1 := rfl
    have o2 : ownS X 2 k = X (93 + 7 * k + 6) := rfl
    exact ⟨by omega, by omega, by omega⟩
  · rw [uN_n _ _ (fun z => q z.symm), uN_n _ _ (fun z => q z.symm), uN_n _ _ (fun z => q z.symm), if_neg q, if_neg q, if_neg q]
    exact ⟨h0, h1, h2⟩
def sW (X : Nat → Nat) (m : Nat) : Nat → Nat
  | 0 => 0
  | n + 1 => sW X m n + oT X (nI n) m
theorem sW_c {f : Nat → Nat} {v o : Nat} : ∀ n (g : Nat → Nat), (∀ w, w < n → g w = f w + (if v = w then o else 0)) → (List.range n).foldl (fun a w => a + g w) 0 = (List.range n).foldl (fun a w => a + f w) 0 + (if v < n then o else 0)
  | 0, _, _ => rfl
  | n + 1, g, h => by
    rw [List.range_succ, List.foldl_append, List.foldl_append, sW_c n g (fun w hw => h w (by omega))]
    show _ + g n = _ + f n + _
    rw [h n (by omega)]
    by_cases q : v = n
    · rw [if_pos q, if_neg (by omega), if_pos (by omega)]; omega
    · rw [if_neg q]
      by_cases q2 : v < n
      · rw [if_pos q2, if_pos (by omega)]; omega
      · rw [if_neg q2, if_neg (by omega)]; omega
theorem sW_f (X : Nat → Nat) (m : Nat) : ∀ n, sW X m n = (List.range n).foldl (fun a w => a + oT X (nI w) m) 0
  | 0 => rfl
  | n + 1 => by
    rw [sW, sW_f X m n, List.range_succ, List.foldl_append]
    rfl
theorem sum_R {X : Nat → Nat} {m : Nat} : ∀ k, (∀ i, i < k → X (12 + 10 * i + 5) < 20) → (List.range 20).foldl (fun a w => a + otR X (nI w) m k) 0 = otR X (-1) m k
  | 0, _ => rfl
  | k + 1, h => by
    have hv := h k (by omega)
    rw [sW_c (f := fun w => otR X (nI w) m k) (v := X (12 + 10 * k + 5)) (o := ownR X m k) 20 (fun w => otR X (nI w) m (k + 1)) (fun w hw => by
      show otR X (nI w) m (k + 1) = _
      rw [otR, tq_w hw hv]
      by_cases q : X (12 + 10 * k + 5) = w
      · rw [decide_eq_true q, if_pos q]; rfl
      · rw [decide_eq_false q, if_neg q]; rfl), sum_R k (fun i hi => h i (by omega)), if_pos hv, otR]
    rfl
theorem sum_S {X : Nat → Nat} {m : Nat} : ∀ k, (∀ i, i < k → X (93 + 7 * i + 5) < 20) → (List.range 20).foldl (fun a w => a + otS X (nI w) m k) 0 = otS X (-1) m k
  | 0, _ => rfl
  | k + 1, h => by
    have hv := h k (by omega)
    rw [sW_c (f := fun w => otS X (nI w) m k) (v := X (93 + 7 * k + 5)) (o := ownS X m k) 20 (fun w => otS X (nI w) m (k + 1)) (fun w hw => by
      show otS X (nI w) m (k + 1) = _
      rw [otS, tq_w hw hv]
      by_cases q : X (93 + 7 * k + 5) = w
      · rw [decide_eq_true q, if_pos q]; rfl
      · rw [decide_eq_false q, if_neg q]; rfl), sum_S k (fun i hi => h i (by omega)), if_pos hv, otS]
    rfl
theorem fold_add (f g : Nat → Nat) : ∀ n, (List.range n).foldl (fun a w => a + (f w + g w)) 0 = (List.range n).foldl (fun a w => a + f w) 0 + (List.range n).foldl (fun a w => a + g w) 0
  | 0 => rfl
  | n + 1 => by
    rw [List.range_succ, List.foldl_append, List.foldl_append, List.foldl_append, fold_add f g n]
    show _ + (f n + g n) = _ + f n + (_ + g n)
    omega
theorem sW_all {X : Nat → Nat} (h2 : wf2 X) (m : Nat) : sW X m 20 = oT X (-1) m := by
  rw [sW_f, oT, ← sum_R (X 11) (fun i hi => by have := (h2.1 i hi).1.2.2.2.2.2.1; omega), ← sum_S (X 92) (fun i hi => by have := (h2.2 i hi).1.2.2.2.2.2.1; omega), ← fold_add]
  rfl
theorem bt_or (X : Nat → Nat) : ∀ n, btN X n = (-1, 0) ∨ ∃ b, b < n ∧ btN X n = (nI b, oT X (nI b) 2)
  | 0 => Or.inl rfl
  | n + 1 => by
    rw [btN]
    by_cases h : (btN X n).2 < oT X (nI n) 2
    · rw [if_pos h]
      exact Or.inr ⟨n, by omega, rfl⟩
    · rw [if_neg h]
      rcases bt_or X n with e | ⟨b, hb, e⟩
      · exact Or.inl e
      · exact Or.inr ⟨b, by omega, e⟩
def bal (X : Nat → Nat) : Prop := X 8 = X 9 + oT X (-1) 2
section LB
variable {M0 : zM} {X N R D A B C : Nat → Nat} {Y : Nat → Nat → Nat}
theorem ab1 (hX : XG X) (hL : Lw X N R D) {t0 : Nat} (ht0 : 236 ≤ t0) (F : zP) (hF : ∀ n1 A B C, 236 ≤ n1 → tS X A B C (X 11) 0 → G mL_areBills 9 0 0 (some n1) 109 [(0, .ref 8), (1, .ref 233), (2, .ref 234), (3, .ref 235), (4, .ref t0), (5, .ref (t0 + 1)), (6, .ref (t0 + 2))] [] (cM (lM (aM M0 t0 A B C) N R D) Y) F) : ∀ u i n0 A B C, i + u = N 11 → 236 ≤ n0 → tS X A B C i 0 → G mL_areBills 9 0 0 (some n0) 21 [(0, .ref 8), (1, .ref 233), (2, .ref 234), (3, .ref 235), (4, .ref t0), (5, .ref (t0 + 1)), (6, .ref (t0 + 2)), (7, .int (nI i))] [] (cM (lM (aM M0 t0 A B C) N R D) Y) F := by
  have hB := Lw_B hL hX
  obtain ⟨b0, b11, b12, -, -⟩ := id hB
  intro u
  induction u with
  | zero =>
    intro i n0 A B C hi hn0 hT
    refine g_iload dL_areBills_21 rfl ?_
    refine g_aload_n dL_areBills_23 rfl ?_
    refine g_bipush (v := nI 11) dL_areBills_24 (by decide) ?_
    refine g_lN dL_areBills_26 (by omega) ?_
    refine g_icmp_ge_n (tgt := 109) dL_areBills_27 (by decide) (by omega) (by omega) (fun h1 => ?_) (fun h1 => ?_)
    · rw [show i = X 11 by have := hL.2.1.1; omega] at hT
      exact g_loc (by rfl) (hF n0 A B C hn0 hT)
    · exact absurd h1 (by omega)
  | succ u ih =>
    intro i n0 A B C hi hn0 hT
    have hiN : i < N 11 := by omega
    have hiX : i < X 11 := by rw [← hL.2.1.1]; exact hiN
    have r9 := lB_R hB (i := i) (j := 9) hiN (by omega)
    have x5 : R (11 * i + 5) = X (12 + 10 * i + 5) := Lw_r hL hiX (by omega)
    have x6 : R (11 * i + 6) = X (12 + 10 * i + 6) := Lw_r hL hiX (by omega)
    have ht := (hX.2.2.1.1 i hiX).1.2.2.2.2.2.1
    have ht : R (11 * i + 5) < 20 := by rw [x5]; omega
    have ed := Lw_dc hL hiX
    refine g_iload dL_areBills_21 rfl ?_
    refine g_aload_n dL_areBills_23 rfl ?_
    refine g_bipush (v := nI 11) dL_areBills_24 (by decide) ?_
    refine g_lN dL_areBills_26 (by omega) ?_
    refine g_icmp_ge_n (tgt := 109) dL_areBills_27 (by decide) (by omega) (by omega) (fun h1 => ?_) (fun h1 => ?_)
    · exact absurd h1 (by omega)
    · refine g_aload_n dL_areBills_30 rfl ?_
      refine g_bipush (v := nI 11) dL_areBills_31 (by decide) ?_
      refine g_iload dL_areBills_33 rfl ?_
      refine g_imul_n dL_areBills_35 ?_
      refine g_iconst (v := nI 5) dL_areBills_36 (by decide) ?_
      refine g_iadd_n dL_areBills_37 ?_
      refine g_lR dL_areBills_38 (by omega) ?_
      refine g_istore dL_areBills_39 (by decide) ?_
      refine g_aload dL_areBills_41 rfl ?_
      refine g_iload dL_areBills_43 rfl ?_
      refine g_dup2 dL_areBills_45 rfl rfl ?_
      refine g_iald_n dL_areBills_46 (aM_A ht0) (by omega) (by decide) ?_
      refine g_iconst (v := nI 1) dL_areBills_47 (by decide) ?_
      refine g_iadd_n dL_areBills_48 ?_
      refine g_iast_n dL_areBills_49 (aM_A ht0) ht (by decide) (by omega) (g_m (zu_aA ht0) ?_)
      refine g_aload dL_areBills_50 rfl ?_
      refine g_iload dL_areBills_52 rfl ?_
      refine g_dup2 dL_areBills_54 rfl rfl ?_
      refine g_iald_n dL_areBills_55 (aM_B ht0) (by omega) (by decide) ?_
      refine g_aload_n dL_areBills_56 rfl ?_
      refine g_bipush (v := nI 11) dL_areBills_57 (by decide) ?_
      refine g_iload dL_areBills_59 rfl ?_
      refine g_imul_n dL_areBills_61 ?_
      refine g_bipush (v := nI 9) dL_areBills_62 (by decide) ?_
      refine g_iadd_n dL_areBills_64 ?_
      refine g_lR dL_areBills_65 (by omega) ?_
      refine g_callSn_i (kL_ones (by omega)) oL_ones pL_ones lL_62 dL_areBills_66 rfl rfl (Nat.le_of_ble_eq_true rfl) (Nat.le_of_ble_eq_true rfl) (by first | decide | omega) (Nat.le_refl _) (Nat.le_refl _) (fun _ e => nf_e e) (fun M1 n1 hn1 e => ?_)
      subst e
      refine g_iadd_n dL_areBills_69 ?_
      refine g_iast_n dL_areBills_70 (aM_B ht0) ht (by decide) (by omega) (g_m (zu_aB ht0) ?_)
      refine g_aload dL_areBills_71 rfl ?_
      refine g_iload dL_areBills_73 rfl ?_
      refine g_dup2 dL_areBills_75 rfl rfl ?_
      refine g_iald_n dL_areBills_76 (aM_C ht0) (by omega) (by decide) ?_
      refine g_aload_n dL_areBills_77 rfl ?_
      refine g_bipush (v := nI 11) dL_areBills_78 (by decide) ?_
      refine g_iload dL_areBills_80 rfl ?_
      refine g_imul_n dL_areBills_82 ?_
      refine g_bipush (v := nI 9) dL_areBills_83 (by decide) ?_
      refine g_iadd_n dL_areBills_85 ?_
      refine g_lR dL_areBills_86 (by omega) ?_
      refine g_callSn_i (kL_ones (by omega)) oL_ones pL_ones lL_62 dL_areBills_87 rfl rfl (Nat.le_of_ble_eq_true rfl) (Nat.le_of_ble_eq_true rfl) (by first | decide | omega) (Nat.le_refl _) (Nat.le_refl _) (fun _ e => nf_e e) (fun M1 n2 hn2 e => ?_)
      subst e
      refine g_aload_n dL_areBills_90 rfl ?_
      refine g_bipush (v := nI 11) dL_areBills_91 (by decide) ?_
      refine g_iload dL_areBills_93 rfl ?_
      refine g_imul_n dL_areBills_95 ?_
      refine g_bipush (v := nI 6) dL_areBills_96 (by decide) ?_
      refine g_iadd_n dL_areBills_98 ?_
      refine g_lR dL_areBills_99 (by omega) ?_
      refine g_imul_n dL_areBills_100 ?_
      refine g_iadd_n dL_areBills_101 ?_
      refine g_iast_n dL_areBills_102 (aM_C ht0) ht (by decide) (by omega) (g_m (zu_aC ht0) ?_)
      refine g_iinc_n (c := 1) dL_areBills_103 rfl (by decide) (by decide) ?_
      refine g_goto (tgt := 21) dL_areBills_106 (by decide) ?_
      refine g_loc (by rfl) (ih (i + 1) n2 _ _ _ (by omega) (by omega) ?_)
      have := tS_R hT (v := R (11 * i + 5)) x5 ht
      rw [ed, ← x6] at this
      exact this
theorem ab2 (hX : XG X) (hL : Lw X N R D) {t0 : Nat} (ht0 : 236 ≤ t0) (F : zP) (hF : ∀ n1 A B C, 236 ≤ n1 → tS X A B C (X 11) (X 92) → G mL_areBills 9 0 0 (some n1) 184 [(0, .ref 8), (1, .ref 233), (2, .ref 234), (3, .ref 235), (4, .ref t0), (5, .ref (t0 + 1)), (6, .ref (t0 + 2))] [] (cM (lM (aM M0 t0 A B C) N R D) Y) F) : ∀ u i n0 A B C, i + u = N 12 → 236 ≤ n0 → tS X A B C (X 11) i → G mL_areBills 9 0 0 (some n0) 112 [(0, .ref 8), (1, .ref 233), (2, .ref 234), (3, .ref 235), (4, .ref t0), (5, .ref (t0 + 1)), (6, .ref (t0 + 2)), (7, .int (nI i))] [] (cM (lM (aM M0 t0 A B C) N R D) Y) F := by
  have hB := Lw_B hL hX
  obtain ⟨b0, b11, b12, -, -⟩ := id hB
  intro u
  induction u with
  | zero =>
    intro i n0 A B C hi hn0 hT
    refine g_iload dL_areBills_112 rfl ?_
    refine g_aload_n dL_areBills_114 rfl ?_
    refine g_bipush (v := nI 12) dL_areBills_115 (by decide) ?_
    refine g_lN dL_areBills_117 (by omega) ?_
    refine g_icmp_ge_n (tgt := 184) dL_areBills_118 (by decide) (by omega) (by omega) (fun h1 => ?_) (fun h1 => ?_)
    · rw [show i = X 92 by have := hL.2.1.2; omega] at hT
      exact g_loc (by rfl) (hF n0 A B C hn0 hT)
    · exact absurd h1 (by omega)
  | succ u ih =>
    intro i n0 A B C hi hn0 hT
    have hiN : i < N 12 := by omega
    have hiX : i < X 92 := by rw [← hL.2.1.2]; exact hiN
    have x5 : D (7 * i + 5) = X (93 + 7 * i + 5) := Lw_d hL hiX (by omega)
    have x6 : D (7 * i + 6) = X (93 + 7 * i + 6) := Lw_d hL hiX (by omega)
    have ht := (hX.2.2.1.2 i hiX).1.2.2.2.2.2.1
    have ht : D (7 * i + 5) < 20 := by rw [x5]; omega
    refine g_iload dL_areBills_112 rfl ?_
    refine g_aload_n dL_areBills_114 rfl ?_
    refine g_bipush (v := nI 12) dL_areBills_115 (by decide) ?_
    refine g_lN dL_areBills_117 (by omega) ?_
    refine g_icmp_ge_n (tgt := 184) dL_areBills_118 (by decide) (by omega) (by omega) (fun h1 => ?_) (fun h1 => ?_)
    · exact absurd h1 (by omega)
    · refine g_aload dL_areBills_121 rfl ?_
      refine g_aload_n dL_areBills_123 rfl ?_
      refine g_bipush (v := nI 7) dL_areBills_124 (by decide) ?_
      refine g_iload dL_areBills_126 rfl ?_
      refine g_imul_n dL_areBills_128 ?_
      refine g_iconst (v := nI 5) dL_areBills_129 (by decide) ?_
      refine g_iadd_n dL_areBills_130 ?_
      refine g_lD dL_areBills_131 (by omega) ?_
      refine g_dup2 dL_areBills_132 rfl rfl ?_
      refine g_iald_n dL_areBills_133 (aM_A ht0) (by omega) (by decide) ?_
      refine g_iconst (v := nI 1) dL_areBills_134 (by decide) ?_
      refine g_iadd_n dL_areBills_135 ?_
      refine g_iast_n dL_areBills_136 (aM_A ht0) ht (by decide) (by omega) (g_m (zu_aA ht0) ?_)
      refine g_aload dL_areBills_137 rfl ?_
      refine g_aload_n dL_areBills_139 rfl ?_
      refine g_bipush (v := nI 7) dL_areBills_140 (by decide) ?_
      refine g_iload dL_areBills_142 rfl ?_
      refine g_imul_n dL_areBills_144 ?_
      refine g_iconst (v := nI 5) dL_areBills_145 (by decide) ?_
      refine g_iadd_n dL_areBills_146 ?_
      refine g_lD dL_areBills_147 (by omega) ?_
      refine g_dup2 dL_areBills_148 rfl rfl ?_
      refine g_iald_n dL_areBills_149 (aM_B ht0) (by omega) (by decide) ?_
      refine g_iconst (v := nI 1) dL_areBills_150 (by decide) ?_
      refine g_iadd_n dL_areBills_151 ?_
      refine g_iast_n dL_areBills_152 (aM_B ht0) ht (by decide) (by omega) (g_m (zu_aB ht0) ?_)
      refine g_aload dL_areBills_153 rfl ?_
      refine g_aload_n dL_areBills_155 rfl ?_
      refine g_bipush (v := nI 7) dL_areBills_156 (by decide) ?_
      refine g_iload dL_areBills_158 rfl ?_
      refine g_imul_n dL_areBills_160 ?_
      refine g_iconst (v := nI 5) dL_areBills_161 (by decide) ?_
      refine g_iadd_n dL_areBills_162 ?_
      refine g_lD dL_areBills_163 (by omega) ?_
      refine g_dup2 dL_areBills_164 rfl rfl ?_
      refine g_iald_n dL_areBills_165 (aM_C ht0) (by omega) (by decide) ?_
      refine g_aload_n dL_areBills_166 rfl ?_
      refine g_bipush (v := nI 7) dL_areBills_167 (by decide) ?_
      refine g_iload dL_areBills_169 rfl ?_
      refine g_imul_n dL_areBills_171 ?_
      refine g_bipush (v := nI 6) dL_areBills_172 (by decide) ?_
      refine g_iadd_n dL_areBills_174 ?_
      refine g_lD dL_areBills_175 (by omega) ?_
      refine g_iadd_n dL_areBills_176 ?_
      refine g_iast_n dL_areBills_177 (aM_C ht0) ht (by decide) (by omega) (g_m (zu_aC ht0) ?_)
      refine g_iinc_n (c := 1) dL_areBills_178 rfl (by decide) (by decide) ?_
      refine g_goto (tgt := 112) dL_areBills_181 (by decide) ?_
      refine g_loc (by rfl) (ih (i + 1) n0 _ _ _ (by omega) hn0 ?_)
      have := tS_S hT (v := D (7 * i + 5)) x5 ht
      rw [← x6] at this
      exact this
theorem ab3 (hI : IV Y X) (hL : Lw X N R D) {t0 : Nat} (ht0 : 236 ≤ t0) (hT : tS X A B C (X 11) (X 92)) (F : zP) (hF : ∀ n1, 236 ≤ n1 → G mL_areBills 9 0 0 (some n1) 320 [(0, .ref 8), (1, .ref 233), (2, .ref 234), (3, .ref 235), (4, .ref t0), (5, .ref (t0 + 1)), (6, .ref (t0 + 2)), (7, .int (btN X 20).1), (8, .int (nI (sW X 1 20))), (9, .int (nI (sW X 2 20))), (10, .int (nI 1))] [] (cM (lM (aM M0 t0 A B C) N R D) Y) F) : ∀ u w n0, w + u = 20 → 236 ≤ n0 → G mL_areBills 9 0 0 (some n0) 199 [(0, .ref 8), (1, .ref 233), (2, .ref 234), (3, .ref 235), (4, .ref t0), (5, .ref (t0 + 1)), (6, .ref (t0 + 2)), (7, .int (btN X w).1), (8, .int (nI (sW X 1 w))), (9, .int (nI (sW X 2 w))), (10, .int (nI 1)), (11, .int (nI w))] [] (cM (lM (aM M0 t0 A B C) N R D) Y) F := by
  have hX := IV_X hI
  intro u
  induction u with
  | zero =>
    intro w n0 hw hn0
    refine g_iload dL_areBills_199 rfl ?_
    refine g_bipush (v := nI 20) dL_areBills_201 (by decide) ?_
    refine g_icmp_ge_n (tgt := 320) dL_areBills_203 (by decide) (by omega) (by omega) (fun h1 => ?_) (fun h1 => ?_)
    · rw [show w = 20 by omega]
      exact g_loc (by rfl) (hF n0 hn0)
    · exact absurd h1 (by omega)
  | succ u ih =>
    intro w n0 hw hn0
    obtain ⟨t1, t2, t3⟩ := hT w (by omega)
    have t1 : A w = oT X (nI w) 0 := t1
    have t2 : B w = oT X (nI w) 1 := t2
    have t3 : C w = oT X (nI w) 2 := t3
    have hob : oT X (nI w) 2 < 2 ^ 31 := oT_b hX _ (by omega)
    have c0 := a_tn (M0 := lM (aM M0 t0 A B C) N R D) hI (t := w) (w := 0) (by omega) (by omega)
    have c1 := a_tn (M0 := lM (aM M0 t0 A B C) N R D) hI (t := w) (w := 1) (by omega) (by omega)
    have c2 := a_tn (M0 := lM (aM M0 t0 A B C) N R D) hI (t := w) (w := 2) (by omega) (by omega)
    have j312 : ∀ (v : Int32) n1, v = (btN X (w + 1)).1 → 236 ≤ n1 → G mL_areBills 9 0 0 (some n1) 312 [(0, .ref 8), (1, .ref 233), (2, .ref 234), (3, .ref 235), (4, .ref t0), (5, .ref (t0 + 1)), (6, .ref (t0 + 2)), (8, .int (nI (sW X 1 (w + 1)))), (9, .int (nI (sW X 2 (w + 1)))), (10, .int (nI 1)), (11, .int (nI w))] [.int v] (cM (lM (aM M0 t0 A B C) N R D) Y) F := fun v n1 hv hn1 => by
      refine g_istore dL_areBills_312 (by decide) ?_
      refine g_iinc_n (c := 1) dL_areBills_314 rfl (by decide) (by decide) ?_
      refine g_goto (tgt := 199) dL_areBills_317 (by decide) ?_
      refine g_loc ?_ (ih (w + 1) n1 (by omega) hn1)
      rw [← hv]
      rfl
    refine g_iload dL_areBills_199 rfl ?_
    refine g_bipush (v := nI 20) dL_areBills_201 (by decide) ?_
    refine g_icmp_ge_n (tgt := 320) dL_areBills_203 (by decide) (by omega) (by omega) (fun h1 => ?_) (fun h1 => ?_)
    · exact absurd h1 (by omega)
    · refine g_iload dL_areBills_206 rfl ?_
      refine g_if_eq_n (tgt := 260) dL_areBills_208 (by decide) (by omega) (fun h2 => ?_) (fun h2 => ?_)
      · exact absurd h2 (by decide)
      · refine g_aload_n dL_areBills_211 rfl ?_
        refine g_iload dL_areBills_212 rfl ?_
        refine g_iconst (v := nI 0) dL_areBills_214 (by decide) ?_
        refine g_callVn_i (c0) oX5_tenant pX5_tenant lL_85 dL_areBills_215 rfl (cM_H rfl) rfl rfl rfl (Nat.le_of_ble_eq_true rfl) (Nat.le_of_ble_eq_true rfl) (by first | decide | omega) (fun _ e => nf_e e) (fun M1 n1 hn1 e => ?_)
        subst e
        refine g_aload dL_areBills_218 rfl ?_
        refine g_iload dL_areBills_220 rfl ?_
        refine g_iald_n dL_areBills_222 (aM_A ht0) (by omega) (by decide) ?_
        rw [t1]
        refine g_icmp_ne (tgt := 260) dL_areBills_223 (by decide) (fun h => absurd rfl h) (fun _ => ?_)
        refine g_aload_n dL_areBills_226 rfl ?_
        refine g_iload dL_areBills_227 rfl ?_
        refine g_iconst (v := nI 1) dL_areBills_229 (by decide) ?_
        refine g_callVn_i (c1) oX5_tenant pX5_tenant lL_85 dL_areBills_230 rfl (cM_H rfl) rfl rfl rfl (Nat.le_of_ble_eq_true rfl) (Nat.le_of_ble_eq_true rfl) (by first | decide | omega) (fun _ e => nf_e e) (fun M1 n2 hn2 e => ?_)
        subst e
        refine g_aload dL_areBills_233 rfl ?_
        refine g_iload dL_areBills_235 rfl ?_
        refine g_iald_n dL_areBills_237 (aM_B ht0) (by omega) (by decide) ?_
        rw [t2]
        refine g_icmp_ne (tgt := 260) dL_areBills_238 (by decide) (fun h => absurd rfl h) (fun _ => ?_)
        refine g_aload_n dL_areBills_241 rfl ?_
        refine g_iload dL_areBills_242 rfl ?_
        refine g_iconst (v := nI 2) dL_areBills_244 (by decide) ?_
        refine g_callVn_i (c2) oX5_tenant pX5_tenant lL_85 dL_areBills_245 rfl (cM_H rfl) rfl rfl rfl (Nat.le_of_ble_eq_true rfl) (Nat.le_of_ble_eq_true rfl) (by first | decide | omega) (fun _ e => nf_e e) (fun M1 n3 hn3 e => ?_)
        subst e
        refine g_aload dL_areBills_248 rfl ?_
        refine g_iload dL_areBills_250 rfl ?_
        refine g_iald_n dL_areBills_252 (aM_C ht0) (by omega) (by decide) ?_
        rw [t3]
        refine g_icmp_ne (tgt := 260) dL_areBills_253 (by decide) (fun h => absurd rfl h) (fun _ => ?_)
        refine g_iconst (v := nI 1) dL_areBills_256 (by decide) ?_
        refine g_goto (tgt := 261) dL_areBills_257 (by decide) ?_
        refine g_istore dL_areBills_261 (by decide) ?_
        refine g_iload dL_areBills_263 rfl ?_
        refine g_aload dL_areBills_265 rfl ?_
        refine g_iload dL_areBills_267 rfl ?_
        refine g_iald_n dL_areBills_269 (aM_B ht0) (by omega) (by decide) ?_
        rw [t2]
        refine g_iadd_n dL_areBills_270 ?_
        refine g_istore dL_areBills_271 (by decide) ?_
        refine g_iload dL_areBills_273 rfl ?_
        refine g_aload dL_areBills_275 rfl ?_
        refine g_iload dL_areBills_277 rfl ?_
        refine g_iald_n dL_areBills_279 (aM_C ht0) (by omega) (by decide) ?_
        rw [t3]
        refine g_iadd_n dL_areBills_280 ?_
        refine g_istore dL_areBills_281 (by decide) ?_
        refine g_aload dL_areBills_283 rfl ?_
        refine g_iload dL_areBills_285 rfl ?_
        refine g_iald_n dL_areBills_287 (aM_C ht0) (by omega) (by decide) ?_
        rw [t3]
        rcases bt_or X w with e | ⟨b, hb, e⟩
        · have e1 : (btN X w).1 = -1 := by rw [e]
          have e2 : (btN X w).2 = 0 := by rw [e]
          refine g_iload (x := (-1)) dL_areBills_288 (by rw [e1]; rfl) ?_
          refine g_if_ge (tgt := 297) dL_areBills_290 (by decide) (fun q => absurd q (by decide)) (fun _ => ?_)
          refine g_iconst (v := nI 0) dL_areBills_293 (by decide) ?_
          refine g_goto (tgt := 302) dL_areBills_294 (by decide) ?_
          refine g_icmp_le_n (tgt := 310) dL_areBills_302 (by decide) (by omega) (by omega) (fun h3 => ?_) (fun h3 => ?_)
          · refine g_iload (x := (-1)) dL_areBills_310 (by rw [e1]; rfl) ?_
            refine g_loc ?_ (j312 (-1) n3 ?_ (by omega))
            · rw [sW, sW]; rfl
            · rw [btN, if_neg (by omega), e1]
          · refine g_iload dL_areBills_305 rfl ?_
            refine g_goto (tgt := 312) dL_areBills_307 (by decide) ?_
            refine g_loc ?_ (j312 (nI w) n3 ?_ (by omega))
            · rw [sW, sW]; rfl
            · rw [btN, if_pos (by omega)]
        · have e1 : (btN X w).1 = nI b := by rw [e]
          have e2 : (btN X w).2 = oT X (nI b) 2 := by rw [e]
          have tb : C b = oT X (nI b) 2 := (hT b (by omega)).2.2
          have hobb : oT X (nI b) 2 < 2 ^ 31 := oT_b hX _ (by omega)
          refine g_iload (x := nI b) dL_areBills_288 (by rw [e1]; rfl) ?_
          refine g_if_ge_n (tgt := 297) dL_areBills_290 (by decide) (by omega) (fun h4 => ?_) (fun h4 => ?_)
          · refine g_aload dL_areBills_297 rfl ?_
            refine g_iload (x := nI b) dL_areBills_299 (by rw [e1]; rfl) ?_
            refine g_iald_n dL_areBills_301 (aM_C ht0) (i := b) (by omega) (by decide) ?_
            rw [tb]
            refine g_icmp_le_n (tgt := 310) dL_areBills_302 (by decide) (by omega) (by omega) (fun h3 => ?_) (fun h3 => ?_)
            · refine g_iload (x := nI b) dL_areBills_310 (by rw [e1]; rfl) ?_
              refine g_loc ?_ (j312 (nI b) n3 ?_ (by omega))
              · rw [sW, sW]; rfl
              · rw [btN, if_neg (by omega), e1]
            · refine g_iload dL_areBills_305 rfl ?_
              refine g_goto (tgt := 312) dL_areBills_307 (by decide) ?_
              refine g_loc ?_ (j312 (nI w) n3 ?_ (by omega))
              · rw [sW, sW]; rfl
              · rw [btN, if_pos (by omega)]
          · exact absurd h4 (by omega)
theorem kL_areBills (hI : IV Y X) (hL : Lw X N R D) (hb : bal X) {n0 : Nat} (hn0 : 236 ≤ n0) : Cn mL_areBills 9 3 60 (some n0) [.ref 8, .ref 233, .ref 234, .ref 235] (cM (lM M0 N R D) Y) (zqI (nI 1) (fun M' => M' = cM (lM M0 N R D) Y)) := by
  have hX := IV_X hI
  refine g_free (fun hfr => ?_)
  have h0 : ∀ v, n0 ≤ v → M0 v = none := fun v hv => by have := hfr v hv; rwa [lM_o (by omega)] at this
  refine g_bipush (v := nI 20) dL_areBills_0 (by decide) ?_
  refine g_newi dL_areBills_2 (by decide) rfl rfl ?_
  refine g_astore dL_areBills_4 (by decide) ?_
  refine g_bipush (v := nI 20) dL_areBills_6 (by decide) ?_
  refine g_newi dL_areBills_8 (by decide) rfl rfl ?_
  refine g_astore dL_areBills_10 (by decide) ?_
  refine g_bipush (v := nI 20) dL_areBills_12 (by decide) ?_
  refine g_newi dL_areBills_14 (by decide) rfl rfl ?_
  have ea : zu (zu (zu (cM (lM M0 N R D) Y) n0 (iA 20 (fun _ => 0))) (n0 + 1) (iA 20 (fun _ => 0))) (n0 + 1 + 1) (iA 20 (fun _ => 0)) = cM (lM (aM M0 n0 (fun _ => 0) (fun _ => 0) (fun _ => 0)) N R D) Y := by
    rw [zu_lT hn0, zu_lT (by omega), zu_lT (by omega)]
    rfl
  rw [ea]
  refine g_astore dL_areBills_16 (by decide) ?_
  refine g_iconst (v := nI 0) dL_areBills_18 (by decide) ?_
  refine g_istore dL_areBills_19 (by decide) ?_
  refine g_loc (by rfl) (ab1 hX hL hn0 _ (fun n1 A B C hn1 hT => ?_) (N 11) 0 _ _ _ _ (by omega) (by omega) (fun w _ => ⟨rfl, rfl, rfl⟩))
  refine g_iconst (v := nI 0) dL_areBills_109 (by decide) ?_
  refine g_istore dL_areBills_110 (by decide) ?_
  refine g_loc (by rfl) (ab2 hX hL hn0 _ (fun n2 A B C hn2 hT => ?_) (N 12) 0 _ _ _ _ (by omega) hn1 hT)
  refine g_iconst (v := (-1)) dL_areBills_184 (by decide) ?_
  refine g_istore dL_areBills_185 (by decide) ?_
  refine g_iconst (v := nI 0) dL_areBills_187 (by decide) ?_
  refine g_istore dL_areBills_188 (by decide) ?_
  refine g_iconst (v := nI 0) dL_areBills_190 (by decide) ?_
  refine g_istore dL_areBills_191 (by decide) ?_
  refine g_iconst (v := nI 1) dL_areBills_193 (by decide) ?_
  refine g_istore dL_areBills_194 (by decide) ?_
  refine g_iconst (v := nI 0) dL_areBills_196 (by decide) ?_
  refine g_istore dL_areBills_197 (by decide) ?_
  refine g_loc (by rfl) (ab3 hI hL hn0 hT _ (fun n3 hn3 => ?_) 20 0 n2 (by omega) hn2)
  have hs1 := sW_all hX.2.2.1 1
  have hs2 := sW_all hX.2.2.1 2
  have ct : ∀ w v, w < 12 → cnt0 X 0 w = v → Cn mX5_count 8 0 0 none [.ref 8, .int (nI w)] (cM (lM (aM M0 n0 A B C) N R D) Y) (zi (nI v) (fun M' => M' = cM (lM (aM M0 n0 A B C) N R D) Y)) := fun w v hw e => by
    have := a_ct (M0 := lM (aM M0 n0 A B C) N R D) hI hw
    rw [e] at this
    exact this
  have eN : ∀ j, j < 11 → X j = N j := fun j hj => (hL.1 j hj).symm
  refine g_iload dL_areBills_320 rfl ?_
  refine g_if_eq_n (tgt := 433) dL_areBills_322 (by decide) (by omega) (fun g => ?_) (fun g => ?_)
  · exact absurd g (by decide)
  · refine g_aload_n dL_areBills_325 rfl ?_
    refine g_callVn_i (a_best hI) oX5_best pX5_best lL_88 dL_areBills_326 rfl (cM_H rfl) rfl rfl rfl (Nat.le_of_ble_eq_true rfl) (Nat.le_of_ble_eq_true rfl) (by first | decide | omega) (fun _ e => nf_e e) (fun M1 m1 hm1 e => ?_)
    subst e
    refine g_iload dL_areBills_329 rfl ?_
    refine g_icmp_ne (tgt := 433) dL_areBills_331 (by decide) (fun h => absurd rfl h) (fun _ => ?_)
    refine g_aload_n dL_areBills_334 rfl ?_
    refine g_iconst (v := nI 0) dL_areBills_335 (by decide) ?_
    refine g_callVn_i (ct 0 (N 11) (by omega) hL.2.1.1.symm) oX5_count pX5_count lL_51 dL_areBills_336 rfl (cM_H rfl) rfl rfl rfl (Nat.le_of_ble_eq_true rfl) (Nat.le_of_ble_eq_true rfl) (by first | decide | omega) (fun _ e => nf_e e) (fun M1 m2 hm2 e => ?_)
    subst e
    refine g_aload_n dL_areBills_339 rfl ?_
    refine g_bipush (v := nI 11) dL_areBills_340 (by decide) ?_
    refine g_lN dL_areBills_342 (by omega) ?_
    refine g_icmp_ne (tgt := 433) dL_areBills_343 (by decide) (fun h => absurd rfl h) (fun _ => ?_)
    refine g_aload_n dL_areBills_346 rfl ?_
    refine g_iconst (v := nI 1) dL_areBills_347 (by decide) ?_
    refine g_callVn_i (ct 1 (N 12) (by omega) hL.2.1.2.symm) oX5_count pX5_count lL_51 dL_areBills_348 rfl (cM_H rfl) rfl rfl rfl (Nat.le_of_ble_eq_true rfl) (Nat.le_of_ble_eq_true rfl) (by first | decide | omega) (fun _ e => nf_e e) (fun M1 m3 hm3 e => ?_)
    subst e
    refine g_aload_n dL_areBills_351 rfl ?_
    refine g_bipush (v := nI 12) dL_areBills_352 (by decide) ?_
    refine g_lN dL_areBills_354 (by omega) ?_
    refine g_icmp_ne (tgt := 433) dL_areBills_355 (by decide) (fun h => absurd rfl h) (fun _ => ?_)
    refine g_aload_n dL_areBills_358 rfl ?_
    refine g_iconst (v := nI 2) dL_areBills_359 (by decide) ?_
    refine g_callVn_i (ct 2 (sW X 1 20) (by omega) hs1.symm) oX5_count pX5_count lL_51 dL_areBills_360 rfl (cM_H rfl) rfl rfl rfl (Nat.le_of_ble_eq_true rfl) (Nat.le_of_ble_eq_true rfl) (by first | decide | omega) (fun _ e => nf_e e) (fun M1 m4 hm4 e => ?_)
    subst e
    refine g_iload dL_areBills_363 rfl ?_
    refine g_icmp_ne (tgt := 433) dL_areBills_365 (by decide) (fun h => absurd rfl h) (fun _ => ?_)
    refine g_aload_n dL_areBills_368 rfl ?_
    refine g_iconst (v := nI 3) dL_areBills_369 (by decide) ?_
    refine g_callVn_i (ct 3 (sW X 2 20) (by omega) hs2.symm) oX5_count pX5_count lL_51 dL_areBills_370 rfl (cM_H rfl) rfl rfl rfl (Nat.le_of_ble_eq_true rfl) (Nat.le_of_ble_eq_true rfl) (by first | decide | omega) (fun _ e => nf_e e) (fun M1 m5 hm5 e => ?_)
    subst e
    refine g_iload dL_areBills_373 rfl ?_
    refine g_icmp_ne (tgt := 433) dL_areBills_375 (by decide) (fun h => absurd rfl h) (fun _ => ?_)
    refine g_aload_n dL_areBills_378 rfl ?_
    refine g_iconst (v := nI 4) dL_areBills_379 (by decide) ?_
    refine g_callVn_i (ct 4 (N 8) (by omega) (eN 8 (by omega))) oX5_count pX5_count lL_51 dL_areBills_380 rfl (cM_H rfl) rfl rfl rfl (Nat.le_of_ble_eq_true rfl) (Nat.le_of_ble_eq_true rfl) (by first | decide | omega) (fun _ e => nf_e e) (fun M1 m6 hm6 e => ?_)
    subst e
    refine g_aload_n dL_areBills_383 rfl ?_
    refine g_bipush (v := nI 8) dL_areBills_384 (by decide) ?_
    refine g_lN dL_areBills_386 (by omega) ?_
    refine g_icmp_ne (tgt := 433) dL_areBills_387 (by decide) (fun h => absurd rfl h) (fun _ => ?_)
    refine g_aload_n dL_areBills_390 rfl ?_
    refine g_iconst (v := nI 5) dL_areBills_391 (by decide) ?_
    refine g_callVn_i (ct 5 (N 9) (by omega) (eN 9 (by omega))) oX5_count pX5_count lL_51 dL_areBills_392 rfl (cM_H rfl) rfl rfl rfl (Nat.le_of_ble_eq_true rfl) (Nat.le_of_ble_eq_true rfl) (by first | decide | omega) (fun _ e => nf_e e) (fun M1 m7 hm7 e => ?_)
    subst e
    refine g_aload_n dL_areBills_395 rfl ?_
    refine g_bipush (v := nI 9) dL_areBills_396 (by decide) ?_
    refine g_lN dL_areBills_398 (by omega) ?_
    refine g_icmp_ne (tgt := 433) dL_areBills_399 (by decide) (fun h => absurd rfl h) (fun _ => ?_)
    have hbN : N 8 = N 9 + sW X 2 20 := by rw [← eN 8 (by omega), ← eN 9 (by omega), hs2]; exact hb
    refine g_aload_n dL_areBills_402 rfl ?_
    refine g_bipush (v := nI 8) dL_areBills_403 (by decide) ?_
    refine g_lN dL_areBills_405 (by omega) ?_
    refine g_aload_n dL_areBills_406 rfl ?_
    refine g_bipush (v := nI 9) dL_areBills_407 (by decide) ?_
    refine g_lN dL_areBills_409 (by omega) ?_
    refine g_isub_n dL_areBills_410 (by omega) ?_
    refine g_iload dL_areBills_411 rfl ?_
    rw [show N 8 - N 9 = sW X 2 20 by omega]
    refine g_icmp_ne (tgt := 433) dL_areBills_413 (by decide) (fun h => absurd rfl h) (fun _ => ?_)
    refine g_aload_n dL_areBills_416 rfl ?_
    refine g_bipush (v := nI 6) dL_areBills_417 (by decide) ?_
    refine g_callVn_i (ct 6 (N 10) (by omega) (eN 10 (by omega))) oX5_count pX5_count lL_51 dL_areBills_419 rfl (cM_H rfl) rfl rfl rfl (Nat.le_of_ble_eq_true rfl) (Nat.le_of_ble_eq_true rfl) (by first | decide | omega) (fun _ e => nf_e e) (fun M1 m8 hm8 e => ?_)
    subst e
    refine g_aload_n dL_areBills_422 rfl ?_
    refine g_bipush (v := nI 10) dL_areBills_423 (by decide) ?_
    refine g_lN dL_areBills_425 (by omega) ?_
    refine g_icmp_ne (tgt := 433) dL_areBills_426 (by decide) (fun h => absurd rfl h) (fun _ => ?_)
    refine g_iconst (v := nI 1) dL_areBills_429 (by decide) ?_
    refine g_goto (tgt := 434) dL_areBills_430 (by decide) ?_
    refine g_istore dL_areBills_434 (by decide) ?_
    refine g_iload dL_areBills_436 rfl ?_
    refine g_if_eq_n (tgt := 519) dL_areBills_438 (by decide) (by omega) (fun g2 => ?_) (fun g2 => ?_)
    · exact absurd g2 (by decide)
    · refine g_aload_n dL_areBills_441 rfl ?_
      refine g_bipush (v := nI 7) dL_areBills_442 (by decide) ?_
      refine g_callVn_i (ct 7 (N 0) (by omega) (eN 0 (by omega))) oX5_count pX5_count lL_51 dL_areBills_444 rfl (cM_H rfl) rfl rfl rfl (Nat.le_of_ble_eq_true rfl) (Nat.le_of_ble_eq_true rfl) (by first | decide | omega) (fun _ e => nf_e e) (fun M1 m9 hm9 e => ?_)
      subst e
      refine g_aload_n dL_areBills_447 rfl ?_
      refine g_iconst (v := nI 0) dL_areBills_448 (by decide) ?_
      refine g_lN dL_areBills_449 (by omega) ?_
      refine g_icmp_ne (tgt := 519) dL_areBills_450 (by decide) (fun h => absurd rfl h) (fun _ => ?_)
      refine g_aload_n dL_areBills_453 rfl ?_
      refine g_bipush (v := nI 8) dL_areBills_454 (by decide) ?_
      refine g_callVn_i (ct 8 (N 1) (by omega) (eN 1 (by omega))) oX5_count pX5_count lL_51 dL_areBills_456 rfl (cM_H rfl) rfl rfl rfl (Nat.le_of_ble_eq_true rfl) (Nat.le_of_ble_eq_true rfl) (by first | decide | omega) (fun _ e => nf_e e) (fun M1 k1 hk1 e => ?_)
      subst e
      refine g_aload_n dL_areBills_459 rfl ?_
      refine g_iconst (v := nI 1) dL_areBills_460 (by decide) ?_
      refine g_lN dL_areBills_461 (by omega) ?_
      refine g_icmp_ne (tgt := 519) dL_areBills_462 (by decide) (fun h => absurd rfl h) (fun _ => ?_)
      refine g_aload_n dL_areBills_465 rfl ?_
      refine g_bipush (v := nI 9) dL_areBills_466 (by decide) ?_
      refine g_callVn_i (ct 9 (N 2) (by omega) (eN 2 (by omega))) oX5_count pX5_count lL_51 dL_areBills_468 rfl (cM_H rfl) rfl rfl rfl (Nat.le_of_ble_eq_true rfl) (Nat.le_of_ble_eq_true rfl) (by first | decide | omega) (fun _ e => nf_e e) (fun M1 k2 hk2 e => ?_)
      subst e
      refine g_aload_n dL_areBills_471 rfl ?_
      refine g_iconst (v := nI 2) dL_areBills_472 (by decide) ?_
      refine g_lN dL_areBills_473 (by omega) ?_
      refine g_icmp_ne (tgt := 519) dL_areBills_474 (by decide) (fun h => absurd rfl h) (fun _ => ?_)
      refine g_aload_n dL_areBills_477 rfl ?_
      refine g_bipush (v := nI 10) dL_areBills_478 (by decide) ?_
      refine g_callVn_i (ct 10 (N 3) (by omega) (eN 3 (by omega))) oX5_count pX5_count lL_51 dL_areBills_480 rfl (cM_H rfl) rfl rfl rfl (Nat.le_of_ble_eq_true rfl) (Nat.le_of_ble_eq_true rfl) (by first | decide | omega) (fun _ e => nf_e e) (fun M1 k3 hk3 e => ?_)
      subst e
      refine g_aload_n dL_areBills_483 rfl ?_
      refine g_iconst (v := nI 3) dL_areBills_484 (by decide) ?_
      refine g_lN dL_areBills_485 (by omega) ?_
      refine g_icmp_ne (tgt := 519) dL_areBills_486 (by decide) (fun h => absurd rfl h) (fun _ => ?_)
      refine g_aload_n dL_areBills_489 rfl ?_
      refine g_bipush (v := nI 11) dL_areBills_490 (by decide) ?_
      refine g_callVn_i (ct 11 (N 4) (by omega) (eN 4 (by omega))) oX5_count pX5_count lL_51 dL_areBills_492 rfl (cM_H rfl) rfl rfl rfl (Nat.le_of_ble_eq_true rfl) (Nat.le_of_ble_eq_true rfl) (by first | decide | omega) (fun _ e => nf_e e) (fun M1 k4 hk4 e => ?_)
      subst e
      refine g_aload_n dL_areBills_495 rfl ?_
      refine g_iconst (v := nI 4) dL_areBills_496 (by decide) ?_
      refine g_lN dL_areBills_497 (by omega) ?_
      refine g_icmp_ne (tgt := 519) dL_areBills_498 (by decide) (fun h => absurd rfl h) (fun _ => ?_)
      have hmn := a_mean (M0 := lM (aM M0 n0 A B C) N R D) hI
      rw [← hs2] at hmn
      refine g_aload_n dL_areBills_501 rfl ?_
      refine g_callVn_g (hmn) oX5_meanRent pX5_meanRent lL_92 dL_areBills_502 rfl (cM_H rfl) rfl rfl rfl (Nat.le_of_ble_eq_true rfl) (Nat.le_of_ble_eq_true rfl) (by first | decide | omega) (fun _ e => nf_e e) (fun M1 k5 hk5 e => ?_)
      subst e
      have hnn := z84 (nI (sW X 2 20))
      refine g_iload dL_areBills_505 rfl ?_
      refine g_i2f dL_areBills_507 ?_
      refine g_ldcf dL_areBills_508 q478 ?_
      refine g_fdiv dL_areBills_510 (vf_of32 hnn) ?_
      refine g_fcmp dL_areBills_511 ?_
      rw [fself hnn]
      refine g_if_ne (tgt := 519) dL_areBills_512 (by decide) (fun h => absurd rfl h) (fun _ => ?_)
      refine g_iconst (v := nI 1) dL_areBills_515 (by decide) ?_
      refine g_goto (tgt := 520) dL_areBills_516 (by decide) ?_
      exact g_drop (aM_drop hn0 h0) (g_ireturn_b (b := true) dL_areBills_520 rfl ⟨rfl, rfl⟩)
end LB
