/-! the law's isLets, isFull, isNext -/
def wk (m : Nat) : Int32 := match m with
  | 0 => -1
  | k + 1 => nI k
theorem wk_s (k : Nat) : nI k + Int32.ofInt (-1) = wk k := by
  cases k with
  | zero => rfl
  | succ k => exact pk_m1 k
section LO
variable {X N R D : Nat → Nat}
theorem Lw_o8 (h : Lw X N R D) {i w : Nat} (hi : i < X 11) (hw : w < 9) : ofR X i w = nI (R (11 * i + w)) := by
  unfold ofR
  rw [if_pos hw, Lw_r h hi hw]
theorem Lw_dc (h : Lw X N R D) {i : Nat} (hi : i < X 11) : dcnt X i 84 = bsum (R (11 * i + 9)) 12 := by
  rw [dcnt_R (h.2.2.2.1 i hi), bc_sum]
  rfl
theorem Lw_o9 (h : Lw X N R D) {i : Nat} (hi : i < X 11) : ofR X i 9 = nI (bsum (R (11 * i + 9)) 12) := by
  unfold ofR
  rw [if_neg (by omega), if_pos rfl, Lw_dc h hi]
theorem Lw_o10 (h : Lw X N R D) {i : Nat} (hi : i < X 11) : ofR X i 10 = fdV (rw R i) 12 0 := by
  unfold ofR
  rw [if_neg (by omega), if_neg (by omega)]
  exact fd_R (h.2.2.2.1 i hi) 12 0 (by omega)
variable {M0 : zM} {Y : Nat → Nat → Nat}
theorem il0 (hB : lB N R D) {i : Nat} (hi : i < N 11) (F : zP) {n0 : Nat} (hF : G mL_isLets 9 0 0 (some n0) 79 [(0, .ref 8), (1, .ref 233), (2, .ref 234), (3, .ref 235), (4, .int (nI 1)), (5, .int (nI i)), (6, .int (fdV (rw R i) 12 0))] [] (cM (lM M0 N R D) Y) F) : ∀ m, m ≤ 12 → G mL_isLets 9 0 0 (some n0) 27 [(0, .ref 8), (1, .ref 233), (2, .ref 234), (3, .ref 235), (4, .int (nI 1)), (5, .int (nI i)), (6, .int (fdV (rw R i) (12 - m) m)), (7, .int (wk m))] [] (cM (lM M0 N R D) Y) F := by
  obtain ⟨b0, b11, b12, -, -⟩ := id hB
  intro m
  induction m with
  | zero =>
    intro _
    refine g_iload dL_isLets_27 rfl ?_
    refine g_if_lt (tgt := 79) dL_isLets_29 (by decide) (fun _ => ?_) (fun h => absurd h (by decide))
    exact g_loc (by rfl) hF
  | succ k ih =>
    intro hm
    have ih := ih (by omega)
    have r1 := lB_R hB (i := i) (j := 1) hi (by omega)
    have r9 := lB_R hB (i := i) (j := 9) hi (by omega)
    have ef : fdV (rw R i) (12 - k) k = if R (11 * i + 9) / 2 ^ k % 2 = 1 then nI (7 * k + R (11 * i + 1)) else fdV (rw R i) (12 - (k + 1)) (k + 1) := by
      rw [show 12 - k = (12 - (k + 1)) + 1 by omega, fdV]
      rfl
    refine g_iload dL_isLets_27 rfl ?_
    show G mL_isLets 9 0 0 (some n0) 29 _ [.int (nI k)] _ _
    refine g_if_lt_n (tgt := 79) dL_isLets_29 (by decide) (by omega) (fun h1 => ?_) (fun h1 => ?_)
    · exact absurd h1 (by omega)
    · have hk : k < 31 := by omega
      refine g_aload_n dL_isLets_32 rfl ?_
      refine g_bipush (v := nI 11) dL_isLets_33 (by decide) ?_
      refine g_iload dL_isLets_35 rfl ?_
      refine g_imul_n dL_isLets_37 ?_
      refine g_bipush (v := nI 9) dL_isLets_38 (by decide) ?_
      refine g_iadd_n dL_isLets_40 ?_
      refine g_lR dL_isLets_41 (by omega) ?_
      refine g_iload (x := nI k) dL_isLets_42 rfl ?_
      refine g_ishr_n dL_isLets_44 (by omega) (by omega) ?_
      refine g_iconst (v := nI 1) dL_isLets_45 (by decide) ?_
      refine g_iand1_n dL_isLets_46 ?_
      refine g_iconst (v := nI 1) dL_isLets_47 (by decide) ?_
      refine g_icmp_ne_n (tgt := 69) dL_isLets_48 (by decide) (by omega) (by omega) (fun h2 => ?_) (fun h2 => ?_)
      · refine g_iload dL_isLets_69 rfl ?_
        refine g_istore dL_isLets_71 (by decide) ?_
        refine g_iinc (v := wk k) dL_isLets_73 rfl (wk_s k) (by decide) ?_
        refine g_goto (tgt := 27) dL_isLets_76 (by decide) (g_loc ?_ ih)
        rw [ef, if_neg h2]
        rfl
      · refine g_bipush (v := nI 7) dL_isLets_51 (by decide) ?_
        refine g_iload (x := nI k) dL_isLets_53 rfl ?_
        refine g_imul_n dL_isLets_55 ?_
        refine g_aload_n dL_isLets_56 rfl ?_
        refine g_bipush (v := nI 11) dL_isLets_57 (by decide) ?_
        refine g_iload dL_isLets_59 rfl ?_
        refine g_imul_n dL_isLets_61 ?_
        refine g_iconst (v := nI 1) dL_isLets_62 (by decide) ?_
        refine g_iadd_n dL_isLets_63 ?_
        refine g_lR dL_isLets_64 (by omega) ?_
        refine g_iadd_n dL_isLets_65 ?_
        refine g_goto (tgt := 71) dL_isLets_66 (by decide) ?_
        refine g_istore dL_isLets_71 (by decide) ?_
        refine g_iinc (v := wk k) dL_isLets_73 rfl (wk_s k) (by decide) ?_
        refine g_goto (tgt := 27) dL_isLets_76 (by decide) (g_loc ?_ ih)
        rw [ef, if_pos h2]
        rfl
theorem il1 (hI : IV Y X) (hL : Lw X N R D) {i : Nat} (hi : i < N 11) (v6 : Int32) (F : zP) (hF : ∀ n0, 236 ≤ n0 → G mL_isLets 9 0 0 (some n0) 128 [(0, .ref 8), (1, .ref 233), (2, .ref 234), (3, .ref 235), (4, .int (nI 1)), (5, .int (nI i)), (6, .int v6)] [] (cM (lM M0 N R D) Y) F) : ∀ u w n0, w + u = 9 → 236 ≤ n0 → G mL_isLets 9 0 0 (some n0) 82 [(0, .ref 8), (1, .ref 233), (2, .ref 234), (3, .ref 235), (4, .int (nI 1)), (5, .int (nI i)), (6, .int v6), (7, .int (nI w))] [] (cM (lM M0 N R D) Y) F := by
  have hB := Lw_B hL (IV_X hI)
  obtain ⟨b0, b11, b12, -, -⟩ := id hB
  have hiX : i < X 11 := by rw [← hL.2.1.1]; exact hi
  intro u
  induction u with
  | zero =>
    intro w n0 hw hn0
    refine g_iload dL_isLets_82 rfl ?_
    refine g_bipush (v := nI 9) dL_isLets_84 (by decide) ?_
    refine g_icmp_ge_n (tgt := 128) dL_isLets_86 (by decide) (by omega) (by omega) (fun h1 => ?_) (fun h1 => ?_)
    · exact g_loc (by rfl) (hF n0 hn0)
    · exact absurd h1 (by omega)
  | succ u ih =>
    intro w n0 hw hn0
    have rw0 := lB_R hB (i := i) (j := w) hi (by omega)
    have hc := a_ro (M0 := lM M0 N R D) hI hiX (w := w) (by omega)
    rw [Lw_o8 hL hiX (by omega)] at hc
    refine g_iload dL_isLets_82 rfl ?_
    refine g_bipush (v := nI 9) dL_isLets_84 (by decide) ?_
    refine g_icmp_ge_n (tgt := 128) dL_isLets_86 (by decide) (by omega) (by omega) (fun h1 => ?_) (fun h1 => ?_)
    · exact absurd h1 (by omega)
    · refine g_iload dL_isLets_89 rfl ?_
      refine g_if_eq_n (tgt := 119) dL_isLets_91 (by decide) (by omega) (fun h2 => ?_) (fun h2 => ?_)
      · exact absurd h2 (by decide)
      · refine g_aload_n dL_isLets_94 rfl ?_
        refine g_iload dL_isLets_95 rfl ?_
        refine g_iload dL_isLets_97 rfl ?_
        refine g_callVn_i (hc) oX5_regularOf pX5_regularOf lL_79 dL_isLets_99 rfl (cM_H rfl) rfl rfl rfl (Nat.le_of_ble_eq_true rfl) (Nat.le_of_ble_eq_true rfl) (by first | decide | omega) (fun _ e => nf_e e) (fun M1 n1 hn1 e => ?_)
        subst e
        refine g_aload_n dL_isLets_102 rfl ?_
        refine g_bipush (v := nI 11) dL_isLets_103 (by decide) ?_
        refine g_iload dL_isLets_105 rfl ?_
        refine g_imul_n dL_isLets_107 ?_
        refine g_iload dL_isLets_108 rfl ?_
        refine g_iadd_n dL_isLets_110 ?_
        refine g_lR dL_isLets_111 (by omega) ?_
        refine g_icmp_ne_n (tgt := 119) dL_isLets_112 (by decide) (by omega) (by omega) (fun h3 => ?_) (fun h3 => ?_)
        · exact absurd rfl h3
        · refine g_iconst (v := nI 1) dL_isLets_115 (by decide) ?_
          refine g_goto (tgt := 120) dL_isLets_116 (by decide) ?_
          refine g_istore dL_isLets_120 (by decide) ?_
          refine g_iinc_n (c := 1) dL_isLets_122 rfl (by decide) (by decide) ?_
          refine g_goto (tgt := 82) dL_isLets_125 (by decide) ?_
          exact g_loc (by rfl) (ih (w + 1) n1 (by omega) (by omega))
theorem il2 (hI : IV Y X) (hL : Lw X N R D) (F : zP) (hF : ∀ n0, 236 ≤ n0 → G mL_isLets 9 0 0 (some n0) 183 [(0, .ref 8), (1, .ref 233), (2, .ref 234), (3, .ref 235), (4, .int (nI 1))] [] (cM (lM M0 N R D) Y) F) : ∀ u i n0, i + u = N 11 → 236 ≤ n0 → G mL_isLets 9 0 0 (some n0) 6 [(0, .ref 8), (1, .ref 233), (2, .ref 234), (3, .ref 235), (4, .int (nI 1)), (5, .int (nI i))] [] (cM (lM M0 N R D) Y) F := by
  have hB := Lw_B hL (IV_X hI)
  obtain ⟨b0, b11, b12, -, -⟩ := id hB
  intro u
  induction u with
  | zero =>
    intro i n0 hi hn0
    refine g_iload dL_isLets_6 rfl ?_
    refine g_aload_n dL_isLets_8 rfl ?_
    refine g_bipush (v := nI 11) dL_isLets_9 (by decide) ?_
    refine g_lN dL_isLets_11 (by omega) ?_
    refine g_icmp_ge_n (tgt := 183) dL_isLets_12 (by decide) (by omega) (by omega) (fun h1 => ?_) (fun h1 => ?_)
    · exact g_loc (by rfl) (hF n0 hn0)
    · exact absurd h1 (by omega)
  | succ u ih =>
    intro i n0 hi hn0
    have hiN : i < N 11 := by omega
    have hiX : i < X 11 := by rw [← hL.2.1.1]; exact hiN
    have r9 := lB_R hB (i := i) (j := 9) hiN (by omega)
    have hc9 := a_ro (M0 := lM M0 N R D) hI hiX (w := 9) (by omega)
    rw [Lw_o9 hL hiX] at hc9
    have hc10 := a_ro (M0 := lM M0 N R D) hI hiX (w := 10) (by omega)
    rw [Lw_o10 hL hiX] at hc10
    refine g_iload dL_isLets_6 rfl ?_
    refine g_aload_n dL_isLets_8 rfl ?_
    refine g_bipush (v := nI 11) dL_isLets_9 (by decide) ?_
    refine g_lN dL_isLets_11 (by omega) ?_
    refine g_icmp_ge_n (tgt := 183) dL_isLets_12 (by decide) (by omega) (by omega) (fun h1 => ?_) (fun h1 => ?_)
    · exact absurd h1 (by omega)
    · refine g_iload dL_isLets_15 rfl ?_
      refine g_if_eq_n (tgt := 183) dL_isLets_17 (by decide) (by omega) (fun h2 => ?_) (fun h2 => ?_)
      · exact absurd h2 (by decide)
      · refine g_iconst (v := (-1)) dL_isLets_20 (by decide) ?_
        refine g_istore dL_isLets_21 (by decide) ?_
        refine g_bipush (v := nI 11) dL_isLets_23 (by decide) ?_
        refine g_istore dL_isLets_25 (by decide) ?_
        refine g_loc (by rfl) (il0 hB hiN F ?_ 12 (Nat.le_refl _))
        refine g_iconst (v := nI 0) dL_isLets_79 (by decide) ?_
        refine g_istore dL_isLets_80 (by decide) ?_
        refine g_loc (by rfl) (il1 hI hL hiN _ F (fun n1 hn1 => ?_) 9 0 n0 (by omega) hn0)
        refine g_iload dL_isLets_128 rfl ?_
        refine g_if_eq_n (tgt := 174) dL_isLets_130 (by decide) (by omega) (fun h3 => ?_) (fun h3 => ?_)
        · exact absurd h3 (by decide)
        · refine g_aload_n dL_isLets_133 rfl ?_
          refine g_iload dL_isLets_134 rfl ?_
          refine g_bipush (v := nI 9) dL_isLets_136 (by decide) ?_
          refine g_callVn_i (hc9) oX5_regularOf pX5_regularOf lL_79 dL_isLets_138 rfl (cM_H rfl) rfl rfl rfl (Nat.le_of_ble_eq_true rfl) (Nat.le_of_ble_eq_true rfl) (by first | decide | omega) (fun _ e => nf_e e) (fun M1 n2 hn2 e => ?_)
          subst e
          refine g_aload_n dL_isLets_141 rfl ?_
          refine g_bipush (v := nI 11) dL_isLets_142 (by decide) ?_
          refine g_iload dL_isLets_144 rfl ?_
          refine g_imul_n dL_isLets_146 ?_
          refine g_bipush (v := nI 9) dL_isLets_147 (by decide) ?_
          refine g_iadd_n dL_isLets_149 ?_
          refine g_lR dL_isLets_150 (by omega) ?_
          refine g_callSn_i (kL_ones (by omega)) oL_ones pL_ones lL_62 dL_isLets_151 rfl rfl (Nat.le_of_ble_eq_true rfl) (Nat.le_of_ble_eq_true rfl) (by first | decide | omega) (Nat.le_refl _) (Nat.le_refl _) (fun _ e => nf_e e) (fun M1 n3 hn3 e => ?_)
          subst e
          refine g_icmp_ne (tgt := 174) dL_isLets_154 (by decide) (fun h => absurd rfl h) (fun _ => ?_)
          refine g_aload_n dL_isLets_157 rfl ?_
          refine g_iload dL_isLets_158 rfl ?_
          refine g_bipush (v := nI 10) dL_isLets_160 (by decide) ?_
          refine g_callVn_i (hc10) oX5_regularOf pX5_regularOf lL_79 dL_isLets_162 rfl (cM_H rfl) rfl rfl rfl (Nat.le_of_ble_eq_true rfl) (Nat.le_of_ble_eq_true rfl) (by first | decide | omega) (fun _ e => nf_e e) (fun M1 n4 hn4 e => ?_)
          subst e
          refine g_iload dL_isLets_165 rfl ?_
          refine g_icmp_ne (tgt := 174) dL_isLets_167 (by decide) (fun h => absurd rfl h) (fun _ => ?_)
          refine g_iconst (v := nI 1) dL_isLets_170 (by decide) ?_
          refine g_goto (tgt := 175) dL_isLets_171 (by decide) ?_
          refine g_istore dL_isLets_175 (by decide) ?_
          refine g_iinc_n (c := 1) dL_isLets_177 rfl (by decide) (by decide) ?_
          refine g_goto (tgt := 6) dL_isLets_180 (by decide) ?_
          exact g_loc (by rfl) (ih (i + 1) n4 (by omega) (by omega))
theorem il3 (hI : IV Y X) (hL : Lw X N R D) {i : Nat} (hi : i < N 12) (F : zP) (hF : ∀ n0, 236 ≤ n0 → G mL_isLets 9 0 0 (some n0) 249 [(0, .ref 8), (1, .ref 233), (2, .ref 234), (3, .ref 235), (4, .int (nI 1)), (5, .int (nI i))] [] (cM (lM M0 N R D) Y) F) : ∀ u w n0, w + u = 7 → 236 ≤ n0 → G mL_isLets 9 0 0 (some n0) 203 [(0, .ref 8), (1, .ref 233), (2, .ref 234), (3, .ref 235), (4, .int (nI 1)), (5, .int (nI i)), (6, .int (nI w))] [] (cM (lM M0 N R D) Y) F := by
  have hB := Lw_B hL (IV_X hI)
  obtain ⟨b0, b11, b12, -, -⟩ := id hB
  have hiX : i < X 92 := by rw [← hL.2.1.2]; exact hi
  intro u
  induction u with
  | zero =>
    intro w n0 hw hn0
    refine g_iload dL_isLets_203 rfl ?_
    refine g_bipush (v := nI 7) dL_isLets_205 (by decide) ?_
    refine g_icmp_ge_n (tgt := 249) dL_isLets_207 (by decide) (by omega) (by omega) (fun h1 => ?_) (fun h1 => ?_)
    · exact g_loc (by rfl) (hF n0 hn0)
    · exact absurd h1 (by omega)
  | succ u ih =>
    intro w n0 hw hn0
    have rw0 := lB_D hB (i := i) (j := w) hi (by omega)
    have hc := a_so (M0 := lM M0 N R D) hI hiX (w := w) (by omega)
    rw [← Lw_d hL hiX (by omega)] at hc
    refine g_iload dL_isLets_203 rfl ?_
    refine g_bipush (v := nI 7) dL_isLets_205 (by decide) ?_
    refine g_icmp_ge_n (tgt := 249) dL_isLets_207 (by decide) (by omega) (by omega) (fun h1 => ?_) (fun h1 => ?_)
    · exact absurd h1 (by omega)
    · refine g_iload dL_isLets_210 rfl ?_
      refine g_if_eq_n (tgt := 240) dL_isLets_212 (by decide) (by omega) (fun h2 => ?_) (fun h2 => ?_)
      · exact absurd h2 (by decide)
      · refine g_aload_n dL_isLets_215 rfl ?_
        refine g_iload dL_isLets_216 rfl ?_
        refine g_iload dL_isLets_218 rfl ?_
        refine g_callVn_i (hc) oX5_singleOf pX5_singleOf lL_82 dL_isLets_220 rfl (cM_H rfl) rfl rfl rfl (Nat.le_of_ble_eq_true rfl) (Nat.le_of_ble_eq_true rfl) (by first | decide | omega) (fun _ e => nf_e e) (fun M1 n1 hn1 e => ?_)
        subst e
        refine g_aload_n dL_isLets_223 rfl ?_
        refine g_bipush (v := nI 7) dL_isLets_224 (by decide) ?_
        refine g_iload dL_isLets_226 rfl ?_
        refine g_imul_n dL_isLets_228 ?_
        refine g_iload dL_isLets_229 rfl ?_
        refine g_iadd_n dL_isLets_231 ?_
        refine g_lD dL_isLets_232 (by omega) ?_
        refine g_icmp_ne_n (tgt := 240) dL_isLets_233 (by decide) (by omega) (by omega) (fun h3 => ?_) (fun h3 => ?_)
        · exact absurd rfl h3
        · refine g_iconst (v := nI 1) dL_isLets_236 (by decide) ?_
          refine g_goto (tgt := 241) dL_isLets_237 (by decide) ?_
          refine g_istore dL_isLets_241 (by decide) ?_
          refine g_iinc_n (c := 1) dL_isLets_243 rfl (by decide) (by decide) ?_
          refine g_goto (tgt := 203) dL_isLets_246 (by decide) ?_
          exact g_loc (by rfl) (ih (w + 1) n1 (by omega) (by omega))
theorem il4 (hI : IV Y X) (hL : Lw X N R D) : ∀ u i n0, i + u = N 12 → 236 ≤ n0 → G mL_isLets 9 0 0 (some n0) 186 [(0, .ref 8), (1, .ref 233), (2, .ref 234), (3, .ref 235), (4, .int (nI 1)), (5, .int (nI i))] [] (cM (lM M0 N R D) Y) (zqI (nI 1) (fun M' => M' = cM (lM M0 N R D) Y)) := by
  have hB := Lw_B hL (IV_X hI)
  obtain ⟨b0, b11, b12, -, -⟩ := id hB
  intro u
  induction u with
  | zero =>
    intro i n0 hi hn0
    refine g_iload dL_isLets_186 rfl ?_
    refine g_aload_n dL_isLets_188 rfl ?_
    refine g_bipush (v := nI 12) dL_isLets_189 (by decide) ?_
    refine g_lN dL_isLets_191 (by omega) ?_
    refine g_icmp_ge_n (tgt := 255) dL_isLets_192 (by decide) (by omega) (by omega) (fun h1 => ?_) (fun h1 => ?_)
    · refine g_iload dL_isLets_255 rfl ?_
      exact g_ireturn_b (b := true) dL_isLets_257 rfl ⟨rfl, rfl⟩
    · exact absurd h1 (by omega)
  | succ u ih =>
    intro i n0 hi hn0
    refine g_iload dL_isLets_186 rfl ?_
    refine g_aload_n dL_isLets_188 rfl ?_
    refine g_bipush (v := nI 12) dL_isLets_189 (by decide) ?_
    refine g_lN dL_isLets_191 (by omega) ?_
    refine g_icmp_ge_n (tgt := 255) dL_isLets_192 (by decide) (by omega) (by omega) (fun h1 => ?_) (fun h1 => ?_)
    · exact absurd h1 (by omega)
    · refine g_iload dL_isLets_195 rfl ?_
      refine g_if_eq_n (tgt := 255) dL_isLets_197 (by decide) (by omega) (fun h2 => ?_) (fun h2 => ?_)
      · exact absurd h2 (by decide)
      · refine g_iconst (v := nI 0) dL_isLets_200 (by decide) ?_
        refine g_istore dL_isLets_201 (by decide) ?_
        refine g_loc (by rfl) (il3 hI hL (i := i) (by omega) _ (fun n1 hn1 => ?_) 7 0 n0 (by omega) hn0)
        refine g_iinc_n (c := 1) dL_isLets_249 rfl (by decide) (by decide) ?_
        refine g_goto (tgt := 186) dL_isLets_252 (by decide) ?_
        exact g_loc (by rfl) (ih (i + 1) n1 (by omega) hn1)
theorem kL_isLets (hI : IV Y X) (hL : Lw X N R D) {n0 : Nat} (hn0 : 236 ≤ n0) : Cn mL_isLets 9 0 0 (some n0) [.ref 8, .ref 233, .ref 234, .ref 235] (cM (lM M0 N R D) Y) (zqI (nI 1) (fun M' => M' = cM (lM M0 N R D) Y)) := by
  refine g_iconst (v := nI 1) dL_isLets_0 (by decide) ?_
  refine g_istore dL_isLets_1 (by decide) ?_
  refine g_iconst (v := nI 0) dL_isLets_3 (by decide) ?_
  refine g_istore dL_isLets_4 (by decide) ?_
  refine g_loc (by rfl) (il2 hI hL _ (fun n1 hn1 => ?_) (N 11) 0 n0 (by omega) hn0)
  refine g_iconst (v := nI 0) dL_isLets_183 (by decide) ?_
  refine g_istore dL_isLets_184 (by decide) ?_
  exact g_loc (by rfl) (il4 hI hL (N 12) 0 n1 (by omega) hn1)
/-! isFull -/
def lhR (R : Nat → Nat) (h : Nat) : Nat → Nat
  | 0 => 0
  | k + 1 => lhR R h k + (if R (11 * k) = h then bsum (R (11 * k + 9)) 12 * (R (11 * k + 3) - R (11 * k + 2)) else 0)
def lhD (D : Nat → Nat) (h : Nat) : Nat → Nat
  | 0 => 0
  | k + 1 => lhD D h k + (if D (7 * k) = h then D (7 * k + 3) - D (7 * k + 2) else 0)
theorem hiv_R {V : Nat → Nat → Nat} {h : Nat} : ∀ k, (∀ i, i < k → ∀ j, j < 10 → V i j = R (11 * i + j)) → hiV V h k = lhR R h k
  | 0, _ => rfl
  | k + 1, hv => by
    rw [hiV, lhR, hiv_R k (fun i hi => hv i (by omega)), hv k (by omega) 0 (by omega), hv k (by omega) 2 (by omega), hv k (by omega) 3 (by omega), hv k (by omega) 9 (by omega), bc_sum, Nat.add_zero]
    split
    · rw [Nat.mul_comm (R (11 * k + 3) - R (11 * k + 2))]
    · rw [Nat.add_zero]
theorem hiv_D {V : Nat → Nat → Nat} {h : Nat} : ∀ k, (∀ i, i < k → V i 0 = D (7 * i) ∧ V i 2 = D (7 * i + 2) ∧ V i 3 = D (7 * i + 3) ∧ bc12 (V i 9) = 1) → hiV V h k = lhD D h k
  | 0, _ => rfl
  | k + 1, hv => by
    obtain ⟨h0, h2, h3, h9⟩ := hv k (by omega)
    rw [hiV, lhD, hiv_D k (fun i hi => hv i (by omega)), h0, h2, h3, h9, Nat.mul_one]
    split
    · rfl
    · rw [Nat.add_zero]
theorem bits_u {a b : Nat} (ha : a < 4096) (hb : b < 4096) (h : ∀ k, k < 12 → (a / 2 ^ k % 2 = 1 ↔ b / 2 ^ k % 2 = 1)) : a = b := by
  apply Nat.eq_of_testBit_eq
  intro k
  by_cases hk : k < 12
  · have := h k hk
    rw [bit_iff, bit_iff] at this
    exact Bool.eq_iff_iff.mpr this
  · have h1 : (4096 : Nat) ≤ 2 ^ k := Nat.le_trans (show (4096 : Nat) ≤ 2 ^ 12 by decide) (Nat.pow_le_pow_right (by decide) (by omega))
    rw [Nat.testBit_lt_two_pow (Nat.lt_of_lt_of_le ha h1), Nat.testBit_lt_two_pow (Nat.lt_of_lt_of_le hb h1)]
theorem RgR_u {v u w : Nat → Nat} (h : RgR v w) (h2 : RgR u w) : ∀ j, j < 10 → v j = u j := fun j hj => by
  by_cases h9 : j = 9
  · subst h9
    exact bits_u h.2.1 h2.2.1 (fun k hk => (h.2.2.1 k hk).trans (h2.2.2.1 k hk).symm)
  · rw [h.1 j (by omega), h2.1 j (by omega)]
theorem Lw_hi (hI : IV Y X) (hL : Lw X N R D) (a : Nat) : hiT Y a = lhR R a (N 11) + lhD D a (N 12) := by
  obtain ⟨SS, SN, sm, ik, hI⟩ := hI
  have hA := hI.1.2.1
  have e1 : Y 10 1 = X 11 := hA.2.2.2.1.1
  have e2 : Y 20 1 = X 92 := hA.2.2.2.1.2
  unfold hiT
  rw [e1, e2, hL.2.1.1, hL.2.1.2]
  rw [hiv_R (R := R) (X 11) (fun i hi j hj => RgR_u (hA.2.2.2.2.1 i hi) (hL.2.2.2.1 i hi) j hj)]
  rw [hiv_D (D := D) (X 92) (fun i hi => by
    have hs := hA.2.2.2.2.2 i hi
    refine ⟨hs.1.trans (Lw_d hL hi (j := 0) (by omega)).symm, (hs.2.2.1 2 (by omega) (by omega)).trans (Lw_d hL hi (by omega)).symm, (hs.2.2.1 3 (by omega) (by omega)).trans (Lw_d hL hi (by omega)).symm, bc_S hs⟩)]
theorem if1 (hB : lB N R D) (hC : ∀ i, i < N 11 → R (11 * i + 2) ≤ R (11 * i + 3)) {h : Nat} (hh : h ≤ 2) (F : zP) (hF : ∀ n0, 236 ≤ n0 → G mL_isFull 9 0 0 (some n0) 75 [(0, .ref 8), (1, .ref 233), (2, .ref 234), (3, .ref 235), (4, .int (nI h)), (5, .int (nI (lhR R h (N 11))))] [] (cM (lM M0 N R D) Y) F) : ∀ u i n0, i + u = N 11 → 236 ≤ n0 → G mL_isFull 9 0 0 (some n0) 6 [(0, .ref 8), (1, .ref 233), (2, .ref 234), (3, .ref 235), (4, .int (nI h)), (5, .int (nI (lhR R h i))), (6, .int (nI i))] [] (cM (lM M0 N R D) Y) F := by
  obtain ⟨b0, b11, b12, -, -⟩ := id hB
  intro u
  induction u with
  | zero =>
    intro i n0 hi hn0
    refine g_iload dL_isFull_6 rfl ?_
    refine g_aload_n dL_isFull_8 rfl ?_
    refine g_bipush (v := nI 11) dL_isFull_9 (by decide) ?_
    refine g_lN dL_isFull_11 (by omega) ?_
    refine g_icmp_ge_n (tgt := 75) dL_isFull_12 (by decide) (by omega) (by omega) (fun h1 => ?_) (fun h1 => ?_)
    · rw [show i = N 11 by omega]
      exact g_loc (by rfl) (hF n0 hn0)
    · exact absurd h1 (by omega)
  | succ u ih =>
    intro i n0 hi hn0
    have hiN : i < N 11 := by omega
    have r0 : R (11 * i) < 1048576 := lB_R hB (i := i) (j := 0) hiN (by omega)
    have r2 := lB_R hB (i := i) (j := 2) hiN (by omega)
    have r3 := lB_R hB (i := i) (j := 3) hiN (by omega)
    have r9 := lB_R hB (i := i) (j := 9) hiN (by omega)
    have hle := hC i hiN
    refine g_iload dL_isFull_6 rfl ?_
    refine g_aload_n dL_isFull_8 rfl ?_
    refine g_bipush (v := nI 11) dL_isFull_9 (by decide) ?_
    refine g_lN dL_isFull_11 (by omega) ?_
    refine g_icmp_ge_n (tgt := 75) dL_isFull_12 (by decide) (by omega) (by omega) (fun h1 => ?_) (fun h1 => ?_)
    · exact absurd h1 (by omega)
    · refine g_iload dL_isFull_15 rfl ?_
      refine g_aload_n dL_isFull_17 rfl ?_
      refine g_bipush (v := nI 11) dL_isFull_18 (by decide) ?_
      refine g_iload dL_isFull_20 rfl ?_
      refine g_imul_n dL_isFull_22 ?_
      refine g_lR dL_isFull_23 (by omega) ?_
      refine g_iload dL_isFull_24 rfl ?_
      refine g_icmp_ne_n (tgt := 65) dL_isFull_26 (by decide) (by omega) (by omega) (fun h2 => ?_) (fun h2 => ?_)
      · refine g_iconst (v := nI 0) dL_isFull_65 (by decide) ?_
        refine g_iadd_n dL_isFull_66 ?_
        refine g_istore dL_isFull_67 (by decide) ?_
        refine g_iinc_n (c := 1) dL_isFull_69 rfl (by decide) (by decide) ?_
        refine g_goto (tgt := 6) dL_isFull_72 (by decide) ?_
        refine g_loc ?_ (ih (i + 1) n0 (by omega) hn0)
        rw [lhR, if_neg h2]
        rfl
      · refine g_aload_n dL_isFull_29 rfl ?_
        refine g_bipush (v := nI 11) dL_isFull_30 (by decide) ?_
        refine g_iload dL_isFull_32 rfl ?_
        refine g_imul_n dL_isFull_34 ?_
        refine g_bipush (v := nI 9) dL_isFull_35 (by decide) ?_
        refine g_iadd_n dL_isFull_37 ?_
        refine g_lR dL_isFull_38 (by omega) ?_
        refine g_callSn_i (kL_ones (by omega)) oL_ones pL_ones lL_62 dL_isFull_39 rfl rfl (Nat.le_of_ble_eq_true rfl) (Nat.le_of_ble_eq_true rfl) (by first | decide | omega) (Nat.le_refl _) (Nat.le_refl _) (fun _ e => nf_e e) (fun M1 n1 hn1 e => ?_)
        subst e
        refine g_aload_n dL_isFull_42 rfl ?_
        refine g_bipush (v := nI 11) dL_isFull_43 (by decide) ?_
        refine g_iload dL_isFull_45 rfl ?_
        refine g_imul_n dL_isFull_47 ?_
        refine g_iconst (v := nI 3) dL_isFull_48 (by decide) ?_
        refine g_iadd_n dL_isFull_49 ?_
        refine g_lR dL_isFull_50 (by omega) ?_
        refine g_aload_n dL_isFull_51 rfl ?_
        refine g_bipush (v := nI 11) dL_isFull_52 (by decide) ?_
        refine g_iload dL_isFull_54 rfl ?_
        refine g_imul_n dL_isFull_56 ?_
        refine g_iconst (v := nI 2) dL_isFull_57 (by decide) ?_
        refine g_iadd_n dL_isFull_58 ?_
        refine g_lR dL_isFull_59 (by omega) ?_
        refine g_isub_n dL_isFull_60 (by omega) ?_
        refine g_imul_n dL_isFull_61 ?_
        refine g_goto (tgt := 66) dL_isFull_62 (by decide) ?_
        refine g_iadd_n dL_isFull_66 ?_
        refine g_istore dL_isFull_67 (by decide) ?_
        refine g_iinc_n (c := 1) dL_isFull_69 rfl (by decide) (by decide) ?_
        refine g_goto (tgt := 6) dL_isFull_72 (by decide) ?_
        refine g_loc ?_ (ih (i + 1) n1 (by omega) (by omega))
        rw [lhR, if_pos h2]
        rfl
theorem if2 (hB : lB N R D) (hC : ∀ i, i < N 12 → D (7 * i + 2) ≤ D (7 * i + 3)) {h s : Nat} (hh : h ≤ 2) (F : zP) (hF : ∀ n0, 236 ≤ n0 → G mL_isFull 9 0 0 (some n0) 133 [(0, .ref 8), (1, .ref 233), (2, .ref 234), (3, .ref 235), (4, .int (nI h)), (5, .int (nI (s + lhD D h (N 12))))] [] (cM (lM M0 N R D) Y) F) : ∀ u i n0, i + u = N 12 → 236 ≤ n0 → G mL_isFull 9 0 0 (some n0) 78 [(0, .ref 8), (1, .ref 233), (2, .ref 234), (3, .ref 235), (4, .int (nI h)), (5, .int (nI (s + lhD D h i))), (6, .int (nI i))] [] (cM (lM M0 N R D) Y) F := by
  obtain ⟨b0, b11, b12, -, -⟩ := id hB
  intro u
  induction u with
  | zero =>
    intro i n0 hi hn0
    refine g_iload dL_isFull_78 rfl ?_
    refine g_aload_n dL_isFull_80 rfl ?_
    refine g_bipush (v := nI 12) dL_isFull_81 (by decide) ?_
    refine g_lN dL_isFull_83 (by omega) ?_
    refine g_icmp_ge_n (tgt := 133) dL_isFull_84 (by decide) (by omega) (by omega) (fun h1 => ?_) (fun h1 => ?_)
    · rw [show i = N 12 by omega]
      exact g_loc (by rfl) (hF n0 hn0)
    · exact absurd h1 (by omega)
  | succ u ih =>
    intro i n0 hi hn0
    have hiN : i < N 12 := by omega
    have r0 : D (7 * i) < 1048576 := lB_D hB (i := i) (j := 0) hiN (by omega)
    have r2 := lB_D hB (i := i) (j := 2) hiN (by omega)
    have r3 := lB_D hB (i := i) (j := 3) hiN (by omega)
    have hle := hC i hiN
    refine g_iload dL_isFull_78 rfl ?_
    refine g_aload_n dL_isFull_80 rfl ?_
    refine g_bipush (v := nI 12) dL_isFull_81 (by decide) ?_
    refine g_lN dL_isFull_83 (by omega) ?_
    refine g_icmp_ge_n (tgt := 133) dL_isFull_84 (by decide) (by omega) (by omega) (fun h1 => ?_) (fun h1 => ?_)
    · exact absurd h1 (by omega)
    · refine g_iload dL_isFull_87 rfl ?_
      refine g_aload_n dL_isFull_89 rfl ?_
      refine g_bipush (v := nI 7) dL_isFull_90 (by decide) ?_
      refine g_iload dL_isFull_92 rfl ?_
      refine g_imul_n dL_isFull_94 ?_
      refine g_lD dL_isFull_95 (by omega) ?_
      refine g_iload dL_isFull_96 rfl ?_
      refine g_icmp_ne_n (tgt := 123) dL_isFull_98 (by decide) (by omega) (by omega) (fun h2 => ?_) (fun h2 => ?_)
      · refine g_iconst (v := nI 0) dL_isFull_123 (by decide) ?_
        refine g_iadd_n dL_isFull_124 ?_
        refine g_istore dL_isFull_125 (by decide) ?_
        refine g_iinc_n (c := 1) dL_isFull_127 rfl (by decide) (by decide) ?_
        refine g_goto (tgt := 78) dL_isFull_130 (by decide) ?_
        refine g_loc ?_ (ih (i + 1) n0 (by omega) hn0)
        rw [lhD, if_neg h2]
        rfl
      · refine g_aload_n dL_isFull_101 rfl ?_
        refine g_bipush (v := nI 7) dL_isFull_102 (by decide) ?_
        refine g_iload dL_isFull_104 rfl ?_
        refine g_imul_n dL_isFull_106 ?_
        refine g_iconst (v := nI 3) dL_isFull_107 (by decide) ?_
        refine g_iadd_n dL_isFull_108 ?_
        refine g_lD dL_isFull_109 (by omega) ?_
        refine g_aload_n dL_isFull_110 rfl ?_
        refine g_bipush (v := nI 7) dL_isFull_111 (by decide) ?_
        refine g_iload dL_isFull_113 rfl ?_
        refine g_imul_n dL_isFull_115 ?_
        refine g_iconst (v := nI 2) dL_isFull_116 (by decide) ?_
        refine g_iadd_n dL_isFull_117 ?_
        refine g_lD dL_isFull_118 (by omega) ?_
        refine g_isub_n dL_isFull_119 (by omega) ?_
        refine g_goto (tgt := 124) dL_isFull_120 (by decide) ?_
        refine g_iadd_n dL_isFull_124 ?_
        refine g_istore dL_isFull_125 (by decide) ?_
        refine g_iinc_n (c := 1) dL_isFull_127 rfl (by decide) (by decide) ?_
        refine g_goto (tgt := 78) dL_isFull_130 (by decide) ?_
        refine g_loc ?_ (ih (i + 1) n0 (by omega) hn0)
        rw [lhD, if_pos h2, ← Nat.add_assoc]
        rfl
theorem kL_isFull (hI : IV Y X) (hL : Lw X N R D) {h n0 : Nat} (hh : h ≤ 2) (hn0 : 236 ≤ n0) : Cn mL_isFull 9 0 0 (some n0) [.ref 8, .ref 233, .ref 234, .ref 235, .int (nI h)] (cM (lM M0 N R D) Y) (zqI (nI 1) (fun M' => M' = cM (lM M0 N R D) Y)) := by
  have hX := IV_X hI
  have hB := Lw_B hL hX
  have hc := a_full (M0 := lM M0 N R D) hI hh
  rw [Lw_hi hI hL h] at hc
  refine g_iconst (v := nI 0) dL_isFull_0 (by decide) ?_
  refine g_istore dL_isFull_1 (by decide) ?_
  refine g_iconst (v := nI 0) dL_isFull_3 (by decide) ?_
  refine g_istore dL_isFull_4 (by decide) ?_
  refine g_loc (by rfl) (if1 hB (fun i hi => ?_) hh _ (fun n1 hn1 => ?_) (N 11) 0 n0 (by omega) hn0)
  · rw [hL.2.1.1] at hi
    have := okT_R hX hi
    rw [Lw_r hL hi (by omega), Lw_r hL hi (by omega)]
    exact Nat.le_of_lt this.2.1
  · refine g_iconst (v := nI 0) dL_isFull_75 (by decide) ?_
    refine g_istore dL_isFull_76 (by decide) ?_
    refine g_loc (by rfl) (if2 hB (fun i hi => ?_) (s := lhR R h (N 11)) hh _ (fun n2 hn2 => ?_) (N 12) 0 n1 (by omega) hn1)
    · rw [hL.2.1.2] at hi
      have := okT_D hX hi
      rw [Lw_d hL hi (by omega), Lw_d hL hi (by omega)]
      exact Nat.le_of_lt this.2.1
    · refine g_aload_n dL_isFull_133 rfl ?_
      refine g_iload dL_isFull_134 rfl ?_
      refine g_callVn_d (hc) oX5_fullness pX5_fullness lL_104 dL_isFull_136 rfl (cM_H rfl) rfl rfl rfl (Nat.le_of_ble_eq_true rfl) (Nat.le_of_ble_eq_true rfl) (by first | decide | omega) (fun _ e => nf_e e) (fun M1 n3 hn3 e => ?_)
      subst e
      have hnn := z2016 (nI (lhR R h (N 11) + lhD D h (N 12)))
      refine g_iload dL_isFull_139 rfl ?_
      refine g_i2d dL_isFull_141 ?_
      refine g_ldcd dL_isFull_142 q517 ?_
      refine g_ddiv dL_isFull_145 (vf_of64 hnn) ?_
      refine g_dcmp dL_isFull_146 ?_
      rw [dself hnn]
      refine g_if_ne (tgt := 154) dL_isFull_147 (by decide) (fun h => absurd rfl h) (fun _ => ?_)
      refine g_iconst (v := nI 1) dL_isFull_150 (by decide) ?_
      refine g_goto (tgt := 155) dL_isFull_151 (by decide) ?_
      exact g_ireturn_b (b := true) dL_isFull_155 rfl ⟨rfl, rfl⟩
end LO
