/-! the law's cancels -/
section NO
variable {X N R D : Nat → Nat}
theorem Lw_rmR (h : Lw X N R D) {i : Nat} (hi : i < X 11) : Lw (cxX X true i) (uN (uN N 9 (N 9 + cxB X true i)) 11 (N 11 - 1)) (gosR R i (11 * (N 11 - 1))) D := by
  obtain ⟨h1, ⟨h2, h3⟩, ⟨h4, h5⟩, h6, h7⟩ := id h
  obtain ⟨c1, c2, c3⟩ := rmR_at X (i := i) (by omega)
  have e : cxX X true i = uN (rmR X i) 9 (rmR X i 9 + cxB X true i) := rfl
  have x11 : cxX X true i 11 = X 11 - 1 := by rw [e, uN_n _ _ (by omega), c1]
  have x92 : cxX X true i 92 = X 92 := by rw [e, uN_n _ _ (by omega), c2 92 (by omega)]
  refine ⟨fun j hj => ?_, ⟨?_, ?_⟩, ⟨by rw [x11]; omega, by rw [x92]; exact h5⟩, fun m hm => ?_, fun m hm j hj => ?_⟩
  · rw [uN_n _ _ (by omega), e]
    by_cases j9 : j = 9
    · subst j9
      rw [uN_s, uN_s, c2 9 (by omega), h1 9 (by omega)]
    · rw [uN_n _ _ j9, uN_n _ _ j9, c2 j (by omega), h1 j hj]
  · rw [uN_s, x11, h2]
  · rw [uN_n _ _ (by omega), uN_n _ _ (by omega), x92, h3]
  · rw [x11] at hm
    have hm' : (if m < i then m else m + 1) < X 11 := by split <;> omega
    refine RgR_c (h6 _ hm') (fun j hj => ?_) (fun j hj => ?_)
    · rw [h2]
      exact gosR_at (by omega) (by omega)
    · show cxX X true i (12 + 10 * m + j) = _
      rw [e, uN_n _ _ (by omega), c3 m (by omega) j hj]
      rfl
  · rw [x92] at hm
    rw [e, uN_n _ _ (by omega), c2 _ (by omega)]
    exact h7 m hm j hj
theorem bal_rmR (h : Lw X N R D) (hb : bal X) {i : Nat} (hi : i < X 11) : bal (cxX X true i) := by
  have hb1 := (Lw_bal h).mp hb
  have h' := Lw_rmR h hi
  have hc : cxB X true i = bsum (R (11 * i + 9)) 12 * R (11 * i + 6) := by
    show dcnt X i 84 * X (12 + 10 * i + 6) = _
    rw [Lw_dc h hi, Lw_r h hi (j := 6) (by omega)]
  refine (Lw_bal h').mpr ?_
  have s := SR_rm (R := R) (i := i) (n := N 11) (by rw [h.2.1.1]; exact hi)
  rw [uN_n _ _ (show 8 ≠ 11 by decide), uN_n _ _ (show 8 ≠ 9 by decide), uN_n _ _ (show 9 ≠ 11 by decide), uN_s, uN_s, uN_n _ _ (show 12 ≠ 11 by decide), uN_n _ _ (show 12 ≠ 9 by decide), hc]
  omega
theorem Lw_rmS (h : Lw X N R D) {i : Nat} (hi : i < X 92) : Lw (cxX X false i) (uN (uN N 9 (N 9 + cxB X false i)) 12 (N 12 - 1)) R (gosD D i (7 * (N 12 - 1))) := by
  obtain ⟨h1, ⟨h2, h3⟩, ⟨h4, h5⟩, h6, h7⟩ := id h
  obtain ⟨c1, c2, c3⟩ := rmS_at X (i := i)
  have e : cxX X false i = uN (rmS X i) 9 (rmS X i 9 + cxB X false i) := rfl
  have x11 : cxX X false i 11 = X 11 := by rw [e, uN_n _ _ (by omega), c2 11 (by omega)]
  have x92 : cxX X false i 92 = X 92 - 1 := by rw [e, uN_n _ _ (by omega), c1]
  refine ⟨fun j hj => ?_, ⟨?_, ?_⟩, ⟨by rw [x11]; exact h4, by rw [x92]; omega⟩, fun m hm => ?_, fun m hm j hj => ?_⟩
  · rw [uN_n _ _ (by omega), e]
    by_cases j9 : j = 9
    · subst j9
      rw [uN_s, uN_s, c2 9 (by omega), h1 9 (by omega)]
    · rw [uN_n _ _ j9, uN_n _ _ j9, c2 j (by omega), h1 j hj]
  · rw [uN_n _ _ (by omega), uN_n _ _ (by omega), x11, h2]
  · rw [uN_s, x92, h3]
  · rw [x11] at hm
    refine RgR_c (h6 m hm) (fun _ _ => rfl) (fun j hj => ?_)
    show cxX X false i (12 + 10 * m + j) = _
    rw [e, uN_n _ _ (by omega), c2 _ (by omega)]
    rfl
  · rw [x92] at hm
    have hm' : (if m < i then m else m + 1) < X 92 := by split <;> omega
    rw [e, uN_n _ _ (by omega), c3 m (by omega) j hj, h3, gosD_at hj (by omega)]
    exact h7 _ hm' j hj
theorem bal_rmS (h : Lw X N R D) (hb : bal X) {i : Nat} (hi : i < X 92) : bal (cxX X false i) := by
  have hb1 := (Lw_bal h).mp hb
  have h' := Lw_rmS h hi
  have hc : cxB X false i = D (7 * i + 6) := by
    show X (93 + 7 * i + 6) = _
    rw [Lw_d h hi (by omega)]
  refine (Lw_bal h').mpr ?_
  have s := SD_rm (D := D) (i := i) (n := N 12) (by rw [h.2.1.2]; exact hi)
  rw [uN_n _ _ (show 8 ≠ 12 by decide), uN_n _ _ (show 8 ≠ 9 by decide), uN_n _ _ (show 9 ≠ 12 by decide), uN_s, uN_s, uN_n _ _ (show 11 ≠ 12 by decide), uN_n _ _ (show 11 ≠ 9 by decide), hc]
  omega
variable {M0 : zM} {Y : Nat → Nat → Nat}
theorem cn1 (h11 : N 11 ≤ 3) {i n0 : Nat} (hi : i ≤ N 11) {v5 : Int32} {al bk : Nat} (F : zP) (hF : G mL_cancels 9 0 0 (some n0) 146 [(0, .ref 8), (1, .ref 233), (2, .ref 234), (3, .ref 235), (4, .int (nI 1)), (7, .int (nI i)), (8, .int (nI bk))] [] (cM (lM M0 N (gosR R i (11 * N 11)) D) Y) F) : ∀ u k, k + u = 11 * N 11 → 11 * i ≤ k → G mL_cancels 9 0 0 (some n0) 107 [(0, .ref 8), (1, .ref 233), (2, .ref 234), (3, .ref 235), (4, .int (nI 1)), (7, .int (nI i)), (8, .int (nI bk)), (9, .int (nI k))] [] (cM (lM M0 N (gosR R i k) D) Y) F := by
  intro u
  induction u with
  | zero =>
    intro k hk hik
    refine g_iload dL_cancels_107 rfl ?_
    refine g_bipush (v := nI 11) dL_cancels_109 (by decide) ?_
    refine g_aload_n dL_cancels_111 rfl ?_
    refine g_bipush (v := nI 11) dL_cancels_112 (by decide) ?_
    refine g_lN dL_cancels_114 (by omega) ?_
    refine g_imul_n dL_cancels_115 ?_
    refine g_icmp_ge_n (tgt := 136) dL_cancels_116 (by decide) (by omega) (by omega) (fun h => ?_) (fun h => ?_)
    · refine g_goto (tgt := 146) dL_cancels_136 (by decide) ?_
      rw [show k = 11 * N 11 by omega]
      exact g_loc (by rfl) hF
    · exact absurd h (by omega)
  | succ u ih =>
    intro k hk hik
    refine g_iload dL_cancels_107 rfl ?_
    refine g_bipush (v := nI 11) dL_cancels_109 (by decide) ?_
    refine g_aload_n dL_cancels_111 rfl ?_
    refine g_bipush (v := nI 11) dL_cancels_112 (by decide) ?_
    refine g_lN dL_cancels_114 (by omega) ?_
    refine g_imul_n dL_cancels_115 ?_
    refine g_icmp_ge_n (tgt := 136) dL_cancels_116 (by decide) (by omega) (by omega) (fun h => ?_) (fun h => ?_)
    · exact absurd h (by omega)
    · refine g_aload_n dL_cancels_119 rfl ?_
      refine g_iload dL_cancels_120 rfl ?_
      refine g_aload_n dL_cancels_122 rfl ?_
      refine g_iload dL_cancels_123 rfl ?_
      refine g_bipush (v := nI 11) dL_cancels_125 (by decide) ?_
      refine g_iadd_n dL_cancels_127 ?_
      refine g_lR dL_cancels_128 (by omega) ?_
      refine g_sR dL_cancels_129 (by omega) ?_
      refine g_iinc_n (c := 1) dL_cancels_130 rfl (by decide) (by decide) ?_
      refine g_goto (tgt := 107) dL_cancels_133 (by decide) ?_
      refine g_m ?_ (g_loc (by rfl) (ih (k + 1) (by omega) (by omega)))
      congr 2
      funext j
      by_cases hj : j = k
      · subst hj
        rw [uN_s]
        unfold gosR
        rw [if_neg (show ¬ (11 * i ≤ j + 11 ∧ j + 11 < j) by omega), if_pos (show 11 * i ≤ j ∧ j < j + 1 by omega)]
      · rw [uN_n _ _ hj]
        unfold gosR
        by_cases hj2 : 11 * i ≤ j ∧ j < k
        · rw [if_pos hj2, if_pos (by omega)]
        · rw [if_neg hj2, if_neg (by omega)]
theorem kL_cancels (hJ : J Y X N R D) (b : Bool) (x : Int32) {n0 : Nat} (hn0 : 236 ≤ n0) : Cn mL_cancels 9 0 0 (some n0) [.ref 8, .ref 233, .ref 234, .ref 235, .int (nI b.toNat), .int x] (cM (lM M0 N R D) Y) (zqI (nI 1) (PJ M0)) := by
  have hJ' := hJ
  obtain ⟨hI, hL, hb⟩ := hJ'
  have hX := IV_X hI
  have hB := Lw_B hL hX
  obtain ⟨b0, b11, b12, -, -⟩ := id hB
  cases b
  · refine g_iload dL_cancels_0 rfl ?_
    refine g_if_eq_b (tgt := 12) dL_cancels_2 (by decide) (fun g => ?_) (fun g => ?_)
    · refine g_aload_n dL_cancels_12 rfl ?_
      refine g_bipush (v := nI 12) dL_cancels_13 (by decide) ?_
      refine g_lN dL_cancels_15 (by omega) ?_
      refine g_istore dL_cancels_16 (by decide) ?_
      refine g_iload dL_cancels_18 rfl ?_
      refine g_if_ne_n (tgt := 25) dL_cancels_20 (by decide) (by omega) (fun h => ?_) (fun h => ?_)
      · refine g_iload dL_cancels_25 rfl ?_
        refine g_iload dL_cancels_27 rfl ?_
        refine g_callSn_i (kL_low (n := N 12) (by omega) (by omega)) oL_low pL_low lL_58 dL_cancels_29 rfl rfl (Nat.le_of_ble_eq_true rfl) (Nat.le_of_ble_eq_true rfl) (by first | decide | omega) (Nat.le_refl _) (Nat.le_refl _) (fun _ e => nf_e e) (fun M1 n1 hn1 e => ?_)
        subst e
        have hi : lo x (N 12) < N 12 := lo_lt x (by omega)
        generalize lo x (N 12) = i at hi ⊢
        have hiX : i < X 92 := by rw [← hL.2.1.2]; exact hi
        have hcb : D (7 * i + 6) = cxB X false i := Lw_d hL hiX (by omega)
        refine g_istore dL_cancels_32 (by decide) ?_
        refine g_iload dL_cancels_34 rfl ?_
        refine g_if_eq_b (tgt := 66) dL_cancels_36 (by decide) (fun g2 => ?_) (fun g2 => ?_)
        · refine g_aload_n dL_cancels_66 rfl ?_
          refine g_bipush (v := nI 7) dL_cancels_67 (by decide) ?_
          refine g_iload dL_cancels_69 rfl ?_
          refine g_imul_n dL_cancels_71 ?_
          refine g_bipush (v := nI 6) dL_cancels_72 (by decide) ?_
          refine g_iadd_n dL_cancels_74 ?_
          refine g_lD dL_cancels_75 (by omega) ?_
          refine g_istore dL_cancels_76 (by decide) ?_
          refine g_aload_n dL_cancels_78 rfl ?_
          refine g_bipush (v := nI 9) dL_cancels_79 (by decide) ?_
          refine g_dup2 dL_cancels_81 rfl rfl ?_
          refine g_lN dL_cancels_82 (by omega) ?_
          rw [hcb]
          refine g_iload dL_cancels_83 rfl ?_
          refine g_iadd_n dL_cancels_85 ?_
          refine g_sN dL_cancels_86 (by omega) ?_
          refine g_iload dL_cancels_87 rfl ?_
          refine g_if_eq_b (tgt := 139) dL_cancels_89 (by decide) (fun g3 => ?_) (fun g3 => ?_)
          · refine g_aload_n dL_cancels_139 rfl ?_
            refine g_aload_n dL_cancels_140 rfl ?_
            refine g_iload dL_cancels_141 rfl ?_
            have e12 : uN N 9 (N 9 + cxB X false i) 12 = N 12 := uN_n _ _ (by omega)
            refine g_callSn_v (kL_goes (i := i) (by rw [e12]; omega) (by rw [e12]; exact hi)) oL_goes pL_goes lL_26 dL_cancels_143 rfl rfl (Nat.le_of_ble_eq_true rfl) (Nat.le_of_ble_eq_true rfl) (by first | decide | omega) (Nat.le_refl _) (Nat.le_refl _) (fun _ e => e ▸ nf_l (by omega)) (fun M1 n2 hn2 e => ?_)
            subst e
            rw [e12]
            refine g_aload_n dL_cancels_146 rfl ?_
            refine g_iload dL_cancels_147 rfl ?_
            refine g_iload dL_cancels_149 rfl ?_
            refine g_callVn_i (a_cancel (M0 := lM M0 (uN (uN N 9 (N 9 + cxB X false i)) 12 (N 12 - 1)) R (gosD D i (7 * (N 12 - 1)))) hI false (i := i) hiX) oX5_cancel pX5_cancel lL_65 dL_cancels_151 rfl (cM_H rfl) rfl rfl rfl (Nat.le_of_ble_eq_true rfl) (Nat.le_of_ble_eq_true rfl) (by first | decide | omega) (fun _ h => by obtain ⟨Y', e, -⟩ := h; exact e ▸ nf_l (by omega)) (fun M1 n3 hn3 e => ?_)
            obtain ⟨Y3, e, hI3⟩ := e
            subst e
            refine g_iload dL_cancels_154 rfl ?_
            refine g_icmp_ne (tgt := 163) dL_cancels_156 (by decide) (fun h => absurd rfl h) (fun _ => ?_)
            refine g_iconst (v := nI 1) dL_cancels_159 (by decide) ?_
            refine g_goto (tgt := 164) dL_cancels_160 (by decide) ?_
            exact g_ireturn_b (b := true) dL_cancels_164 rfl ⟨rfl, _, _, _, _, Y3, rfl, hI3, Lw_rmS hL hiX, bal_rmS hL hb hiX⟩
          · cases g3
        · cases g2
      · refine g_iconst (v := nI 1) dL_cancels_23 (by decide) ?_
        exact g_ireturn_b (b := true) dL_cancels_24 rfl ⟨rfl, X, N, R, D, Y, rfl, hJ⟩
    · cases g
  · refine g_iload dL_cancels_0 rfl ?_
    refine g_if_eq_b (tgt := 12) dL_cancels_2 (by decide) (fun g => ?_) (fun g => ?_)
    · cases g
    · refine g_aload_n dL_cancels_5 rfl ?_
      refine g_bipush (v := nI 11) dL_cancels_6 (by decide) ?_
      refine g_lN dL_cancels_8 (by omega) ?_
      refine g_goto (tgt := 16) dL_cancels_9 (by decide) ?_
      refine g_istore dL_cancels_16 (by decide) ?_
      refine g_iload dL_cancels_18 rfl ?_
      refine g_if_ne_n (tgt := 25) dL_cancels_20 (by decide) (by omega) (fun h => ?_) (fun h => ?_)
      · refine g_iload dL_cancels_25 rfl ?_
        refine g_iload dL_cancels_27 rfl ?_
        refine g_callSn_i (kL_low (n := N 11) (by omega) (by omega)) oL_low pL_low lL_58 dL_cancels_29 rfl rfl (Nat.le_of_ble_eq_true rfl) (Nat.le_of_ble_eq_true rfl) (by first | decide | omega) (Nat.le_refl _) (Nat.le_refl _) (fun _ e => nf_e e) (fun M1 n1 hn1 e => ?_)
        subst e
        have hi : lo x (N 11) < N 11 := lo_lt x (by omega)
        generalize lo x (N 11) = i at hi ⊢
        have hiX : i < X 11 := by rw [← hL.2.1.1]; exact hi
        have r9 := lB_R hB (i := i) (j := 9) hi (by omega)
        have hcb : bsum (R (11 * i + 9)) 12 * R (11 * i + 6) = cxB X true i := by
          show _ = dcnt X i 84 * X (12 + 10 * i + 6)
          rw [Lw_dc hL hiX, Lw_r hL hiX (j := 6) (by omega)]
        refine g_istore dL_cancels_32 (by decide) ?_
        refine g_iload dL_cancels_34 rfl ?_
        refine g_if_eq_b (tgt := 66) dL_cancels_36 (by decide) (fun g2 => ?_) (fun g2 => ?_)
        · cases g2
        · refine g_aload_n dL_cancels_39 rfl ?_
          refine g_bipush (v := nI 11) dL_cancels_40 (by decide) ?_
          refine g_iload dL_cancels_42 rfl ?_
          refine g_imul_n dL_cancels_44 ?_
          refine g_bipush (v := nI 9) dL_cancels_45 (by decide) ?_
          refine g_iadd_n dL_cancels_47 ?_
          refine g_lR dL_cancels_48 (by omega) ?_
          refine g_callSn_i (kL_ones (by omega)) oL_ones pL_ones lL_62 dL_cancels_49 rfl rfl (Nat.le_of_ble_eq_true rfl) (Nat.le_of_ble_eq_true rfl) (by first | decide | omega) (Nat.le_refl _) (Nat.le_refl _) (fun _ e => nf_e e) (fun M1 n2 hn2 e => ?_)
          subst e
          refine g_aload_n dL_cancels_52 rfl ?_
          refine g_bipush (v := nI 11) dL_cancels_53 (by decide) ?_
          refine g_iload dL_cancels_55 rfl ?_
          refine g_imul_n dL_cancels_57 ?_
          refine g_bipush (v := nI 6) dL_cancels_58 (by decide) ?_
          refine g_iadd_n dL_cancels_60 ?_
          refine g_lR dL_cancels_61 (by omega) ?_
          refine g_imul_n dL_cancels_62 ?_
          rw [hcb]
          refine g_goto (tgt := 76) dL_cancels_63 (by decide) ?_
          refine g_istore dL_cancels_76 (by decide) ?_
          refine g_aload_n dL_cancels_78 rfl ?_
          refine g_bipush (v := nI 9) dL_cancels_79 (by decide) ?_
          refine g_dup2 dL_cancels_81 rfl rfl ?_
          refine g_lN dL_cancels_82 (by omega) ?_
          refine g_iload dL_cancels_83 rfl ?_
          refine g_iadd_n dL_cancels_85 ?_
          refine g_sN dL_cancels_86 (by omega) ?_
          refine g_iload dL_cancels_87 rfl ?_
          refine g_if_eq_b (tgt := 139) dL_cancels_89 (by decide) (fun g3 => ?_) (fun g3 => ?_)
          · cases g3
          · have e11 : uN N 9 (N 9 + cxB X true i) 11 = N 11 := uN_n _ _ (by omega)
            refine g_aload_n dL_cancels_92 rfl ?_
            refine g_bipush (v := nI 11) dL_cancels_93 (by decide) ?_
            refine g_dup2 dL_cancels_95 rfl rfl ?_
            refine g_lN dL_cancels_96 (by omega) ?_
            rw [e11]
            refine g_iconst (v := nI 1) dL_cancels_97 (by decide) ?_
            refine g_isub_n dL_cancels_98 (by omega) ?_
            refine g_sN dL_cancels_99 (by omega) ?_
            refine g_bipush (v := nI 11) dL_cancels_100 (by decide) ?_
            refine g_iload dL_cancels_102 rfl ?_
            refine g_imul_n dL_cancels_104 ?_
            refine g_istore dL_cancels_105 (by decide) ?_
            have m11 : uN (uN N 9 (N 9 + cxB X true i)) 11 (N 11 - 1) 11 = N 11 - 1 := uN_s _ _ _
            refine g_m (M' := cM (lM M0 (uN (uN N 9 (N 9 + cxB X true i)) 11 (N 11 - 1)) (gosR R i (11 * i)) D) Y) ?_ (g_loc (by rfl) (cn1 (v5 := x) (al := N 11) (by rw [m11]; omega) (by rw [m11]; omega) _ ?_ (11 * (N 11 - 1) - 11 * i) (11 * i) (by rw [m11]; omega) (Nat.le_refl _)))
            · congr 2
              funext j
              unfold gosR
              rw [if_neg (by omega)]
            · rw [m11]
              refine g_aload_n dL_cancels_146 rfl ?_
              refine g_iload dL_cancels_147 rfl ?_
              refine g_iload dL_cancels_149 rfl ?_
              refine g_callVn_i (a_cancel (M0 := lM M0 (uN (uN N 9 (N 9 + cxB X true i)) 11 (N 11 - 1)) (gosR R i (11 * (N 11 - 1))) D) hI true (i := i) hiX) oX5_cancel pX5_cancel lL_65 dL_cancels_151 rfl (cM_H rfl) rfl rfl rfl (Nat.le_of_ble_eq_true rfl) (Nat.le_of_ble_eq_true rfl) (by first | decide | omega) (fun _ h => by obtain ⟨Y', e, -⟩ := h; exact e ▸ nf_l (by omega)) (fun M1 n3 hn3 e => ?_)
              obtain ⟨Y3, e, hI3⟩ := e
              subst e
              refine g_iload dL_cancels_154 rfl ?_
              refine g_icmp_ne (tgt := 163) dL_cancels_156 (by decide) (fun h => absurd rfl h) (fun _ => ?_)
              refine g_iconst (v := nI 1) dL_cancels_159 (by decide) ?_
              refine g_goto (tgt := 164) dL_cancels_160 (by decide) ?_
              exact g_ireturn_b (b := true) dL_cancels_164 rfl ⟨rfl, _, _, _, _, Y3, rfl, hI3, Lw_rmR hL hiX, bal_rmR hL hb hiX⟩
      · refine g_iconst (v := nI 1) dL_cancels_23 (by decide) ?_
        exact g_ireturn_b (b := true) dL_cancels_24 rfl ⟨rfl, X, N, R, D, Y, rfl, hJ⟩
end NO
