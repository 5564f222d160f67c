/-! the law's singles -/
def J (Y : Nat → Nat → Nat) (X N R D : Nat → Nat) : Prop := IV Y X ∧ Lw X N R D ∧ bal X
def PJ (M0 : zM) (M' : zM) : Prop := ∃ X N R D Y, M' = cM (lM M0 N R D) Y ∧ J Y X N R D
theorem nf_J {M0 : zM} {N R D : Nat → Nat} {Y : Nat → Nat → Nat} {n : Nat} (hn : 236 ≤ n) {M1 : zM} (h : PJ M0 M1) : nf n (cM (lM M0 N R D) Y) M1 := by
  obtain ⟨X, N', R', D', Y', rfl, -⟩ := h
  exact nf_l hn
section LSG
variable {M0 : zM} {X N R D : Nat → Nat} {Y : Nat → Nat → Nat}
theorem kL_singles (hJ : J Y X N R D) {h day f t rk te n0 : Nat} (hh : h ≤ 2) (hd : day < 84) (hft : f < t) (ht : t ≤ 24) (hr : 1 ≤ rk) (hr2 : rk ≤ 9) (hte : te ≤ 19) (hn0 : 236 ≤ n0) : Cn mL_singles 9 1 24 (some n0) [.ref 8, .ref 233, .ref 234, .ref 235, .int (nI h), .int (nI day), .int (nI f), .int (nI t), .int (nI rk), .int (nI te)] (cM (lM M0 N R D) Y) (zqI (nI 1) (PJ M0)) := by
  obtain ⟨hI, hL, hb⟩ := hJ
  have hX := IV_X hI
  have hB := Lw_B hL hX
  have hC := Lw_C hL hX
  have hw : okE (h, f, t) := ⟨hh, by show f ≤ 24; omega, ht⟩
  obtain ⟨b0, b11, b12, -, -⟩ := id hB
  have hle : rsn X h day f t rk ≤ 3 := rsnR_le X h f t rk (lk X day) []
  have hrf := a_ref (M0 := lM M0 N R D) hI hL.2.2.1.2 hh hd hft ht hr hr2
  refine g_aload_n dL_singles_0 rfl ?_
  refine g_aload_n dL_singles_1 rfl ?_
  refine g_aload_n dL_singles_2 rfl ?_
  refine g_iload dL_singles_3 rfl ?_
  refine g_iload dL_singles_5 rfl ?_
  refine g_iload dL_singles_7 rfl ?_
  refine g_iload dL_singles_9 rfl ?_
  refine g_iload dL_singles_11 rfl ?_
  refine g_callSn_i (kc1 := 0) (ks1 := 0) (kL_reason (rk := rk) hB hC hw hd (by omega) hn0) oL_reason pL_reason lL_30 dL_singles_13 rfl rfl (Nat.le_of_ble_eq_true rfl) (Nat.le_of_ble_eq_true rfl) (by first | decide | omega) (by omega) (by omega) (fun _ e => nf_e e) (fun M1 n1 hn1 e => ?_)
  subst e
  rw [Lw_rs hL hX hh hd hft ht]
  have jref : ∀ n2, 236 ≤ n2 → G mL_singles 9 0 0 (some n2) 32 [(0, .ref 8), (1, .ref 233), (2, .ref 234), (3, .ref 235), (4, .int (nI h)), (5, .int (nI day)), (6, .int (nI f)), (7, .int (nI t)), (8, .int (nI rk)), (10, .int (nI (rsn X h day f t rk)))] [] (cM (lM M0 N R D) Y) (zqI (nI 1) (PJ M0)) := fun n2 hn2 => by
    refine g_aload_n dL_singles_32 rfl ?_
    refine g_iload dL_singles_33 rfl ?_
    refine g_iload dL_singles_35 rfl ?_
    refine g_iload dL_singles_37 rfl ?_
    refine g_iload dL_singles_39 rfl ?_
    refine g_iload dL_singles_41 rfl ?_
    refine g_callVn_i (hrf) oX5_refusal pX5_refusal lL_34 dL_singles_43 rfl (cM_H rfl) rfl rfl rfl (Nat.le_of_ble_eq_true rfl) (Nat.le_of_ble_eq_true rfl) (by first | decide | omega) (fun _ h => by obtain ⟨Y', e, -⟩ := h; exact e ▸ nf_l hn2) (fun M1 n3 hn3 e => ?_)
    obtain ⟨Y', e, hI'⟩ := e
    subst e
    refine g_iload dL_singles_46 rfl ?_
    refine g_icmp_ne (tgt := 55) dL_singles_48 (by decide) (fun h => absurd rfl h) (fun _ => ?_)
    refine g_iconst (v := nI 1) dL_singles_51 (by decide) ?_
    refine g_goto (tgt := 56) dL_singles_52 (by decide) ?_
    exact g_ireturn_b (b := true) dL_singles_56 rfl ⟨rfl, X, N, R, D, Y', rfl, hI', hL, hb⟩
  refine g_istore dL_singles_16 (by decide) ?_
  refine g_iload dL_singles_18 rfl ?_
  refine g_if_gt_n (tgt := 32) dL_singles_20 (by decide) (by omega) (fun h1 => ?_) (fun h1 => ?_)
  · exact g_loc (by rfl) (jref n1 (by omega))
  · have hz : rsn X h day f t rk = 0 := by omega
    refine g_aload_n dL_singles_23 rfl ?_
    refine g_bipush (v := nI 12) dL_singles_24 (by decide) ?_
    refine g_lN dL_singles_26 (by omega) ?_
    refine g_bipush (v := nI 8) dL_singles_27 (by decide) ?_
    refine g_icmp_ne_n (tgt := 57) dL_singles_29 (by decide) (by omega) (by omega) (fun h2 => ?_) (fun h2 => ?_)
    · refine g_aload_n dL_singles_57 rfl ?_
      refine g_aload_n dL_singles_58 rfl ?_
      refine g_aload_n dL_singles_59 rfl ?_
      refine g_iload dL_singles_60 rfl ?_
      refine g_iload dL_singles_62 rfl ?_
      refine g_iload dL_singles_64 rfl ?_
      refine g_iload dL_singles_66 rfl ?_
      refine g_callSn_i (kL_givesWay hB (h := h) (day := day) (f := f) (t := t) (by omega) hd (by omega) (by omega) (show 236 ≤ n1 by omega)) oL_givesWay pL_givesWay lL_40 dL_singles_68 rfl rfl (Nat.le_of_ble_eq_true rfl) (Nat.le_of_ble_eq_true rfl) (by first | decide | omega) (Nat.le_refl _) (Nat.le_refl _) (fun _ h => by obtain ⟨D', -, e⟩ := h; exact e ▸ nf_l (by omega)) (fun M1 n2 hn2 e => ?_)
      obtain ⟨Da, hP, e⟩ := e
      subst e
      obtain ⟨hL1, hcnt⟩ := Lw_gw hL hX hd hft hP
      have hb1 := gw_bal hL hX hb hd hft hP
      have hk12 : (nN N (N 9 + gR (lgR N R h day f t) (rw R) (N 11) + gR (lgD N D h day f t) (dw D) (N 12)) (N 10 + (gN (lgR N R h day f t) (N 11) + gN (lgD N D h day f t) (N 12))) (kpL (lgD N D h day f t) (N 12)).length) 12 ≤ N 12 := kpL_len _ _
      generalize (nN N (N 9 + gR (lgR N R h day f t) (rw R) (N 11) + gR (lgD N D h day f t) (dw D) (N 12)) (N 10 + (gN (lgR N R h day f t) (N 11) + gN (lgD N D h day f t) (N 12))) (kpL (lgD N D h day f t) (N 12)).length) = N1 at hL1 hk12 ⊢
      generalize gwRf R (lgR N R h day f t) (2 ^ (day / 7)) (N 11) = R1 at hL1 ⊢
      rw [hcnt]
      have hrow := mkS_rows (r := rk) (te := te) (f := f) (t := t) hX.1 hd hh
      obtain ⟨-, hlow, -⟩ := gw_ok (h := h) (f := f) (t := t) hX.1 hd
      have e5 : N1 (5 + h) = X (5 + h) := by rw [hL1.1 _ (by omega), hlow _ (by omega)]
      have e2 : N1 2 = X 2 := by rw [hL1.1 _ (by omega), hlow _ (by omega)]
      have hrt := wf1_rate hX.2.1 hh
      have hx2 : X 2 ≤ 100 := hX.2.1.2.2.1
      refine g_istore dL_singles_71 (by decide) ?_
      refine g_bipush (v := nI 7) dL_singles_73 (by decide) ?_
      refine g_aload_n dL_singles_75 rfl ?_
      refine g_bipush (v := nI 12) dL_singles_76 (by decide) ?_
      refine g_lN dL_singles_78 (by omega) ?_
      refine g_imul_n dL_singles_79 ?_
      refine g_istore dL_singles_80 (by decide) ?_
      refine g_aload_n dL_singles_82 rfl ?_
      refine g_iload dL_singles_83 rfl ?_
      refine g_iload dL_singles_85 rfl ?_
      refine g_sD dL_singles_87 (by omega) ?_
      refine g_aload_n dL_singles_88 rfl ?_
      refine g_iload dL_singles_89 rfl ?_
      refine g_iconst (v := nI 1) dL_singles_91 (by decide) ?_
      refine g_iadd_n dL_singles_92 ?_
      refine g_iload dL_singles_93 rfl ?_
      refine g_sD dL_singles_95 (by omega) ?_
      refine g_aload_n dL_singles_96 rfl ?_
      refine g_iload dL_singles_97 rfl ?_
      refine g_iconst (v := nI 2) dL_singles_99 (by decide) ?_
      refine g_iadd_n dL_singles_100 ?_
      refine g_iload dL_singles_101 rfl ?_
      refine g_sD dL_singles_103 (by omega) ?_
      refine g_aload_n dL_singles_104 rfl ?_
      refine g_iload dL_singles_105 rfl ?_
      refine g_iconst (v := nI 3) dL_singles_107 (by decide) ?_
      refine g_iadd_n dL_singles_108 ?_
      refine g_iload dL_singles_109 rfl ?_
      refine g_sD dL_singles_111 (by omega) ?_
      refine g_aload_n dL_singles_112 rfl ?_
      refine g_iload dL_singles_113 rfl ?_
      refine g_iconst (v := nI 4) dL_singles_115 (by decide) ?_
      refine g_iadd_n dL_singles_116 ?_
      refine g_iload dL_singles_117 rfl ?_
      refine g_sD dL_singles_119 (by omega) ?_
      refine g_aload_n dL_singles_120 rfl ?_
      refine g_iload dL_singles_121 rfl ?_
      refine g_iconst (v := nI 5) dL_singles_123 (by decide) ?_
      refine g_iadd_n dL_singles_124 ?_
      refine g_iload dL_singles_125 rfl ?_
      refine g_sD dL_singles_127 (by omega) ?_
      refine g_aload_n dL_singles_128 rfl ?_
      refine g_iload dL_singles_129 rfl ?_
      refine g_bipush (v := nI 6) dL_singles_131 (by decide) ?_
      refine g_iadd_n dL_singles_133 ?_
      refine g_aload_n dL_singles_134 rfl ?_
      refine g_iload dL_singles_135 rfl ?_
      refine g_iload dL_singles_137 rfl ?_
      refine g_bipush (v := nI 7) dL_singles_139 (by decide) ?_
      refine g_irem_n dL_singles_141 (by omega) (by omega) (by omega) ?_
      refine g_iload dL_singles_142 rfl ?_
      refine g_iload dL_singles_144 rfl ?_
      refine g_isub_n dL_singles_146 (by omega) ?_
      refine g_bipush (v := nI 100) dL_singles_147 (by decide) ?_
      refine g_callSn_i (kL_rent (h := h) (wd := day % 7) (hrs := t - f) (sh := 100) hh (by omega) (by omega) (by omega) (by omega) (by omega)) oL_rent pL_rent lL_44 dL_singles_149 rfl rfl (Nat.le_of_ble_eq_true rfl) (Nat.le_of_ble_eq_true rfl) (by first | decide | omega) (Nat.le_refl _) (Nat.le_refl _) (fun _ e => nf_e e) (fun M1 n3 hn3 e => ?_)
      subst e
      rw [rentF_c e5 e2]
      have ers : rentF X h (day % 7) (t - f) 100 = sRent X h day f t := rfl
      rw [ers]
      refine g_sD dL_singles_152 (by omega) ?_
      refine g_aload_n dL_singles_153 rfl ?_
      refine g_bipush (v := nI 8) dL_singles_154 (by decide) ?_
      refine g_dup2 dL_singles_156 rfl rfl ?_
      refine g_lN dL_singles_157 (by omega) ?_
      refine g_aload_n dL_singles_158 rfl ?_
      refine g_iload dL_singles_159 rfl ?_
      refine g_bipush (v := nI 6) dL_singles_161 (by decide) ?_
      refine g_iadd_n dL_singles_163 ?_
      refine g_lD dL_singles_164 (by omega) ?_
      rw [uN_s]
      refine g_iadd_n dL_singles_165 ?_
      refine g_sN dL_singles_166 (by omega) ?_
      refine g_aload_n dL_singles_167 rfl ?_
      refine g_bipush (v := nI 12) dL_singles_168 (by decide) ?_
      refine g_dup2 dL_singles_170 rfl rfl ?_
      refine g_lN dL_singles_171 (by omega) ?_
      rw [uN_n N1 _ (show 12 ≠ 8 by decide)]
      refine g_iconst (v := nI 1) dL_singles_172 (by decide) ?_
      refine g_iadd_n dL_singles_173 ?_
      refine g_sN dL_singles_174 (by omega) ?_
      refine g_aload_n dL_singles_175 rfl ?_
      refine g_iload dL_singles_176 rfl ?_
      refine g_iload dL_singles_178 rfl ?_
      refine g_iload dL_singles_180 rfl ?_
      refine g_iload dL_singles_182 rfl ?_
      refine g_iload dL_singles_184 rfl ?_
      have hX92 : (gw X day h f t).2 92 = N1 12 := hL1.2.1.2.symm
      have n12 : uN (uN N1 8 (N1 8 + sRent X h day f t)) 12 (N1 12 + 1) 12 = N1 12 + 1 := uN_s _ _ _
      have n8 : uN (uN N1 8 (N1 8 + sRent X h day f t)) 12 (N1 12 + 1) 8 = N1 8 + mkV h day f t rk te (sRent X h day f t) 0 0 0 6 := by rw [uN_n _ _ (by omega), uN_s]; rfl
      have nn : ∀ j, j < 12 → j ≠ 8 → uN (uN N1 8 (N1 8 + sRent X h day f t)) 12 (N1 12 + 1) j = N1 j := fun j hj hj8 => by rw [uN_n _ _ (by omega), uN_n _ _ hj8]
      generalize hN3 : uN (uN N1 8 (N1 8 + sRent X h day f t)) 12 (N1 12 + 1) = N3 at n12 n8 nn ⊢
      generalize hDz : uN (uN (uN (uN (uN (uN (uN Da (7 * N1 12) h) (7 * N1 12 + 1) day) (7 * N1 12 + 2) f) (7 * N1 12 + 3) t) (7 * N1 12 + 4) rk) (7 * N1 12 + 5) te) (7 * N1 12 + 6) (sRent X h day f t) = Dz
      have d0 : ∀ j, j < 7 * N1 12 → Dz j = Da j := fun j hj => by
        rw [← hDz]
        iterate 7 rw [uN_n _ _ (by omega)]
      have d1 : ∀ j, j < 7 → Dz (7 * N1 12 + j) = mkV h day f t rk te (sRent X h day f t) 0 0 0 j := by
        rw [← hDz]
        refine lt7 ?_ ?_ ?_ ?_ ?_ ?_ ?_ <;> simp [uN, mkV]
      have hL3 := Lw_addS hL1 hrow (by omega) n12 n8 nn d0 d1
      have hb3 := bal_addS hL1 hb1 hL3 n12 n8 nn d0 d1
      have hrf3 := a_ref (M0 := lM M0 N3 R1 Dz) hI hL.2.2.1.2 hh hd hft ht hr hr2
      rw [hz] at hrf3
      refine g_callVn_i (hrf3) oX5_refusal pX5_refusal lL_34 dL_singles_186 rfl (cM_H rfl) rfl rfl rfl (Nat.le_of_ble_eq_true rfl) (Nat.le_of_ble_eq_true rfl) (by first | decide | omega) (fun _ h => by obtain ⟨Y', e, -⟩ := h; exact e ▸ nf_l (by omega)) (fun M1 n4 hn4 e => ?_)
      obtain ⟨Y4, e, hI4⟩ := e
      subst e
      refine g_if_ne_n (tgt := 217) dL_singles_189 (by decide) (by omega) (fun h3 => ?_) (fun h3 => ?_)
      · exact absurd rfl h3
      · refine g_aload_n dL_singles_192 rfl ?_
        refine g_iload dL_singles_193 rfl ?_
        refine g_iload dL_singles_195 rfl ?_
        refine g_iload dL_singles_197 rfl ?_
        refine g_iload dL_singles_199 rfl ?_
        refine g_iload dL_singles_201 rfl ?_
        refine g_iload dL_singles_203 rfl ?_
        refine g_callVn_i (a_single (M0 := lM M0 N3 R1 Dz) hI4 hh hd hft ht hr hr2 hte hL.2.2.1.2 hz) oX5_single pX5_single lL_47 dL_singles_205 rfl (cM_H rfl) rfl rfl rfl (Nat.le_of_ble_eq_true rfl) (Nat.le_of_ble_eq_true rfl) (by first | decide | omega) (fun _ h => by obtain ⟨Y', e, -⟩ := h; exact e ▸ nf_l (by omega)) (fun M1 n5 hn5 e => ?_)
        obtain ⟨Y5, e, hI5⟩ := e
        subst e
        refine g_iload dL_singles_208 rfl ?_
        refine g_icmp_ne (tgt := 217) dL_singles_210 (by decide) (fun h => absurd rfl h) (fun _ => ?_)
        refine g_iconst (v := nI 1) dL_singles_213 (by decide) ?_
        refine g_goto (tgt := 218) dL_singles_214 (by decide) ?_
        exact g_ireturn_b (b := true) dL_singles_218 rfl ⟨rfl, _, N3, R1, Dz, Y5, rfl, hI5, hL3, hb3⟩
    · exact g_loc (by rfl) (jref n1 (by omega))
end LSG
