/-! the law's acts -/
section NR
variable {X N R D : Nat → Nat} {Y : Nat → Nat → Nat} {M0 : zM}
theorem ac_end {M1 : zM} {kc ks n : Nat} (h : PJ M0 M1) {pc : Nat} (hd : decode mL_acts.2.2.1 pc = .ok (.ireturn, 1)) {L : List (Nat × Value)} : G mL_acts 10 kc ks (some n) pc L [.int (nI 1)] M1 (zqI (nI 1) (PJ M0)) := g_ireturn_b (b := true) hd rfl ⟨rfl, h⟩
theorem kL_acts (hJ : J Y X N R D) {kind : Nat} (hk : kind < 14) (x y : Int32) {n0 : Nat} (hn0 : 236 ≤ n0) : Cn mL_acts 10 168 2268 (some n0) [.ref 8, .ref 233, .ref 234, .ref 235, .int (nI kind), .int x, .int y] (cM (lM M0 N R D) Y) (zqI (nI 1) (PJ M0)) := by
  have hJ' := hJ
  obtain ⟨hI, hL, hb⟩ := hJ'
  have hX := IV_X hI
  have hB := Lw_B hL hX
  obtain ⟨b0, b11, b12, -, -⟩ := id hB
  refine g_iload dL_acts_0 rfl ?_
  refine g_iconst (v := nI 3) dL_acts_2 (by decide) ?_
  refine g_callSn_i (kL_low (n := 3) (by omega) (by omega)) oL_low pL_low lL_58 dL_acts_3 rfl rfl (Nat.le_of_ble_eq_true rfl) (Nat.le_of_ble_eq_true rfl) (by first | decide | omega) (Nat.le_refl _) (Nat.le_refl _) (fun _ e => nf_e e) (fun M1 n1 hn1 e => ?_)
  subst e
  refine g_istore dL_acts_6 (by decide) ?_
  refine g_bipush (v := nI 6) dL_acts_8 (by decide) ?_
  refine g_iload dL_acts_10 rfl ?_
  refine g_iconst (v := nI 2) dL_acts_12 (by decide) ?_
  refine g_ishr dL_acts_13 ?_
  refine g_bipush (v := nI 14) dL_acts_14 (by decide) ?_
  refine g_callSn_i (kL_low (n := 14) (by omega) (by omega)) oL_low pL_low lL_58 dL_acts_16 rfl rfl (Nat.le_of_ble_eq_true rfl) (Nat.le_of_ble_eq_true rfl) (by first | decide | omega) (Nat.le_refl _) (Nat.le_refl _) (fun _ e => nf_e e) (fun M1 n2 hn2 e => ?_)
  subst e
  refine g_iadd_n dL_acts_19 ?_
  refine g_istore dL_acts_20 (by decide) ?_
  refine g_iload dL_acts_22 rfl ?_
  refine g_iconst (v := nI 1) dL_acts_24 (by decide) ?_
  refine g_iadd_n dL_acts_25 ?_
  refine g_iload dL_acts_26 rfl ?_
  refine g_bipush (v := nI 6) dL_acts_28 (by decide) ?_
  refine g_ishr dL_acts_30 ?_
  refine g_iconst (v := nI 4) dL_acts_31 (by decide) ?_
  refine g_callSn_i (kL_low (n := 4) (by omega) (by omega)) oL_low pL_low lL_58 dL_acts_32 rfl rfl (Nat.le_of_ble_eq_true rfl) (Nat.le_of_ble_eq_true rfl) (by first | decide | omega) (Nat.le_refl _) (Nat.le_refl _) (fun _ e => nf_e e) (fun M1 n3 hn3 e => ?_)
  subst e
  refine g_iadd_n dL_acts_35 ?_
  refine g_istore dL_acts_36 (by decide) ?_
  refine g_iconst (v := nI 1) dL_acts_38 (by decide) ?_
  refine g_iload dL_acts_39 rfl ?_
  refine g_bipush (v := nI 9) dL_acts_41 (by decide) ?_
  refine g_ishr dL_acts_43 ?_
  refine g_bipush (v := nI 9) dL_acts_44 (by decide) ?_
  refine g_callSn_i (kL_low (n := 9) (by omega) (by omega)) oL_low pL_low lL_58 dL_acts_46 rfl rfl (Nat.le_of_ble_eq_true rfl) (Nat.le_of_ble_eq_true rfl) (by first | decide | omega) (Nat.le_refl _) (Nat.le_refl _) (fun _ e => nf_e e) (fun M1 n4 hn4 e => ?_)
  subst e
  refine g_iadd_n dL_acts_49 ?_
  refine g_istore dL_acts_50 (by decide) ?_
  refine g_iload dL_acts_52 rfl ?_
  refine g_bipush (v := nI 13) dL_acts_54 (by decide) ?_
  refine g_ishr dL_acts_56 ?_
  refine g_bipush (v := nI 20) dL_acts_57 (by decide) ?_
  refine g_callSn_i (kL_low (n := 20) (by omega) (by omega)) oL_low pL_low lL_58 dL_acts_59 rfl rfl (Nat.le_of_ble_eq_true rfl) (Nat.le_of_ble_eq_true rfl) (by first | decide | omega) (Nat.le_refl _) (Nat.le_refl _) (fun _ e => nf_e e) (fun M1 n5 hn5 e => ?_)
  subst e
  have q1 : lo x 3 < 3 := lo_lt x (by omega)
  have q2 : lo (x >>> (nI 2 &&& 31)) 14 < 14 := lo_lt _ (by omega)
  have q3 : lo (x >>> (nI 6 &&& 31)) 4 < 4 := lo_lt _ (by omega)
  have q4 : lo (x >>> (nI 9 &&& 31)) 9 < 9 := lo_lt _ (by omega)
  have q5 : lo (x >>> (nI 13 &&& 31)) 20 < 20 := lo_lt _ (by omega)
  have q2b : 6 ≤ 6 + lo (x >>> (nI 2 &&& 31)) 14 := by omega
  generalize hfr : 6 + lo (x >>> (nI 2 &&& 31)) 14 = fr at q2b ⊢
  have q2c : fr ≤ 19 := by omega
  generalize hto : fr + 1 + lo (x >>> (nI 6 &&& 31)) 4 = to
  have q3b : fr < to ∧ to ≤ 24 := by omega
  generalize hrk : 1 + lo (x >>> (nI 9 &&& 31)) 9 = rk
  have q4b : 1 ≤ rk ∧ rk ≤ 9 := by omega
  generalize lo (x >>> (nI 13 &&& 31)) 20 = te at q5 ⊢
  generalize lo x 3 = a at q1 ⊢
  refine g_istore dL_acts_62 (by decide) ?_
  refine g_iload dL_acts_64 rfl ?_
  have j313 : G mL_acts 10 168 2268 (some n5) 313 [(0, .ref 8), (1, .ref 233), (2, .ref 234), (3, .ref 235), (6, .int y), (7, .int (nI a)), (8, .int (nI fr)), (9, .int (nI to)), (10, .int (nI rk)), (11, .int (nI te))] [] (cM (lM M0 N R D) Y) (zqI (nI 1) (PJ M0)) := by
    refine g_aload_n dL_acts_313 rfl ?_
    refine g_aload_n dL_acts_314 rfl ?_
    refine g_aload_n dL_acts_315 rfl ?_
    refine g_aload_n dL_acts_316 rfl ?_
    refine g_iload dL_acts_317 rfl ?_
    refine g_iload dL_acts_319 rfl ?_
    refine g_bipush (v := nI 7) dL_acts_321 (by decide) ?_
    refine g_callSn_i (kL_low (n := 7) (by omega) (by omega)) oL_low pL_low lL_58 dL_acts_323 rfl rfl (Nat.le_of_ble_eq_true rfl) (Nat.le_of_ble_eq_true rfl) (by first | decide | omega) (Nat.le_refl _) (Nat.le_refl _) (fun _ e => nf_e e) (fun M1 n6 hn6 e => ?_)
    subst e
    have q6 : lo y 7 < 7 := lo_lt _ (by omega)
    refine g_iload dL_acts_326 rfl ?_
    refine g_iload dL_acts_328 rfl ?_
    refine g_iload dL_acts_330 rfl ?_
    refine g_iload dL_acts_332 rfl ?_
    refine g_callSn_i (kc1 := 0) (ks1 := 0) (kL_regulars hJ (h := a) (wd := lo y 7) (f := fr) (t := to) (rk := rk) (te := te) (by omega) (by omega) q3b.1 q3b.2 q4b.1 q4b.2 (by omega) (show 236 ≤ n6 by omega)) oL_regulars pL_regulars lL_127 dL_acts_334 rfl rfl (Nat.le_of_ble_eq_true rfl) (Nat.le_of_ble_eq_true rfl) (by first | decide | omega) (by omega) (by omega) (fun _ h => nf_J (by omega) h) (fun M1 n7 hn7 e => ?_)
    exact ac_end e dL_acts_337
  by_cases h7 : kind < 7
  · rcases (show kind = 0 ∨ kind = 1 ∨ kind = 2 ∨ kind = 3 ∨ kind = 4 ∨ kind = 5 ∨ kind = 6 by omega) with rfl | rfl | rfl | rfl | rfl | rfl | rfl
    · refine g_tabIn (x := nI 0) (off := 42) (tgt := 108) dL_acts_66 (by decide) (by decide) (by decide) (by decide) ?_
      refine g_aload_n dL_acts_108 rfl ?_
      refine g_aload_n dL_acts_109 rfl ?_
      refine g_aload_n dL_acts_110 rfl ?_
      refine g_aload_n dL_acts_111 rfl ?_
      refine g_iload dL_acts_112 rfl ?_
      refine g_iconst (v := nI 2) dL_acts_114 (by decide) ?_
      refine g_callSn_i (kL_low (n := 2) (by omega) (by omega)) oL_low pL_low lL_58 dL_acts_115 rfl rfl (Nat.le_of_ble_eq_true rfl) (Nat.le_of_ble_eq_true rfl) (by first | decide | omega) (Nat.le_refl _) (Nat.le_refl _) (fun _ e => nf_e e) (fun M1 n6 hn6 e => ?_)
      subst e
      have q6 : lo y 2 < 2 := lo_lt _ (by omega)
      have jc : ∀ b : Bool, G mL_acts 10 168 2268 (some n6) 126 [(6, .int y)] [.int (nI b.toNat), .ref 235, .ref 234, .ref 233, .ref 8] (cM (lM M0 N R D) Y) (zqI (nI 1) (PJ M0)) := fun b => by
        refine g_iload dL_acts_126 rfl ?_
        refine g_iconst (v := nI 1) dL_acts_128 (by decide) ?_
        refine g_ishr dL_acts_129 ?_
        refine g_callSn_i (kL_cancels hJ b _ (show 236 ≤ n6 by omega)) oL_cancels pL_cancels lL_113 dL_acts_130 rfl rfl (Nat.le_of_ble_eq_true rfl) (Nat.le_of_ble_eq_true rfl) (by first | decide | omega) (Nat.le_refl _) (Nat.le_refl _) (fun _ h => nf_J (by omega) h) (fun M1 n7 hn7 e => ?_)
        exact ac_end e dL_acts_133
      refine g_if_ne_n (tgt := 125) dL_acts_118 (by decide) (by omega) (fun g => ?_) (fun g => ?_)
      · refine g_iconst (v := nI 0) dL_acts_125 (by decide) ?_
        exact g_loc (by rfl) (jc false)
      · refine g_iconst (v := nI 1) dL_acts_121 (by decide) ?_
        refine g_goto (tgt := 126) dL_acts_122 (by decide) ?_
        exact g_loc (by rfl) (jc true)
    · refine g_tabIn (x := nI 1) (off := 68) (tgt := 134) dL_acts_66 (by decide) (by decide) (by decide) (by decide) ?_
      refine g_aload_n dL_acts_134 rfl ?_
      refine g_aload_n dL_acts_135 rfl ?_
      refine g_aload_n dL_acts_136 rfl ?_
      refine g_aload_n dL_acts_137 rfl ?_
      refine g_iload dL_acts_138 rfl ?_
      refine g_callSn_i (kc1 := 0) (ks1 := 0) (kL_sets hJ y (show 236 ≤ n5 by omega)) oL_sets pL_sets lL_117 dL_acts_140 rfl rfl (Nat.le_of_ble_eq_true rfl) (Nat.le_of_ble_eq_true rfl) (by first | decide | omega) (by omega) (by omega) (fun _ h => nf_J (by omega) h) (fun M1 n7 hn7 e => ?_)
      exact ac_end e dL_acts_143
    · refine g_tabIn (x := nI 2) (off := 78) (tgt := 144) dL_acts_66 (by decide) (by decide) (by decide) (by decide) ?_
      refine g_aload_n dL_acts_144 rfl ?_
      refine g_iconst (v := nI 5) dL_acts_145 (by decide) ?_
      refine g_iload dL_acts_146 rfl ?_
      refine g_iadd_n dL_acts_148 ?_
      refine g_lN dL_acts_149 (by omega) ?_
      refine g_istore dL_acts_150 (by decide) ?_
      refine g_aload_n dL_acts_152 rfl ?_
      refine g_iconst (v := nI 5) dL_acts_153 (by decide) ?_
      refine g_iload dL_acts_154 rfl ?_
      refine g_iadd_n dL_acts_156 ?_
      refine g_bipush (v := nI 100) dL_acts_157 (by decide) ?_
      refine g_iload dL_acts_159 rfl ?_
      refine g_sipush (v := nI 4901) dL_acts_161 (by decide) ?_
      refine g_callSn_i (kL_low (n := 4901) (by omega) (by omega)) oL_low pL_low lL_58 dL_acts_164 rfl rfl (Nat.le_of_ble_eq_true rfl) (Nat.le_of_ble_eq_true rfl) (by first | decide | omega) (Nat.le_refl _) (Nat.le_refl _) (fun _ e => nf_e e) (fun M1 n6 hn6 e => ?_)
      subst e
      have q6 : lo y 4901 < 4901 := lo_lt _ (by omega)
      refine g_iadd_n dL_acts_167 ?_
      refine g_sN dL_acts_168 (by omega) ?_
      refine g_aload_n dL_acts_169 rfl ?_
      refine g_iload dL_acts_170 rfl ?_
      refine g_aload_n dL_acts_172 rfl ?_
      refine g_iconst (v := nI 5) dL_acts_173 (by decide) ?_
      refine g_iload dL_acts_174 rfl ?_
      refine g_iadd_n dL_acts_176 ?_
      refine g_lN dL_acts_177 (by omega) ?_
      rw [uN_s]
      generalize hv : 100 + lo y 4901 = v
      have e5 : N (5 + a) = X (5 + a) := hL.1 _ (by omega)
      rw [e5]
      refine g_callVn_i (a_rate (M0 := lM M0 (uN N (5 + a) v) R D) hI (a := a) (v := v) (by omega) (by omega) (by omega)) oX5_rate pX5_rate lL_121 dL_acts_178 rfl (cM_H rfl) rfl rfl rfl (Nat.le_of_ble_eq_true rfl) (Nat.le_of_ble_eq_true rfl) (by first | decide | omega) (fun _ h => by obtain ⟨Y', e, -⟩ := h; exact e ▸ nf_l (by omega)) (fun M1 n7 hn7 e => ?_)
      obtain ⟨Y7, e, hI7⟩ := e
      subst e
      refine g_iload dL_acts_181 rfl ?_
      refine g_icmp_ne (tgt := 190) dL_acts_183 (by decide) (fun h => absurd rfl h) (fun _ => ?_)
      refine g_iconst (v := nI 1) dL_acts_186 (by decide) ?_
      refine g_goto (tgt := 191) dL_acts_187 (by decide) ?_
      exact ac_end ⟨_, _, _, _, Y7, rfl, hI7, Lw_low hL (by omega) v, bal_low hL hb (by omega) v⟩ dL_acts_191
    · refine g_tabIn (x := nI 3) (off := 126) (tgt := 192) dL_acts_66 (by decide) (by decide) (by decide) (by decide) ?_
      refine g_iload dL_acts_192 rfl ?_
      refine g_iconst (v := nI 4) dL_acts_194 (by decide) ?_
      refine g_callSn_i (kL_low (n := 4) (by omega) (by omega)) oL_low pL_low lL_58 dL_acts_195 rfl rfl (Nat.le_of_ble_eq_true rfl) (Nat.le_of_ble_eq_true rfl) (by first | decide | omega) (Nat.le_refl _) (Nat.le_refl _) (fun _ e => nf_e e) (fun M1 n6 hn6 e => ?_)
      subst e
      refine g_istore dL_acts_198 (by decide) ?_
      refine g_iload dL_acts_200 rfl ?_
      refine g_iconst (v := nI 3) dL_acts_202 (by decide) ?_
      refine g_ishr dL_acts_203 ?_
      refine g_bipush (v := nI 84) dL_acts_204 (by decide) ?_
      refine g_callSn_i (kL_low (n := 84) (by omega) (by omega)) oL_low pL_low lL_58 dL_acts_206 rfl rfl (Nat.le_of_ble_eq_true rfl) (Nat.le_of_ble_eq_true rfl) (by first | decide | omega) (Nat.le_refl _) (Nat.le_refl _) (fun _ e => nf_e e) (fun M1 n7 hn7 e => ?_)
      subst e
      have q6 : lo y 4 < 4 := lo_lt _ (by omega)
      have q7 : lo (y >>> (nI 3 &&& 31)) 84 < 84 := lo_lt _ (by omega)
      generalize lo y 4 = i at q6 ⊢
      generalize lo (y >>> (nI 3 &&& 31)) 84 = day at q7 ⊢
      have j295 : ∀ n8, 236 ≤ n8 → G mL_acts 10 168 2268 (some n8) 295 [(0, .ref 8), (1, .ref 233)] [] (cM (lM M0 N R D) Y) (zqI (nI 1) (PJ M0)) := fun n8 hn8 => by
        have hc := a_ct (M0 := lM M0 N R D) hI (w := 0) (by omega)
        rw [show cnt0 X 0 0 = N 11 from hL.2.1.1.symm] at hc
        refine g_aload_n dL_acts_295 rfl ?_
        refine g_iconst (v := nI 0) dL_acts_296 (by decide) ?_
        refine g_callVn_i (hc) oX5_count pX5_count lL_51 dL_acts_297 rfl (cM_H rfl) rfl rfl rfl (Nat.le_of_ble_eq_true rfl) (Nat.le_of_ble_eq_true rfl) (by first | decide | omega) (fun _ e => nf_e e) (fun M1 n9 hn9 e => ?_)
        subst e
        refine g_aload_n dL_acts_300 rfl ?_
        refine g_bipush (v := nI 11) dL_acts_301 (by decide) ?_
        refine g_lN dL_acts_303 (by omega) ?_
        refine g_icmp_ne (tgt := 311) dL_acts_304 (by decide) (fun h => absurd rfl h) (fun _ => ?_)
        refine g_iconst (v := nI 1) dL_acts_307 (by decide) ?_
        refine g_goto (tgt := 312) dL_acts_308 (by decide) ?_
        exact ac_end ⟨X, N, R, D, Y, rfl, hJ⟩ dL_acts_312
      refine g_istore dL_acts_209 (by decide) ?_
      refine g_iload dL_acts_211 rfl ?_
      refine g_aload_n dL_acts_213 rfl ?_
      refine g_bipush (v := nI 11) dL_acts_214 (by decide) ?_
      refine g_lN dL_acts_216 (by omega) ?_
      refine g_icmp_ge_n (tgt := 295) dL_acts_217 (by decide) (by omega) (by omega) (fun g => ?_) (fun g => ?_)
      · exact g_loc (by rfl) (j295 n7 (by omega))
      · have hiX : i < X 11 := by rw [← hL.2.1.1]; exact g
        have r1 := lB_R hB (i := i) (j := 1) g (by omega)
        have r9 := lB_R hB (i := i) (j := 9) g (by omega)
        refine g_aload_n dL_acts_220 rfl ?_
        refine g_iload dL_acts_221 rfl ?_
        refine g_iload dL_acts_223 rfl ?_
        refine g_callSn_i (kL_stands (i := i) (day := day) (by omega) q7 r1 r9) oL_stands pL_stands lL_15 dL_acts_225 rfl rfl (Nat.le_of_ble_eq_true rfl) (Nat.le_of_ble_eq_true rfl) (by first | decide | omega) (Nat.le_refl _) (Nat.le_refl _) (fun _ e => nf_e e) (fun M1 n8 hn8 e => ?_)
        subst e
        refine g_if_eq_b (tgt := 295) dL_acts_228 (by decide) (fun g2 => ?_) (fun g2 => ?_)
        · exact g_loc (by rfl) (j295 n8 (by omega))
        · have hle := stB_le g2
          have hst : stdR X i day = true := by rw [← Lw_st hL hiX q7]; exact g2
          have e6 : R (11 * i + 6) = X (12 + 10 * i + 6) := Lw_r hL hiX (by omega)
          refine g_aload_n dL_acts_231 rfl ?_
          refine g_bipush (v := nI 11) dL_acts_232 (by decide) ?_
          refine g_iload dL_acts_234 rfl ?_
          refine g_imul_n dL_acts_236 ?_
          refine g_bipush (v := nI 9) dL_acts_237 (by decide) ?_
          refine g_iadd_n dL_acts_239 ?_
          refine g_dup2 dL_acts_240 rfl rfl ?_
          refine g_lR dL_acts_241 (by omega) ?_
          refine g_iconst (v := nI 1) dL_acts_242 (by decide) ?_
          refine g_iload dL_acts_243 rfl ?_
          refine g_bipush (v := nI 7) dL_acts_245 (by decide) ?_
          refine g_idiv_n dL_acts_247 (by omega) (by omega) (by omega) ?_
          refine g_ishl_n dL_acts_248 (by omega) ?_
          refine g_isub_n dL_acts_249 hle ?_
          refine g_sR dL_acts_250 (by omega) ?_
          refine g_aload_n dL_acts_251 rfl ?_
          refine g_bipush (v := nI 9) dL_acts_252 (by decide) ?_
          refine g_dup2 dL_acts_254 rfl rfl ?_
          refine g_lN dL_acts_255 (by omega) ?_
          refine g_aload_n dL_acts_256 rfl ?_
          refine g_bipush (v := nI 11) dL_acts_257 (by decide) ?_
          refine g_iload dL_acts_259 rfl ?_
          refine g_imul_n dL_acts_261 ?_
          refine g_bipush (v := nI 6) dL_acts_262 (by decide) ?_
          refine g_iadd_n dL_acts_264 ?_
          refine g_lR dL_acts_265 (by omega) ?_
          rw [uN_n R _ (show 11 * i + 6 ≠ 11 * i + 9 by omega)]
          refine g_iadd_n dL_acts_266 ?_
          refine g_sN dL_acts_267 (by omega) ?_
          refine g_aload_n dL_acts_268 rfl ?_
          refine g_iload dL_acts_269 rfl ?_
          refine g_iload dL_acts_271 rfl ?_
          refine g_callVn_i (a_off (M0 := lM M0 (uN N 9 (N 9 + R (11 * i + 6))) (uN R (11 * i + 9) (R (11 * i + 9) - 2 ^ (day / 7))) D) hI hiX q7 hst) oX5_off pX5_off lL_124 dL_acts_273 rfl (cM_H rfl) rfl rfl rfl (Nat.le_of_ble_eq_true rfl) (Nat.le_of_ble_eq_true rfl) (by first | decide | omega) (fun _ h => by obtain ⟨Y', e, -⟩ := h; exact e ▸ nf_l (by omega)) (fun M1 n9 hn9 e => ?_)
          obtain ⟨Y9, e, hI9⟩ := e
          subst e
          refine g_aload_n dL_acts_276 rfl ?_
          refine g_bipush (v := nI 11) dL_acts_277 (by decide) ?_
          refine g_iload dL_acts_279 rfl ?_
          refine g_imul_n dL_acts_281 ?_
          refine g_bipush (v := nI 6) dL_acts_282 (by decide) ?_
          refine g_iadd_n dL_acts_284 ?_
          refine g_lR dL_acts_285 (by omega) ?_
          rw [uN_n R _ (show 11 * i + 6 ≠ 11 * i + 9 by omega), e6]
          refine g_icmp_ne (tgt := 293) dL_acts_286 (by decide) (fun h => absurd rfl h) (fun _ => ?_)
          refine g_iconst (v := nI 1) dL_acts_289 (by decide) ?_
          refine g_goto (tgt := 294) dL_acts_290 (by decide) ?_
          rw [← e6]
          exact ac_end ⟨_, _, _, _, Y9, rfl, hI9, Lw_off hL hiX q7 hst, bal_off hL hb hiX q7 hst⟩ dL_acts_294
    · refine g_tabIn (x := nI 4) (off := 247) (tgt := 313) dL_acts_66 (by decide) (by decide) (by decide) (by decide) ?_
      exact g_loc (by rfl) j313
    · refine g_tabIn (x := nI 5) (off := 247) (tgt := 313) dL_acts_66 (by decide) (by decide) (by decide) (by decide) ?_
      exact g_loc (by rfl) j313
    · refine g_tabIn (x := nI 6) (off := 247) (tgt := 313) dL_acts_66 (by decide) (by decide) (by decide) (by decide) ?_
      exact g_loc (by rfl) j313
  · refine g_tabOut (x := nI kind) (tgt := 338) dL_acts_66 (Or.inr ?_) (by decide) ?_
    · rw [nI_toInt (by omega)]
      omega
    · refine g_aload_n dL_acts_338 rfl ?_
      refine g_aload_n dL_acts_339 rfl ?_
      refine g_aload_n dL_acts_340 rfl ?_
      refine g_aload_n dL_acts_341 rfl ?_
      refine g_iload dL_acts_342 rfl ?_
      refine g_iload dL_acts_344 rfl ?_
      refine g_iconst (v := nI 3) dL_acts_346 (by decide) ?_
      refine g_callSn_i (kL_low (n := 3) (by omega) (by omega)) oL_low pL_low lL_58 dL_acts_347 rfl rfl (Nat.le_of_ble_eq_true rfl) (Nat.le_of_ble_eq_true rfl) (by first | decide | omega) (Nat.le_refl _) (Nat.le_refl _) (fun _ e => nf_e e) (fun M1 n6 hn6 e => ?_)
      subst e
      have q6 : lo y 3 < 3 := lo_lt _ (by omega)
      have jd : ∀ day n7, day < 84 → 236 ≤ n7 → G mL_acts 10 168 2268 (some n7) 387 [(8, .int (nI fr)), (9, .int (nI to)), (10, .int (nI rk)), (11, .int (nI te))] [.int (nI day), .int (nI a), .ref 235, .ref 234, .ref 233, .ref 8] (cM (lM M0 N R D) Y) (zqI (nI 1) (PJ M0)) := fun day n7 hd hn7 => by
        refine g_iload dL_acts_387 rfl ?_
        refine g_iload dL_acts_389 rfl ?_
        refine g_iload dL_acts_391 rfl ?_
        refine g_iload dL_acts_393 rfl ?_
        refine g_callSn_i (kc1 := 0) (ks1 := 0) (kL_singles hJ (h := a) (day := day) (f := fr) (t := to) (rk := rk) (te := te) (by omega) hd q3b.1 q3b.2 q4b.1 q4b.2 (by omega) hn7) oL_singles pL_singles lL_131 dL_acts_395 rfl rfl (Nat.le_of_ble_eq_true rfl) (Nat.le_of_ble_eq_true rfl) (by first | decide | omega) (by omega) (by omega) (fun _ h => nf_J (by omega) h) (fun M1 n8 hn8 e => ?_)
        exact ac_end e dL_acts_398
      refine g_if_ne_n (tgt := 365) dL_acts_350 (by decide) (by omega) (fun g => ?_) (fun g => ?_)
      · refine g_bipush (v := nI 7) dL_acts_365 (by decide) ?_
        refine g_iload dL_acts_367 rfl ?_
        refine g_iconst (v := nI 2) dL_acts_369 (by decide) ?_
        refine g_ishr dL_acts_370 ?_
        refine g_iconst (v := nI 3) dL_acts_371 (by decide) ?_
        refine g_callSn_i (kL_low (n := 3) (by omega) (by omega)) oL_low pL_low lL_58 dL_acts_372 rfl rfl (Nat.le_of_ble_eq_true rfl) (Nat.le_of_ble_eq_true rfl) (by first | decide | omega) (Nat.le_refl _) (Nat.le_refl _) (fun _ e => nf_e e) (fun M1 n7 hn7 e => ?_)
        subst e
        have q7 : lo (y >>> (nI 2 &&& 31)) 3 < 3 := lo_lt _ (by omega)
        refine g_imul_n dL_acts_375 ?_
        refine g_iload dL_acts_376 rfl ?_
        refine g_iconst (v := nI 5) dL_acts_378 (by decide) ?_
        refine g_ishr dL_acts_379 ?_
        refine g_iconst (v := nI 2) dL_acts_380 (by decide) ?_
        refine g_callSn_i (kL_low (n := 2) (by omega) (by omega)) oL_low pL_low lL_58 dL_acts_381 rfl rfl (Nat.le_of_ble_eq_true rfl) (Nat.le_of_ble_eq_true rfl) (by first | decide | omega) (Nat.le_refl _) (Nat.le_refl _) (fun _ e => nf_e e) (fun M1 n8 hn8 e => ?_)
        subst e
        have q8 : lo (y >>> (nI 5 &&& 31)) 2 < 2 := lo_lt _ (by omega)
        refine g_iconst (v := nI 5) dL_acts_384 (by decide) ?_
        refine g_imul_n dL_acts_385 ?_
        refine g_iadd_n dL_acts_386 ?_
        exact g_loc (by rfl) (jd _ n8 (by omega) (by omega))
      · refine g_iload dL_acts_353 rfl ?_
        refine g_iconst (v := nI 2) dL_acts_355 (by decide) ?_
        refine g_ishr dL_acts_356 ?_
        refine g_bipush (v := nI 84) dL_acts_357 (by decide) ?_
        refine g_callSn_i (kL_low (n := 84) (by omega) (by omega)) oL_low pL_low lL_58 dL_acts_359 rfl rfl (Nat.le_of_ble_eq_true rfl) (Nat.le_of_ble_eq_true rfl) (by first | decide | omega) (Nat.le_refl _) (Nat.le_refl _) (fun _ e => nf_e e) (fun M1 n7 hn7 e => ?_)
        subst e
        have q7 : lo (y >>> (nI 2 &&& 31)) 84 < 84 := lo_lt _ (by omega)
        refine g_goto (tgt := 387) dL_acts_362 (by decide) ?_
        exact g_loc (by rfl) (jd _ n7 q7 (by omega))
end NR
