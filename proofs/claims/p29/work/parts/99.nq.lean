/-! the law's sets -/
section NQ
variable {X N R D : Nat → Nat} {Y : Nat → Nat → Nat}
theorem Lw_low (h : Lw X N R D) {k : Nat} (hk : k < 8) (v : Nat) : Lw (uN X k v) (uN N k v) R D := by
  obtain ⟨h1, ⟨h2, h3⟩, ⟨h4, h5⟩, h6, h7⟩ := id h
  refine ⟨fun j hj => ?_, ⟨?_, ?_⟩, ⟨?_, ?_⟩, fun i hi => ?_, fun i hi j hj => ?_⟩
  · by_cases e : j = k
    · subst e; rw [uN_s, uN_s]
    · rw [uN_n _ _ e, uN_n _ _ e]; exact h1 j hj
  · rw [uN_n _ _ (by omega), uN_n _ _ (by omega)]; exact h2
  · rw [uN_n _ _ (by omega), uN_n _ _ (by omega)]; exact h3
  · rw [uN_n _ _ (by omega)]; exact h4
  · rw [uN_n _ _ (by omega)]; exact h5
  · rw [uN_n _ _ (by omega)] at hi
    exact RgR_c (h6 i hi) (fun _ _ => rfl) (fun j hj => uN_n _ _ (by omega))
  · rw [uN_n _ _ (by omega)] at hi
    rw [uN_n _ _ (by omega)]
    exact h7 i hi j hj
theorem bal_low (h : Lw X N R D) (hb : bal X) {k : Nat} (hk : k < 8) (v : Nat) : bal (uN X k v) := by
  have hb1 := (Lw_bal h).mp hb
  refine (Lw_bal (Lw_low h hk v)).mpr ?_
  rw [uN_n _ _ (by omega), uN_n _ _ (by omega), uN_n _ _ (by omega), uN_n _ _ (by omega)]
  exact hb1
theorem SR_u {n v : Nat} : ∀ k, n < k → SR (uN R (11 * n + 9) v) k + bsum (R (11 * n + 9)) 12 * R (11 * n + 6) = SR R k + bsum v 12 * R (11 * n + 6)
  | 0, h => by omega
  | k + 1, h => by
    rw [SR, SR, uN_n _ _ (show 11 * k + 6 ≠ 11 * n + 9 by omega)]
    by_cases e : n = k
    · subst e
      rw [uN_s, SR_c (R := R) n (fun i hi => ⟨uN_n _ _ (by omega), uN_n _ _ (by omega)⟩)]
      omega
    · have := SR_u (n := n) (v := v) k (by omega)
      rw [uN_n _ _ (show 11 * k + 9 ≠ 11 * n + 9 by omega)]
      omega
theorem Lw_off (h : Lw X N R D) {n d : Nat} (hn : n < X 11) (hd : d < 84) (hs : stdR X n d = true) : Lw (ofX X n d) (uN N 9 (N 9 + R (11 * n + 6))) (uN R (11 * n + 9) (R (11 * n + 9) - 2 ^ (d / 7))) D := by
  obtain ⟨h1, ⟨h2, h3⟩, ⟨h4, h5⟩, h6, h7⟩ := id h
  obtain ⟨o1, o2, o3⟩ := of_at X n d
  have hst := hs
  rw [← Lw_st h hn hd] at hst
  simp only [stB, Bool.and_eq_true, decide_eq_true_eq] at hst
  have hlv := lvs29 (w := d / 7) (by omega) (h6 n hn).2.1 hst.2
  refine ⟨fun j hj => ?_, ⟨?_, ?_⟩, ⟨?_, ?_⟩, fun i hi => ?_, fun i hi j hj => ?_⟩
  · by_cases e : j = 9
    · subst e
      rw [uN_s, o3, h1 9 (by omega), Lw_r h hn (by omega)]
    · rw [uN_n _ _ e, o1 j e (by omega)]; exact h1 j hj
  · rw [uN_n _ _ (by omega), o1 11 (by omega) (by omega)]; exact h2
  · rw [uN_n _ _ (by omega), o1 92 (by omega) (by omega)]; exact h3
  · rw [o1 11 (by omega) (by omega)]; exact h4
  · rw [o1 92 (by omega) (by omega)]; exact h5
  · rw [o1 11 (by omega) (by omega)] at hi
    by_cases e : i = n
    · subst e
      refine RgR_c (RgR_lv (h6 i hi) (a := d / 7) (by omega)) (fun j hj => ?_) (fun j hj => ?_)
      · by_cases j9 : j = 9
        · subst j9
          rw [uN_s, ← hlv]
          exact uN_s _ _ _
        · rw [uN_n _ _ j9]
          exact uN_n _ _ (by omega)
      · by_cases j9 : j = 9
        · subst j9
          rw [uN_s]
          exact o2
        · rw [uN_n _ _ j9]
          exact o1 (12 + 10 * i + j) (by omega) (by omega)
    · exact RgR_c (h6 i hi) (fun j hj => uN_n _ _ (by omega)) (fun j hj => o1 (12 + 10 * i + j) (by omega) (by omega))
  · rw [o1 92 (by omega) (by omega)] at hi
    rw [o1 _ (by omega) (by omega)]
    exact h7 i hi j hj
theorem bal_off (h : Lw X N R D) (hb : bal X) {n d : Nat} (hn : n < X 11) (hd : d < 84) (hs : stdR X n d = true) : bal (ofX X n d) := by
  have hb1 := (Lw_bal h).mp hb
  have hst := hs
  rw [← Lw_st h hn hd] at hst
  simp only [stB, Bool.and_eq_true, decide_eq_true_eq] at hst
  have hbs := bs_sub (w := d / 7) (by omega) (h.2.2.2.1 n hn).2.1 hst.2
  have hbs : bsum (R (11 * n + 9) - 2 ^ (d / 7)) 12 + 1 = bsum (R (11 * n + 9)) 12 := hbs
  refine (Lw_bal (Lw_off h hn hd hs)).mpr ?_
  have s := SR_u (R := R) (n := n) (v := R (11 * n + 9) - 2 ^ (d / 7)) (N 11) (by rw [h.2.1.1]; exact hn)
  rw [← hbs, Nat.succ_mul (bsum (R (11 * n + 9) - 2 ^ (d / 7)) 12)] at s
  rw [uN_n _ _ (by omega), uN_s, uN_n _ _ (by omega), uN_n _ _ (by omega)]
  omega
theorem kg_srt : ∀ (E : List (cE × Nat)) (l : List cE), (∀ e ∈ E, okE e.1) → (∀ x ∈ l, okE x) → (∀ e ∈ E, ∀ x ∈ l, ntE e.1 x) → E.Pairwise (fun a b => ntE a.1 b.1) → E.foldl (fun l e => putK (keyE e.1) l) (l.map keyE) = (srtE (E.map Prod.fst) l).map keyE
  | [], l, _, _, _, _ => rfl
  | e :: E, l, h1, h2, h3, h4 => by
    rw [List.pairwise_cons] at h4
    rw [List.foldl_cons, putK_map (h1 e List.mem_cons_self) (fun x hx => ⟨h2 x hx, h3 e List.mem_cons_self x hx⟩)]
    rw [kg_srt E (addC e.1 l) (fun x hx => h1 x (List.mem_cons_of_mem _ hx)) (fun x hx => ?_) (fun y hy x hx => ?_) h4.2]
    · rfl
    · rcases addC_mem hx with rfl | hx
      · exact h1 e List.mem_cons_self
      · exact h2 x hx
    · rcases addC_mem hx with rfl | hx
      · exact nt_sym (h4.1 y hy)
      · exact h3 y (List.mem_cons_of_mem _ hy) x hx
theorem gd_mok (hI : IV Y X) {day : Nat} (hd : day < 84) (c : Nat) : gdD (uN X 0 c) day = mok c 0 (srtE ((lk X day).map (enx X)) []) := by
  have hX := IV_X hI
  obtain ⟨SS, SN, sm, ik, hI⟩ := hI
  have hA := hI.1.2.1
  rw [← (ab_gd hA hX.1 hX.2.2.1 hd c).1, cbL_E, cbE_mok, opL_map, ab_ent hA hd]
theorem Lw_gd (hI : IV Y X) (h : Lw X N R D) {day : Nat} (hd : day < 84) (c : Nat) : icl c 0 (kgL (esA N R D day)) = gdD (uN X 0 c) day := by
  have hX := IV_X hI
  have hok : ∀ e ∈ (lk X day).map (eX X), okT e.1 := fun e he => by
    obtain ⟨p, hp, rfl⟩ := List.mem_map.mp he
    exact okT_lk hX hp
  have e1 := kg_srt ((lk X day).map (eX X)) [] (fun e he => okT_E (hok e he)) (fun x hx => by cases hx) (fun e _ x hx => by cases hx) (pw_fst (hX.2.2.2 day hd) (fun p hp => okT_lk hX hp))
  have ef : ((lk X day).map (eX X)).map Prod.fst = (lk X day).map (enx X) := by
    rw [List.map_map]
    rfl
  rw [ef] at e1
  rw [gd_mok hI hd, Lw_es h hd]
  have e2 : kgL ((lk X day).map (eX X)) = (srtE ((lk X day).map (enx X)) []).map keyE := e1
  rw [e2]
  refine icl_mok _ _ (srtE_ok _ _ (fun e he => ?_) (fun x hx => by cases hx) srt_nil)
  obtain ⟨p, hp, rfl⟩ := List.mem_map.mp he
  exact okT_E (okT_lk hX hp)
theorem alD_of : ∀ n day, (∀ d, day ≤ d → d < day + n → gdD X d = true) → alD X n day = true
  | 0, _, _ => rfl
  | n + 1, day, h => by rw [alD, h day (Nat.le_refl _) (by omega), alD_of n (day + 1) (fun d h1 h2 => h d (by omega) (by omega))]; rfl
variable {M0 : zM}
theorem sl1 (hI : IV Y X) (hL : Lw X N R D) {w v was : Nat} {x : Int32} (hw : w < 5) (hv : v ≤ mxS w) (F : zP) (hF : ∀ n1 (b : Bool), 236 ≤ n1 → (b = true → gdW X w v = true) → G mL_sets 9 0 0 (some n1) 135 [(0, .ref 8), (1, .ref 233), (2, .ref 234), (3, .ref 235), (5, .int (nI w)), (6, .int (nI v)), (7, .int (nI was)), (8, .int (nI b.toNat))] [] (cM (lM M0 (uN N w v) R D) Y) F) : ∀ u k n0 (b : Bool), k + u = 84 → 236 ≤ n0 → (b = true → uN X w v 3 ≤ uN X w v 4 ∧ (w = 0 → ∀ d, d < k → gdD (uN X 0 v) d = true)) → G mL_sets 9 (2 * u) (27 * u) (some n0) 102 [(0, .ref 8), (1, .ref 233), (2, .ref 234), (3, .ref 235), (5, .int (nI w)), (6, .int (nI v)), (7, .int (nI was)), (8, .int (nI b.toNat)), (9, .int (nI k))] [] (cM (lM M0 (uN N w v) R D) Y) F := by
  have hX := IV_X hI
  have hB := Lw_B hL hX
  have hC := Lw_C hL hX
  obtain ⟨b0, b11, b12, b3, b4⟩ := id hB
  intro u
  induction u with
  | zero =>
    intro k n0 b hk hn0 hQ
    refine g_iload dL_sets_102 rfl ?_
    refine g_bipush (v := nI 84) dL_sets_104 (by decide) ?_
    refine g_icmp_ge_n (tgt := 135) dL_sets_106 (by decide) (by omega) (by omega) (fun h1 => ?_) (fun h1 => ?_)
    · refine g_loc (by rfl) (hF n0 b hn0 (fun hb => ?_))
      obtain ⟨q1, q2⟩ := hQ hb
      unfold gdW
      rw [decide_eq_true q1, Bool.true_and]
      by_cases w0 : w = 0
      · subst w0
        rw [alD_of 84 0 (fun d _ hd => q2 rfl d (by omega)), Bool.or_true]
      · rw [decide_eq_true w0, Bool.true_or]
    · exact absurd h1 (by omega)
  | succ u ih =>
    intro k n0 b hk hn0 hQ
    refine g_iload dL_sets_102 rfl ?_
    refine g_bipush (v := nI 84) dL_sets_104 (by decide) ?_
    refine g_icmp_ge_n (tgt := 135) dL_sets_106 (by decide) (by omega) (by omega) (fun h1 => ?_) (fun h1 => ?_)
    · exact absurd h1 (by omega)
    · refine g_iload dL_sets_109 rfl ?_
      refine g_if_eq_b (tgt := 135) dL_sets_111 (by decide) (fun h2 => ?_) (fun h2 => ?_)
      · subst h2
        exact G.up (g_loc (by rfl) (hF n0 false hn0 (fun q => by cases q))) (Nat.le_refl _) (Nat.zero_le _) (Nat.zero_le _)
      · refine g_iload dL_sets_114 rfl ?_
        refine g_if_ne_n (tgt := 135) dL_sets_116 (by decide) (by omega) (fun h3 => ?_) (fun h3 => ?_)
        · refine G.up (g_loc (by rfl) (hF n0 b hn0 (fun hb => ?_))) (Nat.le_refl _) (Nat.zero_le _) (Nat.zero_le _)
          unfold gdW
          rw [decide_eq_true (hQ hb).1, decide_eq_true h3]
          rfl
        · subst h3
          have hv4 : v ≤ 4 := hv
          have n11 : uN N 0 v 11 = N 11 := uN_n _ _ (by omega)
          have n12 : uN N 0 v 12 = N 12 := uN_n _ _ (by omega)
          have hB' : lB (uN N 0 v) R D := ⟨by rw [uN_s]; exact hv4, by rw [n11]; exact b11, by rw [n12]; exact b12, by rw [n11]; exact b3, by rw [n12]; exact b4⟩
          have hC' : lC (uN N 0 v) R D := ⟨by rw [n11]; exact hC.1, by rw [n12]; exact hC.2⟩
          have hg := kL_isGood (M0 := M0) (Y := Y) hB' hC' (fun q hq => by
            rw [n11, hL.2.1.1] at hq
            have := okT_R hX hq
            rw [Lw_r hL hq (by omega), Lw_r hL hq (by omega)]
            exact Nat.le_of_lt this.2.1) (fun q hq => by
            rw [n12, hL.2.1.2] at hq
            have := okT_D hX hq
            rw [Lw_d hL hq (by omega), Lw_d hL hq (by omega)]
            exact Nat.le_of_lt this.2.1) (day := k) (by omega) hn0
          refine g_aload_n dL_sets_119 rfl ?_
          refine g_aload_n dL_sets_120 rfl ?_
          refine g_aload_n dL_sets_121 rfl ?_
          refine g_iload dL_sets_122 rfl ?_
          refine g_callSn_b (kc1 := 2 * u) (ks1 := 27 * u) hg oL_isGood pL_isGood lL_72 dL_sets_124 rfl rfl (Nat.le_of_ble_eq_true rfl) (Nat.le_of_ble_eq_true rfl) (by decide) (by omega) (by omega) (nf_r _ _) (fun b2 n1 hn1 hb2 => ?_)
          refine g_istore dL_sets_127 (by decide) ?_
          refine g_iinc_n (c := 1) dL_sets_129 rfl (by decide) (by decide) ?_
          refine g_goto (tgt := 102) dL_sets_132 (by decide) ?_
          refine g_loc (by rfl) (ih (k + 1) n1 b2 (by omega) (by omega) (fun hb => ⟨(hQ h2).1, fun _ d hd => ?_⟩))
          by_cases dk : d = k
          · subst dk
            have e0 : uN N 0 v 0 = v := uN_s _ _ _
            have e1 : esA (uN N 0 v) R D d = esA N R D d := by unfold esA; rw [n11, n12]
            have := hb2 hb
            rw [e0, e1, Lw_gd hI hL (by omega)] at this
            exact this
          · exact (hQ h2).2 rfl d (by omega)
theorem kL_sets (hJ : J Y X N R D) (x : Int32) {n0 : Nat} (hn0 : 236 ≤ n0) : Cn mL_sets 9 168 2268 (some n0) [.ref 8, .ref 233, .ref 234, .ref 235, .int x] (cM (lM M0 N R D) Y) (zqI (nI 1) (PJ M0)) := by
  obtain ⟨hI, hL, hb⟩ := hJ
  have hX := IV_X hI
  have hw1 := hX.2.1
  refine g_iload dL_sets_0 rfl ?_
  refine g_iconst (v := nI 5) dL_sets_2 (by decide) ?_
  refine g_callSn_i (kL_low (n := 5) (by omega) (by omega)) oL_low pL_low lL_58 dL_sets_3 rfl rfl (Nat.le_of_ble_eq_true rfl) (Nat.le_of_ble_eq_true rfl) (by first | decide | omega) (Nat.le_refl _) (Nat.le_refl _) (fun _ e => nf_e e) (fun M1 n1 hn1 e => ?_)
  subst e
  have hw : lo x 5 < 5 := lo_lt x (by omega)
  generalize lo x 5 = w at hw ⊢
  have eNw : N w = X w := hL.1 w (by omega)
  have j69 : ∀ v n2, v ≤ mxS w → 236 ≤ n2 → G mL_sets 9 168 2268 (some n2) 69 [(0, .ref 8), (1, .ref 233), (2, .ref 234), (3, .ref 235), (5, .int (nI w))] [.int (nI v)] (cM (lM M0 N R D) Y) (zqI (nI 1) (PJ M0)) := fun v n2 hv hn2 => by
    have hv100 : v ≤ 100 := Nat.le_trans hv (mxS_le w)
    have eN : ∀ j, j < 11 → uN N w v j = uN X w v j := fun j hj => (Lw_low hL (by omega) v).1 j hj
    have bd : ∀ j, j = 3 ∨ j = 4 → uN N w v j < 2 ^ 31 := fun j hj => by
      by_cases e : j = w
      · subst e; rw [uN_s]; omega
      · rw [uN_n _ _ e, hL.1 j (by omega)]
        obtain ⟨-, -, -, q3, q4, -⟩ := hw1
        rcases hj with rfl | rfl <;> omega
    have bd3 := bd 3 (Or.inl rfl)
    have bd4 := bd 4 (Or.inr rfl)
    have jl : ∀ b : Bool, b = decide (uN N w v 3 ≤ uN N w v 4) → G mL_sets 9 168 2268 (some n2) 97 [(0, .ref 8), (1, .ref 233), (2, .ref 234), (3, .ref 235), (5, .int (nI w)), (6, .int (nI v)), (7, .int (nI (X w)))] [.int (nI b.toNat)] (cM (lM M0 (uN N w v) R D) Y) (zqI (nI 1) (PJ M0)) := fun b hb2 => by
      refine g_istore dL_sets_97 (by decide) ?_
      refine g_iconst (v := nI 0) dL_sets_99 (by decide) ?_
      refine g_istore dL_sets_100 (by decide) ?_
      refine g_loc (by rfl) (sl1 (was := X w) (x := x) hI hL hw hv _ (fun n3 b3 hn3 hg => ?_) 84 0 n2 b (by omega) hn2 (fun q => ⟨?_, fun _ d hd => by omega⟩))
      · refine g_iload dL_sets_135 rfl ?_
        refine g_if_ne_b (tgt := 166) dL_sets_137 (by decide) (fun g => ?_) (fun g => ?_)
        · have hg := hg g
          refine g_aload_n dL_sets_166 rfl ?_
          refine g_iload dL_sets_167 rfl ?_
          refine g_iload dL_sets_169 rfl ?_
          refine g_callVn_i (a_set (M0 := lM M0 (uN N w v) R D) hI (w := w) (v := v) (by omega) hv hg) oX5_set pX5_set lL_76 dL_sets_171 rfl (cM_H rfl) rfl rfl rfl (Nat.le_of_ble_eq_true rfl) (Nat.le_of_ble_eq_true rfl) (by first | decide | omega) (fun _ h => by obtain ⟨Y', e, -⟩ := h; exact e ▸ nf_l (by omega)) (fun M1 n4 hn4 e => ?_)
          obtain ⟨Y4, e, hI4⟩ := e
          subst e
          refine g_iload dL_sets_174 rfl ?_
          refine g_icmp_ne (tgt := 183) dL_sets_176 (by decide) (fun h => absurd rfl h) (fun _ => ?_)
          refine g_iconst (v := nI 1) dL_sets_179 (by decide) ?_
          refine g_goto (tgt := 184) dL_sets_180 (by decide) ?_
          exact g_ireturn_b (b := true) dL_sets_184 rfl ⟨rfl, _, _, _, _, Y4, rfl, hI4, Lw_low hL (by omega) v, bal_low hL hb (by omega) v⟩
        · have hc := a_ct (M0 := lM M0 N R D) hI (w := 7 + w) (by omega)
          have ec : cnt0 X 0 (7 + w) = X w := by
            unfold cnt0
            rw [if_neg (by omega), if_neg (by omega), if_neg (by omega), if_neg (by omega), if_neg (by omega), if_neg (by omega), if_neg (by omega), if_neg (by omega), Nat.add_sub_cancel_left]
          rw [ec] at hc
          refine g_aload_n dL_sets_140 rfl ?_
          refine g_iload dL_sets_141 rfl ?_
          refine g_iload dL_sets_143 rfl ?_
          refine g_sN dL_sets_145 (by omega) ?_
          rw [← eNw, uN_b, eNw]
          refine g_aload_n dL_sets_146 rfl ?_
          refine g_bipush (v := nI 7) dL_sets_147 (by decide) ?_
          refine g_iload dL_sets_149 rfl ?_
          refine g_iadd_n dL_sets_151 ?_
          refine g_callVn_i (hc) oX5_count pX5_count lL_51 dL_sets_152 rfl (cM_H rfl) rfl rfl rfl (Nat.le_of_ble_eq_true rfl) (Nat.le_of_ble_eq_true rfl) (by first | decide | omega) (fun _ e => nf_e e) (fun M1 n4 hn4 e => ?_)
          subst e
          refine g_iload dL_sets_155 rfl ?_
          refine g_icmp_ne (tgt := 164) dL_sets_157 (by decide) (fun h => absurd rfl h) (fun _ => ?_)
          refine g_iconst (v := nI 1) dL_sets_160 (by decide) ?_
          refine g_goto (tgt := 165) dL_sets_161 (by decide) ?_
          exact g_ireturn_b (b := true) dL_sets_165 rfl ⟨rfl, X, N, R, D, Y, rfl, hI, hL, hb⟩
      · rw [← eN 3 (by omega), ← eN 4 (by omega)]
        rw [hb2] at q
        exact of_decide_eq_true q
    refine g_istore dL_sets_69 (by decide) ?_
    refine g_aload_n dL_sets_71 rfl ?_
    refine g_iload dL_sets_72 rfl ?_
    refine g_lN dL_sets_74 (by omega) ?_
    rw [eNw]
    refine g_istore dL_sets_75 (by decide) ?_
    refine g_aload_n dL_sets_77 rfl ?_
    refine g_iload dL_sets_78 rfl ?_
    refine g_iload dL_sets_80 rfl ?_
    refine g_sN dL_sets_82 (by omega) ?_
    refine g_aload_n dL_sets_83 rfl ?_
    refine g_iconst (v := nI 3) dL_sets_84 (by decide) ?_
    refine g_lN dL_sets_85 (by omega) ?_
    refine g_aload_n dL_sets_86 rfl ?_
    refine g_iconst (v := nI 4) dL_sets_87 (by decide) ?_
    refine g_lN dL_sets_88 (by omega) ?_
    refine g_icmp_gt_n (tgt := 96) dL_sets_89 (by decide) (by omega) (by omega) (fun g => ?_) (fun g => ?_)
    · refine g_iconst (v := nI 0) dL_sets_96 (by decide) ?_
      exact g_loc (by rfl) (jl false (decide_eq_false (by omega)).symm)
    · refine g_iconst (v := nI 1) dL_sets_92 (by decide) ?_
      refine g_goto (tgt := 97) dL_sets_93 (by decide) ?_
      exact g_loc (by rfl) (jl true (decide_eq_true g).symm)
  refine g_istore dL_sets_6 (by decide) ?_
  refine g_iload dL_sets_8 rfl ?_
  refine g_if_ne_n (tgt := 24) dL_sets_10 (by decide) (by omega) (fun h1 => ?_) (fun h1 => ?_)
  · refine g_iload dL_sets_24 rfl ?_
    refine g_iconst (v := nI 1) dL_sets_26 (by decide) ?_
    refine g_icmp_ne_n (tgt := 42) dL_sets_27 (by decide) (by omega) (by omega) (fun h2 => ?_) (fun h2 => ?_)
    · refine g_iload dL_sets_42 rfl ?_
      refine g_iconst (v := nI 2) dL_sets_44 (by decide) ?_
      refine g_icmp_ne_n (tgt := 60) dL_sets_45 (by decide) (by omega) (by omega) (fun h3 => ?_) (fun h3 => ?_)
      · refine g_iload dL_sets_60 rfl ?_
        refine g_iconst (v := nI 3) dL_sets_62 (by decide) ?_
        refine g_ishr dL_sets_63 ?_
        refine g_bipush (v := nI 12) dL_sets_64 (by decide) ?_
        refine g_callSn_i (kL_low (n := 12) (by omega) (by omega)) oL_low pL_low lL_58 dL_sets_66 rfl rfl (Nat.le_of_ble_eq_true rfl) (Nat.le_of_ble_eq_true rfl) (by first | decide | omega) (Nat.le_refl _) (Nat.le_refl _) (fun _ e => nf_e e) (fun M1 n2 hn2 e => ?_)
        subst e
        have := lo_lt (x >>> (nI 3 &&& 31)) (n := 12) (by omega)
        exact g_loc (by rfl) (j69 _ n2 (by unfold mxS; rw [if_neg (by omega), if_neg (by omega), if_neg (by omega)]; omega) (by omega))
      · refine g_iload dL_sets_48 rfl ?_
        refine g_iconst (v := nI 3) dL_sets_50 (by decide) ?_
        refine g_ishr dL_sets_51 ?_
        refine g_bipush (v := nI 101) dL_sets_52 (by decide) ?_
        refine g_callSn_i (kL_low (n := 101) (by omega) (by omega)) oL_low pL_low lL_58 dL_sets_54 rfl rfl (Nat.le_of_ble_eq_true rfl) (Nat.le_of_ble_eq_true rfl) (by first | decide | omega) (Nat.le_refl _) (Nat.le_refl _) (fun _ e => nf_e e) (fun M1 n2 hn2 e => ?_)
        subst e
        have := lo_lt (x >>> (nI 3 &&& 31)) (n := 101) (by omega)
        refine g_goto (tgt := 69) dL_sets_57 (by decide) ?_
        exact g_loc (by rfl) (j69 _ n2 (by unfold mxS; rw [if_neg (by omega), if_neg (by omega), if_pos (by omega)]; omega) (by omega))
    · refine g_iload dL_sets_30 rfl ?_
      refine g_iconst (v := nI 3) dL_sets_32 (by decide) ?_
      refine g_ishr dL_sets_33 ?_
      refine g_bipush (v := nI 51) dL_sets_34 (by decide) ?_
      refine g_callSn_i (kL_low (n := 51) (by omega) (by omega)) oL_low pL_low lL_58 dL_sets_36 rfl rfl (Nat.le_of_ble_eq_true rfl) (Nat.le_of_ble_eq_true rfl) (by first | decide | omega) (Nat.le_refl _) (Nat.le_refl _) (fun _ e => nf_e e) (fun M1 n2 hn2 e => ?_)
      subst e
      have := lo_lt (x >>> (nI 3 &&& 31)) (n := 51) (by omega)
      refine g_goto (tgt := 69) dL_sets_39 (by decide) ?_
      exact g_loc (by rfl) (j69 _ n2 (by unfold mxS; rw [if_neg (by omega), if_pos (by omega)]; omega) (by omega))
  · refine g_iload dL_sets_13 rfl ?_
    refine g_iconst (v := nI 3) dL_sets_15 (by decide) ?_
    refine g_ishr dL_sets_16 ?_
    refine g_iconst (v := nI 4) dL_sets_17 (by decide) ?_
    refine g_callSn_i (kL_low (n := 4) (by omega) (by omega)) oL_low pL_low lL_58 dL_sets_18 rfl rfl (Nat.le_of_ble_eq_true rfl) (Nat.le_of_ble_eq_true rfl) (by first | decide | omega) (Nat.le_refl _) (Nat.le_refl _) (fun _ e => nf_e e) (fun M1 n2 hn2 e => ?_)
    subst e
    have := lo_lt (x >>> (nI 3 &&& 31)) (n := 4) (by omega)
    refine g_goto (tgt := 69) dL_sets_21 (by decide) ?_
    exact g_loc (by rfl) (j69 _ n2 (by unfold mxS; rw [if_pos (by omega)]; omega) (by omega))
end NQ
