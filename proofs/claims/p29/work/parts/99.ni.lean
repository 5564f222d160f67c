/-! the law's isNext -/
def lnx (X : Nat → Nat) (h hrs : Nat) : Nat → Nat → Int32
  | 0, _ => -1
  | u + 1, k => if k % 24 + hrs ≤ 24 ∧ rsn X h (k / 24) (k % 24) (k % 24 + hrs) 1 = 0 then nI k else lnx X h hrs u (k + 1)
theorem lnx_d {X : Nat → Nat} {h hrs : Nat} (h12 : X 92 ≤ 8) (h1 : 1 ≤ hrs) (n day : Nat) : ∀ g f, f + g = 24 → lnx X h hrs (24 * n + g) (24 * day + f) = match ffH X h hrs day (g + 1) f with | some v => nI v | none => lnx X h hrs (24 * n) (24 * (day + 1))
  | 0, f, hf => by
    have e : f = 24 := by omega
    subst e
    have : ffH X h hrs day (0 + 1) 24 = none := by
      rw [ffH, if_neg (by omega)]
    rw [this]
    rfl
  | g + 1, f, hf => by
    have e1 : (24 * day + f) % 24 = f := by omega
    have e2 : (24 * day + f) / 24 = day := by omega
    have er : rfs X h day f (f + hrs) 1 = rsn X h day f (f + hrs) 1 := by rw [rfs, if_neg (by omega)]
    have ih := lnx_d (h := h) h12 h1 n day g (f + 1) (by omega)
    rw [show 24 * n + (g + 1) = (24 * n + g) + 1 by omega, lnx, e1, e2, ffH, er]
    by_cases hl : f + hrs ≤ 24
    · rw [if_pos hl]
      by_cases hz : rsn X h day f (f + hrs) 1 = 0
      · rw [if_pos ⟨hl, hz⟩, if_pos hz]
      · rw [if_neg (fun q => hz q.2), if_neg hz]
        exact ih
    · rw [if_neg (fun q => hl q.1), if_neg hl, show 24 * day + f + 1 = 24 * day + (f + 1) by omega, ih]
      rw [ffH, if_neg (by omega)]
theorem lnx_f {X : Nat → Nat} {h hrs : Nat} (h12 : X 92 ≤ 8) (h1 : 1 ≤ hrs) : ∀ n day, lnx X h hrs (24 * n) (24 * day) = ffD X h hrs n day
  | 0, _ => rfl
  | n + 1, day => by
    have := lnx_d (h := h) h12 h1 n day 24 0 (by omega)
    rw [show 24 * (n + 1) = 24 * n + 24 by omega, show 24 * day = 24 * day + 0 by omega, this, ffD]
    cases ffH X h hrs day (24 + 1) 0 with
    | none => exact lnx_f h12 h1 n (day + 1)
    | some v => rfl
section LN
variable {M0 : zM} {X N R D : Nat → Nat} {Y : Nat → Nat → Nat}
theorem inx (hX : XG X) (hL : Lw X N R D) {h day hrs : Nat} (hh : h ≤ 2) (h1 : 1 ≤ hrs) (h24 : hrs ≤ 24) (F : zP) : ∀ u k n0, k + u = 2016 → 236 ≤ n0 → (∀ n1, 236 ≤ n1 → G mL_isNext 9 0 0 (some n1) 80 [(0, .ref 8), (1, .ref 233), (2, .ref 234), (3, .ref 235), (4, .int (nI h)), (5, .int (nI day)), (6, .int (nI hrs)), (7, .int (lnx X h hrs u k))] [] (cM (lM M0 N R D) Y) F) → G mL_isNext 9 u (24 * u) (some n0) 10 [(0, .ref 8), (1, .ref 233), (2, .ref 234), (3, .ref 235), (4, .int (nI h)), (5, .int (nI day)), (6, .int (nI hrs)), (7, .int (-1)), (8, .int (nI k))] [] (cM (lM M0 N R D) Y) F := by
  have hB := Lw_B hL hX
  have hC := Lw_C hL hX
  obtain ⟨b0, b11, b12, -, -⟩ := id hB
  intro u
  induction u with
  | zero =>
    intro k n0 hk hn0 hF
    refine g_iload dL_isNext_10 rfl ?_
    refine g_sipush (v := nI 2016) dL_isNext_12 (by decide) ?_
    refine g_icmp_ge_n (tgt := 80) dL_isNext_15 (by decide) (by omega) (by omega) (fun h2 => ?_) (fun h2 => ?_)
    · exact g_loc (by rfl) (hF n0 hn0)
    · exact absurd h2 (by omega)
  | succ u ih =>
    intro k n0 hk hn0 hF
    have hk24 : k / 24 < 84 := by omega
    have skip : (¬ (k % 24 + hrs ≤ 24 ∧ rsn X h (k / 24) (k % 24) (k % 24 + hrs) 1 = 0)) → ∀ n1, 236 ≤ n1 → G mL_isNext 9 u (24 * u) (some n1) 71 [(0, .ref 8), (1, .ref 233), (2, .ref 234), (3, .ref 235), (4, .int (nI h)), (5, .int (nI day)), (6, .int (nI hrs)), (8, .int (nI k))] [] (cM (lM M0 N R D) Y) F := fun hn n1 hn1 => by
      refine g_iconst (v := (-1)) dL_isNext_71 (by decide) ?_
      refine g_istore dL_isNext_72 (by decide) ?_
      refine g_iinc_n (c := 1) dL_isNext_74 rfl (by decide) (by decide) ?_
      refine g_goto (tgt := 10) dL_isNext_77 (by decide) ?_
      refine g_loc (by rfl) (ih (k + 1) n1 (by omega) hn1 (fun n2 hn2 => ?_))
      have := hF n2 hn2
      rw [lnx, if_neg hn] at this
      exact this
    refine g_iload dL_isNext_10 rfl ?_
    refine g_sipush (v := nI 2016) dL_isNext_12 (by decide) ?_
    refine g_icmp_ge_n (tgt := 80) dL_isNext_15 (by decide) (by omega) (by omega) (fun h2 => ?_) (fun h2 => ?_)
    · exact absurd h2 (by omega)
    · refine g_iload dL_isNext_18 rfl ?_
      refine g_if_ge (tgt := 80) dL_isNext_20 (by decide) (fun q => absurd q (by decide)) (fun _ => ?_)
      refine g_iload dL_isNext_23 rfl ?_
      refine g_bipush (v := nI 24) dL_isNext_25 (by decide) ?_
      refine g_irem_n dL_isNext_27 (by omega) (by omega) (by omega) ?_
      refine g_iload dL_isNext_28 rfl ?_
      refine g_iadd_n dL_isNext_30 ?_
      refine g_bipush (v := nI 24) dL_isNext_31 (by decide) ?_
      refine g_icmp_gt_n (tgt := 71) dL_isNext_33 (by decide) (by omega) (by omega) (fun h3 => ?_) (fun h3 => ?_)
      · exact G.up (g_loc (by rfl) (skip (fun q => by omega) n0 hn0)) (Nat.le_refl _) (by omega) (by omega)
      · refine g_aload_n dL_isNext_36 rfl ?_
        refine g_aload_n dL_isNext_37 rfl ?_
        refine g_aload_n dL_isNext_38 rfl ?_
        refine g_iload dL_isNext_39 rfl ?_
        refine g_iload dL_isNext_41 rfl ?_
        refine g_bipush (v := nI 24) dL_isNext_43 (by decide) ?_
        refine g_idiv_n dL_isNext_45 (by omega) (by omega) (by omega) ?_
        refine g_iload dL_isNext_46 rfl ?_
        refine g_bipush (v := nI 24) dL_isNext_48 (by decide) ?_
        refine g_irem_n dL_isNext_50 (by omega) (by omega) (by omega) ?_
        refine g_iload dL_isNext_51 rfl ?_
        refine g_bipush (v := nI 24) dL_isNext_53 (by decide) ?_
        refine g_irem_n dL_isNext_55 (by omega) (by omega) (by omega) ?_
        refine g_iload dL_isNext_56 rfl ?_
        refine g_iadd_n dL_isNext_58 ?_
        refine g_iconst (v := nI 1) dL_isNext_59 (by decide) ?_
        refine g_callSn_i (kc1 := u) (ks1 := (24*u)) (kL_reason (h := h) (day := k / 24) (f := k % 24) (t := k % 24 + hrs) (rk := 1) hB hC ⟨hh, by show k % 24 ≤ 24; omega, by show k % 24 + hrs ≤ 24; omega⟩ hk24 (by decide) hn0) oL_reason pL_reason lL_30 dL_isNext_60 rfl rfl (Nat.le_of_ble_eq_true rfl) (Nat.le_of_ble_eq_true rfl) (by first | decide | omega) (by omega) (by omega) (fun _ e => nf_e e) (fun M1 n1 hn1 e => ?_)
        subst e
        rw [Lw_rs hL hX hh hk24 (by omega) (by omega)]
        have hle := rsnR_le X h (k % 24) (k % 24 + hrs) 1 (lk X (k / 24)) []
        have hle : rsn X h (k / 24) (k % 24) (k % 24 + hrs) 1 ≤ 3 := hle
        refine g_if_ne_n (tgt := 71) dL_isNext_63 (by decide) (by omega) (fun h4 => ?_) (fun h4 => ?_)
        · exact g_loc (by rfl) (skip (fun q => h4 q.2) n1 (by omega))
        · refine g_iload dL_isNext_66 rfl ?_
          refine g_goto (tgt := 72) dL_isNext_68 (by decide) ?_
          refine g_istore dL_isNext_72 (by decide) ?_
          refine g_iinc_n (c := 1) dL_isNext_74 rfl (by decide) (by decide) ?_
          refine g_goto (tgt := 10) dL_isNext_77 (by decide) ?_
          have hF := hF
          rw [lnx, if_pos ⟨by omega, h4⟩] at hF
          refine g_iload dL_isNext_10 rfl ?_
          refine g_sipush (v := nI 2016) dL_isNext_12 (by decide) ?_
          refine g_icmp_ge_n (tgt := 80) dL_isNext_15 (by decide) (by omega) (by omega) (fun h5 => ?_) (fun h5 => ?_)
          · exact G.up (g_loc (by rfl) (hF n1 (by omega))) (Nat.le_refl _) (by omega) (by omega)
          · refine g_iload dL_isNext_18 rfl ?_
            refine g_if_ge_n (tgt := 80) dL_isNext_20 (by decide) (by omega) (fun h6 => ?_) (fun h6 => ?_)
            · exact G.up (g_loc (by rfl) (hF n1 (by omega))) (Nat.le_refl _) (by omega) (by omega)
            · exact absurd h6 (by omega)
theorem kL_isNext (hI : IV Y X) (hL : Lw X N R D) {h day hrs n0 : Nat} (hh : h ≤ 2) (hd : day < 84) (h1 : 1 ≤ hrs) (h24 : hrs ≤ 24) (hn0 : 236 ≤ n0) : Cn mL_isNext 9 2016 48384 (some n0) [.ref 8, .ref 233, .ref 234, .ref 235, .int (nI h), .int (nI day), .int (nI hrs)] (cM (lM M0 N R D) Y) (zqI (nI 1) (fun M' => ∃ Y', M' = cM (lM M0 N R D) Y' ∧ IV Y' X)) := by
  have hc := a_nf (M0 := lM M0 N R D) hI hh hd h1 h24
  rw [← lnx_f hL.2.2.1.2 h1, show 24 * (84 - day) = 2016 - 24 * day by omega] at hc
  refine g_iconst (v := (-1)) dL_isNext_0 (by decide) ?_
  refine g_istore dL_isNext_1 (by decide) ?_
  refine g_bipush (v := nI 24) dL_isNext_3 (by decide) ?_
  refine g_iload dL_isNext_5 rfl ?_
  refine g_imul_n dL_isNext_7 ?_
  refine g_istore dL_isNext_8 (by decide) ?_
  refine G.up (g_loc (by rfl) (inx (IV_X hI) hL hh h1 h24 _ (2016 - 24 * day) (24 * day) n0 (by omega) hn0 (fun n1 hn1 => ?_))) (Nat.le_refl _) (by omega) (by omega)
  refine g_aload_n dL_isNext_80 rfl ?_
  refine g_iload dL_isNext_81 rfl ?_
  refine g_iload dL_isNext_83 rfl ?_
  refine g_iload dL_isNext_85 rfl ?_
  refine g_callVn_i (hc) oX5_nextFree pX5_nextFree lL_110 dL_isNext_87 rfl (cM_H rfl) rfl rfl rfl (Nat.le_of_ble_eq_true rfl) (Nat.le_of_ble_eq_true rfl) (by first | decide | omega) (fun _ h => by obtain ⟨Y', e, -⟩ := h; exact e ▸ nf_l hn1) (fun M1 n2 hn2 e => ?_)
  obtain ⟨Y', e, hI'⟩ := e
  subst e
  refine g_iload dL_isNext_90 rfl ?_
  refine g_icmp_ne (tgt := 99) dL_isNext_92 (by decide) (fun h => absurd rfl h) (fun _ => ?_)
  refine g_iconst (v := nI 1) dL_isNext_95 (by decide) ?_
  refine g_goto (tgt := 100) dL_isNext_96 (by decide) ?_
  exact g_ireturn_b (b := true) dL_isNext_100 rfl ⟨rfl, _, rfl, hI'⟩
end LN
