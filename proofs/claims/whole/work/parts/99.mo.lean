/-! the law: its begin -/
theorem ty_X5 : ∃ ty : Nat → FieldType, (∀ k, k < rX5.2.2 → parseFieldDescriptor (rX5.2.1 k).2.2.1 = some (ty k)) ∧ ∀ j, j < rX5.2.2 → defaultValue (ty j) = vp_V d5 j := ⟨tyX5, tyX5_ok, by decide +kernel⟩
theorem ty_X6 : ∃ ty : Nat → FieldType, (∀ k, k < rX6.2.2 → parseFieldDescriptor (rX6.2.1 k).2.2.1 = some (ty k)) ∧ ∀ j, j < rX6.2.2 → defaultValue (ty j) = vp_V X6_def j := ⟨tyX6, tyX6_ok, by decide +kernel⟩
theorem Y0_in {b j : Nat} (hb : ∃ k, k < 6 ∧ b = 71 + 27 * k) (hj : j < 27) : Y0 (b + j) = s0 b j := by
  obtain ⟨k, hk, rfl⟩ := hb
  unfold Y0
  rw [if_neg (by omega), if_neg (by omega), if_pos (by omega), show (71 + 27 * k + j - 71) / 27 = k by omega, show (71 + 27 * k + j - 71) % 27 = j by omega]
theorem Y0_9 {j : Nat} (hj : j < 27) : Y0 (9 + j) = s0 9 j := by
  unfold Y0
  rw [if_neg (by omega), if_pos (by omega), show (9 + j - 9) / 27 = 0 by omega, show (9 + j - 9) % 27 = j by omega]
theorem Y0_36 {j : Nat} (hj : j < 27) : Y0 (36 + j) = s0 36 j := by
  unfold Y0
  rw [if_neg (by omega), if_pos (by omega), show (36 + j - 9) / 27 = 1 by omega, show (36 + j - 9) % 27 = j by omega]
theorem rP_0 {Y : Nat → Nat → Nat} {b : Nat} (h : ∀ j, j < 27 → Y (b + j) = s0 b j) : rP Y (b + 1) 8 ∧ rP Y (b + 11) 12 := by
  have e1 : Y (b + 1 + 1) = fun i => b + 3 + i := h 2 (by omega)
  have e2 : Y (b + 11 + 1) = fun i => b + 13 + i := h 12 (by omega)
  unfold rP
  rw [e1, e2]
  exact ⟨⟨fun i hi => by dsimp only; omega, fun i j hi hj q => by dsimp only at q; omega⟩, fun i hi => by dsimp only; omega, fun i j hi hj q => by dsimp only at q; omega⟩
theorem XG_0 : XG rfX := by
  have e : ∀ j, rfX j = (if j = 7 then 2500 else if j = 6 then 1500 else if j = 5 then 1000 else if j = 4 then 11 else if j = 2 then 50 else if j = 1 then 20 else if j = 0 then 1 else 0) := fun j => rfl
  have e11 : rfX 11 = 0 := rfl
  have e92 : rfX 92 = 0 := rfl
  refine ⟨⟨fun j _ _ _ _ => ?_, by rw [e11]; omega, by rw [e92]; omega⟩, by unfold wf1; decide, ⟨fun i hi => by rw [e11] at hi; omega, fun i hi => by rw [e92] at hi; omega⟩, fun d hd => ?_⟩
  · rw [e]
    repeat' split
    all_goals omega
  · rw [lk, e11, e92]
    exact List.Pairwise.nil
theorem Inv_0 : Inv Y0 rfX (fun _ _ => 0) (fun _ => 0) 0 0 := by
  have h9 := rP_0 (Y := Y0) (b := 9) (fun j hj => Y0_9 hj)
  have h36 := rP_0 (Y := Y0) (b := 36) (fun j hj => Y0_36 hj)
  refine ⟨Sd_of h9.1 h9.2 ⟨?_, ?_, ⟨rfl, rfl, rfl⟩, ⟨rfl, rfl⟩, fun i hi => absurd hi (by show ¬ i < 0; omega), fun i hi => absurd hi (by show ¬ i < 0; omega)⟩ XG_0, ⟨⟨fun i hi => ⟨i, hi, rfl⟩, fun i j hi hj q => ?_, fun k hk => rP_0 (fun j hj => Y0_in ⟨k, hk, rfl⟩ hj)⟩, rfl, by omega, fun i hi => by omega⟩, ⟨h36.1, h36.2, rfl, Or.inl rfl, fun q => by cases q⟩, ⟨fun j hj => ?_, ?_⟩⟩
  · decide
  · decide
  · have q : 71 + 27 * i = 71 + 27 * j := q
    omega
  · show (0 : Nat) < 1048576
    omega
  · show (0 : Nat) < 4096
    omega
theorem InT_0 : InT Y0 (fun _ => 0) 0 := ⟨rfl, by omega, rfl, fun j => by show (0 : Nat) < 128; omega, fun j hj => by show (0 : Nat) ≤ 83; omega⟩
section BEGIN
variable {L : Nat} {xs : Nat → Int32}
theorem law0 (hL : L ≤ 3584) (F : zP) (hF : ∀ M', LI M' → F M' none (.inl (some (.int (nI 1))))) : G (mLaw L xs) 11 601024 7293034 (some 8) 0 [(0, .ref 0)] [] (fun _ => none) F := by
  refine G_more (kc := 749) (ks := 6759) ?_ (by omega) (by omega)
  refine g_new (ci := 5) (r := rX5) (fs := d5) (kc1 := 748) (ks1 := 6751) rfl q91 q92 q69 dL_law_0 ty_X5 (fun g => rfl) rfl rfl ?_
  refine g_dup dL_law_3 rfl ?_
  refine g_callI (kc1 := 524) (ks1 := 4725) (kX5_init (M := fun _ => none)) oX5_init pX5_init lL_84 dL_law_4 (S := [.ref 8]) (As := []) rfl rfl (Nat.le_of_ble_eq_true rfl) (Nat.le_of_ble_eq_true rfl) (by decide) (Nat.le_refl _) (Nat.le_refl _) ?_ ?_
  · rintro M1 nx1 E ⟨-, h, -⟩
    cases h
  rintro M1 nx1 v ⟨rfl, h, rfl⟩
  cases h
  show G _ _ _ _ _ _ _ [.ref 8] _ _
  refine g_astore_n dL_law_7 (show 1 < 10 by decide) ?_
  refine g_new (ci := 6) (r := rX6) (fs := X6_def) (kc1 := 523) (ks1 := 4706) rfl q887 q888 q75 dL_law_8 ty_X6 (fun g => rfl) rfl rfl ?_
  refine g_dup dL_law_11 rfl ?_
  refine g_callI (kc1 := 514) (ks1 := 3074) (kX6_init (M0 := cM (fun _ => none) Y0) rfl) oX6_init pX6_init lL_87 dL_law_12 (S := [.ref 233]) (As := []) rfl rfl (Nat.le_of_ble_eq_true rfl) (Nat.le_of_ble_eq_true rfl) (by decide) (Nat.le_refl _) (Nat.le_refl _) ?_ ?_
  · rintro M1 nx1 E ⟨-, h, -⟩
    cases h
  rintro M1 nx1 v ⟨rfl, h, rfl⟩
  cases h
  show G _ _ _ _ _ _ _ [.ref 233] _ _
  refine g_astore_n dL_law_15 (show 2 < 10 by decide) ?_
  refine g_iconst (v := nI 1) dL_law_16 (by decide) ?_
  refine g_newa (t := 1) (N := 1) (ty := .long) (x := (1, .inr (.inl (fun _ => 0)))) (kc1 := 513) (ks1 := 3073) dL_law_17 rfl q1289 (fun g => rfl) (fun U cA h => h) (fun cA r => rfl) (by decide) rfl (by decide) rfl rfl ?_
  refine g_astore_n dL_law_19 (show 3 < 10 by decide) ?_
  refine g_iconst (v := nI 1) dL_law_20 (by decide) ?_
  refine g_newa (t := 2) (N := 1) (ty := .double) (x := (1, .inr (.inr (.inr (.inl (fun _ => 0)))))) (kc1 := 512) (ks1 := 3072) dL_law_21 rfl q1290 (fun g => rfl) (fun U cA h => h) (fun cA r => rfl) (by decide) rfl (by decide) rfl rfl ?_
  refine g_astore dL_law_23 (show 4 < 10 by decide) ?_
  refine g_iconst (v := nI 0) dL_law_25 (by decide) ?_
  refine g_istore dL_law_26 (show 5 < 10 by decide) ?_
  refine G_none ?_
  have hM : zu (zu (mM (cM (fun _ => none) Y0) rfX (fun _ => 0) (fun _ => 0) (fun _ => 0) (fun _ => 0) (fun _ => 0) (fun _ => 0) (fun _ => 0) (fun _ => 0) 0 0 0 0 0 0 0 0 0 0) 243 (lA (fun _ => 0))) 244 (dA (fun _ => 0)) = cM (mM (oM (fun _ => 0) (fun _ => 0)) rfX (SVf (fun _ _ => 0)) (fun _ => 0) (fun _ => 0) (fun _ => 0) (fun _ => 0) (fun _ => 0) (fun _ => 0) (fun _ => 0) 0 0 0 0 0 0 0 0 0 0) Y0 := by
    rw [cm_comm]
    funext q
    rw [zu_ite, zu_ite]
    by_cases h4 : q = 244
    · subst h4; rfl
    · rw [if_neg h4]
      by_cases h3 : q = 243
      · subst h3; rfl
      · rw [if_neg h3]
        have e : ∀ q, q ≠ 243 → q ≠ 244 → oM (fun _ => 0) (fun _ => 0) q = none := fun q h h' => by unfold oM; rw [if_neg h, if_neg h']
        have e2 : cM (oM (fun _ => 0) (fun _ => 0)) Y0 q = cM (fun _ => none) Y0 q := by
          unfold cM
          rw [e q h3 h4]
        unfold mM
        rw [e2]
        rfl
  refine g_m hM ?_
  have hLI : LI (cM (mM (oM (fun _ => 0) (fun _ => 0)) rfX (SVf (fun _ _ => 0)) (fun _ => 0) (fun _ => 0) (fun _ => 0) (fun _ => 0) (fun _ => 0) (fun _ => 0) (fun _ => 0) 0 0 0 0 0 0 0 0 0 0) Y0) := ⟨_, _, Y0, rfX, fun _ _ => 0, _, _, _, _, _, _, _, 0, 0, 0, 0, 0, 0, 0, 0, 0, 0, rfl, Inv_0, InT_0⟩
  generalize cM (mM (oM (fun _ => 0) (fun _ => 0)) rfX (SVf (fun _ _ => 0)) (fun _ => 0) (fun _ => 0) (fun _ => 0) (fun _ => 0) (fun _ => 0) (fun _ => 0) (fun _ => 0) 0 0 0 0 0 0 0 0 0 0) Y0 = M at hLI
  refine g_loc (L' := lwl 0) rfl ?_
  by_cases h7 : 7 ≤ L
  · exact law1 (by omega) h7 F hF 512 0 M (Nat.zero_le _) (by omega) hLI
  · refine g_iload dL_law_28 rfl ?_
    refine g_aload_n dL_law_30 rfl ?_
    refine g_slen rfl dL_law_31 ?_
    refine g_bipush (v := nI 7) dL_law_32 (by decide) ?_
    refine g_isub dL_law_34 ?_
    refine g_icmp_gt (tgt := 1764) dL_law_35 (by decide) (fun _ => ?_) (fun q => absurd ?_ q)
    · refine g_iconst (v := nI 1) dL_law_1764 (by decide) ?_
      exact g_ireturn dL_law_1765 rfl rfl (hF M hLI)
    · have : ∀ L, L < 7 → nI L - nI 7 < nI 0 := by decide
      exact this L (by omega)
end BEGIN
