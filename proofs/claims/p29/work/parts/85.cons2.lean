/-! the class: a new diary -/
abbrev d2 : List Value := [.null, .int (nI 0), .null, .int (nI 0), .int (nI 0)]
abbrev d0 : List Value := [.null, .int (nI 0), .null, .int (nI 0)]
abbrev d5 : List Value := [.null, .null, .int (nI 0), .null, .int (nI 0), .null, .null, .null]
def txF (M : zM) (a : Nat) : zM := fun q => if q = a then some (.inr (2, [.ref (a + 1), .int (nI 0), .ref (a + 2), .int (nI 0), .int (nI 0)])) else if q = a + 1 then some (iA 60 (fun _ => 0)) else if q = a + 2 then some (iA 6 (fun _ => 0)) else M q
def plF (M : zM) (a : Nat) : zM := fun q => if q = a then some (.inr (0, [.ref (a + 1), .int (nI 0), .ref (a + 2), .int (nI 0)])) else if q = a + 1 then some (aR 3 20 (fun _ => none)) else if q = a + 2 then some (iA 3 (fun _ => 0)) else M q
def svm (M : zM) (k : Nat) : zM := fun q => if q = 63 then some (aR 4 6 (fun j => if j < k then some (71 + 27 * j) else none)) else if 71 ≤ q ∧ q < 71 + 27 * k then some (shp (ko ((q - 71) % 27)) q (s0 (71 + 27 * ((q - 71) / 27)) ((q - 71) % 27))) else M q
def Y0 : Nat → Nat → Nat := fun a => if a = 63 then (fun i => 71 + 27 * i) else if 9 ≤ a ∧ a < 63 then s0 (9 + 27 * ((a - 9) / 27)) ((a - 9) % 27) else if 71 ≤ a ∧ a < 233 then s0 (71 + 27 * ((a - 71) / 27)) ((a - 71) % 27) else fun _ => 0
theorem stF_o {M : zM} {b q : Nat} (h : q < b ∨ b + 27 ≤ q) : stF M b q = M q := by
  unfold stF
  rw [if_neg (by omega)]
theorem stF_i {M : zM} {b q : Nat} (h : b ≤ q ∧ q < b + 27) : stF M b q = some (shp (ko (q - b)) q (s0 b (q - b))) := if_pos h
theorem svm_s (M : zM) (k : Nat) : zu (stF (svm M k) (71 + 27 * k)) 63 (aR 4 6 (va_up (fun j => if j < k then some (71 + 27 * j) else none) k (some (71 + 27 * k)))) = svm M (k + 1) := by
  funext q
  simp only [zu_ite, svm]
  by_cases h1 : q = 63
  · rw [if_pos h1, if_pos h1]
    have e : va_up (fun j => if j < k then some (71 + 27 * j) else none) k (some (71 + 27 * k)) = fun j => if j < k + 1 then some (71 + 27 * j) else none := by
      funext j
      by_cases hj : j = k
      · subst hj; simp [va_up]
      · simp only [va_up, if_neg hj]
        by_cases hj2 : j < k
        · rw [if_pos hj2, if_pos (by omega)]
        · rw [if_neg hj2, if_neg (by omega)]
    rw [e]
  · rw [if_neg h1, if_neg h1]
    by_cases h2 : 71 + 27 * k ≤ q ∧ q < 71 + 27 * k + 27
    · rw [stF_i h2, if_pos (by omega), show (q - 71) % 27 = q - (71 + 27 * k) by omega, show (q - 71) / 27 = k by omega]
    · rw [stF_o (by omega)]
      unfold svm
      rw [if_neg h1]
      by_cases h3 : 71 ≤ q ∧ q < 71 + 27 * k
      · rw [if_pos h3, if_pos (by omega)]
      · rw [if_neg h3, if_neg (by omega)]
theorem kq_a : ∀ q, q < 233 → 9 ≤ q → q < 63 → kq q = ko ((q - 9) % 27) := by decide +kernel
theorem kq_b : ∀ q, q < 233 → 71 ≤ q → kq q = ko ((q - 71) % 27) := by decide +kernel
theorem kq_99 {q : Nat} (h : q < 8 ∨ 233 ≤ q) : kq q = 99 := by
  rcases h with h | h
  · exact (show ∀ q, q < 8 → kq q = 99 by decide) q h
  · unfold kq
    rw [show Nat.ble 233 q = true from Nat.ble_eq.mpr h]
    rfl
theorem ty_X4 : ∃ ty : Nat → FieldType, (∀ k, k < rX4.2.2 → parseFieldDescriptor (rX4.2.1 k).2.2.1 = some (ty k)) ∧ ∀ j, j < rX4.2.2 → defaultValue (ty j) = vp_V d4 j := ⟨tyX4, tyX4_ok, by decide +kernel⟩
theorem ty_X2 : ∃ ty : Nat → FieldType, (∀ k, k < rX2.2.2 → parseFieldDescriptor (rX2.2.1 k).2.2.1 = some (ty k)) ∧ ∀ j, j < rX2.2.2 → defaultValue (ty j) = vp_V d2 j := ⟨tyX2, tyX2_ok, by decide +kernel⟩
theorem ty_X0 : ∃ ty : Nat → FieldType, (∀ k, k < rX0.2.2 → parseFieldDescriptor (rX0.2.1 k).2.2.1 = some (ty k)) ∧ ∀ j, j < rX0.2.2 → defaultValue (ty j) = vp_V d0 j := ⟨tyX0, tyX0_ok, by decide +kernel⟩
section CONS2
variable {M M0 : zM}
theorem kX2_init {a : Nat} (ha : 8 ≤ a) : Cn mX2_init 1 2 66 (some (a + 1)) [.ref a] (zu M a (.inr (2, d2))) (zn (a + 3) (fun M' => M' = txF M a)) := by
  refine g_aload_n dX2_init_0 rfl ?_
  refine g_objInit lO_X2_1 dX2_init_1 (by decide) (by decide) ?_
  refine g_aload_n dX2_init_4 rfl ?_
  refine g_bipush (v := nI 60) dX2_init_5 (by decide) ?_
  refine g_newi (N := 60) (kc1 := 1) (ks1 := 6) dX2_init_7 (by decide) rfl rfl ?_
  refine g_putF (r := rX2) (fs := d2) fX2_9 ⟨rfl, rfl⟩ dX2_init_9 (by rw [zu_n _ _ (by omega), zu_s]) (by decide) rfl rfl (by omega) ?_
  refine g_aload_n dX2_init_12 rfl ?_
  refine g_bipush (v := nI 6) dX2_init_13 (by decide) ?_
  refine g_newi (N := 6) (kc1 := 0) (ks1 := 0) dX2_init_15 (by decide) rfl rfl ?_
  refine g_putF (r := rX2) (fs := d2.set 0 (.ref (a + 1))) fX2_13 ⟨rfl, rfl⟩ dX2_init_17 (by rw [zu_n _ _ (by omega), zu_s]) (by show 2 < 5; omega) rfl rfl (by omega) ?_
  refine g_return dX2_init_20 rfl ⟨rfl, rfl, ?_⟩
  funext q
  simp only [zu_ite, txF]
  by_cases h1 : q = a
  · rw [if_pos h1, if_pos h1]
    rfl
  rw [if_neg h1, if_neg h1]
  by_cases h2 : q = a + 1
  · rw [if_neg (by omega), if_neg h1, if_pos h2, if_neg h1, if_pos h2]
  by_cases h3 : q = a + 2
  · rw [if_pos (by omega), if_neg h1, if_neg h2, if_pos h3]
  rw [if_neg (by omega), if_neg h1, if_neg h2, if_neg h1, if_neg h2, if_neg h3]
theorem kX0_init {a : Nat} (ha : 8 ≤ a) : Cn mX0_init 1 2 23 (some (a + 1)) [.ref a] (zu M a (.inr (0, d0))) (zn (a + 3) (fun M' => M' = plF M a)) := by
  refine g_aload_n dX0_init_0 rfl ?_
  refine g_objInit lO_X0_3 dX0_init_1 (by decide) (by decide) ?_
  refine g_aload_n dX0_init_4 rfl ?_
  refine g_bipush (v := nI 20) dX0_init_5 (by decide) ?_
  refine g_anew (t := 3) (N := 20) (C0 := RX1) (kc1 := 1) (ks1 := 3) dX0_init_7 q180 z_AO1 (fun g => rfl) (by decide) (by decide) (by decide) rfl rfl ?_
  refine g_putF (r := rX0) (fs := d0) fX0_11 ⟨rfl, rfl⟩ dX0_init_10 (by rw [zu_n _ _ (by omega), zu_s]) (by decide) rfl rfl (by omega) ?_
  refine g_aload_n dX0_init_13 rfl ?_
  refine g_iconst (v := nI 3) dX0_init_14 (by decide) ?_
  refine g_newi (N := 3) (kc1 := 0) (ks1 := 0) dX0_init_15 (by decide) rfl rfl ?_
  refine g_putF (r := rX0) (fs := d0.set 0 (.ref (a + 1))) fX0_17 ⟨rfl, rfl⟩ dX0_init_17 (by rw [zu_n _ _ (by omega), zu_s]) (by show 2 < 4; omega) rfl rfl (by omega) ?_
  refine g_return dX0_init_20 rfl ⟨rfl, rfl, ?_⟩
  funext q
  simp only [zu_ite, plF]
  by_cases h1 : q = a
  · rw [if_pos h1, if_pos h1]
    rfl
  rw [if_neg h1, if_neg h1]
  by_cases h2 : q = a + 1
  · rw [if_neg (by omega), if_neg h1, if_pos h2, if_neg h1, if_pos h2]
  by_cases h3 : q = a + 2
  · rw [if_pos (by omega), if_neg h1, if_neg h2, if_pos h3]
  rw [if_neg (by omega), if_neg h1, if_neg h2, if_neg h1, if_neg h2, if_neg h3]
abbrev h5 : List Value := [.ref 9, .ref 36, .int (nI 0), .ref 63, .int (nI 0), .ref 64, .ref 67, .ref 70]
theorem xi5 (hM : M 8 = some (.inr (5, h5))) (F : zP) (hF : G mX5_init 5 0 0 (some 233) 95 [] [] (zu (svm M 6) 63 (aR 4 6 (fun j => some (71 + 27 * j)))) F) : ∀ u k, k + u = 6 → G mX5_init 5 (27 * u) (239 * u) (some (71 + 27 * k)) 70 [(0, .ref 8), (1, .int (nI k))] [] (svm M k) F := by
  have e8 : ∀ k, svm M k 8 = some (.inr (5, h5)) := fun k => by
    unfold svm
    rw [if_neg (by omega), if_neg (by omega)]
    exact hM
  have e63 : ∀ k, svm M k 63 = some (aR 4 6 (fun j => if j < k then some (71 + 27 * j) else none)) := fun k => if_pos rfl
  intro u
  induction u with
  | zero =>
    intro k hk
    have : k = 6 := by omega
    subst this
    refine g_iload_n dX5_init_70 rfl ?_
    refine g_bipush (v := nI 6) dX5_init_71 (by decide) ?_
    refine g_icmp_ge_n (tgt := 95) dX5_init_73 (by decide) (by omega) (by omega) (fun h1 => ?_) (fun h1 => ?_)
    · exact g_loc rfl (g_arrq (e63 6) (f' := fun j => some (71 + 27 * j)) (fun j hj => if_pos hj) hF)
    · omega
  | succ u ih =>
    intro k hk
    refine g_iload_n dX5_init_70 rfl ?_
    refine g_bipush (v := nI 6) dX5_init_71 (by decide) ?_
    refine g_icmp_ge_n (tgt := 95) dX5_init_73 (by decide) (by omega) (by omega) (fun h1 => ?_) (fun h1 => ?_)
    · omega
    refine g_aload_n dX5_init_76 rfl ?_
    refine g_get fX5_19 dX5_init_77 (e8 k) rfl ?_
    refine g_iload_n dX5_init_80 rfl ?_
    refine g_new (ci := 4) (r := rX4) (fs := d4) (kc1 := 27 * u + 26) (ks1 := 239 * u + 232) rfl q41 q42 q19 dX5_init_81 ty_X4 (fun g => rfl) (by omega) (by show 239 * (u + 1) = 239 * u + 232 + 7; omega) ?_
    refine g_dup dX5_init_84 rfl ?_
    refine g_callIN (kc1 := 27 * u) (ks1 := 239 * u) (kX4_init (M := svm M k) (b := 71 + 27 * k) (by omega)) oX4_init pX4_init lX5_9 dX5_init_85 (S := [.ref (71 + 27 * k), .int (nI k), .ref 63]) (As := []) rfl rfl (Nat.le_of_ble_eq_true rfl) (Nat.le_of_ble_eq_true rfl) (by decide) (Nat.le_refl _) (Nat.le_refl _) ?_ ?_
    · rintro M1 nx1 E ⟨-, h, -⟩
      cases h
    rintro M1 nx1 v ⟨rfl, h, rfl⟩
    cases h
    refine g_aast (t := 4) (ci := 4) (r := rX4) (n := 6) dX5_init_88 (fun g => rfl) (by rw [stF_o (by omega)]; exact e63 k) (by rw [stF_i (by omega), show 71 + 27 * k - (71 + 27 * k) = 0 by omega]; rfl) rfl (vp_in_nI (by omega) (by omega)) (by omega) ?_
    refine g_m (M' := svm M (k + 1)) (by rw [nI_clamp (by omega)]; exact svm_s M k) ?_
    refine g_iinc_n (c := 1) dX5_init_89 rfl (by decide) (by decide) ?_
    refine g_goto (tgt := 70) dX5_init_92 (by decide) ?_
    exact g_loc rfl (ih (k + 1) (by omega))
theorem kX5_init : Cn mX5_init 5 224 2026 (some 9) [.ref 8] (zu M 8 (.inr (5, d5))) (zn 233 (fun M' => M' = cM M Y0)) := by
  refine g_aload_n dX5_init_0 rfl ?_
  refine g_objInit lO_X5_1 dX5_init_1 (by decide) (by decide) ?_
  refine g_aload_n dX5_init_4 rfl ?_
  refine g_new (ci := 4) (r := rX4) (fs := d4) (kc1 := 223) (ks1 := 2019) rfl q41 q42 q19 dX5_init_5 ty_X4 (fun g => rfl) rfl rfl ?_
  refine g_dup dX5_init_8 rfl ?_
  refine g_callIN (kc1 := 197) (ks1 := 1787) (kX4_init (M := zu M 8 (.inr (5, d5))) (b := 9) (by omega)) oX4_init pX4_init lX5_9 dX5_init_9 (S := [.ref 9, .ref 8]) (As := []) rfl rfl (Nat.le_of_ble_eq_true rfl) (Nat.le_of_ble_eq_true rfl) (by decide) (Nat.le_refl _) (Nat.le_refl _) ?_ ?_
  · rintro M1 nx1 E ⟨-, h, -⟩
    cases h
  rintro M1 nx1 v ⟨rfl, h, rfl⟩
  cases h
  refine g_putF (r := rX5) (fs := d5) fX5_10 ⟨rfl, rfl⟩ dX5_init_12 (by rw [stF_o (by omega), zu_s]) (by decide) rfl rfl (by omega) ?_
  refine g_aload_n dX5_init_15 rfl ?_
  refine g_new (ci := 4) (r := rX4) (fs := d4) (kc1 := 196) (ks1 := 1780) rfl q41 q42 q19 dX5_init_16 ty_X4 (fun g => rfl) rfl rfl ?_
  refine g_dup dX5_init_19 rfl ?_
  generalize hM1 : zu (stF (zu M 8 (.inr (5, d5))) 9) 8 (.inr (5, d5.set 0 (.ref 9))) = M1
  have a8 : M1 8 = some (.inr (5, d5.set 0 (.ref 9))) := by rw [← hM1, zu_s]
  refine g_callIN (kc1 := 170) (ks1 := 1548) (kX4_init (M := M1) (b := 36) (by omega)) oX4_init pX4_init lX5_9 dX5_init_20 (S := [.ref 36, .ref 8]) (As := []) rfl rfl (Nat.le_of_ble_eq_true rfl) (Nat.le_of_ble_eq_true rfl) (by decide) (Nat.le_refl _) (Nat.le_refl _) ?_ ?_
  · rintro M2 nx1 E ⟨-, h, -⟩
    cases h
  rintro M2 nx1 v ⟨rfl, h, rfl⟩
  cases h
  refine g_putF (r := rX5) (fs := d5.set 0 (.ref 9)) fX5_16 ⟨rfl, rfl⟩ dX5_init_23 (by rw [stF_o (by omega)]; exact a8) (by decide) rfl rfl (by omega) ?_
  refine g_aload_n dX5_init_26 rfl ?_
  refine g_bipush (v := nI 6) dX5_init_27 (by decide) ?_
  refine g_anew (t := 4) (N := 6) (C0 := RX4) (kc1 := 169) (ks1 := 1542) dX5_init_29 q41 z_AO4 (fun g => rfl) (by decide) (by decide) (by decide) rfl rfl ?_
  refine g_putF (r := rX5) (fs := (d5.set 0 (.ref 9)).set 1 (.ref 36)) fX5_19 ⟨rfl, rfl⟩ dX5_init_32 (by rw [zu_n _ _ (by omega), zu_s]) (by decide) rfl rfl (by omega) ?_
  refine g_aload_n dX5_init_35 rfl ?_
  refine g_new (ci := 2) (r := rX2) (fs := d2) (kc1 := 168) (ks1 := 1537) rfl q155 q156 q22 dX5_init_36 ty_X2 (fun g => rfl) rfl rfl ?_
  refine g_dup dX5_init_39 rfl ?_
  generalize hM2 : zu (zu (zu (stF M1 36) 8 (.inr (5, (d5.set 0 (.ref 9)).set 1 (.ref 36)))) 63 _) 8 _ = M2
  have b8 : M2 8 = some (.inr (5, ((d5.set 0 (.ref 9)).set 1 (.ref 36)).set 3 (.ref 63))) := by rw [← hM2, zu_s]
  refine g_callIN (kc1 := 166) (ks1 := 1471) (kX2_init (M := M2) (a := 64) (by omega)) oX2_init pX2_init lX5_25 dX5_init_40 (S := [.ref 64, .ref 8]) (As := []) rfl rfl (Nat.le_of_ble_eq_true rfl) (Nat.le_of_ble_eq_true rfl) (by decide) (Nat.le_refl _) (Nat.le_refl _) ?_ ?_
  · rintro M3 nx1 E ⟨-, h, -⟩
    cases h
  rintro M3 nx1 v ⟨rfl, h, rfl⟩
  cases h
  have tx_o : ∀ q, q < 64 → txF M2 64 q = M2 q := fun q hq => by
    unfold txF
    rw [if_neg (by omega), if_neg (by omega), if_neg (by omega)]
  refine g_putF (r := rX5) (fs := ((d5.set 0 (.ref 9)).set 1 (.ref 36)).set 3 (.ref 63)) fX5_26 ⟨rfl, rfl⟩ dX5_init_43 (by rw [tx_o 8 (by omega)]; exact b8) (by decide) rfl rfl (by omega) ?_
  refine g_aload_n dX5_init_46 rfl ?_
  refine g_new (ci := 0) (r := rX0) (fs := d0) (kc1 := 165) (ks1 := 1467) rfl q174 q175 q23 dX5_init_47 ty_X0 (fun g => rfl) rfl rfl ?_
  refine g_dup dX5_init_50 rfl ?_
  generalize hM3 : zu (txF M2 64) 8 _ = M3
  have c8 : M3 8 = some (.inr (5, (((d5.set 0 (.ref 9)).set 1 (.ref 36)).set 3 (.ref 63)).set 5 (.ref 64))) := by rw [← hM3, zu_s]
  refine g_callIN (kc1 := 163) (ks1 := 1444) (kX0_init (M := M3) (a := 67) (by omega)) oX0_init pX0_init lX5_32 dX5_init_51 (S := [.ref 67, .ref 8]) (As := []) rfl rfl (Nat.le_of_ble_eq_true rfl) (Nat.le_of_ble_eq_true rfl) (by decide) (Nat.le_refl _) (Nat.le_refl _) ?_ ?_
  · rintro M4 nx1 E ⟨-, h, -⟩
    cases h
  rintro M4 nx1 v ⟨rfl, h, rfl⟩
  cases h
  have pl_o : ∀ q, q < 67 → plF M3 67 q = M3 q := fun q hq => by
    unfold plF
    rw [if_neg (by omega), if_neg (by omega), if_neg (by omega)]
  refine g_putF (r := rX5) (fs := (((d5.set 0 (.ref 9)).set 1 (.ref 36)).set 3 (.ref 63)).set 5 (.ref 64)) fX5_33 ⟨rfl, rfl⟩ dX5_init_54 (by rw [pl_o 8 (by omega)]; exact c8) (by decide) rfl rfl (by omega) ?_
  refine g_aload_n dX5_init_57 rfl ?_
  refine g_new (ci := 1) (r := rX1) (fs := l0) (kc1 := 162) (ks1 := 1434) rfl q194 q55 q21 dX5_init_58 ty_X1 (fun g => rfl) rfl rfl ?_
  refine g_dup dX5_init_61 rfl ?_
  refine g_callIN (kc1 := 162) (ks1 := 1434) (kX1_init (a := 70) (n := 71)) oX1_init pX1_init lX5_39 dX5_init_62 (S := [.ref 70, .ref 8]) (As := []) rfl rfl (Nat.le_of_ble_eq_true rfl) (Nat.le_of_ble_eq_true rfl) (by decide) (Nat.le_refl _) (Nat.le_refl _) ?_ ?_
  · rintro M5 nx1 E ⟨-, h, -⟩
    cases h
  rintro M5 nx1 v ⟨rfl, h, rfl⟩
  cases h
  refine g_putF (r := rX5) (fs := ((((d5.set 0 (.ref 9)).set 1 (.ref 36)).set 3 (.ref 63)).set 5 (.ref 64)).set 6 (.ref 67)) fX5_40 ⟨rfl, rfl⟩ dX5_init_65 (by rw [zu_n _ _ (by omega), zu_s]) (by decide) rfl rfl (by omega) ?_
  generalize hM4 : zu (zu (zu (plF M3 67) 8 _) 70 (.inr (1, l0))) 8 _ = M4
  have e8 : M4 8 = some (.inr (5, h5)) := by rw [← hM4, zu_s]; rfl
  have e63 : M4 63 = some (aR 4 6 (fun _ => none)) := by
    rw [← hM4, zu_n _ _ (by omega), zu_n _ _ (by omega), zu_n _ _ (by omega), pl_o 63 (by omega), ← hM3, zu_n _ _ (by omega), tx_o 63 (by omega), ← hM2, zu_n _ _ (by omega), zu_s]
  refine g_iconst (v := nI 0) dX5_init_68 (by decide) ?_
  refine g_istore_n dX5_init_69 (by decide) ?_
  refine g_m (M' := svm M4 0) ?_ ?_
  · funext q
    unfold svm
    by_cases h1 : q = 63
    · rw [if_pos h1, h1, e63]
      simp
    · rw [if_neg h1, if_neg (by omega)]
  refine g_loc rfl (xi5 e8 _ ?_ 6 0 (by omega))
  refine g_return dX5_init_95 rfl ⟨rfl, rfl, ?_⟩
  funext q
  rw [zu_ite]
  by_cases h63 : q = 63
  · subst h63
    rw [if_pos rfl]
    exact (cM_k (M0 := M) (Y := Y0) (q := 63) (k := 20) rfl (by decide)).symm
  rw [if_neg h63]
  unfold svm
  rw [if_neg h63]
  by_cases h71 : 71 ≤ q ∧ q < 71 + 27 * 6
  · rw [if_pos h71, cM_k (M0 := M) (Y := Y0) (kq_b q (by omega) h71.1) (fun e => absurd e ((show ∀ j, j < 27 → ko j ≠ 99 by decide) _ (Nat.mod_lt _ (by decide)))), Y0, if_neg h63, if_neg (by omega), if_pos (by omega)]
  rw [if_neg h71]
  by_cases h99 : q < 8 ∨ 233 ≤ q
  · rw [cM_o (kq_99 h99), ← hM4, zu_n _ _ (by omega), zu_n _ _ (by omega), zu_n _ _ (by omega)]
    unfold plF
    rw [if_neg (by omega), if_neg (by omega), if_neg (by omega), ← hM3, zu_n _ _ (by omega)]
    unfold txF
    rw [if_neg (by omega), if_neg (by omega), if_neg (by omega), ← hM2, zu_n _ _ (by omega), zu_n _ _ h63, zu_n _ _ (by omega), stF_o (by omega), ← hM1, zu_n _ _ (by omega), stF_o (by omega), zu_n _ _ (by omega)]
  by_cases h8 : q = 8
  · subst h8
    rw [e8, cM_k (M0 := M) (Y := Y0) (q := 8) (k := 5) rfl (by decide)]
    rfl
  by_cases h70 : q = 70
  · subst h70
    rw [← hM4, zu_n _ _ (by omega), zu_s, cM_k (M0 := M) (Y := Y0) (q := 70) (k := 1) rfl (by decide)]
    rfl
  rw [← hM4, zu_n _ _ h8, zu_n _ _ h70, zu_n _ _ h8]
  by_cases h67 : q = 67
  · subst h67
    rw [cM_k (M0 := M) (Y := Y0) (q := 67) (k := 0) rfl (by decide)]
    rfl
  by_cases h68 : q = 68
  · subst h68
    rw [cM_k (M0 := M) (Y := Y0) (q := 68) (k := 23) rfl (by decide)]
    rfl
  by_cases h69 : q = 69
  · subst h69
    rw [cM_k (M0 := M) (Y := Y0) (q := 69) (k := 24) rfl (by decide)]
    rfl
  rw [pl_o q (by omega), ← hM3, zu_n _ _ h8]
  by_cases h64 : q = 64
  · subst h64
    rw [cM_k (M0 := M) (Y := Y0) (q := 64) (k := 2) rfl (by decide)]
    rfl
  by_cases h65 : q = 65
  · subst h65
    rw [cM_k (M0 := M) (Y := Y0) (q := 65) (k := 21) rfl (by decide)]
    rfl
  by_cases h66 : q = 66
  · subst h66
    rw [cM_k (M0 := M) (Y := Y0) (q := 66) (k := 22) rfl (by decide)]
    rfl
  rw [tx_o q (by omega), ← hM2, zu_n _ _ h8, zu_n _ _ h63, zu_n _ _ h8]
  have ey : Y0 q = s0 (9 + 27 * ((q - 9) / 27)) ((q - 9) % 27) := by rw [Y0, if_neg h63, if_pos (by omega)]
  rw [cM_k (M0 := M) (Y := Y0) (kq_a q (by omega) (by omega) (by omega)) (fun e => absurd e ((show ∀ j, j < 27 → ko j ≠ 99 by decide) _ (Nat.mod_lt _ (by decide)))), ey]
  by_cases h36 : 36 ≤ q
  · rw [stF_i (by omega), show (q - 9) % 27 = q - 36 by omega, show (q - 9) / 27 = 1 by omega]
  · rw [stF_o (by omega), ← hM1, zu_n _ _ h8, stF_i (by omega), show (q - 9) % 27 = q - 9 by omega, show (q - 9) / 27 = 0 by omega]
end CONS2
