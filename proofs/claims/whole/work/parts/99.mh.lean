/-! the law: its helpers -/
abbrev lA (f : Nat → Int64) : zE := .inl (1, 1, .inr (.inl f))
abbrev dA (f : Nat → UInt64) : zE := .inl (2, 1, .inr (.inr (.inr (.inl f))))
theorem hL_regular_v {M : zM} {fs : List Value} {a1 a2 a3 a4 a5 a6 : Int32} {v : Int32} {f : Nat → Int64} {P : zM → Prop} (hM8 : M 8 = some (.inr (5, fs))) (hc : Cn mX5_regular 8 0 0 none [.ref 8, .int a1, .int a2, .int a3, .int a4, .int a5, .int a6] M (zi v P)) (hP : ∀ M1, P M1 → M1 243 = some (lA f)) : Cn mL_regular 9 1 6 none [.ref 8, .int a1, .int a2, .int a3, .int a4, .int a5, .int a6, .ref 243] M (zi (nI 0) (fun M' => ∃ M1, P M1 ∧ M' = zu M1 243 (lA (vp_updL f 0 v.toInt64)))) := by
  refine g_aload dL_regular_0 rfl ?_
  refine g_iconst (v := nI 0) dL_regular_2 (by decide) ?_
  refine g_aload_n dL_regular_3 rfl ?_
  refine g_iload_n dL_regular_4 rfl ?_
  refine g_iload_n dL_regular_5 rfl ?_
  refine g_iload_n dL_regular_6 rfl ?_
  refine g_iload dL_regular_7 rfl ?_
  refine g_iload dL_regular_9 rfl ?_
  refine g_iload dL_regular_11 rfl ?_
  refine g_callV_i (hc) oX5_regular pX5_regular lL_7 dL_regular_13 rfl hM8 rfl rfl rfl (Nat.le_of_ble_eq_true rfl) (Nat.le_of_ble_eq_true rfl) (by decide) (fun M1 h1 => ?_)
  refine g_i2l dL_regular_16 ?_
  refine g_last dL_regular_17 (hP M1 h1) (vp_in_nI (by omega) (by omega)) (by omega) ?_
  refine g_goto (tgt := 33) dL_regular_18 (by decide) ?_
  refine g_iconst (v := nI 0) dL_regular_33 (by decide) ?_
  exact g_ireturn dL_regular_34 rfl rfl ⟨rfl, rfl, M1, h1, rfl⟩
theorem hL_regular_t1 {M : zM} {fs : List Value} {a1 a2 a3 a4 a5 a6 : Int32} {P : zM → Prop} (hM8 : M 8 = some (.inr (5, fs))) (hc : Cn mX5_regular 8 1 6 none [.ref 8, .int a1, .int a2, .int a3, .int a4, .int a5, .int a6] M (zt eB P)) : Cn mL_regular 9 1 6 none [.ref 8, .int a1, .int a2, .int a3, .int a4, .int a5, .int a6, .ref 243] M (zi (nI 1) P) := by
  refine g_aload dL_regular_0 rfl ?_
  refine g_iconst (v := nI 0) dL_regular_2 (by decide) ?_
  refine g_aload_n dL_regular_3 rfl ?_
  refine g_iload_n dL_regular_4 rfl ?_
  refine g_iload_n dL_regular_5 rfl ?_
  refine g_iload_n dL_regular_6 rfl ?_
  refine g_iload dL_regular_7 rfl ?_
  refine g_iload dL_regular_9 rfl ?_
  refine g_iload dL_regular_11 rfl ?_
  refine g_callVx (j := 8) (kc1 := 0) (ks1 := 0) rfl hc oX5_regular pX5_regular lL_7 dL_regular_13 rfl hM8 rfl rfl rfl (Nat.le_of_ble_eq_true rfl) (Nat.le_of_ble_eq_true rfl) (by decide) (by decide) (by decide) (by decide) (fun M1 E h1 => ?_) (fun M1 nx1 v h1 => ?_)
  · obtain ⟨-, h2, h3⟩ := h1
    cases h2
    refine ⟨21, 2, ⟨by decide, [], [(0, 18, 25, 15), (0, 18, 29, 17)], (0, 18, 21, 13), rfl, fun z hz => (by cases hz), by decide, by decide, q659, rfl⟩, Or.inr ⟨dL_regular_21, rfl⟩, ?_⟩
    refine g_iconst (v := nI 1) dL_regular_23 (by decide) ?_
    exact g_ireturn dL_regular_24 rfl rfl ⟨rfl, rfl, h3⟩
  · obtain ⟨-, h2, -⟩ := h1
    cases h2
theorem hL_regular_t2 {M : zM} {fs : List Value} {a1 a2 a3 a4 a5 a6 : Int32} {P : zM → Prop} (hM8 : M 8 = some (.inr (5, fs))) (hc : Cn mX5_regular 8 1 6 none [.ref 8, .int a1, .int a2, .int a3, .int a4, .int a5, .int a6] M (zt eA P)) : Cn mL_regular 9 1 6 none [.ref 8, .int a1, .int a2, .int a3, .int a4, .int a5, .int a6, .ref 243] M (zi (nI 2) P) := by
  refine g_aload dL_regular_0 rfl ?_
  refine g_iconst (v := nI 0) dL_regular_2 (by decide) ?_
  refine g_aload_n dL_regular_3 rfl ?_
  refine g_iload_n dL_regular_4 rfl ?_
  refine g_iload_n dL_regular_5 rfl ?_
  refine g_iload_n dL_regular_6 rfl ?_
  refine g_iload dL_regular_7 rfl ?_
  refine g_iload dL_regular_9 rfl ?_
  refine g_iload dL_regular_11 rfl ?_
  refine g_callVx (j := 8) (kc1 := 0) (ks1 := 0) rfl hc oX5_regular pX5_regular lL_7 dL_regular_13 rfl hM8 rfl rfl rfl (Nat.le_of_ble_eq_true rfl) (Nat.le_of_ble_eq_true rfl) (by decide) (by decide) (by decide) (by decide) (fun M1 E h1 => ?_) (fun M1 nx1 v h1 => ?_)
  · obtain ⟨-, h2, h3⟩ := h1
    cases h2
    have hpre : ∀ z ∈ ([(0, 18, 21, 13)] : List (Nat × Nat × Nat × Nat)), z.2.2.2 ≠ 0 ∧ ∃ nm ∈ z_xs, eA ≠ nm ∧ Cond.classLink RL z.2.2.2 nm ∈ SW := by
      refine List.forall_mem_cons.mpr ⟨⟨by decide, eB, by decide, by decide, q659⟩, ?_⟩
      exact fun z hz => by cases hz
    refine ⟨25, 2, ⟨by decide, [(0, 18, 21, 13)], [(0, 18, 29, 17)], (0, 18, 25, 15), rfl, hpre, by decide, by decide, q660, rfl⟩, Or.inr ⟨dL_regular_25, rfl⟩, ?_⟩
    refine g_iconst (v := nI 2) dL_regular_27 (by decide) ?_
    exact g_ireturn dL_regular_28 rfl rfl ⟨rfl, rfl, h3⟩
  · obtain ⟨-, h2, -⟩ := h1
    cases h2
theorem hL_regular_t3 {M : zM} {fs : List Value} {a1 a2 a3 a4 a5 a6 : Int32} {P : zM → Prop} (hM8 : M 8 = some (.inr (5, fs))) (hc : Cn mX5_regular 8 1 6 none [.ref 8, .int a1, .int a2, .int a3, .int a4, .int a5, .int a6] M (zt eS P)) : Cn mL_regular 9 1 6 none [.ref 8, .int a1, .int a2, .int a3, .int a4, .int a5, .int a6, .ref 243] M (zi (nI 3) P) := by
  refine g_aload dL_regular_0 rfl ?_
  refine g_iconst (v := nI 0) dL_regular_2 (by decide) ?_
  refine g_aload_n dL_regular_3 rfl ?_
  refine g_iload_n dL_regular_4 rfl ?_
  refine g_iload_n dL_regular_5 rfl ?_
  refine g_iload_n dL_regular_6 rfl ?_
  refine g_iload dL_regular_7 rfl ?_
  refine g_iload dL_regular_9 rfl ?_
  refine g_iload dL_regular_11 rfl ?_
  refine g_callVx (j := 8) (kc1 := 0) (ks1 := 0) rfl hc oX5_regular pX5_regular lL_7 dL_regular_13 rfl hM8 rfl rfl rfl (Nat.le_of_ble_eq_true rfl) (Nat.le_of_ble_eq_true rfl) (by decide) (by decide) (by decide) (by decide) (fun M1 E h1 => ?_) (fun M1 nx1 v h1 => ?_)
  · obtain ⟨-, h2, h3⟩ := h1
    cases h2
    have hpre : ∀ z ∈ ([(0, 18, 21, 13), (0, 18, 25, 15)] : List (Nat × Nat × Nat × Nat)), z.2.2.2 ≠ 0 ∧ ∃ nm ∈ z_xs, eS ≠ nm ∧ Cond.classLink RL z.2.2.2 nm ∈ SW := by
      refine List.forall_mem_cons.mpr ⟨⟨by decide, eB, by decide, by decide, q659⟩, ?_⟩
      refine List.forall_mem_cons.mpr ⟨⟨by decide, eA, by decide, by decide, q660⟩, ?_⟩
      exact fun z hz => by cases hz
    refine ⟨29, 2, ⟨by decide, [(0, 18, 21, 13), (0, 18, 25, 15)], [], (0, 18, 29, 17), rfl, hpre, by decide, by decide, q661, rfl⟩, Or.inr ⟨dL_regular_29, rfl⟩, ?_⟩
    refine g_iconst (v := nI 3) dL_regular_31 (by decide) ?_
    exact g_ireturn dL_regular_32 rfl rfl ⟨rfl, rfl, h3⟩
  · obtain ⟨-, h2, -⟩ := h1
    cases h2
theorem hL_single_v {M : zM} {fs : List Value} {a1 a2 a3 a4 a5 a6 : Int32} {v : Int32} {f : Nat → Int64} {P : zM → Prop} (hM8 : M 8 = some (.inr (5, fs))) (hc : Cn mX5_single 8 0 0 none [.ref 8, .int a1, .int a2, .int a3, .int a4, .int a5, .int a6] M (zi v P)) (hP : ∀ M1, P M1 → M1 243 = some (lA f)) : Cn mL_single 9 1 6 none [.ref 8, .int a1, .int a2, .int a3, .int a4, .int a5, .int a6, .ref 243] M (zi (nI 0) (fun M' => ∃ M1, P M1 ∧ M' = zu M1 243 (lA (vp_updL f 0 v.toInt64)))) := by
  refine g_aload dL_single_0 rfl ?_
  refine g_iconst (v := nI 0) dL_single_2 (by decide) ?_
  refine g_aload_n dL_single_3 rfl ?_
  refine g_iload_n dL_single_4 rfl ?_
  refine g_iload_n dL_single_5 rfl ?_
  refine g_iload_n dL_single_6 rfl ?_
  refine g_iload dL_single_7 rfl ?_
  refine g_iload dL_single_9 rfl ?_
  refine g_iload dL_single_11 rfl ?_
  refine g_callV_i (hc) oX5_single pX5_single lL_19 dL_single_13 rfl hM8 rfl rfl rfl (Nat.le_of_ble_eq_true rfl) (Nat.le_of_ble_eq_true rfl) (by decide) (fun M1 h1 => ?_)
  refine g_i2l dL_single_16 ?_
  refine g_last dL_single_17 (hP M1 h1) (vp_in_nI (by omega) (by omega)) (by omega) ?_
  refine g_goto (tgt := 33) dL_single_18 (by decide) ?_
  refine g_iconst (v := nI 0) dL_single_33 (by decide) ?_
  exact g_ireturn dL_single_34 rfl rfl ⟨rfl, rfl, M1, h1, rfl⟩
theorem hL_single_t1 {M : zM} {fs : List Value} {a1 a2 a3 a4 a5 a6 : Int32} {P : zM → Prop} (hM8 : M 8 = some (.inr (5, fs))) (hc : Cn mX5_single 8 1 6 none [.ref 8, .int a1, .int a2, .int a3, .int a4, .int a5, .int a6] M (zt eB P)) : Cn mL_single 9 1 6 none [.ref 8, .int a1, .int a2, .int a3, .int a4, .int a5, .int a6, .ref 243] M (zi (nI 1) P) := by
  refine g_aload dL_single_0 rfl ?_
  refine g_iconst (v := nI 0) dL_single_2 (by decide) ?_
  refine g_aload_n dL_single_3 rfl ?_
  refine g_iload_n dL_single_4 rfl ?_
  refine g_iload_n dL_single_5 rfl ?_
  refine g_iload_n dL_single_6 rfl ?_
  refine g_iload dL_single_7 rfl ?_
  refine g_iload dL_single_9 rfl ?_
  refine g_iload dL_single_11 rfl ?_
  refine g_callVx (j := 8) (kc1 := 0) (ks1 := 0) rfl hc oX5_single pX5_single lL_19 dL_single_13 rfl hM8 rfl rfl rfl (Nat.le_of_ble_eq_true rfl) (Nat.le_of_ble_eq_true rfl) (by decide) (by decide) (by decide) (by decide) (fun M1 E h1 => ?_) (fun M1 nx1 v h1 => ?_)
  · obtain ⟨-, h2, h3⟩ := h1
    cases h2
    refine ⟨21, 2, ⟨by decide, [], [(0, 18, 25, 15), (0, 18, 29, 17)], (0, 18, 21, 13), rfl, fun z hz => (by cases hz), by decide, by decide, q659, rfl⟩, Or.inr ⟨dL_single_21, rfl⟩, ?_⟩
    refine g_iconst (v := nI 1) dL_single_23 (by decide) ?_
    exact g_ireturn dL_single_24 rfl rfl ⟨rfl, rfl, h3⟩
  · obtain ⟨-, h2, -⟩ := h1
    cases h2
theorem hL_single_t2 {M : zM} {fs : List Value} {a1 a2 a3 a4 a5 a6 : Int32} {P : zM → Prop} (hM8 : M 8 = some (.inr (5, fs))) (hc : Cn mX5_single 8 1 6 none [.ref 8, .int a1, .int a2, .int a3, .int a4, .int a5, .int a6] M (zt eA P)) : Cn mL_single 9 1 6 none [.ref 8, .int a1, .int a2, .int a3, .int a4, .int a5, .int a6, .ref 243] M (zi (nI 2) P) := by
  refine g_aload dL_single_0 rfl ?_
  refine g_iconst (v := nI 0) dL_single_2 (by decide) ?_
  refine g_aload_n dL_single_3 rfl ?_
  refine g_iload_n dL_single_4 rfl ?_
  refine g_iload_n dL_single_5 rfl ?_
  refine g_iload_n dL_single_6 rfl ?_
  refine g_iload dL_single_7 rfl ?_
  refine g_iload dL_single_9 rfl ?_
  refine g_iload dL_single_11 rfl ?_
  refine g_callVx (j := 8) (kc1 := 0) (ks1 := 0) rfl hc oX5_single pX5_single lL_19 dL_single_13 rfl hM8 rfl rfl rfl (Nat.le_of_ble_eq_true rfl) (Nat.le_of_ble_eq_true rfl) (by decide) (by decide) (by decide) (by decide) (fun M1 E h1 => ?_) (fun M1 nx1 v h1 => ?_)
  · obtain ⟨-, h2, h3⟩ := h1
    cases h2
    have hpre : ∀ z ∈ ([(0, 18, 21, 13)] : List (Nat × Nat × Nat × Nat)), z.2.2.2 ≠ 0 ∧ ∃ nm ∈ z_xs, eA ≠ nm ∧ Cond.classLink RL z.2.2.2 nm ∈ SW := by
      refine List.forall_mem_cons.mpr ⟨⟨by decide, eB, by decide, by decide, q659⟩, ?_⟩
      exact fun z hz => by cases hz
    refine ⟨25, 2, ⟨by decide, [(0, 18, 21, 13)], [(0, 18, 29, 17)], (0, 18, 25, 15), rfl, hpre, by decide, by decide, q660, rfl⟩, Or.inr ⟨dL_single_25, rfl⟩, ?_⟩
    refine g_iconst (v := nI 2) dL_single_27 (by decide) ?_
    exact g_ireturn dL_single_28 rfl rfl ⟨rfl, rfl, h3⟩
  · obtain ⟨-, h2, -⟩ := h1
    cases h2
theorem hL_single_t3 {M : zM} {fs : List Value} {a1 a2 a3 a4 a5 a6 : Int32} {P : zM → Prop} (hM8 : M 8 = some (.inr (5, fs))) (hc : Cn mX5_single 8 1 6 none [.ref 8, .int a1, .int a2, .int a3, .int a4, .int a5, .int a6] M (zt eS P)) : Cn mL_single 9 1 6 none [.ref 8, .int a1, .int a2, .int a3, .int a4, .int a5, .int a6, .ref 243] M (zi (nI 3) P) := by
  refine g_aload dL_single_0 rfl ?_
  refine g_iconst (v := nI 0) dL_single_2 (by decide) ?_
  refine g_aload_n dL_single_3 rfl ?_
  refine g_iload_n dL_single_4 rfl ?_
  refine g_iload_n dL_single_5 rfl ?_
  refine g_iload_n dL_single_6 rfl ?_
  refine g_iload dL_single_7 rfl ?_
  refine g_iload dL_single_9 rfl ?_
  refine g_iload dL_single_11 rfl ?_
  refine g_callVx (j := 8) (kc1 := 0) (ks1 := 0) rfl hc oX5_single pX5_single lL_19 dL_single_13 rfl hM8 rfl rfl rfl (Nat.le_of_ble_eq_true rfl) (Nat.le_of_ble_eq_true rfl) (by decide) (by decide) (by decide) (by decide) (fun M1 E h1 => ?_) (fun M1 nx1 v h1 => ?_)
  · obtain ⟨-, h2, h3⟩ := h1
    cases h2
    have hpre : ∀ z ∈ ([(0, 18, 21, 13), (0, 18, 25, 15)] : List (Nat × Nat × Nat × Nat)), z.2.2.2 ≠ 0 ∧ ∃ nm ∈ z_xs, eS ≠ nm ∧ Cond.classLink RL z.2.2.2 nm ∈ SW := by
      refine List.forall_mem_cons.mpr ⟨⟨by decide, eB, by decide, by decide, q659⟩, ?_⟩
      refine List.forall_mem_cons.mpr ⟨⟨by decide, eA, by decide, by decide, q660⟩, ?_⟩
      exact fun z hz => by cases hz
    refine ⟨29, 2, ⟨by decide, [(0, 18, 21, 13), (0, 18, 25, 15)], [], (0, 18, 29, 17), rfl, hpre, by decide, by decide, q661, rfl⟩, Or.inr ⟨dL_single_29, rfl⟩, ?_⟩
    refine g_iconst (v := nI 3) dL_single_31 (by decide) ?_
    exact g_ireturn dL_single_32 rfl rfl ⟨rfl, rfl, h3⟩
  · obtain ⟨-, h2, -⟩ := h1
    cases h2
theorem hL_cancel_v {M : zM} {fs : List Value} {a1 a2 : Int32} {v : Int32} {f : Nat → Int64} {P : zM → Prop} (hM8 : M 8 = some (.inr (5, fs))) (hc : Cn mX5_cancel 8 0 0 none [.ref 8, .int a1, .int a2] M (zi v P)) (hP : ∀ M1, P M1 → M1 243 = some (lA f)) : Cn mL_cancel 9 1 6 none [.ref 8, .int a1, .int a2, .ref 243] M (zi (nI 0) (fun M' => ∃ M1, P M1 ∧ M' = zu M1 243 (lA (vp_updL f 0 v.toInt64)))) := by
  refine g_aload_n dL_cancel_0 rfl ?_
  refine g_iconst (v := nI 0) dL_cancel_1 (by decide) ?_
  refine g_aload_n dL_cancel_2 rfl ?_
  refine g_iload_n dL_cancel_3 rfl ?_
  refine g_iload_n dL_cancel_4 rfl ?_
  refine g_callV_i (hc) oX5_cancel pX5_cancel lL_22 dL_cancel_5 rfl hM8 rfl rfl rfl (Nat.le_of_ble_eq_true rfl) (Nat.le_of_ble_eq_true rfl) (by decide) (fun M1 h1 => ?_)
  refine g_i2l dL_cancel_8 ?_
  refine g_last dL_cancel_9 (hP M1 h1) (vp_in_nI (by omega) (by omega)) (by omega) ?_
  refine g_goto (tgt := 17) dL_cancel_10 (by decide) ?_
  refine g_iconst (v := nI 0) dL_cancel_17 (by decide) ?_
  exact g_ireturn dL_cancel_18 rfl rfl ⟨rfl, rfl, M1, h1, rfl⟩
theorem hL_cancel_t1 {M : zM} {fs : List Value} {a1 a2 : Int32} {P : zM → Prop} (hM8 : M 8 = some (.inr (5, fs))) (hc : Cn mX5_cancel 8 1 6 none [.ref 8, .int a1, .int a2] M (zt eB P)) : Cn mL_cancel 9 1 6 none [.ref 8, .int a1, .int a2, .ref 243] M (zi (nI 1) P) := by
  refine g_aload_n dL_cancel_0 rfl ?_
  refine g_iconst (v := nI 0) dL_cancel_1 (by decide) ?_
  refine g_aload_n dL_cancel_2 rfl ?_
  refine g_iload_n dL_cancel_3 rfl ?_
  refine g_iload_n dL_cancel_4 rfl ?_
  refine g_callVx (j := 4) (kc1 := 0) (ks1 := 0) rfl hc oX5_cancel pX5_cancel lL_22 dL_cancel_5 rfl hM8 rfl rfl rfl (Nat.le_of_ble_eq_true rfl) (Nat.le_of_ble_eq_true rfl) (by decide) (by decide) (by decide) (by decide) (fun M1 E h1 => ?_) (fun M1 nx1 v h1 => ?_)
  · obtain ⟨-, h2, h3⟩ := h1
    cases h2
    refine ⟨13, 2, ⟨by decide, [], [], (0, 10, 13, 13), rfl, fun z hz => (by cases hz), by decide, by decide, q659, rfl⟩, Or.inr ⟨dL_cancel_13, rfl⟩, ?_⟩
    refine g_iconst (v := nI 1) dL_cancel_15 (by decide) ?_
    exact g_ireturn dL_cancel_16 rfl rfl ⟨rfl, rfl, h3⟩
  · obtain ⟨-, h2, -⟩ := h1
    cases h2
theorem hL_off_v {M : zM} {fs : List Value} {a1 a2 : Int32} {v : Int32} {f : Nat → Int64} {P : zM → Prop} (hM8 : M 8 = some (.inr (5, fs))) (hc : Cn mX5_off 8 0 0 none [.ref 8, .int a1, .int a2] M (zi v P)) (hP : ∀ M1, P M1 → M1 243 = some (lA f)) : Cn mL_off 9 1 6 none [.ref 8, .int a1, .int a2, .ref 243] M (zi (nI 0) (fun M' => ∃ M1, P M1 ∧ M' = zu M1 243 (lA (vp_updL f 0 v.toInt64)))) := by
  refine g_aload_n dL_off_0 rfl ?_
  refine g_iconst (v := nI 0) dL_off_1 (by decide) ?_
  refine g_aload_n dL_off_2 rfl ?_
  refine g_iload_n dL_off_3 rfl ?_
  refine g_iload_n dL_off_4 rfl ?_
  refine g_callV_i (hc) oX5_off pX5_off lL_26 dL_off_5 rfl hM8 rfl rfl rfl (Nat.le_of_ble_eq_true rfl) (Nat.le_of_ble_eq_true rfl) (by decide) (fun M1 h1 => ?_)
  refine g_i2l dL_off_8 ?_
  refine g_last dL_off_9 (hP M1 h1) (vp_in_nI (by omega) (by omega)) (by omega) ?_
  refine g_goto (tgt := 25) dL_off_10 (by decide) ?_
  refine g_iconst (v := nI 0) dL_off_25 (by decide) ?_
  exact g_ireturn dL_off_26 rfl rfl ⟨rfl, rfl, M1, h1, rfl⟩
theorem hL_off_t1 {M : zM} {fs : List Value} {a1 a2 : Int32} {P : zM → Prop} (hM8 : M 8 = some (.inr (5, fs))) (hc : Cn mX5_off 8 1 6 none [.ref 8, .int a1, .int a2] M (zt eB P)) : Cn mL_off 9 1 6 none [.ref 8, .int a1, .int a2, .ref 243] M (zi (nI 1) P) := by
  refine g_aload_n dL_off_0 rfl ?_
  refine g_iconst (v := nI 0) dL_off_1 (by decide) ?_
  refine g_aload_n dL_off_2 rfl ?_
  refine g_iload_n dL_off_3 rfl ?_
  refine g_iload_n dL_off_4 rfl ?_
  refine g_callVx (j := 4) (kc1 := 0) (ks1 := 0) rfl hc oX5_off pX5_off lL_26 dL_off_5 rfl hM8 rfl rfl rfl (Nat.le_of_ble_eq_true rfl) (Nat.le_of_ble_eq_true rfl) (by decide) (by decide) (by decide) (by decide) (fun M1 E h1 => ?_) (fun M1 nx1 v h1 => ?_)
  · obtain ⟨-, h2, h3⟩ := h1
    cases h2
    refine ⟨13, 2, ⟨by decide, [], [(0, 10, 17, 15), (0, 10, 21, 17)], (0, 10, 13, 13), rfl, fun z hz => (by cases hz), by decide, by decide, q659, rfl⟩, Or.inr ⟨dL_off_13, rfl⟩, ?_⟩
    refine g_iconst (v := nI 1) dL_off_15 (by decide) ?_
    exact g_ireturn dL_off_16 rfl rfl ⟨rfl, rfl, h3⟩
  · obtain ⟨-, h2, -⟩ := h1
    cases h2
theorem hL_off_t2 {M : zM} {fs : List Value} {a1 a2 : Int32} {P : zM → Prop} (hM8 : M 8 = some (.inr (5, fs))) (hc : Cn mX5_off 8 1 6 none [.ref 8, .int a1, .int a2] M (zt eA P)) : Cn mL_off 9 1 6 none [.ref 8, .int a1, .int a2, .ref 243] M (zi (nI 2) P) := by
  refine g_aload_n dL_off_0 rfl ?_
  refine g_iconst (v := nI 0) dL_off_1 (by decide) ?_
  refine g_aload_n dL_off_2 rfl ?_
  refine g_iload_n dL_off_3 rfl ?_
  refine g_iload_n dL_off_4 rfl ?_
  refine g_callVx (j := 4) (kc1 := 0) (ks1 := 0) rfl hc oX5_off pX5_off lL_26 dL_off_5 rfl hM8 rfl rfl rfl (Nat.le_of_ble_eq_true rfl) (Nat.le_of_ble_eq_true rfl) (by decide) (by decide) (by decide) (by decide) (fun M1 E h1 => ?_) (fun M1 nx1 v h1 => ?_)
  · obtain ⟨-, h2, h3⟩ := h1
    cases h2
    have hpre : ∀ z ∈ ([(0, 10, 13, 13)] : List (Nat × Nat × Nat × Nat)), z.2.2.2 ≠ 0 ∧ ∃ nm ∈ z_xs, eA ≠ nm ∧ Cond.classLink RL z.2.2.2 nm ∈ SW := by
      refine List.forall_mem_cons.mpr ⟨⟨by decide, eB, by decide, by decide, q659⟩, ?_⟩
      exact fun z hz => by cases hz
    refine ⟨17, 2, ⟨by decide, [(0, 10, 13, 13)], [(0, 10, 21, 17)], (0, 10, 17, 15), rfl, hpre, by decide, by decide, q660, rfl⟩, Or.inr ⟨dL_off_17, rfl⟩, ?_⟩
    refine g_iconst (v := nI 2) dL_off_19 (by decide) ?_
    exact g_ireturn dL_off_20 rfl rfl ⟨rfl, rfl, h3⟩
  · obtain ⟨-, h2, -⟩ := h1
    cases h2
theorem hL_off_t3 {M : zM} {fs : List Value} {a1 a2 : Int32} {P : zM → Prop} (hM8 : M 8 = some (.inr (5, fs))) (hc : Cn mX5_off 8 1 6 none [.ref 8, .int a1, .int a2] M (zt eS P)) : Cn mL_off 9 1 6 none [.ref 8, .int a1, .int a2, .ref 243] M (zi (nI 3) P) := by
  refine g_aload_n dL_off_0 rfl ?_
  refine g_iconst (v := nI 0) dL_off_1 (by decide) ?_
  refine g_aload_n dL_off_2 rfl ?_
  refine g_iload_n dL_off_3 rfl ?_
  refine g_iload_n dL_off_4 rfl ?_
  refine g_callVx (j := 4) (kc1 := 0) (ks1 := 0) rfl hc oX5_off pX5_off lL_26 dL_off_5 rfl hM8 rfl rfl rfl (Nat.le_of_ble_eq_true rfl) (Nat.le_of_ble_eq_true rfl) (by decide) (by decide) (by decide) (by decide) (fun M1 E h1 => ?_) (fun M1 nx1 v h1 => ?_)
  · obtain ⟨-, h2, h3⟩ := h1
    cases h2
    have hpre : ∀ z ∈ ([(0, 10, 13, 13), (0, 10, 17, 15)] : List (Nat × Nat × Nat × Nat)), z.2.2.2 ≠ 0 ∧ ∃ nm ∈ z_xs, eS ≠ nm ∧ Cond.classLink RL z.2.2.2 nm ∈ SW := by
      refine List.forall_mem_cons.mpr ⟨⟨by decide, eB, by decide, by decide, q659⟩, ?_⟩
      refine List.forall_mem_cons.mpr ⟨⟨by decide, eA, by decide, by decide, q660⟩, ?_⟩
      exact fun z hz => by cases hz
    refine ⟨21, 2, ⟨by decide, [(0, 10, 13, 13), (0, 10, 17, 15)], [], (0, 10, 21, 17), rfl, hpre, by decide, by decide, q661, rfl⟩, Or.inr ⟨dL_off_21, rfl⟩, ?_⟩
    refine g_iconst (v := nI 3) dL_off_23 (by decide) ?_
    exact g_ireturn dL_off_24 rfl rfl ⟨rfl, rfl, h3⟩
  · obtain ⟨-, h2, -⟩ := h1
    cases h2
theorem hL_rate_v {M : zM} {fs : List Value} {a1 a2 : Int32} {v : Int32} {f : Nat → Int64} {P : zM → Prop} (hM8 : M 8 = some (.inr (5, fs))) (hc : Cn mX5_rate 8 0 0 none [.ref 8, .int a1, .int a2] M (zi v P)) (hP : ∀ M1, P M1 → M1 243 = some (lA f)) : Cn mL_rate 9 1 6 none [.ref 8, .int a1, .int a2, .ref 243] M (zi (nI 0) (fun M' => ∃ M1, P M1 ∧ M' = zu M1 243 (lA (vp_updL f 0 v.toInt64)))) := by
  refine g_aload_n dL_rate_0 rfl ?_
  refine g_iconst (v := nI 0) dL_rate_1 (by decide) ?_
  refine g_aload_n dL_rate_2 rfl ?_
  refine g_iload_n dL_rate_3 rfl ?_
  refine g_iload_n dL_rate_4 rfl ?_
  refine g_callV_i (hc) oX5_rate pX5_rate lL_30 dL_rate_5 rfl hM8 rfl rfl rfl (Nat.le_of_ble_eq_true rfl) (Nat.le_of_ble_eq_true rfl) (by decide) (fun M1 h1 => ?_)
  refine g_i2l dL_rate_8 ?_
  refine g_last dL_rate_9 (hP M1 h1) (vp_in_nI (by omega) (by omega)) (by omega) ?_
  refine g_goto (tgt := 21) dL_rate_10 (by decide) ?_
  refine g_iconst (v := nI 0) dL_rate_21 (by decide) ?_
  exact g_ireturn dL_rate_22 rfl rfl ⟨rfl, rfl, M1, h1, rfl⟩
theorem hL_rate_t1 {M : zM} {fs : List Value} {a1 a2 : Int32} {P : zM → Prop} (hM8 : M 8 = some (.inr (5, fs))) (hc : Cn mX5_rate 8 1 6 none [.ref 8, .int a1, .int a2] M (zt eB P)) : Cn mL_rate 9 1 6 none [.ref 8, .int a1, .int a2, .ref 243] M (zi (nI 1) P) := by
  refine g_aload_n dL_rate_0 rfl ?_
  refine g_iconst (v := nI 0) dL_rate_1 (by decide) ?_
  refine g_aload_n dL_rate_2 rfl ?_
  refine g_iload_n dL_rate_3 rfl ?_
  refine g_iload_n dL_rate_4 rfl ?_
  refine g_callVx (j := 4) (kc1 := 0) (ks1 := 0) rfl hc oX5_rate pX5_rate lL_30 dL_rate_5 rfl hM8 rfl rfl rfl (Nat.le_of_ble_eq_true rfl) (Nat.le_of_ble_eq_true rfl) (by decide) (by decide) (by decide) (by decide) (fun M1 E h1 => ?_) (fun M1 nx1 v h1 => ?_)
  · obtain ⟨-, h2, h3⟩ := h1
    cases h2
    refine ⟨13, 2, ⟨by decide, [], [(0, 10, 17, 15)], (0, 10, 13, 13), rfl, fun z hz => (by cases hz), by decide, by decide, q659, rfl⟩, Or.inr ⟨dL_rate_13, rfl⟩, ?_⟩
    refine g_iconst (v := nI 1) dL_rate_15 (by decide) ?_
    exact g_ireturn dL_rate_16 rfl rfl ⟨rfl, rfl, h3⟩
  · obtain ⟨-, h2, -⟩ := h1
    cases h2
theorem hL_rate_t2 {M : zM} {fs : List Value} {a1 a2 : Int32} {P : zM → Prop} (hM8 : M 8 = some (.inr (5, fs))) (hc : Cn mX5_rate 8 1 6 none [.ref 8, .int a1, .int a2] M (zt eA P)) : Cn mL_rate 9 1 6 none [.ref 8, .int a1, .int a2, .ref 243] M (zi (nI 2) P) := by
  refine g_aload_n dL_rate_0 rfl ?_
  refine g_iconst (v := nI 0) dL_rate_1 (by decide) ?_
  refine g_aload_n dL_rate_2 rfl ?_
  refine g_iload_n dL_rate_3 rfl ?_
  refine g_iload_n dL_rate_4 rfl ?_
  refine g_callVx (j := 4) (kc1 := 0) (ks1 := 0) rfl hc oX5_rate pX5_rate lL_30 dL_rate_5 rfl hM8 rfl rfl rfl (Nat.le_of_ble_eq_true rfl) (Nat.le_of_ble_eq_true rfl) (by decide) (by decide) (by decide) (by decide) (fun M1 E h1 => ?_) (fun M1 nx1 v h1 => ?_)
  · obtain ⟨-, h2, h3⟩ := h1
    cases h2
    have hpre : ∀ z ∈ ([(0, 10, 13, 13)] : List (Nat × Nat × Nat × Nat)), z.2.2.2 ≠ 0 ∧ ∃ nm ∈ z_xs, eA ≠ nm ∧ Cond.classLink RL z.2.2.2 nm ∈ SW := by
      refine List.forall_mem_cons.mpr ⟨⟨by decide, eB, by decide, by decide, q659⟩, ?_⟩
      exact fun z hz => by cases hz
    refine ⟨17, 2, ⟨by decide, [(0, 10, 13, 13)], [], (0, 10, 17, 15), rfl, hpre, by decide, by decide, q660, rfl⟩, Or.inr ⟨dL_rate_17, rfl⟩, ?_⟩
    refine g_iconst (v := nI 2) dL_rate_19 (by decide) ?_
    exact g_ireturn dL_rate_20 rfl rfl ⟨rfl, rfl, h3⟩
  · obtain ⟨-, h2, -⟩ := h1
    cases h2
theorem hL_set_v {M : zM} {fs : List Value} {a1 a2 : Int32} {v : Int32} {f : Nat → Int64} {P : zM → Prop} (hM8 : M 8 = some (.inr (5, fs))) (hc : Cn mX5_set 8 0 0 none [.ref 8, .int a1, .int a2] M (zi v P)) (hP : ∀ M1, P M1 → M1 243 = some (lA f)) : Cn mL_set 9 1 6 none [.ref 8, .int a1, .int a2, .ref 243] M (zi (nI 0) (fun M' => ∃ M1, P M1 ∧ M' = zu M1 243 (lA (vp_updL f 0 v.toInt64)))) := by
  refine g_aload_n dL_set_0 rfl ?_
  refine g_iconst (v := nI 0) dL_set_1 (by decide) ?_
  refine g_aload_n dL_set_2 rfl ?_
  refine g_iload_n dL_set_3 rfl ?_
  refine g_iload_n dL_set_4 rfl ?_
  refine g_callV_i (hc) oX5_set pX5_set lL_33 dL_set_5 rfl hM8 rfl rfl rfl (Nat.le_of_ble_eq_true rfl) (Nat.le_of_ble_eq_true rfl) (by decide) (fun M1 h1 => ?_)
  refine g_i2l dL_set_8 ?_
  refine g_last dL_set_9 (hP M1 h1) (vp_in_nI (by omega) (by omega)) (by omega) ?_
  refine g_goto (tgt := 25) dL_set_10 (by decide) ?_
  refine g_iconst (v := nI 0) dL_set_25 (by decide) ?_
  exact g_ireturn dL_set_26 rfl rfl ⟨rfl, rfl, M1, h1, rfl⟩
theorem hL_set_t1 {M : zM} {fs : List Value} {a1 a2 : Int32} {P : zM → Prop} (hM8 : M 8 = some (.inr (5, fs))) (hc : Cn mX5_set 8 1 6 none [.ref 8, .int a1, .int a2] M (zt eB P)) : Cn mL_set 9 1 6 none [.ref 8, .int a1, .int a2, .ref 243] M (zi (nI 1) P) := by
  refine g_aload_n dL_set_0 rfl ?_
  refine g_iconst (v := nI 0) dL_set_1 (by decide) ?_
  refine g_aload_n dL_set_2 rfl ?_
  refine g_iload_n dL_set_3 rfl ?_
  refine g_iload_n dL_set_4 rfl ?_
  refine g_callVx (j := 4) (kc1 := 0) (ks1 := 0) rfl hc oX5_set pX5_set lL_33 dL_set_5 rfl hM8 rfl rfl rfl (Nat.le_of_ble_eq_true rfl) (Nat.le_of_ble_eq_true rfl) (by decide) (by decide) (by decide) (by decide) (fun M1 E h1 => ?_) (fun M1 nx1 v h1 => ?_)
  · obtain ⟨-, h2, h3⟩ := h1
    cases h2
    refine ⟨13, 2, ⟨by decide, [], [(0, 10, 17, 15), (0, 10, 21, 17)], (0, 10, 13, 13), rfl, fun z hz => (by cases hz), by decide, by decide, q659, rfl⟩, Or.inr ⟨dL_set_13, rfl⟩, ?_⟩
    refine g_iconst (v := nI 1) dL_set_15 (by decide) ?_
    exact g_ireturn dL_set_16 rfl rfl ⟨rfl, rfl, h3⟩
  · obtain ⟨-, h2, -⟩ := h1
    cases h2
theorem hL_set_t2 {M : zM} {fs : List Value} {a1 a2 : Int32} {P : zM → Prop} (hM8 : M 8 = some (.inr (5, fs))) (hc : Cn mX5_set 8 1 6 none [.ref 8, .int a1, .int a2] M (zt eA P)) : Cn mL_set 9 1 6 none [.ref 8, .int a1, .int a2, .ref 243] M (zi (nI 2) P) := by
  refine g_aload_n dL_set_0 rfl ?_
  refine g_iconst (v := nI 0) dL_set_1 (by decide) ?_
  refine g_aload_n dL_set_2 rfl ?_
  refine g_iload_n dL_set_3 rfl ?_
  refine g_iload_n dL_set_4 rfl ?_
  refine g_callVx (j := 4) (kc1 := 0) (ks1 := 0) rfl hc oX5_set pX5_set lL_33 dL_set_5 rfl hM8 rfl rfl rfl (Nat.le_of_ble_eq_true rfl) (Nat.le_of_ble_eq_true rfl) (by decide) (by decide) (by decide) (by decide) (fun M1 E h1 => ?_) (fun M1 nx1 v h1 => ?_)
  · obtain ⟨-, h2, h3⟩ := h1
    cases h2
    have hpre : ∀ z ∈ ([(0, 10, 13, 13)] : List (Nat × Nat × Nat × Nat)), z.2.2.2 ≠ 0 ∧ ∃ nm ∈ z_xs, eA ≠ nm ∧ Cond.classLink RL z.2.2.2 nm ∈ SW := by
      refine List.forall_mem_cons.mpr ⟨⟨by decide, eB, by decide, by decide, q659⟩, ?_⟩
      exact fun z hz => by cases hz
    refine ⟨17, 2, ⟨by decide, [(0, 10, 13, 13)], [(0, 10, 21, 17)], (0, 10, 17, 15), rfl, hpre, by decide, by decide, q660, rfl⟩, Or.inr ⟨dL_set_17, rfl⟩, ?_⟩
    refine g_iconst (v := nI 2) dL_set_19 (by decide) ?_
    exact g_ireturn dL_set_20 rfl rfl ⟨rfl, rfl, h3⟩
  · obtain ⟨-, h2, -⟩ := h1
    cases h2
theorem hL_set_t3 {M : zM} {fs : List Value} {a1 a2 : Int32} {P : zM → Prop} (hM8 : M 8 = some (.inr (5, fs))) (hc : Cn mX5_set 8 1 6 none [.ref 8, .int a1, .int a2] M (zt eS P)) : Cn mL_set 9 1 6 none [.ref 8, .int a1, .int a2, .ref 243] M (zi (nI 3) P) := by
  refine g_aload_n dL_set_0 rfl ?_
  refine g_iconst (v := nI 0) dL_set_1 (by decide) ?_
  refine g_aload_n dL_set_2 rfl ?_
  refine g_iload_n dL_set_3 rfl ?_
  refine g_iload_n dL_set_4 rfl ?_
  refine g_callVx (j := 4) (kc1 := 0) (ks1 := 0) rfl hc oX5_set pX5_set lL_33 dL_set_5 rfl hM8 rfl rfl rfl (Nat.le_of_ble_eq_true rfl) (Nat.le_of_ble_eq_true rfl) (by decide) (by decide) (by decide) (by decide) (fun M1 E h1 => ?_) (fun M1 nx1 v h1 => ?_)
  · obtain ⟨-, h2, h3⟩ := h1
    cases h2
    have hpre : ∀ z ∈ ([(0, 10, 13, 13), (0, 10, 17, 15)] : List (Nat × Nat × Nat × Nat)), z.2.2.2 ≠ 0 ∧ ∃ nm ∈ z_xs, eS ≠ nm ∧ Cond.classLink RL z.2.2.2 nm ∈ SW := by
      refine List.forall_mem_cons.mpr ⟨⟨by decide, eB, by decide, by decide, q659⟩, ?_⟩
      refine List.forall_mem_cons.mpr ⟨⟨by decide, eA, by decide, by decide, q660⟩, ?_⟩
      exact fun z hz => by cases hz
    refine ⟨21, 2, ⟨by decide, [(0, 10, 13, 13), (0, 10, 17, 15)], [], (0, 10, 21, 17), rfl, hpre, by decide, by decide, q661, rfl⟩, Or.inr ⟨dL_set_21, rfl⟩, ?_⟩
    refine g_iconst (v := nI 3) dL_set_23 (by decide) ?_
    exact g_ireturn dL_set_24 rfl rfl ⟨rfl, rfl, h3⟩
  · obtain ⟨-, h2, -⟩ := h1
    cases h2
theorem hL_append_v {M : zM} {fs : List Value} {a1 : Int32} {v : Int32} {f : Nat → Int64} {P : zM → Prop} (hM8 : M 8 = some (.inr (5, fs))) (hc : Cn mX5_append 8 0 0 none [.ref 8, .int a1] M (zi v P)) (hP : ∀ M1, P M1 → M1 243 = some (lA f)) : Cn mL_append 9 1 6 none [.ref 8, .int a1, .ref 243] M (zi (nI 0) (fun M' => ∃ M1, P M1 ∧ M' = zu M1 243 (lA (vp_updL f 0 v.toInt64)))) := by
  refine g_aload_n dL_append_0 rfl ?_
  refine g_iconst (v := nI 0) dL_append_1 (by decide) ?_
  refine g_aload_n dL_append_2 rfl ?_
  refine g_iload_n dL_append_3 rfl ?_
  refine g_callV_i (hc) oX5_append pX5_append lL_36 dL_append_4 rfl hM8 rfl rfl rfl (Nat.le_of_ble_eq_true rfl) (Nat.le_of_ble_eq_true rfl) (by decide) (fun M1 h1 => ?_)
  refine g_i2l dL_append_7 ?_
  refine g_last dL_append_8 (hP M1 h1) (vp_in_nI (by omega) (by omega)) (by omega) ?_
  refine g_goto (tgt := 18) dL_append_9 (by decide) ?_
  refine g_iconst (v := nI 0) dL_append_18 (by decide) ?_
  exact g_ireturn dL_append_19 rfl rfl ⟨rfl, rfl, M1, h1, rfl⟩
theorem hL_append_t1 {M : zM} {fs : List Value} {a1 : Int32} {P : zM → Prop} (hM8 : M 8 = some (.inr (5, fs))) (hc : Cn mX5_append 8 1 6 none [.ref 8, .int a1] M (zt eA P)) : Cn mL_append 9 1 6 none [.ref 8, .int a1, .ref 243] M (zi (nI 1) P) := by
  refine g_aload_n dL_append_0 rfl ?_
  refine g_iconst (v := nI 0) dL_append_1 (by decide) ?_
  refine g_aload_n dL_append_2 rfl ?_
  refine g_iload_n dL_append_3 rfl ?_
  refine g_callVx (j := 3) (kc1 := 0) (ks1 := 0) rfl hc oX5_append pX5_append lL_36 dL_append_4 rfl hM8 rfl rfl rfl (Nat.le_of_ble_eq_true rfl) (Nat.le_of_ble_eq_true rfl) (by decide) (by decide) (by decide) (by decide) (fun M1 E h1 => ?_) (fun M1 nx1 v h1 => ?_)
  · obtain ⟨-, h2, h3⟩ := h1
    cases h2
    refine ⟨12, 1, ⟨by decide, [], [(0, 9, 15, 17)], (0, 9, 12, 15), rfl, fun z hz => (by cases hz), by decide, by decide, q660, rfl⟩, Or.inl ⟨3, dL_append_12, rfl, rfl⟩, ?_⟩
    refine g_iconst (v := nI 1) dL_append_13 (by decide) ?_
    exact g_ireturn dL_append_14 rfl rfl ⟨rfl, rfl, h3⟩
  · obtain ⟨-, h2, -⟩ := h1
    cases h2
theorem hL_append_t2 {M : zM} {fs : List Value} {a1 : Int32} {P : zM → Prop} (hM8 : M 8 = some (.inr (5, fs))) (hc : Cn mX5_append 8 1 6 none [.ref 8, .int a1] M (zt eS P)) : Cn mL_append 9 1 6 none [.ref 8, .int a1, .ref 243] M (zi (nI 2) P) := by
  refine g_aload_n dL_append_0 rfl ?_
  refine g_iconst (v := nI 0) dL_append_1 (by decide) ?_
  refine g_aload_n dL_append_2 rfl ?_
  refine g_iload_n dL_append_3 rfl ?_
  refine g_callVx (j := 3) (kc1 := 0) (ks1 := 0) rfl hc oX5_append pX5_append lL_36 dL_append_4 rfl hM8 rfl rfl rfl (Nat.le_of_ble_eq_true rfl) (Nat.le_of_ble_eq_true rfl) (by decide) (by decide) (by decide) (by decide) (fun M1 E h1 => ?_) (fun M1 nx1 v h1 => ?_)
  · obtain ⟨-, h2, h3⟩ := h1
    cases h2
    have hpre : ∀ z ∈ ([(0, 9, 12, 15)] : List (Nat × Nat × Nat × Nat)), z.2.2.2 ≠ 0 ∧ ∃ nm ∈ z_xs, eS ≠ nm ∧ Cond.classLink RL z.2.2.2 nm ∈ SW := by
      refine List.forall_mem_cons.mpr ⟨⟨by decide, eA, by decide, by decide, q660⟩, ?_⟩
      exact fun z hz => by cases hz
    refine ⟨15, 1, ⟨by decide, [(0, 9, 12, 15)], [], (0, 9, 15, 17), rfl, hpre, by decide, by decide, q661, rfl⟩, Or.inl ⟨3, dL_append_15, rfl, rfl⟩, ?_⟩
    refine g_iconst (v := nI 2) dL_append_16 (by decide) ?_
    exact g_ireturn dL_append_17 rfl rfl ⟨rfl, rfl, h3⟩
  · obtain ⟨-, h2, -⟩ := h1
    cases h2
theorem hL_lets_v {M : zM} {fs : List Value} {f : Nat → Int64} {P : Nat → zM → Prop} (hM8 : M 8 = some (.inr (5, fs))) (hc : Cn mX5_lets 8 0 0 none [.ref 8] M (zE1 P)) (hP : ∀ n M1, P n M1 → M1 243 = some (lA f)) : Cn mL_lets 9 1 6 none [.ref 8, .ref 243] M (zi (nI 0) (fun M' => ∃ n M1, P n M1 ∧ M' = zu M1 243 (lA (vp_updL f 0 (nI n).toInt64)))) := by
  refine g_aload_n dL_lets_0 rfl ?_
  refine g_iconst (v := nI 0) dL_lets_1 (by decide) ?_
  refine g_aload_n dL_lets_2 rfl ?_
  refine g_callV (kc1 := 1) (ks1 := 6) hc oX5_lets pX5_lets lL_40 dL_lets_3 rfl hM8 rfl rfl rfl (Nat.le_of_ble_eq_true rfl) (Nat.le_of_ble_eq_true rfl) (by decide) (by decide) (by decide) (fun M1 nx1 E h1 => ?_) (fun M1 nx1 v h1 => ?_)
  · obtain ⟨n, -, h2, -⟩ := h1
    cases h2
  obtain ⟨n, rfl, h2, h1⟩ := h1
  cases h2
  show G _ _ _ _ _ _ _ [.int (nI n), _, _] _ _
  refine g_i2l dL_lets_6 ?_
  refine g_last dL_lets_7 (hP n M1 h1) (vp_in_nI (by omega) (by omega)) (by omega) ?_
  refine g_goto (tgt := 14) dL_lets_8 (by decide) ?_
  refine g_iconst (v := nI 0) dL_lets_14 (by decide) ?_
  exact g_ireturn dL_lets_15 rfl rfl ⟨rfl, rfl, n, M1, h1, rfl⟩
theorem hL_lets_t1 {M : zM} {fs : List Value} {P : zM → Prop} (hM8 : M 8 = some (.inr (5, fs))) (hc : Cn mX5_lets 8 1 6 none [.ref 8] M (zt eA P)) : Cn mL_lets 9 1 6 none [.ref 8, .ref 243] M (zi (nI 1) P) := by
  refine g_aload_n dL_lets_0 rfl ?_
  refine g_iconst (v := nI 0) dL_lets_1 (by decide) ?_
  refine g_aload_n dL_lets_2 rfl ?_
  refine g_callVx (j := 2) (kc1 := 0) (ks1 := 0) rfl hc oX5_lets pX5_lets lL_40 dL_lets_3 rfl hM8 rfl rfl rfl (Nat.le_of_ble_eq_true rfl) (Nat.le_of_ble_eq_true rfl) (by decide) (by decide) (by decide) (by decide) (fun M1 E h1 => ?_) (fun M1 nx1 v h1 => ?_)
  · obtain ⟨-, h2, h3⟩ := h1
    cases h2
    refine ⟨11, 1, ⟨by decide, [], [], (0, 8, 11, 15), rfl, fun z hz => (by cases hz), by decide, by decide, q660, rfl⟩, Or.inl ⟨2, dL_lets_11, rfl, rfl⟩, ?_⟩
    refine g_iconst (v := nI 1) dL_lets_12 (by decide) ?_
    exact g_ireturn dL_lets_13 rfl rfl ⟨rfl, rfl, h3⟩
  · obtain ⟨-, h2, -⟩ := h1
    cases h2
theorem hL_undo_v {M : zM} {fs : List Value} {v : Int32} {f : Nat → Int64} {P : zM → Prop} (hM8 : M 8 = some (.inr (5, fs))) (hc : Cn mX5_undo 8 0 0 none [.ref 8] M (zi v P)) (hP : ∀ M1, P M1 → M1 243 = some (lA f)) : Cn mL_undo 9 1 6 none [.ref 8, .ref 243] M (zi (nI 0) (fun M' => ∃ M1, P M1 ∧ M' = zu M1 243 (lA (vp_updL f 0 v.toInt64)))) := by
  refine g_aload_n dL_undo_0 rfl ?_
  refine g_iconst (v := nI 0) dL_undo_1 (by decide) ?_
  refine g_aload_n dL_undo_2 rfl ?_
  refine g_callV_i (hc) oX5_undo pX5_undo lL_44 dL_undo_3 rfl hM8 rfl rfl rfl (Nat.le_of_ble_eq_true rfl) (Nat.le_of_ble_eq_true rfl) (by decide) (fun M1 h1 => ?_)
  refine g_i2l dL_undo_6 ?_
  refine g_last dL_undo_7 (hP M1 h1) (vp_in_nI (by omega) (by omega)) (by omega) ?_
  refine g_goto (tgt := 14) dL_undo_8 (by decide) ?_
  refine g_iconst (v := nI 0) dL_undo_14 (by decide) ?_
  exact g_ireturn dL_undo_15 rfl rfl ⟨rfl, rfl, M1, h1, rfl⟩
theorem hL_undo_t1 {M : zM} {fs : List Value} {P : zM → Prop} (hM8 : M 8 = some (.inr (5, fs))) (hc : Cn mX5_undo 8 1 6 none [.ref 8] M (zt eS P)) : Cn mL_undo 9 1 6 none [.ref 8, .ref 243] M (zi (nI 1) P) := by
  refine g_aload_n dL_undo_0 rfl ?_
  refine g_iconst (v := nI 0) dL_undo_1 (by decide) ?_
  refine g_aload_n dL_undo_2 rfl ?_
  refine g_callVx (j := 2) (kc1 := 0) (ks1 := 0) rfl hc oX5_undo pX5_undo lL_44 dL_undo_3 rfl hM8 rfl rfl rfl (Nat.le_of_ble_eq_true rfl) (Nat.le_of_ble_eq_true rfl) (by decide) (by decide) (by decide) (by decide) (fun M1 E h1 => ?_) (fun M1 nx1 v h1 => ?_)
  · obtain ⟨-, h2, h3⟩ := h1
    cases h2
    refine ⟨11, 1, ⟨by decide, [], [], (0, 8, 11, 17), rfl, fun z hz => (by cases hz), by decide, by decide, q661, rfl⟩, Or.inl ⟨2, dL_undo_11, rfl, rfl⟩, ?_⟩
    refine g_iconst (v := nI 1) dL_undo_12 (by decide) ?_
    exact g_ireturn dL_undo_13 rfl rfl ⟨rfl, rfl, h3⟩
  · obtain ⟨-, h2, -⟩ := h1
    cases h2
theorem hL_restore_v {M : zM} {fs : List Value} {v : Int32} {f : Nat → Int64} {P : zM → Prop} (hM8 : M 8 = some (.inr (5, fs))) (hc : Cn mX5_restore 8 0 0 none [.ref 8] M (zi v P)) (hP : ∀ M1, P M1 → M1 243 = some (lA f)) : Cn mL_restore 9 1 6 none [.ref 8, .ref 243] M (zi (nI 0) (fun M' => ∃ M1, P M1 ∧ M' = zu M1 243 (lA (vp_updL f 0 v.toInt64)))) := by
  refine g_aload_n dL_restore_0 rfl ?_
  refine g_iconst (v := nI 0) dL_restore_1 (by decide) ?_
  refine g_aload_n dL_restore_2 rfl ?_
  refine g_callV_i (hc) oX5_restore pX5_restore lL_47 dL_restore_3 rfl hM8 rfl rfl rfl (Nat.le_of_ble_eq_true rfl) (Nat.le_of_ble_eq_true rfl) (by decide) (fun M1 h1 => ?_)
  refine g_i2l dL_restore_6 ?_
  refine g_last dL_restore_7 (hP M1 h1) (vp_in_nI (by omega) (by omega)) (by omega) ?_
  refine g_goto (tgt := 14) dL_restore_8 (by decide) ?_
  refine g_iconst (v := nI 0) dL_restore_14 (by decide) ?_
  exact g_ireturn dL_restore_15 rfl rfl ⟨rfl, rfl, M1, h1, rfl⟩
theorem hL_restore_t1 {M : zM} {fs : List Value} {P : zM → Prop} (hM8 : M 8 = some (.inr (5, fs))) (hc : Cn mX5_restore 8 1 6 none [.ref 8] M (zt eS P)) : Cn mL_restore 9 1 6 none [.ref 8, .ref 243] M (zi (nI 1) P) := by
  refine g_aload_n dL_restore_0 rfl ?_
  refine g_iconst (v := nI 0) dL_restore_1 (by decide) ?_
  refine g_aload_n dL_restore_2 rfl ?_
  refine g_callVx (j := 2) (kc1 := 0) (ks1 := 0) rfl hc oX5_restore pX5_restore lL_47 dL_restore_3 rfl hM8 rfl rfl rfl (Nat.le_of_ble_eq_true rfl) (Nat.le_of_ble_eq_true rfl) (by decide) (by decide) (by decide) (by decide) (fun M1 E h1 => ?_) (fun M1 nx1 v h1 => ?_)
  · obtain ⟨-, h2, h3⟩ := h1
    cases h2
    refine ⟨11, 1, ⟨by decide, [], [], (0, 8, 11, 17), rfl, fun z hz => (by cases hz), by decide, by decide, q661, rfl⟩, Or.inl ⟨2, dL_restore_11, rfl, rfl⟩, ?_⟩
    refine g_iconst (v := nI 1) dL_restore_12 (by decide) ?_
    exact g_ireturn dL_restore_13 rfl rfl ⟨rfl, rfl, h3⟩
  · obtain ⟨-, h2, -⟩ := h1
    cases h2
theorem hL_regularOf_v {M : zM} {fs : List Value} {a1 a2 : Int32} {v : Int32} {f : Nat → Int64} {P : zM → Prop} (hM8 : M 8 = some (.inr (5, fs))) (hc : Cn mX5_regularOf 8 0 0 none [.ref 8, .int a1, .int a2] M (zi v P)) (hP : ∀ M1, P M1 → M1 243 = some (lA f)) : Cn mL_regularOf 9 1 6 none [.ref 8, .int a1, .int a2, .ref 243] M (zi (nI 0) (fun M' => ∃ M1, P M1 ∧ M' = zu M1 243 (lA (vp_updL f 0 v.toInt64)))) := by
  refine g_aload_n dL_regularOf_0 rfl ?_
  refine g_iconst (v := nI 0) dL_regularOf_1 (by decide) ?_
  refine g_aload_n dL_regularOf_2 rfl ?_
  refine g_iload_n dL_regularOf_3 rfl ?_
  refine g_iload_n dL_regularOf_4 rfl ?_
  refine g_callV_i (hc) oX5_regularOf pX5_regularOf lL_50 dL_regularOf_5 rfl hM8 rfl rfl rfl (Nat.le_of_ble_eq_true rfl) (Nat.le_of_ble_eq_true rfl) (by decide) (fun M1 h1 => ?_)
  refine g_i2l dL_regularOf_8 ?_
  refine g_last dL_regularOf_9 (hP M1 h1) (vp_in_nI (by omega) (by omega)) (by omega) ?_
  refine g_goto (tgt := 21) dL_regularOf_10 (by decide) ?_
  refine g_iconst (v := nI 0) dL_regularOf_21 (by decide) ?_
  exact g_ireturn dL_regularOf_22 rfl rfl ⟨rfl, rfl, M1, h1, rfl⟩
theorem hL_regularOf_t1 {M : zM} {fs : List Value} {a1 a2 : Int32} {P : zM → Prop} (hM8 : M 8 = some (.inr (5, fs))) (hc : Cn mX5_regularOf 8 1 6 none [.ref 8, .int a1, .int a2] M (zt eB P)) : Cn mL_regularOf 9 1 6 none [.ref 8, .int a1, .int a2, .ref 243] M (zi (nI 1) P) := by
  refine g_aload_n dL_regularOf_0 rfl ?_
  refine g_iconst (v := nI 0) dL_regularOf_1 (by decide) ?_
  refine g_aload_n dL_regularOf_2 rfl ?_
  refine g_iload_n dL_regularOf_3 rfl ?_
  refine g_iload_n dL_regularOf_4 rfl ?_
  refine g_callVx (j := 4) (kc1 := 0) (ks1 := 0) rfl hc oX5_regularOf pX5_regularOf lL_50 dL_regularOf_5 rfl hM8 rfl rfl rfl (Nat.le_of_ble_eq_true rfl) (Nat.le_of_ble_eq_true rfl) (by decide) (by decide) (by decide) (by decide) (fun M1 E h1 => ?_) (fun M1 nx1 v h1 => ?_)
  · obtain ⟨-, h2, h3⟩ := h1
    cases h2
    refine ⟨13, 2, ⟨by decide, [], [(0, 10, 17, 15)], (0, 10, 13, 13), rfl, fun z hz => (by cases hz), by decide, by decide, q659, rfl⟩, Or.inr ⟨dL_regularOf_13, rfl⟩, ?_⟩
    refine g_iconst (v := nI 1) dL_regularOf_15 (by decide) ?_
    exact g_ireturn dL_regularOf_16 rfl rfl ⟨rfl, rfl, h3⟩
  · obtain ⟨-, h2, -⟩ := h1
    cases h2
theorem hL_regularOf_t2 {M : zM} {fs : List Value} {a1 a2 : Int32} {P : zM → Prop} (hM8 : M 8 = some (.inr (5, fs))) (hc : Cn mX5_regularOf 8 1 6 none [.ref 8, .int a1, .int a2] M (zt eA P)) : Cn mL_regularOf 9 1 6 none [.ref 8, .int a1, .int a2, .ref 243] M (zi (nI 2) P) := by
  refine g_aload_n dL_regularOf_0 rfl ?_
  refine g_iconst (v := nI 0) dL_regularOf_1 (by decide) ?_
  refine g_aload_n dL_regularOf_2 rfl ?_
  refine g_iload_n dL_regularOf_3 rfl ?_
  refine g_iload_n dL_regularOf_4 rfl ?_
  refine g_callVx (j := 4) (kc1 := 0) (ks1 := 0) rfl hc oX5_regularOf pX5_regularOf lL_50 dL_regularOf_5 rfl hM8 rfl rfl rfl (Nat.le_of_ble_eq_true rfl) (Nat.le_of_ble_eq_true rfl) (by decide) (by decide) (by decide) (by decide) (fun M1 E h1 => ?_) (fun M1 nx1 v h1 => ?_)
  · obtain ⟨-, h2, h3⟩ := h1
    cases h2
    have hpre : ∀ z ∈ ([(0, 10, 13, 13)] : List (Nat × Nat × Nat × Nat)), z.2.2.2 ≠ 0 ∧ ∃ nm ∈ z_xs, eA ≠ nm ∧ Cond.classLink RL z.2.2.2 nm ∈ SW := by
      refine List.forall_mem_cons.mpr ⟨⟨by decide, eB, by decide, by decide, q659⟩, ?_⟩
      exact fun z hz => by cases hz
    refine ⟨17, 2, ⟨by decide, [(0, 10, 13, 13)], [], (0, 10, 17, 15), rfl, hpre, by decide, by decide, q660, rfl⟩, Or.inr ⟨dL_regularOf_17, rfl⟩, ?_⟩
    refine g_iconst (v := nI 2) dL_regularOf_19 (by decide) ?_
    exact g_ireturn dL_regularOf_20 rfl rfl ⟨rfl, rfl, h3⟩
  · obtain ⟨-, h2, -⟩ := h1
    cases h2
theorem hL_singleOf_v {M : zM} {fs : List Value} {a1 a2 : Int32} {v : Int32} {f : Nat → Int64} {P : zM → Prop} (hM8 : M 8 = some (.inr (5, fs))) (hc : Cn mX5_singleOf 8 0 0 none [.ref 8, .int a1, .int a2] M (zi v P)) (hP : ∀ M1, P M1 → M1 243 = some (lA f)) : Cn mL_singleOf 9 1 6 none [.ref 8, .int a1, .int a2, .ref 243] M (zi (nI 0) (fun M' => ∃ M1, P M1 ∧ M' = zu M1 243 (lA (vp_updL f 0 v.toInt64)))) := by
  refine g_aload_n dL_singleOf_0 rfl ?_
  refine g_iconst (v := nI 0) dL_singleOf_1 (by decide) ?_
  refine g_aload_n dL_singleOf_2 rfl ?_
  refine g_iload_n dL_singleOf_3 rfl ?_
  refine g_iload_n dL_singleOf_4 rfl ?_
  refine g_callV_i (hc) oX5_singleOf pX5_singleOf lL_53 dL_singleOf_5 rfl hM8 rfl rfl rfl (Nat.le_of_ble_eq_true rfl) (Nat.le_of_ble_eq_true rfl) (by decide) (fun M1 h1 => ?_)
  refine g_i2l dL_singleOf_8 ?_
  refine g_last dL_singleOf_9 (hP M1 h1) (vp_in_nI (by omega) (by omega)) (by omega) ?_
  refine g_goto (tgt := 21) dL_singleOf_10 (by decide) ?_
  refine g_iconst (v := nI 0) dL_singleOf_21 (by decide) ?_
  exact g_ireturn dL_singleOf_22 rfl rfl ⟨rfl, rfl, M1, h1, rfl⟩
theorem hL_singleOf_t1 {M : zM} {fs : List Value} {a1 a2 : Int32} {P : zM → Prop} (hM8 : M 8 = some (.inr (5, fs))) (hc : Cn mX5_singleOf 8 1 6 none [.ref 8, .int a1, .int a2] M (zt eB P)) : Cn mL_singleOf 9 1 6 none [.ref 8, .int a1, .int a2, .ref 243] M (zi (nI 1) P) := by
  refine g_aload_n dL_singleOf_0 rfl ?_
  refine g_iconst (v := nI 0) dL_singleOf_1 (by decide) ?_
  refine g_aload_n dL_singleOf_2 rfl ?_
  refine g_iload_n dL_singleOf_3 rfl ?_
  refine g_iload_n dL_singleOf_4 rfl ?_
  refine g_callVx (j := 4) (kc1 := 0) (ks1 := 0) rfl hc oX5_singleOf pX5_singleOf lL_53 dL_singleOf_5 rfl hM8 rfl rfl rfl (Nat.le_of_ble_eq_true rfl) (Nat.le_of_ble_eq_true rfl) (by decide) (by decide) (by decide) (by decide) (fun M1 E h1 => ?_) (fun M1 nx1 v h1 => ?_)
  · obtain ⟨-, h2, h3⟩ := h1
    cases h2
    refine ⟨13, 2, ⟨by decide, [], [(0, 10, 17, 15)], (0, 10, 13, 13), rfl, fun z hz => (by cases hz), by decide, by decide, q659, rfl⟩, Or.inr ⟨dL_singleOf_13, rfl⟩, ?_⟩
    refine g_iconst (v := nI 1) dL_singleOf_15 (by decide) ?_
    exact g_ireturn dL_singleOf_16 rfl rfl ⟨rfl, rfl, h3⟩
  · obtain ⟨-, h2, -⟩ := h1
    cases h2
theorem hL_singleOf_t2 {M : zM} {fs : List Value} {a1 a2 : Int32} {P : zM → Prop} (hM8 : M 8 = some (.inr (5, fs))) (hc : Cn mX5_singleOf 8 1 6 none [.ref 8, .int a1, .int a2] M (zt eA P)) : Cn mL_singleOf 9 1 6 none [.ref 8, .int a1, .int a2, .ref 243] M (zi (nI 2) P) := by
  refine g_aload_n dL_singleOf_0 rfl ?_
  refine g_iconst (v := nI 0) dL_singleOf_1 (by decide) ?_
  refine g_aload_n dL_singleOf_2 rfl ?_
  refine g_iload_n dL_singleOf_3 rfl ?_
  refine g_iload_n dL_singleOf_4 rfl ?_
  refine g_callVx (j := 4) (kc1 := 0) (ks1 := 0) rfl hc oX5_singleOf pX5_singleOf lL_53 dL_singleOf_5 rfl hM8 rfl rfl rfl (Nat.le_of_ble_eq_true rfl) (Nat.le_of_ble_eq_true rfl) (by decide) (by decide) (by decide) (by decide) (fun M1 E h1 => ?_) (fun M1 nx1 v h1 => ?_)
  · obtain ⟨-, h2, h3⟩ := h1
    cases h2
    have hpre : ∀ z ∈ ([(0, 10, 13, 13)] : List (Nat × Nat × Nat × Nat)), z.2.2.2 ≠ 0 ∧ ∃ nm ∈ z_xs, eA ≠ nm ∧ Cond.classLink RL z.2.2.2 nm ∈ SW := by
      refine List.forall_mem_cons.mpr ⟨⟨by decide, eB, by decide, by decide, q659⟩, ?_⟩
      exact fun z hz => by cases hz
    refine ⟨17, 2, ⟨by decide, [(0, 10, 13, 13)], [], (0, 10, 17, 15), rfl, hpre, by decide, by decide, q660, rfl⟩, Or.inr ⟨dL_singleOf_17, rfl⟩, ?_⟩
    refine g_iconst (v := nI 2) dL_singleOf_19 (by decide) ?_
    exact g_ireturn dL_singleOf_20 rfl rfl ⟨rfl, rfl, h3⟩
  · obtain ⟨-, h2, -⟩ := h1
    cases h2
theorem hL_who_v {M : zM} {fs : List Value} {a1 a2 a3 : Int32} {v : Int32} {f : Nat → Int64} {P : zM → Prop} (hM8 : M 8 = some (.inr (5, fs))) (hc : Cn mX5_who 8 0 0 none [.ref 8, .int a1, .int a2, .int a3] M (zi v P)) (hP : ∀ M1, P M1 → M1 243 = some (lA f)) : Cn mL_who 9 1 6 none [.ref 8, .int a1, .int a2, .int a3, .ref 243] M (zi (nI 0) (fun M' => ∃ M1, P M1 ∧ M' = zu M1 243 (lA (vp_updL f 0 v.toInt64)))) := by
  refine g_aload dL_who_0 rfl ?_
  refine g_iconst (v := nI 0) dL_who_2 (by decide) ?_
  refine g_aload_n dL_who_3 rfl ?_
  refine g_iload_n dL_who_4 rfl ?_
  refine g_iload_n dL_who_5 rfl ?_
  refine g_iload_n dL_who_6 rfl ?_
  refine g_callV_i (hc) oX5_who pX5_who lL_56 dL_who_7 rfl hM8 rfl rfl rfl (Nat.le_of_ble_eq_true rfl) (Nat.le_of_ble_eq_true rfl) (by decide) (fun M1 h1 => ?_)
  refine g_i2l dL_who_10 ?_
  refine g_last dL_who_11 (hP M1 h1) (vp_in_nI (by omega) (by omega)) (by omega) ?_
  refine g_goto (tgt := 23) dL_who_12 (by decide) ?_
  refine g_iconst (v := nI 0) dL_who_23 (by decide) ?_
  exact g_ireturn dL_who_24 rfl rfl ⟨rfl, rfl, M1, h1, rfl⟩
theorem hL_who_t1 {M : zM} {fs : List Value} {a1 a2 a3 : Int32} {P : zM → Prop} (hM8 : M 8 = some (.inr (5, fs))) (hc : Cn mX5_who 8 1 6 none [.ref 8, .int a1, .int a2, .int a3] M (zt eB P)) : Cn mL_who 9 1 6 none [.ref 8, .int a1, .int a2, .int a3, .ref 243] M (zi (nI 1) P) := by
  refine g_aload dL_who_0 rfl ?_
  refine g_iconst (v := nI 0) dL_who_2 (by decide) ?_
  refine g_aload_n dL_who_3 rfl ?_
  refine g_iload_n dL_who_4 rfl ?_
  refine g_iload_n dL_who_5 rfl ?_
  refine g_iload_n dL_who_6 rfl ?_
  refine g_callVx (j := 5) (kc1 := 0) (ks1 := 0) rfl hc oX5_who pX5_who lL_56 dL_who_7 rfl hM8 rfl rfl rfl (Nat.le_of_ble_eq_true rfl) (Nat.le_of_ble_eq_true rfl) (by decide) (by decide) (by decide) (by decide) (fun M1 E h1 => ?_) (fun M1 nx1 v h1 => ?_)
  · obtain ⟨-, h2, h3⟩ := h1
    cases h2
    refine ⟨15, 2, ⟨by decide, [], [(0, 12, 19, 15)], (0, 12, 15, 13), rfl, fun z hz => (by cases hz), by decide, by decide, q659, rfl⟩, Or.inr ⟨dL_who_15, rfl⟩, ?_⟩
    refine g_iconst (v := nI 1) dL_who_17 (by decide) ?_
    exact g_ireturn dL_who_18 rfl rfl ⟨rfl, rfl, h3⟩
  · obtain ⟨-, h2, -⟩ := h1
    cases h2
theorem hL_who_t2 {M : zM} {fs : List Value} {a1 a2 a3 : Int32} {P : zM → Prop} (hM8 : M 8 = some (.inr (5, fs))) (hc : Cn mX5_who 8 1 6 none [.ref 8, .int a1, .int a2, .int a3] M (zt eA P)) : Cn mL_who 9 1 6 none [.ref 8, .int a1, .int a2, .int a3, .ref 243] M (zi (nI 2) P) := by
  refine g_aload dL_who_0 rfl ?_
  refine g_iconst (v := nI 0) dL_who_2 (by decide) ?_
  refine g_aload_n dL_who_3 rfl ?_
  refine g_iload_n dL_who_4 rfl ?_
  refine g_iload_n dL_who_5 rfl ?_
  refine g_iload_n dL_who_6 rfl ?_
  refine g_callVx (j := 5) (kc1 := 0) (ks1 := 0) rfl hc oX5_who pX5_who lL_56 dL_who_7 rfl hM8 rfl rfl rfl (Nat.le_of_ble_eq_true rfl) (Nat.le_of_ble_eq_true rfl) (by decide) (by decide) (by decide) (by decide) (fun M1 E h1 => ?_) (fun M1 nx1 v h1 => ?_)
  · obtain ⟨-, h2, h3⟩ := h1
    cases h2
    have hpre : ∀ z ∈ ([(0, 12, 15, 13)] : List (Nat × Nat × Nat × Nat)), z.2.2.2 ≠ 0 ∧ ∃ nm ∈ z_xs, eA ≠ nm ∧ Cond.classLink RL z.2.2.2 nm ∈ SW := by
      refine List.forall_mem_cons.mpr ⟨⟨by decide, eB, by decide, by decide, q659⟩, ?_⟩
      exact fun z hz => by cases hz
    refine ⟨19, 2, ⟨by decide, [(0, 12, 15, 13)], [], (0, 12, 19, 15), rfl, hpre, by decide, by decide, q660, rfl⟩, Or.inr ⟨dL_who_19, rfl⟩, ?_⟩
    refine g_iconst (v := nI 2) dL_who_21 (by decide) ?_
    exact g_ireturn dL_who_22 rfl rfl ⟨rfl, rfl, h3⟩
  · obtain ⟨-, h2, -⟩ := h1
    cases h2
theorem hL_hallOf_v {M : zM} {fs : List Value} {a1 a2 a3 : Int32} {v : Int32} {f : Nat → Int64} {P : zM → Prop} (hM8 : M 8 = some (.inr (5, fs))) (hc : Cn mX5_hallOf 8 0 0 none [.ref 8, .int a1, .int a2, .int a3] M (zi v P)) (hP : ∀ M1, P M1 → M1 243 = some (lA f)) : Cn mL_hallOf 9 1 6 none [.ref 8, .int a1, .int a2, .int a3, .ref 243] M (zi (nI 0) (fun M' => ∃ M1, P M1 ∧ M' = zu M1 243 (lA (vp_updL f 0 v.toInt64)))) := by
  refine g_aload dL_hallOf_0 rfl ?_
  refine g_iconst (v := nI 0) dL_hallOf_2 (by decide) ?_
  refine g_aload_n dL_hallOf_3 rfl ?_
  refine g_iload_n dL_hallOf_4 rfl ?_
  refine g_iload_n dL_hallOf_5 rfl ?_
  refine g_iload_n dL_hallOf_6 rfl ?_
  refine g_callV_i (hc) oX5_hallOf pX5_hallOf lL_60 dL_hallOf_7 rfl hM8 rfl rfl rfl (Nat.le_of_ble_eq_true rfl) (Nat.le_of_ble_eq_true rfl) (by decide) (fun M1 h1 => ?_)
  refine g_i2l dL_hallOf_10 ?_
  refine g_last dL_hallOf_11 (hP M1 h1) (vp_in_nI (by omega) (by omega)) (by omega) ?_
  refine g_goto (tgt := 23) dL_hallOf_12 (by decide) ?_
  refine g_iconst (v := nI 0) dL_hallOf_23 (by decide) ?_
  exact g_ireturn dL_hallOf_24 rfl rfl ⟨rfl, rfl, M1, h1, rfl⟩
theorem hL_hallOf_t1 {M : zM} {fs : List Value} {a1 a2 a3 : Int32} {P : zM → Prop} (hM8 : M 8 = some (.inr (5, fs))) (hc : Cn mX5_hallOf 8 1 6 none [.ref 8, .int a1, .int a2, .int a3] M (zt eB P)) : Cn mL_hallOf 9 1 6 none [.ref 8, .int a1, .int a2, .int a3, .ref 243] M (zi (nI 1) P) := by
  refine g_aload dL_hallOf_0 rfl ?_
  refine g_iconst (v := nI 0) dL_hallOf_2 (by decide) ?_
  refine g_aload_n dL_hallOf_3 rfl ?_
  refine g_iload_n dL_hallOf_4 rfl ?_
  refine g_iload_n dL_hallOf_5 rfl ?_
  refine g_iload_n dL_hallOf_6 rfl ?_
  refine g_callVx (j := 5) (kc1 := 0) (ks1 := 0) rfl hc oX5_hallOf pX5_hallOf lL_60 dL_hallOf_7 rfl hM8 rfl rfl rfl (Nat.le_of_ble_eq_true rfl) (Nat.le_of_ble_eq_true rfl) (by decide) (by decide) (by decide) (by decide) (fun M1 E h1 => ?_) (fun M1 nx1 v h1 => ?_)
  · obtain ⟨-, h2, h3⟩ := h1
    cases h2
    refine ⟨15, 2, ⟨by decide, [], [(0, 12, 19, 15)], (0, 12, 15, 13), rfl, fun z hz => (by cases hz), by decide, by decide, q659, rfl⟩, Or.inr ⟨dL_hallOf_15, rfl⟩, ?_⟩
    refine g_iconst (v := nI 1) dL_hallOf_17 (by decide) ?_
    exact g_ireturn dL_hallOf_18 rfl rfl ⟨rfl, rfl, h3⟩
  · obtain ⟨-, h2, -⟩ := h1
    cases h2
theorem hL_hallOf_t2 {M : zM} {fs : List Value} {a1 a2 a3 : Int32} {P : zM → Prop} (hM8 : M 8 = some (.inr (5, fs))) (hc : Cn mX5_hallOf 8 1 6 none [.ref 8, .int a1, .int a2, .int a3] M (zt eA P)) : Cn mL_hallOf 9 1 6 none [.ref 8, .int a1, .int a2, .int a3, .ref 243] M (zi (nI 2) P) := by
  refine g_aload dL_hallOf_0 rfl ?_
  refine g_iconst (v := nI 0) dL_hallOf_2 (by decide) ?_
  refine g_aload_n dL_hallOf_3 rfl ?_
  refine g_iload_n dL_hallOf_4 rfl ?_
  refine g_iload_n dL_hallOf_5 rfl ?_
  refine g_iload_n dL_hallOf_6 rfl ?_
  refine g_callVx (j := 5) (kc1 := 0) (ks1 := 0) rfl hc oX5_hallOf pX5_hallOf lL_60 dL_hallOf_7 rfl hM8 rfl rfl rfl (Nat.le_of_ble_eq_true rfl) (Nat.le_of_ble_eq_true rfl) (by decide) (by decide) (by decide) (by decide) (fun M1 E h1 => ?_) (fun M1 nx1 v h1 => ?_)
  · obtain ⟨-, h2, h3⟩ := h1
    cases h2
    have hpre : ∀ z ∈ ([(0, 12, 15, 13)] : List (Nat × Nat × Nat × Nat)), z.2.2.2 ≠ 0 ∧ ∃ nm ∈ z_xs, eA ≠ nm ∧ Cond.classLink RL z.2.2.2 nm ∈ SW := by
      refine List.forall_mem_cons.mpr ⟨⟨by decide, eB, by decide, by decide, q659⟩, ?_⟩
      exact fun z hz => by cases hz
    refine ⟨19, 2, ⟨by decide, [(0, 12, 15, 13)], [], (0, 12, 19, 15), rfl, hpre, by decide, by decide, q660, rfl⟩, Or.inr ⟨dL_hallOf_19, rfl⟩, ?_⟩
    refine g_iconst (v := nI 2) dL_hallOf_21 (by decide) ?_
    exact g_ireturn dL_hallOf_22 rfl rfl ⟨rfl, rfl, h3⟩
  · obtain ⟨-, h2, -⟩ := h1
    cases h2
theorem hL_tenant_v {M : zM} {fs : List Value} {a1 a2 : Int32} {v : Int32} {f : Nat → Int64} {P : zM → Prop} (hM8 : M 8 = some (.inr (5, fs))) (hc : Cn mX5_tenant 8 0 0 none [.ref 8, .int a1, .int a2] M (zi v P)) (hP : ∀ M1, P M1 → M1 243 = some (lA f)) : Cn mL_tenant 9 1 6 none [.ref 8, .int a1, .int a2, .ref 243] M (zi (nI 0) (fun M' => ∃ M1, P M1 ∧ M' = zu M1 243 (lA (vp_updL f 0 v.toInt64)))) := by
  refine g_aload_n dL_tenant_0 rfl ?_
  refine g_iconst (v := nI 0) dL_tenant_1 (by decide) ?_
  refine g_aload_n dL_tenant_2 rfl ?_
  refine g_iload_n dL_tenant_3 rfl ?_
  refine g_iload_n dL_tenant_4 rfl ?_
  refine g_callV_i (hc) oX5_tenant pX5_tenant lL_63 dL_tenant_5 rfl hM8 rfl rfl rfl (Nat.le_of_ble_eq_true rfl) (Nat.le_of_ble_eq_true rfl) (by decide) (fun M1 h1 => ?_)
  refine g_i2l dL_tenant_8 ?_
  refine g_last dL_tenant_9 (hP M1 h1) (vp_in_nI (by omega) (by omega)) (by omega) ?_
  refine g_goto (tgt := 21) dL_tenant_10 (by decide) ?_
  refine g_iconst (v := nI 0) dL_tenant_21 (by decide) ?_
  exact g_ireturn dL_tenant_22 rfl rfl ⟨rfl, rfl, M1, h1, rfl⟩
theorem hL_tenant_t1 {M : zM} {fs : List Value} {a1 a2 : Int32} {P : zM → Prop} (hM8 : M 8 = some (.inr (5, fs))) (hc : Cn mX5_tenant 8 1 6 none [.ref 8, .int a1, .int a2] M (zt eB P)) : Cn mL_tenant 9 1 6 none [.ref 8, .int a1, .int a2, .ref 243] M (zi (nI 1) P) := by
  refine g_aload_n dL_tenant_0 rfl ?_
  refine g_iconst (v := nI 0) dL_tenant_1 (by decide) ?_
  refine g_aload_n dL_tenant_2 rfl ?_
  refine g_iload_n dL_tenant_3 rfl ?_
  refine g_iload_n dL_tenant_4 rfl ?_
  refine g_callVx (j := 4) (kc1 := 0) (ks1 := 0) rfl hc oX5_tenant pX5_tenant lL_63 dL_tenant_5 rfl hM8 rfl rfl rfl (Nat.le_of_ble_eq_true rfl) (Nat.le_of_ble_eq_true rfl) (by decide) (by decide) (by decide) (by decide) (fun M1 E h1 => ?_) (fun M1 nx1 v h1 => ?_)
  · obtain ⟨-, h2, h3⟩ := h1
    cases h2
    refine ⟨13, 2, ⟨by decide, [], [(0, 10, 17, 15)], (0, 10, 13, 13), rfl, fun z hz => (by cases hz), by decide, by decide, q659, rfl⟩, Or.inr ⟨dL_tenant_13, rfl⟩, ?_⟩
    refine g_iconst (v := nI 1) dL_tenant_15 (by decide) ?_
    exact g_ireturn dL_tenant_16 rfl rfl ⟨rfl, rfl, h3⟩
  · obtain ⟨-, h2, -⟩ := h1
    cases h2
theorem hL_tenant_t2 {M : zM} {fs : List Value} {a1 a2 : Int32} {P : zM → Prop} (hM8 : M 8 = some (.inr (5, fs))) (hc : Cn mX5_tenant 8 1 6 none [.ref 8, .int a1, .int a2] M (zt eA P)) : Cn mL_tenant 9 1 6 none [.ref 8, .int a1, .int a2, .ref 243] M (zi (nI 2) P) := by
  refine g_aload_n dL_tenant_0 rfl ?_
  refine g_iconst (v := nI 0) dL_tenant_1 (by decide) ?_
  refine g_aload_n dL_tenant_2 rfl ?_
  refine g_iload_n dL_tenant_3 rfl ?_
  refine g_iload_n dL_tenant_4 rfl ?_
  refine g_callVx (j := 4) (kc1 := 0) (ks1 := 0) rfl hc oX5_tenant pX5_tenant lL_63 dL_tenant_5 rfl hM8 rfl rfl rfl (Nat.le_of_ble_eq_true rfl) (Nat.le_of_ble_eq_true rfl) (by decide) (by decide) (by decide) (by decide) (fun M1 E h1 => ?_) (fun M1 nx1 v h1 => ?_)
  · obtain ⟨-, h2, h3⟩ := h1
    cases h2
    have hpre : ∀ z ∈ ([(0, 10, 13, 13)] : List (Nat × Nat × Nat × Nat)), z.2.2.2 ≠ 0 ∧ ∃ nm ∈ z_xs, eA ≠ nm ∧ Cond.classLink RL z.2.2.2 nm ∈ SW := by
      refine List.forall_mem_cons.mpr ⟨⟨by decide, eB, by decide, by decide, q659⟩, ?_⟩
      exact fun z hz => by cases hz
    refine ⟨17, 2, ⟨by decide, [(0, 10, 13, 13)], [], (0, 10, 17, 15), rfl, hpre, by decide, by decide, q660, rfl⟩, Or.inr ⟨dL_tenant_17, rfl⟩, ?_⟩
    refine g_iconst (v := nI 2) dL_tenant_19 (by decide) ?_
    exact g_ireturn dL_tenant_20 rfl rfl ⟨rfl, rfl, h3⟩
  · obtain ⟨-, h2, -⟩ := h1
    cases h2
theorem hL_count_v {M : zM} {fs : List Value} {a1 : Int32} {v : Int32} {f : Nat → Int64} {P : zM → Prop} (hM8 : M 8 = some (.inr (5, fs))) (hc : Cn mX5_count 8 0 0 none [.ref 8, .int a1] M (zi v P)) (hP : ∀ M1, P M1 → M1 243 = some (lA f)) : Cn mL_count 9 1 6 none [.ref 8, .int a1, .ref 243] M (zi (nI 0) (fun M' => ∃ M1, P M1 ∧ M' = zu M1 243 (lA (vp_updL f 0 v.toInt64)))) := by
  refine g_aload_n dL_count_0 rfl ?_
  refine g_iconst (v := nI 0) dL_count_1 (by decide) ?_
  refine g_aload_n dL_count_2 rfl ?_
  refine g_iload_n dL_count_3 rfl ?_
  refine g_callV_i (hc) oX5_count pX5_count lL_66 dL_count_4 rfl hM8 rfl rfl rfl (Nat.le_of_ble_eq_true rfl) (Nat.le_of_ble_eq_true rfl) (by decide) (fun M1 h1 => ?_)
  refine g_i2l dL_count_7 ?_
  refine g_last dL_count_8 (hP M1 h1) (vp_in_nI (by omega) (by omega)) (by omega) ?_
  refine g_goto (tgt := 15) dL_count_9 (by decide) ?_
  refine g_iconst (v := nI 0) dL_count_15 (by decide) ?_
  exact g_ireturn dL_count_16 rfl rfl ⟨rfl, rfl, M1, h1, rfl⟩
theorem hL_count_t1 {M : zM} {fs : List Value} {a1 : Int32} {P : zM → Prop} (hM8 : M 8 = some (.inr (5, fs))) (hc : Cn mX5_count 8 1 6 none [.ref 8, .int a1] M (zt eA P)) : Cn mL_count 9 1 6 none [.ref 8, .int a1, .ref 243] M (zi (nI 1) P) := by
  refine g_aload_n dL_count_0 rfl ?_
  refine g_iconst (v := nI 0) dL_count_1 (by decide) ?_
  refine g_aload_n dL_count_2 rfl ?_
  refine g_iload_n dL_count_3 rfl ?_
  refine g_callVx (j := 3) (kc1 := 0) (ks1 := 0) rfl hc oX5_count pX5_count lL_66 dL_count_4 rfl hM8 rfl rfl rfl (Nat.le_of_ble_eq_true rfl) (Nat.le_of_ble_eq_true rfl) (by decide) (by decide) (by decide) (by decide) (fun M1 E h1 => ?_) (fun M1 nx1 v h1 => ?_)
  · obtain ⟨-, h2, h3⟩ := h1
    cases h2
    refine ⟨12, 1, ⟨by decide, [], [], (0, 9, 12, 15), rfl, fun z hz => (by cases hz), by decide, by decide, q660, rfl⟩, Or.inl ⟨3, dL_count_12, rfl, rfl⟩, ?_⟩
    refine g_iconst (v := nI 1) dL_count_13 (by decide) ?_
    exact g_ireturn dL_count_14 rfl rfl ⟨rfl, rfl, h3⟩
  · obtain ⟨-, h2, -⟩ := h1
    cases h2
theorem hL_refusal_v {M : zM} {fs : List Value} {a1 a2 a3 a4 a5 : Int32} {v : Int32} {f : Nat → Int64} {P : zM → Prop} (hM8 : M 8 = some (.inr (5, fs))) (hc : Cn mX5_refusal 8 0 0 none [.ref 8, .int a1, .int a2, .int a3, .int a4, .int a5] M (zi v P)) (hP : ∀ M1, P M1 → M1 243 = some (lA f)) : Cn mL_refusal 9 1 6 none [.ref 8, .int a1, .int a2, .int a3, .int a4, .int a5, .ref 243] M (zi (nI 0) (fun M' => ∃ M1, P M1 ∧ M' = zu M1 243 (lA (vp_updL f 0 v.toInt64)))) := by
  refine g_aload dL_refusal_0 rfl ?_
  refine g_iconst (v := nI 0) dL_refusal_2 (by decide) ?_
  refine g_aload_n dL_refusal_3 rfl ?_
  refine g_iload_n dL_refusal_4 rfl ?_
  refine g_iload_n dL_refusal_5 rfl ?_
  refine g_iload_n dL_refusal_6 rfl ?_
  refine g_iload dL_refusal_7 rfl ?_
  refine g_iload dL_refusal_9 rfl ?_
  refine g_callV_i (hc) oX5_refusal pX5_refusal lL_69 dL_refusal_11 rfl hM8 rfl rfl rfl (Nat.le_of_ble_eq_true rfl) (Nat.le_of_ble_eq_true rfl) (by decide) (fun M1 h1 => ?_)
  refine g_i2l dL_refusal_14 ?_
  refine g_last dL_refusal_15 (hP M1 h1) (vp_in_nI (by omega) (by omega)) (by omega) ?_
  refine g_goto (tgt := 27) dL_refusal_16 (by decide) ?_
  refine g_iconst (v := nI 0) dL_refusal_27 (by decide) ?_
  exact g_ireturn dL_refusal_28 rfl rfl ⟨rfl, rfl, M1, h1, rfl⟩
theorem hL_refusal_t1 {M : zM} {fs : List Value} {a1 a2 a3 a4 a5 : Int32} {P : zM → Prop} (hM8 : M 8 = some (.inr (5, fs))) (hc : Cn mX5_refusal 8 1 6 none [.ref 8, .int a1, .int a2, .int a3, .int a4, .int a5] M (zt eB P)) : Cn mL_refusal 9 1 6 none [.ref 8, .int a1, .int a2, .int a3, .int a4, .int a5, .ref 243] M (zi (nI 1) P) := by
  refine g_aload dL_refusal_0 rfl ?_
  refine g_iconst (v := nI 0) dL_refusal_2 (by decide) ?_
  refine g_aload_n dL_refusal_3 rfl ?_
  refine g_iload_n dL_refusal_4 rfl ?_
  refine g_iload_n dL_refusal_5 rfl ?_
  refine g_iload_n dL_refusal_6 rfl ?_
  refine g_iload dL_refusal_7 rfl ?_
  refine g_iload dL_refusal_9 rfl ?_
  refine g_callVx (j := 7) (kc1 := 0) (ks1 := 0) rfl hc oX5_refusal pX5_refusal lL_69 dL_refusal_11 rfl hM8 rfl rfl rfl (Nat.le_of_ble_eq_true rfl) (Nat.le_of_ble_eq_true rfl) (by decide) (by decide) (by decide) (by decide) (fun M1 E h1 => ?_) (fun M1 nx1 v h1 => ?_)
  · obtain ⟨-, h2, h3⟩ := h1
    cases h2
    refine ⟨19, 2, ⟨by decide, [], [(0, 16, 23, 15)], (0, 16, 19, 13), rfl, fun z hz => (by cases hz), by decide, by decide, q659, rfl⟩, Or.inr ⟨dL_refusal_19, rfl⟩, ?_⟩
    refine g_iconst (v := nI 1) dL_refusal_21 (by decide) ?_
    exact g_ireturn dL_refusal_22 rfl rfl ⟨rfl, rfl, h3⟩
  · obtain ⟨-, h2, -⟩ := h1
    cases h2
theorem hL_refusal_t2 {M : zM} {fs : List Value} {a1 a2 a3 a4 a5 : Int32} {P : zM → Prop} (hM8 : M 8 = some (.inr (5, fs))) (hc : Cn mX5_refusal 8 1 6 none [.ref 8, .int a1, .int a2, .int a3, .int a4, .int a5] M (zt eA P)) : Cn mL_refusal 9 1 6 none [.ref 8, .int a1, .int a2, .int a3, .int a4, .int a5, .ref 243] M (zi (nI 2) P) := by
  refine g_aload dL_refusal_0 rfl ?_
  refine g_iconst (v := nI 0) dL_refusal_2 (by decide) ?_
  refine g_aload_n dL_refusal_3 rfl ?_
  refine g_iload_n dL_refusal_4 rfl ?_
  refine g_iload_n dL_refusal_5 rfl ?_
  refine g_iload_n dL_refusal_6 rfl ?_
  refine g_iload dL_refusal_7 rfl ?_
  refine g_iload dL_refusal_9 rfl ?_
  refine g_callVx (j := 7) (kc1 := 0) (ks1 := 0) rfl hc oX5_refusal pX5_refusal lL_69 dL_refusal_11 rfl hM8 rfl rfl rfl (Nat.le_of_ble_eq_true rfl) (Nat.le_of_ble_eq_true rfl) (by decide) (by decide) (by decide) (by decide) (fun M1 E h1 => ?_) (fun M1 nx1 v h1 => ?_)
  · obtain ⟨-, h2, h3⟩ := h1
    cases h2
    have hpre : ∀ z ∈ ([(0, 16, 19, 13)] : List (Nat × Nat × Nat × Nat)), z.2.2.2 ≠ 0 ∧ ∃ nm ∈ z_xs, eA ≠ nm ∧ Cond.classLink RL z.2.2.2 nm ∈ SW := by
      refine List.forall_mem_cons.mpr ⟨⟨by decide, eB, by decide, by decide, q659⟩, ?_⟩
      exact fun z hz => by cases hz
    refine ⟨23, 2, ⟨by decide, [(0, 16, 19, 13)], [], (0, 16, 23, 15), rfl, hpre, by decide, by decide, q660, rfl⟩, Or.inr ⟨dL_refusal_23, rfl⟩, ?_⟩
    refine g_iconst (v := nI 2) dL_refusal_25 (by decide) ?_
    exact g_ireturn dL_refusal_26 rfl rfl ⟨rfl, rfl, h3⟩
  · obtain ⟨-, h2, -⟩ := h1
    cases h2
theorem hL_price_v {M : zM} {fs : List Value} {a1 a2 a3 a4 : Int32} {v : Int32} {f : Nat → Int64} {P : zM → Prop} (hM8 : M 8 = some (.inr (5, fs))) (hc : Cn mX5_price 8 0 0 none [.ref 8, .int a1, .int a2, .int a3, .int a4] M (zi v P)) (hP : ∀ M1, P M1 → M1 243 = some (lA f)) : Cn mL_price 9 1 6 none [.ref 8, .int a1, .int a2, .int a3, .int a4, .ref 243] M (zi (nI 0) (fun M' => ∃ M1, P M1 ∧ M' = zu M1 243 (lA (vp_updL f 0 v.toInt64)))) := by
  refine g_aload dL_price_0 rfl ?_
  refine g_iconst (v := nI 0) dL_price_2 (by decide) ?_
  refine g_aload_n dL_price_3 rfl ?_
  refine g_iload_n dL_price_4 rfl ?_
  refine g_iload_n dL_price_5 rfl ?_
  refine g_iload_n dL_price_6 rfl ?_
  refine g_iload dL_price_7 rfl ?_
  refine g_callV_i (hc) oX5_price pX5_price lL_73 dL_price_9 rfl hM8 rfl rfl rfl (Nat.le_of_ble_eq_true rfl) (Nat.le_of_ble_eq_true rfl) (by decide) (fun M1 h1 => ?_)
  refine g_i2l dL_price_12 ?_
  refine g_last dL_price_13 (hP M1 h1) (vp_in_nI (by omega) (by omega)) (by omega) ?_
  refine g_goto (tgt := 25) dL_price_14 (by decide) ?_
  refine g_iconst (v := nI 0) dL_price_25 (by decide) ?_
  exact g_ireturn dL_price_26 rfl rfl ⟨rfl, rfl, M1, h1, rfl⟩
theorem hL_price_t1 {M : zM} {fs : List Value} {a1 a2 a3 a4 : Int32} {P : zM → Prop} (hM8 : M 8 = some (.inr (5, fs))) (hc : Cn mX5_price 8 1 6 none [.ref 8, .int a1, .int a2, .int a3, .int a4] M (zt eB P)) : Cn mL_price 9 1 6 none [.ref 8, .int a1, .int a2, .int a3, .int a4, .ref 243] M (zi (nI 1) P) := by
  refine g_aload dL_price_0 rfl ?_
  refine g_iconst (v := nI 0) dL_price_2 (by decide) ?_
  refine g_aload_n dL_price_3 rfl ?_
  refine g_iload_n dL_price_4 rfl ?_
  refine g_iload_n dL_price_5 rfl ?_
  refine g_iload_n dL_price_6 rfl ?_
  refine g_iload dL_price_7 rfl ?_
  refine g_callVx (j := 6) (kc1 := 0) (ks1 := 0) rfl hc oX5_price pX5_price lL_73 dL_price_9 rfl hM8 rfl rfl rfl (Nat.le_of_ble_eq_true rfl) (Nat.le_of_ble_eq_true rfl) (by decide) (by decide) (by decide) (by decide) (fun M1 E h1 => ?_) (fun M1 nx1 v h1 => ?_)
  · obtain ⟨-, h2, h3⟩ := h1
    cases h2
    refine ⟨17, 2, ⟨by decide, [], [(0, 14, 21, 15)], (0, 14, 17, 13), rfl, fun z hz => (by cases hz), by decide, by decide, q659, rfl⟩, Or.inr ⟨dL_price_17, rfl⟩, ?_⟩
    refine g_iconst (v := nI 1) dL_price_19 (by decide) ?_
    exact g_ireturn dL_price_20 rfl rfl ⟨rfl, rfl, h3⟩
  · obtain ⟨-, h2, -⟩ := h1
    cases h2
theorem hL_price_t2 {M : zM} {fs : List Value} {a1 a2 a3 a4 : Int32} {P : zM → Prop} (hM8 : M 8 = some (.inr (5, fs))) (hc : Cn mX5_price 8 1 6 none [.ref 8, .int a1, .int a2, .int a3, .int a4] M (zt eA P)) : Cn mL_price 9 1 6 none [.ref 8, .int a1, .int a2, .int a3, .int a4, .ref 243] M (zi (nI 2) P) := by
  refine g_aload dL_price_0 rfl ?_
  refine g_iconst (v := nI 0) dL_price_2 (by decide) ?_
  refine g_aload_n dL_price_3 rfl ?_
  refine g_iload_n dL_price_4 rfl ?_
  refine g_iload_n dL_price_5 rfl ?_
  refine g_iload_n dL_price_6 rfl ?_
  refine g_iload dL_price_7 rfl ?_
  refine g_callVx (j := 6) (kc1 := 0) (ks1 := 0) rfl hc oX5_price pX5_price lL_73 dL_price_9 rfl hM8 rfl rfl rfl (Nat.le_of_ble_eq_true rfl) (Nat.le_of_ble_eq_true rfl) (by decide) (by decide) (by decide) (by decide) (fun M1 E h1 => ?_) (fun M1 nx1 v h1 => ?_)
  · obtain ⟨-, h2, h3⟩ := h1
    cases h2
    have hpre : ∀ z ∈ ([(0, 14, 17, 13)] : List (Nat × Nat × Nat × Nat)), z.2.2.2 ≠ 0 ∧ ∃ nm ∈ z_xs, eA ≠ nm ∧ Cond.classLink RL z.2.2.2 nm ∈ SW := by
      refine List.forall_mem_cons.mpr ⟨⟨by decide, eB, by decide, by decide, q659⟩, ?_⟩
      exact fun z hz => by cases hz
    refine ⟨21, 2, ⟨by decide, [(0, 14, 17, 13)], [], (0, 14, 21, 15), rfl, hpre, by decide, by decide, q660, rfl⟩, Or.inr ⟨dL_price_21, rfl⟩, ?_⟩
    refine g_iconst (v := nI 2) dL_price_23 (by decide) ?_
    exact g_ireturn dL_price_24 rfl rfl ⟨rfl, rfl, h3⟩
  · obtain ⟨-, h2, -⟩ := h1
    cases h2
theorem hL_nextFree_v {M : zM} {fs : List Value} {a1 a2 a3 : Int32} {v : Int32} {f : Nat → Int64} {P : zM → Prop} (hM8 : M 8 = some (.inr (5, fs))) (hc : Cn mX5_nextFree 8 0 0 none [.ref 8, .int a1, .int a2, .int a3] M (zi v P)) (hP : ∀ M1, P M1 → M1 243 = some (lA f)) : Cn mL_nextFree 9 1 6 none [.ref 8, .int a1, .int a2, .int a3, .ref 243] M (zi (nI 0) (fun M' => ∃ M1, P M1 ∧ M' = zu M1 243 (lA (vp_updL f 0 v.toInt64)))) := by
  refine g_aload dL_nextFree_0 rfl ?_
  refine g_iconst (v := nI 0) dL_nextFree_2 (by decide) ?_
  refine g_aload_n dL_nextFree_3 rfl ?_
  refine g_iload_n dL_nextFree_4 rfl ?_
  refine g_iload_n dL_nextFree_5 rfl ?_
  refine g_iload_n dL_nextFree_6 rfl ?_
  refine g_callV_i (hc) oX5_nextFree pX5_nextFree lL_77 dL_nextFree_7 rfl hM8 rfl rfl rfl (Nat.le_of_ble_eq_true rfl) (Nat.le_of_ble_eq_true rfl) (by decide) (fun M1 h1 => ?_)
  refine g_i2l dL_nextFree_10 ?_
  refine g_last dL_nextFree_11 (hP M1 h1) (vp_in_nI (by omega) (by omega)) (by omega) ?_
  refine g_goto (tgt := 23) dL_nextFree_12 (by decide) ?_
  refine g_iconst (v := nI 0) dL_nextFree_23 (by decide) ?_
  exact g_ireturn dL_nextFree_24 rfl rfl ⟨rfl, rfl, M1, h1, rfl⟩
theorem hL_nextFree_t1 {M : zM} {fs : List Value} {a1 a2 a3 : Int32} {P : zM → Prop} (hM8 : M 8 = some (.inr (5, fs))) (hc : Cn mX5_nextFree 8 1 6 none [.ref 8, .int a1, .int a2, .int a3] M (zt eB P)) : Cn mL_nextFree 9 1 6 none [.ref 8, .int a1, .int a2, .int a3, .ref 243] M (zi (nI 1) P) := by
  refine g_aload dL_nextFree_0 rfl ?_
  refine g_iconst (v := nI 0) dL_nextFree_2 (by decide) ?_
  refine g_aload_n dL_nextFree_3 rfl ?_
  refine g_iload_n dL_nextFree_4 rfl ?_
  refine g_iload_n dL_nextFree_5 rfl ?_
  refine g_iload_n dL_nextFree_6 rfl ?_
  refine g_callVx (j := 5) (kc1 := 0) (ks1 := 0) rfl hc oX5_nextFree pX5_nextFree lL_77 dL_nextFree_7 rfl hM8 rfl rfl rfl (Nat.le_of_ble_eq_true rfl) (Nat.le_of_ble_eq_true rfl) (by decide) (by decide) (by decide) (by decide) (fun M1 E h1 => ?_) (fun M1 nx1 v h1 => ?_)
  · obtain ⟨-, h2, h3⟩ := h1
    cases h2
    refine ⟨15, 2, ⟨by decide, [], [(0, 12, 19, 15)], (0, 12, 15, 13), rfl, fun z hz => (by cases hz), by decide, by decide, q659, rfl⟩, Or.inr ⟨dL_nextFree_15, rfl⟩, ?_⟩
    refine g_iconst (v := nI 1) dL_nextFree_17 (by decide) ?_
    exact g_ireturn dL_nextFree_18 rfl rfl ⟨rfl, rfl, h3⟩
  · obtain ⟨-, h2, -⟩ := h1
    cases h2
theorem hL_nextFree_t2 {M : zM} {fs : List Value} {a1 a2 a3 : Int32} {P : zM → Prop} (hM8 : M 8 = some (.inr (5, fs))) (hc : Cn mX5_nextFree 8 1 6 none [.ref 8, .int a1, .int a2, .int a3] M (zt eA P)) : Cn mL_nextFree 9 1 6 none [.ref 8, .int a1, .int a2, .int a3, .ref 243] M (zi (nI 2) P) := by
  refine g_aload dL_nextFree_0 rfl ?_
  refine g_iconst (v := nI 0) dL_nextFree_2 (by decide) ?_
  refine g_aload_n dL_nextFree_3 rfl ?_
  refine g_iload_n dL_nextFree_4 rfl ?_
  refine g_iload_n dL_nextFree_5 rfl ?_
  refine g_iload_n dL_nextFree_6 rfl ?_
  refine g_callVx (j := 5) (kc1 := 0) (ks1 := 0) rfl hc oX5_nextFree pX5_nextFree lL_77 dL_nextFree_7 rfl hM8 rfl rfl rfl (Nat.le_of_ble_eq_true rfl) (Nat.le_of_ble_eq_true rfl) (by decide) (by decide) (by decide) (by decide) (fun M1 E h1 => ?_) (fun M1 nx1 v h1 => ?_)
  · obtain ⟨-, h2, h3⟩ := h1
    cases h2
    have hpre : ∀ z ∈ ([(0, 12, 15, 13)] : List (Nat × Nat × Nat × Nat)), z.2.2.2 ≠ 0 ∧ ∃ nm ∈ z_xs, eA ≠ nm ∧ Cond.classLink RL z.2.2.2 nm ∈ SW := by
      refine List.forall_mem_cons.mpr ⟨⟨by decide, eB, by decide, by decide, q659⟩, ?_⟩
      exact fun z hz => by cases hz
    refine ⟨19, 2, ⟨by decide, [(0, 12, 15, 13)], [], (0, 12, 19, 15), rfl, hpre, by decide, by decide, q660, rfl⟩, Or.inr ⟨dL_nextFree_19, rfl⟩, ?_⟩
    refine g_iconst (v := nI 2) dL_nextFree_21 (by decide) ?_
    exact g_ireturn dL_nextFree_22 rfl rfl ⟨rfl, rfl, h3⟩
  · obtain ⟨-, h2, -⟩ := h1
    cases h2
theorem hL_fullness_v {M : zM} {fs : List Value} {a1 : Int32} {v : UInt64} {f : Nat → UInt64} {P : zM → Prop} (hM8 : M 8 = some (.inr (5, fs))) (hc : Cn mX5_fullness 8 0 0 none [.ref 8, .int a1] M (zd v P)) (hP : ∀ M1, P M1 → M1 244 = some (dA f)) : Cn mL_fullness 9 1 6 none [.ref 8, .int a1, .ref 244] M (zi (nI 0) (fun M' => ∃ M1, P M1 ∧ M' = zu M1 244 (dA (va_up f 0 v)))) := by
  refine g_aload_n dL_fullness_0 rfl ?_
  refine g_iconst (v := nI 0) dL_fullness_1 (by decide) ?_
  refine g_aload_n dL_fullness_2 rfl ?_
  refine g_iload_n dL_fullness_3 rfl ?_
  refine g_callV_d (hc) oX5_fullness pX5_fullness lL_80 dL_fullness_4 rfl hM8 rfl rfl rfl (Nat.le_of_ble_eq_true rfl) (Nat.le_of_ble_eq_true rfl) (by decide) (fun M1 h1 => ?_)
  refine g_dast dL_fullness_7 (hP M1 h1) (vp_in_nI (by omega) (by omega)) (by omega) ?_
  refine g_goto (tgt := 14) dL_fullness_8 (by decide) ?_
  refine g_iconst (v := nI 0) dL_fullness_14 (by decide) ?_
  exact g_ireturn dL_fullness_15 rfl rfl ⟨rfl, rfl, M1, h1, rfl⟩
theorem hL_fullness_t1 {M : zM} {fs : List Value} {a1 : Int32} {P : zM → Prop} (hM8 : M 8 = some (.inr (5, fs))) (hc : Cn mX5_fullness 8 1 6 none [.ref 8, .int a1] M (zt eB P)) : Cn mL_fullness 9 1 6 none [.ref 8, .int a1, .ref 244] M (zi (nI 1) P) := by
  refine g_aload_n dL_fullness_0 rfl ?_
  refine g_iconst (v := nI 0) dL_fullness_1 (by decide) ?_
  refine g_aload_n dL_fullness_2 rfl ?_
  refine g_iload_n dL_fullness_3 rfl ?_
  refine g_callVx (j := 3) (kc1 := 0) (ks1 := 0) rfl hc oX5_fullness pX5_fullness lL_80 dL_fullness_4 rfl hM8 rfl rfl rfl (Nat.le_of_ble_eq_true rfl) (Nat.le_of_ble_eq_true rfl) (by decide) (by decide) (by decide) (by decide) (fun M1 E h1 => ?_) (fun M1 nx1 v h1 => ?_)
  · obtain ⟨-, h2, h3⟩ := h1
    cases h2
    refine ⟨11, 1, ⟨by decide, [], [], (0, 8, 11, 13), rfl, fun z hz => (by cases hz), by decide, by decide, q659, rfl⟩, Or.inl ⟨3, dL_fullness_11, rfl, rfl⟩, ?_⟩
    refine g_iconst (v := nI 1) dL_fullness_12 (by decide) ?_
    exact g_ireturn dL_fullness_13 rfl rfl ⟨rfl, rfl, h3⟩
  · obtain ⟨-, h2, -⟩ := h1
    cases h2
