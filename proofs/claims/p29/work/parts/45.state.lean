/-! the class: states -/
theorem rl_of {r n : Nat} (h1 : kq r = 3) (h2 : kW (r + 1) n) (h3 : ∀ i, i < n → kq (r + 2 + i) = 1) : rl r n := ⟨h1, h2, fun q ha hb => by
  have := h3 (q - (r + 2)) (by omega)
  rwa [show r + 2 + (q - (r + 2)) = q by omega] at this⟩
/-- a state's place -/
def sb (b : Nat) : Prop := kq b = 4 ∧ rl (b + 1) 8 ∧ rl (b + 11) 12 ∧ kI (b + 25) 3 ∧ kI (b + 26) 5
theorem sb_of {b : Nat} (h : (∀ i, i < 27 → kq (b + i) = ko i)) : sb b := by
  refine ⟨h 0 (by omega), rl_of (h 1 (by omega)) (Or.inl ⟨h 2 (by omega), rfl⟩) (fun i hi => ?_), rl_of (h 11 (by omega)) (Or.inr ⟨h 12 (by omega), rfl⟩) (fun i hi => ?_), Or.inl ⟨h 25 (by omega), rfl⟩, Or.inr (Or.inl ⟨h 26 (by omega), rfl⟩)⟩
  · rw [show b + 1 + 2 + i = b + (3 + i) by omega, h (3 + i) (by omega)]
    exact (show ∀ i, i < 8 → ko (3 + i) = 1 by decide) i hi
  · rw [show b + 11 + 2 + i = b + (13 + i) by omega, h (13 + i) (by omega)]
    exact (show ∀ i, i < 12 → ko (13 + i) = 1 by decide) i hi
theorem sb9 : sb 9 := sb_of (by decide)
theorem sb36 : sb 36 := sb_of (by decide)
theorem sbS {i : Nat} (hi : i < 6) : sb (71 + 27 * i) := sb_of (by
  rcases (show i = 0 ∨ i = 1 ∨ i = 2 ∨ i = 3 ∨ i = 4 ∨ i = 5 by omega) with rfl | rfl | rfl | rfl | rfl | rfl <;> decide)
def wS (Y : Nat → Nat → Nat) (b : Nat) : Prop := wR Y (b + 1) 8 ∧ wR Y (b + 11) 12
/-- what a roll has become -/
def rbm (Y Y' : Nat → Nat → Nat) (r o n : Nat) : Prop := (∀ a, (a < r ∨ r + 2 + n ≤ a) → Y' a = Y a) ∧ Y' (r + 1) = Y (r + 1) ∧ Y' r 1 = Y o 1 ∧ ∀ i, i < Y o 1 → rV Y' r i = rV Y o i
theorem rbm_bc {Y : Nat → Nat → Nat} {r o n : Nat} (hP : rP Y r n) (hs : Y o 1 ≤ n) : rbm Y (uA (bcY Y r o (Y o 1)) r (uN (Y r) 1 (Y o 1))) r o n := by
  have far : ∀ a, (a < r + 2 ∨ r + 2 + n ≤ a) → bcY Y r o (Y o 1) a = Y a := fun a ha => bcY_n Y r o _ (fun i hi e => by
    have := hP.1 i (by omega)
    omega)
  have e1 : uA (bcY Y r o (Y o 1)) r (uN (Y r) 1 (Y o 1)) (r + 1) = Y (r + 1) := by
    rw [uA_n _ _ (by omega), far _ (by omega)]
  refine ⟨fun a ha => ?_, e1, by rw [uA_s, uN_s], fun i hi => ?_⟩
  · rw [uA_n _ _ (by omega), far _ (by omega)]
  · have := hP.1 i (by omega)
    rw [rV, e1, uA_n _ _ (by omega), bcY_s Y r o hP.2 _ hs hi]
    rfl
def bcm (Y Y' : Nat → Nat → Nat) (b o : Nat) : Prop := (∀ a, (a < b ∨ b + 27 ≤ a) → Y' a = Y a) ∧ (Y' (b + 2) = Y (b + 2) ∧ Y' (b + 12) = Y (b + 12)) ∧ (Y' (b + 1) 1 = Y (o + 1) 1 ∧ Y' (b + 11) 1 = Y (o + 11) 1) ∧ ((∀ i, i < Y (o + 1) 1 → rV Y' (b + 1) i = rV Y (o + 1) i) ∧ ∀ i, i < Y (o + 11) 1 → rV Y' (b + 11) i = rV Y (o + 11) i) ∧ (∀ j, j < 3 → Y' (b + 25) j = Y (o + 25) j) ∧ (∀ j, j < 5 → Y' (b + 26) j = Y (o + 26) j) ∧ Y' b 4 = Y o 4 ∧ Y' b 5 = Y o 5 ∧ Y' b 6 = Y o 6
section STATE
variable {M M0 : zM} {Y : Nat → Nat → Nat}
theorem kX4_become {b o : Nat} (hb : sb b) (ho : sb o) (hP1 : rP Y (b + 1) 8) (hP2 : rP Y (b + 11) 12) (hO : wS Y o) (hd : b + 27 ≤ o ∨ o + 27 ≤ b) : Cn mX4_become 3 0 0 none [.ref b, .ref o] (cM M0 Y) (zv (fun M' => ∃ Y', M' = cM M0 Y' ∧ bcm Y Y' b o)) := by
  refine g_aload_n dX4_become_0 rfl ?_
  refine g_get fX4_14 dX4_become_1 (cM_S hb.1) rfl ?_
  refine g_aload_n dX4_become_4 rfl ?_
  refine g_get fX4_14 dX4_become_5 (cM_S ho.1) rfl ?_
  refine g_callV_v (kX3_become hb.2.1 ho.2.1 hP1 hO.1.1 (by omega) hO.1.2.1) oX3_become pX3_become lX4_30 dX4_become_8 rfl (cM_R hb.2.1.1) rfl rfl rfl (Nat.le_of_ble_eq_true rfl) (Nat.le_of_ble_eq_true rfl) (by decide) (fun M' h' => ?_)
  subst h'
  have hr1 := rbm_bc hP1 hO.1.2.1
  generalize uA (bcY Y (b + 1) (o + 1) (Y (o + 1) 1)) (b + 1) (uN (Y (b + 1)) 1 (Y (o + 1) 1)) = Y1 at hr1
  obtain ⟨f1, r1, s1, v1⟩ := hr1
  have hP2' : rP Y1 (b + 11) 12 := by unfold rP; rw [f1 (b + 11 + 1) (by omega)]; exact hP2
  have hO2' : rP Y1 (o + 11) 12 := by unfold rP; rw [f1 (o + 11 + 1) (by omega)]; exact hO.2.1
  have hs2 : Y1 (o + 11) 1 ≤ 12 := by rw [f1 (o + 11) (by omega)]; exact hO.2.2.1
  refine g_aload_n dX4_become_11 rfl ?_
  refine g_get fX4_20 dX4_become_12 (cM_S hb.1) rfl ?_
  refine g_aload_n dX4_become_15 rfl ?_
  refine g_get fX4_20 dX4_become_16 (cM_S ho.1) rfl ?_
  refine g_callV_v (kX3_become hb.2.2.1 ho.2.2.1 hP2' hO2' (by omega) hs2) oX3_become pX3_become lX4_30 dX4_become_19 rfl (cM_R hb.2.2.1.1) rfl rfl rfl (Nat.le_of_ble_eq_true rfl) (Nat.le_of_ble_eq_true rfl) (by decide) (fun M' h' => ?_)
  subst h'
  have hr2 := rbm_bc hP2' hs2
  generalize uA (bcY Y1 (b + 11) (o + 11) (Y1 (o + 11) 1)) (b + 11) (uN (Y1 (b + 11)) 1 (Y1 (o + 11) 1)) = Y2 at hr2
  obtain ⟨f2, r2, s2, v2⟩ := hr2
  refine g_aload_n dX4_become_22 rfl ?_
  refine g_get fX4_23 dX4_become_23 (cM_S ho.1) rfl ?_
  refine g_iconst (v := nI 0) dX4_become_26 (by decide) ?_
  refine g_aload_n dX4_become_27 rfl ?_
  refine g_get fX4_23 dX4_become_28 (cM_S hb.1) rfl ?_
  refine g_iconst (v := nI 0) dX4_become_31 (by decide) ?_
  refine g_iconst (v := nI 3) dX4_become_32 (by decide) ?_
  refine g_copy lX4_34 dX4_become_33 (by decide) (by decide) (cM_I ho.2.2.2.1) (cM_I hb.2.2.2.1) (by omega) (by omega) (by omega) (kI_b hb.2.2.2.1).1 ?_
  refine g_m (zu_I hb.2.2.2.1 _) ?_
  refine g_aload_n dX4_become_36 rfl ?_
  refine g_get fX4_27 dX4_become_37 (cM_S ho.1) rfl ?_
  refine g_iconst (v := nI 0) dX4_become_40 (by decide) ?_
  refine g_aload_n dX4_become_41 rfl ?_
  refine g_get fX4_27 dX4_become_42 (cM_S hb.1) rfl ?_
  refine g_iconst (v := nI 0) dX4_become_45 (by decide) ?_
  refine g_iconst (v := nI 5) dX4_become_46 (by decide) ?_
  refine g_copy lX4_34 dX4_become_47 (by decide) (by decide) (cM_I ho.2.2.2.2) (cM_I hb.2.2.2.2) (by omega) (by omega) (by omega) (kI_b hb.2.2.2.2).1 ?_
  refine g_m (zu_I hb.2.2.2.2 _) ?_
  refine g_aload_n dX4_become_50 rfl ?_
  refine g_aload_n dX4_become_51 rfl ?_
  refine g_get fX4_40 dX4_become_52 (cM_S ho.1) rfl ?_
  refine g_cpS fX4_40 dX4_become_55 hb.1 (by decide) ?_
  refine g_aload_n dX4_become_58 rfl ?_
  refine g_aload_n dX4_become_59 rfl ?_
  refine g_get fX4_44 dX4_become_60 (cM_S ho.1) rfl ?_
  refine g_cpS fX4_44 dX4_become_63 hb.1 (by decide) ?_
  refine g_aload_n dX4_become_66 rfl ?_
  refine g_aload_n dX4_become_67 rfl ?_
  refine g_get fX4_47 dX4_become_68 (cM_S ho.1) rfl ?_
  refine g_cpS fX4_47 dX4_become_71 hb.1 (by decide) ?_
  have g1 : ∀ a, a ≠ b → a ≠ b + 25 → a ≠ b + 26 → uA (uA Y2 (b + 25) (fun j => if j < 3 then Y2 (o + 25) j else Y2 (b + 25) j)) (b + 26) (fun j => if j < 5 then uA Y2 (b + 25) (fun j => if j < 3 then Y2 (o + 25) j else Y2 (b + 25) j) (o + 26) j else uA Y2 (b + 25) (fun j => if j < 3 then Y2 (o + 25) j else Y2 (b + 25) j) (b + 26) j) a = Y2 a := fun a h0 h25 h26 => by rw [uA_n _ _ h26, uA_n _ _ h25]
  have g2 : ∀ a, (a < b + 1 ∨ b + 25 ≤ a) → Y2 a = Y a := fun a ha => by rw [f2 a (by omega), f1 a (by omega)]
  generalize hY4 : uA (uA Y2 (b + 25) (fun j => if j < 3 then Y2 (o + 25) j else Y2 (b + 25) j)) (b + 26) (fun j => if j < 5 then uA Y2 (b + 25) (fun j => if j < 3 then Y2 (o + 25) j else Y2 (b + 25) j) (o + 26) j else uA Y2 (b + 25) (fun j => if j < 3 then Y2 (o + 25) j else Y2 (b + 25) j) (b + 26) j) = Y4 at g1
  have g3 : ∀ a, a ≠ b → a ≠ b + 25 → a ≠ b + 26 → (a < b + 1 ∨ b + 25 ≤ a) → Y4 a = Y a := fun a h1 h2 h3 h4 => (g1 a h1 h2 h3).trans (g2 a h4)
  have g25 : ∀ j, j < 3 → Y4 (b + 25) j = Y (o + 25) j := fun j hj => by
    rw [← hY4, uA_n _ _ (by omega), uA_s]
    simp only [hj, if_true]
    rw [g2 (o + 25) (by omega)]
  have g26 : ∀ j, j < 5 → Y4 (b + 26) j = Y (o + 26) j := fun j hj => by
    rw [← hY4, uA_s]
    simp only [hj, if_true]
    rw [uA_n _ _ (by omega), g2 (o + 26) (by omega)]
  have g0 : ∀ f, uA Y4 b f o = Y o := fun f => by rw [uA_n _ _ (by omega), g3 o (by omega) (by omega) (by omega) (by omega)]
  have g00 : Y4 o = Y o := g3 o (by omega) (by omega) (by omega) (by omega)
  simp only [uA_u, uA_s, g0, g00]
  refine g_return dX4_become_74 rfl ⟨rfl, rfl, _, rfl, ?_⟩
  have e2 : ∀ f, uA Y4 b f (b + 2) = Y (b + 2) := fun f => by
    rw [uA_n _ _ (by omega), g1 _ (by omega) (by omega) (by omega), f2 _ (by omega)]
    exact r1
  have e12 : ∀ f, uA Y4 b f (b + 12) = Y (b + 12) := fun f => by
    rw [uA_n _ _ (by omega), g1 _ (by omega) (by omega) (by omega)]
    exact r2.trans (f1 _ (by omega))
  refine ⟨fun a ha => ?_, ⟨e2 _, e12 _⟩, ⟨?_, ?_⟩, ⟨fun i hi => ?_, fun i hi => ?_⟩, fun j hj => ?_, fun j hj => ?_, ?_, ?_, ?_⟩
  · rw [uA_n _ _ (by omega), g3 a (by omega) (by omega) (by omega) (by omega)]
  · rw [uA_n _ _ (by omega), g1 _ (by omega) (by omega) (by omega), f2 _ (by omega)]
    exact s1
  · rw [uA_n _ _ (by omega), g1 _ (by omega) (by omega) (by omega), s2, f1 _ (by omega)]
  · have hp : b + 1 + 2 ≤ Y (b + 2) i ∧ Y (b + 2) i < b + 1 + 2 + 8 := hP1.1 i (by have := hO.1.2.1; omega)
    rw [rV, e2]
    rw [uA_n _ _ (by omega), g1 _ (by omega) (by omega) (by omega), f2 _ (by omega)]
    have := v1 i hi
    rw [rV, r1] at this
    exact this
  · have hp : b + 11 + 2 ≤ Y (b + 12) i ∧ Y (b + 12) i < b + 11 + 2 + 12 := hP2.1 i (by have := hO.2.2.1; omega)
    rw [rV, e12]
    rw [uA_n _ _ (by omega), g1 _ (by omega) (by omega) (by omega)]
    have hi2 : i < Y1 (o + 11) 1 := by rw [f1 _ (by omega)]; exact hi
    have := v2 i hi2
    rw [rV, r2, f1 (b + 11 + 1) (by omega)] at this
    refine this.trans ?_
    have hpo := hO.2.1.1 i (by have := hO.2.2.1; omega)
    rw [rV, rV, f1 (o + 11 + 1) (by omega), f1 _ (by omega)]
  · rw [uA_n _ _ (by omega)]; exact g25 j hj
  · rw [uA_n _ _ (by omega)]; exact g26 j hj
  · rw [uA_s]; rfl
  · rw [uA_s]; rfl
  · rw [uA_s]; rfl
theorem kX4_sumFor {b w : Nat} {te : Int32} (hb : sb b) (hw : wS Y b) (hw2 : w ≤ 2) : Cn mX4_sumFor 4 0 0 none [.ref b, .int te, .int (nI w)] (cM M0 Y) (zi (nI (sfV (rV Y (b + 1)) te w (Y (b + 1) 1) + sfV (rV Y (b + 11)) te w (Y (b + 11) 1))) (fun M' => M' = cM M0 Y)) := by
  refine g_aload_n dX4_sumFor_0 rfl ?_
  refine g_get fX4_14 dX4_sumFor_1 (cM_S hb.1) rfl ?_
  refine g_iload_n dX4_sumFor_4 rfl ?_
  refine g_iload_n dX4_sumFor_5 rfl ?_
  refine g_callV_i (kX3_sumFor hb.2.1 hw.1 hw2) oX3_sumFor pX3_sumFor lX4_50 dX4_sumFor_6 rfl (cM_R hb.2.1.1) rfl rfl rfl (Nat.le_of_ble_eq_true rfl) (Nat.le_of_ble_eq_true rfl) (by decide) (fun M' h' => ?_)
  subst h'
  refine g_aload_n dX4_sumFor_9 rfl ?_
  refine g_get fX4_20 dX4_sumFor_10 (cM_S hb.1) rfl ?_
  refine g_iload_n dX4_sumFor_13 rfl ?_
  refine g_iload_n dX4_sumFor_14 rfl ?_
  refine g_callV_i (kX3_sumFor hb.2.2.1 hw.2 hw2) oX3_sumFor pX3_sumFor lX4_50 dX4_sumFor_15 rfl (cM_R hb.2.2.1.1) rfl rfl rfl (Nat.le_of_ble_eq_true rfl) (Nat.le_of_ble_eq_true rfl) (by decide) (fun M' h' => ?_)
  subst h'
  refine g_iadd_n dX4_sumFor_18 ?_
  exact g_ireturn dX4_sumFor_19 rfl rfl ⟨rfl, rfl, rfl⟩
def vGw (v w : Nat → Nat) (day c : Nat) : Bool := vStd v day && vCl v w c
theorem kX4_givesWay {b a o day : Nat} (hb : sb b) (ha : kq a = 1) (ho : kq o = 1) (hv : vB (Y a)) (hw : vB (Y o)) (hd : day < 84) (hc : Y (b + 26) 0 < 1048576) : Cn mX4_givesWay 1 0 0 none [.ref b, .ref a, .ref o, .int (nI day)] (cM M0 Y) (zi (nI (vGw (Y a) (Y o) day (Y (b + 26) 0)).toNat) (fun M' => M' = cM M0 Y)) := by
  refine g_aload_n dX4_givesWay_0 rfl ?_
  refine g_iload_n dX4_givesWay_1 rfl ?_
  refine g_callV_i (kX1_standsOn ha hv hd) oX1_standsOn pX1_standsOn lX4_77 dX4_givesWay_2 rfl (cM_L ha) rfl rfl rfl (Nat.le_of_ble_eq_true rfl) (Nat.le_of_ble_eq_true rfl) (by decide) (fun M' h' => ?_)
  subst h'
  refine g_if_eq_b (tgt := 26) dX4_givesWay_5 (by decide) (fun h1 => ?_) (fun h1 => ?_)
  · refine g_iconst (v := nI 0) dX4_givesWay_26 (by decide) ?_
    refine g_ireturn dX4_givesWay_27 rfl rfl ⟨rfl, ?_, rfl⟩
    simp [vGw, h1]
  refine g_aload_n dX4_givesWay_8 rfl ?_
  refine g_aload_n dX4_givesWay_9 rfl ?_
  refine g_aload_n dX4_givesWay_10 rfl ?_
  refine g_get fX4_27 dX4_givesWay_11 (cM_S hb.1) rfl ?_
  refine g_iconst (v := nI 0) dX4_givesWay_14 (by decide) ?_
  refine g_cil dX4_givesWay_15 hb.2.2.2.2 (by omega) ?_
  refine g_callV_i (kX1_clashesWith ha ho hv hw hc) oX1_clashesWith pX1_clashesWith lX4_81 dX4_givesWay_16 rfl (cM_L ha) rfl rfl rfl (Nat.le_of_ble_eq_true rfl) (Nat.le_of_ble_eq_true rfl) (by decide) (fun M' h' => ?_)
  subst h'
  refine g_if_eq_b (tgt := 26) dX4_givesWay_19 (by decide) (fun h2 => ?_) (fun h2 => ?_)
  · refine g_iconst (v := nI 0) dX4_givesWay_26 (by decide) ?_
    refine g_ireturn dX4_givesWay_27 rfl rfl ⟨rfl, ?_, rfl⟩
    simp [vGw, h2]
  · refine g_iconst (v := nI 1) dX4_givesWay_22 (by decide) ?_
    refine g_goto (tgt := 27) dX4_givesWay_23 (by decide) ?_
    refine g_ireturn dX4_givesWay_27 rfl rfl ⟨rfl, ?_, rfl⟩
    simp [vGw, h1, h2]
theorem kX4_letGo {b a : Nat} (hb : sb b) (ha : kq a = 1) : Cn mX4_letGo 0 0 0 none [.ref b, .ref a] (cM M0 Y) (zv (fun M' => M' = cM M0 (uA Y b (uN (uN (Y b) 5 (Y b 5 + Y a 6)) 6 (Y b 6 + 1))))) := by
  refine g_aload_n dX4_letGo_0 rfl ?_
  refine g_dup dX4_letGo_1 rfl ?_
  refine g_get fX4_44 dX4_letGo_2 (cM_S hb.1) rfl ?_
  refine g_aload_n dX4_letGo_5 rfl ?_
  refine g_get fX4_85 dX4_letGo_6 (cM_L ha) rfl ?_
  refine g_iadd_n dX4_letGo_9 ?_
  refine g_cpS fX4_44 dX4_letGo_10 hb.1 (by decide) ?_
  refine g_aload_n dX4_letGo_13 rfl ?_
  refine g_dup dX4_letGo_14 rfl ?_
  refine g_get fX4_47 dX4_letGo_15 (cM_S hb.1) rfl ?_
  refine g_iconst (v := nI 1) dX4_letGo_18 (by decide) ?_
  refine g_iadd_n dX4_letGo_19 ?_
  refine g_cpS fX4_47 dX4_letGo_20 hb.1 (by decide) ?_
  refine g_return dX4_letGo_23 rfl ⟨rfl, rfl, ?_⟩
  simp only [uA_u, uA_s]
  rw [uN_n _ _ (by omega)]
end STATE
