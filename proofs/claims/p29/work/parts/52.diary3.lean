/-! the class: saving -/
/-- the saved states: their places, their rolls' rows -/
def wB (Y : Nat → Nat → Nat) : Prop := (∀ i, i < 6 → ∃ k, k < 6 ∧ Y 63 i = 71 + 27 * k) ∧ (∀ i j, i < 6 → j < 6 → Y 63 i = Y 63 j → i = j) ∧ ∀ k, k < 6 → rP Y (71 + 27 * k + 1) 8 ∧ rP Y (71 + 27 * k + 11) 12
def svR (Y : Nat → Nat → Nat) : Nat → Nat → Nat := if Y 8 4 = 6 then uA (uA Y 63 (rmA (Y 63) 0 6)) 8 (uN (Y 8) 4 5) else Y
theorem svR_o (Y : Nat → Nat → Nat) {a : Nat} (h : a ≠ 8) (h2 : a ≠ 63) : svR Y a = Y a := by
  unfold svR
  split
  · rw [uA_n _ _ h, uA_n _ _ h2]
  · rfl
theorem svR_B {Y : Nat → Nat → Nat} (h : wB Y) : wB (svR Y) := by
  have h63 : svR Y 63 = rmA (Y 63) 0 6 ∨ svR Y 63 = Y 63 := by
    unfold svR
    split
    · exact Or.inl (by rw [uA_n _ _ (by omega), uA_s])
    · exact Or.inr rfl
  have hr : ∀ k, k < 6 → rP (svR Y) (71 + 27 * k + 1) 8 ∧ rP (svR Y) (71 + 27 * k + 11) 12 := fun k hk => by
    unfold rP
    rw [svR_o Y (by omega) (by omega), svR_o Y (by omega) (by omega)]
    exact h.2.2 k hk
  rcases h63 with e | e
  · have hb : ∀ j, j < 6 → rmP 0 6 j < 6 := by decide
    refine ⟨fun i hi => ?_, fun i j hi hj q => ?_, hr⟩
    · rw [e, rmA_P]; exact h.1 _ (hb i hi)
    · rw [e, rmA_P, rmA_P] at q
      have q2 := h.2.1 _ _ (hb i hi) (hb j hj) q
      exact (show ∀ i, i < 6 → ∀ j, j < 6 → rmP 0 6 i = rmP 0 6 j → i = j by decide) i hi j hj q2
  · refine ⟨fun i hi => ?_, fun i j hi hj q => ?_, hr⟩
    · rw [e]; exact h.1 i hi
    · rw [e] at q; exact h.2.1 i j hi hj q
theorem svR_4 {Y : Nat → Nat → Nat} (h : Y 8 4 ≤ 6) : svR Y 8 4 < 6 ∧ svR Y 8 4 = (if Y 8 4 = 6 then 5 else Y 8 4) := by
  unfold svR
  split
  · rw [uA_s, uN_s]; omega
  · omega
theorem wB_sb {Y : Nat → Nat → Nat} (h : wB Y) {i : Nat} (hi : i < 6) : sb (Y 63 i) ∧ 71 ≤ Y 63 i ∧ rP Y (Y 63 i + 1) 8 ∧ rP Y (Y 63 i + 11) 12 := by
  obtain ⟨k, hk, e⟩ := h.1 i hi
  rw [e]
  exact ⟨sbS hk, by omega, h.2.2 k hk⟩
section DIARY3
variable {M M0 : zM} {Y : Nat → Nat → Nat}
theorem sv3 (hB : wB Y) (hw : wS Y 9) (hs : svR Y 8 4 < 6) : G mX5_saveState 4 0 0 none 56 [(0, .ref 8)] [] (cM M0 (svR Y)) (zv (fun M' => ∃ Y2, M' = cM M0 (uA Y2 8 (uN (Y2 8) 4 (Y2 8 4 + 1))) ∧ bcm (svR Y) Y2 (svR Y 63 (svR Y 8 4)) 9)) := by
  obtain ⟨s1, s2, s3, s4⟩ := wB_sb (svR_B hB) hs
  have hk : kq (svR Y 63 (svR Y 8 4)) = 4 := s1.1
  have hO : wS (svR Y) 9 := by
    refine ⟨⟨?_, ?_, fun i hi => ?_⟩, ?_, ?_, fun i hi => ?_⟩
    · exact (show rP (svR Y) (9 + 1) 8 by unfold rP; rw [svR_o Y (by omega) (by omega)]; exact hw.1.1)
    · rw [svR_o Y (by omega) (by omega)]; exact hw.1.2.1
    · rw [svR_o Y (by omega) (by omega)] at hi
      have hp : 9 + 3 ≤ Y 11 i ∧ Y 11 i < 9 + 11 := hw.1.1.1 i (Nat.lt_of_lt_of_le hi hw.1.2.1)
      rw [rV, svR_o Y (show 9 + 1 + 1 ≠ 8 by omega) (by omega)]
      have : svR Y (Y 11 i) = Y (Y 11 i) := svR_o Y (by omega) (by omega)
      exact this ▸ hw.1.2.2 i hi
    · exact (show rP (svR Y) (9 + 11) 12 by unfold rP; rw [svR_o Y (by omega) (by omega)]; exact hw.2.1)
    · rw [svR_o Y (by omega) (by omega)]; exact hw.2.2.1
    · rw [svR_o Y (by omega) (by omega)] at hi
      have hp : 9 + 13 ≤ Y 21 i ∧ Y 21 i < 9 + 25 := hw.2.1.1 i (Nat.lt_of_lt_of_le hi hw.2.2.1)
      rw [rV, svR_o Y (show 9 + 11 + 1 ≠ 8 by omega) (by omega)]
      have : svR Y (Y 21 i) = Y (Y 21 i) := svR_o Y (by omega) (by omega)
      exact this ▸ hw.2.2.2 i hi
  refine g_aload_n dX5_saveState_56 rfl ?_
  refine g_get fX5_19 dX5_saveState_57 (cM_H rfl) rfl ?_
  refine g_aload_n dX5_saveState_60 rfl ?_
  refine g_get fX5_199 dX5_saveState_61 (cM_H rfl) rfl ?_
  refine g_csl dX5_saveState_64 (by omega) ?_
  refine g_aload_n dX5_saveState_65 rfl ?_
  refine g_get fX5_10 dX5_saveState_66 (cM_H rfl) rfl ?_
  refine g_callV_v (kX4_become (Y := svR Y) (o := 9) s1 sb9 s3 s4 hO (Or.inr (by omega))) oX4_become pX4_become lX5_204 dX5_saveState_69 rfl (cM_S hk) rfl rfl rfl (Nat.le_of_ble_eq_true rfl) (Nat.le_of_ble_eq_true rfl) (by decide) (fun M' h' => ?_)
  obtain ⟨Y2, rfl, h2⟩ := h'
  refine g_aload_n dX5_saveState_72 rfl ?_
  refine g_dup dX5_saveState_73 rfl ?_
  refine g_get fX5_199 dX5_saveState_74 (cM_H rfl) rfl ?_
  refine g_iconst (v := nI 1) dX5_saveState_77 (by decide) ?_
  refine g_iadd_n dX5_saveState_78 ?_
  refine g_cpH fX5_199 dX5_saveState_79 rfl ?_
  exact g_return dX5_saveState_82 rfl ⟨rfl, rfl, Y2, rfl, h2⟩
theorem sv1 {a0 : Nat} (ha0 : a0 = Y 63 0) (hk0 : kq a0 = 4) (hB : wB Y) (h6 : Y 8 4 = 6) (F : zP) (hF : G mX5_saveState 4 0 0 none 56 [(0, .ref 8)] [] (cM M0 (svR Y)) F) : ∀ u k, k + u = 6 → 0 < k → G mX5_saveState 4 0 0 none 18 [(0, .ref 8), (1, .ref a0), (2, .int (nI k))] [] (cM M0 (uA Y 63 (shA (Y 63) 0 k))) F := by
  intro u
  induction u with
  | zero =>
    intro k hk h0
    have : k = 6 := by omega
    subst this
    refine g_iload_n dX5_saveState_18 rfl ?_
    refine g_bipush (v := nI 6) dX5_saveState_19 (by decide) ?_
    refine g_icmp_ge_n (tgt := 44) dX5_saveState_21 (by decide) (by omega) (by omega) (fun h1 => ?_) (fun h1 => ?_)
    · refine g_aload_n dX5_saveState_44 rfl ?_
      refine g_get fX5_19 dX5_saveState_45 (cM_H rfl) rfl ?_
      refine g_iconst (v := nI 5) dX5_saveState_48 (by decide) ?_
      refine g_aload_n dX5_saveState_49 rfl ?_
      refine g_css dX5_saveState_50 hk0 (by omega) ?_
      refine g_aload_n dX5_saveState_51 rfl ?_
      refine g_iconst (v := nI 5) dX5_saveState_52 (by decide) ?_
      refine g_cpH fX5_199 dX5_saveState_53 rfl ?_
      simp only [uA_u, uA_s]
      have e : uA (uA Y 63 (uN (shA (Y 63) 0 6) 5 a0)) 8 (uN (uA Y 63 (uN (shA (Y 63) 0 6) 5 a0) 8) 4 5) = svR Y := by
        rw [svR, if_pos h6, ha0, uA_n _ _ (show (8 : Nat) ≠ 63 by omega)]
        rfl
      rw [e]
      exact g_loc rfl hF
    · omega
  | succ u ih =>
    intro k hk h0
    have hkk : kq (uA Y 63 (shA (Y 63) 0 k) 63 k) = 4 := by
      rw [uA_s, shA, if_neg (by omega)]
      exact (wB_sb hB (by omega)).1.1
    refine g_iload_n dX5_saveState_18 rfl ?_
    refine g_bipush (v := nI 6) dX5_saveState_19 (by decide) ?_
    refine g_icmp_ge_n (tgt := 44) dX5_saveState_21 (by decide) (by omega) (by omega) (fun h1 => ?_) (fun h1 => ?_)
    · omega
    refine g_aload_n dX5_saveState_24 rfl ?_
    refine g_get fX5_19 dX5_saveState_25 (cM_H rfl) rfl ?_
    refine g_iload_n dX5_saveState_28 rfl ?_
    refine g_iconst (v := nI 1) dX5_saveState_29 (by decide) ?_
    refine g_isub_n dX5_saveState_30 (by omega) ?_
    refine g_aload_n dX5_saveState_31 rfl ?_
    refine g_get fX5_19 dX5_saveState_32 (cM_H rfl) rfl ?_
    refine g_iload_n dX5_saveState_35 rfl ?_
    refine g_csl dX5_saveState_36 (by omega) ?_
    refine g_css dX5_saveState_37 hkk (by omega) ?_
    rw [uA_u, uA_s, shA_step _ h0]
    refine g_iinc_n (c := 1) dX5_saveState_38 rfl (by decide) (by decide) ?_
    refine g_goto (tgt := 18) dX5_saveState_41 (by decide) ?_
    exact g_loc rfl (ih (k + 1) (by omega) (by omega))
theorem kX5_saveState (hB : wB Y) (hw : wS Y 9) (h6 : Y 8 4 ≤ 6) : Cn mX5_saveState 4 0 0 none [.ref 8] (cM M0 Y) (zv (fun M' => ∃ Y2, M' = cM M0 (uA Y2 8 (uN (Y2 8) 4 (Y2 8 4 + 1))) ∧ bcm (svR Y) Y2 (svR Y 63 (svR Y 8 4)) 9)) := by
  have hs := (svR_4 h6).1
  refine g_aload_n dX5_saveState_0 rfl ?_
  refine g_get fX5_199 dX5_saveState_1 (cM_H rfl) rfl ?_
  refine g_bipush (v := nI 6) dX5_saveState_4 (by decide) ?_
  refine g_icmp_lt_n (tgt := 56) dX5_saveState_6 (by decide) (by omega) (by omega) (fun h1 => ?_) (fun h1 => ?_)
  · have e : svR Y = Y := by rw [svR, if_neg (by omega)]
    have := sv3 (M0 := M0) hB hw hs
    rw [e] at this ⊢
    exact g_loc rfl this
  · refine g_aload_n dX5_saveState_9 rfl ?_
    refine g_get fX5_19 dX5_saveState_10 (cM_H rfl) rfl ?_
    refine g_iconst (v := nI 0) dX5_saveState_13 (by decide) ?_
    refine g_csl dX5_saveState_14 (by omega) ?_
    refine g_astore_n dX5_saveState_15 (by decide) ?_
    refine g_iconst (v := nI 1) dX5_saveState_16 (by decide) ?_
    refine g_istore_n dX5_saveState_17 (by decide) ?_
    have e : Y = uA Y 63 (shA (Y 63) 0 1) := by
      rw [shA_0]
      funext a
      by_cases h : a = 63
      · subst h; rw [uA_s]
      · rw [uA_n _ _ h]
    have := sv1 (M0 := M0) (a0 := Y 63 0) rfl (wB_sb hB (by omega)).1.1 hB (by omega) _ (sv3 (M0 := M0) hB hw hs) 5 1 (by omega) (by omega)
    rw [← e] at this
    exact g_loc rfl this
end DIARY3
