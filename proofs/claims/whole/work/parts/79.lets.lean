/-! the class: lets as a text -/
/-- a single let is made: what gives way, and the let behind the others -/
def msRel (Y Z : Nat → Nat → Nat) (day : Nat) : Prop := ∃ W, gwRel Y W day ∧ Z = msY Y W (W 21) (W 20 1)
theorem msRel_of {Y : Nat → Nat → Nat} {day : Nat} {A : Nat → Nat} {s : Nat} (h1 : lAt (dL (gwG Y 20 70 day (Y 35 0)) (Y 21) (Y 20 1) (Y 20 1)) 0 A) (h2 : s = (dL (gwG Y 20 70 day (Y 35 0)) (Y 21) (Y 20 1) (Y 20 1)).length) (h3 : rPA A 20 12) : msRel Y (msY Y (gwY Y (gZ Y (Y 11) day (gwG Y 10 70 day (Y 35 0)) (Y 10 1)) 9 A s (gR (gwG Y 10 70 day (Y 35 0)) (rV Y 10) (Y 10 1) + dR (gwG Y 20 70 day (Y 35 0)) (rV Y 20) (Y 20 1) (Y 20 1)) (gN (gwG Y 10 70 day (Y 35 0)) (Y 10 1) + dN (gwG Y 20 70 day (Y 35 0)) (Y 20 1) (Y 20 1))) A s) day := by
  refine ⟨_, ⟨A, s, rfl, h1, h2, h3⟩, ?_⟩
  have e1 := gwY_r Y (gZ Y (Y 11) day (gwG Y 10 70 day (Y 35 0)) (Y 10 1)) 9 A s (gR (gwG Y 10 70 day (Y 35 0)) (rV Y 10) (Y 10 1) + dR (gwG Y 20 70 day (Y 35 0)) (rV Y 20) (Y 20 1) (Y 20 1)) (gN (gwG Y 10 70 day (Y 35 0)) (Y 10 1) + dN (gwG Y 20 70 day (Y 35 0)) (Y 20 1) (Y 20 1))
  have e2 := gwY_s Y (gZ Y (Y 11) day (gwG Y 10 70 day (Y 35 0)) (Y 10 1)) 9 A s (gR (gwG Y 10 70 day (Y 35 0)) (rV Y 10) (Y 10 1) + dR (gwG Y 20 70 day (Y 35 0)) (rV Y 20) (Y 20 1) (Y 20 1)) (gN (gwG Y 10 70 day (Y 35 0)) (Y 10 1) + dN (gwG Y 20 70 day (Y 35 0)) (Y 20 1) (Y 20 1))
  have e3 : gwY Y (gZ Y (Y 11) day (gwG Y 10 70 day (Y 35 0)) (Y 10 1)) 9 A s (gR (gwG Y 10 70 day (Y 35 0)) (rV Y 10) (Y 10 1) + dR (gwG Y 20 70 day (Y 35 0)) (rV Y 20) (Y 20 1) (Y 20 1)) (gN (gwG Y 10 70 day (Y 35 0)) (Y 10 1) + dN (gwG Y 20 70 day (Y 35 0)) (Y 20 1) (Y 20 1)) 20 1 = s := (congrFun e2 1).trans (uN_s _ _ _)
  have e4 : gwY Y (gZ Y (Y 11) day (gwG Y 10 70 day (Y 35 0)) (Y 10 1)) 9 A s (gR (gwG Y 10 70 day (Y 35 0)) (rV Y 10) (Y 10 1) + dR (gwG Y 20 70 day (Y 35 0)) (rV Y 20) (Y 20 1) (Y 20 1)) (gN (gwG Y 10 70 day (Y 35 0)) (Y 10 1) + dN (gwG Y 20 70 day (Y 35 0)) (Y 20 1) (Y 20 1)) 21 = A := e1
  rw [e3, e4]
theorem gwRel_20 {Y Z : Nat → Nat → Nat} {day : Nat} (h : gwRel Y Z day) : Z 20 1 ≤ Y 20 1 := by
  obtain ⟨A, s, rfl, -, h2, -⟩ := h
  have := dL_len (gwG Y 20 70 day (Y 35 0)) (Y 21) (Y 20 1) (Y 20 1)
  show gwY _ _ 9 _ _ _ _ (9 + 11) 1 ≤ _
  rw [gwY_s, uN_s]
  omega
theorem msRel_k {Y Z : Nat → Nat → Nat} {day : Nat} (hw : wS Y 9) (hv : vB (Y 70)) (h12 : Y 20 1 < 12) (h : msRel Y Z day) : wS Z 9 ∧ ∀ q, (q < 9 ∨ 34 ≤ q) → Z q = Y q := by
  obtain ⟨W, h1, rfl⟩ := h
  obtain ⟨k1, k2⟩ := gwRel_k hw h1
  have hs := gwRel_20 h1
  have e70 : W 70 = Y 70 := k2 70 (by omega)
  obtain ⟨a1, a2⟩ := add_keep (o := 70) sb9.2.2.1 k1.2 (by show W 20 1 < 12; omega) (by rw [e70]; exact hv)
  have a1' : wR (uA (uA W (W 21 (W 20 1)) (W 70)) 20 (uN (W 20) 1 (W 20 1 + 1))) 20 12 := a1
  have a2' : ∀ q, (q < 20 ∨ 34 ≤ q) → uA (uA W (W 21 (W 20 1)) (W 70)) 20 (uN (W 20) 1 (W 20 1 + 1)) q = W q := fun q hq => a2 q (by omega)
  rw [e70] at a1' a2'
  have hf : ∀ q, q ≠ 9 → msY Y W (W 21) (W 20 1) q = uA (uA W (W 21 (W 20 1)) (Y 70)) 20 (uN (W 20) 1 (W 20 1 + 1)) q := fun q hq => by rw [msY, uA_n _ _ hq]
  generalize msY Y W (W 21) (W 20 1) = Z at hf
  generalize uA (uA W (W 21 (W 20 1)) (Y 70)) 20 (uN (W 20) 1 (W 20 1 + 1)) = V at hf a1' a2'
  have n1 : W 10 1 ≤ 8 := k1.1.2.1
  have n2 : V 20 1 ≤ 12 := a1'.2.1
  refine ⟨⟨⟨?_, ?_, fun i hi => ?_⟩, ?_, ?_, fun i hi => ?_⟩, fun q hq => ?_⟩
  · show rPA (Z 11) 10 8
    rw [hf 11 (by omega), a2' 11 (by omega)]; exact k1.1.1
  · show Z 10 1 ≤ 8
    rw [hf 10 (by omega), a2' 10 (by omega)]; exact n1
  · have hi' : i < Z 10 1 := hi
    rw [hf 10 (by omega), a2' 10 (by omega)] at hi'
    have hp : 12 ≤ W 11 i ∧ W 11 i < 20 := k1.1.1.1 i (by omega)
    show vB (Z (Z 11 i))
    rw [hf 11 (by omega), a2' 11 (by omega), hf _ (by omega), a2' _ (by omega)]
    exact k1.1.2.2 i hi'
  · show rPA (Z 21) 20 12
    rw [hf 21 (by omega)]; exact a1'.1
  · show Z 20 1 ≤ 12
    rw [hf 20 (by omega)]; exact n2
  · have hi' : i < Z 20 1 := hi
    rw [hf 20 (by omega)] at hi'
    have hp : 22 ≤ V 21 i ∧ V 21 i < 34 := a1'.1.1 i (by omega)
    show vB (Z (Z 21 i))
    rw [hf 21 (by omega), hf _ (by omega)]
    exact a1'.2.2 i hi'
  · rw [hf q (by omega), a2' q (by omega)]
    exact k2 q hq
/-- a part of the text: its numbers in range -/
def ptB (N : Nat → Nat) : Prop := N 0 ≤ 2 ∧ N 1 ≤ 83 ∧ N 2 ≤ 23 ∧ 1 ≤ N 3 ∧ N 3 ≤ 24 ∧ 1 ≤ N 4 ∧ N 4 ≤ 9 ∧ N 5 ≤ 19
def ptV (Y : Nat → Nat → Nat) (N : Nat → Nat) : Nat → Nat := dsV Y (N 0) (N 1) (N 2) (N 3) (N 4) (N 5)
def ptR (Y : Nat → Nat → Nat) (N : Nat → Nat) : Nat := if Y 20 1 = 12 then 1 else rsO (uA Y 70 (ptV Y N)) (N 1)
def ptOk (Y : Nat → Nat → Nat) (N : Nat → Nat) : Bool := decide (N 2 < N 3) && decide (ptR Y N = 0)
def ptRel (Y : Nat → Nat → Nat) (N : Nat → Nat) (Z : Nat → Nat → Nat) : Prop := (N 3 ≤ N 2 → Z = Y) ∧ (N 2 < N 3 → ptR Y N ≠ 0 → scr (uA Y 70 (ptV Y N)) Z) ∧ (N 2 < N 3 → ptR Y N = 0 → ∃ Y', scr (uA Y 70 (ptV Y N)) Y' ∧ msRel Y' Z (N 1))
theorem ptRel_k {Y Z : Nat → Nat → Nat} {N : Nat → Nat} (hC : wC Y) (hw : wS Y 9) (hN : ptB N) (h : ptRel Y N Z) : wC Z ∧ wS Z 9 ∧ ∀ q, (q < 9 ∨ 34 ≤ q) → q ≠ 67 → q ≠ 68 → q ≠ 69 → q ≠ 70 → Z q = Y q := by
  obtain ⟨n0, n1, n2, n3, n4, n5, n6, n7⟩ := hN
  obtain ⟨h1, h2, h3⟩ := h
  have hC' : ∀ Z : Nat → Nat → Nat, (∀ q, (q < 9 ∨ 34 ≤ q) → q ≠ 67 → q ≠ 68 → q ≠ 69 → q ≠ 70 → Z q = Y q) → wC Z := fun Z hz => by
    unfold wC
    rw [hz 35 (by omega) (by omega) (by omega) (by omega) (by omega), hz 34 (by omega) (by omega) (by omega) (by omega) (by omega)]
    exact hC
  by_cases hft : N 2 < N 3
  · have hd := (opL_d hw (ptV Y N) 0).1
    have hf0 : ∀ Y', scr (uA Y 70 (ptV Y N)) Y' → wS Y' 9 ∧ ∀ q, q ≠ 67 → q ≠ 68 → q ≠ 69 → q ≠ 70 → Y' q = Y q := fun Y' hs => ⟨wS_c hs sb9 hd, fun q a1 a2 a3 a4 => by rw [hs q a1 a2 a3, uA_n _ _ a4]⟩
    by_cases hz : ptR Y N = 0
    · obtain ⟨Y', hs, hm⟩ := h3 hft hz
      obtain ⟨w1, f1⟩ := hf0 Y' hs
      have h12 : Y 20 1 ≤ 12 := hw.2.2.1
      have hne : Y 20 1 ≠ 12 := fun e => by rw [ptR, if_pos e] at hz; cases hz
      have e70 : Y' 70 = ptV Y N := by rw [hs 70 (by omega) (by omega) (by omega), uA_s]
      obtain ⟨k1, k2⟩ := msRel_k w1 (by rw [e70]; exact dsV_B hC n0 (by omega) hft n4 n6 n7) (by rw [f1 20 (by omega) (by omega) (by omega) (by omega)]; omega) hm
      have hfz : ∀ q, (q < 9 ∨ 34 ≤ q) → q ≠ 67 → q ≠ 68 → q ≠ 69 → q ≠ 70 → Z q = Y q := fun q a0 a1 a2 a3 a4 => (k2 q a0).trans (f1 q a1 a2 a3 a4)
      exact ⟨hC' Z hfz, k1, hfz⟩
    · obtain ⟨w1, f1⟩ := hf0 Z (h2 hft hz)
      have hfz : ∀ q, (q < 9 ∨ 34 ≤ q) → q ≠ 67 → q ≠ 68 → q ≠ 69 → q ≠ 70 → Z q = Y q := fun q a0 a1 a2 a3 a4 => f1 q a1 a2 a3 a4
      exact ⟨hC' Z hfz, w1, hfz⟩
  · have e := h1 (by omega)
    subst e
    exact ⟨hC, hw, fun _ _ _ _ _ _ => rfl⟩
section PART
variable {M M0 : zM} {Y : Nat → Nat → Nat}
theorem kX5_makesPart {N : Nat → Nat} (hC : wC Y) (hw : wS Y 9) (hY : Y 66 = N) (hN : ptB N) : Cn mX5_makesPart 6 0 0 none [.ref 8, .ref 66] (cM M0 Y) (zi (nI (ptOk Y N).toNat) (fun M' => ∃ Z, M' = cM M0 Z ∧ ptRel Y N Z)) := by
  obtain ⟨n0, n1, n2, n3, n4, n5, n6, n7⟩ := hN
  have h12 : Y 20 1 ≤ 12 := hw.2.2.1
  refine g_aload_n dX5_makesPart_0 rfl ?_
  refine g_iconst (v := nI 1) dX5_makesPart_1 (by decide) ?_
  refine g_cil dX5_makesPart_2 kI_num (by omega) ?_
  rw [hY]
  refine g_istore_n dX5_makesPart_3 (by decide) ?_
  refine g_aload_n dX5_makesPart_4 rfl ?_
  refine g_iconst (v := nI 3) dX5_makesPart_5 (by decide) ?_
  refine g_cil dX5_makesPart_6 kI_num (by omega) ?_
  rw [hY]
  refine g_aload_n dX5_makesPart_7 rfl ?_
  refine g_iconst (v := nI 2) dX5_makesPart_8 (by decide) ?_
  refine g_cil dX5_makesPart_9 kI_num (by omega) ?_
  rw [hY]
  refine g_icmp_gt_n (tgt := 15) dX5_makesPart_10 (by decide) (by omega) (by omega) (fun h1 => ?_) (fun h1 => ?_)
  rotate_left
  · refine g_iconst (v := nI 0) dX5_makesPart_13 (by decide) ?_
    refine g_ireturn dX5_makesPart_14 rfl rfl ⟨rfl, ?_, Y, rfl, fun _ => rfl, fun q => by omega, fun q => by omega⟩
    rw [show ptOk Y N = false by simp only [ptOk, Bool.and_eq_false_iff, decide_eq_false_iff_not]; exact Or.inl (by omega)]
    rfl
  refine g_aload_n dX5_makesPart_15 rfl ?_
  refine g_aload_n dX5_makesPart_16 rfl ?_
  refine g_iconst (v := nI 0) dX5_makesPart_17 (by decide) ?_
  refine g_cil dX5_makesPart_18 kI_num (by omega) ?_
  rw [hY]
  refine g_iload_n dX5_makesPart_19 rfl ?_
  refine g_aload_n dX5_makesPart_20 rfl ?_
  refine g_iconst (v := nI 2) dX5_makesPart_21 (by decide) ?_
  refine g_cil dX5_makesPart_22 kI_num (by omega) ?_
  rw [hY]
  refine g_aload_n dX5_makesPart_23 rfl ?_
  refine g_iconst (v := nI 3) dX5_makesPart_24 (by decide) ?_
  refine g_cil dX5_makesPart_25 kI_num (by omega) ?_
  rw [hY]
  refine g_aload_n dX5_makesPart_26 rfl ?_
  refine g_iconst (v := nI 4) dX5_makesPart_27 (by decide) ?_
  refine g_cil dX5_makesPart_28 kI_num (by omega) ?_
  rw [hY]
  refine g_aload_n dX5_makesPart_29 rfl ?_
  refine g_iconst (v := nI 5) dX5_makesPart_30 (by decide) ?_
  refine g_cil dX5_makesPart_31 kI_num (by omega) ?_
  rw [hY]
  refine g_callV_v (kX5_draftSingle hC (h := N 0) (day := N 1) (f := N 2) (t := N 3) (r := N 4) (te := N 5) n0 (by omega) h1 n4) oX5_draftSingle pX5_draftSingle lX5_100 dX5_makesPart_32 rfl (cM_H rfl) rfl rfl rfl (Nat.le_of_ble_eq_true rfl) (Nat.le_of_ble_eq_true rfl) (by decide) (fun M' h' => ?_)
  subst h'
  have hB := dsV_B hC (h := N 0) (day := N 1) (f := N 2) (t := N 3) (r := N 4) (te := N 5) n0 (by omega) h1 n4 n6 n7
  have hwd := (opL_d hw (dsV Y (N 0) (N 1) (N 2) (N 3) (N 4) (N 5)) 0).1
  refine g_aload_n dX5_makesPart_35 rfl ?_
  refine g_iload_n dX5_makesPart_36 rfl ?_
  refine g_callV_i (kX5_reasonAgainstDraft (Y := uA Y 70 (dsV Y (N 0) (N 1) (N 2) (N 3) (N 4) (N 5))) hC hwd (by rw [uA_s]; exact hB) (day := N 1) (by omega)) oX5_reasonAgainstDraft pX5_reasonAgainstDraft lX5_103 dX5_makesPart_37 rfl (cM_H rfl) rfl rfl rfl (Nat.le_of_ble_eq_true rfl) (Nat.le_of_ble_eq_true rfl) (by decide) (fun M' h' => ?_)
  obtain ⟨Y', rfl, h2⟩ := h'
  have er : (if uA Y 70 (dsV Y (N 0) (N 1) (N 2) (N 3) (N 4) (N 5)) 20 1 = 12 then 1 else rsO (uA Y 70 (dsV Y (N 0) (N 1) (N 2) (N 3) (N 4) (N 5))) (N 1)) = ptR Y N := rfl
  rw [er]
  have hle : ptR Y N ≤ 3 := by
    have := rsO_le (uA Y 70 (ptV Y N)) (N 1)
    unfold ptR
    split <;> omega
  refine g_if_eq_n (tgt := 45) dX5_makesPart_40 (by decide) (by omega) (fun h3 => ?_) (fun h3 => ?_)
  rotate_left
  · refine g_iconst (v := nI 0) dX5_makesPart_43 (by decide) ?_
    refine g_ireturn dX5_makesPart_44 rfl rfl ⟨rfl, ?_, Y', rfl, fun q => by omega, fun _ _ => h2, fun _ q => absurd q h3⟩
    rw [show ptOk Y N = false by simp only [ptOk, Bool.and_eq_false_iff, decide_eq_false_iff_not]; exact Or.inr h3]
    rfl
  have hne : Y 20 1 ≠ 12 := fun e => by rw [ptR, if_pos e] at h3; cases h3
  have e70 : Y' 70 = dsV Y (N 0) (N 1) (N 2) (N 3) (N 4) (N 5) := by rw [h2 70 (by omega) (by omega) (by omega), uA_s]
  refine g_aload_n dX5_makesPart_45 rfl ?_
  refine g_iload_n dX5_makesPart_46 rfl ?_
  refine g_callV_i (kX5_makeSingle (Y := Y') (wC_c h2 hC) (wS_c h2 sb9 hwd) (by rw [e70]; exact hB) (by rw [h2 20 (by omega) (by omega) (by omega), uA_n _ _ (by omega)]; omega) (day := N 1) (by omega) rfl rfl rfl rfl) oX5_makeSingle pX5_makeSingle lX5_109 dX5_makesPart_47 rfl (cM_H rfl) rfl rfl rfl (Nat.le_of_ble_eq_true rfl) (Nat.le_of_ble_eq_true rfl) (by decide) (fun M' h' => ?_)
  obtain ⟨A, s, rfl, q1, q2, q3⟩ := h'
  refine g_pop dX5_makesPart_50 rfl ?_
  refine g_iconst (v := nI 1) dX5_makesPart_51 (by decide) ?_
  refine g_ireturn dX5_makesPart_52 rfl rfl ⟨rfl, ?_, _, rfl, fun q => by omega, fun _ q => absurd h3 q, fun _ _ => ⟨Y', h2, msRel_of q1 q2 q3⟩⟩
  rw [show ptOk Y N = true by simp only [ptOk, Bool.and_eq_true, decide_eq_true_eq]; exact ⟨h1, h3⟩]
  rfl
end PART
/-! reading, character by character -/
def rdS (C : Nat → Nat) (s : tS) : Nat → tS
  | 0 => s
  | i + 1 => (acT (C i) (rdS C s i)).2
def okS (C : Nat → Nat) (s : tS) (n : Nat) : Prop := ∀ i, i < n → (acT (C i) (rdS C s i)).1 = true
theorem fbT_ok (C : Nat → Nat) (s : tS) : ∀ n i, (fbT C n i (rdS C s i)).1 = i + n → (∀ j, i ≤ j → j < i + n → (acT (C j) (rdS C s j)).1 = true) ∧ (fbT C n i (rdS C s i)).2 = rdS C s (i + n)
  | 0, i, _ => ⟨fun j h1 h2 => by omega, rfl⟩
  | n + 1, i, h => by
    rw [fbT] at h ⊢
    by_cases ha : (acT (C i) (rdS C s i)).1 = true
    · rw [if_pos ha] at h ⊢
      have ih := fbT_ok C s n (i + 1) (by rw [show i + 1 + n = i + (n + 1) by omega]; exact h)
      refine ⟨fun j h1 h2 => ?_, ?_⟩
      · by_cases e : j = i
        · subst e; exact ha
        · exact ih.1 j (by omega) (by omega)
      · have := ih.2
        rw [show i + 1 + n = i + (n + 1) by omega] at this
        exact this
    · rw [if_neg ha] at h
      have h' : i = i + (n + 1) := h
      omega
/-- the numbers read so far are in range -/
def tI (s : tS) : Prop := s.1 < 6 ∧ (∀ j, j < s.1 → zLo j ≤ s.2.2 j ∧ s.2.2 j ≤ zHi j) ∧ (0 < s.2.1 → zLo s.1 ≤ s.2.2 s.1 ∧ s.2.2 s.1 ≤ zHi s.1)
theorem acT_I {c : Nat} {s : tS} (h : tI s) (ha : (acT c s).1 = true) : tI (acT c s).2 := by
  obtain ⟨h1, h2, h3⟩ := h
  unfold acT at ha ⊢
  split at ha
  · rename_i e1
    rw [if_pos e1]
    split at ha
    · cases ha
    · rename_i e2
      rw [if_neg e2]
      split at ha
      · rename_i e3
        rw [if_pos e3]
        refine ⟨h1, fun j hj => ?_, fun _ => ?_⟩
        · have hj' : j < s.1 := hj
          dsimp only
          rw [uN_n _ _ (by omega)]
          exact h2 j hj'
        · dsimp only
          rw [uN_s]
          exact e3
      · cases ha
  · rename_i e1
    rw [if_neg e1]
    split at ha
    · cases ha
    · rename_i e2
      rw [if_neg e2]
      refine ⟨Nat.mod_lt _ (by decide), fun j hj => ?_, fun q => absurd q (Nat.lt_irrefl 0)⟩
      have hj' : j < (s.1 + 1) % 6 := hj
      dsimp only
      by_cases e : j = s.1
      · subst e; exact h3 (by omega)
      · exact h2 j (by omega)
theorem rdS_I {C : Nat → Nat} {s : tS} (hs : tI s) : ∀ n, okS C s n → tI (rdS C s n)
  | 0, _ => hs
  | n + 1, h => acT_I (rdS_I hs n (fun i hi => h i (by omega))) (h n (by omega))
theorem rdS_B {C : Nat → Nat} {s : tS} (hs : tB s 0) : ∀ n, tB (rdS C s n) n
  | 0 => hs
  | n + 1 => acT_B (rdS_B hs n)
/-- a sign ends a part: all its numbers are there -/
theorem acT_59 {s : tS} (h : s.1 < 6) (ha : (acT 59 s).1 = true) : s.1 = 5 ∧ 0 < s.2.1 := by
  unfold acT at ha
  rw [if_neg (by omega)] at ha
  split at ha
  · cases ha
  · rename_i e
    have hd : 0 < s.2.1 := by omega
    have hs : ¬ 59 ≠ zSg s.1 := fun q => e (Or.inr q)
    refine ⟨?_, hd⟩
    rcases (show s.1 = 0 ∨ s.1 = 1 ∨ s.1 = 2 ∨ s.1 = 3 ∨ s.1 = 4 ∨ s.1 = 5 by omega) with e | e | e | e | e | e <;> rw [e] at hs ⊢ <;> first | rfl | exact absurd (by decide) hs
theorem ptB_of {s : tS} (h : tI s) (h5 : s.1 = 5) (hd : 0 < s.2.1) : ptB s.2.2 := by
  obtain ⟨h1, h2, h3⟩ := h
  have a0 := h2 0 (by omega)
  have a1 := h2 1 (by omega)
  have a2 := h2 2 (by omega)
  have a3 := h2 3 (by omega)
  have a4 := h2 4 (by omega)
  have a5 := h3 hd
  rw [h5] at a5
  simp only [zLo, zHi] at a0 a1 a2 a3 a4 a5
  simp only [List.getD_cons_zero, List.getD_cons_succ] at a0 a1 a2 a3 a4 a5
  exact ⟨a0.2, a1.2, a2.2, a3.1, a3.2, a4.1, a4.2, a5.2⟩
/-- what lets() does, character by character; C: the codes, n: how many, s: the reading at its begin -/
def ltP (C : Nat → Nat) (n : Nat) (s : tS) (Y : Nat → Nat → Nat) : Nat → (Nat → Nat → Nat) → Nat → Prop
  | 0, Z, m => Z = tY Y s ∧ m = 0
  | i + 1, Z, m => ∃ Z' m', ltP C n s Y i Z' m' ∧ (if n ≤ i + 1 ∨ C (i + 1) = 59 then ptRel (tY Z' (rdS C s (i + 1))) (rdS C s (i + 1)).2.2 Z ∧ m = m' + (ptOk (tY Z' (rdS C s (i + 1))) (rdS C s (i + 1)).2.2).toNat else Z = tY Z' (rdS C s (i + 1)) ∧ m = m')
theorem wS_t {Y : Nat → Nat → Nat} (hw : wS Y 9) (s : tS) : wS (tY Y s) 9 := wS_same (fun q _ _ => tY_o _ _ (by omega) (by omega)) hw
theorem wC_t {Y : Nat → Nat → Nat} (hC : wC Y) (s : tS) : wC (tY Y s) := by
  unfold wC
  rw [tY_o _ _ (by omega) (by omega), tY_o _ _ (by omega) (by omega)]
  exact hC
/-- parts end where all numbers are there -/
def endS (C : Nat → Nat) (s : tS) (n : Nat) : Prop := okS C s n ∧ (rdS C s n).1 = 5 ∧ 0 < (rdS C s n).2.1
theorem ltP_pt {C : Nat → Nat} {n : Nat} {s : tS} (hs : tI s) (hE : endS C s n) {i : Nat} (hi : i < n) (hc : n ≤ i + 1 ∨ C (i + 1) = 59) : ptB (rdS C s (i + 1)).2.2 := by
  have hI := rdS_I hs (i + 1) (fun j hj => hE.1 j (by omega))
  by_cases e : n = i + 1
  · subst e
    exact ptB_of hI hE.2.1 hE.2.2
  · have h59 : C (i + 1) = 59 := hc.resolve_left (by omega)
    have ha := hE.1 (i + 1) (by omega)
    rw [h59] at ha
    obtain ⟨a1, a2⟩ := acT_59 hI.1 ha
    exact ptB_of hI a1 a2
theorem ltP_k {C : Nat → Nat} {n : Nat} {s : tS} {Y : Nat → Nat → Nat} (hC : wC Y) (hw : wS Y 9) (hs : tI s) (hE : endS C s n) : ∀ i Z m, i ≤ n → ltP C n s Y i Z m → wC Z ∧ wS Z 9 ∧ m ≤ i ∧ (tY Z (rdS C s i) = Z ∧ Z 64 1 = Y 64 1) ∧ ∀ q, (q < 9 ∨ 34 ≤ q) → q ≠ 67 → q ≠ 68 → q ≠ 69 → q ≠ 70 → q ≠ 66 → q ≠ 64 → Z q = Y q
  | 0, Z, m, _, h => by
    obtain ⟨rfl, rfl⟩ := h
    refine ⟨wC_t hC _, wS_t hw _, Nat.le_refl _, ⟨?_, tY_1 _ _⟩, fun q _ _ _ _ _ h1 h2 => tY_o _ _ h2 h1⟩
    show tY (tY Y s) s = tY Y s
    have := tY_self (tY Y s)
    rw [tY_3, tY_4, tY_n] at this
    exact this
  | i + 1, Z, m, hi, h => by
    obtain ⟨Z', m', h1, h2⟩ := h
    obtain ⟨k1, k2, k3, ⟨k4, k4b⟩, k5⟩ := ltP_k hC hw hs hE i Z' m' (by omega) h1
    have self : ∀ (V : Nat → Nat → Nat) (t : tS), tY (tY V t) t = tY V t := fun V t => by
      have := tY_self (tY V t)
      rw [tY_3, tY_4, tY_n] at this
      exact this
    by_cases hc : n ≤ i + 1 ∨ C (i + 1) = 59
    · rw [if_pos hc] at h2
      obtain ⟨h3, rfl⟩ := h2
      obtain ⟨r1, r2, r3⟩ := ptRel_k (wC_t k1 _) (wS_t k2 _) (ltP_pt hs hE (by omega) hc) h3
      have e64 := r3 64 (by omega) (by omega) (by omega) (by omega) (by omega)
      have e66 := r3 66 (by omega) (by omega) (by omega) (by omega) (by omega)
      refine ⟨r1, r2, ?_, ⟨?_, by rw [e64, tY_1]; exact k4b⟩, fun q a0 a1 a2 a3 a4 a5 a6 => ?_⟩
      · cases ptOk (tY Z' (rdS C s (i + 1))) (rdS C s (i + 1)).2.2 <;> simp <;> omega
      · have := tY_self Z
        rw [e64, e66, tY_3, tY_4, tY_n] at this
        exact this
      · rw [r3 q a0 a1 a2 a3 a4, tY_o _ _ a6 a5]
        exact k5 q a0 a1 a2 a3 a4 a5 a6
    · rw [if_neg hc] at h2
      obtain ⟨rfl, rfl⟩ := h2
      refine ⟨wC_t k1 _, wS_t k2 _, by omega, ⟨self _ _, by rw [tY_1]; exact k4b⟩, fun q a0 a1 a2 a3 a4 a5 a6 => ?_⟩
      rw [tY_o _ _ a6 a5]
      exact k5 q a0 a1 a2 a3 a4 a5 a6
section LETS
variable {M M0 : zM} {Y : Nat → Nat → Nat}
theorem kX5_lets1 (hT : wT Y) (hN : wN Y) (h : icT Y = false) : Cn mX5_lets 8 1 6 none [.ref 8] (cM M0 Y) (zt eA (fun M' => M' = cM M0 (tY Y (fbA Y).2))) := by
  refine g_aload_n dX5_lets_0 rfl ?_
  refine g_get fX5_26 dX5_lets_1 (cM_H rfl) rfl ?_
  refine g_callV_i (kX2_isComplete hT hN) oX2_isComplete pX2_isComplete lX5_177 dX5_lets_4 rfl (cM_T rfl) rfl rfl rfl (Nat.le_of_ble_eq_true rfl) (Nat.le_of_ble_eq_true rfl) (by decide) (fun M' h' => ?_)
  subst h'
  rw [h]
  exact g_callS_t rfl (kX5_need1) oX5_need pX5_need lX5_52 dX5_lets_7 rfl rfl (Nat.le_of_ble_eq_true rfl) (Nat.le_of_ble_eq_true rfl) (by decide) (by decide) (by decide) (fun M1 h1 => ⟨rfl, rfl, h1⟩)
/-- what is read doesn't hang on the numbers that stood there before -/
def tQ (s t : tS) : Prop := s.1 = t.1 ∧ s.2.1 = t.2.1 ∧ (0 < s.2.1 → s.2.2 s.1 = t.2.2 s.1)
theorem acT_Q {c : Nat} {s t : tS} (h : tQ s t) : (acT c s).1 = (acT c t).1 ∧ tQ (acT c s).2 (acT c t).2 := by
  obtain ⟨a, b, N⟩ := s
  obtain ⟨a', b', N'⟩ := t
  obtain ⟨h1, h2, h3⟩ := h
  have h1' : a = a' := h1
  have h2' : b = b' := h2
  subst h1' h2'
  have h3' : 0 < b → N a = N' a := h3
  have en : tN c (a, b, N) = tN c (a, b, N') := by
    show (if 0 < b then 10 * N a + (c - 48) else c - 48) = (if 0 < b then 10 * N' a + (c - 48) else c - 48)
    by_cases hb : 0 < b
    · rw [if_pos hb, if_pos hb, h3' hb]
    · rw [if_neg hb, if_neg hb]
  unfold acT
  by_cases hc : 48 ≤ c ∧ c ≤ 57
  · rw [if_pos hc, if_pos hc]
    by_cases hz : 0 < b ∧ N a = 0
    · have hz' : 0 < b ∧ N' a = 0 := ⟨hz.1, (h3' hz.1).symm.trans hz.2⟩
      rw [if_pos (show 0 < ((a, b, N) : tS).2.1 ∧ ((a, b, N) : tS).2.2 ((a, b, N) : tS).1 = 0 from hz), if_pos (show 0 < ((a, b, N') : tS).2.1 ∧ ((a, b, N') : tS).2.2 ((a, b, N') : tS).1 = 0 from hz')]
      exact ⟨rfl, rfl, rfl, h3'⟩
    · have hz' : ¬ (0 < b ∧ N' a = 0) := fun q => hz ⟨q.1, (h3' q.1).trans q.2⟩
      rw [if_neg (show ¬ (0 < ((a, b, N) : tS).2.1 ∧ ((a, b, N) : tS).2.2 ((a, b, N) : tS).1 = 0) from hz), if_neg (show ¬ (0 < ((a, b, N') : tS).2.1 ∧ ((a, b, N') : tS).2.2 ((a, b, N') : tS).1 = 0) from hz')]
      by_cases hr : zLo a ≤ tN c (a, b, N) ∧ tN c (a, b, N) ≤ zHi a
      · have hr' : zLo a ≤ tN c (a, b, N') ∧ tN c (a, b, N') ≤ zHi a := by rw [← en]; exact hr
        rw [if_pos (show zLo ((a, b, N) : tS).1 ≤ tN c (a, b, N) ∧ tN c (a, b, N) ≤ zHi ((a, b, N) : tS).1 from hr), if_pos (show zLo ((a, b, N') : tS).1 ≤ tN c (a, b, N') ∧ tN c (a, b, N') ≤ zHi ((a, b, N') : tS).1 from hr')]
        refine ⟨rfl, rfl, rfl, fun _ => ?_⟩
        show uN N a (tN c (a, b, N)) a = uN N' a (tN c (a, b, N')) a
        rw [uN_s, uN_s, en]
      · have hr' : ¬ (zLo a ≤ tN c (a, b, N') ∧ tN c (a, b, N') ≤ zHi a) := by rw [← en]; exact hr
        rw [if_neg (show ¬ (zLo ((a, b, N) : tS).1 ≤ tN c (a, b, N) ∧ tN c (a, b, N) ≤ zHi ((a, b, N) : tS).1) from hr), if_neg (show ¬ (zLo ((a, b, N') : tS).1 ≤ tN c (a, b, N') ∧ tN c (a, b, N') ≤ zHi ((a, b, N') : tS).1) from hr')]
        exact ⟨rfl, rfl, rfl, h3'⟩
  · rw [if_neg hc, if_neg hc]
    by_cases hd : b < 1 ∨ c ≠ zSg a
    · rw [if_pos (show ((a, b, N) : tS).2.1 < 1 ∨ c ≠ zSg ((a, b, N) : tS).1 from hd), if_pos (show ((a, b, N') : tS).2.1 < 1 ∨ c ≠ zSg ((a, b, N') : tS).1 from hd)]
      exact ⟨rfl, rfl, rfl, h3'⟩
    · rw [if_neg (show ¬ (((a, b, N) : tS).2.1 < 1 ∨ c ≠ zSg ((a, b, N) : tS).1) from hd), if_neg (show ¬ (((a, b, N') : tS).2.1 < 1 ∨ c ≠ zSg ((a, b, N') : tS).1) from hd)]
      exact ⟨rfl, rfl, rfl, fun q => absurd q (Nat.lt_irrefl 0)⟩
theorem rdS_Q {C : Nat → Nat} {s t : tS} (h : tQ s t) : ∀ n, tQ (rdS C s n) (rdS C t n)
  | 0 => h
  | n + 1 => (acT_Q (rdS_Q h n)).2
theorem endS_Q {C : Nat → Nat} {n : Nat} {s t : tS} (h : tQ s t) (hE : endS C s n) : endS C t n := by
  have hq := rdS_Q (C := C) h n
  exact ⟨fun i hi => (acT_Q (rdS_Q h i)).1.symm.trans (hE.1 i hi), hq.1.symm.trans hE.2.1, by rw [← hq.2.1]; exact hE.2.2⟩
theorem tI_0 (N : Nat → Nat) : tI (0, 0, N) := ⟨by show 0 < 6; omega, fun j hj => absurd hj (Nat.not_lt_zero j), fun q => absurd q (Nat.lt_irrefl 0)⟩
theorem tQ_0 (N N' : Nat → Nat) : tQ (0, 0, N) (0, 0, N') := ⟨rfl, rfl, fun q => absurd q (Nat.lt_irrefl 0)⟩
theorem icT_E {Y : Nat → Nat → Nat} (h : icT Y = true) (N : Nat → Nat) : endS (Y 65) (0, 0, N) (Y 64 1) := by
  simp only [icT, Bool.and_eq_true, decide_eq_true_eq] at h
  obtain ⟨h1, h2, h3⟩ := h
  have hf := fbT_ok (Y 65) (0, 0, Y 66) (Y 64 1) 0 (by rw [Nat.zero_add]; exact h1)
  rw [Nat.zero_add] at hf
  have e : (fbA Y).2 = rdS (Y 65) (0, 0, Y 66) (Y 64 1) := hf.2
  rw [e] at h2 h3
  exact endS_Q (tQ_0 (Y 66) N) ⟨fun i hi => hf.1 i (Nat.zero_le _) hi, h2, h3⟩
/-- a number that only the end tells -/
def zE1 (P : Nat → zM → Prop) : zP := fun M nx o => ∃ m, nx = none ∧ o = .inl (some (.int (nI m))) ∧ P m M
theorem ltw1 {C : Nat → Nat} {n : Nat} {s : tS} (hC : wC Y) (hw : wS Y 9) (hs : tI s) (hs2 : tB s 0) (hE : endS C s n) (hn : n ≤ 60) (hc : ∀ j, j < 60 → C j < 128) (h1 : Y 64 1 = n) (h65 : Y 65 = C) (F : zP) (hF : ∀ Z m, ltP C n s Y n Z m → F (cM M0 (uA Z 64 (uN (Z 64) 1 0))) none (.inl (some (.int (nI m))))) : ∀ u i Z m, i + u = n → ltP C n s Y i Z m → G mX5_lets 8 0 0 none 25 [(0, .ref 8), (1, .int (nI m)), (2, .int (nI i))] [] (cM M0 Z) F := by
  intro u
  induction u with
  | zero =>
    intro i Z m hi hZ
    obtain ⟨k1, k2, k3, ⟨k4, k4b⟩, k5⟩ := ltP_k hC hw hs hE i Z m (by omega) hZ
    have : i = n := by omega
    subst this
    refine g_iload_n dX5_lets_25 rfl ?_
    refine g_aload_n dX5_lets_26 rfl ?_
    refine g_get fX5_26 dX5_lets_27 (cM_H rfl) rfl ?_
    refine g_get fX5_171 dX5_lets_30 (cM_T rfl) rfl ?_
    rw [k4b, h1]
    refine g_icmp_ge_n (tgt := 87) dX5_lets_33 (by decide) (by omega) (by omega) (fun h2 => ?_) (fun h2 => ?_)
    · refine g_aload_n dX5_lets_87 rfl ?_
      refine g_get fX5_26 dX5_lets_88 (cM_H rfl) rfl ?_
      refine g_iconst (v := nI 0) dX5_lets_91 (by decide) ?_
      refine g_cpT fX5_171 dX5_lets_92 rfl (by decide) ?_
      refine g_iload_n dX5_lets_95 rfl ?_
      exact g_ireturn dX5_lets_96 rfl rfl (hF Z m hZ)
    · omega
  | succ u ih =>
    intro i Z m hi hZ
    obtain ⟨k1, k2, k3, ⟨k4, k4b⟩, k5⟩ := ltP_k hC hw hs hE i Z m (by omega) hZ
    have z65 : Z 65 = C := (k5 65 (by omega) (by omega) (by omega) (by omega) (by omega) (by omega) (by omega)).trans h65
    have hR := rdS_B (C := C) hs2 i
    refine g_iload_n dX5_lets_25 rfl ?_
    refine g_aload_n dX5_lets_26 rfl ?_
    refine g_get fX5_26 dX5_lets_27 (cM_H rfl) rfl ?_
    refine g_get fX5_171 dX5_lets_30 (cM_T rfl) rfl ?_
    rw [k4b, h1]
    refine g_icmp_ge_n (tgt := 87) dX5_lets_33 (by decide) (by omega) (by omega) (fun h2 => ?_) (fun h2 => ?_)
    · omega
    refine g_aload_n dX5_lets_36 rfl ?_
    refine g_get fX5_26 dX5_lets_37 (cM_H rfl) rfl ?_
    refine g_aload_n dX5_lets_40 rfl ?_
    refine g_get fX5_26 dX5_lets_41 (cM_H rfl) rfl ?_
    refine g_get fX5_183 dX5_lets_44 (cM_T rfl) rfl ?_
    refine g_iload_n dX5_lets_47 rfl ?_
    refine g_cil dX5_lets_48 kI_codes (by omega) ?_
    rw [z65]
    have hA := kX2_accepts (M0 := M0) (Y := Z) hR (by omega) (hc i (by omega))
    rw [k4] at hA
    refine g_callV_i (hA) oX2_accepts pX2_accepts lX5_186 dX5_lets_49 rfl (cM_T rfl) rfl rfl rfl (Nat.le_of_ble_eq_true rfl) (Nat.le_of_ble_eq_true rfl) (by decide) (fun M' h' => ?_)
    subst h'
    refine g_pop dX5_lets_52 rfl ?_
    have t65 : tY Z (acT (C i) (rdS C s i)).2 65 = C := (tY_o _ _ (by omega) (by omega)).trans z65
    have t64 : tY Z (acT (C i) (rdS C s i)).2 64 1 = n := by rw [tY_1, k4b, h1]
    refine g_aload_n dX5_lets_53 rfl ?_
    refine g_get fX5_26 dX5_lets_54 (cM_H rfl) rfl ?_
    refine g_iload_n dX5_lets_57 rfl ?_
    refine g_callV_i (kX2_endsPart (Y := tY Z (acT (C i) (rdS C s i)).2) ⟨by rw [t64]; exact hn, by rw [t65]; exact hc⟩ (i := i) (by omega)) oX2_endsPart pX2_endsPart lX5_189 dX5_lets_58 rfl (cM_T rfl) rfl rfl rfl (Nat.le_of_ble_eq_true rfl) (Nat.le_of_ble_eq_true rfl) (by decide) (fun M' h' => ?_)
    subst h'
    have next : ∀ Z2 m2, ltP C n s Y (i + 1) Z2 m2 → G mX5_lets 8 0 0 none 81 [(0, .ref 8), (1, .int (nI m2)), (2, .int (nI i))] [] (cM M0 Z2) F := fun Z2 m2 hZ2 => by
      refine g_iinc_n (c := 1) dX5_lets_81 rfl (by decide) (by decide) ?_
      refine g_goto (tgt := 25) dX5_lets_84 (by decide) ?_
      exact g_loc rfl (ih (i + 1) Z2 m2 (by omega) hZ2)
    have ee : epT (tY Z (acT (C i) (rdS C s i)).2) i = (decide (n ≤ i + 1) || decide (C (i + 1) = 59)) := by rw [epT, t64, t65]
    rw [ee]
    refine g_if_eq_b (tgt := 81) dX5_lets_61 (by decide) (fun h3 => ?_) (fun h3 => ?_)
    · have hno : ¬ (n ≤ i + 1 ∨ C (i + 1) = 59) := fun q => by
        rcases q with q | q
        · rw [decide_eq_true q] at h3; cases h3
        · rw [decide_eq_true q, Bool.or_true] at h3; cases h3
      exact g_loc rfl (next _ m ⟨Z, m, hZ, by rw [if_neg hno]; exact ⟨rfl, rfl⟩⟩)
    · have hyes : n ≤ i + 1 ∨ C (i + 1) = 59 := by
        simp only [Bool.or_eq_true, decide_eq_true_eq] at h3
        exact h3
      have hpt := ltP_pt hs hE (show i < n by omega) hyes
      refine g_aload_n dX5_lets_64 rfl ?_
      refine g_aload_n dX5_lets_65 rfl ?_
      refine g_get fX5_26 dX5_lets_66 (cM_H rfl) rfl ?_
      refine g_get fX5_192 dX5_lets_69 (cM_T rfl) rfl ?_
      refine g_callV_i (kX5_makesPart (Y := tY Z (rdS C s (i + 1))) (N := (rdS C s (i + 1)).2.2) (wC_t k1 _) (wS_t k2 _) (tY_n _ _) hpt) oX5_makesPart pX5_makesPart lX5_195 dX5_lets_72 rfl (cM_H rfl) rfl rfl rfl (Nat.le_of_ble_eq_true rfl) (Nat.le_of_ble_eq_true rfl) (by decide) (fun M' h' => ?_)
      obtain ⟨Z2, rfl, hp2⟩ := h'
      have fin : ∀ m2, m2 = m + (ptOk (tY Z (rdS C s (i + 1))) (rdS C s (i + 1)).2.2).toNat → ltP C n s Y (i + 1) Z2 m2 := fun m2 hm2 => ⟨Z, m, hZ, by rw [if_pos hyes]; exact ⟨hp2, hm2⟩⟩
      refine g_if_eq_b (tgt := 81) dX5_lets_75 (by decide) (fun h4 => ?_) (fun h4 => ?_)
      · exact g_loc rfl (next Z2 m (fin m (by rw [h4]; rfl)))
      · refine g_iinc_n (c := 1) dX5_lets_78 rfl (by decide) (by decide) ?_
        exact g_loc rfl (next Z2 (m + 1) (fin (m + 1) (by rw [h4]; rfl)))
theorem kX5_lets (hC : wC Y) (hw : wS Y 9) (hB : wB Y) (h6 : Y 8 4 ≤ 6) (hT : wT Y) (hN : wN Y) (h : icT Y = true) : Cn mX5_lets 8 0 0 none [.ref 8] (cM M0 Y) (zE1 (fun m M' => ∃ Y3 Z, svRel (tY Y (fbA Y).2) Y3 ∧ ltP (Y 65) (Y 64 1) (0, 0, (fbA Y).2.2.2) Y3 (Y 64 1) Z m ∧ M' = cM M0 (uA Z 64 (uN (Z 64) 1 0)))) := by
  have hC1 := wC_t hC (fbA Y).2
  have hw1 := wS_t hw (fbA Y).2
  have hB1 : wB (tY Y (fbA Y).2) := wB_same (fun q hq => tY_o _ _ (by omega) (by omega)) hB
  have h61 : tY Y (fbA Y).2 8 4 ≤ 6 := by rw [tY_o _ _ (by omega) (by omega)]; exact h6
  obtain ⟨-, b1, -, b3⟩ := fbA_B hN
  refine g_aload_n dX5_lets_0 rfl ?_
  refine g_get fX5_26 dX5_lets_1 (cM_H rfl) rfl ?_
  refine g_callV_i (kX2_isComplete hT hN) oX2_isComplete pX2_isComplete lX5_177 dX5_lets_4 rfl (cM_T rfl) rfl rfl rfl (Nat.le_of_ble_eq_true rfl) (Nat.le_of_ble_eq_true rfl) (by decide) (fun M' h' => ?_)
  subst h'
  rw [h]
  refine g_callS_v (kX5_need) oX5_need pX5_need lX5_52 dX5_lets_7 rfl rfl (Nat.le_of_ble_eq_true rfl) (Nat.le_of_ble_eq_true rfl) (by decide) (fun M' h' => ?_)
  subst h'
  refine g_aload_n dX5_lets_10 rfl ?_
  refine g_callV_v (kX5_saveState (Y := tY Y (fbA Y).2) hB1 hw1 h61) oX5_saveState pX5_saveState lX5_87 dX5_lets_11 rfl (cM_H rfl) rfl rfl rfl (Nat.le_of_ble_eq_true rfl) (Nat.le_of_ble_eq_true rfl) (by decide) (fun M' h' => ?_)
  obtain ⟨Y2, rfl, h3⟩ := h'
  have hR : svRel (tY Y (fbA Y).2) (uA Y2 8 (uN (Y2 8) 4 (Y2 8 4 + 1))) := ⟨Y2, rfl, h3⟩
  generalize uA Y2 8 (uN (Y2 8) 4 (Y2 8 4 + 1)) = Y3 at hR
  have e3 : ∀ q, q ≠ 8 → q ≠ 63 → q < 71 → Y3 q = tY Y (fbA Y).2 q := fun q a1 a2 a3 => svRel_k hR hB1 h61 a1 a2 a3
  have e65 : Y3 65 = Y 65 := (e3 65 (by omega) (by omega) (by omega)).trans (tY_o _ _ (by omega) (by omega))
  have e66 : Y3 66 = (fbA Y).2.2.2 := (e3 66 (by omega) (by omega) (by omega)).trans (tY_n _ _)
  have e64 : Y3 64 1 = Y 64 1 := by rw [e3 64 (by omega) (by omega) (by omega), tY_1]
  have hw3 : wS Y3 9 := wS_same (fun q a1 a2 => e3 q (by omega) (by omega) (by omega)) hw1
  have hC3 : wC Y3 := by
    unfold wC
    rw [e3 35 (by omega) (by omega) (by omega), e3 34 (by omega) (by omega) (by omega)]
    exact hC1
  refine g_iconst (v := nI 0) dX5_lets_14 (by decide) ?_
  refine g_istore_n dX5_lets_15 (by decide) ?_
  refine g_aload_n dX5_lets_16 rfl ?_
  refine g_get fX5_26 dX5_lets_17 (cM_H rfl) rfl ?_
  refine g_callV_v (kX2_startReading (Y := Y3)) oX2_startReading pX2_startReading lX5_180 dX5_lets_20 rfl (cM_T rfl) rfl rfl rfl (Nat.le_of_ble_eq_true rfl) (Nat.le_of_ble_eq_true rfl) (by decide) (fun M' h' => ?_)
  subst h'
  rw [e66]
  refine g_iconst (v := nI 0) dX5_lets_23 (by decide) ?_
  refine g_istore_n dX5_lets_24 (by decide) ?_
  refine g_loc rfl (ltw1 (n := Y 64 1) (s := (0, 0, (fbA Y).2.2.2)) (C := Y 65) hC3 hw3 (tI_0 _) ⟨by show 0 < 6; omega, Nat.le_refl _, b3⟩ (icT_E h _) hT.1 hT.2 e64 e65 _ (fun Z m hZ => ⟨m, rfl, rfl, Y3, Z, hR, hZ, rfl⟩) (Y 64 1) 0 _ 0 (by omega) ⟨rfl, rfl⟩)
end LETS
