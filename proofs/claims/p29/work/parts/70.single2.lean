/-! the class: single, the let is made -/
def cntS (Y : Nat → Nat → Nat) (day : Nat) : Nat := gN (gwG Y 10 70 day (Y 35 0)) (Y 10 1) + dN (gwG Y 20 70 day (Y 35 0)) (Y 20 1) (Y 20 1)
theorem cntS_c {Y Z : Nat → Nat → Nat} (hw : wS Y 9) (h : ∀ q, 9 ≤ q → q < 36 → Z q = Y q) (h70 : Z 70 = Y 70) (day : Nat) : cntS Z day = cntS Y day := by
  have n1 : Y 10 1 ≤ 8 := hw.1.2.1
  have n2 : Y 20 1 ≤ 12 := hw.2.2.1
  have e10 := h 10 (by omega) (by omega)
  have e20 := h 20 (by omega) (by omega)
  have e35 := h 35 (by omega) (by omega)
  have g1 : ∀ i, i < Y 10 1 → gwG Z 10 70 day (Y 35 0) i = gwG Y 10 70 day (Y 35 0) i := fun i hi => by
    have hp : 12 ≤ Y 11 i ∧ Y 11 i < 20 := hw.1.1.1 i (by omega)
    have e11 : Z 11 = Y 11 := h 11 (by omega) (by omega)
    show vGw (Z (Z 11 i)) (Z 70) day _ = vGw (Y (Y 11 i)) (Y 70) day _
    rw [e11, h _ (by omega) (by omega), h70]
  have g2 : ∀ i, i < Y 20 1 → gwG Z 20 70 day (Y 35 0) i = gwG Y 20 70 day (Y 35 0) i := fun i hi => by
    have hp : 22 ≤ Y 21 i ∧ Y 21 i < 34 := hw.2.1.1 i (by omega)
    have e21 : Z 21 = Y 21 := h 21 (by omega) (by omega)
    show vGw (Z (Z 21 i)) (Z 70) day _ = vGw (Y (Y 21 i)) (Y 70) day _
    rw [e21, h _ (by omega) (by omega), h70]
  rw [cntS, cntS, e10, e20, e35, gN_c _ g1, dN_c g2 _ (Nat.le_refl _)]
section SINGLE2
variable {M M0 : zM} {Y : Nat → Nat → Nat}
theorem kX5_single (hC : wC Y) (hw : wS Y 9) (hB : wB Y) (h6 : Y 8 4 ≤ 6) {h day f t r te : Nat} (hh : h ≤ 2) (hd : day < 84) (hft : f < t) (ht : t ≤ 24) (hr : 1 ≤ r) (hr2 : r ≤ 9) (hte : te ≤ 19) (hz : (if Y 20 1 = 12 then 1 else rsO (uA Y 70 (dsV Y h day f t r te)) day) = 0) : Cn mX5_single 8 0 0 none [.ref 8, .int (nI h), .int (nI day), .int (nI f), .int (nI t), .int (nI r), .int (nI te)] (cM M0 Y) (zi (nI (cntS (uA Y 70 (dsV Y h day f t r te)) day)) (fun M' => ∃ Y' Y3 A s, scr (uA Y 70 (dsV Y h day f t r te)) Y' ∧ svRel Y' Y3 ∧ M' = cM M0 (msY Y3 (gwY Y3 (gZ Y3 (Y3 11) day (gwG Y3 10 70 day (Y3 35 0)) (Y3 10 1)) 9 A s (gR (gwG Y3 10 70 day (Y3 35 0)) (rV Y3 10) (Y3 10 1) + dR (gwG Y3 20 70 day (Y3 35 0)) (rV Y3 20) (Y3 20 1) (Y3 20 1)) (gN (gwG Y3 10 70 day (Y3 35 0)) (Y3 10 1) + dN (gwG Y3 20 70 day (Y3 35 0)) (Y3 20 1) (Y3 20 1))) A s) ∧ lAt (dL (gwG Y3 20 70 day (Y3 35 0)) (Y3 21) (Y3 20 1) (Y3 20 1)) 0 A ∧ s = (dL (gwG Y3 20 70 day (Y3 35 0)) (Y3 21) (Y3 20 1) (Y3 20 1)).length ∧ rPA A 20 12)) := by
  have h12 : Y 20 1 ≤ 12 := hw.2.2.1
  have hlt : Y 20 1 < 12 := by
    by_cases e : Y 20 1 = 12
    · rw [if_pos e] at hz; cases hz
    · omega
  refine sg1 hC hw hh hd hft ht hr hr2 hte _ (fun Y' h2 => ?_)
  rw [hz]
  have hwd := (opL_d hw (dsV Y h day f t r te) 0).1
  have hw1 : wS Y' 9 := wS_c h2 sb9 hwd
  have hB1 : wB Y' := wB_same (fun q hq => by rw [h2 q (by omega) (by omega) (by omega), uA_n _ _ (by omega)]) hB
  have h61 : Y' 8 4 ≤ 6 := by rw [h2 8 (by omega) (by omega) (by omega), uA_n _ _ (by omega)]; exact h6
  refine g_if_eq_n (tgt := 67) dX5_single_54 (by decide) (by omega) (fun h1 => ?_) (fun h1 => ?_)
  rotate_left
  · omega
  refine g_aload_n dX5_single_67 rfl ?_
  refine g_callV_v (kX5_saveState hB1 hw1 h61) oX5_saveState pX5_saveState lX5_87 dX5_single_68 rfl (cM_H rfl) rfl rfl rfl (Nat.le_of_ble_eq_true rfl) (Nat.le_of_ble_eq_true rfl) (by decide) (fun M' h' => ?_)
  obtain ⟨Y2, rfl, h3⟩ := h'
  have hR : svRel Y' (uA Y2 8 (uN (Y2 8) 4 (Y2 8 4 + 1))) := ⟨Y2, rfl, h3⟩
  generalize uA Y2 8 (uN (Y2 8) 4 (Y2 8 4 + 1)) = Y3 at hR
  have e3 : ∀ q, q ≠ 8 → q ≠ 63 → q < 71 → q ≠ 67 → q ≠ 68 → q ≠ 69 → Y3 q = uA Y 70 (dsV Y h day f t r te) q := fun q a1 a2 a3 a4 a5 a6 => (svRel_k hR hB1 h61 a1 a2 a3).trans (h2 q a4 a5 a6)
  have hw3 : wS Y3 9 := wS_same (fun q a1 a2 => e3 q (by omega) (by omega) (by omega) (by omega) (by omega) (by omega)) hwd
  have e70 : Y3 70 = dsV Y h day f t r te := by rw [e3 70 (by omega) (by omega) (by omega) (by omega) (by omega) (by omega), uA_s]
  have hC3 : wC Y3 := by
    unfold wC
    rw [e3 35 (by omega) (by omega) (by omega) (by omega) (by omega) (by omega), e3 34 (by omega) (by omega) (by omega) (by omega) (by omega) (by omega)]
    exact hC
  have e20 : Y3 20 1 = Y 20 1 := by rw [e3 20 (by omega) (by omega) (by omega) (by omega) (by omega) (by omega), uA_n _ _ (by omega)]
  have hcnt := cntS_c hwd (Z := Y3) (fun q a1 a2 => e3 q (by omega) (by omega) (by omega) (by omega) (by omega) (by omega)) (by rw [e70, uA_s]) day
  refine g_aload_n dX5_single_71 rfl ?_
  refine g_iload_n dX5_single_72 rfl ?_
  refine g_callV_i (kX5_makeSingle (Y := Y3) hC3 hw3 (by rw [e70]; exact dsV_B hC hh hd hft ht hr2 hte) (by omega) hd rfl rfl rfl rfl) oX5_makeSingle pX5_makeSingle lX5_109 dX5_single_73 rfl (cM_H rfl) rfl rfl rfl (Nat.le_of_ble_eq_true rfl) (Nat.le_of_ble_eq_true rfl) (by decide) (fun M' h' => ?_)
  obtain ⟨A, s, rfl, q1, q2, q3⟩ := h'
  refine g_ireturn dX5_single_76 rfl rfl ⟨rfl, ?_, Y', Y3, A, s, h2, hR, rfl, q1, q2, q3⟩
  rw [← hcnt]
  rfl
end SINGLE2
