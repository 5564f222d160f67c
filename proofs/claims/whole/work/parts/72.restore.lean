/-! the class: restore -/
section REST
variable {M M0 : zM} {Y : Nat → Nat → Nat}
theorem kX5_restore (hw : wS Y 9) (hB : wB Y) (h6 : Y 8 4 ≤ 6) (h2 : Y 8 2 = 1) (hS : ∀ Y3, svRel Y Y3 → wS Y3 9 ∧ wS Y3 36) : Cn mX5_restore 8 0 0 none [.ref 8] (cM M0 Y) (zi (nI (Y 37 1 + Y 47 1)) (fun M' => ∃ Y3 Y4, svRel Y Y3 ∧ bcm Y3 Y4 9 36 ∧ M' = cM M0 Y4)) := by
  refine g_aload_n dX5_restore_0 rfl ?_
  refine g_get fX5_208 dX5_restore_1 (cM_H rfl) rfl ?_
  rw [h2]
  refine g_if_ne_n (tgt := 17) dX5_restore_4 (by decide) (by omega) (fun h1 => ?_) (fun h1 => ?_)
  rotate_left
  · cases h1
  refine g_aload_n dX5_restore_17 rfl ?_
  refine g_callV_v (kX5_saveState hB hw h6) oX5_saveState pX5_saveState lX5_87 dX5_restore_18 rfl (cM_H rfl) rfl rfl rfl (Nat.le_of_ble_eq_true rfl) (Nat.le_of_ble_eq_true rfl) (by decide) (fun M' h' => ?_)
  obtain ⟨Y2, rfl, h3⟩ := h'
  have hR : svRel Y (uA Y2 8 (uN (Y2 8) 4 (Y2 8 4 + 1))) := ⟨Y2, rfl, h3⟩
  generalize uA Y2 8 (uN (Y2 8) 4 (Y2 8 4 + 1)) = Y3 at hR
  obtain ⟨w9, w36⟩ := hS Y3 hR
  refine g_aload_n dX5_restore_21 rfl ?_
  refine g_get fX5_10 dX5_restore_22 (cM_H rfl) rfl ?_
  refine g_aload_n dX5_restore_25 rfl ?_
  refine g_get fX5_16 dX5_restore_26 (cM_H rfl) rfl ?_
  refine g_callV_v (kX4_become (Y := Y3) (b := 9) (o := 36) sb9 sb36 w9.1.1 w9.2.1 w36 (Or.inl (by omega))) oX4_become pX4_become lX5_204 dX5_restore_29 rfl (cM_S rfl) rfl rfl rfl (Nat.le_of_ble_eq_true rfl) (Nat.le_of_ble_eq_true rfl) (by decide) (fun M' h' => ?_)
  obtain ⟨Y4, rfl, h4⟩ := h'
  have e10 : Y4 10 1 = Y 37 1 := (h4.2.2.1.1).trans (by show Y3 37 1 = Y 37 1; rw [svRel_k hR hB h6 (by omega) (by omega) (by omega)])
  have e20 : Y4 20 1 = Y 47 1 := (h4.2.2.1.2).trans (by show Y3 47 1 = Y 47 1; rw [svRel_k hR hB h6 (by omega) (by omega) (by omega)])
  refine g_aload_n dX5_restore_32 rfl ?_
  refine g_get fX5_10 dX5_restore_33 (cM_H rfl) rfl ?_
  refine g_get fX5_60 dX5_restore_36 (cM_S rfl) rfl ?_
  refine g_get fX5_212 dX5_restore_39 (cM_R rfl) rfl ?_
  refine g_aload_n dX5_restore_42 rfl ?_
  refine g_get fX5_10 dX5_restore_43 (cM_H rfl) rfl ?_
  refine g_get fX5_112 dX5_restore_46 (cM_S rfl) rfl ?_
  refine g_get fX5_212 dX5_restore_49 (cM_R rfl) rfl ?_
  refine g_iadd_n dX5_restore_52 ?_
  refine g_ireturn dX5_restore_53 rfl rfl ⟨rfl, ?_, Y3, Y4, hR, h4, rfl⟩
  rw [show Y4 (9 + 1) 1 = Y 37 1 from e10, show Y4 (9 + 11) 1 = Y 47 1 from e20]
end REST
