/-! the class: undo, restore -/
section UNDO
variable {M M0 : zM} {Y : Nat → Nat → Nat}
theorem kX5_undo0 (h : Y 8 4 = 0) : Cn mX5_undo 8 1 6 none [.ref 8] (cM M0 Y) (zt eS (fun M' => M' = cM M0 Y)) := by
  refine g_aload_n dX5_undo_0 rfl ?_
  refine g_get fX5_199 dX5_undo_1 (cM_H rfl) rfl ?_
  refine g_iconst (v := nI 1) dX5_undo_4 (by decide) ?_
  refine g_icmp_ge_n (tgt := 18) dX5_undo_5 (by decide) (by omega) (by omega) (fun h1 => ?_) (fun h1 => ?_)
  · omega
  · exact g_throw rfl rfl zTh_ISE (text := "no state is saved") (is := 202) (by decide) dX5_undo_8 dX5_undo_11 dX5_undo_12 dX5_undo_14 dX5_undo_17 (by decide) (by decide) (by decide) (by decide) ⟨rfl, rfl, rfl⟩
theorem wS_u {Y : Nat → Nat → Nat} {b : Nat} (hb : 9 ≤ b) (hw : wS Y b) (f : Nat → Nat) : wS (uA Y 8 f) b := by
  have hs1 := hw.1.2.1
  have hs2 := hw.2.2.1
  have e : ∀ a, 9 ≤ a → uA Y 8 f a = Y a := fun a ha => uA_n _ _ (by omega)
  refine ⟨⟨?_, by rw [e _ (by omega)]; exact hs1, fun i hi => ?_⟩, ?_, by rw [e _ (by omega)]; exact hs2, fun i hi => ?_⟩
  · unfold rP; rw [e _ (by omega)]; exact hw.1.1
  · rw [e _ (by omega)] at hi
    have hp := hw.1.1.1 i (by omega)
    rw [rV, e (b + 1 + 1) (by omega), e _ (by omega)]
    exact hw.1.2.2 i hi
  · unfold rP; rw [e _ (by omega)]; exact hw.2.1
  · rw [e _ (by omega)] at hi
    have hp := hw.2.1.1 i (by omega)
    rw [rV, e (b + 11 + 1) (by omega), e _ (by omega)]
    exact hw.2.2.2 i hi
theorem kX5_undo {s : Nat} (hs : Y 8 4 = s + 1) (h6 : s < 6) (hw : wS Y 9) (hb : sb (Y 63 s)) (h71 : 71 ≤ Y 63 s) (hwS : wS Y (Y 63 s)) : Cn mX5_undo 8 0 0 none [.ref 8] (cM M0 Y) (zi (nI s) (fun M' => ∃ Y2, M' = cM M0 Y2 ∧ bcm (uA Y 8 (uN (Y 8) 4 s)) Y2 9 (Y 63 s))) := by
  refine g_aload_n dX5_undo_0 rfl ?_
  refine g_get fX5_199 dX5_undo_1 (cM_H rfl) rfl ?_
  refine g_iconst (v := nI 1) dX5_undo_4 (by decide) ?_
  refine g_icmp_ge_n (tgt := 18) dX5_undo_5 (by decide) (by omega) (by omega) (fun h1 => ?_) (fun h1 => ?_)
  rotate_left
  · omega
  refine g_aload_n dX5_undo_18 rfl ?_
  refine g_dup dX5_undo_19 rfl ?_
  refine g_get fX5_199 dX5_undo_20 (cM_H rfl) rfl ?_
  refine g_iconst (v := nI 1) dX5_undo_23 (by decide) ?_
  rw [hs]
  refine g_isub_n dX5_undo_24 (by omega) ?_
  rw [Nat.add_sub_cancel]
  refine g_cpH fX5_199 dX5_undo_25 rfl ?_
  have e63 : uA Y 8 (uN (Y 8) 4 s) 63 = Y 63 := uA_n _ _ (by omega)
  have e8 : uA Y 8 (uN (Y 8) 4 s) 8 4 = s := by rw [uA_s, uN_s]
  have hw9 := wS_u (f := uN (Y 8) 4 s) (Nat.le_refl 9) hw
  have hwb := wS_u (f := uN (Y 8) 4 s) (show 9 ≤ Y 63 s by omega) hwS
  generalize hY1 : uA Y 8 (uN (Y 8) 4 s) = Y1 at e63 e8 hw9 hwb
  refine g_aload_n dX5_undo_28 rfl ?_
  refine g_get fX5_10 dX5_undo_29 (cM_H rfl) rfl ?_
  refine g_aload_n dX5_undo_32 rfl ?_
  refine g_get fX5_19 dX5_undo_33 (cM_H rfl) rfl ?_
  refine g_aload_n dX5_undo_36 rfl ?_
  refine g_get fX5_199 dX5_undo_37 (cM_H rfl) rfl ?_
  rw [e8]
  refine g_csl dX5_undo_40 h6 ?_
  rw [e63]
  refine g_callV_v (kX4_become (Y := Y1) (b := 9) (o := Y 63 s) sb9 hb hw9.1.1 hw9.2.1 hwb (Or.inl (by omega))) oX4_become pX4_become lX5_204 dX5_undo_41 rfl (cM_S rfl) rfl rfl rfl (Nat.le_of_ble_eq_true rfl) (Nat.le_of_ble_eq_true rfl) (by decide) (fun M' h' => ?_)
  obtain ⟨Y2, rfl, h2⟩ := h'
  have e82 : Y2 8 4 = s := by rw [h2.1 8 (by omega)]; exact e8
  refine g_aload_n dX5_undo_44 rfl ?_
  refine g_get fX5_199 dX5_undo_45 (cM_H rfl) rfl ?_
  rw [e82]
  exact g_ireturn dX5_undo_48 rfl rfl ⟨rfl, rfl, Y2, rfl, h2⟩
theorem kX5_restore0 (h : Y 8 2 = 0) : Cn mX5_restore 8 1 6 none [.ref 8] (cM M0 Y) (zt eS (fun M' => M' = cM M0 Y)) := by
  refine g_aload_n dX5_restore_0 rfl ?_
  refine g_get fX5_208 dX5_restore_1 (cM_H rfl) rfl ?_
  rw [h]
  refine g_if_ne_n (tgt := 17) dX5_restore_4 (by decide) (by omega) (fun h1 => ?_) (fun h1 => ?_)
  · exact absurd rfl h1
  · exact g_throw rfl rfl zTh_ISE (text := "there is no snapshot") (is := 215) (by decide) dX5_restore_7 dX5_restore_10 dX5_restore_11 dX5_restore_13 dX5_restore_16 (by decide) (by decide) (by decide) (by decide) ⟨rfl, rfl, rfl⟩
end UNDO
