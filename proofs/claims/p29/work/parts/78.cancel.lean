/-! the class: cancel -/
def ccY (Y3 : Nat → Nat → Nat) (r i : Nat) : Nat → Nat → Nat := uA (uA (uA Y3 9 (uN (Y3 9) 5 (Y3 9 5 + Y3 (Y3 (r + 1) i) 6 * bc12 (Y3 (Y3 (r + 1) i) 9)))) (r + 1) (rmA (Y3 (r + 1)) i (Y3 r 1))) r (uN (Y3 r) 1 (Y3 r 1 - 1))
def rlN (b : Bool) : Nat := bif b then 10 else 20
section CANC
variable {M M0 : zM} {Y : Nat → Nat → Nat}
theorem cc0 (b : Bool) {v : Int32} {kc ks : Nat} (F : zP) (hF : G mX5_cancel 8 kc ks none 22 [(0, .ref 8), (2, .int v), (3, .ref (rlN b))] [] (cM M0 Y) F) : Cn mX5_cancel 8 kc ks none [.ref 8, .int (nI b.toNat), .int v] (cM M0 Y) F := by
  refine g_iload_n dX5_cancel_0 rfl ?_
  refine g_if_eq_b (tgt := 14) dX5_cancel_1 (by decide) (fun h1 => ?_) (fun h1 => ?_)
  · subst h1
    refine g_aload_n dX5_cancel_14 rfl ?_
    refine g_get fX5_10 dX5_cancel_15 (cM_H rfl) rfl ?_
    refine g_get fX5_112 dX5_cancel_18 (cM_S rfl) rfl ?_
    refine g_astore_n dX5_cancel_21 (by decide) ?_
    exact g_loc rfl hF
  · subst h1
    refine g_aload_n dX5_cancel_4 rfl ?_
    refine g_get fX5_10 dX5_cancel_5 (cM_H rfl) rfl ?_
    refine g_get fX5_60 dX5_cancel_8 (cM_S rfl) rfl ?_
    refine g_goto (tgt := 21) dX5_cancel_11 (by decide) ?_
    refine g_astore_n dX5_cancel_21 (by decide) ?_
    exact g_loc rfl hF
theorem kX5_cancel1 (b : Bool) (v : Int32) (h : zin v (nI 0) (nI (Y (rlN b) 1) - nI 1) = false) : Cn mX5_cancel 8 1 6 none [.ref 8, .int (nI b.toNat), .int v] (cM M0 Y) (zt eB (fun M' => M' = cM M0 Y)) := by
  refine cc0 b _ ?_
  refine g_aload_n dX5_cancel_22 rfl ?_
  refine g_iload_n dX5_cancel_23 rfl ?_
  cases b
  · exact g_callS_t rfl (kX5_needLet1 (r := 20) rfl h) oX5_needLet pX5_needLet lX5_115 dX5_cancel_24 rfl rfl (Nat.le_of_ble_eq_true rfl) (Nat.le_of_ble_eq_true rfl) (by decide) (by decide) (by decide) (fun M1 h1 => ⟨rfl, rfl, h1⟩)
  · exact g_callS_t rfl (kX5_needLet1 (r := 10) rfl h) oX5_needLet pX5_needLet lX5_115 dX5_cancel_24 rfl rfl (Nat.le_of_ble_eq_true rfl) (Nat.le_of_ble_eq_true rfl) (by decide) (by decide) (by decide) (fun M1 h1 => ⟨rfl, rfl, h1⟩)
theorem cc1 {r n : Nat} (hr : rl r n) (hrr : (r = 10 ∧ n = 8) ∨ (r = 20 ∧ n = 12)) (hw : wS Y 9) (hwr : wR Y r n) (hB : wB Y) (h6 : Y 8 4 ≤ 6) {i : Nat} (hi : i < Y r 1) (hz : zin (nI i) (nI 0) (nI (Y r 1) - nI 1) = true) : G mX5_cancel 8 0 0 none 22 [(0, .ref 8), (2, .int (nI i)), (3, .ref r)] [] (cM M0 Y) (zi (nI (Y (Y (r + 1) i) 6 * bc12 (Y (Y (r + 1) i) 9))) (fun M' => ∃ Y3, svRel Y Y3 ∧ M' = cM M0 (ccY Y3 r i))) := by
  have hn := hwr.2.1
  have hk : kq (Y (r + 1) i) = 1 := rl_k hr hwr.1 (by omega)
  have hp : r + 2 ≤ Y (r + 1) i ∧ Y (r + 1) i < r + 2 + n := hwr.1.1 i (by omega)
  refine g_aload_n dX5_cancel_22 rfl ?_
  refine g_iload_n dX5_cancel_23 rfl ?_
  refine g_callS_v (kX5_needLet hr.1 hz) oX5_needLet pX5_needLet lX5_115 dX5_cancel_24 rfl rfl (Nat.le_of_ble_eq_true rfl) (Nat.le_of_ble_eq_true rfl) (by decide) (fun M' h' => ?_)
  subst h'
  refine g_aload_n dX5_cancel_27 rfl ?_
  refine g_callV_v (kX5_saveState hB hw h6) oX5_saveState pX5_saveState lX5_87 dX5_cancel_28 rfl (cM_H rfl) rfl rfl rfl (Nat.le_of_ble_eq_true rfl) (Nat.le_of_ble_eq_true rfl) (by decide) (fun M' h' => ?_)
  obtain ⟨Y2, rfl, h3⟩ := h'
  have hR : svRel Y (uA Y2 8 (uN (Y2 8) 4 (Y2 8 4 + 1))) := ⟨Y2, rfl, h3⟩
  generalize uA Y2 8 (uN (Y2 8) 4 (Y2 8 4 + 1)) = Y3 at hR
  have e3 : ∀ q, 9 ≤ q → q < 36 → Y3 q = Y q := fun q a1 a2 => svRel_k hR hB h6 (by omega) (by omega) (by omega)
  have er : Y3 r = Y r := e3 r (by omega) (by omega)
  have er1 : Y3 (r + 1) = Y (r + 1) := e3 _ (by omega) (by omega)
  have ea : Y3 (Y (r + 1) i) = Y (Y (r + 1) i) := e3 _ (by omega) (by omega)
  refine g_aload_n dX5_cancel_31 rfl ?_
  refine g_get fX5_119 dX5_cancel_32 (cM_R hr.1) rfl ?_
  refine g_iload_n dX5_cancel_35 rfl ?_
  refine g_cwl dX5_cancel_36 hr.2.1 (by omega) ?_
  rw [er1]
  refine g_callV_i (kX1_rentsInAll hk (by rw [ea]; exact hwr.2.2 i hi)) oX1_rentsInAll pX1_rentsInAll lX5_123 dX5_cancel_37 rfl (cM_L hk) rfl rfl rfl (Nat.le_of_ble_eq_true rfl) (Nat.le_of_ble_eq_true rfl) (by decide) (fun M' h' => ?_)
  subst h'
  refine g_istore dX5_cancel_40 (by decide) ?_
  refine g_aload_n dX5_cancel_42 rfl ?_
  refine g_get fX5_10 dX5_cancel_43 (cM_H rfl) rfl ?_
  refine g_dup dX5_cancel_46 rfl ?_
  refine g_get fX5_126 dX5_cancel_47 (cM_S rfl) rfl ?_
  refine g_iload dX5_cancel_50 rfl ?_
  refine g_iadd_n dX5_cancel_52 ?_
  refine g_cpS fX5_126 dX5_cancel_53 rfl (by decide) ?_
  refine g_aload_n dX5_cancel_56 rfl ?_
  refine g_iload_n dX5_cancel_57 rfl ?_
  generalize hY4 : uA Y3 9 (uN (Y3 9) 5 (Y3 9 5 + Y3 (Y (r + 1) i) 6 * bc12 (Y3 (Y (r + 1) i) 9))) = Y4
  have g4 : ∀ q, q ≠ 9 → Y4 q = Y3 q := fun q hq => by rw [← hY4, uA_n _ _ hq]
  have gr : Y4 r = Y r := (g4 r (by omega)).trans er
  have gr1 : Y4 (r + 1) = Y (r + 1) := (g4 _ (by omega)).trans er1
  refine g_callV_v (kX3_remove (Y := Y4) hr (by unfold rP; rw [gr1]; exact hwr.1) (by rw [gr]; exact hn) (i := i) (by rw [gr]; exact hi)) oX3_remove pX3_remove lX5_129 dX5_cancel_58 rfl (cM_R hr.1) rfl rfl rfl (Nat.le_of_ble_eq_true rfl) (Nat.le_of_ble_eq_true rfl) (by decide) (fun M' h' => ?_)
  subst h'
  refine g_iload dX5_cancel_61 rfl ?_
  refine g_ireturn dX5_cancel_63 rfl rfl ⟨rfl, ?_, Y3, hR, ?_⟩
  · rw [ea]
  · rw [ccY, er1, hY4, gr1, gr, er]
theorem kX5_cancel (b : Bool) (hw : wS Y 9) (hB : wB Y) (h6 : Y 8 4 ≤ 6) {i : Nat} (hi : i < Y (rlN b) 1) (hz : zin (nI i) (nI 0) (nI (Y (rlN b) 1) - nI 1) = true) : Cn mX5_cancel 8 0 0 none [.ref 8, .int (nI b.toNat), .int (nI i)] (cM M0 Y) (zi (nI (Y (Y (rlN b + 1) i) 6 * bc12 (Y (Y (rlN b + 1) i) 9))) (fun M' => ∃ Y3, svRel Y Y3 ∧ M' = cM M0 (ccY Y3 (rlN b) i))) := by
  refine cc0 b _ ?_
  cases b
  · exact cc1 (n := 12) sb9.2.2.1 (Or.inr ⟨rfl, rfl⟩) hw hw.2 hB h6 hi hz
  · exact cc1 (n := 8) sb9.2.1 (Or.inl ⟨rfl, rfl⟩) hw hw.1 hB h6 hi hz
end CANC
