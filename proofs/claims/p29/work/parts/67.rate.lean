/-! the class: rate -/
def svRel (Y Y3 : Nat → Nat → Nat) : Prop := ∃ Y2, Y3 = uA Y2 8 (uN (Y2 8) 4 (Y2 8 4 + 1)) ∧ bcm (svR Y) Y2 (svR Y 63 (svR Y 8 4)) 9
theorem svRel_k {Y Y3 : Nat → Nat → Nat} (h : svRel Y Y3) (hB : wB Y) (h6 : Y 8 4 ≤ 6) {q : Nat} (h8 : q ≠ 8) (h63 : q ≠ 63) (h71 : q < 71) : Y3 q = Y q := by
  obtain ⟨Y2, rfl, h2⟩ := h
  obtain ⟨-, s2, -⟩ := wB_sb (svR_B hB) (svR_4 h6).1
  rw [uA_n _ _ h8, h2.1 q (by omega), svR_o Y h8 h63]
section RATE
variable {M M0 : zM} {Y : Nat → Nat → Nat}
theorem kX5_rate1 (v r : Int32) (h : zin v (nI 0) (nI 2) = false) : Cn mX5_rate 8 1 6 none [.ref 8, .int v, .int r] M (zt eB (fun M' => M' = M)) := by
  refine g_iload_n dX5_rate_0 rfl ?_
  exact g_callS_t rfl (kX5_needHall1 h) oX5_needHall pX5_needHall lX5_44 dX5_rate_1 rfl rfl (Nat.le_of_ble_eq_true rfl) (Nat.le_of_ble_eq_true rfl) (by decide) (by decide) (by decide) (fun M1 h1 => ⟨rfl, rfl, h1⟩)
theorem kX5_rate2 (v r : Int32) (h : zin v (nI 0) (nI 2) = true) (h2 : zin r (nI 100) (nI 5000) = false) : Cn mX5_rate 8 1 6 none [.ref 8, .int v, .int r] M (zt eA (fun M' => M' = M)) := by
  refine g_iload_n dX5_rate_0 rfl ?_
  refine g_callS_v (kX5_needHall h) oX5_needHall pX5_needHall lX5_44 dX5_rate_1 rfl rfl (Nat.le_of_ble_eq_true rfl) (Nat.le_of_ble_eq_true rfl) (by decide) (fun M' h' => ?_)
  subst h'
  refine g_iload_n dX5_rate_4 rfl ?_
  refine g_bipush (v := nI 100) dX5_rate_5 (by decide) ?_
  refine g_sipush (v := nI 5000) dX5_rate_7 (by decide) ?_
  refine g_callS_i (kX5_isIn r (nI 100) (nI 5000)) oX5_isIn pX5_isIn lX5_48 dX5_rate_10 rfl rfl (Nat.le_of_ble_eq_true rfl) (Nat.le_of_ble_eq_true rfl) (by decide) (fun M' h' => ?_)
  subst h'
  rw [h2]
  exact g_callS_t rfl (kX5_need1) oX5_need pX5_need lX5_52 dX5_rate_13 rfl rfl (Nat.le_of_ble_eq_true rfl) (Nat.le_of_ble_eq_true rfl) (by decide) (by decide) (by decide) (fun M1 h1 => ⟨rfl, rfl, h1⟩)
theorem kX5_rate (hB : wB Y) (hw : wS Y 9) (h6 : Y 8 4 ≤ 6) {h r : Nat} (hh : h ≤ 2) (hr : 100 ≤ r) (hr2 : r ≤ 5000) : Cn mX5_rate 8 0 0 none [.ref 8, .int (nI h), .int (nI r)] (cM M0 Y) (zi (nI (Y 34 h)) (fun M' => ∃ Y3, svRel Y Y3 ∧ M' = cM M0 (uA Y3 34 (uN (Y3 34) h r)))) := by
  refine g_iload_n dX5_rate_0 rfl ?_
  refine g_callS_v (kX5_needHall (zin_t (by omega) hh (by decide))) oX5_needHall pX5_needHall lX5_44 dX5_rate_1 rfl rfl (Nat.le_of_ble_eq_true rfl) (Nat.le_of_ble_eq_true rfl) (by decide) (fun M' h' => ?_)
  subst h'
  refine g_iload_n dX5_rate_4 rfl ?_
  refine g_bipush (v := nI 100) dX5_rate_5 (by decide) ?_
  refine g_sipush (v := nI 5000) dX5_rate_7 (by decide) ?_
  refine g_callS_i (kX5_isIn (nI r) (nI 100) (nI 5000)) oX5_isIn pX5_isIn lX5_48 dX5_rate_10 rfl rfl (Nat.le_of_ble_eq_true rfl) (Nat.le_of_ble_eq_true rfl) (by decide) (fun M' h' => ?_)
  subst h'
  rw [zin_t hr hr2 (by decide)]
  refine g_callS_v (kX5_need) oX5_need pX5_need lX5_52 dX5_rate_13 rfl rfl (Nat.le_of_ble_eq_true rfl) (Nat.le_of_ble_eq_true rfl) (by decide) (fun M' h' => ?_)
  subst h'
  refine g_aload_n dX5_rate_16 rfl ?_
  refine g_callV_v (kX5_saveState hB hw h6) oX5_saveState pX5_saveState lX5_87 dX5_rate_17 rfl (cM_H rfl) rfl rfl rfl (Nat.le_of_ble_eq_true rfl) (Nat.le_of_ble_eq_true rfl) (by decide) (fun M' h' => ?_)
  obtain ⟨Y2, rfl, h2⟩ := h'
  have hR : svRel Y (uA Y2 8 (uN (Y2 8) 4 (Y2 8 4 + 1))) := ⟨Y2, rfl, h2⟩
  generalize hY3 : uA Y2 8 (uN (Y2 8) 4 (Y2 8 4 + 1)) = Y3 at hR
  have e34 : Y3 34 = Y 34 := svRel_k hR hB h6 (by omega) (by omega) (by omega)
  refine g_aload_n dX5_rate_20 rfl ?_
  refine g_get fX5_10 dX5_rate_21 (cM_H rfl) rfl ?_
  refine g_get fX5_144 dX5_rate_24 (cM_S rfl) rfl ?_
  refine g_iload_n dX5_rate_27 rfl ?_
  refine g_cil dX5_rate_28 kI_rates (by omega) ?_
  refine g_istore_n dX5_rate_29 (by decide) ?_
  refine g_aload_n dX5_rate_30 rfl ?_
  refine g_get fX5_10 dX5_rate_31 (cM_H rfl) rfl ?_
  refine g_get fX5_144 dX5_rate_34 (cM_S rfl) rfl ?_
  refine g_iload_n dX5_rate_37 rfl ?_
  refine g_iload_n dX5_rate_38 rfl ?_
  refine g_cia dX5_rate_39 kI_rates (by omega) ?_
  refine g_iload_n dX5_rate_40 rfl ?_
  refine g_ireturn dX5_rate_41 rfl rfl ⟨rfl, ?_, Y3, hR, rfl⟩
  show _ = _
  rw [show Y3 (9 + 25) h = Y 34 h by show Y3 34 h = Y 34 h; rw [e34]]
end RATE
