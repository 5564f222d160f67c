/-! the class: append, clearBuffer, firstError -/
section BUF
variable {M M0 : zM} {Y : Nat → Nat → Nat}
theorem kX5_append1 (v : Int32) (h : zin v (nI 33) (nI 126) = false) : Cn mX5_append 8 1 6 none [.ref 8, .int v] M (zt eA (fun M' => M' = M)) := by
  refine g_iload_n dX5_append_0 rfl ?_
  refine g_bipush (v := nI 33) dX5_append_1 (by decide) ?_
  refine g_bipush (v := nI 126) dX5_append_3 (by decide) ?_
  refine g_callS_i (kX5_isIn v (nI 33) (nI 126)) oX5_isIn pX5_isIn lX5_48 dX5_append_5 rfl rfl (Nat.le_of_ble_eq_true rfl) (Nat.le_of_ble_eq_true rfl) (by decide) (fun M' h' => ?_)
  subst h'
  rw [h]
  exact g_callS_t rfl (kX5_need1) oX5_need pX5_need lX5_52 dX5_append_8 rfl rfl (Nat.le_of_ble_eq_true rfl) (Nat.le_of_ble_eq_true rfl) (by decide) (by decide) (by decide) (fun M1 h1 => ⟨rfl, rfl, h1⟩)
theorem kX5_append2 {c : Nat} (h1 : 33 ≤ c) (h2 : c ≤ 126) (hl : Y 64 1 = 60) : Cn mX5_append 8 1 6 none [.ref 8, .int (nI c)] (cM M0 Y) (zt eS (fun M' => M' = cM M0 Y)) := by
  refine g_iload_n dX5_append_0 rfl ?_
  refine g_bipush (v := nI 33) dX5_append_1 (by decide) ?_
  refine g_bipush (v := nI 126) dX5_append_3 (by decide) ?_
  refine g_callS_i (kX5_isIn (nI c) (nI 33) (nI 126)) oX5_isIn pX5_isIn lX5_48 dX5_append_5 rfl rfl (Nat.le_of_ble_eq_true rfl) (Nat.le_of_ble_eq_true rfl) (by decide) (fun M' h' => ?_)
  subst h'
  rw [zin_t h1 h2 (by decide)]
  refine g_callS_v (kX5_need) oX5_need pX5_need lX5_52 dX5_append_8 rfl rfl (Nat.le_of_ble_eq_true rfl) (Nat.le_of_ble_eq_true rfl) (by decide) (fun M' h' => ?_)
  subst h'
  refine g_aload_n dX5_append_11 rfl ?_
  refine g_get fX5_26 dX5_append_12 (cM_H rfl) rfl ?_
  refine g_callV_i (kX2_isFull (by omega)) oX2_isFull pX2_isFull lX5_165 dX5_append_15 rfl (cM_T rfl) rfl rfl rfl (Nat.le_of_ble_eq_true rfl) (Nat.le_of_ble_eq_true rfl) (by decide) (fun M' h' => ?_)
  subst h'
  rw [show decide (Y 64 1 = 60) = true by simp [hl]]
  refine g_if_eq_b (tgt := 31) dX5_append_18 (by decide) (fun h3 => ?_) (fun h3 => ?_)
  · cases h3
  · exact g_throw rfl rfl zTh_ISE (text := "the buffer is full") (is := 166) (by decide) dX5_append_21 dX5_append_24 dX5_append_25 dX5_append_27 dX5_append_30 (by decide) (by decide) (by decide) (by decide) ⟨rfl, rfl, rfl⟩
theorem kX5_append {c : Nat} (h1 : 33 ≤ c) (h2 : c ≤ 126) (hl : Y 64 1 < 60) : Cn mX5_append 8 0 0 none [.ref 8, .int (nI c)] (cM M0 Y) (zi (nI (Y 64 1 + 1)) (fun M' => M' = cM M0 (uA (uA Y 65 (uN (Y 65) (Y 64 1) c)) 64 (uN (Y 64) 1 (Y 64 1 + 1))))) := by
  refine g_iload_n dX5_append_0 rfl ?_
  refine g_bipush (v := nI 33) dX5_append_1 (by decide) ?_
  refine g_bipush (v := nI 126) dX5_append_3 (by decide) ?_
  refine g_callS_i (kX5_isIn (nI c) (nI 33) (nI 126)) oX5_isIn pX5_isIn lX5_48 dX5_append_5 rfl rfl (Nat.le_of_ble_eq_true rfl) (Nat.le_of_ble_eq_true rfl) (by decide) (fun M' h' => ?_)
  subst h'
  rw [zin_t h1 h2 (by decide)]
  refine g_callS_v (kX5_need) oX5_need pX5_need lX5_52 dX5_append_8 rfl rfl (Nat.le_of_ble_eq_true rfl) (Nat.le_of_ble_eq_true rfl) (by decide) (fun M' h' => ?_)
  subst h'
  refine g_aload_n dX5_append_11 rfl ?_
  refine g_get fX5_26 dX5_append_12 (cM_H rfl) rfl ?_
  refine g_callV_i (kX2_isFull (by omega)) oX2_isFull pX2_isFull lX5_165 dX5_append_15 rfl (cM_T rfl) rfl rfl rfl (Nat.le_of_ble_eq_true rfl) (Nat.le_of_ble_eq_true rfl) (by decide) (fun M' h' => ?_)
  subst h'
  rw [show decide (Y 64 1 = 60) = false by simp; omega]
  refine g_if_eq_b (tgt := 31) dX5_append_18 (by decide) (fun h3 => ?_) (fun h3 => ?_)
  rotate_left
  · cases h3
  refine g_aload_n dX5_append_31 rfl ?_
  refine g_get fX5_26 dX5_append_32 (cM_H rfl) rfl ?_
  refine g_iload_n dX5_append_35 rfl ?_
  refine g_callV_v (kX2_push hl c) oX2_push pX2_push lX5_168 dX5_append_36 rfl (cM_T rfl) rfl rfl rfl (Nat.le_of_ble_eq_true rfl) (Nat.le_of_ble_eq_true rfl) (by decide) (fun M' h' => ?_)
  subst h'
  refine g_aload_n dX5_append_39 rfl ?_
  refine g_get fX5_26 dX5_append_40 (cM_H rfl) rfl ?_
  refine g_get fX5_171 dX5_append_43 (cM_T rfl) rfl ?_
  refine g_ireturn dX5_append_46 rfl rfl ⟨rfl, ?_, rfl⟩
  rw [uA_s, uN_s]
theorem kX5_clearBuffer : Cn mX5_clearBuffer 8 0 0 none [.ref 8] (cM M0 Y) (zi (nI (Y 64 1)) (fun M' => M' = cM M0 (uA Y 64 (uN (Y 64) 1 0)))) := by
  refine g_aload_n dX5_clearBuffer_0 rfl ?_
  refine g_get fX5_26 dX5_clearBuffer_1 (cM_H rfl) rfl ?_
  refine g_get fX5_171 dX5_clearBuffer_4 (cM_T rfl) rfl ?_
  refine g_istore_n dX5_clearBuffer_7 (by decide) ?_
  refine g_aload_n dX5_clearBuffer_8 rfl ?_
  refine g_get fX5_26 dX5_clearBuffer_9 (cM_H rfl) rfl ?_
  refine g_iconst (v := nI 0) dX5_clearBuffer_12 (by decide) ?_
  refine g_cpT fX5_171 dX5_clearBuffer_13 rfl (by decide) ?_
  refine g_iload_n dX5_clearBuffer_16 rfl ?_
  exact g_ireturn dX5_clearBuffer_17 rfl rfl ⟨rfl, rfl, rfl⟩
theorem kX5_firstError (hT : wT Y) (hN : wN Y) : Cn mX5_firstError 8 0 0 none [.ref 8] (cM M0 Y) (zi (nI (fbA Y).1) (fun M' => M' = cM M0 (tY Y (fbA Y).2))) := by
  refine g_aload_n dX5_firstError_0 rfl ?_
  refine g_get fX5_26 dX5_firstError_1 (cM_H rfl) rfl ?_
  refine g_callV_i (kX2_firstBadIndex hT hN) oX2_firstBadIndex pX2_firstBadIndex lX5_174 dX5_firstError_4 rfl (cM_T rfl) rfl rfl rfl (Nat.le_of_ble_eq_true rfl) (Nat.le_of_ble_eq_true rfl) (by decide) (fun M' h' => ?_)
  exact g_ireturn dX5_firstError_7 rfl rfl ⟨rfl, rfl, h'⟩
end BUF
