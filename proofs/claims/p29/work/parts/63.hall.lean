/-! the class: hallOf, tenant -/
theorem taV_c {V V' : Nat → Nat → Nat} {h hr : Nat} : ∀ (l : List Nat), (∀ a ∈ l, V a = V' a) → taV V h hr l = taV V' h hr l
  | [], _ => rfl
  | a :: l, h1 => by simp only [taV, h1 a List.mem_cons_self, taV_c l (fun b hb => h1 b (List.mem_cons_of_mem _ hb))]
theorem smL_c {V V' : Nat → Nat → Nat} {h w : Nat} : ∀ (l : List Nat), (∀ a ∈ l, V a = V' a) → smL V h w l = smL V' h w l
  | [], _ => rfl
  | a :: l, h1 => by simp only [smL, h1 a List.mem_cons_self, smL_c l (fun b hb => h1 b (List.mem_cons_of_mem _ hb))]
theorem hwV_c {V V' : Nat → Nat → Nat} {h : Nat} {l : List Nat} (h1 : ∀ a ∈ l, V a = V' a) : ∀ k, hwV V h l k = hwV V' h l k
  | 0 => rfl
  | k + 1 => by simp only [hwV, taV_c l h1, hwV_c h1 k]
def hoC (Y : Nat → Nat → Nat) (h day w : Nat) : Int32 := if w = 0 then nI (smL Y h 0 (opL Y 9 day)) else if w = 1 then nI 24 - nI (smL Y h 3 (opL Y 9 day)) else if w = 2 then nI (hwV Y h (opL Y 9 day) 24) else nI (smL Y h 2 (opL Y 9 day))
section HALL
variable {M M0 : zM} {Y : Nat → Nat → Nat}
theorem kX5_hallOf1 (v d w : Int32) (h : zin v (nI 0) (nI 2) = false) : Cn mX5_hallOf 8 1 6 none [.ref 8, .int v, .int d, .int w] M (zt eB (fun M' => M' = M)) := by
  refine g_iload_n dX5_hallOf_0 rfl ?_
  exact g_callS_t rfl (kX5_needHall1 h) oX5_needHall pX5_needHall lX5_44 dX5_hallOf_1 rfl rfl (Nat.le_of_ble_eq_true rfl) (Nat.le_of_ble_eq_true rfl) (by decide) (by decide) (by decide) (fun M1 h1 => ⟨rfl, rfl, h1⟩)
theorem kX5_hallOf2 (v d w : Int32) (h : zin v (nI 0) (nI 2) = true) (h2 : (zin d (nI 0) (nI 83) && zin w (nI 0) (nI 3)) = false) : Cn mX5_hallOf 8 1 6 none [.ref 8, .int v, .int d, .int w] M (zt eA (fun M' => M' = M)) := by
  refine g_iload_n dX5_hallOf_0 rfl ?_
  refine g_callS_v (kX5_needHall h) oX5_needHall pX5_needHall lX5_44 dX5_hallOf_1 rfl rfl (Nat.le_of_ble_eq_true rfl) (Nat.le_of_ble_eq_true rfl) (by decide) (fun M' h' => ?_)
  subst h'
  refine g_iload_n dX5_hallOf_4 rfl ?_
  cases hd : zin d (nI 0) (nI 83)
  · exact g_callS_t rfl (kX5_needDay1 hd) oX5_needDay pX5_needDay lX5_97 dX5_hallOf_5 rfl rfl (Nat.le_of_ble_eq_true rfl) (Nat.le_of_ble_eq_true rfl) (by decide) (by decide) (by decide) (fun M1 h1 => ⟨rfl, rfl, h1⟩)
  refine g_callS_v (kX5_needDay hd) oX5_needDay pX5_needDay lX5_97 dX5_hallOf_5 rfl rfl (Nat.le_of_ble_eq_true rfl) (Nat.le_of_ble_eq_true rfl) (by decide) (fun M' h' => ?_)
  subst h'
  refine g_iload_n dX5_hallOf_8 rfl ?_
  refine g_iconst (v := nI 0) dX5_hallOf_9 (by decide) ?_
  refine g_iconst (v := nI 3) dX5_hallOf_10 (by decide) ?_
  refine g_callS_i (kX5_isIn w (nI 0) (nI 3)) oX5_isIn pX5_isIn lX5_48 dX5_hallOf_11 rfl rfl (Nat.le_of_ble_eq_true rfl) (Nat.le_of_ble_eq_true rfl) (by decide) (fun M' h' => ?_)
  subst h'
  rw [show zin w (nI 0) (nI 3) = false by simpa [hd] using h2]
  exact g_callS_t rfl (kX5_need1) oX5_need pX5_need lX5_52 dX5_hallOf_14 rfl rfl (Nat.le_of_ble_eq_true rfl) (Nat.le_of_ble_eq_true rfl) (by decide) (by decide) (by decide) (fun M1 h1 => ⟨rfl, rfl, h1⟩)
theorem kX5_hallOf (hw : wS Y 9) {h day w : Nat} (hh : h ≤ 2) (hd : day < 84) (hw3 : w ≤ 3) : Cn mX5_hallOf 8 0 0 none [.ref 8, .int (nI h), .int (nI day), .int (nI w)] (cM M0 Y) (zi (hoC Y h day w) (fun M' => ∃ Y', M' = cM M0 Y' ∧ scr Y Y')) := by
  refine g_iload_n dX5_hallOf_0 rfl ?_
  refine g_callS_v (kX5_needHall (zin_t (by omega) hh (by decide))) oX5_needHall pX5_needHall lX5_44 dX5_hallOf_1 rfl rfl (Nat.le_of_ble_eq_true rfl) (Nat.le_of_ble_eq_true rfl) (by decide) (fun M' h' => ?_)
  subst h'
  refine g_iload_n dX5_hallOf_4 rfl ?_
  refine g_callS_v (kX5_needDay (zin_t (by omega) (by omega) (by decide))) oX5_needDay pX5_needDay lX5_97 dX5_hallOf_5 rfl rfl (Nat.le_of_ble_eq_true rfl) (Nat.le_of_ble_eq_true rfl) (by decide) (fun M' h' => ?_)
  subst h'
  refine g_iload_n dX5_hallOf_8 rfl ?_
  refine g_iconst (v := nI 0) dX5_hallOf_9 (by decide) ?_
  refine g_iconst (v := nI 3) dX5_hallOf_10 (by decide) ?_
  refine g_callS_i (kX5_isIn (nI w) (nI 0) (nI 3)) oX5_isIn pX5_isIn lX5_48 dX5_hallOf_11 rfl rfl (Nat.le_of_ble_eq_true rfl) (Nat.le_of_ble_eq_true rfl) (by decide) (fun M' h' => ?_)
  subst h'
  rw [zin_t (by omega) hw3 (by decide)]
  refine g_callS_v (kX5_need) oX5_need pX5_need lX5_52 dX5_hallOf_14 rfl rfl (Nat.le_of_ble_eq_true rfl) (Nat.le_of_ble_eq_true rfl) (by decide) (fun M' h' => ?_)
  subst h'
  refine g_aload_n dX5_hallOf_17 rfl ?_
  refine g_get fX5_33 dX5_hallOf_18 (cM_H rfl) rfl ?_
  refine g_aload_n dX5_hallOf_21 rfl ?_
  refine g_get fX5_10 dX5_hallOf_22 (cM_H rfl) rfl ?_
  refine g_iload_n dX5_hallOf_25 rfl ?_
  refine g_callV_v (kX0_open sb9 (by omega) hw hd) oX0_open pX0_open lX5_233 dX5_hallOf_26 rfl (cM_P rfl) rfl rfl rfl (Nat.le_of_ble_eq_true rfl) (Nat.le_of_ble_eq_true rfl) (by decide) (fun M' h' => ?_)
  obtain ⟨A, rfl, hA⟩ := h'
  have hp := pL_op sb9 hw hA
  have hc : ∀ a ∈ opL Y 9 day, plY Y A (opL Y 9 day).length a = Y a := fun a ha => pl_get (opL_G sb9 hw a ha).1
  rcases (show w = 0 ∨ w = 1 ∨ w = 2 ∨ w = 3 by omega) with rfl | rfl | rfl | rfl
  · refine g_iload_n dX5_hallOf_29 rfl ?_
    refine g_tabIn (x := nI 0) (off := 26) (tgt := 56) dX5_hallOf_30 (by decide) (by decide) (by decide) (by decide) ?_
    refine g_aload_n dX5_hallOf_56 rfl ?_
    refine g_get fX5_33 dX5_hallOf_57 (cM_H rfl) rfl ?_
    refine g_iload_n dX5_hallOf_60 rfl ?_
    refine g_iconst (v := nI 0) dX5_hallOf_61 (by decide) ?_
    refine g_callV_i (kX0_sumIn hp (h := h) (w := 0) (by omega) (by omega)) oX0_sumIn pX0_sumIn lX5_241 dX5_hallOf_62 rfl (cM_P rfl) rfl rfl rfl (Nat.le_of_ble_eq_true rfl) (Nat.le_of_ble_eq_true rfl) (by decide) (fun M' h' => ?_)
    subst h'
    rw [smL_c _ hc]
    exact g_ireturn dX5_hallOf_65 rfl rfl ⟨rfl, rfl, _, rfl, scr_p _ _ _⟩
  · refine g_iload_n dX5_hallOf_29 rfl ?_
    refine g_tabIn (x := nI 1) (off := 36) (tgt := 66) dX5_hallOf_30 (by decide) (by decide) (by decide) (by decide) ?_
    refine g_bipush (v := nI 24) dX5_hallOf_66 (by decide) ?_
    refine g_aload_n dX5_hallOf_68 rfl ?_
    refine g_get fX5_33 dX5_hallOf_69 (cM_H rfl) rfl ?_
    refine g_iload_n dX5_hallOf_72 rfl ?_
    refine g_iconst (v := nI 3) dX5_hallOf_73 (by decide) ?_
    refine g_callV_i (kX0_sumIn hp (h := h) (w := 3) (by omega) (by omega)) oX0_sumIn pX0_sumIn lX5_241 dX5_hallOf_74 rfl (cM_P rfl) rfl rfl rfl (Nat.le_of_ble_eq_true rfl) (Nat.le_of_ble_eq_true rfl) (by decide) (fun M' h' => ?_)
    subst h'
    rw [smL_c _ hc]
    refine g_isub dX5_hallOf_77 ?_
    exact g_ireturn dX5_hallOf_78 rfl rfl ⟨rfl, rfl, _, rfl, scr_p _ _ _⟩
  · refine g_iload_n dX5_hallOf_29 rfl ?_
    refine g_tabIn (x := nI 2) (off := 49) (tgt := 79) dX5_hallOf_30 (by decide) (by decide) (by decide) (by decide) ?_
    refine g_aload_n dX5_hallOf_79 rfl ?_
    refine g_get fX5_33 dX5_hallOf_80 (cM_H rfl) rfl ?_
    refine g_iload_n dX5_hallOf_83 rfl ?_
    refine g_callV_i (kX0_hoursWithoutTenant hp (h := h) (by omega)) oX0_hoursWithoutTenant pX0_hoursWithoutTenant lX5_244 dX5_hallOf_84 rfl (cM_P rfl) rfl rfl rfl (Nat.le_of_ble_eq_true rfl) (Nat.le_of_ble_eq_true rfl) (by decide) (fun M' h' => ?_)
    subst h'
    rw [hwV_c hc]
    exact g_ireturn dX5_hallOf_87 rfl rfl ⟨rfl, rfl, _, rfl, scr_p _ _ _⟩
  · refine g_iload_n dX5_hallOf_29 rfl ?_
    refine g_tabOut (x := nI 3) (tgt := 88) dX5_hallOf_30 (by decide) (by decide) ?_
    refine g_aload_n dX5_hallOf_88 rfl ?_
    refine g_get fX5_33 dX5_hallOf_89 (cM_H rfl) rfl ?_
    refine g_iload_n dX5_hallOf_92 rfl ?_
    refine g_iconst (v := nI 2) dX5_hallOf_93 (by decide) ?_
    refine g_callV_i (kX0_sumIn hp (h := h) (w := 2) (by omega) (by omega)) oX0_sumIn pX0_sumIn lX5_241 dX5_hallOf_94 rfl (cM_P rfl) rfl rfl rfl (Nat.le_of_ble_eq_true rfl) (Nat.le_of_ble_eq_true rfl) (by decide) (fun M' h' => ?_)
    subst h'
    rw [smL_c _ hc]
    exact g_ireturn dX5_hallOf_97 rfl rfl ⟨rfl, rfl, _, rfl, scr_p _ _ _⟩
theorem kX5_tenant1 (v w : Int32) (h : zin v (nI 0) (nI 19) = false) : Cn mX5_tenant 8 1 6 none [.ref 8, .int v, .int w] M (zt eB (fun M' => M' = M)) := by
  refine g_iload_n dX5_tenant_0 rfl ?_
  refine g_iconst (v := nI 0) dX5_tenant_1 (by decide) ?_
  refine g_bipush (v := nI 19) dX5_tenant_2 (by decide) ?_
  refine g_callS_i (kX5_isIn v (nI 0) (nI 19)) oX5_isIn pX5_isIn lX5_48 dX5_tenant_4 rfl rfl (Nat.le_of_ble_eq_true rfl) (Nat.le_of_ble_eq_true rfl) (by decide) (fun M' h' => ?_)
  subst h'
  rw [h]
  refine g_if_ne_b (tgt := 20) dX5_tenant_7 (by decide) (fun h1 => ?_) (fun h1 => ?_)
  · cases h1
  · exact g_throw rfl rfl zTh_IOB (text := "no such tenant") (is := 247) (by decide) dX5_tenant_10 dX5_tenant_13 dX5_tenant_14 dX5_tenant_16 dX5_tenant_19 (by decide) (by decide) (by decide) (by decide) ⟨rfl, rfl, rfl⟩
theorem kX5_tenant2 (v w : Int32) (h : zin v (nI 0) (nI 19) = true) (h2 : zin w (nI 0) (nI 2) = false) : Cn mX5_tenant 8 1 6 none [.ref 8, .int v, .int w] M (zt eA (fun M' => M' = M)) := by
  refine g_iload_n dX5_tenant_0 rfl ?_
  refine g_iconst (v := nI 0) dX5_tenant_1 (by decide) ?_
  refine g_bipush (v := nI 19) dX5_tenant_2 (by decide) ?_
  refine g_callS_i (kX5_isIn v (nI 0) (nI 19)) oX5_isIn pX5_isIn lX5_48 dX5_tenant_4 rfl rfl (Nat.le_of_ble_eq_true rfl) (Nat.le_of_ble_eq_true rfl) (by decide) (fun M' h' => ?_)
  subst h'
  rw [h]
  refine g_if_ne_b (tgt := 20) dX5_tenant_7 (by decide) (fun h1 => ?_) (fun h1 => ?_)
  · refine g_iload_n dX5_tenant_20 rfl ?_
    refine g_iconst (v := nI 0) dX5_tenant_21 (by decide) ?_
    refine g_iconst (v := nI 2) dX5_tenant_22 (by decide) ?_
    refine g_callS_i (kX5_isIn w (nI 0) (nI 2)) oX5_isIn pX5_isIn lX5_48 dX5_tenant_23 rfl rfl (Nat.le_of_ble_eq_true rfl) (Nat.le_of_ble_eq_true rfl) (by decide) (fun M' h' => ?_)
    subst h'
    rw [h2]
    exact g_callS_t rfl (kX5_need1) oX5_need pX5_need lX5_52 dX5_tenant_26 rfl rfl (Nat.le_of_ble_eq_true rfl) (Nat.le_of_ble_eq_true rfl) (by decide) (by decide) (by decide) (fun M1 h1 => ⟨rfl, rfl, h1⟩)
  · cases h1
theorem kX5_tenant (hw : wS Y 9) {t w : Nat} (ht : t ≤ 19) (hw2 : w ≤ 2) : Cn mX5_tenant 8 0 0 none [.ref 8, .int (nI t), .int (nI w)] (cM M0 Y) (zi (nI (sfT Y (nI t) w)) (fun M' => M' = cM M0 Y)) := by
  refine g_iload_n dX5_tenant_0 rfl ?_
  refine g_iconst (v := nI 0) dX5_tenant_1 (by decide) ?_
  refine g_bipush (v := nI 19) dX5_tenant_2 (by decide) ?_
  refine g_callS_i (kX5_isIn (nI t) (nI 0) (nI 19)) oX5_isIn pX5_isIn lX5_48 dX5_tenant_4 rfl rfl (Nat.le_of_ble_eq_true rfl) (Nat.le_of_ble_eq_true rfl) (by decide) (fun M' h' => ?_)
  subst h'
  rw [zin_t (by omega) ht (by decide)]
  refine g_if_ne_b (tgt := 20) dX5_tenant_7 (by decide) (fun h1 => ?_) (fun h1 => ?_)
  rotate_left
  · cases h1
  refine g_iload_n dX5_tenant_20 rfl ?_
  refine g_iconst (v := nI 0) dX5_tenant_21 (by decide) ?_
  refine g_iconst (v := nI 2) dX5_tenant_22 (by decide) ?_
  refine g_callS_i (kX5_isIn (nI w) (nI 0) (nI 2)) oX5_isIn pX5_isIn lX5_48 dX5_tenant_23 rfl rfl (Nat.le_of_ble_eq_true rfl) (Nat.le_of_ble_eq_true rfl) (by decide) (fun M' h' => ?_)
  subst h'
  rw [zin_t (by omega) hw2 (by decide)]
  refine g_callS_v (kX5_need) oX5_need pX5_need lX5_52 dX5_tenant_26 rfl rfl (Nat.le_of_ble_eq_true rfl) (Nat.le_of_ble_eq_true rfl) (by decide) (fun M' h' => ?_)
  subst h'
  rcases (show w = 0 ∨ w = 1 ∨ w = 2 by omega) with rfl | rfl | rfl
  · refine g_iload_n dX5_tenant_29 rfl ?_
    refine g_lookup (off := 26) (tgt := 56) dX5_tenant_30 (by decide) (by decide) (by decide) ?_
    refine g_aload_n dX5_tenant_56 rfl ?_
    refine g_get fX5_10 dX5_tenant_57 (cM_H rfl) rfl ?_
    refine g_iload_n dX5_tenant_60 rfl ?_
    refine g_iconst (v := nI 0) dX5_tenant_61 (by decide) ?_
    refine g_callV_i (kX4_sumFor (te := nI t) (w := 0) sb9 hw (by omega)) oX4_sumFor pX4_sumFor lX5_249 dX5_tenant_62 rfl (cM_S rfl) rfl rfl rfl (Nat.le_of_ble_eq_true rfl) (Nat.le_of_ble_eq_true rfl) (by decide) (fun M' h' => ?_)
    subst h'
    exact g_ireturn dX5_tenant_65 rfl rfl ⟨rfl, rfl, rfl⟩
  · refine g_iload_n dX5_tenant_29 rfl ?_
    refine g_lookup (off := 36) (tgt := 66) dX5_tenant_30 (by decide) (by decide) (by decide) ?_
    refine g_aload_n dX5_tenant_66 rfl ?_
    refine g_get fX5_10 dX5_tenant_67 (cM_H rfl) rfl ?_
    refine g_iload_n dX5_tenant_70 rfl ?_
    refine g_iconst (v := nI 1) dX5_tenant_71 (by decide) ?_
    refine g_callV_i (kX4_sumFor (te := nI t) (w := 1) sb9 hw (by omega)) oX4_sumFor pX4_sumFor lX5_249 dX5_tenant_72 rfl (cM_S rfl) rfl rfl rfl (Nat.le_of_ble_eq_true rfl) (Nat.le_of_ble_eq_true rfl) (by decide) (fun M' h' => ?_)
    subst h'
    exact g_ireturn dX5_tenant_75 rfl rfl ⟨rfl, rfl, rfl⟩
  · refine g_iload_n dX5_tenant_29 rfl ?_
    refine g_lookup (off := 46) (tgt := 76) dX5_tenant_30 (by decide) (by decide) (by decide) ?_
    refine g_aload_n dX5_tenant_76 rfl ?_
    refine g_get fX5_10 dX5_tenant_77 (cM_H rfl) rfl ?_
    refine g_iload_n dX5_tenant_80 rfl ?_
    refine g_iconst (v := nI 2) dX5_tenant_81 (by decide) ?_
    refine g_callV_i (kX4_sumFor (te := nI t) (w := 2) sb9 hw (by omega)) oX4_sumFor pX4_sumFor lX5_249 dX5_tenant_82 rfl (cM_S rfl) rfl rfl rfl (Nat.le_of_ble_eq_true rfl) (Nat.le_of_ble_eq_true rfl) (by decide) (fun M' h' => ?_)
    subst h'
    exact g_ireturn dX5_tenant_85 rfl rfl ⟨rfl, rfl, rfl⟩
end HALL
