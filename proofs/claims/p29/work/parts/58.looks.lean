/-! the class: looks that may throw -/
section LOOKS
variable {M M0 : zM} {Y : Nat → Nat → Nat}
theorem kX5_price1 (v d f t : Int32) (h : zin v (nI 0) (nI 2) = false) : Cn mX5_price 8 1 6 none [.ref 8, .int v, .int d, .int f, .int t] M (zt eB (fun M' => M' = M)) := by
  refine g_iload_n dX5_price_0 rfl ?_
  exact g_callS_t rfl (kX5_needHall1 h) oX5_needHall pX5_needHall lX5_44 dX5_price_1 rfl rfl (Nat.le_of_ble_eq_true rfl) (Nat.le_of_ble_eq_true rfl) (by decide) (by decide) (by decide) (fun M1 h1 => ⟨rfl, rfl, h1⟩)
theorem kX5_price2 (v d f t : Int32) (h : zin v (nI 0) (nI 2) = true) (h2 : (zin d (nI 0) (nI 83) && zhrs f t) = false) : Cn mX5_price 8 1 6 none [.ref 8, .int v, .int d, .int f, .int t] M (zt eA (fun M' => M' = M)) := by
  refine g_iload_n dX5_price_0 rfl ?_
  refine g_callS_v (kX5_needHall h) oX5_needHall pX5_needHall lX5_44 dX5_price_1 rfl rfl (Nat.le_of_ble_eq_true rfl) (Nat.le_of_ble_eq_true rfl) (by decide) (fun M' h' => ?_)
  subst h'
  refine g_iload_n dX5_price_4 rfl ?_
  cases hd : zin d (nI 0) (nI 83)
  · exact g_callS_t rfl (kX5_needDay1 hd) oX5_needDay pX5_needDay lX5_97 dX5_price_5 rfl rfl (Nat.le_of_ble_eq_true rfl) (Nat.le_of_ble_eq_true rfl) (by decide) (by decide) (by decide) (fun M1 h1 => ⟨rfl, rfl, h1⟩)
  refine g_callS_v (kX5_needDay hd) oX5_needDay pX5_needDay lX5_97 dX5_price_5 rfl rfl (Nat.le_of_ble_eq_true rfl) (Nat.le_of_ble_eq_true rfl) (by decide) (fun M' h' => ?_)
  subst h'
  refine g_iload_n dX5_price_8 rfl ?_
  refine g_iload dX5_price_9 rfl ?_
  exact g_callS_t rfl (kX5_needHours1 (by simpa [hd] using h2)) oX5_needHours pX5_needHours lX5_56 dX5_price_11 rfl rfl (Nat.le_of_ble_eq_true rfl) (Nat.le_of_ble_eq_true rfl) (by decide) (by decide) (by decide) (fun M1 h1 => ⟨rfl, rfl, h1⟩)
theorem kX5_price (hC : wC Y) {h day f t : Nat} (hh : h ≤ 2) (hd : day < 84) (hft : f < t) (ht : t ≤ 24) : Cn mX5_price 8 0 0 none [.ref 8, .int (nI h), .int (nI day), .int (nI f), .int (nI t)] (cM M0 Y) (zi (nI (vRn Y h (day % 7) (t - f) 0)) (fun M' => M' = cM M0 Y)) := by
  refine g_iload_n dX5_price_0 rfl ?_
  refine g_callS_v (kX5_needHall (zin_t (by omega) hh (by decide))) oX5_needHall pX5_needHall lX5_44 dX5_price_1 rfl rfl (Nat.le_of_ble_eq_true rfl) (Nat.le_of_ble_eq_true rfl) (by decide) (fun M' h' => ?_)
  subst h'
  refine g_iload_n dX5_price_4 rfl ?_
  refine g_callS_v (kX5_needDay (zin_t (by omega) (by omega) (by decide))) oX5_needDay pX5_needDay lX5_97 dX5_price_5 rfl rfl (Nat.le_of_ble_eq_true rfl) (Nat.le_of_ble_eq_true rfl) (by decide) (fun M' h' => ?_)
  subst h'
  refine g_iload_n dX5_price_8 rfl ?_
  refine g_iload dX5_price_9 rfl ?_
  refine g_callS_v (kX5_needHours (zhrs_n hft ht)) oX5_needHours pX5_needHours lX5_56 dX5_price_11 rfl rfl (Nat.le_of_ble_eq_true rfl) (Nat.le_of_ble_eq_true rfl) (by decide) (fun M' h' => ?_)
  subst h'
  refine g_aload_n dX5_price_14 rfl ?_
  refine g_iload_n dX5_price_15 rfl ?_
  refine g_iload_n dX5_price_16 rfl ?_
  refine g_bipush (v := nI 7) dX5_price_17 (by decide) ?_
  refine g_irem_n dX5_price_19 (by omega) (by omega) (by omega) ?_
  refine g_iload dX5_price_20 rfl ?_
  refine g_iload_n dX5_price_22 rfl ?_
  refine g_isub_n dX5_price_23 (by omega) ?_
  refine g_iconst (v := nI 0) dX5_price_24 (by decide) ?_
  refine g_callV_i (kX5_rentForDay hC (h := h) (wd := day % 7) (hrs := t - f) (disc := 0) hh (by omega) (by omega) (by omega)) oX5_rentForDay pX5_rentForDay lX5_258 dX5_price_25 rfl (cM_H rfl) rfl rfl rfl (Nat.le_of_ble_eq_true rfl) (Nat.le_of_ble_eq_true rfl) (by decide) (fun M' h' => ?_)
  subst h'
  exact g_ireturn dX5_price_28 rfl rfl ⟨rfl, rfl, rfl⟩
theorem kX5_who1 (v d w : Int32) (h : zin v (nI 0) (nI 2) = false) : Cn mX5_who 8 1 6 none [.ref 8, .int v, .int d, .int w] M (zt eB (fun M' => M' = M)) := by
  refine g_iload_n dX5_who_0 rfl ?_
  exact g_callS_t rfl (kX5_needHall1 h) oX5_needHall pX5_needHall lX5_44 dX5_who_1 rfl rfl (Nat.le_of_ble_eq_true rfl) (Nat.le_of_ble_eq_true rfl) (by decide) (by decide) (by decide) (fun M1 h1 => ⟨rfl, rfl, h1⟩)
theorem kX5_who2 (v d w : Int32) (h : zin v (nI 0) (nI 2) = true) (h2 : (zin d (nI 0) (nI 83) && zin w (nI 0) (nI 23)) = false) : Cn mX5_who 8 1 6 none [.ref 8, .int v, .int d, .int w] M (zt eA (fun M' => M' = M)) := by
  refine g_iload_n dX5_who_0 rfl ?_
  refine g_callS_v (kX5_needHall h) oX5_needHall pX5_needHall lX5_44 dX5_who_1 rfl rfl (Nat.le_of_ble_eq_true rfl) (Nat.le_of_ble_eq_true rfl) (by decide) (fun M' h' => ?_)
  subst h'
  refine g_iload_n dX5_who_4 rfl ?_
  cases hd : zin d (nI 0) (nI 83)
  · exact g_callS_t rfl (kX5_needDay1 hd) oX5_needDay pX5_needDay lX5_97 dX5_who_5 rfl rfl (Nat.le_of_ble_eq_true rfl) (Nat.le_of_ble_eq_true rfl) (by decide) (by decide) (by decide) (fun M1 h1 => ⟨rfl, rfl, h1⟩)
  refine g_callS_v (kX5_needDay hd) oX5_needDay pX5_needDay lX5_97 dX5_who_5 rfl rfl (Nat.le_of_ble_eq_true rfl) (Nat.le_of_ble_eq_true rfl) (by decide) (fun M' h' => ?_)
  subst h'
  refine g_iload_n dX5_who_8 rfl ?_
  refine g_iconst (v := nI 0) dX5_who_9 (by decide) ?_
  refine g_bipush (v := nI 23) dX5_who_10 (by decide) ?_
  refine g_callS_i (kX5_isIn w (nI 0) (nI 23)) oX5_isIn pX5_isIn lX5_48 dX5_who_12 rfl rfl (Nat.le_of_ble_eq_true rfl) (Nat.le_of_ble_eq_true rfl) (by decide) (fun M' h' => ?_)
  subst h'
  rw [show zin w (nI 0) (nI 23) = false by simpa [hd] using h2]
  exact g_callS_t rfl (kX5_need1) oX5_need pX5_need lX5_52 dX5_who_15 rfl rfl (Nat.le_of_ble_eq_true rfl) (Nat.le_of_ble_eq_true rfl) (by decide) (by decide) (by decide) (fun M1 h1 => ⟨rfl, rfl, h1⟩)
theorem kX5_who (hw : wS Y 9) {h day hr : Nat} (hh : h ≤ 2) (hd : day < 84) (hr1 : hr ≤ 23) : Cn mX5_who 8 0 0 none [.ref 8, .int (nI h), .int (nI day), .int (nI hr)] (cM M0 Y) (zi (taV Y h hr (opL Y 9 day)) (fun M' => ∃ Y', M' = cM M0 Y' ∧ scr Y Y')) := by
  refine g_iload_n dX5_who_0 rfl ?_
  refine g_callS_v (kX5_needHall (zin_t (by omega) hh (by decide))) oX5_needHall pX5_needHall lX5_44 dX5_who_1 rfl rfl (Nat.le_of_ble_eq_true rfl) (Nat.le_of_ble_eq_true rfl) (by decide) (fun M' h' => ?_)
  subst h'
  refine g_iload_n dX5_who_4 rfl ?_
  refine g_callS_v (kX5_needDay (zin_t (by omega) (by omega) (by decide))) oX5_needDay pX5_needDay lX5_97 dX5_who_5 rfl rfl (Nat.le_of_ble_eq_true rfl) (Nat.le_of_ble_eq_true rfl) (by decide) (fun M' h' => ?_)
  subst h'
  refine g_iload_n dX5_who_8 rfl ?_
  refine g_iconst (v := nI 0) dX5_who_9 (by decide) ?_
  refine g_bipush (v := nI 23) dX5_who_10 (by decide) ?_
  refine g_callS_i (kX5_isIn (nI hr) (nI 0) (nI 23)) oX5_isIn pX5_isIn lX5_48 dX5_who_12 rfl rfl (Nat.le_of_ble_eq_true rfl) (Nat.le_of_ble_eq_true rfl) (by decide) (fun M' h' => ?_)
  subst h'
  rw [zin_t (by omega) hr1 (by decide)]
  refine g_callS_v (kX5_need) oX5_need pX5_need lX5_52 dX5_who_15 rfl rfl (Nat.le_of_ble_eq_true rfl) (Nat.le_of_ble_eq_true rfl) (by decide) (fun M' h' => ?_)
  subst h'
  refine g_aload_n dX5_who_18 rfl ?_
  refine g_get fX5_33 dX5_who_19 (cM_H rfl) rfl ?_
  refine g_aload_n dX5_who_22 rfl ?_
  refine g_get fX5_10 dX5_who_23 (cM_H rfl) rfl ?_
  refine g_iload_n dX5_who_26 rfl ?_
  refine g_callV_v (kX0_open sb9 (by omega) hw hd) oX0_open pX0_open lX5_233 dX5_who_27 rfl (cM_P rfl) rfl rfl rfl (Nat.le_of_ble_eq_true rfl) (Nat.le_of_ble_eq_true rfl) (by decide) (fun M' h' => ?_)
  obtain ⟨A, rfl, hA⟩ := h'
  refine g_aload_n dX5_who_30 rfl ?_
  refine g_get fX5_33 dX5_who_31 (cM_H rfl) rfl ?_
  refine g_iload_n dX5_who_34 rfl ?_
  refine g_iload_n dX5_who_35 rfl ?_
  refine g_callV_i (kX0_tenantAt (pL_op sb9 hw hA) (h := h) (hr := hr) (by omega) (by omega)) oX0_tenantAt pX0_tenantAt lX5_237 dX5_who_36 rfl (cM_P rfl) rfl rfl rfl (Nat.le_of_ble_eq_true rfl) (Nat.le_of_ble_eq_true rfl) (by decide) (fun M' h' => ?_)
  subst h'
  have e : ∀ l, (∀ a ∈ l, kq a = 1) → taV (plY Y A (opL Y 9 day).length) h hr l = taV Y h hr l := fun l hl => by
    induction l with
    | nil => rfl
    | cons a l ih =>
      have ha : plY Y A (opL Y 9 day).length a = Y a := pl_get (hl a List.mem_cons_self)
      simp only [taV, ha, ih (fun b hb => hl b (List.mem_cons_of_mem _ hb))]
  rw [e _ (fun a ha => (opL_G sb9 hw a ha).1)]
  exact g_ireturn dX5_who_39 rfl rfl ⟨rfl, rfl, _, rfl, scr_p _ _ _⟩
end LOOKS
