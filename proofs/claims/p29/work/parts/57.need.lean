/-! the class: what the arguments must be -/
abbrev eA : String := "java/lang/IllegalArgumentException"
abbrev eB : String := "java/lang/IndexOutOfBoundsException"
abbrev eS : String := "java/lang/IllegalStateException"
section NEED
variable {M M0 : zM} {Y : Nat → Nat → Nat}
theorem g_callS_t {mi mi' : zI} {d kc ks pc d' kc' ks' idx n : Nat} {L : List (Nat × Value)} {S0 S As : List Value} {F : zP} {E : String} {P : zM → Prop} (htb : mi.2.2.2.2.2 = ([], none)) (hc : Cn mi' d' kc' ks' none As M (zt E P)) (ho : zok mi' n) (hoc : zoc mi') (hl : zLS mi.2.1 idx mi') (hd : decode mi.2.2.1 pc = .ok (.invokestatic idx, 3)) (hs : S0 = As.reverse ++ S) (hA : As.length = n) (hg : (lg_sl As).length ≤ mi'.2.2.2.1) (hS : (S.map fun v => v.category).sum ≤ 8) (h1 : d' + 1 ≤ d) (h2 : kc' ≤ kc) (h3 : ks' ≤ ks) (k : ∀ M1, P M1 → F M1 none (.inr E)) : G mi d kc ks none pc L S0 M F := by
  refine g_callSx (kc1 := 0) (ks1 := 0) htb hc ho hoc hl hd hs hA hg hS h1 (by omega) (by omega) (fun M1 E1 h => ?_) (fun M1 nx1 v h => ?_)
  · obtain ⟨-, h4, h5⟩ := h
    cases h4
    exact k M1 h5
  · obtain ⟨-, h4, -⟩ := h
    cases h4
theorem kX5_need : Cn mX5_need 0 0 0 none [.int (nI true.toNat)] M (zv (fun M' => M' = M)) := by
  refine g_iload_n dX5_need_0 rfl ?_
  refine g_if_ne_b (tgt := 15) dX5_need_1 (by decide) (fun h1 => ?_) (fun h1 => ?_)
  · exact g_return dX5_need_15 rfl ⟨rfl, rfl, rfl⟩
  · cases h1
theorem kX5_need1 : Cn mX5_need 6 1 6 none [.int (nI false.toNat)] M (zt eA (fun M' => M' = M)) := by
  refine g_iload_n dX5_need_0 rfl ?_
  refine g_if_ne_b (tgt := 15) dX5_need_1 (by decide) (fun h1 => ?_) (fun h1 => ?_)
  · cases h1
  · exact g_throwW rfl rfl zTh_IAE (text := "an argument or the text is not as it must be") (is := 331) (by decide) dX5_need_4 dX5_need_7 dX5_need_8 dX5_need_11 dX5_need_14 (by decide) (by decide) (by decide) (by decide) ⟨rfl, rfl, rfl⟩
theorem kX5_needHall {v : Int32} (h : zin v (nI 0) (nI 2) = true) : Cn mX5_needHall 1 0 0 none [.int v] M (zv (fun M' => M' = M)) := by
  refine g_iload_n dX5_needHall_0 rfl ?_
  refine g_iconst (v := nI 0) dX5_needHall_1 (by decide) ?_
  refine g_iconst (v := nI 2) dX5_needHall_2 (by decide) ?_
  refine g_callS_i (kX5_isIn v (nI 0) (nI 2)) oX5_isIn pX5_isIn lX5_48 dX5_needHall_3 rfl rfl (Nat.le_of_ble_eq_true rfl) (Nat.le_of_ble_eq_true rfl) (by decide) (fun M' h' => ?_)
  subst h'
  rw [h]
  refine g_if_ne_b (tgt := 20) dX5_needHall_6 (by decide) (fun h1 => ?_) (fun h1 => ?_)
  · exact g_return dX5_needHall_20 rfl ⟨rfl, rfl, rfl⟩
  · cases h1
theorem kX5_needHall1 {v : Int32} (h : zin v (nI 0) (nI 2) = false) : Cn mX5_needHall 6 1 6 none [.int v] M (zt eB (fun M' => M' = M)) := by
  refine g_iload_n dX5_needHall_0 rfl ?_
  refine g_iconst (v := nI 0) dX5_needHall_1 (by decide) ?_
  refine g_iconst (v := nI 2) dX5_needHall_2 (by decide) ?_
  refine g_callS_i (kX5_isIn v (nI 0) (nI 2)) oX5_isIn pX5_isIn lX5_48 dX5_needHall_3 rfl rfl (Nat.le_of_ble_eq_true rfl) (Nat.le_of_ble_eq_true rfl) (by decide) (fun M' h' => ?_)
  subst h'
  rw [h]
  refine g_if_ne_b (tgt := 20) dX5_needHall_6 (by decide) (fun h1 => ?_) (fun h1 => ?_)
  · cases h1
  · exact g_throwW rfl rfl zTh_IOB (text := "no such hall") (is := 334) (by decide) dX5_needHall_9 dX5_needHall_12 dX5_needHall_13 dX5_needHall_16 dX5_needHall_19 (by decide) (by decide) (by decide) (by decide) ⟨rfl, rfl, rfl⟩
theorem kX5_needLet {r : Nat} {v : Int32} (hr : kq r = 3) (h : zin v (nI 0) (nI (Y r 1) - nI 1) = true) : Cn mX5_needLet 1 0 0 none [.ref r, .int v] (cM M0 Y) (zv (fun M' => M' = cM M0 Y)) := by
  refine g_iload_n dX5_needLet_0 rfl ?_
  refine g_iconst (v := nI 0) dX5_needLet_1 (by decide) ?_
  refine g_aload_n dX5_needLet_2 rfl ?_
  refine g_get fX5_212 dX5_needLet_3 (cM_R hr) rfl ?_
  refine g_iconst (v := nI 1) dX5_needLet_6 (by decide) ?_
  refine g_isub dX5_needLet_7 ?_
  refine g_callS_i (kX5_isIn v (nI 0) (nI (Y r 1) - nI 1)) oX5_isIn pX5_isIn lX5_48 dX5_needLet_8 rfl rfl (Nat.le_of_ble_eq_true rfl) (Nat.le_of_ble_eq_true rfl) (by decide) (fun M' h' => ?_)
  subst h'
  rw [h]
  refine g_if_ne_b (tgt := 25) dX5_needLet_11 (by decide) (fun h1 => ?_) (fun h1 => ?_)
  · exact g_return dX5_needLet_25 rfl ⟨rfl, rfl, rfl⟩
  · cases h1
theorem kX5_needLet1 {r : Nat} {v : Int32} (hr : kq r = 3) (h : zin v (nI 0) (nI (Y r 1) - nI 1) = false) : Cn mX5_needLet 6 1 6 none [.ref r, .int v] (cM M0 Y) (zt eB (fun M' => M' = cM M0 Y)) := by
  refine g_iload_n dX5_needLet_0 rfl ?_
  refine g_iconst (v := nI 0) dX5_needLet_1 (by decide) ?_
  refine g_aload_n dX5_needLet_2 rfl ?_
  refine g_get fX5_212 dX5_needLet_3 (cM_R hr) rfl ?_
  refine g_iconst (v := nI 1) dX5_needLet_6 (by decide) ?_
  refine g_isub dX5_needLet_7 ?_
  refine g_callS_i (kX5_isIn v (nI 0) (nI (Y r 1) - nI 1)) oX5_isIn pX5_isIn lX5_48 dX5_needLet_8 rfl rfl (Nat.le_of_ble_eq_true rfl) (Nat.le_of_ble_eq_true rfl) (by decide) (fun M' h' => ?_)
  subst h'
  rw [h]
  refine g_if_ne_b (tgt := 25) dX5_needLet_11 (by decide) (fun h1 => ?_) (fun h1 => ?_)
  · cases h1
  · exact g_throwW rfl rfl zTh_IOB (text := "no such let") (is := 336) (by decide) dX5_needLet_14 dX5_needLet_17 dX5_needLet_18 dX5_needLet_21 dX5_needLet_24 (by decide) (by decide) (by decide) (by decide) ⟨rfl, rfl, rfl⟩
theorem kX5_needDay {v : Int32} (h : zin v (nI 0) (nI 83) = true) : Cn mX5_needDay 1 0 0 none [.int v] M (zv (fun M' => M' = M)) := by
  refine g_iload_n dX5_needDay_0 rfl ?_
  refine g_iconst (v := nI 0) dX5_needDay_1 (by decide) ?_
  refine g_bipush (v := nI 83) dX5_needDay_2 (by decide) ?_
  refine g_callS_i (kX5_isIn v (nI 0) (nI 83)) oX5_isIn pX5_isIn lX5_48 dX5_needDay_4 rfl rfl (Nat.le_of_ble_eq_true rfl) (Nat.le_of_ble_eq_true rfl) (by decide) (fun M' h' => ?_)
  subst h'
  rw [h]
  refine g_callS_v (kX5_need) oX5_need pX5_need lX5_52 dX5_needDay_7 rfl rfl (Nat.le_of_ble_eq_true rfl) (Nat.le_of_ble_eq_true rfl) (by decide) (fun M' h' => ?_)
  subst h'
  exact g_return dX5_needDay_10 rfl ⟨rfl, rfl, rfl⟩
theorem kX5_needDay1 {v : Int32} (h : zin v (nI 0) (nI 83) = false) : Cn mX5_needDay 7 1 6 none [.int v] M (zt eA (fun M' => M' = M)) := by
  refine g_iload_n dX5_needDay_0 rfl ?_
  refine g_iconst (v := nI 0) dX5_needDay_1 (by decide) ?_
  refine g_bipush (v := nI 83) dX5_needDay_2 (by decide) ?_
  refine g_callS_i (kX5_isIn v (nI 0) (nI 83)) oX5_isIn pX5_isIn lX5_48 dX5_needDay_4 rfl rfl (Nat.le_of_ble_eq_true rfl) (Nat.le_of_ble_eq_true rfl) (by decide) (fun M' h' => ?_)
  subst h'
  rw [h]
  exact g_callS_t rfl kX5_need1 oX5_need pX5_need lX5_52 dX5_needDay_7 rfl rfl (Nat.le_of_ble_eq_true rfl) (Nat.le_of_ble_eq_true rfl) (by decide) (by decide) (by decide) (fun M1 h1 => ⟨rfl, rfl, h1⟩)
theorem kX5_needHours {f t : Int32} (h : zhrs f t = true) : Cn mX5_needHours 1 0 0 none [.int f, .int t] M (zv (fun M' => M' = M)) := by
  simp only [zhrs, Bool.and_eq_true] at h
  refine g_iload_n dX5_needHours_0 rfl ?_
  refine g_iconst (v := nI 0) dX5_needHours_1 (by decide) ?_
  refine g_bipush (v := nI 23) dX5_needHours_2 (by decide) ?_
  refine g_callS_i (kX5_isIn f (nI 0) (nI 23)) oX5_isIn pX5_isIn lX5_48 dX5_needHours_4 rfl rfl (Nat.le_of_ble_eq_true rfl) (Nat.le_of_ble_eq_true rfl) (by decide) (fun M' h' => ?_)
  subst h'
  rw [h.1]
  refine g_callS_v (kX5_need) oX5_need pX5_need lX5_52 dX5_needHours_7 rfl rfl (Nat.le_of_ble_eq_true rfl) (Nat.le_of_ble_eq_true rfl) (by decide) (fun M' h' => ?_)
  subst h'
  refine g_iload_n dX5_needHours_10 rfl ?_
  refine g_iload_n dX5_needHours_11 rfl ?_
  refine g_iconst (v := nI 1) dX5_needHours_12 (by decide) ?_
  refine g_iadd dX5_needHours_13 ?_
  refine g_bipush (v := nI 24) dX5_needHours_14 (by decide) ?_
  refine g_callS_i (kX5_isIn t (f + nI 1) (nI 24)) oX5_isIn pX5_isIn lX5_48 dX5_needHours_16 rfl rfl (Nat.le_of_ble_eq_true rfl) (Nat.le_of_ble_eq_true rfl) (by decide) (fun M' h' => ?_)
  subst h'
  rw [h.2]
  refine g_callS_v (kX5_need) oX5_need pX5_need lX5_52 dX5_needHours_19 rfl rfl (Nat.le_of_ble_eq_true rfl) (Nat.le_of_ble_eq_true rfl) (by decide) (fun M' h' => ?_)
  subst h'
  exact g_return dX5_needHours_22 rfl ⟨rfl, rfl, rfl⟩
theorem kX5_needHours1 {f t : Int32} (h : zhrs f t = false) : Cn mX5_needHours 7 1 6 none [.int f, .int t] M (zt eA (fun M' => M' = M)) := by
  refine g_iload_n dX5_needHours_0 rfl ?_
  refine g_iconst (v := nI 0) dX5_needHours_1 (by decide) ?_
  refine g_bipush (v := nI 23) dX5_needHours_2 (by decide) ?_
  refine g_callS_i (kX5_isIn f (nI 0) (nI 23)) oX5_isIn pX5_isIn lX5_48 dX5_needHours_4 rfl rfl (Nat.le_of_ble_eq_true rfl) (Nat.le_of_ble_eq_true rfl) (by decide) (fun M' h' => ?_)
  subst h'
  cases hf : zin f (nI 0) (nI 23)
  · exact g_callS_t rfl kX5_need1 oX5_need pX5_need lX5_52 dX5_needHours_7 rfl rfl (Nat.le_of_ble_eq_true rfl) (Nat.le_of_ble_eq_true rfl) (by decide) (by decide) (by decide) (fun M1 h1 => ⟨rfl, rfl, h1⟩)
  refine g_callS_v (kX5_need) oX5_need pX5_need lX5_52 dX5_needHours_7 rfl rfl (Nat.le_of_ble_eq_true rfl) (Nat.le_of_ble_eq_true rfl) (by decide) (fun M' h' => ?_)
  subst h'
  refine g_iload_n dX5_needHours_10 rfl ?_
  refine g_iload_n dX5_needHours_11 rfl ?_
  refine g_iconst (v := nI 1) dX5_needHours_12 (by decide) ?_
  refine g_iadd dX5_needHours_13 ?_
  refine g_bipush (v := nI 24) dX5_needHours_14 (by decide) ?_
  refine g_callS_i (kX5_isIn t (f + nI 1) (nI 24)) oX5_isIn pX5_isIn lX5_48 dX5_needHours_16 rfl rfl (Nat.le_of_ble_eq_true rfl) (Nat.le_of_ble_eq_true rfl) (by decide) (fun M' h' => ?_)
  subst h'
  rw [show zin t (f + nI 1) (nI 24) = false by simpa [zhrs, hf] using h]
  exact g_callS_t rfl kX5_need1 oX5_need pX5_need lX5_52 dX5_needHours_19 rfl rfl (Nat.le_of_ble_eq_true rfl) (Nat.le_of_ble_eq_true rfl) (by decide) (by decide) (by decide) (fun M1 h1 => ⟨rfl, rfl, h1⟩)
end NEED
