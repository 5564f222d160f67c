/-! the class: what the plan answers -/
def smL (V : Nat → Nat → Nat) (h w : Nat) : List Nat → Nat
  | [] => 0
  | a :: l => (if V a 0 = h then vSh (V a) w else 0) + smL V h w l
def taV (V : Nat → Nat → Nat) (h hr : Nat) : List Nat → Int32
  | [] => -1
  | a :: l => if V a 0 = h ∧ V a 2 ≤ hr ∧ hr ≤ V a 3 - 1 then nI (V a 5) else taV V h hr l
def hwV (V : Nat → Nat → Nat) (h : Nat) (l : List Nat) : Nat → Nat
  | 0 => 0
  | k + 1 => if taV V h k l = -1 then hwV V h l k + 1 else hwV V h l k
/-- the plan holds a list -/
def pL (Y : Nat → Nat → Nat) (l : List Nat) : Prop := Y 67 1 = l.length ∧ lAt l 0 (Y 68) ∧ lG Y l ∧ l.length ≤ 20
theorem pL_at {Y : Nat → Nat → Nat} {l : List Nat} (h : pL Y l) {k a : Nat} (hk : l[k]? = some a) : Y 68 k = a ∧ kq a = 1 ∧ vB (Y a) ∧ k < l.length := by
  have h1 := h.2.1 k a hk
  rw [Nat.zero_add] at h1
  have h2 := h.2.2.1 a (List.mem_of_getElem? hk)
  exact ⟨h1, h2.1, h2.2, (List.getElem?_eq_some_iff.mp hk).1⟩
section PLAN2
variable {M M0 : zM} {Y : Nat → Nat → Nat}
theorem si1 {l : List Nat} (hp : pL Y l) {h w : Nat} (hh : h < 1048576) (hw : w ≤ 3) (F : zP) : ∀ u k c, k + u = l.length → F (cM M0 Y) none (.inl (some (.int (nI (c + smL Y h w (l.drop k)))))) → G mX0_sumIn 1 0 0 none 5 [(0, .ref 67), (1, .int (nI h)), (2, .int (nI w)), (3, .int (nI c)), (4, .int (nI k))] [] (cM M0 Y) F := by
  have hsz := hp.1
  have h20 := hp.2.2.2
  intro u
  induction u with
  | zero =>
    intro k c hk hF
    have : k = l.length := by omega
    subst this
    refine g_iload dX0_sumIn_5 rfl ?_
    refine g_aload_n dX0_sumIn_7 rfl ?_
    refine g_get fX0_21 dX0_sumIn_8 (cM_P rfl) rfl ?_
    rw [hsz]
    refine g_icmp_ge_n (tgt := 48) dX0_sumIn_11 (by decide) (by omega) (by omega) (fun h1 => ?_) (fun h1 => ?_)
    · refine g_iload_n dX0_sumIn_48 rfl ?_
      refine g_ireturn dX0_sumIn_49 rfl rfl ?_
      rw [List.drop_length] at hF
      exact hF
    · omega
  | succ u ih =>
    intro k c hk hF
    have hx : l[k]? = some l[k] := List.getElem?_eq_getElem (by omega)
    generalize hxe : l[k] = a at hx
    obtain ⟨e1, e2, e3, e4⟩ := pL_at hp hx
    have h8 := kq_8 e2 (by decide)
    have hz : Y 68 k ≠ 0 := by omega
    have hk1 : kq (Y 68 k) = 1 := by rw [e1]; exact e2
    have b0 : Y a 0 < 1048576 := e3.1 0 (by omega)
    rw [drop_get hx, smL] at hF
    refine g_iload dX0_sumIn_5 rfl ?_
    refine g_aload_n dX0_sumIn_7 rfl ?_
    refine g_get fX0_21 dX0_sumIn_8 (cM_P rfl) rfl ?_
    rw [hsz]
    refine g_icmp_ge_n (tgt := 48) dX0_sumIn_11 (by decide) (by omega) (by omega) (fun h1 => ?_) (fun h1 => ?_)
    · omega
    refine g_aload_n dX0_sumIn_14 rfl ?_
    refine g_get fX0_11 dX0_sumIn_15 (cM_P rfl) rfl ?_
    refine g_iload dX0_sumIn_18 rfl ?_
    refine g_cpl dX0_sumIn_20 (by omega) hz ?_
    refine g_get fX0_74 dX0_sumIn_21 (cM_L hk1) rfl ?_
    refine g_iload_n dX0_sumIn_24 rfl ?_
    rw [e1]
    refine g_icmp_ne_n (tgt := 42) dX0_sumIn_25 (by decide) (by omega) (by omega) (fun h2 => ?_) (fun h2 => ?_)
    · refine g_iinc_n (c := 1) dX0_sumIn_42 rfl (by decide) (by decide) ?_
      refine g_goto (tgt := 5) dX0_sumIn_45 (by decide) ?_
      rw [if_neg h2, Nat.zero_add] at hF
      exact g_loc rfl (ih (k + 1) c (by omega) hF)
    · refine g_iload_n dX0_sumIn_28 rfl ?_
      refine g_aload_n dX0_sumIn_29 rfl ?_
      refine g_get fX0_11 dX0_sumIn_30 (cM_P rfl) rfl ?_
      refine g_iload dX0_sumIn_33 rfl ?_
      refine g_cpl dX0_sumIn_35 (by omega) hz ?_
      refine g_iload_n dX0_sumIn_36 rfl ?_
      rw [e1]
      refine g_callV_i (kX1_shareOfDay e2 e3 hw) oX1_shareOfDay pX1_shareOfDay lX0_87 dX0_sumIn_37 rfl (cM_L e2) rfl rfl rfl (Nat.le_of_ble_eq_true rfl) (Nat.le_of_ble_eq_true rfl) (by decide) (fun M' h' => ?_)
      subst h'
      refine g_iadd_n dX0_sumIn_40 ?_
      refine g_istore_n dX0_sumIn_41 (by decide) ?_
      refine g_iinc_n (c := 1) dX0_sumIn_42 rfl (by decide) (by decide) ?_
      refine g_goto (tgt := 5) dX0_sumIn_45 (by decide) ?_
      rw [if_pos h2, ← Nat.add_assoc] at hF
      exact g_loc rfl (ih (k + 1) _ (by omega) hF)
theorem kX0_sumIn {l : List Nat} (hp : pL Y l) {h w : Nat} (hh : h < 1048576) (hw : w ≤ 3) : Cn mX0_sumIn 1 0 0 none [.ref 67, .int (nI h), .int (nI w)] (cM M0 Y) (zi (nI (smL Y h w l)) (fun M' => M' = cM M0 Y)) := by
  refine g_iconst (v := nI 0) dX0_sumIn_0 (by decide) ?_
  refine g_istore_n dX0_sumIn_1 (by decide) ?_
  refine g_iconst (v := nI 0) dX0_sumIn_2 (by decide) ?_
  refine g_istore dX0_sumIn_3 (by decide) ?_
  refine g_loc rfl (si1 hp hh hw _ l.length 0 0 (by omega) ⟨rfl, ?_, rfl⟩)
  rw [List.drop_zero, Nat.zero_add]
theorem ta1c {l : List Nat} (hp : pL Y l) {h hr : Nat} (hh : h < 1048576) (hr1 : hr < 24) (F : zP) : ∀ u k, k + u = l.length → F (cM M0 Y) none (.inl (some (.int (taV Y h hr (l.drop k))))) → G mX0_tenantAt 1 0 0 none 2 [(0, .ref 67), (1, .int (nI h)), (2, .int (nI hr)), (3, .int (nI k))] [] (cM M0 Y) F := by
  have hsz := hp.1
  have h20 := hp.2.2.2
  intro u
  induction u with
  | zero =>
    intro k hk hF
    have : k = l.length := by omega
    subst this
    refine g_iload_n dX0_tenantAt_2 rfl ?_
    refine g_aload_n dX0_tenantAt_3 rfl ?_
    refine g_get fX0_21 dX0_tenantAt_4 (cM_P rfl) rfl ?_
    rw [hsz]
    refine g_icmp_ge_n (tgt := 58) dX0_tenantAt_7 (by decide) (by omega) (by omega) (fun h1 => ?_) (fun h1 => ?_)
    · refine g_iconst (v := (-1)) dX0_tenantAt_58 (by decide) ?_
      refine g_ireturn dX0_tenantAt_59 rfl rfl ?_
      rw [List.drop_length] at hF
      exact hF
    · omega
  | succ u ih =>
    intro k hk hF
    have hx : l[k]? = some l[k] := List.getElem?_eq_getElem (by omega)
    generalize hxe : l[k] = a at hx
    obtain ⟨e1, e2, e3, e4⟩ := pL_at hp hx
    have h8 := kq_8 e2 (by decide)
    have hz : Y 68 k ≠ 0 := by omega
    have b0 : Y a 0 < 1048576 := e3.1 0 (by omega)
    have b2 : Y a 2 < 1048576 := e3.1 2 (by omega)
    have b3 : Y a 3 < 1048576 := e3.1 3 (by omega)
    have b4 := e3.2.2.1
    rw [drop_get hx, taV] at hF
    refine g_iload_n dX0_tenantAt_2 rfl ?_
    refine g_aload_n dX0_tenantAt_3 rfl ?_
    refine g_get fX0_21 dX0_tenantAt_4 (cM_P rfl) rfl ?_
    rw [hsz]
    refine g_icmp_ge_n (tgt := 58) dX0_tenantAt_7 (by decide) (by omega) (by omega) (fun h1 => ?_) (fun h1 => ?_)
    · omega
    refine g_aload_n dX0_tenantAt_10 rfl ?_
    refine g_get fX0_11 dX0_tenantAt_11 (cM_P rfl) rfl ?_
    refine g_iload_n dX0_tenantAt_14 rfl ?_
    refine g_cpl dX0_tenantAt_15 (by omega) hz ?_
    rw [e1]
    refine g_astore dX0_tenantAt_16 (by decide) ?_
    refine g_aload dX0_tenantAt_18 rfl ?_
    refine g_get fX0_74 dX0_tenantAt_20 (cM_L e2) rfl ?_
    refine g_iload_n dX0_tenantAt_23 rfl ?_
    have skip : ¬ (Y a 0 = h ∧ Y a 2 ≤ hr ∧ hr ≤ Y a 3 - 1) → G mX0_tenantAt 1 0 0 none 52 [(0, .ref 67), (1, .int (nI h)), (2, .int (nI hr)), (3, .int (nI k))] [] (cM M0 Y) F := fun hq => by
      refine g_iinc_n (c := 1) dX0_tenantAt_52 rfl (by decide) (by decide) ?_
      refine g_goto (tgt := 2) dX0_tenantAt_55 (by decide) ?_
      rw [if_neg hq] at hF
      exact g_loc rfl (ih (k + 1) (by omega) hF)
    refine g_icmp_ne_n (tgt := 52) dX0_tenantAt_24 (by decide) (by omega) (by omega) (fun h2 => ?_) (fun h2 => ?_)
    · exact g_loc rfl (skip (fun q => h2 q.1))
    refine g_iload_n dX0_tenantAt_27 rfl ?_
    refine g_aload dX0_tenantAt_28 rfl ?_
    refine g_get fX0_71 dX0_tenantAt_30 (cM_L e2) rfl ?_
    refine g_aload dX0_tenantAt_33 rfl ?_
    refine g_get fX0_77 dX0_tenantAt_35 (cM_L e2) rfl ?_
    refine g_iconst (v := nI 1) dX0_tenantAt_38 (by decide) ?_
    refine g_isub_n dX0_tenantAt_39 (by omega) ?_
    refine g_callSN_i (kX5_isIn (nI hr) (nI (Y a 2)) (nI (Y a 3 - 1))) oX5_isIn pX5_isIn lX0_80 dX0_tenantAt_40 rfl rfl (Nat.le_of_ble_eq_true rfl) (Nat.le_of_ble_eq_true rfl) (by decide) (fun M' h' => ?_)
    subst h'
    rw [zin_n (by omega) (by omega) (by omega)]
    refine g_if_eq_b (tgt := 52) dX0_tenantAt_43 (by decide) (fun h3 => ?_) (fun h3 => ?_)
    · refine g_loc rfl (skip (fun q => ?_))
      rw [decide_eq_true q.2.1, decide_eq_true q.2.2] at h3
      cases h3
    · refine g_aload dX0_tenantAt_46 rfl ?_
      refine g_get fX0_84 dX0_tenantAt_48 (cM_L e2) rfl ?_
      simp only [Bool.and_eq_true, decide_eq_true_eq] at h3
      rw [if_pos ⟨h2, h3⟩] at hF
      exact g_ireturn dX0_tenantAt_51 rfl rfl hF
theorem kX0_tenantAt {l : List Nat} (hp : pL Y l) {h hr : Nat} (hh : h < 1048576) (hr1 : hr < 24) : Cn mX0_tenantAt 1 0 0 none [.ref 67, .int (nI h), .int (nI hr)] (cM M0 Y) (zi (taV Y h hr l) (fun M' => M' = cM M0 Y)) := by
  refine g_iconst (v := nI 0) dX0_tenantAt_0 (by decide) ?_
  refine g_istore_n dX0_tenantAt_1 (by decide) ?_
  refine g_loc rfl (ta1c hp hh hr1 _ l.length 0 (by omega) ⟨rfl, ?_, rfl⟩)
  rw [List.drop_zero]
theorem hw1 {l : List Nat} (hp : pL Y l) {h : Nat} (hh : h < 1048576) : ∀ u k, k + u = 24 → G mX0_hoursWithoutTenant 2 0 0 none 4 [(0, .ref 67), (1, .int (nI h)), (2, .int (nI (hwV Y h l k))), (3, .int (nI k))] [] (cM M0 Y) (zi (nI (hwV Y h l 24)) (fun M' => M' = cM M0 Y)) := by
  intro u
  induction u with
  | zero =>
    intro k hk
    have : k = 24 := by omega
    subst this
    refine g_iload_n dX0_hoursWithoutTenant_4 rfl ?_
    refine g_bipush (v := nI 24) dX0_hoursWithoutTenant_5 (by decide) ?_
    refine g_icmp_ge_n (tgt := 29) dX0_hoursWithoutTenant_7 (by decide) (by omega) (by omega) (fun h1 => ?_) (fun h1 => ?_)
    · refine g_iload_n dX0_hoursWithoutTenant_29 rfl ?_
      exact g_ireturn dX0_hoursWithoutTenant_30 rfl rfl ⟨rfl, rfl, rfl⟩
    · omega
  | succ u ih =>
    intro k hk
    refine g_iload_n dX0_hoursWithoutTenant_4 rfl ?_
    refine g_bipush (v := nI 24) dX0_hoursWithoutTenant_5 (by decide) ?_
    refine g_icmp_ge_n (tgt := 29) dX0_hoursWithoutTenant_7 (by decide) (by omega) (by omega) (fun h1 => ?_) (fun h1 => ?_)
    · omega
    refine g_aload_n dX0_hoursWithoutTenant_10 rfl ?_
    refine g_iload_n dX0_hoursWithoutTenant_11 rfl ?_
    refine g_iload_n dX0_hoursWithoutTenant_12 rfl ?_
    refine g_callV_i (kX0_tenantAt hp hh (hr := k) (by omega)) oX0_tenantAt pX0_tenantAt lX0_91 dX0_hoursWithoutTenant_13 rfl (cM_P rfl) rfl rfl rfl (Nat.le_of_ble_eq_true rfl) (Nat.le_of_ble_eq_true rfl) (by decide) (fun M' h' => ?_)
    subst h'
    refine g_iconst (v := (-1)) dX0_hoursWithoutTenant_16 (by decide) ?_
    refine g_icmp_ne (tgt := 23) dX0_hoursWithoutTenant_17 (by decide) (fun h2 => ?_) (fun h2 => ?_)
    · refine g_iinc_n (c := 1) dX0_hoursWithoutTenant_23 rfl (by decide) (by decide) ?_
      refine g_goto (tgt := 4) dX0_hoursWithoutTenant_26 (by decide) ?_
      have := ih (k + 1) (by omega)
      rw [hwV, if_neg h2] at this
      exact g_loc rfl this
    · refine g_iinc_n (c := 1) dX0_hoursWithoutTenant_20 rfl (by decide) (by decide) ?_
      refine g_iinc_n (c := 1) dX0_hoursWithoutTenant_23 rfl (by decide) (by decide) ?_
      refine g_goto (tgt := 4) dX0_hoursWithoutTenant_26 (by decide) ?_
      have := ih (k + 1) (by omega)
      rw [hwV, if_pos h2] at this
      exact g_loc rfl this
theorem kX0_hoursWithoutTenant {l : List Nat} (hp : pL Y l) {h : Nat} (hh : h < 1048576) : Cn mX0_hoursWithoutTenant 2 0 0 none [.ref 67, .int (nI h)] (cM M0 Y) (zi (nI (hwV Y h l 24)) (fun M' => M' = cM M0 Y)) := by
  refine g_iconst (v := nI 0) dX0_hoursWithoutTenant_0 (by decide) ?_
  refine g_istore_n dX0_hoursWithoutTenant_1 (by decide) ?_
  refine g_iconst (v := nI 0) dX0_hoursWithoutTenant_2 (by decide) ?_
  refine g_istore_n dX0_hoursWithoutTenant_3 (by decide) ?_
  exact g_loc rfl (hw1 hp hh 24 0 (by omega))
end PLAN2
