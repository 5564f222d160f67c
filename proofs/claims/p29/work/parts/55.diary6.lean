/-! the class: the first free hour -/
def dB (v : Nat → Nat) : Prop := (∀ j, j < 9 → v j < 1048576) ∧ v 9 < 4096
def fhV (Y : Nat → Nat → Nat) (h day hrs rk : Nat) : Nat → Nat → Int32
  | 0, _ => -1
  | n + 1, f => if f + hrs ≤ 24 then (if rsV Y (mkV h (day % 7) f (f + hrs) rk 0 0 0 0 0) day = 0 then nI f else fhV Y h day hrs rk n (f + 1)) else -1
theorem pL_70 {Y : Nat → Nat → Nat} {l : List Nat} (h : pL Y l) (h70 : ∀ a ∈ l, a ≠ 70) (v : Nat → Nat) : pL (uA Y 70 v) l := ⟨by rw [uA_n _ _ (by omega)]; exact h.1, by rw [uA_n _ _ (by omega)]; exact h.2.1, fun a ha => ⟨(h.2.2.1 a ha).1, by rw [uA_n _ _ (h70 a ha)]; exact (h.2.2.1 a ha).2⟩, h.2.2.2⟩
theorem plA_B {v : Nat → Nat} (hv : dB v) {h d f t : Nat} (hh : h ≤ 2) (hd : d ≤ 6) (hft : f < t) (ht : t ≤ 24) : vB (plA v h d f t) ∧ dB (plA v h d f t) := by
  have key : ∀ j, j < 9 → plA v h d f t j < 1048576 := fun j hj => by
    have := hv.1 j hj
    simp only [plA, uN]
    repeat' split
    all_goals omega
  exact ⟨⟨key, hv.2, hft, hh⟩, key, hv.2⟩
theorem rsC_le (V : Nat → Nat → Nat) (c o : Nat) (l : List Nat) : rsC V c o l ≤ 3 := by
  unfold rsC
  cases l.any _
  · cases cbW _ _ _ _ _ _ <;> decide
  · show 2 ≤ 3
    decide
section DIARY6
variable {M M0 : zM}
theorem fh1 {Y : Nat → Nat → Nat} (hC : wC Y) (hw : wS Y 9) {h day hrs rk : Nat} (hh : h ≤ 2) (hd : day < 84) (h1 : 1 ≤ hrs) (h24 : hrs ≤ 24) (F : zP) (hF : ∀ Y1 v, dB v → v 4 = rk → scr (uA Y 70 v) Y1 → F (cM M0 Y1) none (.inl (some (.int (fhV Y h day hrs rk 25 0))))) : ∀ n f Y1 v, f + n = 25 → dB v → v 4 = rk → scr (uA Y 70 v) Y1 → pL Y1 (opL Y 9 day) → fhV Y h day hrs rk n f = fhV Y h day hrs rk 25 0 → G mX5_firstFreeHour 5 0 0 none 15 [(0, .ref 8), (1, .int (nI h)), (2, .int (nI day)), (3, .int (nI hrs)), (4, .int (nI f))] [] (cM M0 Y1) F := by
  have h70 : ∀ a ∈ opL Y 9 day, a ≠ 70 := fun a ha => opL_70 hw ha
  intro n
  induction n with
  | zero =>
    intro f Y1 v hf hv hrk hs hp he
    refine g_iload dX5_firstFreeHour_15 rfl ?_
    refine g_iload_n dX5_firstFreeHour_17 rfl ?_
    refine g_iadd_n dX5_firstFreeHour_18 ?_
    refine g_bipush (v := nI 24) dX5_firstFreeHour_19 (by decide) ?_
    refine g_icmp_gt_n (tgt := 74) dX5_firstFreeHour_21 (by decide) (by omega) (by omega) (fun h2 => ?_) (fun h2 => ?_)
    · refine g_iconst (v := (-1)) dX5_firstFreeHour_74 (by decide) ?_
      have := hF Y1 v hv hrk hs
      rw [← he] at this
      exact g_ireturn dX5_firstFreeHour_75 rfl rfl this
    · omega
  | succ n ih =>
    intro f Y1 v hf hv hrk hs hp he
    rw [fhV] at he
    refine g_iload dX5_firstFreeHour_15 rfl ?_
    refine g_iload_n dX5_firstFreeHour_17 rfl ?_
    refine g_iadd_n dX5_firstFreeHour_18 ?_
    refine g_bipush (v := nI 24) dX5_firstFreeHour_19 (by decide) ?_
    refine g_icmp_gt_n (tgt := 74) dX5_firstFreeHour_21 (by decide) (by omega) (by omega) (fun h2 => ?_) (fun h2 => ?_)
    · rw [if_neg (by omega)] at he
      refine g_iconst (v := (-1)) dX5_firstFreeHour_74 (by decide) ?_
      exact g_ireturn dX5_firstFreeHour_75 rfl rfl (he ▸ hF Y1 v hv hrk hs)
    rw [if_pos h2] at he
    have e70 : Y1 70 = v := by rw [hs 70 (by omega) (by omega) (by omega), uA_s]
    refine g_aload_n dX5_firstFreeHour_24 rfl ?_
    refine g_get fX5_40 dX5_firstFreeHour_25 (cM_H rfl) rfl ?_
    refine g_iload_n dX5_firstFreeHour_28 rfl ?_
    refine g_iload_n dX5_firstFreeHour_29 rfl ?_
    refine g_bipush (v := nI 7) dX5_firstFreeHour_30 (by decide) ?_
    refine g_irem_n dX5_firstFreeHour_32 (by omega) (by omega) (by omega) ?_
    refine g_iload dX5_firstFreeHour_33 rfl ?_
    refine g_iload dX5_firstFreeHour_35 rfl ?_
    refine g_iload_n dX5_firstFreeHour_37 rfl ?_
    refine g_iadd_n dX5_firstFreeHour_38 ?_
    refine g_callV_v (kX1_place (a := 70) rfl) oX1_place pX1_place lX5_338 dX5_firstFreeHour_39 rfl (cM_L rfl) rfl rfl rfl (Nat.le_of_ble_eq_true rfl) (Nat.le_of_ble_eq_true rfl) (by decide) (fun M' h' => ?_)
    subst h'
    rw [e70]
    obtain ⟨b1, b2⟩ := plA_B hv (h := h) (d := day % 7) (f := f) (t := f + hrs) hh (by omega) (by omega) h2
    have hs2 : scr (uA Y 70 (plA v h (day % 7) f (f + hrs))) (uA Y1 70 (plA v h (day % 7) f (f + hrs))) := fun a a1 a2 a3 => by
      by_cases ha : a = 70
      · subst ha; rw [uA_s, uA_s]
      · rw [uA_n _ _ ha, uA_n _ _ ha, hs a a1 a2 a3, uA_n _ _ ha]
    have hp2 := pL_70 hp h70 (plA v h (day % 7) f (f + hrs))
    generalize hY2 : uA Y1 70 (plA v h (day % 7) f (f + hrs)) = Y2 at hs2 hp2
    have e2 : Y2 70 = plA v h (day % 7) f (f + hrs) := by rw [← hY2, uA_s]
    have e35 : Y2 35 = Y 35 := by rw [hs2 35 (by omega) (by omega) (by omega), uA_n _ _ (by omega)]
    refine g_aload_n dX5_firstFreeHour_42 rfl ?_
    refine g_get fX5_33 dX5_firstFreeHour_43 (cM_H rfl) rfl ?_
    refine g_aload_n dX5_firstFreeHour_46 rfl ?_
    refine g_get fX5_40 dX5_firstFreeHour_47 (cM_H rfl) rfl ?_
    refine g_aload_n dX5_firstFreeHour_50 rfl ?_
    refine g_get fX5_10 dX5_firstFreeHour_51 (cM_H rfl) rfl ?_
    refine g_get fX5_162 dX5_firstFreeHour_54 (cM_S rfl) rfl ?_
    refine g_iconst (v := nI 0) dX5_firstFreeHour_57 (by decide) ?_
    refine g_cil dX5_firstFreeHour_58 kI_set (by omega) ?_
    refine g_callV_i (kX0_reasonAgainst hp2 (c := Y2 35 0) (o := 70) (by rw [e35]; have := hC.1; omega) rfl (by rw [e2]; exact b1)) oX0_reasonAgainst pX0_reasonAgainst lX5_344 dX5_firstFreeHour_59 rfl (cM_P rfl) rfl rfl rfl (Nat.le_of_ble_eq_true rfl) (Nat.le_of_ble_eq_true rfl) (by decide) (fun M' h' => ?_)
    obtain ⟨fr, cf, rfl⟩ := h'
    have hR : rsC Y2 (Y2 35 0) 70 (opL Y 9 day) = rsV Y (mkV h (day % 7) f (f + hrs) rk 0 0 0 0 0) day := by
      rw [rsV, e35]
      refine rsC_5 ?_ (fun a ha => ?_)
      · rw [e2, uA_s]
        exact ⟨rfl, rfl, rfl, hrk⟩
      · rw [scr_L hs2 (opL_G sb9 hw a ha).1, uA_n _ _ (h70 a ha), uA_n _ _ (h70 a ha)]
    rw [hR]
    have hs3 : scr (uA Y 70 (plA v h (day % 7) f (f + hrs))) (clY Y2 fr cf) := scr_t hs2 (fun a a1 a2 a3 => clY_o _ _ _ a1 a3)
    have hrk3 : plA v h (day % 7) f (f + hrs) 4 = rk := hrk
    have hle := rsC_le (uA Y 70 (mkV h (day % 7) f (f + hrs) rk 0 0 0 0 0)) (Y 35 0) 70 (opL Y 9 day)
    have hle2 : rsV Y (mkV h (day % 7) f (f + hrs) rk 0 0 0 0 0) day ≤ 3 := hle
    refine g_if_ne_n (tgt := 68) dX5_firstFreeHour_62 (by decide) (by omega) (fun h3 => ?_) (fun h3 => ?_)
    · rw [if_neg h3] at he
      refine g_iinc_n (c := 1) dX5_firstFreeHour_68 rfl (by decide) (by decide) ?_
      refine g_goto (tgt := 15) dX5_firstFreeHour_71 (by decide) ?_
      exact g_loc rfl (ih (f + 1) _ _ (by omega) b2 hrk3 hs3 (pL_cl hp2 fr cf) he)
    · rw [if_pos h3] at he
      refine g_iload dX5_firstFreeHour_65 rfl ?_
      exact g_ireturn dX5_firstFreeHour_67 rfl rfl (he ▸ hF _ _ b2 hrk3 hs3)
theorem kX5_firstFreeHour {Y : Nat → Nat → Nat} (hC : wC Y) (hw : wS Y 9) (hv : dB (Y 70)) {h day hrs : Nat} (hh : h ≤ 2) (hd : day < 84) (h1 : 1 ≤ hrs) (h24 : hrs ≤ 24) : Cn mX5_firstFreeHour 5 0 0 none [.ref 8, .int (nI h), .int (nI day), .int (nI hrs)] (cM M0 Y) (zi (fhV Y h day hrs (Y 70 4) 25 0) (fun M' => ∃ Y1 v, M' = cM M0 Y1 ∧ dB v ∧ v 4 = Y 70 4 ∧ scr (uA Y 70 v) Y1)) := by
  refine g_aload_n dX5_firstFreeHour_0 rfl ?_
  refine g_get fX5_33 dX5_firstFreeHour_1 (cM_H rfl) rfl ?_
  refine g_aload_n dX5_firstFreeHour_4 rfl ?_
  refine g_get fX5_10 dX5_firstFreeHour_5 (cM_H rfl) rfl ?_
  refine g_iload_n dX5_firstFreeHour_8 rfl ?_
  refine g_callV_v (kX0_open sb9 (by omega) hw hd) oX0_open pX0_open lX5_233 dX5_firstFreeHour_9 rfl (cM_P rfl) rfl rfl rfl (Nat.le_of_ble_eq_true rfl) (Nat.le_of_ble_eq_true rfl) (by decide) (fun M' h' => ?_)
  obtain ⟨A, rfl, hA⟩ := h'
  refine g_iconst (v := nI 0) dX5_firstFreeHour_12 (by decide) ?_
  refine g_istore dX5_firstFreeHour_13 (by decide) ?_
  have hsc : scr (uA Y 70 (Y 70)) (plY Y A (opL Y 9 day).length) := fun a a1 a2 a3 => by
    rw [plY_o _ _ _ a1 a2]
    by_cases ha : a = 70
    · subst ha; rw [uA_s]
    · rw [uA_n _ _ ha]
  exact g_loc rfl (fh1 hC hw hh hd h1 h24 _ (fun Y1 v a1 a2 a3 => ⟨rfl, rfl, Y1, v, rfl, a1, a2, a3⟩) 25 0 _ (Y 70) (by omega) hv rfl hsc (pL_op sb9 hw hA) rfl)
end DIARY6
