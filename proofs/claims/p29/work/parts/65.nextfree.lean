/-! the class: nextFree -/
/-- the first free hour of all, by the class -/
def nfC (Y : Nat → Nat → Nat) (h hrs : Nat) : Nat → Nat → Int32
  | 0, _ => -1
  | n + 1, day => if fhV Y h day hrs 1 25 0 = -1 then nfC Y h hrs n (day + 1) else nI (24 * day) + fhV Y h day hrs 1 25 0
theorem rsV_s {Y Y1 : Nat → Nat → Nat} {v : Nat → Nat} (hw : wS Y 9) (hs : scr (uA Y 70 v) Y1) (u : Nat → Nat) (day : Nat) : rsV Y1 u day = rsV Y u day := by
  obtain ⟨hwd, hop⟩ := opL_d hw v day
  have e35 : Y1 35 = Y 35 := by rw [hs 35 (by omega) (by omega) (by omega), uA_n _ _ (by omega)]
  rw [rsV, rsV, opL_c hs sb9 hwd, hop, e35]
  refine rsC_5 ?_ (fun a ha => ?_)
  · rw [uA_s, uA_s]; exact ⟨rfl, rfl, rfl, rfl⟩
  · have h70 := opL_70 hw ha
    rw [uA_n _ _ h70, uA_n _ _ h70, scr_L hs (opL_G sb9 hw a ha).1, uA_n _ _ h70]
theorem fhV_s {Y Y1 : Nat → Nat → Nat} {v : Nat → Nat} (hw : wS Y 9) (hs : scr (uA Y 70 v) Y1) (h day hrs rk : Nat) : ∀ n f, fhV Y1 h day hrs rk n f = fhV Y h day hrs rk n f
  | 0, _ => rfl
  | n + 1, f => by simp only [fhV, rsV_s hw hs, fhV_s hw hs h day hrs rk n (f + 1)]
theorem scr_70 {Y Y1 Y2 : Nat → Nat → Nat} {v w : Nat → Nat} (h : scr (uA Y 70 v) Y1) (h2 : scr (uA Y1 70 w) Y2) : scr (uA Y 70 w) Y2 := fun a a1 a2 a3 => by
  rw [h2 a a1 a2 a3]
  by_cases ha : a = 70
  · subst ha; rw [uA_s, uA_s]
  · rw [uA_n _ _ ha, uA_n _ _ ha, h a a1 a2 a3, uA_n _ _ ha]
section NF
variable {M M0 : zM}
theorem nf1 {Y : Nat → Nat → Nat} (hC : wC Y) (hw : wS Y 9) {h bg hrs : Nat} (hh : h ≤ 2) (h1 : 1 ≤ hrs) (h24 : hrs ≤ 24) (F : zP) : ∀ n day Y1 v, day + n = 84 → dB v → v 4 = 1 → scr (uA Y 70 v) Y1 → (∀ Y2 u, dB u → scr (uA Y 70 u) Y2 → F (cM M0 Y2) none (.inl (some (.int (nfC Y h hrs n day))))) → G mX5_nextFree 8 0 0 none 44 [(0, .ref 8), (1, .int (nI h)), (2, .int (nI bg)), (3, .int (nI hrs)), (4, .int (nI day))] [] (cM M0 Y1) F := by
  intro n
  induction n with
  | zero =>
    intro day Y1 v hd hv hrk hs hF
    refine g_iload dX5_nextFree_44 rfl ?_
    refine g_bipush (v := nI 84) dX5_nextFree_46 (by decide) ?_
    refine g_icmp_ge_n (tgt := 82) dX5_nextFree_48 (by decide) (by omega) (by omega) (fun h2 => ?_) (fun h2 => ?_)
    · refine g_iconst (v := (-1)) dX5_nextFree_82 (by decide) ?_
      exact g_ireturn dX5_nextFree_83 rfl rfl (hF Y1 v hv hs)
    · omega
  | succ n ih =>
    intro day Y1 v hd hv hrk hs hF
    have e70 : Y1 70 = v := by rw [hs 70 (by omega) (by omega) (by omega), uA_s]
    have hw1 : wS Y1 9 := wS_c hs sb9 (opL_d hw v 0).1
    have hC1 : wC Y1 := wC_c hs hC
    rw [nfC] at hF
    refine g_iload dX5_nextFree_44 rfl ?_
    refine g_bipush (v := nI 84) dX5_nextFree_46 (by decide) ?_
    refine g_icmp_ge_n (tgt := 82) dX5_nextFree_48 (by decide) (by omega) (by omega) (fun h2 => ?_) (fun h2 => ?_)
    · omega
    refine g_aload_n dX5_nextFree_51 rfl ?_
    refine g_iload_n dX5_nextFree_52 rfl ?_
    refine g_iload dX5_nextFree_53 rfl ?_
    refine g_iload_n dX5_nextFree_55 rfl ?_
    refine g_callV_i (kX5_firstFreeHour hC1 hw1 (by rw [e70]; exact hv) (h := h) (day := day) (hrs := hrs) hh (by omega) h1 h24) oX5_firstFreeHour pX5_firstFreeHour lX5_265 dX5_nextFree_56 rfl (cM_H rfl) rfl rfl rfl (Nat.le_of_ble_eq_true rfl) (Nat.le_of_ble_eq_true rfl) (by decide) (fun M' h' => ?_)
    obtain ⟨Y2, u, rfl, hu, hu4, hs2⟩ := h'
    rw [e70, hrk, fhV_s hw hs]
    rw [e70, hrk] at hu4
    have hs3 := scr_70 hs hs2
    refine g_istore dX5_nextFree_59 (by decide) ?_
    refine g_iload dX5_nextFree_61 rfl ?_
    refine g_iconst (v := -1) dX5_nextFree_63 (by decide) ?_
    refine g_icmp_eq (tgt := 76) dX5_nextFree_64 (by decide) (fun h3 => ?_) (fun h3 => ?_)
    · rw [if_pos h3] at hF
      refine g_iinc_n (c := 1) dX5_nextFree_76 rfl (by decide) (by decide) ?_
      refine g_goto (tgt := 44) dX5_nextFree_79 (by decide) ?_
      exact g_loc rfl (ih (day + 1) Y2 u (by omega) hu hu4 hs3 hF)
    · rw [if_neg h3] at hF
      refine g_bipush (v := nI 24) dX5_nextFree_67 (by decide) ?_
      refine g_iload dX5_nextFree_69 rfl ?_
      refine g_imul_n dX5_nextFree_71 ?_
      refine g_iload dX5_nextFree_72 rfl ?_
      refine g_iadd dX5_nextFree_74 ?_
      exact g_ireturn dX5_nextFree_75 rfl rfl (hF Y2 u hu hs3)
theorem kX5_nextFree1 (v d w : Int32) (h : zin v (nI 0) (nI 2) = false) : Cn mX5_nextFree 8 1 6 none [.ref 8, .int v, .int d, .int w] M (zt eB (fun M' => M' = M)) := by
  refine g_iload_n dX5_nextFree_0 rfl ?_
  exact g_callS_t rfl (kX5_needHall1 h) oX5_needHall pX5_needHall lX5_44 dX5_nextFree_1 rfl rfl (Nat.le_of_ble_eq_true rfl) (Nat.le_of_ble_eq_true rfl) (by decide) (by decide) (by decide) (fun M1 h1 => ⟨rfl, rfl, h1⟩)
theorem kX5_nextFree2 (v d w : Int32) (h : zin v (nI 0) (nI 2) = true) (h2 : (zin d (nI 0) (nI 83) && zin w (nI 1) (nI 24)) = false) : Cn mX5_nextFree 8 1 6 none [.ref 8, .int v, .int d, .int w] M (zt eA (fun M' => M' = M)) := by
  refine g_iload_n dX5_nextFree_0 rfl ?_
  refine g_callS_v (kX5_needHall h) oX5_needHall pX5_needHall lX5_44 dX5_nextFree_1 rfl rfl (Nat.le_of_ble_eq_true rfl) (Nat.le_of_ble_eq_true rfl) (by decide) (fun M' h' => ?_)
  subst h'
  refine g_iload_n dX5_nextFree_4 rfl ?_
  cases hd : zin d (nI 0) (nI 83)
  · exact g_callS_t rfl (kX5_needDay1 hd) oX5_needDay pX5_needDay lX5_97 dX5_nextFree_5 rfl rfl (Nat.le_of_ble_eq_true rfl) (Nat.le_of_ble_eq_true rfl) (by decide) (by decide) (by decide) (fun M1 h1 => ⟨rfl, rfl, h1⟩)
  refine g_callS_v (kX5_needDay hd) oX5_needDay pX5_needDay lX5_97 dX5_nextFree_5 rfl rfl (Nat.le_of_ble_eq_true rfl) (Nat.le_of_ble_eq_true rfl) (by decide) (fun M' h' => ?_)
  subst h'
  refine g_iload_n dX5_nextFree_8 rfl ?_
  refine g_iconst (v := nI 1) dX5_nextFree_9 (by decide) ?_
  refine g_bipush (v := nI 24) dX5_nextFree_10 (by decide) ?_
  refine g_callS_i (kX5_isIn w (nI 1) (nI 24)) oX5_isIn pX5_isIn lX5_48 dX5_nextFree_12 rfl rfl (Nat.le_of_ble_eq_true rfl) (Nat.le_of_ble_eq_true rfl) (by decide) (fun M' h' => ?_)
  subst h'
  rw [show zin w (nI 1) (nI 24) = false by simpa [hd] using h2]
  exact g_callS_t rfl (kX5_need1) oX5_need pX5_need lX5_52 dX5_nextFree_15 rfl rfl (Nat.le_of_ble_eq_true rfl) (Nat.le_of_ble_eq_true rfl) (by decide) (by decide) (by decide) (fun M1 h1 => ⟨rfl, rfl, h1⟩)
theorem kX5_nextFree {Y : Nat → Nat → Nat} (hC : wC Y) (hw : wS Y 9) (hv : dB (Y 70)) {h day hrs : Nat} (hh : h ≤ 2) (hd : day < 84) (h1 : 1 ≤ hrs) (h24 : hrs ≤ 24) : Cn mX5_nextFree 8 0 0 none [.ref 8, .int (nI h), .int (nI day), .int (nI hrs)] (cM M0 Y) (zi (if Y 20 1 = 12 then -1 else nfC Y h hrs (84 - day) day) (fun M' => ∃ Y2 u, M' = cM M0 Y2 ∧ dB u ∧ scr (uA Y 70 u) Y2)) := by
  have h12 : Y 20 1 ≤ 12 := hw.2.2.1
  refine g_iload_n dX5_nextFree_0 rfl ?_
  refine g_callS_v (kX5_needHall (zin_t (by omega) hh (by decide))) oX5_needHall pX5_needHall lX5_44 dX5_nextFree_1 rfl rfl (Nat.le_of_ble_eq_true rfl) (Nat.le_of_ble_eq_true rfl) (by decide) (fun M' h' => ?_)
  subst h'
  refine g_iload_n dX5_nextFree_4 rfl ?_
  refine g_callS_v (kX5_needDay (zin_t (by omega) (by omega) (by decide))) oX5_needDay pX5_needDay lX5_97 dX5_nextFree_5 rfl rfl (Nat.le_of_ble_eq_true rfl) (Nat.le_of_ble_eq_true rfl) (by decide) (fun M' h' => ?_)
  subst h'
  refine g_iload_n dX5_nextFree_8 rfl ?_
  refine g_iconst (v := nI 1) dX5_nextFree_9 (by decide) ?_
  refine g_bipush (v := nI 24) dX5_nextFree_10 (by decide) ?_
  refine g_callS_i (kX5_isIn (nI hrs) (nI 1) (nI 24)) oX5_isIn pX5_isIn lX5_48 dX5_nextFree_12 rfl rfl (Nat.le_of_ble_eq_true rfl) (Nat.le_of_ble_eq_true rfl) (by decide) (fun M' h' => ?_)
  subst h'
  rw [zin_t h1 h24 (by decide)]
  refine g_callS_v (kX5_need) oX5_need pX5_need lX5_52 dX5_nextFree_15 rfl rfl (Nat.le_of_ble_eq_true rfl) (Nat.le_of_ble_eq_true rfl) (by decide) (fun M' h' => ?_)
  subst h'
  refine g_aload_n dX5_nextFree_18 rfl ?_
  refine g_get fX5_10 dX5_nextFree_19 (cM_H rfl) rfl ?_
  refine g_get fX5_112 dX5_nextFree_22 (cM_S rfl) rfl ?_
  refine g_callV_i (kX3_isFull (r := 20) sb9.2.2.1 h12) oX3_isFull pX3_isFull lX5_64 dX5_nextFree_25 rfl (cM_R rfl) rfl rfl rfl (Nat.le_of_ble_eq_true rfl) (Nat.le_of_ble_eq_true rfl) (by decide) (fun M' h' => ?_)
  subst h'
  have e0 : scr (uA Y 70 (Y 70)) Y := fun a a1 a2 a3 => by
    by_cases ha : a = 70
    · subst ha; rw [uA_s]
    · rw [uA_n _ _ ha]
  refine g_if_eq_b (tgt := 33) dX5_nextFree_28 (by decide) (fun h2 => ?_) (fun h2 => ?_)
  rotate_left
  · refine g_iconst (v := -1) dX5_nextFree_31 (by decide) ?_
    refine g_ireturn dX5_nextFree_32 rfl rfl ⟨rfl, ?_, Y, Y 70, rfl, hv, e0⟩
    rw [if_pos (by have := of_decide_eq_true h2; omega)]
  rw [if_neg (by have := of_decide_eq_false h2; omega)]
  refine g_aload_n dX5_nextFree_33 rfl ?_
  refine g_get fX5_40 dX5_nextFree_34 (cM_H rfl) rfl ?_
  refine g_iconst (v := nI 1) dX5_nextFree_37 (by decide) ?_
  refine g_cpL fX5_262 dX5_nextFree_38 rfl (by decide) ?_
  refine g_iload_n dX5_nextFree_41 rfl ?_
  refine g_istore dX5_nextFree_42 (by decide) ?_
  refine g_loc rfl (nf1 hC hw hh h1 h24 _ (84 - day) day _ (uN (Y 70) 4 1) (by omega) ⟨fun j hj => ?_, ?_⟩ (uN_s _ _ _) (scr_r _) (fun Y2 u a1 a2 => ⟨rfl, rfl, Y2, u, rfl, a1, a2⟩))
  · by_cases hj4 : j = 4
    · subst hj4; rw [uN_s]; omega
    · rw [uN_n _ _ hj4]; exact hv.1 j hj
  · rw [uN_n _ _ (by omega)]; exact hv.2
end NF
