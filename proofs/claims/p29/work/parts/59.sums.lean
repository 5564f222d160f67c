/-! the class: sums -/
def sfT (Y : Nat → Nat → Nat) (te : Int32) (w : Nat) : Nat := sfV (rV Y 10) te w (Y 10 1) + sfV (rV Y 20) te w (Y 20 1)
def btC (Y : Nat → Nat → Nat) : Nat → Int32 × Nat
  | 0 => (-1, 0)
  | n + 1 => if (btC Y n).2 < sfT Y (nI n) 2 then (nI n, sfT Y (nI n) 2) else btC Y n
def hiT (Y : Nat → Nat → Nat) (h : Nat) : Nat := hiV (rV Y 10) h (Y 10 1) + hiV (rV Y 20) h (Y 20 1)
section SUMS
variable {M M0 : zM} {Y : Nat → Nat → Nat}
theorem btc1 (hw : wS Y 9) (hb : ∀ n, n < 20 → sfT Y (nI n) 2 < 2 ^ 31) : ∀ u n, n + u = 20 → (btC Y n).2 < 2 ^ 31 → G mX5_best 8 0 0 none 6 [(0, .ref 8), (1, .int (btC Y n).1), (2, .int (nI (btC Y n).2)), (3, .int (nI n))] [] (cM M0 Y) (zi (btC Y 20).1 (fun M' => M' = cM M0 Y)) := by
  intro u
  induction u with
  | zero =>
    intro n hn h2
    have : n = 20 := by omega
    subst this
    refine g_iload_n dX5_best_6 rfl ?_
    refine g_bipush (v := nI 20) dX5_best_7 (by decide) ?_
    refine g_icmp_ge_n (tgt := 40) dX5_best_9 (by decide) (by omega) (by omega) (fun h1 => ?_) (fun h1 => ?_)
    · refine g_iload_n dX5_best_40 rfl ?_
      exact g_ireturn dX5_best_41 rfl rfl ⟨rfl, rfl, rfl⟩
    · omega
  | succ u ih =>
    intro n hn h2
    have hbn := hb n (by omega)
    refine g_iload_n dX5_best_6 rfl ?_
    refine g_bipush (v := nI 20) dX5_best_7 (by decide) ?_
    refine g_icmp_ge_n (tgt := 40) dX5_best_9 (by decide) (by omega) (by omega) (fun h1 => ?_) (fun h1 => ?_)
    · omega
    refine g_aload_n dX5_best_12 rfl ?_
    refine g_get fX5_10 dX5_best_13 (cM_H rfl) rfl ?_
    refine g_iload_n dX5_best_16 rfl ?_
    refine g_iconst (v := nI 2) dX5_best_17 (by decide) ?_
    refine g_callV_i (kX4_sumFor (te := nI n) (w := 2) sb9 hw (by omega)) oX4_sumFor pX4_sumFor lX5_249 dX5_best_18 rfl (cM_S rfl) rfl rfl rfl (Nat.le_of_ble_eq_true rfl) (Nat.le_of_ble_eq_true rfl) (by decide) (fun M' h' => ?_)
    subst h'
    refine g_istore dX5_best_21 (by decide) ?_
    refine g_iload dX5_best_23 rfl ?_
    refine g_iload_n dX5_best_25 rfl ?_
    refine g_icmp_le_n (a := sfT Y (nI n) 2) (b := (btC Y n).2) (tgt := 34) dX5_best_26 (by decide) hbn h2 (fun h3 => ?_) (fun h3 => ?_)
    · refine g_iinc_n (c := 1) dX5_best_34 rfl (by decide) (by decide) ?_
      refine g_goto (tgt := 6) dX5_best_37 (by decide) ?_
      have := ih (n + 1) (by omega) (by rw [btC, if_neg (by omega)]; exact h2)
      rw [btC, if_neg (by omega)] at this
      exact g_loc rfl this
    · refine g_iload dX5_best_29 rfl ?_
      refine g_istore_n dX5_best_31 (by decide) ?_
      refine g_iload_n dX5_best_32 rfl ?_
      refine g_istore_n dX5_best_33 (by decide) ?_
      refine g_iinc_n (c := 1) dX5_best_34 rfl (by decide) (by decide) ?_
      refine g_goto (tgt := 6) dX5_best_37 (by decide) ?_
      have := ih (n + 1) (by omega) (by rw [btC, if_pos h3]; exact hbn)
      rw [btC, if_pos h3] at this
      exact g_loc rfl this
theorem kX5_best (hw : wS Y 9) (hb : ∀ n, n < 20 → sfT Y (nI n) 2 < 2 ^ 31) : Cn mX5_best 8 0 0 none [.ref 8] (cM M0 Y) (zi (btC Y 20).1 (fun M' => M' = cM M0 Y)) := by
  refine g_iconst (v := (-1)) dX5_best_0 (by decide) ?_
  refine g_istore_n dX5_best_1 (by decide) ?_
  refine g_iconst (v := nI 0) dX5_best_2 (by decide) ?_
  refine g_istore_n dX5_best_3 (by decide) ?_
  refine g_iconst (v := nI 0) dX5_best_4 (by decide) ?_
  refine g_istore_n dX5_best_5 (by decide) ?_
  exact g_loc rfl (btc1 hw hb 20 0 (by omega) (show (0 : Nat) < 2 ^ 31 by decide))
theorem kX5_fullness1 (v : Int32) (h : zin v (nI 0) (nI 2) = false) : Cn mX5_fullness 8 1 6 none [.ref 8, .int v] M (zt eB (fun M' => M' = M)) := by
  refine g_iload_n dX5_fullness_0 rfl ?_
  exact g_callS_t rfl (kX5_needHall1 h) oX5_needHall pX5_needHall lX5_44 dX5_fullness_1 rfl rfl (Nat.le_of_ble_eq_true rfl) (Nat.le_of_ble_eq_true rfl) (by decide) (by decide) (by decide) (fun M1 h1 => ⟨rfl, rfl, h1⟩)
theorem kX5_fullness (hw : wS Y 9) {h : Nat} (hh : h ≤ 2) : Cn mX5_fullness 8 0 0 none [.ref 8, .int (nI h)] (cM M0 Y) (zd (FP.ddiv (FP.i2d (nI (hiT Y h))) 4656581277212737536) (fun M' => M' = cM M0 Y)) := by
  refine g_iload_n dX5_fullness_0 rfl ?_
  refine g_callS_v (kX5_needHall (zin_t (by omega) hh (by decide))) oX5_needHall pX5_needHall lX5_44 dX5_fullness_1 rfl rfl (Nat.le_of_ble_eq_true rfl) (Nat.le_of_ble_eq_true rfl) (by decide) (fun M' h' => ?_)
  subst h'
  refine g_aload_n dX5_fullness_4 rfl ?_
  refine g_get fX5_10 dX5_fullness_5 (cM_H rfl) rfl ?_
  refine g_get fX5_60 dX5_fullness_8 (cM_S rfl) rfl ?_
  refine g_iload_n dX5_fullness_11 rfl ?_
  refine g_callV_i (kX3_hoursIn (h := h) (by omega) sb9.2.1 hw.1) oX3_hoursIn pX3_hoursIn lX5_269 dX5_fullness_12 rfl (cM_R rfl) rfl rfl rfl (Nat.le_of_ble_eq_true rfl) (Nat.le_of_ble_eq_true rfl) (by decide) (fun M' h' => ?_)
  subst h'
  refine g_aload_n dX5_fullness_15 rfl ?_
  refine g_get fX5_10 dX5_fullness_16 (cM_H rfl) rfl ?_
  refine g_get fX5_112 dX5_fullness_19 (cM_S rfl) rfl ?_
  refine g_iload_n dX5_fullness_22 rfl ?_
  refine g_callV_i (kX3_hoursIn (h := h) (by omega) sb9.2.2.1 hw.2) oX3_hoursIn pX3_hoursIn lX5_269 dX5_fullness_23 rfl (cM_R rfl) rfl rfl rfl (Nat.le_of_ble_eq_true rfl) (Nat.le_of_ble_eq_true rfl) (by decide) (fun M' h' => ?_)
  subst h'
  refine g_iadd_n dX5_fullness_26 ?_
  refine g_i2d dX5_fullness_27 ?_
  refine g_ldcd dX5_fullness_28 q516 ?_
  refine g_ddiv dX5_fullness_31 (vf_of64 (z2016 _)) ?_
  exact g_dreturn dX5_fullness_32 rfl ⟨rfl, rfl, rfl⟩
end SUMS
