/-! the class: the weeks of a let -/
def shU (x : Int32) (k : Nat) : Int32 := (x.toUInt32 >>> ((nI k).toUInt32 &&& Int32.toUInt32 31)).toInt32
def bc1 (x : Int32) : Int32 := x - (shU x 1 &&& 1431655765)
def bc2 (x : Int32) : Int32 := (x &&& 858993459) + (shU x 2 &&& 858993459)
def bc3 (x : Int32) : Int32 := (x + shU x 4) &&& 252645135
def bc4 (x : Int32) : Int32 := x + shU x 8
def bc5 (x : Int32) : Int32 := x + shU x 16
def bcE (x : Int32) : Int32 := bc5 (bc4 (bc3 (bc2 (bc1 x)))) &&& nI 63
theorem bcE_64 : ∀ a, a < 64 → ∀ b, b < 64 → bcE (nI (64 * a + b)) = nI (bc12 (64 * a + b)) := by decide +kernel
theorem bcE_ok (n : Nat) (hn : n < 4096) : bcE (nI n) = nI (bc12 n) := by
  have := bcE_64 (n / 64) (by omega) (n % 64) (by omega)
  rwa [show 64 * (n / 64) + n % 64 = n by omega] at this
def lvW (W w : Nat) : Nat := W &&& (4294967295 - 2 ^ w)
theorem lvW_i (W : Nat) {w : Nat} (hw : w < 12) : nI W &&& (nI (2 ^ w) ^^^ (-1)) = nI (lvW W w) := by
  rw [show nI (2 ^ w) ^^^ (-1) = nI (4294967295 - 2 ^ w) from (show ∀ w, w < 12 → nI (2 ^ w) ^^^ (-1) = nI (4294967295 - 2 ^ w) by decide +kernel) w hw, nI_and]
  rfl
theorem lvW_le (W w : Nat) : lvW W w ≤ W := Nat.and_le_left
def fdV (v : Nat → Nat) : Nat → Nat → Int32
  | 0, _ => -1
  | n + 1, k => if v 9 / 2 ^ k % 2 = 1 then nI (7 * k + v 1) else fdV v n (k + 1)
section LET2
variable {M M0 : zM} {Y : Nat → Nat → Nat}
theorem g_ldcw {mi : zI} {d kc ks : Nat} {nx : Option Nat} {pc : Nat} {L : List (Nat × Value)} {S : List Value} {F : zP} {i : Nat} {v : Int32} (hd : decode mi.2.2.1 pc = .ok (.ldc_w i, 3)) (hw : Cond.constant mi.2.1 i v ∈ SW) (k : G mi d kc ks nx (pc + 3) L (.int v :: S) M F) : G mi d kc ks nx pc L (S) M F := by
  intro l p e R s m args below meth c g mc ms C H locs cells slots ls X
  exact lv_ldcw C.1 C.2.1 C.2.2.2.2.2.2.1 (C.2.2.2.2.2.2.2.1 _ hw) hd (k l p e R s m args below meth c g mc ms C H locs cells slots ls X)
theorem kJ_bitCount {n : Nat} (hn : n < 4096) : Cn mJ6_bitCount_0f7a4 0 0 0 none [.int (nI n)] M (zi (nI (bc12 n)) (fun M' => M' = M)) := by
  refine g_iload_n dJ6_bitCount_0f7a4_0 rfl ?_
  refine g_iload_n dJ6_bitCount_0f7a4_1 rfl ?_
  refine g_iconst (v := nI 1) dJ6_bitCount_0f7a4_2 (by decide) ?_
  refine g_iushr (v := shU (nI n) 1) dJ6_bitCount_0f7a4_3 rfl ?_
  refine g_ldcw dJ6_bitCount_0f7a4_4 q402 ?_
  refine g_iand dJ6_bitCount_0f7a4_7 ?_
  refine g_isub dJ6_bitCount_0f7a4_8 ?_
  generalize hx1 : nI n - (shU (nI n) 1 &&& 1431655765) = x1
  refine g_istore_n dJ6_bitCount_0f7a4_9 (by decide) ?_
  refine g_iload_n dJ6_bitCount_0f7a4_10 rfl ?_
  refine g_ldcw dJ6_bitCount_0f7a4_11 q403 ?_
  refine g_iand dJ6_bitCount_0f7a4_14 ?_
  refine g_iload_n dJ6_bitCount_0f7a4_15 rfl ?_
  refine g_iconst (v := nI 2) dJ6_bitCount_0f7a4_16 (by decide) ?_
  refine g_iushr (v := shU x1 2) dJ6_bitCount_0f7a4_17 rfl ?_
  refine g_ldcw dJ6_bitCount_0f7a4_18 q403 ?_
  refine g_iand dJ6_bitCount_0f7a4_21 ?_
  refine g_iadd dJ6_bitCount_0f7a4_22 ?_
  generalize hx2 : (x1 &&& 858993459) + (shU x1 2 &&& 858993459) = x2
  refine g_istore_n dJ6_bitCount_0f7a4_23 (by decide) ?_
  refine g_iload_n dJ6_bitCount_0f7a4_24 rfl ?_
  refine g_iload_n dJ6_bitCount_0f7a4_25 rfl ?_
  refine g_iconst (v := nI 4) dJ6_bitCount_0f7a4_26 (by decide) ?_
  refine g_iushr (v := shU x2 4) dJ6_bitCount_0f7a4_27 rfl ?_
  refine g_iadd dJ6_bitCount_0f7a4_28 ?_
  refine g_ldcw dJ6_bitCount_0f7a4_29 q404 ?_
  refine g_iand dJ6_bitCount_0f7a4_32 ?_
  generalize hx3 : (x2 + shU x2 4) &&& 252645135 = x3
  refine g_istore_n dJ6_bitCount_0f7a4_33 (by decide) ?_
  refine g_iload_n dJ6_bitCount_0f7a4_34 rfl ?_
  refine g_iload_n dJ6_bitCount_0f7a4_35 rfl ?_
  refine g_bipush (v := nI 8) dJ6_bitCount_0f7a4_36 (by decide) ?_
  refine g_iushr (v := shU x3 8) dJ6_bitCount_0f7a4_38 rfl ?_
  refine g_iadd dJ6_bitCount_0f7a4_39 ?_
  generalize hx4 : x3 + shU x3 8 = x4
  refine g_istore_n dJ6_bitCount_0f7a4_40 (by decide) ?_
  refine g_iload_n dJ6_bitCount_0f7a4_41 rfl ?_
  refine g_iload_n dJ6_bitCount_0f7a4_42 rfl ?_
  refine g_bipush (v := nI 16) dJ6_bitCount_0f7a4_43 (by decide) ?_
  refine g_iushr (v := shU x4 16) dJ6_bitCount_0f7a4_45 rfl ?_
  refine g_iadd dJ6_bitCount_0f7a4_46 ?_
  generalize hx5 : x4 + shU x4 16 = x5
  refine g_istore_n dJ6_bitCount_0f7a4_47 (by decide) ?_
  refine g_iload_n dJ6_bitCount_0f7a4_48 rfl ?_
  refine g_bipush (v := nI 63) dJ6_bitCount_0f7a4_49 (by decide) ?_
  refine g_iand dJ6_bitCount_0f7a4_51 ?_
  refine g_ireturn dJ6_bitCount_0f7a4_52 rfl rfl ⟨rfl, ?_, rfl⟩
  rw [← bcE_ok n hn]
  subst hx5 hx4 hx3 hx2 hx1
  rfl
theorem kX1_daysStanding {a : Nat} (ha : kq a = 1) (hv : vB (Y a)) : Cn mX1_daysStanding 1 0 0 none [.ref a] (cM M0 Y) (zi (nI (bc12 (Y a 9))) (fun M' => M' = cM M0 Y)) := by
  refine g_aload_n dX1_daysStanding_0 rfl ?_
  refine g_get fX1_43 dX1_daysStanding_1 (cM_L ha) rfl ?_
  refine g_callS_i (kJ_bitCount hv.2.1) oJ6_bitCount_0f7a4 pJ6_bitCount_0f7a4 lX1_46 dX1_daysStanding_4 rfl rfl (Nat.le_of_ble_eq_true rfl) (Nat.le_of_ble_eq_true rfl) (by decide) (fun M' h' => ?_)
  subst h'
  exact g_ireturn dX1_daysStanding_7 rfl rfl ⟨rfl, rfl, rfl⟩
theorem kX1_rentsInAll {a : Nat} (ha : kq a = 1) (hv : vB (Y a)) : Cn mX1_rentsInAll 2 0 0 none [.ref a] (cM M0 Y) (zi (nI (Y a 6 * bc12 (Y a 9))) (fun M' => M' = cM M0 Y)) := by
  refine g_aload_n dX1_rentsInAll_0 rfl ?_
  refine g_get fX1_34 dX1_rentsInAll_1 (cM_L ha) rfl ?_
  refine g_aload_n dX1_rentsInAll_4 rfl ?_
  refine g_callV_i (kX1_daysStanding ha hv) oX1_daysStanding pX1_daysStanding lX1_52 dX1_rentsInAll_5 rfl (cM_L ha) rfl rfl rfl (Nat.le_of_ble_eq_true rfl) (Nat.le_of_ble_eq_true rfl) (by decide) (fun M' h' => ?_)
  subst h'
  refine g_imul_n dX1_rentsInAll_8 ?_
  exact g_ireturn dX1_rentsInAll_9 rfl rfl ⟨rfl, rfl, rfl⟩
theorem kX1_leaveOut {a day : Nat} (ha : kq a = 1) (hd : day < 84) : Cn mX1_leaveOut 0 0 0 none [.ref a, .int (nI day)] (cM M0 Y) (zv (fun M' => M' = cM M0 (uA Y a (uN (Y a) 9 (lvW (Y a 9) (day / 7)))))) := by
  refine g_aload_n dX1_leaveOut_0 rfl ?_
  refine g_dup dX1_leaveOut_1 rfl ?_
  refine g_get fX1_43 dX1_leaveOut_2 (cM_L ha) rfl ?_
  refine g_iconst (v := nI 1) dX1_leaveOut_5 (by decide) ?_
  refine g_iload_n dX1_leaveOut_6 rfl ?_
  refine g_bipush (v := nI 7) dX1_leaveOut_7 (by decide) ?_
  refine g_idiv_n dX1_leaveOut_9 (by omega) (by omega) (by omega) ?_
  refine g_ishl_n dX1_leaveOut_10 (by omega) ?_
  refine g_iconst (v := (-1)) dX1_leaveOut_11 (by decide) ?_
  refine g_ixor dX1_leaveOut_12 ?_
  refine g_iand dX1_leaveOut_13 ?_
  rw [lvW_i _ (by omega)]
  refine g_cpL fX1_43 dX1_leaveOut_14 ha (by decide) ?_
  exact g_return dX1_leaveOut_17 rfl ⟨rfl, rfl, rfl⟩
theorem fdv1 {a : Nat} (ha : kq a = 1) (hv : vB (Y a)) : ∀ n k, k + n = 12 → G mX1_firstDay 0 0 0 none 2 [(0, .ref a), (1, .int (nI k))] [] (cM M0 Y) (zi (fdV (Y a) n k) (fun M' => M' = cM M0 Y)) := by
  have h9 := hv.2.1
  intro n
  induction n with
  | zero =>
    intro k hk
    refine g_iload_n dX1_firstDay_2 rfl ?_
    refine g_bipush (v := nI 12) dX1_firstDay_3 (by decide) ?_
    refine g_icmp_ge_n (tgt := 36) dX1_firstDay_5 (by decide) (by omega) (by omega) (fun h1 => ?_) (fun h1 => ?_)
    · refine g_iconst (v := (-1)) dX1_firstDay_36 (by decide) ?_
      exact g_ireturn dX1_firstDay_37 rfl rfl ⟨rfl, rfl, rfl⟩
    · omega
  | succ n ih =>
    intro k hk
    refine g_iload_n dX1_firstDay_2 rfl ?_
    refine g_bipush (v := nI 12) dX1_firstDay_3 (by decide) ?_
    refine g_icmp_ge_n (tgt := 36) dX1_firstDay_5 (by decide) (by omega) (by omega) (fun h1 => ?_) (fun h1 => ?_)
    · omega
    refine g_aload_n dX1_firstDay_8 rfl ?_
    refine g_get fX1_43 dX1_firstDay_9 (cM_L ha) rfl ?_
    refine g_iload_n dX1_firstDay_12 rfl ?_
    refine g_ishr_n dX1_firstDay_13 (by omega) (by omega) ?_
    refine g_iconst (v := nI 1) dX1_firstDay_14 (by decide) ?_
    refine g_iand1_n dX1_firstDay_15 ?_
    refine g_iconst (v := nI 1) dX1_firstDay_16 (by decide) ?_
    refine g_icmp_ne_n (tgt := 30) dX1_firstDay_17 (by decide) (by omega) (by omega) (fun h2 => ?_) (fun h2 => ?_)
    · refine g_iinc_n (c := 1) dX1_firstDay_30 rfl (by decide) (by decide) ?_
      refine g_goto (tgt := 2) dX1_firstDay_33 (by decide) ?_
      have := ih (k + 1) (by omega)
      rw [show fdV (Y a) (n + 1) k = fdV (Y a) n (k + 1) by simp [fdV, h2]]
      exact g_loc rfl this
    · refine g_bipush (v := nI 7) dX1_firstDay_20 (by decide) ?_
      refine g_iload_n dX1_firstDay_22 rfl ?_
      refine g_imul_n dX1_firstDay_23 ?_
      refine g_aload_n dX1_firstDay_24 rfl ?_
      refine g_get fX1_15 dX1_firstDay_25 (cM_L ha) rfl ?_
      refine g_iadd_n dX1_firstDay_28 ?_
      refine g_ireturn dX1_firstDay_29 rfl rfl ⟨rfl, ?_, rfl⟩
      simp [fdV, h2]
theorem kX1_firstDay {a : Nat} (ha : kq a = 1) (hv : vB (Y a)) : Cn mX1_firstDay 0 0 0 none [.ref a] (cM M0 Y) (zi (fdV (Y a) 12 0) (fun M' => M' = cM M0 Y)) := by
  refine g_iconst (v := nI 0) dX1_firstDay_0 (by decide) ?_
  refine g_istore_n dX1_firstDay_1 (by decide) ?_
  exact g_loc rfl (fdv1 ha hv 12 0 (by omega))
end LET2
