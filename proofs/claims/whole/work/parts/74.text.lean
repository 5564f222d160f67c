/-! the class: the buffer and its reading -/
/-- how far the reading has come: slot, digits, numbers -/
abbrev tS : Type := Nat × Nat × (Nat → Nat)
def tN (c : Nat) (s : tS) : Nat := if 0 < s.2.1 then 10 * s.2.2 s.1 + (c - 48) else c - 48
def acT (c : Nat) (s : tS) : Bool × tS :=
  if 48 ≤ c ∧ c ≤ 57 then
    (if 0 < s.2.1 ∧ s.2.2 s.1 = 0 then (false, s)
     else if zLo s.1 ≤ tN c s ∧ tN c s ≤ zHi s.1 then (true, (s.1, s.2.1 + 1, uN s.2.2 s.1 (tN c s)))
     else (false, s))
  else if s.2.1 < 1 ∨ c ≠ zSg s.1 then (false, s) else (true, ((s.1 + 1) % 6, 0, s.2.2))
/-- in range -/
def tB (s : tS) (k : Nat) : Prop := s.1 < 6 ∧ s.2.1 ≤ k ∧ ∀ j, j < 6 → s.2.2 j ≤ 83
theorem zHi_83 (j : Nat) : zHi j ≤ 83 := by
  unfold zHi
  rcases j with _ | _ | _ | _ | _ | _ | j <;> simp
theorem tB_u {s : tS} {k : Nat} (h : tB s k) : tB s (k + 1) := ⟨h.1, by have := h.2.1; omega, h.2.2⟩
theorem acT_B {c : Nat} {s : tS} {k : Nat} (h : tB s k) : tB (acT c s).2 (k + 1) := by
  obtain ⟨h1, h2, h3⟩ := h
  unfold acT
  split
  · split
    · exact tB_u ⟨h1, h2, h3⟩
    · split
      · rename_i h4
        refine ⟨h1, Nat.succ_le_succ h2, fun j hj => ?_⟩
        show uN s.2.2 s.1 (tN c s) j ≤ 83
        by_cases e : j = s.1
        · subst e
          rw [uN_s]
          exact Nat.le_trans h4.2 (zHi_83 _)
        · rw [uN_n _ _ e]
          exact h3 j hj
      · exact tB_u ⟨h1, h2, h3⟩
  · split
    · exact tB_u ⟨h1, h2, h3⟩
    · exact ⟨Nat.mod_lt _ (by decide), Nat.zero_le _, h3⟩
/-- the reading in memory -/
def tY (Y : Nat → Nat → Nat) (s : tS) : Nat → Nat → Nat := uA (uA Y 66 s.2.2) 64 (uN (uN (Y 64) 3 s.1) 4 s.2.1)
theorem tY_1 (Y : Nat → Nat → Nat) (s : tS) : tY Y s 64 1 = Y 64 1 := by rw [tY, uA_s, uN_n _ _ (by omega), uN_n _ _ (by omega)]
theorem tY_3 (Y : Nat → Nat → Nat) (s : tS) : tY Y s 64 3 = s.1 := by rw [tY, uA_s, uN_n _ _ (by omega), uN_s]
theorem tY_4 (Y : Nat → Nat → Nat) (s : tS) : tY Y s 64 4 = s.2.1 := by rw [tY, uA_s, uN_s]
theorem tY_n (Y : Nat → Nat → Nat) (s : tS) : tY Y s 66 = s.2.2 := by rw [tY, uA_n _ _ (by omega), uA_s]
theorem tY_o (Y : Nat → Nat → Nat) (s : tS) {a : Nat} (h : a ≠ 64) (h2 : a ≠ 66) : tY Y s a = Y a := by rw [tY, uA_n _ _ h, uA_n _ _ h2]
theorem uN_c (X : Nat → Nat) {j k : Nat} (v w : Nat) (h : j ≠ k) : uN (uN X j v) k w = uN (uN X k w) j v := by
  funext i
  by_cases h1 : i = k
  · subst h1; rw [uN_s, uN_n _ _ (Ne.symm h), uN_s]
  · by_cases h2 : i = j
    · subst h2; rw [uN_n _ _ h1, uN_s, uN_s]
    · rw [uN_n _ _ h1, uN_n _ _ h2, uN_n _ _ h2, uN_n _ _ h1]
theorem tY_u3 (Y : Nat → Nat → Nat) (s : tS) (v : Nat) : uA (tY Y s) 64 (uN (tY Y s 64) 3 v) = tY Y (v, s.2) := by
  unfold tY
  rw [uA_u, uA_s, uN_c _ _ _ (by omega : 4 ≠ 3), uN_u]
theorem tY_u4 (Y : Nat → Nat → Nat) (s : tS) (v : Nat) : uA (tY Y s) 64 (uN (tY Y s 64) 4 v) = tY Y (s.1, v, s.2.2) := by
  unfold tY
  rw [uA_u, uA_s, uN_u]
theorem tY_un (Y : Nat → Nat → Nat) (s : tS) (X : Nat → Nat) : uA (tY Y s) 66 X = tY Y (s.1, s.2.1, X) := by
  funext a
  by_cases h : a = 66
  · subst h; rw [uA_s, tY_n]
  · rw [uA_n _ _ h]
    by_cases h2 : a = 64
    · subst h2; simp only [tY, uA_s]
    · rw [tY_o _ _ h2 h, tY_o _ _ h2 h]
theorem tY_self (Y : Nat → Nat → Nat) : tY Y (Y 64 3, Y 64 4, Y 66) = Y := by
  funext a
  by_cases h : a = 66
  · subst h; rw [tY_n]
  · by_cases h2 : a = 64
    · subst h2
      funext j
      by_cases h3 : j = 3
      · subst h3; rw [tY_3]
      · by_cases h4 : j = 4
        · subst h4; rw [tY_4]
        · simp only [tY, uA_s]
          rw [uN_n _ _ h4, uN_n _ _ h3]
    · rw [tY_o _ _ h2 h]
/-- the buffer in range -/
def wT (Y : Nat → Nat → Nat) : Prop := Y 64 1 ≤ 60 ∧ ∀ j, j < 60 → Y 65 j < 128
section TEXT
variable {M M0 : zM} {Y : Nat → Nat → Nat}
theorem kX2_isFull (h : Y 64 1 ≤ 60) : Cn mX2_isFull 0 0 0 none [.ref 64] (cM M0 Y) (zi (nI (decide (Y 64 1 = 60)).toNat) (fun M' => M' = cM M0 Y)) := by
  refine g_aload_n dX2_isFull_0 rfl ?_
  refine g_get fX2_16 dX2_isFull_1 (cM_T rfl) rfl ?_
  refine g_bipush (v := nI 60) dX2_isFull_4 (by decide) ?_
  refine g_icmp_lt_n (tgt := 13) dX2_isFull_6 (by decide) (by omega) (by omega) (fun h1 => ?_) (fun h1 => ?_)
  · refine g_iconst (v := nI 0) dX2_isFull_13 (by decide) ?_
    refine g_ireturn dX2_isFull_14 rfl rfl ⟨rfl, ?_, rfl⟩
    rw [show decide (Y 64 1 = 60) = false by simp; omega]
    rfl
  · refine g_iconst (v := nI 1) dX2_isFull_9 (by decide) ?_
    refine g_goto (tgt := 14) dX2_isFull_10 (by decide) ?_
    refine g_ireturn dX2_isFull_14 rfl rfl ⟨rfl, ?_, rfl⟩
    rw [show decide (Y 64 1 = 60) = true by simp; omega]
    rfl
theorem kX2_push (h : Y 64 1 < 60) (c : Nat) : Cn mX2_push 1 0 0 none [.ref 64, .int (nI c)] (cM M0 Y) (zv (fun M' => M' = cM M0 (uA (uA Y 65 (uN (Y 65) (Y 64 1) c)) 64 (uN (Y 64) 1 (Y 64 1 + 1))))) := by
  refine g_aload_n dX2_push_0 rfl ?_
  refine g_callV_i (kX2_isFull (by omega)) oX2_isFull pX2_isFull lX2_20 dX2_push_1 rfl (cM_T rfl) rfl rfl rfl (Nat.le_of_ble_eq_true rfl) (Nat.le_of_ble_eq_true rfl) (by decide) (fun M' h' => ?_)
  subst h'
  rw [show decide (Y 64 1 = 60) = false by simp; omega]
  refine g_if_ne_b (tgt := 27) dX2_push_4 (by decide) (fun h1 => ?_) (fun h1 => ?_)
  · cases h1
  refine g_aload_n dX2_push_7 rfl ?_
  refine g_get fX2_9 dX2_push_8 (cM_T rfl) rfl ?_
  refine g_aload_n dX2_push_11 rfl ?_
  refine g_get fX2_16 dX2_push_12 (cM_T rfl) rfl ?_
  refine g_iload_n dX2_push_15 rfl ?_
  refine g_cia dX2_push_16 kI_codes (by omega) ?_
  refine g_aload_n dX2_push_17 rfl ?_
  refine g_dup dX2_push_18 rfl ?_
  refine g_get fX2_16 dX2_push_19 (cM_T rfl) rfl ?_
  refine g_iconst (v := nI 1) dX2_push_22 (by decide) ?_
  refine g_iadd_n dX2_push_23 ?_
  refine g_cpT fX2_16 dX2_push_24 rfl (by decide) ?_
  refine g_return dX2_push_27 rfl ⟨rfl, rfl, ?_⟩
  rw [uA_n _ _ (by omega)]
theorem kX2_startReading : Cn mX2_startReading 0 0 0 none [.ref 64] (cM M0 Y) (zv (fun M' => M' = cM M0 (tY Y (0, 0, Y 66)))) := by
  refine g_aload_n dX2_startReading_0 rfl ?_
  refine g_iconst (v := nI 0) dX2_startReading_1 (by decide) ?_
  refine g_cpT fX2_24 dX2_startReading_2 rfl (by decide) ?_
  refine g_aload_n dX2_startReading_5 rfl ?_
  refine g_iconst (v := nI 0) dX2_startReading_6 (by decide) ?_
  refine g_cpT fX2_27 dX2_startReading_7 rfl (by decide) ?_
  refine g_return dX2_startReading_10 rfl ⟨rfl, rfl, ?_⟩
  congr 1
  funext a
  by_cases h : a = 64
  · subst h
    simp only [uA_s, tY]
  · rw [uA_n _ _ h, uA_n _ _ h]
    by_cases h2 : a = 66
    · subst h2; rw [tY_n]
    · rw [tY_o _ _ h h2]
theorem zLo_T (g : zG) (U : State) (h : z_S g U) : va_T .int (g.1 1) 6 (fun j => .int (nI (zLo j))) (z_A g) U U.heap := h.2.1.2.1
theorem zHi_T (g : zG) (U : State) (h : z_S g U) : va_T .int (g.1 2) 6 (fun j => .int (nI (zHi j))) (z_A g) U U.heap := h.2.1.2.2.1
theorem kX2_acceptsDigit {s : tS} {k dg : Nat} (hs : tB s k) (hk : k ≤ 1000) (hd : dg ≤ 9) : Cn mX2_acceptsDigit 1 0 0 none [.ref 64, .int (nI dg)] (cM M0 (tY Y s)) (zi (nI (acT (dg + 48) s).1.toNat) (fun M' => M' = cM M0 (tY Y (acT (dg + 48) s).2))) := by
  obtain ⟨h1, h2, h3⟩ := hs
  have h3s := h3 s.1 h1
  have hlo : zLo s.1 < 100 := by
    unfold zLo
    rcases (show s.1 = 0 ∨ s.1 = 1 ∨ s.1 = 2 ∨ s.1 = 3 ∨ s.1 = 4 ∨ s.1 = 5 by omega) with e | e | e | e | e | e <;> rw [e] <;> decide
  have hhi := zHi_83 s.1
  have ho : Y 64 = Y 64 := rfl
  have e48 : 48 ≤ dg + 48 ∧ dg + 48 ≤ 57 := by omega
  have back : ∀ n, n = (if 0 < s.2.1 then 10 * s.2.2 s.1 + dg else dg) → ¬ (0 < s.2.1 ∧ s.2.2 s.1 = 0) → G mX2_acceptsDigit 1 0 0 none 46 [(0, .ref 64)] [.int (nI n)] (cM M0 (tY Y s)) (zi (nI (acT (dg + 48) s).1.toNat) (fun M' => M' = cM M0 (tY Y (acT (dg + 48) s).2))) := fun n hn hz => by
    have hn2 : n < 1048576 := by
      rw [hn]
      split <;> omega
    have en : tN (dg + 48) s = n := by
      rw [hn, tN, Nat.add_sub_cancel]
    refine g_istore_n dX2_acceptsDigit_46 (by decide) ?_
    refine g_iload_n dX2_acceptsDigit_47 rfl ?_
    refine g_gets (v := .ref 1) (fun g U h => h.2.1.1.1) q309 dX2_acceptsDigit_48 ?_
    refine g_aload_n dX2_acceptsDigit_51 rfl ?_
    refine g_get fX2_24 dX2_acceptsDigit_52 (cM_T rfl) rfl ?_
    rw [tY_3]
    refine g_tld zLo_T dX2_acceptsDigit_55 h1 (by decide) ?_
    refine g_gets (v := .ref 2) (fun g U h => h.2.1.1.2.1) q311 dX2_acceptsDigit_56 ?_
    refine g_aload_n dX2_acceptsDigit_59 rfl ?_
    refine g_get fX2_24 dX2_acceptsDigit_60 (cM_T rfl) rfl ?_
    rw [tY_3]
    refine g_tld zHi_T dX2_acceptsDigit_63 h1 (by decide) ?_
    refine g_callSN_i (kX5_isIn (nI n) (nI (zLo s.1)) (nI (zHi s.1))) oX5_isIn pX5_isIn lX2_58 dX2_acceptsDigit_64 rfl rfl (Nat.le_of_ble_eq_true rfl) (Nat.le_of_ble_eq_true rfl) (by decide) (fun M' h' => ?_)
    subst h'
    rw [zin_n (by omega) (by omega) (by omega)]
    refine g_if_ne_b (tgt := 72) dX2_acceptsDigit_67 (by decide) (fun h4 => ?_) (fun h4 => ?_)
    · refine g_aload_n dX2_acceptsDigit_72 rfl ?_
      refine g_get fX2_13 dX2_acceptsDigit_73 (cM_T rfl) rfl ?_
      refine g_aload_n dX2_acceptsDigit_76 rfl ?_
      refine g_get fX2_24 dX2_acceptsDigit_77 (cM_T rfl) rfl ?_
      rw [tY_3]
      refine g_iload_n dX2_acceptsDigit_80 rfl ?_
      refine g_cia dX2_acceptsDigit_81 kI_num h1 ?_
      rw [tY_n, tY_un]
      refine g_aload_n dX2_acceptsDigit_82 rfl ?_
      refine g_dup dX2_acceptsDigit_83 rfl ?_
      refine g_get fX2_27 dX2_acceptsDigit_84 (cM_T rfl) rfl ?_
      refine g_iconst (v := nI 1) dX2_acceptsDigit_87 (by decide) ?_
      rw [tY_4]
      refine g_iadd_n dX2_acceptsDigit_88 ?_
      refine g_cpT fX2_27 dX2_acceptsDigit_89 rfl (by decide) ?_
      rw [tY_u4]
      refine g_iconst (v := nI 1) dX2_acceptsDigit_92 (by decide) ?_
      simp only [Bool.and_eq_true, decide_eq_true_eq] at h4
      have e : acT (dg + 48) s = (true, (s.1, s.2.1 + 1, uN s.2.2 s.1 n)) := by
        unfold acT
        rw [if_pos e48, if_neg hz, en, if_pos h4]
      rw [e]
      exact g_ireturn dX2_acceptsDigit_93 rfl rfl ⟨rfl, rfl, rfl⟩
    · refine g_iconst (v := nI 0) dX2_acceptsDigit_70 (by decide) ?_
      have e : acT (dg + 48) s = (false, s) := by
        unfold acT
        rw [if_pos e48, if_neg hz, en, if_neg (fun q => by rw [decide_eq_true q.1, decide_eq_true q.2] at h4; cases h4)]
      rw [e]
      exact g_ireturn dX2_acceptsDigit_71 rfl rfl ⟨rfl, rfl, rfl⟩
  have num : ¬ (0 < s.2.1 ∧ s.2.2 s.1 = 0) → G mX2_acceptsDigit 1 0 0 none 21 [(0, .ref 64), (1, .int (nI dg))] [] (cM M0 (tY Y s)) (zi (nI (acT (dg + 48) s).1.toNat) (fun M' => M' = cM M0 (tY Y (acT (dg + 48) s).2))) := fun hz => by
    refine g_aload_n dX2_acceptsDigit_21 rfl ?_
    refine g_get fX2_27 dX2_acceptsDigit_22 (cM_T rfl) rfl ?_
    rw [tY_4]
    refine g_if_le_n (tgt := 45) dX2_acceptsDigit_25 (by decide) (by omega) (fun h5 => ?_) (fun h5 => ?_)
    · refine g_iload_n dX2_acceptsDigit_45 rfl ?_
      exact g_loc rfl (back dg (by rw [if_neg (by omega)]) hz)
    · refine g_bipush (v := nI 10) dX2_acceptsDigit_28 (by decide) ?_
      refine g_aload_n dX2_acceptsDigit_30 rfl ?_
      refine g_get fX2_13 dX2_acceptsDigit_31 (cM_T rfl) rfl ?_
      refine g_aload_n dX2_acceptsDigit_34 rfl ?_
      refine g_get fX2_24 dX2_acceptsDigit_35 (cM_T rfl) rfl ?_
      rw [tY_3]
      refine g_cil dX2_acceptsDigit_38 kI_num (by omega) ?_
      rw [tY_n]
      refine g_imul_n dX2_acceptsDigit_39 ?_
      refine g_iload_n dX2_acceptsDigit_40 rfl ?_
      refine g_iadd_n dX2_acceptsDigit_41 ?_
      refine g_goto (tgt := 46) dX2_acceptsDigit_42 (by decide) ?_
      exact g_loc rfl (back _ (by rw [if_pos (by omega)]) hz)
  refine g_aload_n dX2_acceptsDigit_0 rfl ?_
  refine g_get fX2_27 dX2_acceptsDigit_1 (cM_T rfl) rfl ?_
  rw [tY_4]
  refine g_if_le_n (tgt := 21) dX2_acceptsDigit_4 (by decide) (by omega) (fun h4 => ?_) (fun h4 => ?_)
  · exact num (fun q => by omega)
  refine g_aload_n dX2_acceptsDigit_7 rfl ?_
  refine g_get fX2_13 dX2_acceptsDigit_8 (cM_T rfl) rfl ?_
  refine g_aload_n dX2_acceptsDigit_11 rfl ?_
  refine g_get fX2_24 dX2_acceptsDigit_12 (cM_T rfl) rfl ?_
  rw [tY_3]
  refine g_cil dX2_acceptsDigit_15 kI_num h1 ?_
  rw [tY_n]
  refine g_if_ne_n (tgt := 21) dX2_acceptsDigit_16 (by decide) (by omega) (fun h5 => ?_) (fun h5 => ?_)
  · exact num (fun q => h5 q.2)
  refine g_iconst (v := nI 0) dX2_acceptsDigit_19 (by decide) ?_
  have e : acT (dg + 48) s = (false, s) := by
    unfold acT
    rw [if_pos e48, if_pos ⟨by omega, h5⟩]
  rw [e]
  exact g_ireturn dX2_acceptsDigit_20 rfl rfl ⟨rfl, rfl, rfl⟩
theorem kX2_accepts {s : tS} {k c : Nat} (hs : tB s k) (hk : k ≤ 1000) (hc : c < 128) : Cn mX2_accepts 4 0 0 none [.ref 64, .int (nI c)] (cM M0 (tY Y s)) (zi (nI (acT c s).1.toNat) (fun M' => M' = cM M0 (tY Y (acT c s).2))) := by
  obtain ⟨h1, h2, h3⟩ := hs
  have sign : ¬ (48 ≤ c ∧ c ≤ 57) → G mX2_accepts 4 0 0 none 21 [(0, .ref 64), (1, .int (nI c))] [] (cM M0 (tY Y s)) (zi (nI (acT c s).1.toNat) (fun M' => M' = cM M0 (tY Y (acT c s).2))) := fun hz => by
    have hsg : zSg s.1 < 128 := by
      unfold zSg
      rcases (show s.1 = 0 ∨ s.1 = 1 ∨ s.1 = 2 ∨ s.1 = 3 ∨ s.1 = 4 ∨ s.1 = 5 by omega) with e | e | e | e | e | e <;> rw [e] <;> decide
    have bad : (s.2.1 < 1 ∨ c ≠ zSg s.1) → G mX2_accepts 4 0 0 none 42 [] [] (cM M0 (tY Y s)) (zi (nI (acT c s).1.toNat) (fun M' => M' = cM M0 (tY Y (acT c s).2))) := fun q => by
      refine g_iconst (v := nI 0) dX2_accepts_42 (by decide) ?_
      have e : acT c s = (false, s) := by
        unfold acT
        rw [if_neg hz, if_pos q]
      rw [e]
      exact g_ireturn dX2_accepts_43 rfl rfl ⟨rfl, rfl, rfl⟩
    refine g_aload_n dX2_accepts_21 rfl ?_
    refine g_get fX2_27 dX2_accepts_22 (cM_T rfl) rfl ?_
    refine g_iconst (v := nI 1) dX2_accepts_25 (by decide) ?_
    rw [tY_4]
    refine g_icmp_lt_n (tgt := 42) dX2_accepts_26 (by decide) (by omega) (by omega) (fun h4 => ?_) (fun h4 => ?_)
    · exact g_loc rfl (bad (Or.inl h4))
    refine g_iload_n dX2_accepts_29 rfl ?_
    refine g_ldcS rfl dX2_accepts_30 ?_
    refine g_aload_n dX2_accepts_32 rfl ?_
    refine g_get fX2_24 dX2_accepts_33 (cM_T rfl) rfl ?_
    rw [tY_3]
    refine g_callVs_i (kJ0_charAt h1) oJ0_charAt_5068e pJ0_charAt_5068e lX2_46 dX2_accepts_36 rfl rfl rfl (Nat.le_of_ble_eq_true rfl) (Nat.le_of_ble_eq_true rfl) (by decide) (fun M' h' => ?_)
    subst h'
    refine g_icmp_eq_n (tgt := 44) dX2_accepts_39 (by decide) (by omega) (by omega) (fun h5 => ?_) (fun h5 => ?_)
    · refine g_aload_n dX2_accepts_44 rfl ?_
      refine g_aload_n dX2_accepts_45 rfl ?_
      refine g_get fX2_24 dX2_accepts_46 (cM_T rfl) rfl ?_
      refine g_iconst (v := nI 1) dX2_accepts_49 (by decide) ?_
      refine g_iadd_n dX2_accepts_50 ?_
      refine g_bipush (v := nI 6) dX2_accepts_51 (by decide) ?_
      rw [tY_3]
      refine g_irem_n dX2_accepts_53 (by omega) (by omega) (by omega) ?_
      refine g_cpT fX2_24 dX2_accepts_54 rfl (by decide) ?_
      rw [tY_u3]
      refine g_aload_n dX2_accepts_57 rfl ?_
      refine g_iconst (v := nI 0) dX2_accepts_58 (by decide) ?_
      refine g_cpT fX2_27 dX2_accepts_59 rfl (by decide) ?_
      rw [tY_u4]
      refine g_iconst (v := nI 1) dX2_accepts_62 (by decide) ?_
      have e : acT c s = (true, ((s.1 + 1) % 6, 0, s.2.2)) := by
        unfold acT
        rw [if_neg hz, if_neg (fun q => q.elim (fun q => by omega) (fun q => q h5))]
      rw [e]
      exact g_ireturn dX2_accepts_63 rfl rfl ⟨rfl, rfl, rfl⟩
    · exact g_loc rfl (bad (Or.inr h5))
  refine g_iload_n dX2_accepts_0 rfl ?_
  refine g_bipush (v := nI 48) dX2_accepts_1 (by decide) ?_
  refine g_icmp_lt_n (tgt := 21) dX2_accepts_3 (by decide) (by omega) (by omega) (fun h4 => ?_) (fun h4 => ?_)
  · exact sign (fun q => by omega)
  refine g_iload_n dX2_accepts_6 rfl ?_
  refine g_bipush (v := nI 57) dX2_accepts_7 (by decide) ?_
  refine g_icmp_gt_n (tgt := 21) dX2_accepts_9 (by decide) (by omega) (by omega) (fun h5 => ?_) (fun h5 => ?_)
  · exact sign (fun q => by omega)
  refine g_aload_n dX2_accepts_12 rfl ?_
  refine g_iload_n dX2_accepts_13 rfl ?_
  refine g_bipush (v := nI 48) dX2_accepts_14 (by decide) ?_
  refine g_isub_n dX2_accepts_16 (by omega) ?_
  refine g_callV_i (kX2_acceptsDigit (Y := Y) (s := s) ⟨h1, h2, h3⟩ hk (dg := c - 48) (by omega)) oX2_acceptsDigit pX2_acceptsDigit lX2_41 dX2_accepts_17 rfl (cM_T rfl) rfl rfl rfl (Nat.le_of_ble_eq_true rfl) (Nat.le_of_ble_eq_true rfl) (by decide) (fun M' h' => ?_)
  subst h'
  rw [show c - 48 + 48 = c by omega]
  exact g_ireturn_b dX2_accepts_20 rfl ⟨rfl, rfl, rfl⟩
/-- the first character that is refused -/
def fbT (C : Nat → Nat) : Nat → Nat → tS → Nat × tS
  | 0, i, s => (i, s)
  | n + 1, i, s => if (acT (C i) s).1 = true then fbT C n (i + 1) (acT (C i) s).2 else (i, (acT (C i) s).2)
theorem fb1 (hT : wT Y) (F : zP) : ∀ n i (s : tS), i + n = Y 64 1 → tB s i → F (cM M0 (tY Y (fbT (Y 65) n i s).2)) none (.inl (some (.int (nI (fbT (Y 65) n i s).1)))) → G mX2_firstBadIndex 5 0 0 none 6 [(0, .ref 64), (1, .int (nI i))] [] (cM M0 (tY Y s)) F := by
  have hl := hT.1
  intro n
  induction n with
  | zero =>
    intro i s hi hs hF
    refine g_iload_n dX2_firstBadIndex_6 rfl ?_
    refine g_aload_n dX2_firstBadIndex_7 rfl ?_
    refine g_get fX2_16 dX2_firstBadIndex_8 (cM_T rfl) rfl ?_
    rw [tY_1]
    refine g_icmp_ge_n (tgt := 35) dX2_firstBadIndex_11 (by decide) (by omega) (by omega) (fun h1 => ?_) (fun h1 => ?_)
    · refine g_aload_n dX2_firstBadIndex_35 rfl ?_
      refine g_get fX2_16 dX2_firstBadIndex_36 (cM_T rfl) rfl ?_
      rw [tY_1]
      rw [fbT, show i = Y 64 1 by omega] at hF
      exact g_ireturn dX2_firstBadIndex_39 rfl rfl hF
    · omega
  | succ n ih =>
    intro i s hi hs hF
    refine g_iload_n dX2_firstBadIndex_6 rfl ?_
    refine g_aload_n dX2_firstBadIndex_7 rfl ?_
    refine g_get fX2_16 dX2_firstBadIndex_8 (cM_T rfl) rfl ?_
    rw [tY_1]
    refine g_icmp_ge_n (tgt := 35) dX2_firstBadIndex_11 (by decide) (by omega) (by omega) (fun h1 => ?_) (fun h1 => ?_)
    · omega
    refine g_aload_n dX2_firstBadIndex_14 rfl ?_
    refine g_aload_n dX2_firstBadIndex_15 rfl ?_
    refine g_get fX2_9 dX2_firstBadIndex_16 (cM_T rfl) rfl ?_
    refine g_iload_n dX2_firstBadIndex_19 rfl ?_
    refine g_cil dX2_firstBadIndex_20 kI_codes (by omega) ?_
    rw [tY_o _ _ (by omega) (by omega)]
    refine g_callV_i (kX2_accepts (Y := Y) hs (by omega) (hT.2 i (by omega))) oX2_accepts pX2_accepts lX2_33 dX2_firstBadIndex_21 rfl (cM_T rfl) rfl rfl rfl (Nat.le_of_ble_eq_true rfl) (Nat.le_of_ble_eq_true rfl) (by decide) (fun M' h' => ?_)
    subst h'
    rw [fbT] at hF
    refine g_if_ne_b (tgt := 29) dX2_firstBadIndex_24 (by decide) (fun h2 => ?_) (fun h2 => ?_)
    · refine g_iinc_n (c := 1) dX2_firstBadIndex_29 rfl (by decide) (by decide) ?_
      refine g_goto (tgt := 6) dX2_firstBadIndex_32 (by decide) ?_
      rw [if_pos h2] at hF
      exact g_loc rfl (ih (i + 1) _ (by omega) (acT_B hs) hF)
    · refine g_iload_n dX2_firstBadIndex_27 rfl ?_
      rw [if_neg (by rw [h2]; decide)] at hF
      exact g_ireturn dX2_firstBadIndex_28 rfl rfl hF
def fbA (Y : Nat → Nat → Nat) : Nat × tS := fbT (Y 65) (Y 64 1) 0 (0, 0, Y 66)
/-- the numbers that are read -/
def wN (Y : Nat → Nat → Nat) : Prop := ∀ j, j < 6 → Y 66 j ≤ 83
theorem kX2_firstBadIndex (hT : wT Y) (hN : wN Y) : Cn mX2_firstBadIndex 5 0 0 none [.ref 64] (cM M0 Y) (zi (nI (fbA Y).1) (fun M' => M' = cM M0 (tY Y (fbA Y).2))) := by
  refine g_aload_n dX2_firstBadIndex_0 rfl ?_
  refine g_callV_v (kX2_startReading) oX2_startReading pX2_startReading lX2_30 dX2_firstBadIndex_1 rfl (cM_T rfl) rfl rfl rfl (Nat.le_of_ble_eq_true rfl) (Nat.le_of_ble_eq_true rfl) (by decide) (fun M' h' => ?_)
  subst h'
  refine g_iconst (v := nI 0) dX2_firstBadIndex_4 (by decide) ?_
  refine g_istore_n dX2_firstBadIndex_5 (by decide) ?_
  exact g_loc rfl (fb1 hT _ (Y 64 1) 0 (0, 0, Y 66) (by omega) ⟨by show 0 < 6; omega, Nat.le_refl _, hN⟩ ⟨rfl, rfl, rfl⟩)
theorem fbT_B (C : Nat → Nat) : ∀ n i (s : tS), tB s i → (fbT C n i s).1 ≤ i + n ∧ tB (fbT C n i s).2 (i + n + 1)
  | 0, i, s, h => ⟨Nat.le_refl _, h.1, Nat.le_succ_of_le h.2.1, h.2.2⟩
  | n + 1, i, s, h => by
    rw [fbT]
    split
    · have := fbT_B C n (i + 1) _ (acT_B (c := C i) h)
      rw [show i + 1 + n = i + (n + 1) by omega] at this
      exact this
    · have h2 := acT_B (c := C i) h
      exact ⟨by dsimp only; omega, ⟨h2.1, Nat.le_trans h2.2.1 (by omega), h2.2.2⟩⟩
theorem fbA_B (hN : wN Y) : (fbA Y).1 ≤ Y 64 1 ∧ tB (fbA Y).2 (Y 64 1 + 1) := by
  have := fbT_B (Y 65) (Y 64 1) 0 (0, 0, Y 66) ⟨by show 0 < 6; omega, Nat.le_refl _, hN⟩
  rw [Nat.zero_add] at this
  exact this
def icT (Y : Nat → Nat → Nat) : Bool := decide ((fbA Y).1 = Y 64 1) && (decide ((fbA Y).2.1 = 5) && decide (0 < (fbA Y).2.2.1))
theorem kX2_isComplete (hT : wT Y) (hN : wN Y) : Cn mX2_isComplete 6 0 0 none [.ref 64] (cM M0 Y) (zi (nI (icT Y).toNat) (fun M' => M' = cM M0 (tY Y (fbA Y).2))) := by
  have hl := hT.1
  obtain ⟨b1, b2, b3, b4⟩ := fbA_B hN
  have no : icT Y = false → G mX2_isComplete 6 0 0 none 30 [] [] (cM M0 (tY Y (fbA Y).2)) (zi (nI (icT Y).toNat) (fun M' => M' = cM M0 (tY Y (fbA Y).2))) := fun q => by
    refine g_iconst (v := nI 0) dX2_isComplete_30 (by decide) ?_
    rw [q]
    exact g_ireturn dX2_isComplete_31 rfl rfl ⟨rfl, rfl, rfl⟩
  refine g_aload_n dX2_isComplete_0 rfl ?_
  refine g_callV_i (kX2_firstBadIndex hT hN) oX2_firstBadIndex pX2_firstBadIndex lX2_37 dX2_isComplete_1 rfl (cM_T rfl) rfl rfl rfl (Nat.le_of_ble_eq_true rfl) (Nat.le_of_ble_eq_true rfl) (by decide) (fun M' h' => ?_)
  subst h'
  refine g_aload_n dX2_isComplete_4 rfl ?_
  refine g_get fX2_16 dX2_isComplete_5 (cM_T rfl) rfl ?_
  rw [tY_1]
  refine g_icmp_ne_n (tgt := 30) dX2_isComplete_8 (by decide) (by omega) (by omega) (fun h1 => ?_) (fun h1 => ?_)
  · exact g_loc rfl (no (by simp [icT, h1]))
  refine g_aload_n dX2_isComplete_11 rfl ?_
  refine g_get fX2_24 dX2_isComplete_12 (cM_T rfl) rfl ?_
  refine g_iconst (v := nI 5) dX2_isComplete_15 (by decide) ?_
  rw [tY_3]
  refine g_icmp_ne_n (tgt := 30) dX2_isComplete_16 (by decide) (by omega) (by omega) (fun h2 => ?_) (fun h2 => ?_)
  · exact g_loc rfl (no (by simp [icT, h2]))
  refine g_aload_n dX2_isComplete_19 rfl ?_
  refine g_get fX2_27 dX2_isComplete_20 (cM_T rfl) rfl ?_
  rw [tY_4]
  refine g_if_le_n (tgt := 30) dX2_isComplete_23 (by decide) (by omega) (fun h3 => ?_) (fun h3 => ?_)
  · exact g_loc rfl (no (by simp [icT, h3]))
  · refine g_iconst (v := nI 1) dX2_isComplete_26 (by decide) ?_
    refine g_goto (tgt := 31) dX2_isComplete_27 (by decide) ?_
    rw [show icT Y = true by simp [icT, h1, h2]; omega]
    exact g_ireturn dX2_isComplete_31 rfl rfl ⟨rfl, rfl, rfl⟩
def epT (Y : Nat → Nat → Nat) (i : Nat) : Bool := decide (Y 64 1 ≤ i + 1) || decide (Y 65 (i + 1) = 59)
theorem kX2_endsPart (hT : wT Y) {i : Nat} (hi : i < 60) : Cn mX2_endsPart 0 0 0 none [.ref 64, .int (nI i)] (cM M0 Y) (zi (nI (epT Y i).toNat) (fun M' => M' = cM M0 Y)) := by
  have hl := hT.1
  refine g_iload_n dX2_endsPart_0 rfl ?_
  refine g_iconst (v := nI 1) dX2_endsPart_1 (by decide) ?_
  refine g_iadd_n dX2_endsPart_2 ?_
  refine g_istore_n dX2_endsPart_3 (by decide) ?_
  refine g_iload_n dX2_endsPart_4 rfl ?_
  refine g_aload_n dX2_endsPart_5 rfl ?_
  refine g_get fX2_16 dX2_endsPart_6 (cM_T rfl) rfl ?_
  refine g_icmp_ge_n (tgt := 23) dX2_endsPart_9 (by decide) (by omega) (by omega) (fun h1 => ?_) (fun h1 => ?_)
  · refine g_iconst (v := nI 1) dX2_endsPart_23 (by decide) ?_
    refine g_goto (tgt := 28) dX2_endsPart_24 (by decide) ?_
    rw [show epT Y i = true by simp [epT, h1]]
    exact g_ireturn dX2_endsPart_28 rfl rfl ⟨rfl, rfl, rfl⟩
  have hc := hT.2 (i + 1) (by omega)
  refine g_aload_n dX2_endsPart_12 rfl ?_
  refine g_get fX2_9 dX2_endsPart_13 (cM_T rfl) rfl ?_
  refine g_iload_n dX2_endsPart_16 rfl ?_
  refine g_cil dX2_endsPart_17 kI_codes (by omega) ?_
  refine g_bipush (v := nI 59) dX2_endsPart_18 (by decide) ?_
  refine g_icmp_ne_n (tgt := 27) dX2_endsPart_20 (by decide) (by omega) (by omega) (fun h2 => ?_) (fun h2 => ?_)
  · refine g_iconst (v := nI 0) dX2_endsPart_27 (by decide) ?_
    rw [show epT Y i = false by simp [epT, h2]; omega]
    exact g_ireturn dX2_endsPart_28 rfl rfl ⟨rfl, rfl, rfl⟩
  · refine g_iconst (v := nI 1) dX2_endsPart_23 (by decide) ?_
    refine g_goto (tgt := 28) dX2_endsPart_24 (by decide) ?_
    rw [show epT Y i = true by simp [epT, h2]]
    exact g_ireturn dX2_endsPart_28 rfl rfl ⟨rfl, rfl, rfl⟩
end TEXT
