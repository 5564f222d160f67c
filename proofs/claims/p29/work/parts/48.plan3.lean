/-! the class: cleaning -/
/-- what is kept of cleaning: free from, and clean from by hall -/
def clY (Y : Nat → Nat → Nat) (fr : Nat) (cf : Nat → Nat) : Nat → Nat → Nat := uA (uA Y 69 cf) 67 (uN (Y 67) 3 fr)
theorem clY_f (Y : Nat → Nat → Nat) (fr : Nat) (cf : Nat → Nat) : clY Y fr cf 67 3 = fr := by rw [clY, uA_s, uN_s]
theorem clY_1 (Y : Nat → Nat → Nat) (fr : Nat) (cf : Nat → Nat) : clY Y fr cf 67 1 = Y 67 1 := by rw [clY, uA_s, uN_n _ _ (by omega)]
theorem clY_c (Y : Nat → Nat → Nat) (fr : Nat) (cf : Nat → Nat) : clY Y fr cf 69 = cf := by rw [clY, uA_n _ _ (by omega), uA_s]
theorem clY_o (Y : Nat → Nat → Nat) (fr : Nat) (cf : Nat → Nat) {a : Nat} (h : a ≠ 67) (h2 : a ≠ 69) : clY Y fr cf a = Y a := by rw [clY, uA_n _ _ h, uA_n _ _ h2]
theorem clY_uf (Y : Nat → Nat → Nat) (fr v : Nat) (cf : Nat → Nat) : uA (clY Y fr cf) 67 (uN (clY Y fr cf 67) 3 v) = clY Y v cf := by
  funext a
  by_cases h : a = 67
  · subst h; rw [uA_s, clY, clY, uA_s, uA_s, uN_u]
  · rw [uA_n _ _ h]
    by_cases h2 : a = 69
    · subst h2; rw [clY_c, clY_c]
    · rw [clY_o _ _ _ h h2, clY_o _ _ _ h h2]
theorem clY_uc (Y : Nat → Nat → Nat) (fr : Nat) (cf g : Nat → Nat) : uA (clY Y fr cf) 69 g = clY Y fr g := by
  funext a
  by_cases h : a = 69
  · subst h; rw [uA_s, clY_c]
  · rw [uA_n _ _ h]
    by_cases h2 : a = 67
    · subst h2; rw [clY, clY, uA_s, uA_s]
    · rw [clY_o _ _ _ h2 h, clY_o _ _ _ h2 h]
theorem clY_L (Y : Nat → Nat → Nat) (fr : Nat) (cf : Nat → Nat) {a : Nat} (h : kq a = 1) : clY Y fr cf a = Y a := clY_o _ _ _ (kq_nP h (by decide) (by decide)).1 (fun e => by subst e; cases h)
theorem pL_cl {Y : Nat → Nat → Nat} {l : List Nat} (h : pL Y l) (fr : Nat) (cf : Nat → Nat) : pL (clY Y fr cf) l := ⟨by rw [clY_1]; exact h.1, by rw [clY_o _ _ _ (by omega) (by omega)]; exact h.2.1, fun a ha => ⟨(h.2.2.1 a ha).1, by rw [clY_L _ _ _ (h.2.2.1 a ha).1]; exact (h.2.2.1 a ha).2⟩, h.2.2.2⟩
abbrev cZ : Type := Nat × (Nat → Nat)
def isV (c : Nat) (v : Nat → Nat) (s : cZ) : Option cZ := if v 2 < s.2 (v 0) then none else some ((if s.1 < v 3 then v 3 else s.1) + c, uN s.2 (v 0) ((if s.1 < v 3 then v 3 else s.1) + c))
def cbL (V : Nat → Nat → Nat) (c : Nat) : List Nat → cZ → Bool
  | [], _ => true
  | a :: l, s => match isV c (V a) s with | none => false | some s' => cbL V c l s'
def cbW (V : Nat → Nat → Nat) (c o : Nat) : List Nat → Bool → cZ → Bool
  | [], w, s => !w || (isV c (V o) s).isSome
  | a :: l, w, s => bif vCl (V a) (V o) c then cbW V c o l w s else bif w && vBf (V o) (V a) then (match isV c (V o) s with | none => false | some s1 => match isV c (V a) s1 with | none => false | some s2 => cbW V c o l false s2) else (match isV c (V a) s with | none => false | some s2 => cbW V c o l w s2)
def rsC (V : Nat → Nat → Nat) (c o : Nat) (l : List Nat) : Nat := bif l.any (fun a => decide (V o 4 ≤ V a 4) && vCl (V a) (V o) c) then 2 else bif cbW V c o l true (0, fun _ => 0) then 0 else 3
/-- cleaning is over soon enough to be counted -/
def zB (s : cZ) (n : Nat) : Prop := s.1 ≤ n * 2097152 ∧ ∀ h, h < 3 → s.2 h ≤ n * 2097152
theorem isV_b {c : Nat} (hc : c < 1048576) {v : Nat → Nat} (hv : vB v) {s s' : cZ} {n : Nat} (h : zB s n) (e : isV c v s = some s') : zB s' (n + 1) := by
  have h3 := hv.1 3 (by omega)
  unfold isV at e
  split at e
  · cases e
  · cases e
    have hb : (if s.1 < v 3 then v 3 else s.1) + c ≤ (n + 1) * 2097152 := by
      have := h.1
      split <;> omega
    refine ⟨hb, fun k hk => ?_⟩
    by_cases hk2 : k = v 0
    · subst hk2; dsimp only; rw [uN_s]; exact hb
    · dsimp only; rw [uN_n _ _ hk2]
      exact Nat.le_trans (h.2 k hk) (Nat.mul_le_mul_right _ (Nat.le_succ n))
section PLAN3
variable {M M0 : zM} {Y : Nat → Nat → Nat}
theorem sc1 (F : zP) (hF : F (cM M0 (clY Y 0 (fun _ => 0))) none (.inl none)) : ∀ u k cf, k + u = 3 → (∀ h, h < k → cf h = 0) → G mX0_startCleaning 0 0 0 none 7 [(0, .ref 67), (1, .int (nI k))] [] (cM M0 (clY Y 0 cf)) F := by
  intro u
  induction u with
  | zero =>
    intro k cf hk hc
    have : k = 3 := by omega
    subst this
    refine g_arr (b := 69) (X' := fun _ => 0) (cM_I kI_clean) (fun j hj => by rw [clY_c]; exact hc j hj) ?_
    refine g_m (zu_I kI_clean _) ?_
    rw [clY_uc]
    refine g_iload_n dX0_startCleaning_7 rfl ?_
    refine g_iconst (v := nI 3) dX0_startCleaning_8 (by decide) ?_
    refine g_icmp_ge_n (tgt := 25) dX0_startCleaning_9 (by decide) (by omega) (by omega) (fun h1 => ?_) (fun h1 => ?_)
    · exact g_return dX0_startCleaning_25 rfl hF
    · omega
  | succ u ih =>
    intro k cf hk hc
    refine g_iload_n dX0_startCleaning_7 rfl ?_
    refine g_iconst (v := nI 3) dX0_startCleaning_8 (by decide) ?_
    refine g_icmp_ge_n (tgt := 25) dX0_startCleaning_9 (by decide) (by omega) (by omega) (fun h1 => ?_) (fun h1 => ?_)
    · omega
    refine g_aload_n dX0_startCleaning_12 rfl ?_
    refine g_get fX0_17 dX0_startCleaning_13 (cM_P rfl) rfl ?_
    refine g_iload_n dX0_startCleaning_16 rfl ?_
    refine g_iconst (v := nI 0) dX0_startCleaning_17 (by decide) ?_
    refine g_cia dX0_startCleaning_18 kI_clean (by omega) ?_
    rw [clY_c, clY_uc]
    refine g_iinc_n (c := 1) dX0_startCleaning_19 rfl (by decide) (by decide) ?_
    refine g_goto (tgt := 7) dX0_startCleaning_22 (by decide) ?_
    refine g_loc rfl (ih (k + 1) (uN cf k 0) (by omega) (fun h hh => ?_))
    by_cases e : h = k
    · subst e; rw [uN_s]
    · rw [uN_n _ _ e]; exact hc h (by omega)
theorem kX0_startCleaning : Cn mX0_startCleaning 0 0 0 none [.ref 67] (cM M0 Y) (zv (fun M' => M' = cM M0 (clY Y 0 (fun _ => 0)))) := by
  refine g_aload_n dX0_startCleaning_0 rfl ?_
  refine g_iconst (v := nI 0) dX0_startCleaning_1 (by decide) ?_
  refine g_cpP fX0_68 dX0_startCleaning_2 rfl (by decide) ?_
  have e : uA Y 67 (uN (Y 67) 3 0) = clY Y 0 (Y 69) := by
    funext a
    by_cases h : a = 67
    · subst h; rw [uA_s, clY, uA_s]
    · rw [uA_n _ _ h]
      by_cases h2 : a = 69
      · subst h2; rw [clY_c]
      · rw [clY_o _ _ _ h h2]
  rw [e]
  refine g_iconst (v := nI 0) dX0_startCleaning_5 (by decide) ?_
  refine g_istore_n dX0_startCleaning_6 (by decide) ?_
  exact g_loc rfl (sc1 _ ⟨rfl, rfl, rfl⟩ 3 0 _ (by omega) (fun h hh => by omega))
theorem kX0_isServed0 {a c n : Nat} {s : cZ} (ha : kq a = 1) (hv : vB (Y a)) (hs : zB s n) (hn : n ≤ 100) (h : isV c (Y a) s = none) : Cn mX0_isServed 0 0 0 none [.ref 67, .ref a, .int (nI c)] (cM M0 (clY Y s.1 s.2)) (zi (nI 0) (fun M' => M' = cM M0 (clY Y s.1 s.2))) := by
  have ea := clY_L Y s.1 s.2 ha
  have b2 := hv.1 2 (by omega)
  have b0 := hv.2.2.2
  have hcf := hs.2 (Y a 0) (by omega)
  have hlt : Y a 2 < s.2 (Y a 0) := by
    unfold isV at h
    split at h
    · assumption
    · cases h
  refine g_aload_n dX0_isServed_0 rfl ?_
  refine g_get fX0_71 dX0_isServed_1 (cM_L ha) rfl ?_
  refine g_aload_n dX0_isServed_4 rfl ?_
  refine g_get fX0_17 dX0_isServed_5 (cM_P rfl) rfl ?_
  refine g_aload_n dX0_isServed_8 rfl ?_
  refine g_get fX0_74 dX0_isServed_9 (cM_L ha) rfl ?_
  rw [ea]
  refine g_cil dX0_isServed_12 kI_clean (by omega) ?_
  rw [clY_c]
  refine g_icmp_ge_n (tgt := 18) dX0_isServed_13 (by decide) (by omega) (by omega) (fun h1 => ?_) (fun h1 => ?_)
  · omega
  refine g_iconst (v := nI 0) dX0_isServed_16 (by decide) ?_
  exact g_ireturn dX0_isServed_17 rfl rfl ⟨rfl, rfl, rfl⟩
theorem kX0_isServed {a c n : Nat} {s s' : cZ} (ha : kq a = 1) (hv : vB (Y a)) (hs : zB s n) (hn : n ≤ 100) (h : isV c (Y a) s = some s') : Cn mX0_isServed 0 0 0 none [.ref 67, .ref a, .int (nI c)] (cM M0 (clY Y s.1 s.2)) (zi (nI 1) (fun M' => M' = cM M0 (clY Y s'.1 s'.2))) := by
  have ea := clY_L Y s.1 s.2 ha
  have b2 := hv.1 2 (by omega)
  have b3 := hv.1 3 (by omega)
  have b0 := hv.2.2.2
  have hcf := hs.2 (Y a 0) (by omega)
  have hfr := hs.1
  unfold isV at h
  split at h
  · cases h
  rename_i hge
  cases h
  have fin : ∀ z, z = (if s.1 < Y a 3 then Y a 3 else s.1) → G mX0_isServed 0 0 0 none 40 [(0, .ref 67), (1, .ref a), (2, .int (nI c))] [.int (nI z)] (cM M0 (clY Y s.1 s.2)) (zi (nI 1) (fun M' => M' = cM M0 (clY Y ((if s.1 < Y a 3 then Y a 3 else s.1) + c) (uN s.2 (Y a 0) ((if s.1 < Y a 3 then Y a 3 else s.1) + c))))) := fun z hz => by
    refine g_istore_n dX0_isServed_40 (by decide) ?_
    refine g_aload_n dX0_isServed_41 rfl ?_
    refine g_iload_n dX0_isServed_42 rfl ?_
    refine g_iload_n dX0_isServed_43 rfl ?_
    refine g_iadd_n dX0_isServed_44 ?_
    refine g_cpP fX0_68 dX0_isServed_45 rfl (by decide) ?_
    rw [clY_uf]
    have ea2 := clY_L Y (z + c) s.2 ha
    refine g_aload_n dX0_isServed_48 rfl ?_
    refine g_get fX0_17 dX0_isServed_49 (cM_P rfl) rfl ?_
    refine g_aload_n dX0_isServed_52 rfl ?_
    refine g_get fX0_74 dX0_isServed_53 (cM_L ha) rfl ?_
    rw [ea2]
    refine g_aload_n dX0_isServed_56 rfl ?_
    refine g_get fX0_68 dX0_isServed_57 (cM_P rfl) rfl ?_
    rw [clY_f]
    refine g_cia dX0_isServed_60 kI_clean (by omega) ?_
    rw [clY_c, clY_uc]
    refine g_iconst (v := nI 1) dX0_isServed_61 (by decide) ?_
    subst hz
    exact g_ireturn dX0_isServed_62 rfl rfl ⟨rfl, rfl, rfl⟩
  refine g_aload_n dX0_isServed_0 rfl ?_
  refine g_get fX0_71 dX0_isServed_1 (cM_L ha) rfl ?_
  refine g_aload_n dX0_isServed_4 rfl ?_
  refine g_get fX0_17 dX0_isServed_5 (cM_P rfl) rfl ?_
  refine g_aload_n dX0_isServed_8 rfl ?_
  refine g_get fX0_74 dX0_isServed_9 (cM_L ha) rfl ?_
  rw [ea]
  refine g_cil dX0_isServed_12 kI_clean (by omega) ?_
  rw [clY_c]
  refine g_icmp_ge_n (tgt := 18) dX0_isServed_13 (by decide) (by omega) (by omega) (fun h1 => ?_) (fun h1 => ?_)
  rotate_left
  · omega
  refine g_aload_n dX0_isServed_18 rfl ?_
  refine g_get fX0_77 dX0_isServed_19 (cM_L ha) rfl ?_
  refine g_aload_n dX0_isServed_22 rfl ?_
  refine g_get fX0_68 dX0_isServed_23 (cM_P rfl) rfl ?_
  rw [ea, clY_f]
  refine g_icmp_le_n (tgt := 36) dX0_isServed_26 (by decide) (by omega) (by omega) (fun h2 => ?_) (fun h2 => ?_)
  · refine g_aload_n dX0_isServed_36 rfl ?_
    refine g_get fX0_68 dX0_isServed_37 (cM_P rfl) rfl ?_
    rw [clY_f]
    exact g_loc rfl (fin s.1 (by rw [if_neg (by omega)]))
  · refine g_aload_n dX0_isServed_29 rfl ?_
    refine g_get fX0_77 dX0_isServed_30 (cM_L ha) rfl ?_
    rw [ea]
    refine g_goto (tgt := 40) dX0_isServed_33 (by decide) ?_
    exact g_loc rfl (fin (Y a 3) (by rw [if_pos h2]))
theorem cb1 {l : List Nat} (hp : pL Y l) {c : Nat} (hc : c < 1048576) (F : zP) : ∀ u k (s : cZ), k + u = l.length → zB s k → (∀ s' : cZ, F (cM M0 (clY Y s'.1 s'.2)) none (.inl (some (.int (nI (cbL Y c (l.drop k) s).toNat))))) → G mX0_canBeCleaned 1 0 0 none 6 [(0, .ref 67), (1, .int (nI c)), (2, .int (nI k))] [] (cM M0 (clY Y s.1 s.2)) F := by
  have hsz := hp.1
  have h20 := hp.2.2.2
  intro u
  induction u with
  | zero =>
    intro k s hk hs hF
    have : k = l.length := by omega
    subst this
    rw [List.drop_length] at hF
    refine g_iload_n dX0_canBeCleaned_6 rfl ?_
    refine g_aload_n dX0_canBeCleaned_7 rfl ?_
    refine g_get fX0_21 dX0_canBeCleaned_8 (cM_P rfl) rfl ?_
    rw [clY_1, hsz]
    refine g_icmp_ge_n (tgt := 36) dX0_canBeCleaned_11 (by decide) (by omega) (by omega) (fun h1 => ?_) (fun h1 => ?_)
    · refine g_iconst (v := nI 1) dX0_canBeCleaned_36 (by decide) ?_
      exact g_ireturn dX0_canBeCleaned_37 rfl rfl (hF s)
    · omega
  | succ u ih =>
    intro k s hk hs hF
    have hx : l[k]? = some l[k] := List.getElem?_eq_getElem (by omega)
    generalize hxe : l[k] = a at hx
    obtain ⟨e1, e2, e3, e4⟩ := pL_at (pL_cl hp s.1 s.2) hx
    have h8 := kq_8 e2 (by decide)
    have hz : clY Y s.1 s.2 68 k ≠ 0 := by omega
    have hv : vB (Y a) := by rw [clY_L _ _ _ e2] at e3; exact e3
    rw [drop_get hx, cbL] at hF
    refine g_iload_n dX0_canBeCleaned_6 rfl ?_
    refine g_aload_n dX0_canBeCleaned_7 rfl ?_
    refine g_get fX0_21 dX0_canBeCleaned_8 (cM_P rfl) rfl ?_
    rw [clY_1, hsz]
    refine g_icmp_ge_n (tgt := 36) dX0_canBeCleaned_11 (by decide) (by omega) (by omega) (fun h1 => ?_) (fun h1 => ?_)
    · omega
    refine g_aload_n dX0_canBeCleaned_14 rfl ?_
    refine g_aload_n dX0_canBeCleaned_15 rfl ?_
    refine g_get fX0_11 dX0_canBeCleaned_16 (cM_P rfl) rfl ?_
    refine g_iload_n dX0_canBeCleaned_19 rfl ?_
    refine g_cpl dX0_canBeCleaned_20 (by omega) hz ?_
    refine g_iload_n dX0_canBeCleaned_21 rfl ?_
    rw [e1]
    cases hi : isV c (Y a) s with
    | none =>
      rw [hi] at hF
      refine g_callV_i (kX0_isServed0 e2 hv hs (by omega) hi) oX0_isServed pX0_isServed lX0_65 dX0_canBeCleaned_22 rfl (cM_P rfl) rfl rfl rfl (Nat.le_of_ble_eq_true rfl) (Nat.le_of_ble_eq_true rfl) (by decide) (fun M' h' => ?_)
      subst h'
      refine g_if_ne_n (tgt := 30) dX0_canBeCleaned_25 (by decide) (by omega) (fun h2 => ?_) (fun h2 => ?_)
      · exact absurd rfl h2
      refine g_iconst (v := nI 0) dX0_canBeCleaned_28 (by decide) ?_
      exact g_ireturn dX0_canBeCleaned_29 rfl rfl (hF s)
    | some s' =>
      rw [hi] at hF
      refine g_callV_i (kX0_isServed e2 hv hs (by omega) hi) oX0_isServed pX0_isServed lX0_65 dX0_canBeCleaned_22 rfl (cM_P rfl) rfl rfl rfl (Nat.le_of_ble_eq_true rfl) (Nat.le_of_ble_eq_true rfl) (by decide) (fun M' h' => ?_)
      subst h'
      refine g_if_ne_n (tgt := 30) dX0_canBeCleaned_25 (by decide) (by omega) (fun h2 => ?_) (fun h2 => ?_)
      · refine g_iinc_n (c := 1) dX0_canBeCleaned_30 rfl (by decide) (by decide) ?_
        refine g_goto (tgt := 6) dX0_canBeCleaned_33 (by decide) ?_
        exact g_loc rfl (ih (k + 1) s' (by omega) (isV_b hc hv hs hi) hF)
      · cases h2
theorem kX0_canBeCleaned {l : List Nat} (hp : pL Y l) {c : Nat} (hc : c < 1048576) : Cn mX0_canBeCleaned 1 0 0 none [.ref 67, .int (nI c)] (cM M0 Y) (zi (nI (cbL Y c l (0, fun _ => 0)).toNat) (fun M' => ∃ s : cZ, M' = cM M0 (clY Y s.1 s.2))) := by
  refine g_aload_n dX0_canBeCleaned_0 rfl ?_
  refine g_callV_v (kX0_startCleaning) oX0_startCleaning pX0_startCleaning lX0_62 dX0_canBeCleaned_1 rfl (cM_P rfl) rfl rfl rfl (Nat.le_of_ble_eq_true rfl) (Nat.le_of_ble_eq_true rfl) (by decide) (fun M' h' => ?_)
  subst h'
  refine g_iconst (v := nI 0) dX0_canBeCleaned_4 (by decide) ?_
  refine g_istore_n dX0_canBeCleaned_5 (by decide) ?_
  refine g_loc rfl (cb1 hp hc _ l.length 0 (0, fun _ => 0) (by omega) ⟨Nat.zero_le _, fun _ _ => Nat.zero_le _⟩ (fun s' => ⟨rfl, ?_, s', rfl⟩))
  rw [List.drop_zero]
theorem cw1 {l : List Nat} (hp : pL Y l) {c o : Nat} (hc : c < 1048576) (ho : kq o = 1) (hvo : vB (Y o)) (F : zP) : ∀ u k (w : Bool) (s : cZ), k + u = l.length → zB s (2 * k) → (∀ s' : cZ, F (cM M0 (clY Y s'.1 s'.2)) none (.inl (some (.int (nI (cbW Y c o (l.drop k) w s).toNat))))) → G mX0_canBeCleanedWith 3 0 0 none 9 [(0, .ref 67), (1, .ref o), (2, .int (nI c)), (3, .int (nI w.toNat)), (4, .int (nI k))] [] (cM M0 (clY Y s.1 s.2)) F := by
  have hsz := hp.1
  have h20 := hp.2.2.2
  intro u
  induction u with
  | zero =>
    intro k w s hk hs hF
    have : k = l.length := by omega
    subst this
    rw [List.drop_length] at hF
    simp only [cbW] at hF
    refine g_iload dX0_canBeCleanedWith_9 rfl ?_
    refine g_aload_n dX0_canBeCleanedWith_11 rfl ?_
    refine g_get fX0_21 dX0_canBeCleanedWith_12 (cM_P rfl) rfl ?_
    rw [clY_1, hsz]
    refine g_icmp_ge_n (tgt := 84) dX0_canBeCleanedWith_15 (by decide) (by omega) (by omega) (fun h1 => ?_) (fun h1 => ?_)
    rotate_left
    · omega
    refine g_iload_n dX0_canBeCleanedWith_84 rfl ?_
    refine g_if_eq_b (tgt := 97) dX0_canBeCleanedWith_85 (by decide) (fun h2 => ?_) (fun h2 => ?_)
    · refine g_iconst (v := nI 1) dX0_canBeCleanedWith_97 (by decide) ?_
      refine g_goto (tgt := 102) dX0_canBeCleanedWith_98 (by decide) ?_
      refine g_ireturn dX0_canBeCleanedWith_102 rfl rfl ?_
      have := hF s
      rw [h2] at this
      exact this
    refine g_aload_n dX0_canBeCleanedWith_88 rfl ?_
    refine g_aload_n dX0_canBeCleanedWith_89 rfl ?_
    refine g_iload_n dX0_canBeCleanedWith_90 rfl ?_
    cases hi : isV c (Y o) s with
    | none =>
      refine g_callV_i (kX0_isServed0 ho hvo hs (by omega) hi) oX0_isServed pX0_isServed lX0_65 dX0_canBeCleanedWith_91 rfl (cM_P rfl) rfl rfl rfl (Nat.le_of_ble_eq_true rfl) (Nat.le_of_ble_eq_true rfl) (by decide) (fun M' h' => ?_)
      subst h'
      refine g_if_eq_n (tgt := 101) dX0_canBeCleanedWith_94 (by decide) (by omega) (fun h3 => ?_) (fun h3 => ?_)
      · refine g_iconst (v := nI 0) dX0_canBeCleanedWith_101 (by decide) ?_
        refine g_ireturn dX0_canBeCleanedWith_102 rfl rfl ?_
        have := hF s
        rw [h2, hi] at this
        exact this
      · exact absurd rfl h3
    | some s' =>
      refine g_callV_i (kX0_isServed ho hvo hs (by omega) hi) oX0_isServed pX0_isServed lX0_65 dX0_canBeCleanedWith_91 rfl (cM_P rfl) rfl rfl rfl (Nat.le_of_ble_eq_true rfl) (Nat.le_of_ble_eq_true rfl) (by decide) (fun M' h' => ?_)
      subst h'
      refine g_if_eq_n (tgt := 101) dX0_canBeCleanedWith_94 (by decide) (by omega) (fun h3 => ?_) (fun h3 => ?_)
      · cases h3
      · refine g_iconst (v := nI 1) dX0_canBeCleanedWith_97 (by decide) ?_
        refine g_goto (tgt := 102) dX0_canBeCleanedWith_98 (by decide) ?_
        refine g_ireturn dX0_canBeCleanedWith_102 rfl rfl ?_
        have := hF s'
        rw [h2, hi] at this
        exact this
  | succ u ih =>
    intro k w s hk hs hF
    have hx : l[k]? = some l[k] := List.getElem?_eq_getElem (by omega)
    generalize hxe : l[k] = a at hx
    obtain ⟨e1, e2, e3, e4⟩ := pL_at (pL_cl hp s.1 s.2) hx
    have h8 := kq_8 e2 (by decide)
    have hz : clY Y s.1 s.2 68 k ≠ 0 := by omega
    have ea : ∀ s : cZ, clY Y s.1 s.2 a = Y a := fun s => clY_L Y s.1 s.2 e2
    have eo : ∀ s : cZ, clY Y s.1 s.2 o = Y o := fun s => clY_L Y s.1 s.2 ho
    have hv : vB (Y a) := by rw [ea] at e3; exact e3
    rw [drop_get hx, cbW] at hF
    have next : ∀ (w' : Bool) (s' : cZ), zB s' (2 * (k + 1)) → (∀ s2 : cZ, F (cM M0 (clY Y s2.1 s2.2)) none (.inl (some (.int (nI (cbW Y c o (l.drop (k + 1)) w' s').toNat))))) → G mX0_canBeCleanedWith 3 0 0 none 78 [(0, .ref 67), (1, .ref o), (2, .int (nI c)), (3, .int (nI w'.toNat)), (4, .int (nI k))] [] (cM M0 (clY Y s'.1 s'.2)) F := fun w' s' hs' hF' => by
      refine g_iinc_n (c := 1) dX0_canBeCleanedWith_78 rfl (by decide) (by decide) ?_
      refine g_goto (tgt := 9) dX0_canBeCleanedWith_81 (by decide) ?_
      exact g_loc rfl (ih (k + 1) w' s' (by omega) hs' hF')
    have serve : ∀ (w' : Bool) (s1 : cZ), zB s1 (2 * k + 1) → (∀ s2 : cZ, F (cM M0 (clY Y s2.1 s2.2)) none (.inl (some (.int (nI (match isV c (Y a) s1 with | none => false | some s2 => cbW Y c o (l.drop (k + 1)) w' s2).toNat))))) → G mX0_canBeCleanedWith 3 0 0 none 66 [(0, .ref 67), (1, .ref o), (2, .int (nI c)), (3, .int (nI w'.toNat)), (4, .int (nI k)), (5, .ref a)] [] (cM M0 (clY Y s1.1 s1.2)) F := fun w' s1 hs1 hF1 => by
      refine g_aload_n dX0_canBeCleanedWith_66 rfl ?_
      refine g_aload dX0_canBeCleanedWith_67 rfl ?_
      refine g_iload_n dX0_canBeCleanedWith_69 rfl ?_
      cases hi : isV c (Y a) s1 with
      | none =>
        rw [hi] at hF1
        refine g_callV_i (kX0_isServed0 e2 hv hs1 (by omega) hi) oX0_isServed pX0_isServed lX0_65 dX0_canBeCleanedWith_70 rfl (cM_P rfl) rfl rfl rfl (Nat.le_of_ble_eq_true rfl) (Nat.le_of_ble_eq_true rfl) (by decide) (fun M' h' => ?_)
        subst h'
        refine g_if_ne_n (tgt := 78) dX0_canBeCleanedWith_73 (by decide) (by omega) (fun h2 => ?_) (fun h2 => ?_)
        · exact absurd rfl h2
        refine g_iconst (v := nI 0) dX0_canBeCleanedWith_76 (by decide) ?_
        exact g_ireturn dX0_canBeCleanedWith_77 rfl rfl (hF1 s1)
      | some s' =>
        rw [hi] at hF1
        refine g_callV_i (kX0_isServed e2 hv hs1 (by omega) hi) oX0_isServed pX0_isServed lX0_65 dX0_canBeCleanedWith_70 rfl (cM_P rfl) rfl rfl rfl (Nat.le_of_ble_eq_true rfl) (Nat.le_of_ble_eq_true rfl) (by decide) (fun M' h' => ?_)
        subst h'
        refine g_if_ne_n (tgt := 78) dX0_canBeCleanedWith_73 (by decide) (by omega) (fun h2 => ?_) (fun h2 => ?_)
        · exact g_loc rfl (next w' s' (by have := isV_b hc hv hs1 hi; rwa [show 2 * k + 1 + 1 = 2 * (k + 1) by omega] at this) hF1)
        · cases h2
    have up : ∀ s : cZ, ∀ n m, n ≤ m → zB s n → zB s m := fun s n m hnm h => ⟨Nat.le_trans h.1 (Nat.mul_le_mul_right _ hnm), fun j hj => Nat.le_trans (h.2 j hj) (Nat.mul_le_mul_right _ hnm)⟩
    refine g_iload dX0_canBeCleanedWith_9 rfl ?_
    refine g_aload_n dX0_canBeCleanedWith_11 rfl ?_
    refine g_get fX0_21 dX0_canBeCleanedWith_12 (cM_P rfl) rfl ?_
    rw [clY_1, hsz]
    refine g_icmp_ge_n (tgt := 84) dX0_canBeCleanedWith_15 (by decide) (by omega) (by omega) (fun h1 => ?_) (fun h1 => ?_)
    · omega
    refine g_aload_n dX0_canBeCleanedWith_18 rfl ?_
    refine g_get fX0_11 dX0_canBeCleanedWith_19 (cM_P rfl) rfl ?_
    refine g_iload dX0_canBeCleanedWith_22 rfl ?_
    refine g_cpl dX0_canBeCleanedWith_24 (by omega) hz ?_
    rw [e1]
    refine g_astore dX0_canBeCleanedWith_25 (by decide) ?_
    refine g_aload dX0_canBeCleanedWith_27 rfl ?_
    refine g_aload_n dX0_canBeCleanedWith_29 rfl ?_
    refine g_iload_n dX0_canBeCleanedWith_30 rfl ?_
    refine g_callV_i (kX1_clashesWith e2 ho (c := c) (by rw [ea]; exact hv) (by rw [eo]; exact hvo) hc) oX1_clashesWith pX1_clashesWith lX0_55 dX0_canBeCleanedWith_31 rfl (cM_L e2) rfl rfl rfl (Nat.le_of_ble_eq_true rfl) (Nat.le_of_ble_eq_true rfl) (by decide) (fun M' h' => ?_)
    subst h'
    rw [ea, eo]
    refine g_if_eq_b (tgt := 40) dX0_canBeCleanedWith_34 (by decide) (fun h2 => ?_) (fun h2 => ?_)
    rotate_left
    · refine g_goto (tgt := 78) dX0_canBeCleanedWith_37 (by decide) ?_
      rw [h2] at hF
      exact g_loc rfl (next w s (up s _ _ (by omega) hs) hF)
    rw [h2] at hF
    refine g_iload_n dX0_canBeCleanedWith_40 rfl ?_
    refine g_if_eq_b (tgt := 66) dX0_canBeCleanedWith_41 (by decide) (fun h3 => ?_) (fun h3 => ?_)
    · subst h3
      exact g_loc rfl (serve false s (up s _ _ (by omega) hs) hF)
    subst h3
    refine g_aload_n dX0_canBeCleanedWith_44 rfl ?_
    refine g_aload dX0_canBeCleanedWith_45 rfl ?_
    refine g_callV_i (kX1_isCleanedBefore ho e2 (by rw [eo]; exact hvo) (by rw [ea]; exact hv)) oX1_isCleanedBefore pX1_isCleanedBefore lX0_48 dX0_canBeCleanedWith_47 rfl (cM_L ho) rfl rfl rfl (Nat.le_of_ble_eq_true rfl) (Nat.le_of_ble_eq_true rfl) (by decide) (fun M' h' => ?_)
    subst h'
    rw [ea, eo]
    refine g_if_eq_b (tgt := 66) dX0_canBeCleanedWith_50 (by decide) (fun h4 => ?_) (fun h4 => ?_)
    · rw [h4] at hF
      exact g_loc rfl (serve true s (up s _ _ (by omega) hs) hF)
    rw [h4] at hF
    refine g_iconst (v := nI 0) dX0_canBeCleanedWith_53 (by decide) ?_
    refine g_istore_n dX0_canBeCleanedWith_54 (by decide) ?_
    refine g_aload_n dX0_canBeCleanedWith_55 rfl ?_
    refine g_aload_n dX0_canBeCleanedWith_56 rfl ?_
    refine g_iload_n dX0_canBeCleanedWith_57 rfl ?_
    cases hi : isV c (Y o) s with
    | none =>
      rw [hi] at hF
      refine g_callV_i (kX0_isServed0 ho hvo hs (by omega) hi) oX0_isServed pX0_isServed lX0_65 dX0_canBeCleanedWith_58 rfl (cM_P rfl) rfl rfl rfl (Nat.le_of_ble_eq_true rfl) (Nat.le_of_ble_eq_true rfl) (by decide) (fun M' h' => ?_)
      subst h'
      refine g_if_ne_n (tgt := 66) dX0_canBeCleanedWith_61 (by decide) (by omega) (fun h5 => ?_) (fun h5 => ?_)
      · exact absurd rfl h5
      refine g_iconst (v := nI 0) dX0_canBeCleanedWith_64 (by decide) ?_
      exact g_ireturn dX0_canBeCleanedWith_65 rfl rfl (hF s)
    | some s' =>
      rw [hi] at hF
      refine g_callV_i (kX0_isServed ho hvo hs (by omega) hi) oX0_isServed pX0_isServed lX0_65 dX0_canBeCleanedWith_58 rfl (cM_P rfl) rfl rfl rfl (Nat.le_of_ble_eq_true rfl) (Nat.le_of_ble_eq_true rfl) (by decide) (fun M' h' => ?_)
      subst h'
      refine g_if_ne_n (tgt := 66) dX0_canBeCleanedWith_61 (by decide) (by omega) (fun h5 => ?_) (fun h5 => ?_)
      · exact g_loc rfl (serve false s' (isV_b hc hvo hs hi) hF)
      · cases h5
theorem kX0_canBeCleanedWith {l : List Nat} (hp : pL Y l) {c o : Nat} (hc : c < 1048576) (ho : kq o = 1) (hvo : vB (Y o)) : Cn mX0_canBeCleanedWith 3 0 0 none [.ref 67, .ref o, .int (nI c)] (cM M0 Y) (zi (nI (cbW Y c o l true (0, fun _ => 0)).toNat) (fun M' => ∃ s : cZ, M' = cM M0 (clY Y s.1 s.2))) := by
  refine g_aload_n dX0_canBeCleanedWith_0 rfl ?_
  refine g_callV_v (kX0_startCleaning) oX0_startCleaning pX0_startCleaning lX0_62 dX0_canBeCleanedWith_1 rfl (cM_P rfl) rfl rfl rfl (Nat.le_of_ble_eq_true rfl) (Nat.le_of_ble_eq_true rfl) (by decide) (fun M' h' => ?_)
  subst h'
  refine g_iconst (v := nI 1) dX0_canBeCleanedWith_4 (by decide) ?_
  refine g_istore_n dX0_canBeCleanedWith_5 (by decide) ?_
  refine g_iconst (v := nI 0) dX0_canBeCleanedWith_6 (by decide) ?_
  refine g_istore dX0_canBeCleanedWith_7 (by decide) ?_
  refine g_loc rfl (cw1 hp hc ho hvo _ l.length 0 true (0, fun _ => 0) (by omega) ⟨Nat.zero_le _, fun _ _ => Nat.zero_le _⟩ (fun s' => ⟨rfl, ?_, s', rfl⟩))
  rw [List.drop_zero]
theorem ra1 {l : List Nat} (hp : pL Y l) {c o : Nat} (hc : c < 1048576) (ho : kq o = 1) (hvo : vB (Y o)) (F : zP) : ∀ u k, k + u = l.length → (∀ s' : cZ, (l.drop k).any (fun a => decide (Y o 4 ≤ Y a 4) && vCl (Y a) (Y o) c) = false → F (cM M0 (clY Y s'.1 s'.2)) none (.inl (some (.int (nI (bif cbW Y c o l true (0, fun _ => 0) then 0 else 3)))))) → ((l.drop k).any (fun a => decide (Y o 4 ≤ Y a 4) && vCl (Y a) (Y o) c) = true → F (cM M0 Y) none (.inl (some (.int (nI 2))))) → G mX0_reasonAgainst 4 0 0 none 2 [(0, .ref 67), (1, .ref o), (2, .int (nI c)), (3, .int (nI k))] [] (cM M0 Y) F := by
  have hsz := hp.1
  have h20 := hp.2.2.2
  intro u
  induction u with
  | zero =>
    intro k hk hF hF2
    have : k = l.length := by omega
    subst this
    rw [List.drop_length] at hF
    refine g_iload_n dX0_reasonAgainst_2 rfl ?_
    refine g_aload_n dX0_reasonAgainst_3 rfl ?_
    refine g_get fX0_21 dX0_reasonAgainst_4 (cM_P rfl) rfl ?_
    rw [hsz]
    refine g_icmp_ge_n (tgt := 48) dX0_reasonAgainst_7 (by decide) (by omega) (by omega) (fun h1 => ?_) (fun h1 => ?_)
    rotate_left
    · omega
    refine g_aload_n dX0_reasonAgainst_48 rfl ?_
    refine g_aload_n dX0_reasonAgainst_49 rfl ?_
    refine g_iload_n dX0_reasonAgainst_50 rfl ?_
    refine g_callV_i (kX0_canBeCleanedWith hp hc ho hvo) oX0_canBeCleanedWith pX0_canBeCleanedWith lX0_59 dX0_reasonAgainst_51 rfl (cM_P rfl) rfl rfl rfl (Nat.le_of_ble_eq_true rfl) (Nat.le_of_ble_eq_true rfl) (by decide) (fun M' h' => ?_)
    obtain ⟨s', rfl⟩ := h'
    refine g_if_eq_b (tgt := 61) dX0_reasonAgainst_54 (by decide) (fun h2 => ?_) (fun h2 => ?_)
    · refine g_iconst (v := nI 3) dX0_reasonAgainst_61 (by decide) ?_
      refine g_ireturn dX0_reasonAgainst_62 rfl rfl ?_
      have := hF s' rfl
      rw [h2] at this
      exact this
    · refine g_iconst (v := nI 0) dX0_reasonAgainst_57 (by decide) ?_
      refine g_goto (tgt := 62) dX0_reasonAgainst_58 (by decide) ?_
      refine g_ireturn dX0_reasonAgainst_62 rfl rfl ?_
      have := hF s' rfl
      rw [h2] at this
      exact this
  | succ u ih =>
    intro k hk hF hF2
    have hx : l[k]? = some l[k] := List.getElem?_eq_getElem (by omega)
    generalize hxe : l[k] = a at hx
    obtain ⟨e1, e2, e3, e4⟩ := pL_at hp hx
    have h8 := kq_8 e2 (by decide)
    have hz : Y 68 k ≠ 0 := by omega
    have hk1 : kq (Y 68 k) = 1 := by rw [e1]; exact e2
    have b4 := e3.1 4 (by omega)
    have o4 := hvo.1 4 (by omega)
    rw [drop_get hx, List.any_cons] at hF hF2
    have skip : (decide (Y o 4 ≤ Y a 4) && vCl (Y a) (Y o) c) = false → G mX0_reasonAgainst 4 0 0 none 42 [(0, .ref 67), (1, .ref o), (2, .int (nI c)), (3, .int (nI k))] [] (cM M0 Y) F := fun hq => by
      rw [hq, Bool.false_or] at hF hF2
      refine g_iinc_n (c := 1) dX0_reasonAgainst_42 rfl (by decide) (by decide) ?_
      refine g_goto (tgt := 2) dX0_reasonAgainst_45 (by decide) ?_
      exact g_loc rfl (ih (k + 1) (by omega) hF hF2)
    refine g_iload_n dX0_reasonAgainst_2 rfl ?_
    refine g_aload_n dX0_reasonAgainst_3 rfl ?_
    refine g_get fX0_21 dX0_reasonAgainst_4 (cM_P rfl) rfl ?_
    rw [hsz]
    refine g_icmp_ge_n (tgt := 48) dX0_reasonAgainst_7 (by decide) (by omega) (by omega) (fun h1 => ?_) (fun h1 => ?_)
    · omega
    refine g_aload_n dX0_reasonAgainst_10 rfl ?_
    refine g_get fX0_11 dX0_reasonAgainst_11 (cM_P rfl) rfl ?_
    refine g_iload_n dX0_reasonAgainst_14 rfl ?_
    refine g_cpl dX0_reasonAgainst_15 (by omega) hz ?_
    refine g_get fX0_52 dX0_reasonAgainst_16 (cM_L hk1) rfl ?_
    refine g_aload_n dX0_reasonAgainst_19 rfl ?_
    refine g_get fX0_52 dX0_reasonAgainst_20 (cM_L ho) rfl ?_
    rw [e1]
    refine g_icmp_lt_n (tgt := 42) dX0_reasonAgainst_23 (by decide) (by omega) (by omega) (fun h2 => ?_) (fun h2 => ?_)
    · exact g_loc rfl (skip (by rw [decide_eq_false (by omega)]; rfl))
    refine g_aload_n dX0_reasonAgainst_26 rfl ?_
    refine g_get fX0_11 dX0_reasonAgainst_27 (cM_P rfl) rfl ?_
    refine g_iload_n dX0_reasonAgainst_30 rfl ?_
    refine g_cpl dX0_reasonAgainst_31 (by omega) hz ?_
    refine g_aload_n dX0_reasonAgainst_32 rfl ?_
    refine g_iload_n dX0_reasonAgainst_33 rfl ?_
    rw [e1]
    refine g_callV_i (kX1_clashesWith e2 ho (c := c) e3 hvo hc) oX1_clashesWith pX1_clashesWith lX0_55 dX0_reasonAgainst_34 rfl (cM_L e2) rfl rfl rfl (Nat.le_of_ble_eq_true rfl) (Nat.le_of_ble_eq_true rfl) (by decide) (fun M' h' => ?_)
    subst h'
    refine g_if_eq_b (tgt := 42) dX0_reasonAgainst_37 (by decide) (fun h3 => ?_) (fun h3 => ?_)
    · exact g_loc rfl (skip (by rw [h3, Bool.and_false]))
    · refine g_iconst (v := nI 2) dX0_reasonAgainst_40 (by decide) ?_
      exact g_ireturn dX0_reasonAgainst_41 rfl rfl (hF2 (by rw [h3, decide_eq_true h2]; rfl))
theorem kX0_reasonAgainst {l : List Nat} (hp : pL Y l) {c o : Nat} (hc : c < 1048576) (ho : kq o = 1) (hvo : vB (Y o)) : Cn mX0_reasonAgainst 4 0 0 none [.ref 67, .ref o, .int (nI c)] (cM M0 Y) (zi (nI (rsC Y c o l)) (fun M' => ∃ (fr : Nat) (cf : Nat → Nat), M' = cM M0 (clY Y fr cf))) := by
  refine g_iconst (v := nI 0) dX0_reasonAgainst_0 (by decide) ?_
  refine g_istore_n dX0_reasonAgainst_1 (by decide) ?_
  refine g_loc rfl (ra1 hp hc ho hvo _ l.length 0 (by omega) (fun s' hq => ⟨rfl, ?_, s'.1, s'.2, rfl⟩) (fun hq => ⟨rfl, ?_, Y 67 3, Y 69, ?_⟩))
  · rw [List.drop_zero] at hq
    rw [rsC, hq]
    rfl
  · rw [List.drop_zero] at hq
    rw [rsC, hq]
    rfl
  · congr 1
    funext a
    by_cases h : a = 67
    · subst h
      funext j
      rw [clY, uA_s]
      by_cases hj : j = 3
      · subst hj; rw [uN_s]
      · rw [uN_n _ _ hj]
    · by_cases h2 : a = 69
      · subst h2; rw [clY_c]
      · rw [clY_o _ _ _ h h2]
end PLAN3
