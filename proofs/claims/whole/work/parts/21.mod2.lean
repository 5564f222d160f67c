/-! the reference: what stands on a day, cleaning, reasons -/
def lkR (X : Nat → Nat) (day : Nat) : Nat → List Nat
  | 0 => []
  | k + 1 => lkR X day k ++ (bif stdR X k day then [12 + 10 * k] else [])
def lkS (X : Nat → Nat) (day : Nat) : Nat → List Nat
  | 0 => []
  | k + 1 => lkS X day k ++ (bif decide (X (93 + 7 * k + 1) = day) then [93 + 7 * k] else [])
def lk (X : Nat → Nat) (day : Nat) : List Nat := lkR X day (X 11) ++ lkS X day (X 92)
theorem lkR_len (X : Nat → Nat) (day : Nat) : ∀ k, (lkR X day k).length ≤ k
  | 0 => Nat.le_refl 0
  | k + 1 => by
    have h := lkR_len X day k
    simp only [lkR, List.length_append]
    cases stdR X k day <;> simp <;> omega
theorem lkS_len (X : Nat → Nat) (day : Nat) : ∀ k, (lkS X day k).length ≤ k
  | 0 => Nat.le_refl 0
  | k + 1 => by
    have h := lkS_len X day k
    simp only [lkS, List.length_append]
    cases decide (X (93 + 7 * k + 1) = day) <;> simp <;> omega
theorem lkR_mem {X : Nat → Nat} {day p : Nat} : ∀ {k}, p ∈ lkR X day k → ∃ i, i < k ∧ p = 12 + 10 * i ∧ stdR X i day = true
  | 0, h => by cases h
  | k + 1, h => by
    rcases List.mem_append.mp h with h | h
    · obtain ⟨i, h1, h2⟩ := lkR_mem h
      exact ⟨i, by omega, h2⟩
    · cases hs : stdR X k day
      · rw [hs] at h; cases h
      · rw [hs] at h
        exact ⟨k, by omega, List.mem_singleton.mp h, hs⟩
theorem lkS_mem {X : Nat → Nat} {day p : Nat} : ∀ {k}, p ∈ lkS X day k → ∃ i, i < k ∧ p = 93 + 7 * i ∧ X (93 + 7 * i + 1) = day
  | 0, h => by cases h
  | k + 1, h => by
    rcases List.mem_append.mp h with h | h
    · obtain ⟨i, h1, h2⟩ := lkS_mem h
      exact ⟨i, by omega, h2⟩
    · cases hs : decide (X (93 + 7 * k + 1) = day)
      · rw [hs] at h; cases h
      · rw [hs] at h
        exact ⟨k, by omega, List.mem_singleton.mp h, of_decide_eq_true hs⟩
/-- a state is small, and its numbers of lets are in range -/
def wf0 (X : Nat → Nat) : Prop := rB X ∧ X 11 ≤ 8 ∧ X 92 ≤ 12
theorem lk_len {X : Nat → Nat} (h : wf0 X) (day : Nat) : (lk X day).length ≤ 20 := by
  have h1 := lkR_len X day (X 11)
  have h2 := lkS_len X day (X 92)
  obtain ⟨-, h3, h4⟩ := h
  simp only [lk, List.length_append]
  omega
theorem lk_lt {X : Nat → Nat} (h : wf0 X) {day p : Nat} (hp : p ∈ lk X day) : 12 ≤ p ∧ p + 6 < 177 := by
  obtain ⟨-, h3, h4⟩ := h
  rcases List.mem_append.mp hp with h | h
  · obtain ⟨i, h1, rfl, -⟩ := lkR_mem h
    omega
  · obtain ⟨i, h1, rfl, -⟩ := lkS_mem h
    omega
def atL (l : List Nat) (A : Nat → Nat) : Prop := ∀ j a, l[j]? = some a → A j = a
theorem atL_nil (A : Nat → Nat) : atL [] A := fun j a h => by simp at h
theorem atL_push {l : List Nat} {A : Nat → Nat} (h : atL l A) (a : Nat) : atL (l ++ [a]) (uN A l.length a) := by
  intro j b hb
  rcases Nat.lt_trichotomy j l.length with hj | hj | hj
  · rw [uN_n _ _ (by omega)]
    rw [List.getElem?_append_left hj] at hb
    exact h j b hb
  · subst hj
    rw [uN_s]
    simpa using hb
  · rw [List.getElem?_eq_none (by simp; omega)] at hb
    cases hb
theorem len1 {α : Type} (l : List α) (a : α) : (l ++ [a]).length = l.length + 1 := by simp
section MOD2
variable {M0 : zM} {X SV SN AT CH CF CT BU PT : Nat → Nat} {sm ik th mn cl ln sp nu pa : Nat} {hs : Int64}
theorem look1 (hX : wf0 X) {day : Nat} (hd : day < 84) (F : zP) (hk : ∀ AT', atL (lkR X day (X 11)) AT' → G mX6_look 2 0 0 none 59 [(0, .ref 233), (1, .int (nI day))] [] (mM M0 X SV SN AT' CH CF CT BU PT sm ik th (lkR X day (X 11)).length cl ln sp nu pa hs) F) : ∀ n k AT', k + n = X 11 → atL (lkR X day k) AT' → G mX6_look 2 0 0 none 7 [(0, .ref 233), (1, .int (nI day)), (2, .int (nI k))] [] (mM M0 X SV SN AT' CH CF CT BU PT sm ik th (lkR X day k).length cl ln sp nu pa hs) F := by
  obtain ⟨hB, h8, h12⟩ := id hX
  intro n
  induction n with
  | zero =>
    intro k AT' hkn hat
    have : k = X 11 := by omega
    subst this
    refine g_iload_n dX6_look_7 rfl ?_
    refine g_aload_n dX6_look_8 rfl ?_
    refine g_get fX6_7 dX6_look_9 rfl rfl ?_
    refine g_bipush (v := nI 11) dX6_look_12 (by decide) ?_
    refine g_iald_n dX6_look_14 rfl (by omega) (by decide) ?_
    refine g_icmp_ge_n (tgt := 59) dX6_look_15 (by decide) (by omega) (by omega) (fun h1 => ?_) (fun h1 => ?_)
    · exact g_loc rfl (hk AT' hat)
    · omega
  | succ n ih =>
    intro k AT' hkn hat
    have hl := lkR_len X day k
    refine g_iload_n dX6_look_7 rfl ?_
    refine g_aload_n dX6_look_8 rfl ?_
    refine g_get fX6_7 dX6_look_9 rfl rfl ?_
    refine g_bipush (v := nI 11) dX6_look_12 (by decide) ?_
    refine g_iald_n dX6_look_14 rfl (by omega) (by decide) ?_
    refine g_icmp_ge_n (tgt := 59) dX6_look_15 (by decide) (by omega) (by omega) (fun h1 => ?_) (fun h1 => ?_)
    · omega
    refine g_aload_n dX6_look_18 rfl ?_
    refine g_iload_n dX6_look_19 rfl ?_
    refine g_iload_n dX6_look_20 rfl ?_
    refine g_callV_i (kX6_standsOn hB (i := k) (day := day) (by omega) hd) oX6_standsOn pX6_standsOn lX6_70 dX6_look_21 rfl rfl rfl rfl rfl (Nat.le_of_ble_eq_true rfl) (Nat.le_of_ble_eq_true rfl) (by decide) (fun M' h' => ?_)
    subst h'
    refine g_if_eq_b (tgt := 53) dX6_look_24 (by decide) (fun h2 => ?_) (fun h2 => ?_)
    · refine g_iinc_n (c := 1) dX6_look_53 rfl (by decide) (by decide) ?_
      refine g_goto (tgt := 7) dX6_look_56 (by decide) ?_
      have e : lkR X day (k + 1) = lkR X day k := by simp [lkR, h2]
      have := ih (k + 1) AT' (by omega) (by rw [e]; exact hat)
      rw [e] at this
      exact g_loc rfl this
    · refine g_aload_n dX6_look_27 rfl ?_
      refine g_get fX6_19 dX6_look_28 rfl rfl ?_
      refine g_aload_n dX6_look_31 rfl ?_
      refine g_get fX6_67 dX6_look_32 rfl rfl ?_
      refine g_bipush (v := nI 12) dX6_look_35 (by decide) ?_
      refine g_bipush (v := nI 10) dX6_look_37 (by decide) ?_
      refine g_iload_n dX6_look_39 rfl ?_
      refine g_imul_n dX6_look_40 ?_
      refine g_iadd_n dX6_look_41 ?_
      refine g_mst_at dX6_look_42 (by omega) ?_
      refine g_aload_n dX6_look_43 rfl ?_
      refine g_dup dX6_look_44 rfl ?_
      refine g_get fX6_67 dX6_look_45 rfl rfl ?_
      refine g_iconst (v := nI 1) dX6_look_48 (by decide) ?_
      refine g_iadd_n dX6_look_49 ?_
      refine g_mput_many fX6_67 dX6_look_50 ?_
      refine g_iinc_n (c := 1) dX6_look_53 rfl (by decide) (by decide) ?_
      refine g_goto (tgt := 7) dX6_look_56 (by decide) ?_
      have e : lkR X day (k + 1) = lkR X day k ++ [12 + 10 * k] := by simp [lkR, h2]
      have := ih (k + 1) (uN AT' (lkR X day k).length (12 + 10 * k)) (by omega) (by rw [e]; exact atL_push hat _)
      rw [e, len1] at this
      exact g_loc rfl this
theorem look2 (hX : wf0 X) {day : Nat} (hd : day < 84) (F : zP) (hk : ∀ AT', atL (lk X day) AT' → G mX6_look 2 0 0 none 114 [(0, .ref 233), (1, .int (nI day))] [] (mM M0 X SV SN AT' CH CF CT BU PT sm ik th (lk X day).length cl ln sp nu pa hs) F) : ∀ n k AT', k + n = X 92 → atL (lkR X day (X 11) ++ lkS X day k) AT' → G mX6_look 2 0 0 none 61 [(0, .ref 233), (1, .int (nI day)), (2, .int (nI k))] [] (mM M0 X SV SN AT' CH CF CT BU PT sm ik th (lkR X day (X 11) ++ lkS X day k).length cl ln sp nu pa hs) F := by
  obtain ⟨hB, h8, h12⟩ := id hX
  have hB92 := hB 92 (by omega) (by omega) (by omega) (by omega)
  intro n
  induction n with
  | zero =>
    intro k AT' hkn hat
    have : k = X 92 := by omega
    subst this
    refine g_iload_n dX6_look_61 rfl ?_
    refine g_aload_n dX6_look_62 rfl ?_
    refine g_get fX6_7 dX6_look_63 rfl rfl ?_
    refine g_bipush (v := nI 92) dX6_look_66 (by decide) ?_
    refine g_iald_n dX6_look_68 rfl (by omega) (by decide) ?_
    refine g_icmp_ge_n (tgt := 114) dX6_look_69 (by decide) (by omega) (by omega) (fun h1 => ?_) (fun h1 => ?_)
    · exact g_loc rfl (hk AT' hat)
    · omega
  | succ n ih =>
    intro k AT' hkn hat
    have hl1 := lkR_len X day (X 11)
    have hl2 := lkS_len X day k
    have hl : (lkR X day (X 11) ++ lkS X day k).length ≤ 8 + k := by rw [List.length_append]; omega
    have hb := hB (93 + 7 * k + 1) (by omega) (by omega) (by omega) (by omega)
    refine g_iload_n dX6_look_61 rfl ?_
    refine g_aload_n dX6_look_62 rfl ?_
    refine g_get fX6_7 dX6_look_63 rfl rfl ?_
    refine g_bipush (v := nI 92) dX6_look_66 (by decide) ?_
    refine g_iald_n dX6_look_68 rfl (by omega) (by decide) ?_
    refine g_icmp_ge_n (tgt := 114) dX6_look_69 (by decide) (by omega) (by omega) (fun h1 => ?_) (fun h1 => ?_)
    · omega
    refine g_aload_n dX6_look_72 rfl ?_
    refine g_iload_n dX6_look_73 rfl ?_
    refine g_iconst (v := nI 1) dX6_look_74 (by decide) ?_
    refine g_callV_i (kX6_dated (i := k) (w := 1) (by omega)) oX6_dated pX6_dated lX6_74 dX6_look_75 rfl rfl rfl rfl rfl (Nat.le_of_ble_eq_true rfl) (Nat.le_of_ble_eq_true rfl) (by decide) (fun M' h' => ?_)
    subst h'
    refine g_iload_n dX6_look_78 rfl ?_
    refine g_icmp_ne_n (tgt := 108) dX6_look_79 (by decide) (by omega) (by omega) (fun h2 => ?_) (fun h2 => ?_)
    · refine g_iinc_n (c := 1) dX6_look_108 rfl (by decide) (by decide) ?_
      refine g_goto (tgt := 61) dX6_look_111 (by decide) ?_
      have e : lkS X day (k + 1) = lkS X day k := by simp [lkS, h2]
      have := ih (k + 1) AT' (by omega) (by rw [e]; exact hat)
      rw [e] at this
      exact g_loc rfl this
    · refine g_aload_n dX6_look_82 rfl ?_
      refine g_get fX6_19 dX6_look_83 rfl rfl ?_
      refine g_aload_n dX6_look_86 rfl ?_
      refine g_get fX6_67 dX6_look_87 rfl rfl ?_
      refine g_bipush (v := nI 93) dX6_look_90 (by decide) ?_
      refine g_bipush (v := nI 7) dX6_look_92 (by decide) ?_
      refine g_iload_n dX6_look_94 rfl ?_
      refine g_imul_n dX6_look_95 ?_
      refine g_iadd_n dX6_look_96 ?_
      refine g_mst_at dX6_look_97 (by omega) ?_
      refine g_aload_n dX6_look_98 rfl ?_
      refine g_dup dX6_look_99 rfl ?_
      refine g_get fX6_67 dX6_look_100 rfl rfl ?_
      refine g_iconst (v := nI 1) dX6_look_103 (by decide) ?_
      refine g_iadd_n dX6_look_104 ?_
      refine g_mput_many fX6_67 dX6_look_105 ?_
      refine g_iinc_n (c := 1) dX6_look_108 rfl (by decide) (by decide) ?_
      refine g_goto (tgt := 61) dX6_look_111 (by decide) ?_
      have e : lkR X day (X 11) ++ lkS X day (k + 1) = (lkR X day (X 11) ++ lkS X day k) ++ [93 + 7 * k] := by simp [lkS, h2]
      have := ih (k + 1) (uN AT' (lkR X day (X 11) ++ lkS X day k).length (93 + 7 * k)) (by omega) (by rw [e]; exact atL_push hat _)
      rw [e, len1] at this
      exact g_loc rfl this
theorem kX6_look (hX : wf0 X) {day : Nat} (hd : day < 84) : Cn mX6_look 2 0 0 none [.ref 233, .int (nI day)] (mM M0 X SV SN AT CH CF CT BU PT sm ik th mn cl ln sp nu pa hs) (zv (fun M' => ∃ AT', M' = mM M0 X SV SN AT' CH CF CT BU PT sm ik th (lk X day).length cl ln sp nu pa hs ∧ atL (lk X day) AT')) := by
  refine g_aload_n dX6_look_0 rfl ?_
  refine g_iconst (v := nI 0) dX6_look_1 (by decide) ?_
  refine g_mput_many fX6_67 dX6_look_2 ?_
  refine g_iconst (v := nI 0) dX6_look_5 (by decide) ?_
  refine g_istore_n dX6_look_6 (by decide) ?_
  refine g_loc rfl (look1 hX hd _ (fun AT' hat => ?_) (X 11) 0 AT (by omega) (atL_nil _))
  refine g_iconst (v := nI 0) dX6_look_59 (by decide) ?_
  refine g_istore_n dX6_look_60 (by decide) ?_
  have h0 : lkR X day (X 11) ++ lkS X day 0 = lkR X day (X 11) := by simp [lkS]
  have := look2 (M0 := M0) (SV := SV) (SN := SN) (CH := CH) (CF := CF) (CT := CT) (BU := BU) (PT := PT) (sm := sm) (ik := ik) (th := th) (cl := cl) (ln := ln) (sp := sp) (nu := nu) (pa := pa) (hs := hs) hX hd (zv (fun M' => ∃ AT', M' = mM M0 X SV SN AT' CH CF CT BU PT sm ik th (lk X day).length cl ln sp nu pa hs ∧ atL (lk X day) AT')) (fun AT' hat => by
    exact g_return dX6_look_114 rfl ⟨rfl, rfl, AT', rfl, hat⟩) (X 92) 0 AT' (by omega) (by rw [h0]; exact hat)
  rw [h0] at this
  exact g_loc rfl this
end MOD2
