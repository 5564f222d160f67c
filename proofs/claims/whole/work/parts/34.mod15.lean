/-! the reference: firstError and lets -/
theorem rdN_lo {BU : Nat → Nat} {ln sp lo hi v s : Nat} (h : rdN BU ln lo hi sp = some (v, s)) : lo ≤ v := by
  cases he : atB BU ln sp (48 + lo) (if hi < 9 then 48 + hi else 57)
  · rw [rdN, he] at h; cases h
  have h0' := he
  simp only [atB, Bool.and_eq_true, decide_eq_true_eq] at h0'
  obtain ⟨c1, c2, -⟩ := h0'
  rw [rdN, he, cond_true] at h
  split at h
  · obtain ⟨rfl, rfl⟩ := Prod.mk.inj (Option.some.inj h)
    omega
  · obtain ⟨rfl, rfl⟩ := Prod.mk.inj (Option.some.inj h)
    omega
/-- the parts hold lets -/
def prP (P : Nat → Nat) (j : Nat) : Prop := P (6 * j + 0) ≤ 2 ∧ P (6 * j + 1) ≤ 83 ∧ P (6 * j + 2) ≤ 23 ∧ 1 ≤ P (6 * j + 3) ∧ P (6 * j + 3) ≤ 24 ∧ 1 ≤ P (6 * j + 4) ∧ P (6 * j + 4) ≤ 9 ∧ P (6 * j + 5) ≤ 19
theorem rpF_ok {BU : Nat → Nat} (hB : bB BU) {ln pa sp : Nat} {PT : Nat → Nat} (h : (rpF BU ln pa sp PT).1 = true) : prP (rpF BU ln pa sp PT).2.2 pa ∧ ∀ j, j < 6 * pa → (rpF BU ln pa sp PT).2.2 j = PT j := by
  unfold rpF at h ⊢
  simp only [rpL, rpL1, List.cons_append, List.nil_append] at h ⊢
  cases hN0 : rdN BU ln 0 2 sp with
  | none => simp only [rpS, hN0] at h; cases h
  | some q =>
  obtain ⟨v0, s0⟩ := q
  have l0 := rdN_lo hN0
  obtain ⟨-, -, b0, -⟩ := rdN_b hB (by decide) hN0
  simp only [rpS, hN0] at h ⊢
  cases hN1 : atB BU ln s0 58 58
  · simp only [rpS, hN1, cond_false] at h; cases h
  simp only [rpS, hN1, cond_true] at h ⊢
  cases hN2 : rdN BU ln 0 83 (s0 + 1) with
  | none => simp only [rpS, hN2] at h; cases h
  | some q =>
  obtain ⟨v2, s2⟩ := q
  have l2 := rdN_lo hN2
  obtain ⟨-, -, b2, -⟩ := rdN_b hB (by decide) hN2
  simp only [rpS, hN2] at h ⊢
  cases hN3 : atB BU ln s2 44 44
  · simp only [rpS, hN3, cond_false] at h; cases h
  simp only [rpS, hN3, cond_true] at h ⊢
  cases hN4 : rdN BU ln 0 23 (s2 + 1) with
  | none => simp only [rpS, hN4] at h; cases h
  | some q =>
  obtain ⟨v4, s4⟩ := q
  have l4 := rdN_lo hN4
  obtain ⟨-, -, b4, -⟩ := rdN_b hB (by decide) hN4
  simp only [rpS, hN4] at h ⊢
  cases hN5 : atB BU ln s4 45 45
  · simp only [rpS, hN5, cond_false] at h; cases h
  simp only [rpS, hN5, cond_true] at h ⊢
  cases hN6 : rdN BU ln 1 24 (s4 + 1) with
  | none => simp only [rpS, hN6] at h; cases h
  | some q =>
  obtain ⟨v6, s6⟩ := q
  have l6 := rdN_lo hN6
  obtain ⟨-, -, b6, -⟩ := rdN_b hB (by decide) hN6
  simp only [rpS, hN6] at h ⊢
  cases hN7 : atB BU ln s6 42 42
  · simp only [rpS, hN7, cond_false] at h; cases h
  simp only [rpS, hN7, cond_true] at h ⊢
  cases hN8 : rdN BU ln 1 9 (s6 + 1) with
  | none => simp only [rpS, hN8] at h; cases h
  | some q =>
  obtain ⟨v8, s8⟩ := q
  have l8 := rdN_lo hN8
  obtain ⟨-, -, b8, -⟩ := rdN_b hB (by decide) hN8
  simp only [rpS, hN8] at h ⊢
  cases hN9 : atB BU ln s8 64 64
  · simp only [rpS, hN9, cond_false] at h; cases h
  simp only [rpS, hN9, cond_true] at h ⊢
  cases hN10 : rdN BU ln 0 19 (s8 + 1) with
  | none => simp only [rpS, hN10] at h; cases h
  | some q =>
  obtain ⟨v10, s10⟩ := q
  have l10 := rdN_lo hN10
  obtain ⟨-, -, b10, -⟩ := rdN_b hB (by decide) hN10
  simp only [rpS, hN10] at h ⊢
  refine ⟨?_, fun j hj => ?_⟩
  · simp only [prP, uN, Nat.add_right_inj, if_true, if_false, show (0:Nat) ≠ 1 by decide, show (0:Nat) ≠ 2 by decide, show (0:Nat) ≠ 3 by decide, show (0:Nat) ≠ 4 by decide, show (0:Nat) ≠ 5 by decide, show (1:Nat) ≠ 2 by decide, show (1:Nat) ≠ 3 by decide, show (1:Nat) ≠ 4 by decide, show (1:Nat) ≠ 5 by decide, show (2:Nat) ≠ 3 by decide, show (2:Nat) ≠ 4 by decide, show (2:Nat) ≠ 5 by decide, show (3:Nat) ≠ 4 by decide, show (3:Nat) ≠ 5 by decide, show (4:Nat) ≠ 5 by decide]
    exact ⟨b0, b2, b4, l6, b6, l8, b8, b10⟩
  · rw [uN_n _ _ (by omega), uN_n _ _ (by omega), uN_n _ _ (by omega), uN_n _ _ (by omega), uN_n _ _ (by omega), uN_n _ _ (by omega)]
def prA (P : Nat → Nat) (pa : Nat) : Prop := ∀ j, j < pa → prP P j
theorem prP_eq {P Q : Nat → Nat} {j : Nat} (h : prP P j) (e : ∀ k, k < 6 → Q (6 * j + k) = P (6 * j + k)) : prP Q j := by
  simp only [prP] at h ⊢
  rw [e 0 (by omega), e 1 (by omega), e 2 (by omega), e 3 (by omega), e 4 (by omega), e 5 (by omega)]
  exact h
theorem prA_step {BU : Nat → Nat} (hB : bB BU) {ln pa sp : Nat} {PT : Nat → Nat} (hA : prA PT pa) (h : (rpF BU ln pa sp PT).1 = true) : prA (rpF BU ln pa sp PT).2.2 (pa + 1) := fun j hj => by
  obtain ⟨h1, h2⟩ := rpF_ok hB h
  by_cases hjp : j = pa
  · subst hjp; exact h1
  · exact prP_eq (hA j (by omega)) (fun k hk => h2 _ (by omega))
theorem rpS_low {BU : Nat → Nat} {ln pa : Nat} : ∀ (l : List (Bool × Nat × Nat × Nat)) (sp : Nat) (PT : Nat → Nat) (j : Nat), j < 6 * pa → (rpS BU ln pa l sp PT).2.2 j = PT j
  | [], _, _, _, _ => rfl
  | (true, lo, hi, w) :: l, sp, PT, j, hj => by
    simp only [rpS]
    cases hN : rdN BU ln lo hi sp with
    | none => rfl
    | some q =>
      obtain ⟨v, s⟩ := q
      exact (rpS_low l s (uN PT (6 * pa + w) v) j hj).trans (uN_n _ _ (by omega))
  | (false, c, hi, w) :: l, sp, PT, j, hj => by
    simp only [rpS]
    cases hN : atB BU ln sp c c
    · rfl
    · exact rpS_low l (sp + 1) PT j hj
theorem alT_ok {BU : Nat → Nat} (hB : bB BU) {ln : Nat} : ∀ n pa sp PT, prA PT pa → prA (alT BU ln n pa sp PT).2.2.2 (alT BU ln n pa sp PT).2.1 ∧ (alT BU ln n pa sp PT).2.1 ≤ pa + n
  | 0, pa, sp, PT, hA => ⟨hA, Nat.le_refl _⟩
  | n + 1, pa, sp, PT, hA => by
    simp only [alT]
    cases h1 : (rpF BU ln pa sp PT).1
    · refine ⟨fun j hj => prP_eq (hA j hj) (fun k hk => rpS_low _ _ _ _ (by simp only [cond_false] at hj; omega)), by simp only [cond_false]; omega⟩
    · have hB2 := prA_step hB hA h1
      cases h2 : atB BU ln (rpF BU ln pa sp PT).2.1 59 59
      · exact ⟨hB2, by simp only [cond_false, cond_true]; omega⟩
      · have := alT_ok hB (ln := ln) n (pa + 1) ((rpF BU ln pa sp PT).2.1 + 1) (rpF BU ln pa sp PT).2.2 hB2
        simp only [cond_true]
        exact ⟨this.1, by omega⟩
section MOD15
variable {M0 : zM} {X SV SN AT CH CF CT BU PT : Nat → Nat} {sm ik th mn cl ln sp nu pa : Nat} {hs : Int64}
theorem al1 {PT0 : Nat → Nat} (hB : bB BU) (hl : ln ≤ 60) (F : zP) (hF : ∀ (r : Bool × Nat × Nat × (Nat → Nat)) nu', alF BU ln PT0 = r → r.2.1 ≤ 6 → r.2.2.1 ≤ 60 → G mX6_areLets 4 0 0 none 36 [(0, .ref 233), (1, .int (nI r.1.toNat))] [] (mM M0 X SV SN AT CH CF CT BU r.2.2.2 sm ik th mn cl ln r.2.2.1 nu' r.2.1 hs) F) : ∀ n pa sp PT nu, pa + n = 5 → 12 * pa ≤ sp → sp ≤ ln → alT BU ln (n + 1) pa sp PT = alF BU ln PT0 → G mX6_areLets 4 0 0 none 15 [(0, .ref 233), (1, .int (nI (rpF BU ln pa sp PT).1.toNat))] [] (mM M0 X SV SN AT CH CF CT BU (rpF BU ln pa sp PT).2.2 sm ik th mn cl ln (rpF BU ln pa sp PT).2.1 nu (pa+(rpF BU ln pa sp PT).1.toNat) hs) F := by
  intro n
  induction n with
  | zero =>
    intro pa sp PT nu hn hp hs he
    obtain ⟨c1, c2, c3⟩ := rpF_b (pa := pa) (PT := PT) hB hs
    have hf : (rpF BU ln pa sp PT).1 = false := by
      cases h : (rpF BU ln pa sp PT).1
      · rfl
      · have := c3 h; omega
    simp only [alT, hf, cond_false] at he
    refine g_iload_n dX6_areLets_15 rfl ?_
    refine g_if_eq_b (tgt := 36) dX6_areLets_16 (by decide) (fun h1 => ?_) (fun h1 => ?_)
    · have := hF _ nu he.symm (by dsimp only; omega) (by dsimp only; omega)
      rw [hf]
      exact this
    · rw [hf] at h1; cases h1
  | succ n ih =>
    intro pa sp PT nu hn hp hs he
    obtain ⟨c1, c2, c3⟩ := rpF_b (pa := pa) (PT := PT) hB hs
    rw [alT] at he
    refine g_iload_n dX6_areLets_15 rfl ?_
    refine g_if_eq_b (tgt := 36) dX6_areLets_16 (by decide) (fun h1 => ?_) (fun h1 => ?_)
    · simp only [h1, cond_false] at he
      have := hF _ nu he.symm (by dsimp only; omega) (by dsimp only; omega)
      rw [h1]
      exact this
    · have c4 := c3 h1
      refine g_aload_n dX6_areLets_19 rfl ?_
      refine g_bipush (v := nI 59) dX6_areLets_20 (by decide) ?_
      refine g_callV_i (kX6_takes hB hl (sp := (rpF BU ln pa sp PT).2.1) (by omega) (c := 59) (by omega)) oX6_takes pX6_takes lX6_188 dX6_areLets_22 rfl rfl rfl rfl rfl (Nat.le_of_ble_eq_true rfl) (Nat.le_of_ble_eq_true rfl) (by decide) (fun M' h' => ?_)
      subst h'
      cases hN : atB BU ln (rpF BU ln pa sp PT).2.1 59 59
      · simp only [h1, hN, cond_false, cond_true] at he
        refine g_if_eq_b (tgt := 36) dX6_areLets_25 (by decide) (fun h2 => ?_) (fun h2 => ?_)
        · have := hF _ nu he.symm (by dsimp only; omega) (by dsimp only; omega)
          rw [h1]
          exact this
        · cases h2
      · simp only [h1, hN, cond_true] at he
        have hlt := atB_lt hN
        refine g_if_eq_b (tgt := 36) dX6_areLets_25 (by decide) (fun h2 => ?_) (fun h2 => ?_)
        · cases h2
        rw [h1]
        refine g_aload_n dX6_areLets_28 rfl ?_
        refine g_callV_i (kX6_readPart hB hl (sp := (rpF BU ln pa sp PT).2.1 + 1) (pa := pa + 1) (by omega) (by omega)) oX6_readPart pX6_readPart lX6_191 dX6_areLets_29 rfl rfl rfl rfl rfl (Nat.le_of_ble_eq_true rfl) (Nat.le_of_ble_eq_true rfl) (by decide) (fun M' h' => ?_)
        obtain ⟨nu', rfl⟩ := h'
        refine g_istore_n dX6_areLets_32 (by decide) ?_
        refine g_goto (tgt := 15) dX6_areLets_33 (by decide) ?_
        exact g_loc rfl (ih (pa + 1) ((rpF BU ln pa sp PT).2.1 + 1) (rpF BU ln pa sp PT).2.2 nu' (by omega) (by omega) (by omega) he)
theorem kX6_areLets (hB : bB BU) (hl : ln ≤ 60) : Cn mX6_areLets 4 0 0 none [.ref 233] (mM M0 X SV SN AT CH CF CT BU PT sm ik th mn cl ln sp nu pa hs) (zi (nI (alB BU ln PT).toNat) (fun M' => ∃ nu', M' = mM M0 X SV SN AT CH CF CT BU (alF BU ln PT).2.2.2 sm ik th mn cl ln (alF BU ln PT).2.2.1 nu' (alF BU ln PT).2.1 hs)) := by
  refine g_aload_n dX6_areLets_0 rfl ?_
  refine g_iconst (v := nI 0) dX6_areLets_1 (by decide) ?_
  refine g_mput_spot fX6_173 dX6_areLets_2 ?_
  refine g_aload_n dX6_areLets_5 rfl ?_
  refine g_iconst (v := nI 0) dX6_areLets_6 (by decide) ?_
  refine g_mput_parts fX6_182 dX6_areLets_7 ?_
  refine g_aload_n dX6_areLets_10 rfl ?_
  refine g_callV_i (kX6_readPart hB hl (sp := 0) (pa := 0) (by omega) (by omega)) oX6_readPart pX6_readPart lX6_191 dX6_areLets_11 rfl rfl rfl rfl rfl (Nat.le_of_ble_eq_true rfl) (Nat.le_of_ble_eq_true rfl) (by decide) (fun M' h' => ?_)
  obtain ⟨nu', rfl⟩ := h'
  refine g_istore_n dX6_areLets_14 (by decide) ?_
  refine g_loc rfl (al1 (PT0 := PT) hB hl _ (fun r nu2 hr b1 b2 => ?_) 5 0 0 PT nu' (by omega) (by omega) (by omega) rfl)
  simp only [alB, hr]
  refine g_iload_n dX6_areLets_36 rfl ?_
  refine g_if_eq_b (tgt := 55) dX6_areLets_37 (by decide) (fun h1 => ?_) (fun h1 => ?_)
  · refine g_iconst (v := nI 0) dX6_areLets_55 (by decide) ?_
    refine g_ireturn dX6_areLets_56 rfl rfl ⟨rfl, ?_, nu2, rfl⟩
    rw [h1]; rfl
  refine g_aload_n dX6_areLets_40 rfl ?_
  refine g_get fX6_173 dX6_areLets_41 rfl rfl ?_
  refine g_aload_n dX6_areLets_44 rfl ?_
  refine g_get fX6_170 dX6_areLets_45 rfl rfl ?_
  refine g_icmp_ne_n (tgt := 55) dX6_areLets_48 (by decide) (by omega) (by omega) (fun h2 => ?_) (fun h2 => ?_)
  · refine g_iconst (v := nI 0) dX6_areLets_55 (by decide) ?_
    refine g_ireturn dX6_areLets_56 rfl rfl ⟨rfl, ?_, nu2, rfl⟩
    rw [show decide (r.2.2.1 = ln) = false by simp [h2], Bool.and_false]; rfl
  · refine g_iconst (v := nI 1) dX6_areLets_51 (by decide) ?_
    refine g_goto (tgt := 56) dX6_areLets_52 (by decide) ?_
    refine g_ireturn dX6_areLets_56 rfl rfl ⟨rfl, ?_, nu2, rfl⟩
    rw [show decide (r.2.2.1 = ln) = true by simp [h2], h1]; rfl
theorem kX6_firstError (hB : bB BU) (hl : ln ≤ 60) : Cn mX6_firstError 5 0 0 none [.ref 233] (mM M0 X SV SN AT CH CF CT BU PT sm ik th mn cl ln sp nu pa hs) (zi (nI (if alB BU ln PT = true then ln else (alF BU ln PT).2.2.1)) (fun M' => ∃ nu', M' = mM M0 X SV SN AT CH CF CT BU (alF BU ln PT).2.2.2 sm ik 0 mn cl ln (alF BU ln PT).2.2.1 nu' (alF BU ln PT).2.1 hs)) := by
  refine g_aload_n dX6_firstError_0 rfl ?_
  refine g_iconst (v := nI 0) dX6_firstError_1 (by decide) ?_
  refine g_mput_thrown fX6_37 dX6_firstError_2 ?_
  refine g_aload_n dX6_firstError_5 rfl ?_
  refine g_callV_i (kX6_areLets hB hl) oX6_areLets pX6_areLets lX6_194 dX6_firstError_6 rfl rfl rfl rfl rfl (Nat.le_of_ble_eq_true rfl) (Nat.le_of_ble_eq_true rfl) (by decide) (fun M' h' => ?_)
  obtain ⟨nu', rfl⟩ := h'
  refine g_if_eq_b (tgt := 19) dX6_firstError_9 (by decide) (fun h1 => ?_) (fun h1 => ?_)
  · rw [if_neg (by rw [h1]; decide)]
    refine g_aload_n dX6_firstError_19 rfl ?_
    refine g_get fX6_173 dX6_firstError_20 rfl rfl ?_
    exact g_ireturn dX6_firstError_23 rfl rfl ⟨rfl, rfl, nu', rfl⟩
  · rw [if_pos h1]
    refine g_aload_n dX6_firstError_12 rfl ?_
    refine g_get fX6_170 dX6_firstError_13 rfl rfl ?_
    refine g_goto (tgt := 23) dX6_firstError_16 (by decide) ?_
    exact g_ireturn dX6_firstError_23 rfl rfl ⟨rfl, rfl, nu', rfl⟩
end MOD15
