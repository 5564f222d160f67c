/-! the reference: the whole text -/
/-- all lets: how it ended, how many parts, where, the parts -/
def alT (BU : Nat → Nat) (ln : Nat) : Nat → Nat → Nat → (Nat → Nat) → Bool × Nat × Nat × (Nat → Nat)
  | 0, pa, sp, PT => (false, pa, sp, PT)
  | n + 1, pa, sp, PT => bif (rpF BU ln pa sp PT).1 then (bif atB BU ln (rpF BU ln pa sp PT).2.1 59 59 then alT BU ln n (pa + 1) ((rpF BU ln pa sp PT).2.1 + 1) (rpF BU ln pa sp PT).2.2 else (true, pa + 1, (rpF BU ln pa sp PT).2.1, (rpF BU ln pa sp PT).2.2)) else (false, pa, (rpF BU ln pa sp PT).2.1, (rpF BU ln pa sp PT).2.2)
def alF (BU : Nat → Nat) (ln : Nat) (PT : Nat → Nat) : Bool × Nat × Nat × (Nat → Nat) := alT BU ln 6 0 0 PT
def alB (BU : Nat → Nat) (ln : Nat) (PT : Nat → Nat) : Bool := (alF BU ln PT).1 && decide ((alF BU ln PT).2.2.1 = ln)
section MOD14
variable {M0 : zM} {X SV SN AT CH CF CT BU PT : Nat → Nat} {sm ik th mn cl ln sp nu pa : Nat} {hs : Int64}
theorem atB_lt {lo hi : Nat} (h : atB BU ln sp lo hi = true) : sp < ln := by
  simp only [atB, Bool.and_eq_true, decide_eq_true_eq] at h
  exact h.1
/-- how far eleven steps go -/
def rpM : List (Bool × Nat × Nat × Nat) → Nat
  | [] => 0
  | _ :: l => rpM l + 1
theorem rpS_b (hB : bB BU) {pa : Nat} : ∀ (l : List (Bool × Nat × Nat × Nat)) (sp : Nat) (PT : Nat → Nat), (∀ q ∈ l, q.2.2.1 < 100) → sp ≤ ln → sp ≤ (rpS BU ln pa l sp PT).2.1 ∧ (rpS BU ln pa l sp PT).2.1 ≤ ln ∧ ((rpS BU ln pa l sp PT).1 = true → sp + l.length ≤ (rpS BU ln pa l sp PT).2.1)
  | [], sp, PT, _, hs => ⟨Nat.le_refl _, hs, fun _ => Nat.le_refl _⟩
  | (true, lo, hi, w) :: l, sp, PT, hq, hs => by
    have h1 := hq _ List.mem_cons_self
    simp only [rpS]
    cases hN : rdN BU ln lo hi sp with
    | none => exact ⟨Nat.le_refl _, hs, fun h => by cases h⟩
    | some q =>
      obtain ⟨v, s⟩ := q
      obtain ⟨e1, e2, -⟩ := rdN_b hB h1 hN
      obtain ⟨f1, f2, f3⟩ := rpS_b hB l s (uN PT (6 * pa + w) v) (fun q hm => hq q (List.mem_cons_of_mem _ hm)) e2
      refine ⟨by simp only; omega, f2, fun h => ?_⟩
      have := f3 h
      simp only [List.length_cons]
      omega
  | (false, c, hi, w) :: l, sp, PT, hq, hs => by
    simp only [rpS]
    cases hN : atB BU ln sp c c
    · exact ⟨Nat.le_refl _, hs, fun h => by cases h⟩
    · have e1 := atB_lt hN
      obtain ⟨f1, f2, f3⟩ := rpS_b hB l (sp + 1) PT (fun q hm => hq q (List.mem_cons_of_mem _ hm)) e1
      refine ⟨by simp only [cond_true]; omega, f2, fun h => ?_⟩
      have := f3 h
      simp only [List.length_cons, cond_true]
      omega
theorem rpF_b (hB : bB BU) (hs : sp ≤ ln) : sp ≤ (rpF BU ln pa sp PT).2.1 ∧ (rpF BU ln pa sp PT).2.1 ≤ ln ∧ ((rpF BU ln pa sp PT).1 = true → sp + 11 ≤ (rpF BU ln pa sp PT).2.1) := rpS_b hB rpL sp PT (by decide) hs
theorem kX6_readPart (hB : bB BU) (hl : ln ≤ 60) (hsp : sp ≤ ln) (hpa : pa ≤ 5) : Cn mX6_readPart 3 0 0 none [.ref 233] (mM M0 X SV SN AT CH CF CT BU PT sm ik th mn cl ln sp nu pa hs) (zi (nI (rpF BU ln pa sp PT).1.toNat) (fun M' => ∃ nu', M' = mM M0 X SV SN AT CH CF CT BU (rpF BU ln pa sp PT).2.2 sm ik th mn cl ln (rpF BU ln pa sp PT).2.1 nu' (pa+(rpF BU ln pa sp PT).1.toNat) hs)) := by
  generalize hr : rpF BU ln pa sp PT = r
  have fin : ∀ (b : Bool) s P nu' v, rpF BU ln pa sp PT = (b, s, P) → G mX6_readPart 3 0 0 none 125 [(0, .ref 233), (1, .int v)] [.int (nI b.toNat)] (mM M0 X SV SN AT CH CF CT BU P sm ik th mn cl ln s nu' pa hs) (zi (nI r.1.toNat) (fun M' => ∃ nu', M' = mM M0 X SV SN AT CH CF CT BU r.2.2 sm ik th mn cl ln r.2.1 nu' (pa+r.1.toNat) hs)) := fun b s P nu' v he => by
    rw [hr] at he
    subst he
    refine g_istore_n dX6_readPart_125 (by decide) ?_
    refine g_aload_n dX6_readPart_126 rfl ?_
    refine g_dup dX6_readPart_127 rfl ?_
    refine g_get fX6_182 dX6_readPart_128 rfl rfl ?_
    refine g_iload_n dX6_readPart_131 rfl ?_
    refine g_if_eq_b (tgt := 139) dX6_readPart_132 (by decide) (fun h1 => ?_) (fun h1 => ?_)
    · subst h1
      refine g_iconst (v := nI 0) dX6_readPart_139 (by decide) ?_
      refine g_iadd_n dX6_readPart_140 ?_
      refine g_mput_parts fX6_182 dX6_readPart_141 ?_
      refine g_iload_n dX6_readPart_144 rfl ?_
      exact g_ireturn dX6_readPart_145 rfl rfl ⟨rfl, rfl, nu', rfl⟩
    · subst h1
      refine g_iconst (v := nI 1) dX6_readPart_135 (by decide) ?_
      refine g_goto (tgt := 140) dX6_readPart_136 (by decide) ?_
      refine g_iadd_n dX6_readPart_140 ?_
      refine g_mput_parts fX6_182 dX6_readPart_141 ?_
      refine g_iload_n dX6_readPart_144 rfl ?_
      exact g_ireturn dX6_readPart_145 rfl rfl ⟨rfl, rfl, nu', rfl⟩
  have fin' : ∀ (b : Bool) s P nu', rpF BU ln pa sp PT = (b, s, P) → G mX6_readPart 3 0 0 none 125 [(0, .ref 233)] [.int (nI b.toNat)] (mM M0 X SV SN AT CH CF CT BU P sm ik th mn cl ln s nu' pa hs) (zi (nI r.1.toNat) (fun M' => ∃ nu', M' = mM M0 X SV SN AT CH CF CT BU r.2.2 sm ik th mn cl ln r.2.1 nu' (pa+r.1.toNat) hs)) := fun b s P nu' he => by
    rw [hr] at he
    subst he
    refine g_istore_n dX6_readPart_125 (by decide) ?_
    refine g_aload_n dX6_readPart_126 rfl ?_
    refine g_dup dX6_readPart_127 rfl ?_
    refine g_get fX6_182 dX6_readPart_128 rfl rfl ?_
    refine g_iload_n dX6_readPart_131 rfl ?_
    refine g_if_eq_b (tgt := 139) dX6_readPart_132 (by decide) (fun h1 => ?_) (fun h1 => ?_)
    · subst h1
      refine g_iconst (v := nI 0) dX6_readPart_139 (by decide) ?_
      refine g_iadd_n dX6_readPart_140 ?_
      refine g_mput_parts fX6_182 dX6_readPart_141 ?_
      refine g_iload_n dX6_readPart_144 rfl ?_
      exact g_ireturn dX6_readPart_145 rfl rfl ⟨rfl, rfl, nu', rfl⟩
    · subst h1
      refine g_iconst (v := nI 1) dX6_readPart_135 (by decide) ?_
      refine g_goto (tgt := 140) dX6_readPart_136 (by decide) ?_
      refine g_iadd_n dX6_readPart_140 ?_
      refine g_mput_parts fX6_182 dX6_readPart_141 ?_
      refine g_iload_n dX6_readPart_144 rfl ?_
      exact g_ireturn dX6_readPart_145 rfl rfl ⟨rfl, rfl, nu', rfl⟩
  have ex2 : ∀ s P nu' v, rpF BU ln pa sp PT = (false, s, P) → G mX6_readPart 3 0 0 none 124 [(0, .ref 233), (1, .int v)] [] (mM M0 X SV SN AT CH CF CT BU P sm ik th mn cl ln s nu' pa hs) (zi (nI r.1.toNat) (fun M' => ∃ nu', M' = mM M0 X SV SN AT CH CF CT BU r.2.2 sm ik th mn cl ln r.2.1 nu' (pa+r.1.toNat) hs)) := fun s P nu' v he => by
    refine g_iconst (v := nI 0) dX6_readPart_124 (by decide) ?_
    exact fin false s P nu' v he
  have ex1 : ∀ s P nu', rpF BU ln pa sp PT = (false, s, P) → G mX6_readPart 3 0 0 none 63 [(0, .ref 233)] [] (mM M0 X SV SN AT CH CF CT BU P sm ik th mn cl ln s nu' pa hs) (zi (nI r.1.toNat) (fun M' => ∃ nu', M' = mM M0 X SV SN AT CH CF CT BU r.2.2 sm ik th mn cl ln r.2.1 nu' (pa+r.1.toNat) hs)) := fun s P nu' he => by
    refine g_iconst (v := nI 0) dX6_readPart_63 (by decide) ?_
    refine g_istore_n dX6_readPart_64 (by decide) ?_
    refine g_iload_n dX6_readPart_65 rfl ?_
    refine g_if_eq_n (tgt := 124) dX6_readPart_66 (by decide) (by omega) (fun h1 => ?_) (fun h1 => ?_)
    · exact g_loc rfl (ex2 s P nu' _ he)
    · exact absurd rfl h1
  have hrR : rpS BU ln pa rpL sp PT = rpF BU ln pa sp PT := rfl
  simp only [rpL, rpL1, List.cons_append, List.nil_append] at hrR
  cases hN0 : rdN BU ln 0 2 sp with
  | none =>
    simp only [rpS, hN0] at hrR
    refine g_aload_n dX6_readPart_0 rfl ?_
    refine g_iconst (v := nI 0) dX6_readPart_1 (by decide) ?_
    refine g_iconst (v := nI 2) dX6_readPart_2 (by decide) ?_
    refine g_iconst (v := nI 0) dX6_readPart_3 (by decide) ?_
    refine g_callV_i (kX6_readsN hB hl (sp := sp) (by omega) (lo := 0) (hi := 2) (w := 0) (by omega) (by omega) (by omega) hN0) oX6_reads pX6_reads lX6_185 dX6_readPart_4 rfl rfl rfl rfl rfl (Nat.le_of_ble_eq_true rfl) (Nat.le_of_ble_eq_true rfl) (by decide) (fun M' h' => ?_)
    subst h'
    refine g_if_eq_n (tgt := 63) dX6_readPart_7 (by decide) (by omega) (fun h1 => ?_) (fun h1 => ?_)
    · exact g_loc rfl (ex1 _ _ _ hrR.symm)
    · exact absurd rfl h1
  | some q =>
  obtain ⟨v0, s0⟩ := q
  obtain ⟨a0, b0, -⟩ := rdN_b hB (by decide) hN0
  simp only [rpS, hN0] at hrR
  refine g_aload_n dX6_readPart_0 rfl ?_
  refine g_iconst (v := nI 0) dX6_readPart_1 (by decide) ?_
  refine g_iconst (v := nI 2) dX6_readPart_2 (by decide) ?_
  refine g_iconst (v := nI 0) dX6_readPart_3 (by decide) ?_
  refine g_callV_i (kX6_reads hB hl (sp := sp) (by omega) (lo := 0) (hi := 2) (w := 0) (by omega) (by omega) (by omega) hN0) oX6_reads pX6_reads lX6_185 dX6_readPart_4 rfl rfl rfl rfl rfl (Nat.le_of_ble_eq_true rfl) (Nat.le_of_ble_eq_true rfl) (by decide) (fun M' h' => ?_)
  obtain ⟨nu0, rfl⟩ := h'
  refine g_if_eq_n (tgt := 63) dX6_readPart_7 (by decide) (by omega) (fun h1 => ?_) (fun h1 => ?_)
  · cases h1
  clear h1
  cases hN1 : atB BU ln s0 58 58
  · simp only [rpS, hN1, cond_false] at hrR
    refine g_aload_n dX6_readPart_10 rfl ?_
    refine g_bipush (v := nI 58) dX6_readPart_11 (by decide) ?_
    refine g_callV_i (kX6_takes hB hl (sp := s0) (by omega) (c := 58) (by omega)) oX6_takes pX6_takes lX6_188 dX6_readPart_13 rfl rfl rfl rfl rfl (Nat.le_of_ble_eq_true rfl) (Nat.le_of_ble_eq_true rfl) (by decide) (fun M' h' => ?_)
    subst h'
    rw [hN1]
    refine g_if_eq_b (tgt := 63) dX6_readPart_16 (by decide) (fun h1 => ?_) (fun h1 => ?_)
    · exact g_loc rfl (ex1 _ _ _ hrR.symm)
    · cases h1
  have a1 := atB_lt hN1
  simp only [rpS, hN1, cond_true] at hrR
  refine g_aload_n dX6_readPart_10 rfl ?_
  refine g_bipush (v := nI 58) dX6_readPart_11 (by decide) ?_
  refine g_callV_i (kX6_takes hB hl (sp := s0) (by omega) (c := 58) (by omega)) oX6_takes pX6_takes lX6_188 dX6_readPart_13 rfl rfl rfl rfl rfl (Nat.le_of_ble_eq_true rfl) (Nat.le_of_ble_eq_true rfl) (by decide) (fun M' h' => ?_)
  subst h'
  rw [hN1]
  refine g_if_eq_b (tgt := 63) dX6_readPart_16 (by decide) (fun h1 => ?_) (fun h1 => ?_)
  · cases h1
  clear h1
  simp only [Bool.toNat_true]
  cases hN2 : rdN BU ln 0 83 (s0 + 1) with
  | none =>
    simp only [rpS, hN2] at hrR
    refine g_aload_n dX6_readPart_19 rfl ?_
    refine g_iconst (v := nI 0) dX6_readPart_20 (by decide) ?_
    refine g_bipush (v := nI 83) dX6_readPart_21 (by decide) ?_
    refine g_iconst (v := nI 1) dX6_readPart_23 (by decide) ?_
    refine g_callV_i (kX6_readsN hB hl (sp := (s0 + 1)) (by omega) (lo := 0) (hi := 83) (w := 1) (by omega) (by omega) (by omega) hN2) oX6_reads pX6_reads lX6_185 dX6_readPart_24 rfl rfl rfl rfl rfl (Nat.le_of_ble_eq_true rfl) (Nat.le_of_ble_eq_true rfl) (by decide) (fun M' h' => ?_)
    subst h'
    refine g_if_eq_n (tgt := 63) dX6_readPart_27 (by decide) (by omega) (fun h1 => ?_) (fun h1 => ?_)
    · exact g_loc rfl (ex1 _ _ _ hrR.symm)
    · exact absurd rfl h1
  | some q =>
  obtain ⟨v2, s2⟩ := q
  obtain ⟨a2, b2, -⟩ := rdN_b hB (by decide) hN2
  simp only [rpS, hN2] at hrR
  refine g_aload_n dX6_readPart_19 rfl ?_
  refine g_iconst (v := nI 0) dX6_readPart_20 (by decide) ?_
  refine g_bipush (v := nI 83) dX6_readPart_21 (by decide) ?_
  refine g_iconst (v := nI 1) dX6_readPart_23 (by decide) ?_
  refine g_callV_i (kX6_reads hB hl (sp := (s0 + 1)) (by omega) (lo := 0) (hi := 83) (w := 1) (by omega) (by omega) (by omega) hN2) oX6_reads pX6_reads lX6_185 dX6_readPart_24 rfl rfl rfl rfl rfl (Nat.le_of_ble_eq_true rfl) (Nat.le_of_ble_eq_true rfl) (by decide) (fun M' h' => ?_)
  obtain ⟨nu2, rfl⟩ := h'
  refine g_if_eq_n (tgt := 63) dX6_readPart_27 (by decide) (by omega) (fun h1 => ?_) (fun h1 => ?_)
  · cases h1
  clear h1
  cases hN3 : atB BU ln s2 44 44
  · simp only [rpS, hN3, cond_false] at hrR
    refine g_aload_n dX6_readPart_30 rfl ?_
    refine g_bipush (v := nI 44) dX6_readPart_31 (by decide) ?_
    refine g_callV_i (kX6_takes hB hl (sp := s2) (by omega) (c := 44) (by omega)) oX6_takes pX6_takes lX6_188 dX6_readPart_33 rfl rfl rfl rfl rfl (Nat.le_of_ble_eq_true rfl) (Nat.le_of_ble_eq_true rfl) (by decide) (fun M' h' => ?_)
    subst h'
    rw [hN3]
    refine g_if_eq_b (tgt := 63) dX6_readPart_36 (by decide) (fun h1 => ?_) (fun h1 => ?_)
    · exact g_loc rfl (ex1 _ _ _ hrR.symm)
    · cases h1
  have a3 := atB_lt hN3
  simp only [rpS, hN3, cond_true] at hrR
  refine g_aload_n dX6_readPart_30 rfl ?_
  refine g_bipush (v := nI 44) dX6_readPart_31 (by decide) ?_
  refine g_callV_i (kX6_takes hB hl (sp := s2) (by omega) (c := 44) (by omega)) oX6_takes pX6_takes lX6_188 dX6_readPart_33 rfl rfl rfl rfl rfl (Nat.le_of_ble_eq_true rfl) (Nat.le_of_ble_eq_true rfl) (by decide) (fun M' h' => ?_)
  subst h'
  rw [hN3]
  refine g_if_eq_b (tgt := 63) dX6_readPart_36 (by decide) (fun h1 => ?_) (fun h1 => ?_)
  · cases h1
  clear h1
  simp only [Bool.toNat_true]
  cases hN4 : rdN BU ln 0 23 (s2 + 1) with
  | none =>
    simp only [rpS, hN4] at hrR
    refine g_aload_n dX6_readPart_39 rfl ?_
    refine g_iconst (v := nI 0) dX6_readPart_40 (by decide) ?_
    refine g_bipush (v := nI 23) dX6_readPart_41 (by decide) ?_
    refine g_iconst (v := nI 2) dX6_readPart_43 (by decide) ?_
    refine g_callV_i (kX6_readsN hB hl (sp := (s2 + 1)) (by omega) (lo := 0) (hi := 23) (w := 2) (by omega) (by omega) (by omega) hN4) oX6_reads pX6_reads lX6_185 dX6_readPart_44 rfl rfl rfl rfl rfl (Nat.le_of_ble_eq_true rfl) (Nat.le_of_ble_eq_true rfl) (by decide) (fun M' h' => ?_)
    subst h'
    refine g_if_eq_n (tgt := 63) dX6_readPart_47 (by decide) (by omega) (fun h1 => ?_) (fun h1 => ?_)
    · exact g_loc rfl (ex1 _ _ _ hrR.symm)
    · exact absurd rfl h1
  | some q =>
  obtain ⟨v4, s4⟩ := q
  obtain ⟨a4, b4, -⟩ := rdN_b hB (by decide) hN4
  simp only [rpS, hN4] at hrR
  refine g_aload_n dX6_readPart_39 rfl ?_
  refine g_iconst (v := nI 0) dX6_readPart_40 (by decide) ?_
  refine g_bipush (v := nI 23) dX6_readPart_41 (by decide) ?_
  refine g_iconst (v := nI 2) dX6_readPart_43 (by decide) ?_
  refine g_callV_i (kX6_reads hB hl (sp := (s2 + 1)) (by omega) (lo := 0) (hi := 23) (w := 2) (by omega) (by omega) (by omega) hN4) oX6_reads pX6_reads lX6_185 dX6_readPart_44 rfl rfl rfl rfl rfl (Nat.le_of_ble_eq_true rfl) (Nat.le_of_ble_eq_true rfl) (by decide) (fun M' h' => ?_)
  obtain ⟨nu4, rfl⟩ := h'
  refine g_if_eq_n (tgt := 63) dX6_readPart_47 (by decide) (by omega) (fun h1 => ?_) (fun h1 => ?_)
  · cases h1
  clear h1
  cases hN5 : atB BU ln s4 45 45
  · simp only [rpS, hN5, cond_false] at hrR
    refine g_aload_n dX6_readPart_50 rfl ?_
    refine g_bipush (v := nI 45) dX6_readPart_51 (by decide) ?_
    refine g_callV_i (kX6_takes hB hl (sp := s4) (by omega) (c := 45) (by omega)) oX6_takes pX6_takes lX6_188 dX6_readPart_53 rfl rfl rfl rfl rfl (Nat.le_of_ble_eq_true rfl) (Nat.le_of_ble_eq_true rfl) (by decide) (fun M' h' => ?_)
    subst h'
    rw [hN5]
    refine g_if_eq_b (tgt := 63) dX6_readPart_56 (by decide) (fun h1 => ?_) (fun h1 => ?_)
    · exact g_loc rfl (ex1 _ _ _ hrR.symm)
    · cases h1
  have a5 := atB_lt hN5
  simp only [rpS, hN5, cond_true] at hrR
  refine g_aload_n dX6_readPart_50 rfl ?_
  refine g_bipush (v := nI 45) dX6_readPart_51 (by decide) ?_
  refine g_callV_i (kX6_takes hB hl (sp := s4) (by omega) (c := 45) (by omega)) oX6_takes pX6_takes lX6_188 dX6_readPart_53 rfl rfl rfl rfl rfl (Nat.le_of_ble_eq_true rfl) (Nat.le_of_ble_eq_true rfl) (by decide) (fun M' h' => ?_)
  subst h'
  rw [hN5]
  refine g_if_eq_b (tgt := 63) dX6_readPart_56 (by decide) (fun h1 => ?_) (fun h1 => ?_)
  · cases h1
  clear h1
  simp only [Bool.toNat_true]
  refine g_iconst (v := nI 1) dX6_readPart_59 (by decide) ?_
  refine g_goto (tgt := 64) dX6_readPart_60 (by decide) ?_
  refine g_istore_n dX6_readPart_64 (by decide) ?_
  refine g_iload_n dX6_readPart_65 rfl ?_
  refine g_if_eq_n (tgt := 124) dX6_readPart_66 (by decide) (by omega) (fun h1 => ?_) (fun h1 => ?_)
  · cases h1
  clear h1
  cases hN6 : rdN BU ln 1 24 (s4 + 1) with
  | none =>
    simp only [rpS, hN6] at hrR
    refine g_aload_n dX6_readPart_69 rfl ?_
    refine g_iconst (v := nI 1) dX6_readPart_70 (by decide) ?_
    refine g_bipush (v := nI 24) dX6_readPart_71 (by decide) ?_
    refine g_iconst (v := nI 3) dX6_readPart_73 (by decide) ?_
    refine g_callV_i (kX6_readsN hB hl (sp := (s4 + 1)) (by omega) (lo := 1) (hi := 24) (w := 3) (by omega) (by omega) (by omega) hN6) oX6_reads pX6_reads lX6_185 dX6_readPart_74 rfl rfl rfl rfl rfl (Nat.le_of_ble_eq_true rfl) (Nat.le_of_ble_eq_true rfl) (by decide) (fun M' h' => ?_)
    subst h'
    refine g_if_eq_n (tgt := 124) dX6_readPart_77 (by decide) (by omega) (fun h1 => ?_) (fun h1 => ?_)
    · exact g_loc rfl (ex2 _ _ _ _ hrR.symm)
    · exact absurd rfl h1
  | some q =>
  obtain ⟨v6, s6⟩ := q
  obtain ⟨a6, b6, -⟩ := rdN_b hB (by decide) hN6
  simp only [rpS, hN6] at hrR
  refine g_aload_n dX6_readPart_69 rfl ?_
  refine g_iconst (v := nI 1) dX6_readPart_70 (by decide) ?_
  refine g_bipush (v := nI 24) dX6_readPart_71 (by decide) ?_
  refine g_iconst (v := nI 3) dX6_readPart_73 (by decide) ?_
  refine g_callV_i (kX6_reads hB hl (sp := (s4 + 1)) (by omega) (lo := 1) (hi := 24) (w := 3) (by omega) (by omega) (by omega) hN6) oX6_reads pX6_reads lX6_185 dX6_readPart_74 rfl rfl rfl rfl rfl (Nat.le_of_ble_eq_true rfl) (Nat.le_of_ble_eq_true rfl) (by decide) (fun M' h' => ?_)
  obtain ⟨nu6, rfl⟩ := h'
  refine g_if_eq_n (tgt := 124) dX6_readPart_77 (by decide) (by omega) (fun h1 => ?_) (fun h1 => ?_)
  · cases h1
  clear h1
  cases hN7 : atB BU ln s6 42 42
  · simp only [rpS, hN7, cond_false] at hrR
    refine g_aload_n dX6_readPart_80 rfl ?_
    refine g_bipush (v := nI 42) dX6_readPart_81 (by decide) ?_
    refine g_callV_i (kX6_takes hB hl (sp := s6) (by omega) (c := 42) (by omega)) oX6_takes pX6_takes lX6_188 dX6_readPart_83 rfl rfl rfl rfl rfl (Nat.le_of_ble_eq_true rfl) (Nat.le_of_ble_eq_true rfl) (by decide) (fun M' h' => ?_)
    subst h'
    rw [hN7]
    refine g_if_eq_b (tgt := 124) dX6_readPart_86 (by decide) (fun h1 => ?_) (fun h1 => ?_)
    · exact g_loc rfl (ex2 _ _ _ _ hrR.symm)
    · cases h1
  have a7 := atB_lt hN7
  simp only [rpS, hN7, cond_true] at hrR
  refine g_aload_n dX6_readPart_80 rfl ?_
  refine g_bipush (v := nI 42) dX6_readPart_81 (by decide) ?_
  refine g_callV_i (kX6_takes hB hl (sp := s6) (by omega) (c := 42) (by omega)) oX6_takes pX6_takes lX6_188 dX6_readPart_83 rfl rfl rfl rfl rfl (Nat.le_of_ble_eq_true rfl) (Nat.le_of_ble_eq_true rfl) (by decide) (fun M' h' => ?_)
  subst h'
  rw [hN7]
  refine g_if_eq_b (tgt := 124) dX6_readPart_86 (by decide) (fun h1 => ?_) (fun h1 => ?_)
  · cases h1
  clear h1
  simp only [Bool.toNat_true]
  cases hN8 : rdN BU ln 1 9 (s6 + 1) with
  | none =>
    simp only [rpS, hN8] at hrR
    refine g_aload_n dX6_readPart_89 rfl ?_
    refine g_iconst (v := nI 1) dX6_readPart_90 (by decide) ?_
    refine g_bipush (v := nI 9) dX6_readPart_91 (by decide) ?_
    refine g_iconst (v := nI 4) dX6_readPart_93 (by decide) ?_
    refine g_callV_i (kX6_readsN hB hl (sp := (s6 + 1)) (by omega) (lo := 1) (hi := 9) (w := 4) (by omega) (by omega) (by omega) hN8) oX6_reads pX6_reads lX6_185 dX6_readPart_94 rfl rfl rfl rfl rfl (Nat.le_of_ble_eq_true rfl) (Nat.le_of_ble_eq_true rfl) (by decide) (fun M' h' => ?_)
    subst h'
    refine g_if_eq_n (tgt := 124) dX6_readPart_97 (by decide) (by omega) (fun h1 => ?_) (fun h1 => ?_)
    · exact g_loc rfl (ex2 _ _ _ _ hrR.symm)
    · exact absurd rfl h1
  | some q =>
  obtain ⟨v8, s8⟩ := q
  obtain ⟨a8, b8, -⟩ := rdN_b hB (by decide) hN8
  simp only [rpS, hN8] at hrR
  refine g_aload_n dX6_readPart_89 rfl ?_
  refine g_iconst (v := nI 1) dX6_readPart_90 (by decide) ?_
  refine g_bipush (v := nI 9) dX6_readPart_91 (by decide) ?_
  refine g_iconst (v := nI 4) dX6_readPart_93 (by decide) ?_
  refine g_callV_i (kX6_reads hB hl (sp := (s6 + 1)) (by omega) (lo := 1) (hi := 9) (w := 4) (by omega) (by omega) (by omega) hN8) oX6_reads pX6_reads lX6_185 dX6_readPart_94 rfl rfl rfl rfl rfl (Nat.le_of_ble_eq_true rfl) (Nat.le_of_ble_eq_true rfl) (by decide) (fun M' h' => ?_)
  obtain ⟨nu8, rfl⟩ := h'
  refine g_if_eq_n (tgt := 124) dX6_readPart_97 (by decide) (by omega) (fun h1 => ?_) (fun h1 => ?_)
  · cases h1
  clear h1
  cases hN9 : atB BU ln s8 64 64
  · simp only [rpS, hN9, cond_false] at hrR
    refine g_aload_n dX6_readPart_100 rfl ?_
    refine g_bipush (v := nI 64) dX6_readPart_101 (by decide) ?_
    refine g_callV_i (kX6_takes hB hl (sp := s8) (by omega) (c := 64) (by omega)) oX6_takes pX6_takes lX6_188 dX6_readPart_103 rfl rfl rfl rfl rfl (Nat.le_of_ble_eq_true rfl) (Nat.le_of_ble_eq_true rfl) (by decide) (fun M' h' => ?_)
    subst h'
    rw [hN9]
    refine g_if_eq_b (tgt := 124) dX6_readPart_106 (by decide) (fun h1 => ?_) (fun h1 => ?_)
    · exact g_loc rfl (ex2 _ _ _ _ hrR.symm)
    · cases h1
  have a9 := atB_lt hN9
  simp only [rpS, hN9, cond_true] at hrR
  refine g_aload_n dX6_readPart_100 rfl ?_
  refine g_bipush (v := nI 64) dX6_readPart_101 (by decide) ?_
  refine g_callV_i (kX6_takes hB hl (sp := s8) (by omega) (c := 64) (by omega)) oX6_takes pX6_takes lX6_188 dX6_readPart_103 rfl rfl rfl rfl rfl (Nat.le_of_ble_eq_true rfl) (Nat.le_of_ble_eq_true rfl) (by decide) (fun M' h' => ?_)
  subst h'
  rw [hN9]
  refine g_if_eq_b (tgt := 124) dX6_readPart_106 (by decide) (fun h1 => ?_) (fun h1 => ?_)
  · cases h1
  clear h1
  simp only [Bool.toNat_true]
  cases hN10 : rdN BU ln 0 19 (s8 + 1) with
  | none =>
    simp only [rpS, hN10] at hrR
    refine g_aload_n dX6_readPart_109 rfl ?_
    refine g_iconst (v := nI 0) dX6_readPart_110 (by decide) ?_
    refine g_bipush (v := nI 19) dX6_readPart_111 (by decide) ?_
    refine g_iconst (v := nI 5) dX6_readPart_113 (by decide) ?_
    refine g_callV_i (kX6_readsN hB hl (sp := (s8 + 1)) (by omega) (lo := 0) (hi := 19) (w := 5) (by omega) (by omega) (by omega) hN10) oX6_reads pX6_reads lX6_185 dX6_readPart_114 rfl rfl rfl rfl rfl (Nat.le_of_ble_eq_true rfl) (Nat.le_of_ble_eq_true rfl) (by decide) (fun M' h' => ?_)
    subst h'
    refine g_if_eq_n (tgt := 124) dX6_readPart_117 (by decide) (by omega) (fun h1 => ?_) (fun h1 => ?_)
    · exact g_loc rfl (ex2 _ _ _ _ hrR.symm)
    · exact absurd rfl h1
  | some q =>
  obtain ⟨v10, s10⟩ := q
  obtain ⟨a10, b10, -⟩ := rdN_b hB (by decide) hN10
  simp only [rpS, hN10] at hrR
  refine g_aload_n dX6_readPart_109 rfl ?_
  refine g_iconst (v := nI 0) dX6_readPart_110 (by decide) ?_
  refine g_bipush (v := nI 19) dX6_readPart_111 (by decide) ?_
  refine g_iconst (v := nI 5) dX6_readPart_113 (by decide) ?_
  refine g_callV_i (kX6_reads hB hl (sp := (s8 + 1)) (by omega) (lo := 0) (hi := 19) (w := 5) (by omega) (by omega) (by omega) hN10) oX6_reads pX6_reads lX6_185 dX6_readPart_114 rfl rfl rfl rfl rfl (Nat.le_of_ble_eq_true rfl) (Nat.le_of_ble_eq_true rfl) (by decide) (fun M' h' => ?_)
  obtain ⟨nu10, rfl⟩ := h'
  refine g_if_eq_n (tgt := 124) dX6_readPart_117 (by decide) (by omega) (fun h1 => ?_) (fun h1 => ?_)
  · cases h1
  clear h1
  refine g_iconst (v := nI 1) dX6_readPart_120 (by decide) ?_
  refine g_goto (tgt := 125) dX6_readPart_121 (by decide) ?_
  exact g_loc rfl (fin true _ _ _ _ hrR.symm)
end MOD14
