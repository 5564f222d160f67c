/-! the reference: whether all can be cleaned; why a let would be refused; rents -/
def mok (c : Nat) : Nat → List cE → Bool
  | _, [] => true
  | o, e :: t => (match t.find? (fun x => decide (x.1 = e.1)) with | none => true | some x => decide ((if e.2.2 < o then o else e.2.2) + c ≤ x.2.1)) && mok c ((if e.2.2 < o then o else e.2.2) + c) t
def rsnR (X : Nat → Nat) (h f t r : Nat) : List Nat → List cE → Nat
  | [], acc => bif mok (X 0) 0 (addC (h, f, t) acc) then 0 else 3
  | p :: ps, acc => bif clsh X p h f t then (bif decide (r ≤ X (p + 4)) then 2 else rsnR X h f t r ps acc) else rsnR X h f t r ps (addC (X p, X (p + 2), X (p + 3)) acc)
def rsn (X : Nat → Nat) (h day f t r : Nat) : Nat := rsnR X h f t r (lk X day) []
def rfs (X : Nat → Nat) (h day f t r : Nat) : Nat := if X 92 = 12 then 1 else rsn X h day f t r
theorem rsnR_le (X : Nat → Nat) (h f t r : Nat) : ∀ ps acc, rsnR X h f t r ps acc ≤ 3
  | [], acc => by simp only [rsnR]; cases mok (X 0) 0 (addC (h, f, t) acc) <;> decide
  | p :: ps, acc => by
    simp only [rsnR]
    cases clsh X p h f t
    · exact rsnR_le X h f t r ps _
    · cases decide (r ≤ X (p + 4))
      · exact rsnR_le X h f t r ps _
      · exact Nat.le_succ 2
theorem insR_mem {e a : cE} : ∀ {r : List cE}, a ∈ insR e r → a = e ∨ a ∈ r
  | [], h => Or.inl (List.mem_singleton.mp h)
  | b :: r, h => by
    simp only [insR] at h
    cases hg : gtE b e
    · rw [hg] at h
      rcases List.mem_cons.mp h with h | h
      · exact Or.inl h
      · exact Or.inr h
    · rw [hg] at h
      rcases List.mem_cons.mp h with h | h
      · exact Or.inr (h ▸ List.mem_cons_self)
      · rcases insR_mem h with h | h
        · exact Or.inl h
        · exact Or.inr (List.mem_cons_of_mem _ h)
theorem addC_mem {e a : cE} {l : List cE} (h : a ∈ addC e l) : a = e ∨ a ∈ l := by
  rcases insR_mem (List.mem_reverse.mp h) with h | h
  · exact Or.inl h
  · exact Or.inr (List.mem_reverse.mp h)
theorem drop_get {α : Type} {l : List α} {k : Nat} {a : α} (h : l[k]? = some a) : l.drop k = a :: l.drop (k + 1) := by
  obtain ⟨h1, h2⟩ := List.getElem?_eq_some_iff.mp h
  rw [← h2, List.drop_eq_getElem_cons h1]
section MOD4
variable {M0 : zM} {X SV SN AT CH CF CT BU PT : Nat → Nat} {sm ik th mn cl ln sp nu pa : Nat} {hs : Int64}
theorem isC2 {l : List cE} (hl : l.length < 24) (hc : cAt l 0 CH CF CT) (hS : ∀ a ∈ l, cS a) {k o : Nat} {is : Bool} {e : cE} (hk : l[k]? = some e) (F : zP) (hF : ∀ nx, k < nx → (nx = l.length ∧ (l.drop (k + 1)).find? (fun x => decide (x.1 = e.1)) = none) ∨ (∃ x, l[nx]? = some x ∧ (l.drop (k + 1)).find? (fun x => decide (x.1 = e.1)) = some x) → G mX6_isCleaned 0 0 0 none 78 [(0, .ref 233), (1, .int (nI o)), (2, .int (nI is.toNat)), (3, .int (nI k)), (4, .int (nI nx))] [] (mM M0 X SV SN AT CH CF CT BU PT sm ik th mn l.length ln sp nu pa hs) F) :
    ∀ n nx, nx + n = l.length → k < nx → (l.drop (k + 1)).find? (fun x => decide (x.1 = e.1)) = (l.drop nx).find? (fun x => decide (x.1 = e.1)) → G mX6_isCleaned 0 0 0 none 47 [(0, .ref 233), (1, .int (nI o)), (2, .int (nI is.toNat)), (3, .int (nI k)), (4, .int (nI nx))] [] (mM M0 X SV SN AT CH CF CT BU PT sm ik th mn l.length ln sp nu pa hs) F := by
  have hk1 := (List.getElem?_eq_some_iff.mp hk).1
  obtain ⟨k2, k3, k4⟩ := hc k e hk
  rw [Nat.zero_add] at k2 k3 k4
  obtain ⟨s1, s2, s3⟩ := hS e (List.mem_of_getElem? hk)
  intro n
  induction n with
  | zero =>
    intro nx hn hkn hf
    have : nx = l.length := by omega
    subst this
    refine g_iload dX6_isCleaned_47 rfl ?_
    refine g_aload_n dX6_isCleaned_49 rfl ?_
    refine g_get fX6_77 dX6_isCleaned_50 rfl rfl ?_
    refine g_icmp_ge_n (tgt := 78) dX6_isCleaned_53 (by decide) (by omega) (by omega) (fun h1 => ?_) (fun h1 => ?_)
    · exact hF _ hkn (Or.inl ⟨rfl, by rw [hf, List.drop_length]; rfl⟩)
    · omega
  | succ n ih =>
    intro nx hn hkn hf
    have hx : l[nx]? = some l[nx] := List.getElem?_eq_getElem (by omega)
    generalize hxe : l[nx] = x at hx
    obtain ⟨x2, x3, x4⟩ := hc nx x hx
    rw [Nat.zero_add] at x2 x3 x4
    obtain ⟨t1, t2, t3⟩ := hS x (List.mem_of_getElem? hx)
    refine g_iload dX6_isCleaned_47 rfl ?_
    refine g_aload_n dX6_isCleaned_49 rfl ?_
    refine g_get fX6_77 dX6_isCleaned_50 rfl rfl ?_
    refine g_icmp_ge_n (tgt := 78) dX6_isCleaned_53 (by decide) (by omega) (by omega) (fun h1 => ?_) (fun h1 => ?_)
    · omega
    refine g_aload_n dX6_isCleaned_56 rfl ?_
    refine g_get fX6_22 dX6_isCleaned_57 rfl rfl ?_
    refine g_iload dX6_isCleaned_60 rfl ?_
    refine g_iald_n dX6_isCleaned_62 rfl (by omega) (by decide) ?_
    refine g_aload_n dX6_isCleaned_63 rfl ?_
    refine g_get fX6_22 dX6_isCleaned_64 rfl rfl ?_
    refine g_iload_n dX6_isCleaned_67 rfl ?_
    refine g_iald_n dX6_isCleaned_68 rfl (by omega) (by decide) ?_
    simp only [x2, k2]
    refine g_icmp_eq_n (tgt := 78) dX6_isCleaned_69 (by decide) (by omega) (by omega) (fun h2 => ?_) (fun h2 => ?_)
    · refine hF _ hkn (Or.inr ⟨x, hx, ?_⟩)
      rw [hf, drop_get hx, List.find?_cons]
      simp [h2]
    · refine g_iinc_n (c := 1) dX6_isCleaned_72 rfl (by decide) (by decide) ?_
      refine g_goto (tgt := 47) dX6_isCleaned_75 (by decide) ?_
      refine g_loc rfl (ih (nx + 1) (by omega) (by omega) ?_)
      rw [hf, drop_get hx, List.find?_cons]
      simp [h2]
theorem isC1 (hX : wf0 X) {l : List cE} (hl : l.length < 24) (hc : cAt l 0 CH CF CT) (hS : ∀ a ∈ l, cS a) (F : zP) : ∀ n k o (is : Bool), k + n = l.length → o ≤ k * 2097152 → F (mM M0 X SV SN AT CH CF CT BU PT sm ik th mn l.length ln sp nu pa hs) none (.inl (some (.int (nI (is && mok (X 0) o (l.drop k)).toNat)))) → G mX6_isCleaned 0 0 0 none 6 [(0, .ref 233), (1, .int (nI o)), (2, .int (nI is.toNat)), (3, .int (nI k))] [] (mM M0 X SV SN AT CH CF CT BU PT sm ik th mn l.length ln sp nu pa hs) F := by
  have b0 := hX.1 0 (by omega) (by omega) (by omega) (by omega)
  intro n
  induction n with
  | zero =>
    intro k o is hn ho hF
    have : k = l.length := by omega
    subst this
    refine g_iload_n dX6_isCleaned_6 rfl ?_
    refine g_aload_n dX6_isCleaned_7 rfl ?_
    refine g_get fX6_77 dX6_isCleaned_8 rfl rfl ?_
    refine g_icmp_ge_n (tgt := 114) dX6_isCleaned_11 (by decide) (by omega) (by omega) (fun h1 => ?_) (fun h1 => ?_)
    · refine g_iload_n dX6_isCleaned_114 rfl ?_
      refine g_ireturn_b dX6_isCleaned_115 rfl ?_
      rw [List.drop_length] at hF
      simpa [mok] using hF
    · omega
  | succ n ih =>
    intro k o is hn ho hF
    have hx : l[k]? = some l[k] := List.getElem?_eq_getElem (by omega)
    generalize hxe : l[k] = e at hx
    obtain ⟨x2, x3, x4⟩ := hc k e hx
    rw [Nat.zero_add] at x2 x3 x4
    obtain ⟨t1, t2, t3⟩ := hS e (List.mem_of_getElem? hx)
    rw [drop_get hx] at hF
    simp only [mok] at hF
    generalize ho' : (if e.2.2 < o then o else e.2.2) + X 0 = o' at hF
    have hob : o' ≤ (k + 1) * 2097152 := by rw [← ho']; split <;> omega
    have go : G mX6_isCleaned 0 0 0 none 41 [(0, .ref 233), (1, .int (nI o)), (2, .int (nI is.toNat)), (3, .int (nI k))] [.int (nI o')] (mM M0 X SV SN AT CH CF CT BU PT sm ik th mn l.length ln sp nu pa hs) F := by
      refine g_istore_n dX6_isCleaned_41 (by decide) ?_
      refine g_iload_n dX6_isCleaned_42 rfl ?_
      refine g_iconst (v := nI 1) dX6_isCleaned_43 (by decide) ?_
      refine g_iadd_n dX6_isCleaned_44 ?_
      refine g_istore dX6_isCleaned_45 (by decide) ?_
      refine g_loc rfl (isC2 hl hc hS hx F (fun nx hkn hnx => ?_) (l.length - (k + 1)) (k + 1) (by omega) (by omega) rfl)
      have fin : ∀ b : Bool, F (mM M0 X SV SN AT CH CF CT BU PT sm ik th mn l.length ln sp nu pa hs) none (.inl (some (.int (nI (b && mok (X 0) o' (l.drop (k + 1))).toNat)))) → G mX6_isCleaned 0 0 0 none 107 [(0, .ref 233), (1, .int (nI o')), (2, .int (nI is.toNat)), (3, .int (nI k)), (4, .int (nI nx))] [.int (nI b.toNat)] (mM M0 X SV SN AT CH CF CT BU PT sm ik th mn l.length ln sp nu pa hs) F := fun b hb => by
        refine g_istore_n dX6_isCleaned_107 (by decide) ?_
        refine g_iinc_n (c := 1) dX6_isCleaned_108 rfl (by decide) (by decide) ?_
        refine g_goto (tgt := 6) dX6_isCleaned_111 (by decide) ?_
        exact g_loc rfl (ih (k + 1) o' b (by omega) hob hb)
      refine g_iload_n dX6_isCleaned_78 rfl ?_
      refine g_if_eq_b (tgt := 106) dX6_isCleaned_79 (by decide) (fun h2 => ?_) (fun h2 => ?_)
      · refine g_iconst (v := nI 0) dX6_isCleaned_106 (by decide) ?_
        exact fin false (by rw [h2] at hF; simpa using hF)
      rw [h2] at hF
      rcases hnx with ⟨rfl, hf⟩ | ⟨x, hxx, hf⟩
      · refine g_iload dX6_isCleaned_82 rfl ?_
        refine g_aload_n dX6_isCleaned_84 rfl ?_
        refine g_get fX6_77 dX6_isCleaned_85 rfl rfl ?_
        refine g_icmp_eq_n (tgt := 102) dX6_isCleaned_88 (by decide) (by omega) (by omega) (fun h3 => ?_) (fun h3 => ?_)
        · refine g_iconst (v := nI 1) dX6_isCleaned_102 (by decide) ?_
          refine g_goto (tgt := 107) dX6_isCleaned_103 (by decide) ?_
          exact fin true (by rw [hf] at hF; simpa using hF)
        · exact absurd rfl h3
      · have hlt := (List.getElem?_eq_some_iff.mp hxx).1
        obtain ⟨y2, y3, y4⟩ := hc nx x hxx
        rw [Nat.zero_add] at y2 y3 y4
        obtain ⟨u1, u2, u3⟩ := hS x (List.mem_of_getElem? hxx)
        refine g_iload dX6_isCleaned_82 rfl ?_
        refine g_aload_n dX6_isCleaned_84 rfl ?_
        refine g_get fX6_77 dX6_isCleaned_85 rfl rfl ?_
        refine g_icmp_eq_n (tgt := 102) dX6_isCleaned_88 (by decide) (by omega) (by omega) (fun h3 => ?_) (fun h3 => ?_)
        · omega
        refine g_iload_n dX6_isCleaned_91 rfl ?_
        refine g_aload_n dX6_isCleaned_92 rfl ?_
        refine g_get fX6_25 dX6_isCleaned_93 rfl rfl ?_
        refine g_iload dX6_isCleaned_96 rfl ?_
        refine g_iald_n dX6_isCleaned_98 rfl (by omega) (by decide) ?_
        simp only [y3]
        refine g_icmp_gt_n (tgt := 106) dX6_isCleaned_99 (by decide) (by omega) (by omega) (fun h4 => ?_) (fun h4 => ?_)
        · refine g_iconst (v := nI 0) dX6_isCleaned_106 (by decide) ?_
          exact fin false (by rw [hf] at hF; simpa [Nat.not_le.mpr h4] using hF)
        · refine g_iconst (v := nI 1) dX6_isCleaned_102 (by decide) ?_
          refine g_goto (tgt := 107) dX6_isCleaned_103 (by decide) ?_
          exact fin true (by rw [hf] at hF; simpa [h4] using hF)
    refine g_iload_n dX6_isCleaned_6 rfl ?_
    refine g_aload_n dX6_isCleaned_7 rfl ?_
    refine g_get fX6_77 dX6_isCleaned_8 rfl rfl ?_
    refine g_icmp_ge_n (tgt := 114) dX6_isCleaned_11 (by decide) (by omega) (by omega) (fun h1 => ?_) (fun h1 => ?_)
    · omega
    refine g_iload_n dX6_isCleaned_14 rfl ?_
    refine g_aload_n dX6_isCleaned_15 rfl ?_
    refine g_get fX6_28 dX6_isCleaned_16 rfl rfl ?_
    refine g_iload_n dX6_isCleaned_19 rfl ?_
    refine g_iald_n dX6_isCleaned_20 rfl (by omega) (by decide) ?_
    simp only [x4]
    refine g_icmp_le_n (tgt := 28) dX6_isCleaned_21 (by decide) (by omega) (by omega) (fun h2 => ?_) (fun h2 => ?_)
    · refine g_aload_n dX6_isCleaned_28 rfl ?_
      refine g_get fX6_28 dX6_isCleaned_29 rfl rfl ?_
      refine g_iload_n dX6_isCleaned_32 rfl ?_
      refine g_iald_n dX6_isCleaned_33 rfl (by omega) (by decide) ?_
      refine g_aload_n dX6_isCleaned_34 rfl ?_
      refine g_get fX6_7 dX6_isCleaned_35 rfl rfl ?_
      refine g_iconst (v := nI 0) dX6_isCleaned_38 (by decide) ?_
      refine g_iald_n dX6_isCleaned_39 rfl (by omega) (by decide) ?_
      refine g_iadd_n dX6_isCleaned_40 ?_
      simp only [x4]
      rw [if_neg (by omega)] at ho'
      rw [ho']
      exact go
    · refine g_iload_n dX6_isCleaned_24 rfl ?_
      refine g_goto (tgt := 34) dX6_isCleaned_25 (by decide) ?_
      refine g_aload_n dX6_isCleaned_34 rfl ?_
      refine g_get fX6_7 dX6_isCleaned_35 rfl rfl ?_
      refine g_iconst (v := nI 0) dX6_isCleaned_38 (by decide) ?_
      refine g_iald_n dX6_isCleaned_39 rfl (by omega) (by decide) ?_
      refine g_iadd_n dX6_isCleaned_40 ?_
      rw [if_pos h2] at ho'
      rw [ho']
      exact go
theorem kX6_isCleaned (hX : wf0 X) {l : List cE} (hl : l.length < 24) (hc : cAt l 0 CH CF CT) (hS : ∀ a ∈ l, cS a) : Cn mX6_isCleaned 0 0 0 none [.ref 233] (mM M0 X SV SN AT CH CF CT BU PT sm ik th mn l.length ln sp nu pa hs) (zpi (mM M0 X SV SN AT CH CF CT BU PT sm ik th mn l.length ln sp nu pa hs) (nI (mok (X 0) 0 l).toNat)) := by
  refine g_iconst (v := nI 0) dX6_isCleaned_0 (by decide) ?_
  refine g_istore_n dX6_isCleaned_1 (by decide) ?_
  refine g_iconst (v := nI 1) dX6_isCleaned_2 (by decide) ?_
  refine g_istore_n dX6_isCleaned_3 (by decide) ?_
  refine g_iconst (v := nI 0) dX6_isCleaned_4 (by decide) ?_
  refine g_istore_n dX6_isCleaned_5 (by decide) ?_
  refine g_loc rfl (isC1 hX hl hc hS _ l.length 0 0 true (by omega) (by omega) ⟨rfl, ?_, rfl⟩)
  rw [List.drop_zero, Bool.true_and]
theorem reason1 (hX : wf0 X) {h day f t r : Nat} (hh : h < 1048576) (hf : f < 1048576) (ht : t < 1048576) (hr : r < 1048576) (hat : atL (lk X day) AT) : ∀ n k (acc : List cE) (CH CF CT : Nat → Nat) (F : zP), k + n = (lk X day).length → acc.length ≤ k → (∀ a ∈ acc, cS a) → cAt acc 0 CH CF CT → (∀ CH' CF' CT' cl', F (mM M0 X SV SN AT CH' CF' CT' BU PT sm ik th (lk X day).length cl' ln sp nu pa hs) none (.inl (some (.int (nI (rsnR X h f t r ((lk X day).drop k) acc)))))) → G mX6_reason 3 0 0 none 13 [(0, .ref 233), (1, .int (nI h)), (2, .int (nI day)), (3, .int (nI f)), (4, .int (nI t)), (5, .int (nI r)), (6, .int (nI k))] [] (mM M0 X SV SN AT CH CF CT BU PT sm ik th (lk X day).length acc.length ln sp nu pa hs) F := by
  have hlen := lk_len hX day
  intro n
  induction n with
  | zero =>
    intro k acc CH CF CT F hn ha hS hc hF
    have : k = (lk X day).length := by omega
    subst this
    rw [List.drop_length] at hF
    refine g_iload dX6_reason_13 rfl ?_
    refine g_aload_n dX6_reason_15 rfl ?_
    refine g_get fX6_67 dX6_reason_16 rfl rfl ?_
    refine g_icmp_ge_n (tgt := 117) dX6_reason_19 (by decide) (by omega) (by omega) (fun h1 => ?_) (fun h1 => ?_)
    rotate_left
    · omega
    refine g_aload_n dX6_reason_117 rfl ?_
    refine g_iload_n dX6_reason_118 rfl ?_
    refine g_iload_n dX6_reason_119 rfl ?_
    refine g_iload dX6_reason_120 rfl ?_
    refine g_callV_v (kX6_addCleaning (e := (h, f, t)) ⟨hh, hf, ht⟩ (l := acc) (by omega) hS hc) oX6_addCleaning pX6_addCleaning lX6_88 dX6_reason_122 rfl rfl rfl rfl rfl (Nat.le_of_ble_eq_true rfl) (Nat.le_of_ble_eq_true rfl) (by decide) (fun M' h' => ?_)
    obtain ⟨CH', CF', CT', rfl, hc'⟩ := h'
    have hS' : ∀ a ∈ addC (h, f, t) acc, cS a := fun a ha2 => by
      rcases addC_mem ha2 with rfl | h2
      · exact ⟨hh, hf, ht⟩
      · exact hS a h2
    refine g_aload_n dX6_reason_125 rfl ?_
    refine g_callV_i (kX6_isCleaned hX (l := addC (h, f, t) acc) (by rw [addC_len]; omega) hc' hS') oX6_isCleaned pX6_isCleaned lX6_92 dX6_reason_126 rfl rfl rfl rfl rfl (Nat.le_of_ble_eq_true rfl) (Nat.le_of_ble_eq_true rfl) (by decide) (fun M' h' => ?_)
    subst h'
    refine g_if_eq_b (tgt := 136) dX6_reason_129 (by decide) (fun h2 => ?_) (fun h2 => ?_)
    · refine g_iconst (v := nI 3) dX6_reason_136 (by decide) ?_
      refine g_ireturn dX6_reason_137 rfl rfl ?_
      have := hF CH' CF' CT' (addC (h, f, t) acc).length
      simpa [rsnR, h2] using this
    · refine g_iconst (v := nI 0) dX6_reason_132 (by decide) ?_
      refine g_goto (tgt := 137) dX6_reason_133 (by decide) ?_
      refine g_ireturn dX6_reason_137 rfl rfl ?_
      have := hF CH' CF' CT' (addC (h, f, t) acc).length
      simpa [rsnR, h2] using this
  | succ n ih =>
    intro k acc CH CF CT F hn ha hS hc hF
    have hx : (lk X day)[k]? = some (lk X day)[k] := List.getElem?_eq_getElem (by omega)
    generalize hxe : (lk X day)[k] = p at hx
    have hp := hat k p hx
    obtain ⟨p1, p2⟩ := lk_lt hX (List.mem_of_getElem? hx)
    have b1 := hX.1 p (by omega) (by omega) (by omega) (by omega)
    have b2 := hX.1 (p + 2) (by omega) (by omega) (by omega) (by omega)
    have b3 := hX.1 (p + 3) (by omega) (by omega) (by omega) (by omega)
    have b4 := hX.1 (p + 4) (by omega) (by omega) (by omega) (by omega)
    rw [drop_get hx] at hF
    simp only [rsnR] at hF
    refine g_iload dX6_reason_13 rfl ?_
    refine g_aload_n dX6_reason_15 rfl ?_
    refine g_get fX6_67 dX6_reason_16 rfl rfl ?_
    refine g_icmp_ge_n (tgt := 117) dX6_reason_19 (by decide) (by omega) (by omega) (fun h1 => ?_) (fun h1 => ?_)
    · omega
    refine g_aload_n dX6_reason_22 rfl ?_
    refine g_iload dX6_reason_23 rfl ?_
    refine g_iload_n dX6_reason_25 rfl ?_
    refine g_iload_n dX6_reason_26 rfl ?_
    refine g_iload dX6_reason_27 rfl ?_
    refine g_callV_i (kX6_clashes hX (k := k) (h := h) (f := f) (t := t) (by omega) (by omega) (by omega) hh hf ht) oX6_clashes pX6_clashes lX6_84 dX6_reason_29 rfl rfl rfl rfl rfl (Nat.le_of_ble_eq_true rfl) (Nat.le_of_ble_eq_true rfl) (by decide) (fun M' h' => ?_)
    subst h'
    rw [hp]
    refine g_istore dX6_reason_32 (by decide) ?_
    refine g_iload dX6_reason_34 rfl ?_
    refine g_if_eq_b (tgt := 60) dX6_reason_36 (by decide) (fun h2 => ?_) (fun h2 => ?_)
    · rw [h2] at hF
      refine g_iload dX6_reason_60 rfl ?_
      refine g_if_ne_b (tgt := 111) dX6_reason_62 (by decide) (fun h3 => ?_) (fun h3 => ?_)
      · rw [h2] at h3; cases h3
      refine g_aload_n dX6_reason_65 rfl ?_
      refine g_aload_n dX6_reason_66 rfl ?_
      refine g_get fX6_7 dX6_reason_67 rfl rfl ?_
      refine g_aload_n dX6_reason_70 rfl ?_
      refine g_get fX6_19 dX6_reason_71 rfl rfl ?_
      refine g_iload dX6_reason_74 rfl ?_
      refine g_iald_n dX6_reason_76 rfl (by omega) (by decide) ?_
      refine g_iconst (v := nI 0) dX6_reason_77 (by decide) ?_
      refine g_iadd_n dX6_reason_78 ?_
      refine g_iald_n dX6_reason_79 rfl (by omega) (by decide) ?_
      refine g_aload_n dX6_reason_80 rfl ?_
      refine g_get fX6_7 dX6_reason_81 rfl rfl ?_
      refine g_aload_n dX6_reason_84 rfl ?_
      refine g_get fX6_19 dX6_reason_85 rfl rfl ?_
      refine g_iload dX6_reason_88 rfl ?_
      refine g_iald_n dX6_reason_90 rfl (by omega) (by decide) ?_
      refine g_iconst (v := nI 2) dX6_reason_91 (by decide) ?_
      refine g_iadd_n dX6_reason_92 ?_
      refine g_iald_n dX6_reason_93 rfl (by omega) (by decide) ?_
      refine g_aload_n dX6_reason_94 rfl ?_
      refine g_get fX6_7 dX6_reason_95 rfl rfl ?_
      refine g_aload_n dX6_reason_98 rfl ?_
      refine g_get fX6_19 dX6_reason_99 rfl rfl ?_
      refine g_iload dX6_reason_102 rfl ?_
      refine g_iald_n dX6_reason_104 rfl (by omega) (by decide) ?_
      refine g_iconst (v := nI 3) dX6_reason_105 (by decide) ?_
      refine g_iadd_n dX6_reason_106 ?_
      refine g_iald_n dX6_reason_107 rfl (by omega) (by decide) ?_
      simp only [hp, Nat.add_zero]
      refine g_callV_v (kX6_addCleaning (e := (X p, X (p + 2), X (p + 3))) ⟨b1, b2, b3⟩ (l := acc) (by omega) hS hc) oX6_addCleaning pX6_addCleaning lX6_88 dX6_reason_108 rfl rfl rfl rfl rfl (Nat.le_of_ble_eq_true rfl) (Nat.le_of_ble_eq_true rfl) (by decide) (fun M' h' => ?_)
      obtain ⟨CH', CF', CT', rfl, hc'⟩ := h'
      refine g_iinc_n (c := 1) dX6_reason_111 rfl (by decide) (by decide) ?_
      refine g_goto (tgt := 13) dX6_reason_114 (by decide) ?_
      refine g_loc rfl (ih (k + 1) (addC (X p, X (p + 2), X (p + 3)) acc) CH' CF' CT' F (by omega) (by rw [addC_len]; omega) (fun a ha2 => ?_) hc' hF)
      rcases addC_mem ha2 with rfl | h2
      · exact ⟨b1, b2, b3⟩
      · exact hS a h2
    · rw [h2] at hF
      refine g_aload_n dX6_reason_39 rfl ?_
      refine g_get fX6_7 dX6_reason_40 rfl rfl ?_
      refine g_aload_n dX6_reason_43 rfl ?_
      refine g_get fX6_19 dX6_reason_44 rfl rfl ?_
      refine g_iload dX6_reason_47 rfl ?_
      refine g_iald_n dX6_reason_49 rfl (by omega) (by decide) ?_
      refine g_iconst (v := nI 4) dX6_reason_50 (by decide) ?_
      refine g_iadd_n dX6_reason_51 ?_
      refine g_iald_n dX6_reason_52 rfl (by omega) (by decide) ?_
      refine g_iload dX6_reason_53 rfl ?_
      simp only [hp]
      refine g_icmp_lt_n (tgt := 60) dX6_reason_55 (by decide) (by omega) (by omega) (fun h3 => ?_) (fun h3 => ?_)
      · refine g_iload dX6_reason_60 rfl ?_
        refine g_if_ne_b (tgt := 111) dX6_reason_62 (by decide) (fun h4 => ?_) (fun h4 => ?_)
        rotate_left
        · rw [h2] at h4; cases h4
        refine g_iinc_n (c := 1) dX6_reason_111 rfl (by decide) (by decide) ?_
        refine g_goto (tgt := 13) dX6_reason_114 (by decide) ?_
        rw [show decide (r ≤ X (p + 4)) = false by simp; omega] at hF
        exact g_loc rfl (ih (k + 1) acc CH CF CT F (by omega) (by omega) hS hc hF)
      · refine g_iconst (v := nI 2) dX6_reason_58 (by decide) ?_
        rw [show decide (r ≤ X (p + 4)) = true by simp; omega] at hF
        exact g_ireturn dX6_reason_59 rfl rfl (hF _ _ _ _)
theorem kX6_reason (hX : wf0 X) {h day f t r : Nat} (hd : day < 84) (hh : h < 1048576) (hf : f < 1048576) (ht : t < 1048576) (hr : r < 1048576) : Cn mX6_reason 3 0 0 none [.ref 233, .int (nI h), .int (nI day), .int (nI f), .int (nI t), .int (nI r)] (mM M0 X SV SN AT CH CF CT BU PT sm ik th mn cl ln sp nu pa hs) (zi (nI (rsn X h day f t r)) (fun M' => ∃ AT' CH' CF' CT' mn' cl', M' = mM M0 X SV SN AT' CH' CF' CT' BU PT sm ik th mn' cl' ln sp nu pa hs)) := by
  refine g_aload_n dX6_reason_0 rfl ?_
  refine g_iload_n dX6_reason_1 rfl ?_
  refine g_callV_v (kX6_look hX hd) oX6_look pX6_look lX6_80 dX6_reason_2 rfl rfl rfl rfl rfl (Nat.le_of_ble_eq_true rfl) (Nat.le_of_ble_eq_true rfl) (by decide) (fun M' h' => ?_)
  obtain ⟨AT', rfl, hat⟩ := h'
  refine g_aload_n dX6_reason_5 rfl ?_
  refine g_iconst (v := nI 0) dX6_reason_6 (by decide) ?_
  refine g_mput_cleans fX6_77 dX6_reason_7 ?_
  refine g_iconst (v := nI 0) dX6_reason_10 (by decide) ?_
  refine g_istore dX6_reason_11 (by decide) ?_
  exact g_loc rfl (reason1 hX hh hf ht hr hat (lk X day).length 0 [] CH CF CT _ (by omega) (Nat.le_refl _) (fun a ha => by cases ha) cAt_nil (fun CH' CF' CT' cl' => ⟨rfl, rfl, AT', CH', CF', CT', _, cl', rfl⟩))
theorem kX6_refusalOf (hX : wf0 X) {h day f t r : Nat} (hd : day < 84) (hh : h < 1048576) (hf : f < 1048576) (ht : t < 1048576) (hr : r < 1048576) : Cn mX6_refusalOf 4 0 0 none [.ref 233, .int (nI h), .int (nI day), .int (nI f), .int (nI t), .int (nI r)] (mM M0 X SV SN AT CH CF CT BU PT sm ik th mn cl ln sp nu pa hs) (zi (nI (rfs X h day f t r)) (fun M' => ∃ AT' CH' CF' CT' mn' cl', M' = mM M0 X SV SN AT' CH' CF' CT' BU PT sm ik th mn' cl' ln sp nu pa hs)) := by
  have b92 := hX.1 92 (by omega) (by omega) (by omega) (by omega)
  refine g_aload_n dX6_refusalOf_0 rfl ?_
  refine g_get fX6_7 dX6_refusalOf_1 rfl rfl ?_
  refine g_bipush (v := nI 92) dX6_refusalOf_4 (by decide) ?_
  refine g_iald_n dX6_refusalOf_6 rfl (by omega) (by decide) ?_
  refine g_bipush (v := nI 12) dX6_refusalOf_7 (by decide) ?_
  refine g_icmp_ne_n (tgt := 16) dX6_refusalOf_9 (by decide) (by omega) (by omega) (fun h1 => ?_) (fun h1 => ?_)
  · refine g_aload_n dX6_refusalOf_16 rfl ?_
    refine g_iload_n dX6_refusalOf_17 rfl ?_
    refine g_iload_n dX6_refusalOf_18 rfl ?_
    refine g_iload_n dX6_refusalOf_19 rfl ?_
    refine g_iload dX6_refusalOf_20 rfl ?_
    refine g_iload dX6_refusalOf_22 rfl ?_
    refine g_callV_i (kX6_reason hX hd hh hf ht hr) oX6_reason pX6_reason lX6_96 dX6_refusalOf_24 rfl rfl rfl rfl rfl (Nat.le_of_ble_eq_true rfl) (Nat.le_of_ble_eq_true rfl) (by decide) (fun M' h' => ?_)
    refine g_ireturn dX6_refusalOf_27 rfl rfl ⟨rfl, ?_, h'⟩
    simp [rfs, h1]
  · refine g_iconst (v := nI 1) dX6_refusalOf_12 (by decide) ?_
    refine g_goto (tgt := 27) dX6_refusalOf_13 (by decide) ?_
    refine g_ireturn dX6_refusalOf_27 rfl rfl ⟨rfl, ?_, AT, CH, CF, CT, mn, cl, rfl⟩
    simp [rfs, h1]
end MOD4
