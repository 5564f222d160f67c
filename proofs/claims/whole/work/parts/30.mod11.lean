/-! the reference: settings -/
def pwJ (X : Nat → Nat) (p : Nat) (l : List Nat) : Bool := l.all (fun q => !clsh X p (X q) (X (q + 2)) (X (q + 3)))
def pwK (X : Nat → Nat) (l : List Nat) : Nat → Bool
  | 0 => true
  | k + 1 => pwK X l k && (match l[k]? with | none => true | some p => pwJ X p (l.take k))
def csK (X : Nat → Nat) (l : List Nat) : Nat → List cE
  | 0 => []
  | k + 1 => match l[k]? with | none => csK X l k | some p => addC (X p, X (p + 2), X (p + 3)) (csK X l k)
def gdD (X : Nat → Nat) (day : Nat) : Bool := pwK X (lk X day) (lk X day).length && mok (X 0) 0 (csK X (lk X day) (lk X day).length)
def alD (X : Nat → Nat) : Nat → Nat → Bool
  | 0, _ => true
  | n + 1, day => gdD X day && alD X n (day + 1)
def gdW (X : Nat → Nat) (w v : Nat) : Bool := decide (uN X w v 3 ≤ uN X w v 4) && (decide (w ≠ 0) || alD (uN X w v) 84 0)
def mxS (w : Nat) : Nat := if w = 0 then 4 else if w = 1 then 50 else if w = 2 then 100 else 11
theorem csK_len (X : Nat → Nat) (l : List Nat) : ∀ k, (csK X l k).length ≤ k
  | 0 => Nat.le_refl 0
  | k + 1 => by
    have := csK_len X l k
    simp only [csK]
    cases l[k]? with
    | none => simp only; omega
    | some p => simp only [addC_len]; omega
theorem uN_b {X : Nat → Nat} {w v : Nat} : uN (uN X w v) w (X w) = X := by
  funext j
  by_cases h : j = w
  · subst h; simp [uN]
  · simp [uN, h]
theorem wf0_set {X : Nat → Nat} (hX : wf0 X) {w v : Nat} (hw : w ≤ 4) (hv : v ≤ 100) : wf0 (uN X w v) := by
  refine ⟨fun j h1 h2 h3 h4 => ?_, ?_, ?_⟩
  · by_cases h : j = w
    · subst h; rw [uN_s]; omega
    · rw [uN_n _ _ h]; exact hX.1 j h1 h2 h3 h4
  · rw [uN_n _ _ (by omega)]; exact hX.2.1
  · rw [uN_n _ _ (by omega)]; exact hX.2.2
section MOD11
variable {M0 : zM} {X SV SN AT CH CF CT BU PT : Nat → Nat} {sm ik th mn cl ln sp nu pa : Nat} {hs : Int64}
theorem isGood2 (hX : wf0 X) {l : List Nat} (hl : l.length ≤ 20) (hl2 : ∀ q, q ∈ l → 12 ≤ q ∧ q + 6 < 177) (hat : atL l AT) {day k p : Nat} {b : Bool} (hk : l[k]? = some p) (F : zP) (hF : G mX6_isGood 5 0 0 none 97 [(0, .ref 233), (1, .int (nI day)), (2, .int (nI (b && pwJ X p (l.take k)).toNat)), (3, .int (nI k)), (4, .int (nI k))] [] (mM M0 X SV SN AT CH CF CT BU PT sm ik th mn cl ln sp nu pa hs) F) : ∀ n j, j + n = k → G mX6_isGood 5 0 0 none 25 [(0, .ref 233), (1, .int (nI day)), (2, .int (nI (b && pwJ X p (l.take j)).toNat)), (3, .int (nI k)), (4, .int (nI j))] [] (mM M0 X SV SN AT CH CF CT BU PT sm ik th mn cl ln sp nu pa hs) F := by
  have hk1 := (List.getElem?_eq_some_iff.mp hk).1
  have hp := hat k p hk
  obtain ⟨p1, p2⟩ := hl2 p (List.mem_of_getElem? hk)
  intro n
  induction n with
  | zero =>
    intro j hn
    have : j = k := by omega
    subst this
    refine g_iload dX6_isGood_25 rfl ?_
    refine g_iload_n dX6_isGood_27 rfl ?_
    refine g_icmp_ge_n (tgt := 97) dX6_isGood_28 (by decide) (by omega) (by omega) (fun h1 => ?_) (fun h1 => ?_)
    · exact hF
    · omega
  | succ n ih =>
    intro j hn
    have hx : l[j]? = some l[j] := List.getElem?_eq_getElem (by omega)
    generalize hxe : l[j] = q at hx
    have hq := hat j q hx
    obtain ⟨q1, q2⟩ := hl2 q (List.mem_of_getElem? hx)
    have b1 := hX.1 q (by omega) (by omega) (by omega) (by omega)
    have b2 := hX.1 (q + 2) (by omega) (by omega) (by omega) (by omega)
    have b3 := hX.1 (q + 3) (by omega) (by omega) (by omega) (by omega)
    have hst : pwJ X p (l.take (j + 1)) = (pwJ X p (l.take j) && !clsh X p (X q) (X (q + 2)) (X (q + 3))) := by
      simp [pwJ, List.take_succ, hx]
    have fin : ∀ c : Bool, c = (b && pwJ X p (l.take (j + 1))) → G mX6_isGood 5 0 0 none 90 [(0, .ref 233), (1, .int (nI day)), (2, .int (nI (b && pwJ X p (l.take j)).toNat)), (3, .int (nI k)), (4, .int (nI j))] [.int (nI c.toNat)] (mM M0 X SV SN AT CH CF CT BU PT sm ik th mn cl ln sp nu pa hs) F := fun c hc => by
      refine g_istore_n dX6_isGood_90 (by decide) ?_
      refine g_iinc_n (c := 1) dX6_isGood_91 rfl (by decide) (by decide) ?_
      refine g_goto (tgt := 25) dX6_isGood_94 (by decide) ?_
      subst hc
      exact g_loc rfl (ih (j + 1) (by omega))
    refine g_iload dX6_isGood_25 rfl ?_
    refine g_iload_n dX6_isGood_27 rfl ?_
    refine g_icmp_ge_n (tgt := 97) dX6_isGood_28 (by decide) (by omega) (by omega) (fun h1 => ?_) (fun h1 => ?_)
    · omega
    refine g_iload_n dX6_isGood_31 rfl ?_
    refine g_if_eq_b (tgt := 89) dX6_isGood_32 (by decide) (fun h2 => ?_) (fun h2 => ?_)
    · refine g_iconst (v := nI 0) dX6_isGood_89 (by decide) ?_
      exact fin false (by rw [hst, ← Bool.and_assoc, h2]; rfl)
    · refine g_aload_n dX6_isGood_35 rfl ?_
      refine g_iload_n dX6_isGood_36 rfl ?_
      refine g_aload_n dX6_isGood_37 rfl ?_
      refine g_get fX6_7 dX6_isGood_38 rfl rfl ?_
      refine g_aload_n dX6_isGood_41 rfl ?_
      refine g_get fX6_19 dX6_isGood_42 rfl rfl ?_
      refine g_iload dX6_isGood_45 rfl ?_
      refine g_iald_n dX6_isGood_47 rfl (by omega) (by decide) ?_
      refine g_iconst (v := nI 0) dX6_isGood_48 (by decide) ?_
      refine g_iadd_n dX6_isGood_49 ?_
      refine g_iald_n dX6_isGood_50 rfl (by omega) (by decide) ?_
      refine g_aload_n dX6_isGood_51 rfl ?_
      refine g_get fX6_7 dX6_isGood_52 rfl rfl ?_
      refine g_aload_n dX6_isGood_55 rfl ?_
      refine g_get fX6_19 dX6_isGood_56 rfl rfl ?_
      refine g_iload dX6_isGood_59 rfl ?_
      refine g_iald_n dX6_isGood_61 rfl (by omega) (by decide) ?_
      refine g_iconst (v := nI 2) dX6_isGood_62 (by decide) ?_
      refine g_iadd_n dX6_isGood_63 ?_
      refine g_iald_n dX6_isGood_64 rfl (by omega) (by decide) ?_
      refine g_aload_n dX6_isGood_65 rfl ?_
      refine g_get fX6_7 dX6_isGood_66 rfl rfl ?_
      refine g_aload_n dX6_isGood_69 rfl ?_
      refine g_get fX6_19 dX6_isGood_70 rfl rfl ?_
      refine g_iload dX6_isGood_73 rfl ?_
      refine g_iald_n dX6_isGood_75 rfl (by omega) (by decide) ?_
      refine g_iconst (v := nI 3) dX6_isGood_76 (by decide) ?_
      refine g_iadd_n dX6_isGood_77 ?_
      refine g_iald_n dX6_isGood_78 rfl (by omega) (by decide) ?_
      simp only [hq, Nat.add_zero]
      refine g_callV_i (kX6_clashes hX (k := k) (h := X q) (f := X (q + 2)) (t := X (q + 3)) (by omega) (by omega) (by omega) b1 b2 b3) oX6_clashes pX6_clashes lX6_84 dX6_isGood_79 rfl rfl rfl rfl rfl (Nat.le_of_ble_eq_true rfl) (Nat.le_of_ble_eq_true rfl) (by decide) (fun M' h' => ?_)
      subst h'
      rw [hp]
      refine g_if_ne_b (tgt := 89) dX6_isGood_82 (by decide) (fun h3 => ?_) (fun h3 => ?_)
      · refine g_iconst (v := nI 0) dX6_isGood_89 (by decide) ?_
        exact fin false (by rw [hst, h3]; simp)
      · refine g_iconst (v := nI 1) dX6_isGood_85 (by decide) ?_
        refine g_goto (tgt := 90) dX6_isGood_86 (by decide) ?_
        exact fin true (by rw [hst, ← Bool.and_assoc, h2, h3]; rfl)
theorem isGood1 (hX : wf0 X) {l : List Nat} (hl : l.length ≤ 20) (hl2 : ∀ q, q ∈ l → 12 ≤ q ∧ q + 6 < 177) (hat : atL l AT) {day : Nat} (F : zP) (hF : ∀ CH' CF' CT' cl', F (mM M0 X SV SN AT CH' CF' CT' BU PT sm ik th l.length cl' ln sp nu pa hs) none (.inl (some (.int (nI (pwK X l l.length && mok (X 0) 0 (csK X l l.length)).toNat))))) : ∀ n k (CH CF CT : Nat → Nat), k + n = l.length → (∀ a ∈ csK X l k, cS a) → cAt (csK X l k) 0 CH CF CT → G mX6_isGood 5 0 0 none 14 [(0, .ref 233), (1, .int (nI day)), (2, .int (nI (pwK X l k).toNat)), (3, .int (nI k))] [] (mM M0 X SV SN AT CH CF CT BU PT sm ik th l.length (csK X l k).length ln sp nu pa hs) F := by
  intro n
  induction n with
  | zero =>
    intro k CH CF CT hn hS hc
    have : k = l.length := by omega
    subst this
    have hcl := csK_len X l l.length
    refine g_iload_n dX6_isGood_14 rfl ?_
    refine g_aload_n dX6_isGood_15 rfl ?_
    refine g_get fX6_67 dX6_isGood_16 rfl rfl ?_
    refine g_icmp_ge_n (tgt := 146) dX6_isGood_19 (by decide) (by omega) (by omega) (fun h1 => ?_) (fun h1 => ?_)
    rotate_left
    · omega
    refine g_iload_n dX6_isGood_146 rfl ?_
    refine g_if_eq_b (tgt := 161) dX6_isGood_147 (by decide) (fun h2 => ?_) (fun h2 => ?_)
    · refine g_iconst (v := nI 0) dX6_isGood_161 (by decide) ?_
      refine g_ireturn dX6_isGood_162 rfl rfl ?_
      have := hF CH CF CT (csK X l l.length).length
      simpa [h2] using this
    · refine g_aload_n dX6_isGood_150 rfl ?_
      refine g_callV_i (kX6_isCleaned hX (l := csK X l l.length) (by omega) hc hS) oX6_isCleaned pX6_isCleaned lX6_92 dX6_isGood_151 rfl rfl rfl rfl rfl (Nat.le_of_ble_eq_true rfl) (Nat.le_of_ble_eq_true rfl) (by decide) (fun M' h' => ?_)
      subst h'
      refine g_if_eq_b (tgt := 161) dX6_isGood_154 (by decide) (fun h3 => ?_) (fun h3 => ?_)
      · refine g_iconst (v := nI 0) dX6_isGood_161 (by decide) ?_
        refine g_ireturn dX6_isGood_162 rfl rfl ?_
        have := hF CH CF CT (csK X l l.length).length
        simpa [h3] using this
      · refine g_iconst (v := nI 1) dX6_isGood_157 (by decide) ?_
        refine g_goto (tgt := 162) dX6_isGood_158 (by decide) ?_
        refine g_ireturn dX6_isGood_162 rfl rfl ?_
        have := hF CH CF CT (csK X l l.length).length
        simpa [h2, h3] using this
  | succ n ih =>
    intro k CH CF CT hn hS hc
    have hx : l[k]? = some l[k] := List.getElem?_eq_getElem (by omega)
    generalize hxe : l[k] = p at hx
    have hp := hat k p hx
    obtain ⟨p1, p2⟩ := hl2 p (List.mem_of_getElem? hx)
    have b1 := hX.1 p (by omega) (by omega) (by omega) (by omega)
    have b2 := hX.1 (p + 2) (by omega) (by omega) (by omega) (by omega)
    have b3 := hX.1 (p + 3) (by omega) (by omega) (by omega) (by omega)
    have hcl := csK_len X l k
    have e1 : pwK X l (k + 1) = (pwK X l k && pwJ X p (l.take k)) := by simp only [pwK, hx]
    have e2 : csK X l (k + 1) = addC (X p, X (p + 2), X (p + 3)) (csK X l k) := by simp only [csK, hx]
    refine g_iload_n dX6_isGood_14 rfl ?_
    refine g_aload_n dX6_isGood_15 rfl ?_
    refine g_get fX6_67 dX6_isGood_16 rfl rfl ?_
    refine g_icmp_ge_n (tgt := 146) dX6_isGood_19 (by decide) (by omega) (by omega) (fun h1 => ?_) (fun h1 => ?_)
    · omega
    refine g_iconst (v := nI 0) dX6_isGood_22 (by decide) ?_
    refine g_istore dX6_isGood_23 (by decide) ?_
    refine g_loc (L' := [(0, .ref 233), (1, .int (nI day)), (2, .int (nI (pwK X l k && pwJ X p (l.take 0)).toNat)), (3, .int (nI k)), (4, .int (nI 0))]) (by simp only [pwJ, List.take_zero, List.all_nil, Bool.and_true]; rfl) ?_
    refine isGood2 hX hl hl2 hat hx F ?_ k 0 (by omega)
    refine g_aload_n dX6_isGood_97 rfl ?_
    refine g_aload_n dX6_isGood_98 rfl ?_
    refine g_get fX6_7 dX6_isGood_99 rfl rfl ?_
    refine g_aload_n dX6_isGood_102 rfl ?_
    refine g_get fX6_19 dX6_isGood_103 rfl rfl ?_
    refine g_iload_n dX6_isGood_106 rfl ?_
    refine g_iald_n dX6_isGood_107 rfl (by omega) (by decide) ?_
    refine g_iconst (v := nI 0) dX6_isGood_108 (by decide) ?_
    refine g_iadd_n dX6_isGood_109 ?_
    refine g_iald_n dX6_isGood_110 rfl (by omega) (by decide) ?_
    refine g_aload_n dX6_isGood_111 rfl ?_
    refine g_get fX6_7 dX6_isGood_112 rfl rfl ?_
    refine g_aload_n dX6_isGood_115 rfl ?_
    refine g_get fX6_19 dX6_isGood_116 rfl rfl ?_
    refine g_iload_n dX6_isGood_119 rfl ?_
    refine g_iald_n dX6_isGood_120 rfl (by omega) (by decide) ?_
    refine g_iconst (v := nI 2) dX6_isGood_121 (by decide) ?_
    refine g_iadd_n dX6_isGood_122 ?_
    refine g_iald_n dX6_isGood_123 rfl (by omega) (by decide) ?_
    refine g_aload_n dX6_isGood_124 rfl ?_
    refine g_get fX6_7 dX6_isGood_125 rfl rfl ?_
    refine g_aload_n dX6_isGood_128 rfl ?_
    refine g_get fX6_19 dX6_isGood_129 rfl rfl ?_
    refine g_iload_n dX6_isGood_132 rfl ?_
    refine g_iald_n dX6_isGood_133 rfl (by omega) (by decide) ?_
    refine g_iconst (v := nI 3) dX6_isGood_134 (by decide) ?_
    refine g_iadd_n dX6_isGood_135 ?_
    refine g_iald_n dX6_isGood_136 rfl (by omega) (by decide) ?_
    simp only [hp, Nat.add_zero]
    refine g_callV_v (kX6_addCleaning (e := (X p, X (p + 2), X (p + 3))) ⟨b1, b2, b3⟩ (l := csK X l k) (by omega) hS hc) oX6_addCleaning pX6_addCleaning lX6_88 dX6_isGood_137 rfl rfl rfl rfl rfl (Nat.le_of_ble_eq_true rfl) (Nat.le_of_ble_eq_true rfl) (by decide) (fun M' h' => ?_)
    obtain ⟨CH', CF', CT', rfl, hc'⟩ := h'
    refine g_iinc_n (c := 1) dX6_isGood_140 rfl (by decide) (by decide) ?_
    refine g_goto (tgt := 14) dX6_isGood_143 (by decide) ?_
    rw [← e2] at hc'
    rw [← e2, ← e1]
    exact g_loc rfl (ih (k + 1) CH' CF' CT' (by omega) (fun a ha2 => by
      rw [e2] at ha2
      rcases addC_mem ha2 with rfl | h2
      · exact ⟨b1, b2, b3⟩
      · exact hS a h2) hc')
theorem kX6_isGood (hX : wf0 X) {day : Nat} (hd : day < 84) : Cn mX6_isGood 5 0 0 none [.ref 233, .int (nI day)] (mM M0 X SV SN AT CH CF CT BU PT sm ik th mn cl ln sp nu pa hs) (zi (nI (gdD X day).toNat) (fun M' => ∃ AT' CH' CF' CT' mn' cl', M' = mM M0 X SV SN AT' CH' CF' CT' BU PT sm ik th mn' cl' ln sp nu pa hs)) := by
  refine g_aload_n dX6_isGood_0 rfl ?_
  refine g_iload_n dX6_isGood_1 rfl ?_
  refine g_callV_v (kX6_look hX hd) oX6_look pX6_look lX6_80 dX6_isGood_2 rfl rfl rfl rfl rfl (Nat.le_of_ble_eq_true rfl) (Nat.le_of_ble_eq_true rfl) (by decide) (fun M' h' => ?_)
  obtain ⟨AT', rfl, hat⟩ := h'
  refine g_aload_n dX6_isGood_5 rfl ?_
  refine g_iconst (v := nI 0) dX6_isGood_6 (by decide) ?_
  refine g_mput_cleans fX6_77 dX6_isGood_7 ?_
  refine g_iconst (v := nI 1) dX6_isGood_10 (by decide) ?_
  refine g_istore_n dX6_isGood_11 (by decide) ?_
  refine g_iconst (v := nI 0) dX6_isGood_12 (by decide) ?_
  refine g_istore_n dX6_isGood_13 (by decide) ?_
  exact g_loc rfl (isGood1 hX (lk_len hX day) (fun q hq => lk_lt hX hq) hat _ (fun CH' CF' CT' cl' => ⟨rfl, rfl, AT', CH', CF', CT', _, cl', rfl⟩) (lk X day).length 0 CH CF CT (by omega) (fun a ha => by cases ha) cAt_nil)
end MOD11
