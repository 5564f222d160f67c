/-! the class: the plan of a day -/
def lAt (l : List Nat) (o : Nat) (A : Nat → Nat) : Prop := ∀ j a, l[j]? = some a → A (o + j) = a
theorem lAt_nil {o : Nat} {A : Nat → Nat} : lAt [] o A := fun j a h => by simp at h
theorem lAt_put {l : List Nat} {o k x : Nat} {A : Nat → Nat} (h : lAt l o A) (hk : k < o ∨ o + l.length ≤ k) : lAt l o (uN A k x) := fun j a hj => by
  have hl := (List.getElem?_eq_some_iff.mp hj).1
  rw [uN_n _ _ (by omega)]
  exact h j a hj
theorem lAt_cons {l : List Nat} {o a : Nat} {A : Nat → Nat} (h : lAt l (o + 1) A) (h1 : A o = a) : lAt (a :: l) o A := fun j b hj => by
  cases j with
  | zero => cases hj; exact h1
  | succ j =>
    have := h j b hj
    rw [show o + (j + 1) = o + 1 + j by omega]
    exact this
theorem lAt_app {l m : List Nat} {o : Nat} {A : Nat → Nat} (h : lAt l o A) (h2 : lAt m (o + l.length) A) : lAt (l ++ m) o A := fun j b hj => by
  by_cases hl : j < l.length
  · rw [List.getElem?_append_left hl] at hj
    exact h j b hj
  · rw [List.getElem?_append_right (by omega)] at hj
    have := h2 _ b hj
    rw [show o + l.length + (j - l.length) = o + j by omega] at this
    exact this
theorem lAt_left {l m : List Nat} {o : Nat} {A : Nat → Nat} (h : lAt (l ++ m) o A) : lAt l o A := fun j b hj => h j b (by rw [List.getElem?_append_left (List.getElem?_eq_some_iff.mp hj).1]; exact hj)
theorem uN_u (X : Nat → Nat) (k v w : Nat) : uN (uN X k v) k w = uN X k w := by
  funext j
  by_cases h : j = k <;> simp [uN, h]
/-- put a let into the plan, from its end -/
def insA (V : Nat → Nat → Nat) (a : Nat) : List Nat → List Nat
  | [] => [a]
  | e :: r => bif vBf (V a) (V e) then e :: insA V a r else a :: e :: r
def adA (V : Nat → Nat → Nat) (a : Nat) (l : List Nat) : List Nat := (insA V a l.reverse).reverse
theorem insA_len (V : Nat → Nat → Nat) (a : Nat) : ∀ r, (insA V a r).length = r.length + 1
  | [] => rfl
  | e :: r => by
    simp only [insA]
    cases vBf (V a) (V e)
    · rfl
    · simp [insA_len V a r]
theorem adA_len (V : Nat → Nat → Nat) (a : Nat) (l : List Nat) : (adA V a l).length = l.length + 1 := by simp [adA, insA_len]
theorem insA_mem {V : Nat → Nat → Nat} {a b : Nat} : ∀ {r : List Nat}, b ∈ insA V a r → b = a ∨ b ∈ r
  | [], h => Or.inl (List.mem_singleton.mp h)
  | e :: r, h => by
    simp only [insA] at h
    cases hg : vBf (V a) (V e)
    · rw [hg] at h
      rcases List.mem_cons.mp h with h | h
      · exact Or.inl h
      · exact Or.inr h
    · rw [hg] at h
      rcases List.mem_cons.mp h with h | h
      · exact Or.inr (h ▸ List.mem_cons_self)
      · rcases insA_mem h with h | h
        · exact Or.inl h
        · exact Or.inr (List.mem_cons_of_mem _ h)
theorem adA_mem {V : Nat → Nat → Nat} {a b : Nat} {l : List Nat} (h : b ∈ adA V a l) : b = a ∨ b ∈ l := by
  rcases insA_mem (List.mem_reverse.mp h) with h | h
  · exact Or.inl h
  · exact Or.inr (List.mem_reverse.mp h)
def enL (Y : Nat → Nat → Nat) (r day : Nat) (l : List Nat) : Nat → List Nat
  | 0 => l
  | k + 1 => bif vStd (rV Y r k) day then adA Y (Y (r + 1) k) (enL Y r day l k) else enL Y r day l k
def opL (Y : Nat → Nat → Nat) (b day : Nat) : List Nat := enL Y (b + 11) day (enL Y (b + 1) day [] (Y (b + 1) 1)) (Y (b + 11) 1)
theorem enL_len (Y : Nat → Nat → Nat) (r day : Nat) (l : List Nat) : ∀ k, (enL Y r day l k).length ≤ l.length + k
  | 0 => Nat.le_refl _
  | k + 1 => by
    have := enL_len Y r day l k
    simp only [enL]
    cases vStd (rV Y r k) day
    · simp only [cond_false]; omega
    · simp only [cond_true, adA_len]; omega
/-- the plan in memory -/
def plY (Y : Nat → Nat → Nat) (A : Nat → Nat) (n : Nat) : Nat → Nat → Nat := uA (uA Y 68 A) 67 (uN (Y 67) 1 n)
theorem plY_s (Y : Nat → Nat → Nat) (A : Nat → Nat) (n : Nat) : plY Y A n 67 1 = n := by rw [plY, uA_s, uN_s]
theorem plY_l (Y : Nat → Nat → Nat) (A : Nat → Nat) (n : Nat) : plY Y A n 68 = A := by rw [plY, uA_n _ _ (by omega), uA_s]
theorem plY_o (Y : Nat → Nat → Nat) (A : Nat → Nat) (n : Nat) {a : Nat} (h : a ≠ 67) (h2 : a ≠ 68) : plY Y A n a = Y a := by rw [plY, uA_n _ _ h, uA_n _ _ h2]
theorem plY_uA (Y : Nat → Nat → Nat) (A B : Nat → Nat) (n : Nat) : uA (plY Y A n) 68 B = plY Y B n := by
  funext a
  by_cases h : a = 68
  · subst h; rw [uA_s, plY_l]
  · rw [uA_n _ _ h]
    by_cases h2 : a = 67
    · subst h2; rw [plY, plY, uA_s, uA_s]
    · rw [plY_o _ _ _ h2 h, plY_o _ _ _ h2 h]
theorem plY_un (Y : Nat → Nat → Nat) (A : Nat → Nat) (n v : Nat) : uA (plY Y A n) 67 (uN (plY Y A n 67) 1 v) = plY Y A v := by
  funext a
  by_cases h : a = 67
  · subst h; rw [uA_s, plY, plY, uA_s, uA_s, uN_u]
  · rw [uA_n _ _ h]
    by_cases h2 : a = 68
    · subst h2; rw [plY_l, plY_l]
    · rw [plY_o _ _ _ h h2, plY_o _ _ _ h h2]
theorem kq_nP {a k : Nat} (h : kq a = k) (h0 : k ≠ 0) (h1 : k ≠ 23) : a ≠ 67 ∧ a ≠ 68 := ⟨fun e => by subst e; exact h0 h.symm, fun e => by subst e; exact h1 h.symm⟩
/-- lets in memory -/
def lG (Y : Nat → Nat → Nat) (l : List Nat) : Prop := ∀ a ∈ l, kq a = 1 ∧ vB (Y a)
section PLAN
variable {M M0 : zM} {Y : Nat → Nat → Nat}
theorem pl_get {A : Nat → Nat} {n : Nat} {a : Nat} (h : kq a = 1) : plY Y A n a = Y a := plY_o _ _ _ (kq_nP h (by decide) (by decide)).1 (kq_nP h (by decide) (by decide)).2
theorem ins1 {r day k a : Nat} (ha : kq a = 1) (hva : vB (Y a)) (F : zP) : ∀ (rv D : List Nat) (A : Nat → Nat), lG Y rv → rv.length + D.length < 20 → lAt rv.reverse 0 A → lAt D (rv.length + 1) A → (∀ A', lAt ((insA Y a rv).reverse ++ D) 0 A' → G mX0_enterAll 3 0 0 none 111 [(0, .ref 67), (1, .ref r), (2, .int (nI day)), (3, .int (nI k))] [] (cM M0 (plY Y A' (rv.length + D.length + 1))) F) → G mX0_enterAll 3 0 0 none 48 [(0, .ref 67), (1, .ref r), (2, .int (nI day)), (3, .int (nI k)), (4, .ref a), (5, .int (nI rv.length))] [] (cM M0 (plY Y A (rv.length + D.length))) F := by
  intro rv
  have put : ∀ (at_ n : Nat) (A : Nat → Nat), at_ < 20 → G mX0_enterAll 3 0 0 none 111 [(0, .ref 67), (1, .ref r), (2, .int (nI day)), (3, .int (nI k))] [] (cM M0 (plY Y (uN A at_ a) (n + 1))) F → G mX0_enterAll 3 0 0 none 92 [(0, .ref 67), (1, .ref r), (2, .int (nI day)), (3, .int (nI k)), (4, .ref a), (5, .int (nI at_))] [] (cM M0 (plY Y A n)) F := fun at_ n A hat kk => by
    refine g_aload_n dX0_enterAll_92 rfl ?_
    refine g_get fX0_11 dX0_enterAll_93 (cM_P rfl) rfl ?_
    refine g_iload dX0_enterAll_96 rfl ?_
    refine g_aload dX0_enterAll_98 rfl ?_
    refine g_cps dX0_enterAll_100 ha (by omega) ?_
    rw [plY_l, plY_uA]
    refine g_aload_n dX0_enterAll_101 rfl ?_
    refine g_dup dX0_enterAll_102 rfl ?_
    refine g_get fX0_21 dX0_enterAll_103 (cM_P rfl) rfl ?_
    refine g_iconst (v := nI 1) dX0_enterAll_106 (by decide) ?_
    refine g_iadd_n dX0_enterAll_107 ?_
    refine g_cpP fX0_21 dX0_enterAll_108 rfl (by decide) ?_
    rw [plY_un, plY_s]
    exact g_loc rfl kk
  induction rv with
  | nil =>
    intro D A hG hl hr hD hF
    simp only [List.length_nil, Nat.zero_add] at hl hD hF ⊢
    refine g_iload dX0_enterAll_48 rfl ?_
    refine g_if_le_n (tgt := 92) dX0_enterAll_50 (by decide) (by omega) (fun h1 => ?_) (fun h1 => ?_)
    · exact g_loc rfl (put 0 D.length A (by omega) (hF _ (lAt_cons (lAt_put hD (Or.inl (by omega))) (uN_s _ _ _))))
    · omega
  | cons e rv ih =>
    intro D A hG hl hr hD hF
    simp only [List.length_cons] at hl hD hF ⊢
    obtain ⟨hke, hve⟩ := hG e List.mem_cons_self
    have hlast := hr rv.length e (by simp)
    rw [Nat.zero_add] at hlast
    have hr' : lAt rv.reverse 0 A := by
      rw [List.reverse_cons] at hr
      exact lAt_left hr
    have h8 := kq_8 hke (by decide)
    have hz : plY Y A (rv.length + 1 + D.length) 68 rv.length ≠ 0 := by rw [plY_l, hlast]; omega
    have hpa : plY Y A (rv.length + 1 + D.length) a = Y a := pl_get ha
    have hpe : plY Y A (rv.length + 1 + D.length) e = Y e := pl_get hke
    refine g_iload dX0_enterAll_48 rfl ?_
    refine g_if_le_n (tgt := 92) dX0_enterAll_50 (by decide) (by omega) (fun h1 => ?_) (fun h1 => ?_)
    · omega
    refine g_aload dX0_enterAll_53 rfl ?_
    refine g_aload_n dX0_enterAll_55 rfl ?_
    refine g_get fX0_11 dX0_enterAll_56 (cM_P rfl) rfl ?_
    refine g_iload dX0_enterAll_59 rfl ?_
    refine g_iconst (v := nI 1) dX0_enterAll_61 (by decide) ?_
    refine g_isub_n dX0_enterAll_62 (by omega) ?_
    rw [Nat.add_sub_cancel]
    refine g_cpl dX0_enterAll_63 (by omega) hz ?_
    rw [plY_l, hlast]
    refine g_callV_i (kX1_isCleanedBefore ha hke (by rw [hpa]; exact hva) (by rw [hpe]; exact hve)) oX1_isCleanedBefore pX1_isCleanedBefore lX0_48 dX0_enterAll_64 rfl (cM_L ha) rfl rfl rfl (Nat.le_of_ble_eq_true rfl) (Nat.le_of_ble_eq_true rfl) (by decide) (fun M' h' => ?_)
    subst h'
    rw [hpa, hpe]
    refine g_if_eq_b (tgt := 92) dX0_enterAll_67 (by decide) (fun h2 => ?_) (fun h2 => ?_)
    · refine g_loc rfl (put (rv.length + 1) (rv.length + 1 + D.length) A (by omega) (hF _ ?_))
      rw [show insA Y a (e :: rv) = a :: e :: rv by simp [insA, h2], List.reverse_cons, List.append_assoc]
      refine lAt_app (lAt_put hr (Or.inr (by simp))) ?_
      rw [List.length_reverse, List.length_cons, Nat.zero_add]
      exact lAt_cons (lAt_put hD (Or.inl (by omega))) (uN_s _ _ _)
    · refine g_aload_n dX0_enterAll_70 rfl ?_
      refine g_get fX0_11 dX0_enterAll_71 (cM_P rfl) rfl ?_
      refine g_iload dX0_enterAll_74 rfl ?_
      refine g_aload_n dX0_enterAll_76 rfl ?_
      refine g_get fX0_11 dX0_enterAll_77 (cM_P rfl) rfl ?_
      refine g_iload dX0_enterAll_80 rfl ?_
      refine g_iconst (v := nI 1) dX0_enterAll_82 (by decide) ?_
      refine g_isub_n dX0_enterAll_83 (by omega) ?_
      rw [Nat.add_sub_cancel]
      refine g_cpl dX0_enterAll_84 (by omega) hz ?_
      rw [plY_l, hlast]
      refine g_cps dX0_enterAll_85 hke (by omega) ?_
      rw [plY_l, plY_uA]
      refine g_iinc_m dX0_enterAll_86 rfl (by decide) ?_
      refine g_goto (tgt := 48) dX0_enterAll_89 (by decide) ?_
      have := ih (e :: D) (uN A (rv.length + 1) e) (fun b hb => hG b (List.mem_cons_of_mem _ hb)) (by rw [List.length_cons]; omega) (lAt_put hr' (Or.inr (by simp))) (lAt_cons (lAt_put hD (Or.inl (by omega))) (uN_s _ _ _)) (fun A' hc => by
        rw [List.length_cons, show rv.length + (D.length + 1) + 1 = rv.length + 1 + D.length + 1 by omega]
        refine hF A' ?_
        rw [show insA Y a (e :: rv) = e :: insA Y a rv by simp [insA, h2], List.reverse_cons, List.append_assoc]
        exact hc)
      rw [List.length_cons, show rv.length + (D.length + 1) = rv.length + 1 + D.length by omega] at this
      exact g_loc rfl this
theorem lG_en {r n day : Nat} (hr : rl r n) (hw : wR Y r n) {l : List Nat} (hl : lG Y l) : ∀ k, k ≤ Y r 1 → lG Y (enL Y r day l k)
  | 0, _ => hl
  | k + 1, hk => by
    have ih := lG_en (day := day) hr hw hl k (by omega)
    have := hw.2.1
    simp only [enL]
    cases vStd (rV Y r k) day
    · exact ih
    · intro b hb
      rcases adA_mem hb with rfl | hb
      · exact ⟨rl_k hr hw.1 (by omega), hw.2.2 k (by omega)⟩
      · exact ih b hb
theorem en1 {r n day : Nat} (hr : rl r n) (hro : r ≠ 67 ∧ r ≠ 68 ∧ r + 1 ≠ 67 ∧ r + 1 ≠ 68) (hw : wR Y r n) (hd : day < 84) {l : List Nat} (hG : lG Y l) (hl : l.length + Y r 1 ≤ 20) (F : zP) (hF : ∀ A, lAt (enL Y r day l (Y r 1)) 0 A → F (cM M0 (plY Y A (enL Y r day l (Y r 1)).length)) none (.inl none)) : ∀ u k A, k + u = Y r 1 → lAt (enL Y r day l k) 0 A → G mX0_enterAll 3 0 0 none 2 [(0, .ref 67), (1, .ref r), (2, .int (nI day)), (3, .int (nI k))] [] (cM M0 (plY Y A (enL Y r day l k).length)) F := by
  have hn := rl_n hr
  have hsz := hw.2.1
  intro u
  induction u with
  | zero =>
    intro k A hk hA
    have : k = Y r 1 := by omega
    subst this
    refine g_iload_n dX0_enterAll_2 rfl ?_
    refine g_aload_n dX0_enterAll_3 rfl ?_
    refine g_get fX0_38 dX0_enterAll_4 (cM_R hr.1) rfl ?_
    rw [plY_o _ _ _ hro.1 hro.2.1]
    refine g_icmp_ge_n (tgt := 117) dX0_enterAll_7 (by decide) (by omega) (by omega) (fun h1 => ?_) (fun h1 => ?_)
    · exact g_return dX0_enterAll_117 rfl (hF A hA)
    · omega
  | succ u ih =>
    intro k A hk hA
    have hlen := enL_len Y r day l k
    have hkk : kq (Y (r + 1) k) = 1 := rl_k hr hw.1 (by omega)
    have hvk := hw.2.2 k (by omega)
    have hpk : plY Y A (enL Y r day l k).length (Y (r + 1) k) = Y (Y (r + 1) k) := pl_get hkk
    refine g_iload_n dX0_enterAll_2 rfl ?_
    refine g_aload_n dX0_enterAll_3 rfl ?_
    refine g_get fX0_38 dX0_enterAll_4 (cM_R hr.1) rfl ?_
    rw [plY_o _ _ _ hro.1 hro.2.1]
    refine g_icmp_ge_n (tgt := 117) dX0_enterAll_7 (by decide) (by omega) (by omega) (fun h1 => ?_) (fun h1 => ?_)
    · omega
    refine g_aload_n dX0_enterAll_10 rfl ?_
    refine g_get fX0_21 dX0_enterAll_11 (cM_P rfl) rfl ?_
    refine g_aload_n dX0_enterAll_14 rfl ?_
    refine g_get fX0_11 dX0_enterAll_15 (cM_P rfl) rfl ?_
    refine g_cpn dX0_enterAll_18 ?_
    rw [plY_s]
    refine g_icmp_ge_n (tgt := 117) dX0_enterAll_19 (by decide) (by omega) (by omega) (fun h2 => ?_) (fun h2 => ?_)
    · omega
    refine g_aload_n dX0_enterAll_22 rfl ?_
    refine g_get fX0_41 dX0_enterAll_23 (cM_R hr.1) rfl ?_
    refine g_iload_n dX0_enterAll_26 rfl ?_
    refine g_cwl dX0_enterAll_27 hr.2.1 (by omega) ?_
    rw [plY_o _ _ _ hro.2.2.1 hro.2.2.2]
    refine g_astore dX0_enterAll_28 (by decide) ?_
    refine g_aload dX0_enterAll_30 rfl ?_
    refine g_iload_n dX0_enterAll_32 rfl ?_
    refine g_callV_i (kX1_standsOn hkk (by rw [hpk]; exact hvk) hd) oX1_standsOn pX1_standsOn lX0_44 dX0_enterAll_33 rfl (cM_L hkk) rfl rfl rfl (Nat.le_of_ble_eq_true rfl) (Nat.le_of_ble_eq_true rfl) (by decide) (fun M' h' => ?_)
    subst h'
    rw [hpk]
    refine g_if_ne_b (tgt := 42) dX0_enterAll_36 (by decide) (fun h3 => ?_) (fun h3 => ?_)
    · refine g_aload_n dX0_enterAll_42 rfl ?_
      refine g_get fX0_21 dX0_enterAll_43 (cM_P rfl) rfl ?_
      rw [plY_s]
      refine g_istore dX0_enterAll_46 (by decide) ?_
      have := ins1 (M0 := M0) (r := r) (day := day) (k := k) hkk hvk F (enL Y r day l k).reverse [] A (fun b hb => lG_en hr hw hG k (by omega) b (List.mem_reverse.mp hb)) (by simp; omega) (by rw [List.reverse_reverse]; exact hA) lAt_nil (fun A' hA' => by
        refine g_iinc_n (c := 1) dX0_enterAll_111 rfl (by decide) (by decide) ?_
        refine g_goto (tgt := 2) dX0_enterAll_114 (by decide) ?_
        rw [List.append_nil] at hA'
        have e : enL Y r day l (k + 1) = (insA Y (Y (r + 1) k) (enL Y r day l k).reverse).reverse := by
          have h3' : vStd (rV Y r k) day = true := h3
          simp only [enL, h3', cond_true, adA]
        have := ih (k + 1) A' (by omega) (by rw [e]; exact hA')
        rw [show (enL Y r day l (k + 1)).length = (enL Y r day l k).reverse.length + [].length + 1 by rw [e]; simp [insA_len]] at this
        exact g_loc rfl this)
      simp only [List.length_reverse, List.length_nil, Nat.add_zero] at this
      exact g_loc rfl this
    · refine g_goto (tgt := 111) dX0_enterAll_39 (by decide) ?_
      refine g_iinc_n (c := 1) dX0_enterAll_111 rfl (by decide) (by decide) ?_
      refine g_goto (tgt := 2) dX0_enterAll_114 (by decide) ?_
      have e : enL Y r day l (k + 1) = enL Y r day l k := by
        have h3' : vStd (rV Y r k) day = false := h3
        simp only [enL, h3', cond_false]
      have := ih (k + 1) A (by omega) (by rw [e]; exact hA)
      rw [e] at this
      exact g_loc rfl this
theorem kX0_enterAll {r n day : Nat} (hr : rl r n) (hro : r ≠ 67 ∧ r ≠ 68 ∧ r + 1 ≠ 67 ∧ r + 1 ≠ 68) (hw : wR Y r n) (hd : day < 84) {l : List Nat} (hG : lG Y l) (hl : l.length + Y r 1 ≤ 20) {A : Nat → Nat} (hA : lAt l 0 A) : Cn mX0_enterAll 3 0 0 none [.ref 67, .ref r, .int (nI day)] (cM M0 (plY Y A l.length)) (zv (fun M' => ∃ A', M' = cM M0 (plY Y A' (enL Y r day l (Y r 1)).length) ∧ lAt (enL Y r day l (Y r 1)) 0 A')) := by
  refine g_iconst (v := nI 0) dX0_enterAll_0 (by decide) ?_
  refine g_istore_n dX0_enterAll_1 (by decide) ?_
  exact g_loc rfl (en1 hr hro hw hd hG hl _ (fun A' h => ⟨rfl, rfl, A', rfl, h⟩) (Y r 1) 0 A (by omega) hA)
theorem kX0_open {b day : Nat} (hb : sb b) (hbo : b + 27 ≤ 67 ∨ 68 < b) (hw : wS Y b) (hd : day < 84) : Cn mX0_open 4 0 0 none [.ref 67, .ref b, .int (nI day)] (cM M0 Y) (zv (fun M' => ∃ A', M' = cM M0 (plY Y A' (opL Y b day).length) ∧ lAt (opL Y b day) 0 A')) := by
  refine g_aload_n dX0_open_0 rfl ?_
  refine g_iconst (v := nI 0) dX0_open_1 (by decide) ?_
  refine g_cpP fX0_21 dX0_open_2 rfl (by decide) ?_
  refine g_m (M' := cM M0 (plY Y (Y 68) ([] : List Nat).length)) (by
    congr 1
    funext a
    by_cases h : a = 67
    · subst h; rw [uA_s, plY, uA_s]; rfl
    · rw [uA_n _ _ h]
      by_cases h2 : a = 68
      · subst h2; rw [plY_l]
      · rw [plY_o _ _ _ h h2]) ?_
  have s1 := hw.1.2.1
  have s2 := hw.2.2.1
  refine g_aload_n dX0_open_5 rfl ?_
  refine g_aload_n dX0_open_6 rfl ?_
  refine g_get fX0_25 dX0_open_7 (cM_S hb.1) rfl ?_
  refine g_iload_n dX0_open_10 rfl ?_
  refine g_callV_v (kX0_enterAll hb.2.1 (by omega) hw.1 hd (l := []) (fun a h => by cases h) (by simp only [List.length_nil]; omega) lAt_nil) oX0_enterAll pX0_enterAll lX0_31 dX0_open_11 rfl (cM_P rfl) rfl rfl rfl (Nat.le_of_ble_eq_true rfl) (Nat.le_of_ble_eq_true rfl) (by decide) (fun M' h' => ?_)
  obtain ⟨A1, rfl, hA1⟩ := h'
  have hlen := enL_len Y (b + 1) day [] (Y (b + 1) 1)
  simp only [List.length_nil] at hlen
  refine g_aload_n dX0_open_14 rfl ?_
  refine g_aload_n dX0_open_15 rfl ?_
  refine g_get fX0_35 dX0_open_16 (cM_S hb.1) rfl ?_
  refine g_iload_n dX0_open_19 rfl ?_
  refine g_callV_v (kX0_enterAll hb.2.2.1 (by omega) hw.2 hd (l := enL Y (b + 1) day [] (Y (b + 1) 1)) (lG_en hb.2.1 hw.1 (fun a h => by cases h) _ (Nat.le_refl _)) (by omega) hA1) oX0_enterAll pX0_enterAll lX0_31 dX0_open_20 rfl (cM_P rfl) rfl rfl rfl (Nat.le_of_ble_eq_true rfl) (Nat.le_of_ble_eq_true rfl) (by decide) (fun M' h' => ?_)
  exact g_return dX0_open_23 rfl ⟨rfl, rfl, h'⟩
end PLAN
