/-! the law's row of keys: put, isCleaned; goes -/
def insK (key : Nat) : List Nat → List Nat
  | [] => [key]
  | b :: r => if key < b then b :: insK key r else key :: b :: r
def putK (key : Nat) (l : List Nat) : List Nat := (insK key l.reverse).reverse
theorem insK_len (key : Nat) : ∀ r, (insK key r).length = r.length + 1
  | [] => rfl
  | b :: r => by
    unfold insK
    split
    · simp [insK_len key r]
    · rfl
theorem putK_len (key : Nat) (l : List Nat) : (putK key l).length = l.length + 1 := by simp [putK, insK_len]
theorem insK_mem {key a : Nat} : ∀ {r : List Nat}, a ∈ insK key r → a = key ∨ a ∈ r
  | [], h => by
    rcases List.mem_cons.mp h with h | h
    · exact Or.inl h
    · cases h
  | b :: r, h => by
    unfold insK at h
    split at h
    · rcases List.mem_cons.mp h with h | h
      · exact Or.inr (h ▸ List.mem_cons_self)
      · rcases insK_mem h with h | h
        · exact Or.inl h
        · exact Or.inr (List.mem_cons_of_mem _ h)
    · rcases List.mem_cons.mp h with h | h
      · exact Or.inl h
      · exact Or.inr h
theorem putK_mem {key a : Nat} {l : List Nat} (h : a ∈ putK key l) : a = key ∨ a ∈ l := by
  rcases insK_mem (List.mem_reverse.mp h) with h | h
  · exact Or.inl h
  · exact Or.inr (List.mem_reverse.mp h)
section LP
variable {M : zM} {n0 : Nat}
theorem put1 {t : Nat} (ht : 8 ≤ t) {key many : Nat} (hkey : key < 2 ^ 31) (F : zP) : ∀ (rv D : List Nat) (T : Nat → Nat) (k : Nat), k = rv.length → (∀ b ∈ rv, b < 2 ^ 31) → rv.length + D.length < 24 → lAt rv.reverse 0 T → lAt D (rv.length + 1) T → (∀ T', lAt ((insK key rv).reverse ++ D) 0 T' → F (zu M t (iA 24 T')) (some n0) (.inl (some (.int (nI (many + 1)))))) → G mL_put 0 0 0 (some n0) 19 [(0, .ref t), (1, .int (nI many)), (5, .int (nI key)), (6, .int (nI k))] [] (zu M t (iA 24 T)) F := by
  intro rv
  induction rv with
  | nil =>
    intro D T k hk hb hl h1 h2 hF
    have hk : k = 0 := hk
    subst hk
    refine g_iload dL_put_19 rfl ?_
    refine g_if_le_n (tgt := 51) dL_put_21 (by decide) (by omega) (fun h => ?_) (fun h => ?_)
    · refine g_aload_n dL_put_51 rfl ?_
      refine g_iload dL_put_52 rfl ?_
      refine g_iload dL_put_54 rfl ?_
      refine g_iast_n dL_put_56 (zu_s _ _ _) (by omega) (by decide) ht (g_m (zu_u _ _ _ _) ?_)
      refine g_iload_n dL_put_57 rfl ?_
      refine g_iconst (v := nI 1) dL_put_58 (by decide) ?_
      refine g_iadd_n dL_put_59 ?_
      refine g_ireturn dL_put_60 rfl rfl (hF _ ?_)
      exact lAt_cons (lAt_put h2 (by simp)) (uN_s _ _ _)
    · exact absurd h (by omega)
  | cons b r ih =>
    intro D T k hk hb hl h1 h2 hF
    have hk : k = r.length + 1 := hk
    have hl : r.length + 1 + D.length < 24 := hl
    have h2 : lAt D (r.length + 1 + 1) T := h2
    have hb0 := hb b List.mem_cons_self
    have hT : T r.length = b := by
      have := h1 r.length b (by simp)
      simpa using this
    have h1r : lAt r.reverse 0 T := by
      rw [List.reverse_cons] at h1
      exact lAt_left h1
    refine g_iload dL_put_19 rfl ?_
    refine g_if_le_n (tgt := 51) dL_put_21 (by decide) (by omega) (fun h => ?_) (fun h => ?_)
    · exact absurd h (by omega)
    · refine g_aload_n dL_put_24 rfl ?_
      refine g_iload dL_put_25 rfl ?_
      refine g_iconst (v := nI 1) dL_put_27 (by decide) ?_
      refine g_isub_n dL_put_28 (by omega) ?_
      refine g_iald_n dL_put_29 (zu_s _ _ _) (i := k - 1) (by omega) (by decide) ?_
      rw [show k - 1 = r.length by omega, hT]
      refine g_iload dL_put_30 rfl ?_
      refine g_icmp_le_n (tgt := 51) dL_put_32 (by decide) (by omega) (by omega) (fun h3 => ?_) (fun h3 => ?_)
      · refine g_aload_n dL_put_51 rfl ?_
        refine g_iload dL_put_52 rfl ?_
        refine g_iload dL_put_54 rfl ?_
        refine g_iast_n dL_put_56 (zu_s _ _ _) (by omega) (by decide) ht (g_m (zu_u _ _ _ _) ?_)
        refine g_iload_n dL_put_57 rfl ?_
        refine g_iconst (v := nI 1) dL_put_58 (by decide) ?_
        refine g_iadd_n dL_put_59 ?_
        refine g_ireturn dL_put_60 rfl rfl (hF _ ?_)
        have e : (insK key (b :: r)).reverse ++ D = (b :: r).reverse ++ (key :: D) := by
          unfold insK
          rw [if_neg (by omega)]
          simp
        rw [e]
        refine lAt_app (lAt_put h1 (Or.inr (by simp; omega))) ?_
        have el : 0 + (b :: r).reverse.length = k := by simp; omega
        rw [el]
        refine lAt_cons (lAt_put ?_ (Or.inl (by omega))) (uN_s _ _ _)
        rw [hk]
        exact h2
      · refine g_aload_n dL_put_35 rfl ?_
        refine g_iload dL_put_36 rfl ?_
        refine g_aload_n dL_put_38 rfl ?_
        refine g_iload dL_put_39 rfl ?_
        refine g_iconst (v := nI 1) dL_put_41 (by decide) ?_
        refine g_isub_n dL_put_42 (by omega) ?_
        refine g_iald_n dL_put_43 (zu_s _ _ _) (i := k - 1) (by omega) (by decide) ?_
        rw [show k - 1 = r.length by omega, hT]
        refine g_iast_n dL_put_44 (zu_s _ _ _) (by omega) (by decide) ht (g_m (zu_u _ _ _ _) ?_)
        subst hk
        refine g_iinc_m dL_put_45 rfl (by decide) ?_
        refine g_goto (tgt := 19) dL_put_48 (by decide) (g_loc (by rfl) (ih (b :: D) _ r.length rfl (fun x hx => hb x (List.mem_cons_of_mem _ hx)) (by simp; omega) (lAt_put h1r (Or.inr (by simp))) ?_ ?_))
        · exact lAt_cons (lAt_put h2 (Or.inl (by omega))) (uN_s _ _ _)
        · intro T' hT'
          refine hF T' ?_
          have e : (insK key (b :: r)).reverse ++ D = (insK key r).reverse ++ (b :: D) := by
            conv => lhs; unfold insK
            rw [if_pos (by omega)]
            simp
          rw [e]
          exact hT'
theorem kL_put {t : Nat} (ht : 8 ≤ t) {T : Nat → Nat} {l : List Nat} {h f tt many : Nat} (hM : M t = some (iA 24 T)) (hl : lAt l 0 T) (hm : many = l.length) (hl2 : l.length < 24) (hb : ∀ b ∈ l, b < 2 ^ 31) (hh : h < 10) (hf : f < 1000) (htt : tt < 100) : Cn mL_put 0 0 0 (some n0) [.ref t, .int (nI many), .int (nI h), .int (nI f), .int (nI tt)] M (zqI (nI (many + 1)) (fun M' => ∃ T', M' = zu M t (iA 24 T') ∧ lAt (putK (10000 * tt + 1000 * h + f) l) 0 T')) := by
  rw [← zu_id hM]
  refine g_sipush (v := nI 10000) dL_put_0 (by decide) ?_
  refine g_iload dL_put_3 rfl ?_
  refine g_imul_n dL_put_5 ?_
  refine g_sipush (v := nI 1000) dL_put_6 (by decide) ?_
  refine g_iload_n dL_put_9 rfl ?_
  refine g_imul_n dL_put_10 ?_
  refine g_iadd_n dL_put_11 ?_
  refine g_iload_n dL_put_12 rfl ?_
  refine g_iadd_n dL_put_13 ?_
  refine g_istore dL_put_14 (by decide) ?_
  refine g_iload_n dL_put_16 rfl ?_
  refine g_istore dL_put_17 (by decide) ?_
  refine g_loc (by rfl) (put1 ht (key := 10000 * tt + 1000 * h + f) (many := many) (by omega) _ l.reverse [] T many (by simp [hm]) (fun b hx => hb b (List.mem_reverse.mp hx)) (by simpa using hl2) (by rw [List.reverse_reverse]; exact hl) lAt_nil (fun T' hT' => ⟨rfl, T', ?_, ?_⟩))
  · rw [zu_u]
  · rw [List.append_nil] at hT'
    exact hT'
def icl (c : Nat) : Nat → List Nat → Bool
  | _, [] => true
  | h, k :: l => l.all (fun x => !decide (x / 1000 % 10 = k / 1000 % 10) || decide ((if h < k / 10000 then k / 10000 else h) + c ≤ x % 1000)) && icl c ((if h < k / 10000 then k / 10000 else h) + c) l
theorem ic2 {t : Nat} {T : Nat → Nat} {l : List Nat} {many c k h ha : Nat} (hM : M t = some (iA 24 T)) (hl : lAt l 0 T) (hm : many = l.length) (hl2 : l.length ≤ 24) (hb : ∀ b ∈ l, b < 300000) (hh : h < 1000) (hk : k < 24) (hha : ha < 10) (F : zP) : ∀ u i (b : Bool), i + u = many → G mL_isCleaned 0 0 0 (some n0) 116 [(0, .ref t), (1, .int (nI many)), (2, .int (nI c)), (3, .int (nI (b && (l.drop i).all (fun x => !decide (x / 1000 % 10 = ha) || decide (h ≤ x % 1000))).toNat)), (4, .int (nI h)), (5, .int (nI k))] [] M F → G mL_isCleaned 0 0 0 (some n0) 65 [(0, .ref t), (1, .int (nI many)), (2, .int (nI c)), (3, .int (nI b.toNat)), (4, .int (nI h)), (5, .int (nI k)), (7, .int (nI ha)), (8, .int (nI i))] [] M F := by
  intro u
  induction u with
  | zero =>
    intro i b hi hF
    refine g_iload dL_isCleaned_65 rfl ?_
    refine g_iload_n dL_isCleaned_67 rfl ?_
    refine g_icmp_ge_n (tgt := 116) dL_isCleaned_68 (by decide) (by omega) (by omega) (fun h1 => ?_) (fun h1 => ?_)
    · refine g_loc ?_ hF
      rw [List.drop_of_length_le (by omega)]
      simp only [List.all_nil, Bool.and_true]
      rfl
    · exact absurd h1 (by omega)
  | succ u ih =>
    intro i b hi hF
    have hil : i < l.length := by omega
    have hx := hl i l[i] (List.getElem?_eq_getElem hil)
    rw [Nat.zero_add] at hx
    have hbx := hb l[i] (List.getElem_mem hil)
    rw [List.drop_eq_getElem_cons hil, List.all_cons] at hF
    generalize hxe : l[i] = x at hx hbx hF
    have join : ∀ b2 : Bool, b2 = (b && (!decide (x / 1000 % 10 = ha) || decide (h ≤ x % 1000))) → G mL_isCleaned 0 0 0 (some n0) 109 [(0, .ref t), (1, .int (nI many)), (2, .int (nI c)), (3, .int (nI b.toNat)), (4, .int (nI h)), (5, .int (nI k)), (7, .int (nI ha)), (8, .int (nI i))] [.int (nI b2.toNat)] M F := fun b2 hb2 => by
      refine g_istore_n dL_isCleaned_109 (by decide) ?_
      refine g_iinc_n (c := 1) dL_isCleaned_110 rfl (by decide) (by decide) ?_
      refine g_goto (tgt := 65) dL_isCleaned_113 (by decide) (g_loc (by rfl) (ih (i + 1) b2 (by omega) ?_))
      rw [hb2, Bool.and_assoc]
      exact hF
    refine g_iload dL_isCleaned_65 rfl ?_
    refine g_iload_n dL_isCleaned_67 rfl ?_
    refine g_icmp_ge_n (tgt := 116) dL_isCleaned_68 (by decide) (by omega) (by omega) (fun h1 => ?_) (fun h1 => ?_)
    · exact absurd h1 (by omega)
    · refine g_iload_n dL_isCleaned_71 rfl ?_
      refine g_if_eq_b (tgt := 108) dL_isCleaned_72 (by decide) (fun h2 => ?_) (fun h2 => ?_)
      · refine g_iconst (v := nI 0) dL_isCleaned_108 (by decide) ?_
        exact join false (by rw [h2]; rfl)
      · refine g_aload_n dL_isCleaned_75 rfl ?_
        refine g_iload dL_isCleaned_76 rfl ?_
        refine g_iald_n dL_isCleaned_78 hM (i := i) (by omega) (by decide) ?_
        rw [hx]
        refine g_sipush (v := nI 1000) dL_isCleaned_79 (by decide) ?_
        refine g_idiv_n dL_isCleaned_82 (by omega) (by omega) (by omega) ?_
        refine g_bipush (v := nI 10) dL_isCleaned_83 (by decide) ?_
        refine g_irem_n dL_isCleaned_85 (by omega) (by omega) (by omega) ?_
        refine g_iload dL_isCleaned_86 rfl ?_
        refine g_icmp_ne_n (tgt := 104) dL_isCleaned_88 (by decide) (by omega) (by omega) (fun h3 => ?_) (fun h3 => ?_)
        · refine g_iconst (v := nI 1) dL_isCleaned_104 (by decide) ?_
          refine g_goto (tgt := 109) dL_isCleaned_105 (by decide) ?_
          refine join true ?_
          rw [h2]
          simp [h3]
        · refine g_aload_n dL_isCleaned_91 rfl ?_
          refine g_iload dL_isCleaned_92 rfl ?_
          refine g_iald_n dL_isCleaned_94 hM (i := i) (by omega) (by decide) ?_
          rw [hx]
          refine g_sipush (v := nI 1000) dL_isCleaned_95 (by decide) ?_
          refine g_irem_n dL_isCleaned_98 (by omega) (by omega) (by omega) ?_
          refine g_iload dL_isCleaned_99 rfl ?_
          refine g_icmp_lt_n (tgt := 108) dL_isCleaned_101 (by decide) (by omega) (by omega) (fun h4 => ?_) (fun h4 => ?_)
          · refine g_iconst (v := nI 0) dL_isCleaned_108 (by decide) ?_
            refine join false ?_
            rw [h2]
            simp [h3, show ¬ h ≤ x % 1000 by omega]
          · refine g_iconst (v := nI 1) dL_isCleaned_104 (by decide) ?_
            refine g_goto (tgt := 109) dL_isCleaned_105 (by decide) ?_
            refine join true ?_
            rw [h2]
            simp [h3, h4]
theorem ic1 {t : Nat} {T : Nat → Nat} {l : List Nat} {many c : Nat} (hM : M t = some (iA 24 T)) (hl : lAt l 0 T) (hm : many = l.length) (hl2 : l.length ≤ 24) (hb : ∀ b ∈ l, b < 300000) (hc : c ≤ 4) : ∀ u k h (b : Bool), k + u = many → h ≤ 30 + 5 * k → G mL_isCleaned 0 0 0 (some n0) 8 [(0, .ref t), (1, .int (nI many)), (2, .int (nI c)), (3, .int (nI b.toNat)), (4, .int (nI h)), (5, .int (nI k))] [] M (zqI (nI (b && icl c h (l.drop k)).toNat) (fun M' => M' = M)) := by
  intro u
  induction u with
  | zero =>
    intro k h b hk hh
    refine g_iload dL_isCleaned_8 rfl ?_
    refine g_iload_n dL_isCleaned_10 rfl ?_
    refine g_icmp_ge_n (tgt := 122) dL_isCleaned_11 (by decide) (by omega) (by omega) (fun h1 => ?_) (fun h1 => ?_)
    · refine g_iload_n dL_isCleaned_122 rfl ?_
      refine g_ireturn_b (b := b) dL_isCleaned_123 rfl ⟨?_, rfl⟩
      rw [List.drop_of_length_le (by omega)]
      simp [icl]
    · exact absurd h1 (by omega)
  | succ u ih =>
    intro k h b hk hh
    have hkl : k < l.length := by omega
    have hx := hl k l[k] (List.getElem?_eq_getElem hkl)
    rw [Nat.zero_add] at hx
    have hbx := hb l[k] (List.getElem_mem hkl)
    rw [List.drop_eq_getElem_cons hkl]
    generalize hxe : l[k] = x at hx hbx
    have join : ∀ h2, h2 = (if h < x / 10000 then x / 10000 else h) → h2 ≤ 30 + 5 * k → G mL_isCleaned 0 0 0 (some n0) 38 [(0, .ref t), (1, .int (nI many)), (2, .int (nI c)), (3, .int (nI b.toNat)), (4, .int (nI h)), (5, .int (nI k)), (6, .int (nI (x / 10000)))] [.int (nI h2)] M (zqI (nI (b && icl c h (x :: l.drop (k + 1))).toNat) (fun M' => M' = M)) := fun h2 e2 hb2 => by
      refine g_istore dL_isCleaned_38 (by decide) ?_
      refine g_iload dL_isCleaned_40 rfl ?_
      refine g_iload_n dL_isCleaned_42 rfl ?_
      refine g_iadd_n dL_isCleaned_43 ?_
      refine g_istore dL_isCleaned_44 (by decide) ?_
      refine g_aload_n dL_isCleaned_46 rfl ?_
      refine g_iload dL_isCleaned_47 rfl ?_
      refine g_iald_n dL_isCleaned_49 hM (i := k) (by omega) (by decide) ?_
      rw [hx]
      refine g_sipush (v := nI 1000) dL_isCleaned_50 (by decide) ?_
      refine g_idiv_n dL_isCleaned_53 (by omega) (by omega) (by omega) ?_
      refine g_bipush (v := nI 10) dL_isCleaned_54 (by decide) ?_
      refine g_irem_n dL_isCleaned_56 (by omega) (by omega) (by omega) ?_
      refine g_istore dL_isCleaned_57 (by decide) ?_
      refine g_iload dL_isCleaned_59 rfl ?_
      refine g_iconst (v := nI 1) dL_isCleaned_61 (by decide) ?_
      refine g_iadd_n dL_isCleaned_62 ?_
      refine g_istore dL_isCleaned_63 (by decide) ?_
      refine g_loc (by rfl) (ic2 hM hl hm hl2 hb (h := h2 + c) (k := k) (ha := x / 1000 % 10) (by omega) (by omega) (by omega) _ u (k + 1) b (by omega) ?_)
      refine g_iinc_n (c := 1) dL_isCleaned_116 rfl (by decide) (by decide) ?_
      refine g_goto (tgt := 8) dL_isCleaned_119 (by decide) ?_
      refine g_loc (by rfl) ((ih (k + 1) (h2 + c) (b && (l.drop (k + 1)).all (fun y => !decide (y / 1000 % 10 = x / 1000 % 10) || decide (h2 + c ≤ y % 1000))) (by omega) (by omega)).to (fun M' nx o hq => ?_))
      have e : (b && icl c h (x :: l.drop (k + 1))) = (b && (l.drop (k + 1)).all (fun y => !decide (y / 1000 % 10 = x / 1000 % 10) || decide (h2 + c ≤ y % 1000)) && icl c (h2 + c) (l.drop (k + 1))) := by
        rw [icl, ← e2, Bool.and_assoc]
      rw [e]
      exact hq
    refine g_iload dL_isCleaned_8 rfl ?_
    refine g_iload_n dL_isCleaned_10 rfl ?_
    refine g_icmp_ge_n (tgt := 122) dL_isCleaned_11 (by decide) (by omega) (by omega) (fun h1 => ?_) (fun h1 => ?_)
    · exact absurd h1 (by omega)
    · refine g_aload_n dL_isCleaned_14 rfl ?_
      refine g_iload dL_isCleaned_15 rfl ?_
      refine g_iald_n dL_isCleaned_17 hM (i := k) (by omega) (by decide) ?_
      rw [hx]
      refine g_sipush (v := nI 10000) dL_isCleaned_18 (by decide) ?_
      refine g_idiv_n dL_isCleaned_21 (by omega) (by omega) (by omega) ?_
      refine g_istore dL_isCleaned_22 (by decide) ?_
      refine g_iload dL_isCleaned_24 rfl ?_
      refine g_iload dL_isCleaned_26 rfl ?_
      refine g_icmp_le_n (tgt := 36) dL_isCleaned_28 (by decide) (by omega) (by omega) (fun h2 => ?_) (fun h2 => ?_)
      · refine g_iload dL_isCleaned_36 rfl ?_
        exact g_loc (by rfl) (join h (by rw [if_neg (by omega)]) hh)
      · refine g_iload dL_isCleaned_31 rfl ?_
        refine g_goto (tgt := 38) dL_isCleaned_33 (by decide) ?_
        exact g_loc (by rfl) (join (x / 10000) (by rw [if_pos (by omega)]) (by omega))
theorem kL_isCleaned {t : Nat} {T : Nat → Nat} {l : List Nat} {many c : Nat} (hM : M t = some (iA 24 T)) (hl : lAt l 0 T) (hm : many = l.length) (hl2 : l.length ≤ 24) (hb : ∀ b ∈ l, b < 300000) (hc : c ≤ 4) : Cn mL_isCleaned 0 0 0 (some n0) [.ref t, .int (nI many), .int (nI c)] M (zqI (nI (icl c 0 l).toNat) (fun M' => M' = M)) := by
  refine g_iconst (v := nI 1) dL_isCleaned_0 (by decide) ?_
  refine g_istore_n dL_isCleaned_1 (by decide) ?_
  refine g_iconst (v := nI 0) dL_isCleaned_2 (by decide) ?_
  refine g_istore dL_isCleaned_3 (by decide) ?_
  refine g_iconst (v := nI 0) dL_isCleaned_5 (by decide) ?_
  refine g_istore dL_isCleaned_6 (by decide) ?_
  have h := ic1 (n0 := n0) hM hl hm hl2 hb hc many 0 0 true (by omega) (by omega)
  rw [List.drop_zero, Bool.true_and] at h
  exact g_loc (by rfl) h
/-- a single let goes -/
def gosD (D : Nat → Nat) (i k : Nat) : Nat → Nat := fun j => if 7 * i ≤ j ∧ j < k then D (j + 7) else D j
theorem gos1 {M0 : zM} {N R D : Nat → Nat} {Y : Nat → Nat → Nat} {i : Nat} (hN : N 12 ≤ 7) (hi : i ≤ N 12) : ∀ u k, k + u = 7 * N 12 → 7 * i ≤ k → G mL_goes 0 0 0 (some n0) 13 [(0, .ref 233), (1, .ref 235), (2, .int (nI i)), (3, .int (nI k))] [] (cM (lM M0 N R (gosD D i k)) Y) (zqV (fun M' => M' = cM (lM M0 N R (gosD D i (7 * N 12))) Y)) := by
  intro u
  induction u with
  | zero =>
    intro k hk hik
    refine g_iload_n dL_goes_13 rfl ?_
    refine g_bipush (v := nI 7) dL_goes_14 (by decide) ?_
    refine g_aload_n dL_goes_16 rfl ?_
    refine g_bipush (v := nI 12) dL_goes_17 (by decide) ?_
    refine g_lN dL_goes_19 (by omega) ?_
    refine g_imul_n dL_goes_20 ?_
    refine g_icmp_ge_n (tgt := 39) dL_goes_21 (by decide) (by omega) (by omega) (fun h => ?_) (fun h => ?_)
    · refine g_return dL_goes_39 rfl ⟨rfl, ?_⟩
      rw [show k = 7 * N 12 by omega]
    · exact absurd h (by omega)
  | succ u ih =>
    intro k hk hik
    refine g_iload_n dL_goes_13 rfl ?_
    refine g_bipush (v := nI 7) dL_goes_14 (by decide) ?_
    refine g_aload_n dL_goes_16 rfl ?_
    refine g_bipush (v := nI 12) dL_goes_17 (by decide) ?_
    refine g_lN dL_goes_19 (by omega) ?_
    refine g_imul_n dL_goes_20 ?_
    refine g_icmp_ge_n (tgt := 39) dL_goes_21 (by decide) (by omega) (by omega) (fun h => ?_) (fun h => ?_)
    · exact absurd h (by omega)
    · refine g_aload_n dL_goes_24 rfl ?_
      refine g_iload_n dL_goes_25 rfl ?_
      refine g_aload_n dL_goes_26 rfl ?_
      refine g_iload_n dL_goes_27 rfl ?_
      refine g_bipush (v := nI 7) dL_goes_28 (by decide) ?_
      refine g_iadd_n dL_goes_30 ?_
      refine g_lD dL_goes_31 (by omega) ?_
      refine g_sD dL_goes_32 (by omega) ?_
      refine g_iinc_n (c := 1) dL_goes_33 rfl (by decide) (by decide) ?_
      refine g_goto (tgt := 13) dL_goes_36 (by decide) (g_loc (by rfl) (g_m ?_ (ih (k + 1) (by omega) (by omega))))
      congr 2
      funext j
      by_cases hj : j = k
      · subst hj
        rw [uN_s]
        unfold gosD
        rw [if_neg (show ¬ (7 * i ≤ j + 7 ∧ j + 7 < j) by omega), if_pos (show 7 * i ≤ j ∧ j < j + 1 by omega)]
      · rw [uN_n _ _ hj]
        unfold gosD
        by_cases hj2 : 7 * i ≤ j ∧ j < k
        · rw [if_pos hj2, if_pos (by omega)]
        · rw [if_neg hj2, if_neg (by omega)]
theorem kL_goes {M0 : zM} {N R D : Nat → Nat} {Y : Nat → Nat → Nat} {i : Nat} (hN : N 12 ≤ 8) (hi : i < N 12) : Cn mL_goes 0 0 0 (some n0) [.ref 233, .ref 235, .int (nI i)] (cM (lM M0 N R D) Y) (zqV (fun M' => M' = cM (lM M0 (uN N 12 (N 12 - 1)) R (gosD D i (7 * (N 12 - 1)))) Y)) := by
  have h0 : D = gosD D i (7 * i) := by
    funext j
    unfold gosD
    rw [if_neg (by omega)]
  have e : uN N 12 (N 12 - 1) 12 = N 12 - 1 := uN_s _ _ _
  refine g_aload_n dL_goes_0 rfl ?_
  refine g_bipush (v := nI 12) dL_goes_1 (by decide) ?_
  refine g_dup2 dL_goes_3 rfl rfl ?_
  refine g_lN dL_goes_4 (by omega) ?_
  refine g_iconst (v := nI 1) dL_goes_5 (by decide) ?_
  refine g_isub_n dL_goes_6 (by omega) ?_
  refine g_sN dL_goes_7 (by omega) ?_
  refine g_bipush (v := nI 7) dL_goes_8 (by decide) ?_
  refine g_iload_n dL_goes_10 rfl ?_
  refine g_imul_n dL_goes_11 ?_
  refine g_istore_n dL_goes_12 (by decide) ?_
  refine g_m (M' := cM (lM M0 (uN N 12 (N 12 - 1)) R (gosD D i (7 * i))) Y) (by rw [← h0]) ?_
  have h := gos1 (n0 := n0) (M0 := M0) (N := uN N 12 (N 12 - 1)) (R := R) (D := D) (Y := Y) (i := i) (by omega) (by omega) (7 * (N 12 - 1) - 7 * i) (7 * i) (by omega) (Nat.le_refl _)
  rw [e] at h
  exact g_loc (by rfl) h
end LP
