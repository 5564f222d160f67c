/-! the law's givesWay -/
def rw (R : Nat → Nat) (i : Nat) : Nat → Nat := fun j => R (11 * i + j)
def dw (D : Nat → Nat) (i : Nat) : Nat → Nat := fun j => D (7 * i + j)
def lgR (N R : Nat → Nat) (h day f t i : Nat) : Bool := decide (R (11 * i) = h) && (stB R i day && clB f t (R (11 * i + 2)) (R (11 * i + 3)) (N 0))
def lgD (N D : Nat → Nat) (h day f t i : Nat) : Bool := decide (D (7 * i) = h) && (decide (D (7 * i + 1) = day) && clB f t (D (7 * i + 2)) (D (7 * i + 3)) (N 0))
def gwRf (R : Nat → Nat) (g : Nat → Bool) (p k : Nat) : Nat → Nat := fun j => if j % 11 = 9 ∧ j / 11 < k ∧ g (j / 11) = true then R j - p else R j
def nN (N : Nat → Nat) (a b c : Nat) : Nat → Nat := fun j => if j = 9 then a else if j = 10 then b else if j = 12 then c else N j
theorem nN_0 (N : Nat → Nat) : nN N (N 9) (N 10) (N 12) = N := by
  funext j
  unfold nN
  by_cases h : j = 9
  · rw [if_pos h, h]
  · rw [if_neg h]
    by_cases h2 : j = 10
    · rw [if_pos h2, h2]
    · rw [if_neg h2]
      by_cases h3 : j = 12
      · rw [if_pos h3, h3]
      · rw [if_neg h3]
theorem nN_9 (N : Nat → Nat) (a b c v : Nat) : uN (nN N a b c) 9 v = nN N v b c := by
  funext j
  unfold uN nN
  by_cases h : j = 9
  · simp [h]
  · simp [h]
theorem nN_10 (N : Nat → Nat) (a b c v : Nat) : uN (nN N a b c) 10 v = nN N a v c := by
  funext j
  unfold uN nN
  by_cases h : j = 10
  · simp [h]
  · simp [h]
theorem nN_12 (N : Nat → Nat) (a b c v : Nat) : uN (nN N a b c) 12 v = nN N a b v := by
  funext j
  unfold uN nN
  by_cases h : j = 12
  · simp [h]
  · simp [h]
theorem nN_o (N : Nat → Nat) (a b c : Nat) {j : Nat} (h : j ≠ 9) (h2 : j ≠ 10) (h3 : j ≠ 12) : nN N a b c j = N j := by
  unfold nN
  rw [if_neg h, if_neg h2, if_neg h3]
theorem gwRf_0 (R : Nat → Nat) (g : Nat → Bool) (p : Nat) : gwRf R g p 0 = R := by
  funext j
  unfold gwRf
  rw [if_neg (by omega)]
theorem gwRf_row (R : Nat → Nat) (g : Nat → Bool) (p : Nat) {i j : Nat} (hj : j < 11) : gwRf R g p i (11 * i + j) = R (11 * i + j) := by
  unfold gwRf
  rw [if_neg (by omega)]
theorem gwRf_f (R : Nat → Nat) (g : Nat → Bool) (p : Nat) {i : Nat} (h : g i = false) : gwRf R g p (i + 1) = gwRf R g p i := by
  funext j
  unfold gwRf
  by_cases hj : j / 11 = i
  · rw [if_neg (by rintro ⟨-, -, e⟩; rw [hj, h] at e; cases e), if_neg (by omega)]
  · by_cases hh : j % 11 = 9 ∧ j / 11 < i ∧ g (j / 11) = true
    · rw [if_pos hh, if_pos ⟨hh.1, by omega, hh.2.2⟩]
    · rw [if_neg hh, if_neg (fun q => hh ⟨q.1, by omega, q.2.2⟩)]
theorem gwRf_t (R : Nat → Nat) (g : Nat → Bool) (p : Nat) {i : Nat} (h : g i = true) : uN (gwRf R g p i) (11 * i + 9) (R (11 * i + 9) - p) = gwRf R g p (i + 1) := by
  funext j
  by_cases hj : j = 11 * i + 9
  · subst hj
    rw [uN_s]
    unfold gwRf
    have e : (11 * i + 9) / 11 = i := by omega
    rw [if_pos ⟨by omega, by omega, by rw [e]; exact h⟩]
  · rw [uN_n _ _ hj]
    unfold gwRf
    by_cases hh : j % 11 = 9 ∧ j / 11 < i ∧ g (j / 11) = true
    · rw [if_pos hh, if_pos ⟨hh.1, by omega, hh.2.2⟩]
    · rw [if_neg hh, if_neg (fun q => hh ⟨q.1, by omega, q.2.2⟩)]
theorem stB_c {R R' : Nat → Nat} {i day : Nat} (h : ∀ j, j < 11 → R' (11 * i + j) = R (11 * i + j)) : stB R' i day = stB R i day := by
  unfold stB
  rw [h 1 (by omega), h 9 (by omega)]
theorem stB_le {R : Nat → Nat} {i day : Nat} (h : stB R i day = true) : 2 ^ (day / 7) ≤ R (11 * i + 9) := by
  simp only [stB, Bool.and_eq_true, decide_eq_true_eq] at h
  refine Nat.not_lt.mp (fun hlt => ?_)
  have := Nat.div_eq_of_lt hlt
  rw [this] at h
  omega
/-- who stays, in their order -/
def kpL (g : Nat → Bool) : Nat → List Nat
  | 0 => []
  | q + 1 => bif g q then kpL g q else kpL g q ++ [q]
theorem kpL_len (g : Nat → Bool) : ∀ q, (kpL g q).length ≤ q
  | 0 => Nat.le_refl _
  | q + 1 => by
    have := kpL_len g q
    unfold kpL
    cases g q
    · simp; omega
    · simp; omega
theorem kpL_dI (g : Nat → Bool) (n : Nat) : ∀ u, u ≤ n → kpL g (n - u) ++ dI g n u = dI g n n
  | 0, _ => by
    rw [dI_0, List.append_nil, Nat.sub_zero]
    have key : ∀ q, q ≤ n → kpL g q ++ dI g n (n - q) = dI g n n := by
      intro q
      induction q with
      | zero => intro _; simp [kpL]
      | succ q ih =>
        intro hq
        rw [← ih (by omega), show n - q = (n - (q + 1)) + 1 by omega, dI_s, show n - (n - (q + 1) + 1) = q by omega, kpL]
        cases g q <;> simp
    have := key n (Nat.le_refl _)
    rw [Nat.sub_self, dI_0, List.append_nil] at this
    exact this
  | u + 1, hu => by
    rw [← kpL_dI g n u (by omega), dI_s, show n - u = (n - (u + 1)) + 1 by omega, kpL]
    cases g (n - (u + 1)) <;> simp
theorem kpL_all (g : Nat → Bool) (n : Nat) : kpL g n = dI g n n := by
  have := kpL_dI g n 0 (Nat.zero_le _)
  rw [dI_0, List.append_nil, Nat.sub_zero] at this
  exact this
def P2 (D D' : Nat → Nat) (L : List Nat) (q n : Nat) : Prop := (∀ m i, L[m]? = some i → ∀ j, j < 7 → D' (7 * m + j) = D (7 * i + j)) ∧ ∀ s, s + q < n → ∀ j, j < 7 → D' (7 * (L.length + s) + j) = D (7 * (q + s) + j)
theorem P2_f {D D' : Nat → Nat} {L : List Nat} {q n : Nat} (h : P2 D D' L q n) (hq : q < n) : P2 D D' (L ++ [q]) (q + 1) n := by
  refine ⟨fun m i hm j hj => ?_, fun s hs j hj => ?_⟩
  · by_cases hl : m < L.length
    · rw [List.getElem?_append_left hl] at hm
      exact h.1 m i hm j hj
    · rw [List.getElem?_append_right (by omega)] at hm
      have hm0 : m - L.length = 0 := by
        have := (List.getElem?_eq_some_iff.mp hm).1
        simp at this
        exact this
      rw [hm0] at hm
      have hi : i = q := by simpa using hm.symm
      rw [hi, show m = L.length + 0 by omega]
      have := h.2 0 (by omega) j hj
      rw [Nat.add_zero] at this
      exact this
  · have := h.2 (s + 1) (by omega) j hj
    rw [List.length_append, List.length_singleton, show L.length + 1 + s = L.length + (s + 1) by omega, this, show q + (s + 1) = q + 1 + s by omega]
theorem P2_t {D D' : Nat → Nat} {L : List Nat} {q n : Nat} (h : P2 D D' L q n) (hq : q < n) : P2 D (gosD D' L.length (7 * (L.length + (n - q) - 1))) L (q + 1) n := by
  refine ⟨fun m i hm j hj => ?_, fun s hs j hj => ?_⟩
  · have hl := (List.getElem?_eq_some_iff.mp hm).1
    unfold gosD
    rw [if_neg (by omega)]
    exact h.1 m i hm j hj
  · have := h.2 (s + 1) (by omega) j hj
    unfold gosD
    rw [if_pos (by omega), show 7 * (L.length + s) + j + 7 = 7 * (L.length + (s + 1)) + j by omega, this, show q + (s + 1) = q + 1 + s by omega]
def lB (N R D : Nat → Nat) : Prop := N 0 ≤ 4 ∧ N 11 ≤ 4 ∧ N 12 ≤ 8 ∧ (∀ j, j < 11 * N 11 → j % 11 ≠ 10 → R j < 1048576) ∧ ∀ j, j < 7 * N 12 → D j < 1048576
theorem lB_R {N R D : Nat → Nat} (h : lB N R D) {i j : Nat} (hi : i < N 11) (hj : j < 10) : R (11 * i + j) < 1048576 := h.2.2.2.1 _ (by omega) (by omega)
theorem lB_D {N R D : Nat → Nat} (h : lB N R D) {i j : Nat} (hi : i < N 12) (hj : j < 7) : D (7 * i + j) < 1048576 := h.2.2.2.2 _ (by omega)
section LG
variable {M0 : zM} {N R D : Nat → Nat} {Y : Nat → Nat → Nat}
theorem gy1 (hB : lB N R D) {h day f t : Nat} (hh : h < 1048576) (hd : day < 84) (hf : f < 1048576) (ht : t < 1048576) (F : zP) (hF : ∀ n0, 236 ≤ n0 → G mL_givesWay 1 0 0 (some n0) 106 [(0, .ref 233), (1, .ref 234), (2, .ref 235), (3, .int (nI h)), (4, .int (nI day)), (5, .int (nI f)), (6, .int (nI t)), (7, .int (nI (gN (lgR N R h day f t) (N 11))))] [] (cM (lM M0 (nN N (N 9 + gR (lgR N R h day f t) (rw R) (N 11)) (N 10) (N 12)) (gwRf R (lgR N R h day f t) (2 ^ (day / 7)) (N 11)) D) Y) F) : ∀ u i n0, i + u = N 11 → 236 ≤ n0 → G mL_givesWay 1 0 0 (some n0) 6 [(0, .ref 233), (1, .ref 234), (2, .ref 235), (3, .int (nI h)), (4, .int (nI day)), (5, .int (nI f)), (6, .int (nI t)), (7, .int (nI (gN (lgR N R h day f t) i))), (8, .int (nI i))] [] (cM (lM M0 (nN N (N 9 + gR (lgR N R h day f t) (rw R) i) (N 10) (N 12)) (gwRf R (lgR N R h day f t) (2 ^ (day / 7)) i) D) Y) F := by
  have hB' := hB
  obtain ⟨b0, b11, b12, -, -⟩ := hB'
  intro u
  induction u with
  | zero =>
    intro i n0 hi hn0
    have e11 : nN N (N 9 + gR (lgR N R h day f t) (rw R) i) (N 10) (N 12) 11 = N 11 := nN_o _ _ _ _ (by omega) (by omega) (by omega)
    refine g_iload dL_givesWay_6 rfl ?_
    refine g_aload_n dL_givesWay_8 rfl ?_
    refine g_bipush (v := nI 11) dL_givesWay_9 (by decide) ?_
    refine g_lN dL_givesWay_11 (by omega) ?_
    rw [e11]
    refine g_icmp_ge_n (tgt := 106) dL_givesWay_12 (by decide) (by omega) (by omega) (fun h1 => ?_) (fun h1 => ?_)
    · have e : i = N 11 := by omega
      subst e
      exact g_loc (by rfl) (hF n0 hn0)
    · exact absurd h1 (by omega)
  | succ u ih =>
    intro i n0 hi hn0
    obtain ⟨N', hN'⟩ : ∃ N', N' = nN N (N 9 + gR (lgR N R h day f t) (rw R) i) (N 10) (N 12) := ⟨_, rfl⟩
    obtain ⟨R', hR'⟩ : ∃ R', R' = gwRf R (lgR N R h day f t) (2 ^ (day / 7)) i := ⟨_, rfl⟩
    have e11 : N' 11 = N 11 := by rw [hN']; exact nN_o _ _ _ _ (by omega) (by omega) (by omega)
    have e0 : N' 0 = N 0 := by rw [hN']; exact nN_o _ _ _ _ (by omega) (by omega) (by omega)
    have e9 : N' 9 = N 9 + gR (lgR N R h day f t) (rw R) i := by rw [hN']; rfl
    have er : ∀ j, j < 11 → R' (11 * i + j) = R (11 * i + j) := fun j hj => by rw [hR']; exact gwRf_row _ _ _ hj
    have er0 : R' (11 * i) = R (11 * i) := er 0 (by omega)
    have es := stB_c (day := day) er
    have r0 : R (11 * i) < 1048576 := lB_R hB (i := i) (j := 0) (by omega) (by omega)
    have r1 := lB_R hB (i := i) (j := 1) (by omega) (by omega)
    have r2 := lB_R hB (i := i) (j := 2) (by omega) (by omega)
    have r3 := lB_R hB (i := i) (j := 3) (by omega) (by omega)
    have r9 := lB_R hB (i := i) (j := 9) (by omega) (by omega)
    rw [← hN', ← hR']
    have jf : lgR N R h day f t i = false → ∀ n1, 236 ≤ n1 → G mL_givesWay 1 0 0 (some n1) 100 [(0, .ref 233), (1, .ref 234), (2, .ref 235), (3, .int (nI h)), (4, .int (nI day)), (5, .int (nI f)), (6, .int (nI t)), (7, .int (nI (gN (lgR N R h day f t) i))), (8, .int (nI i))] [] (cM (lM M0 N' R' D) Y) F := fun hg n1 hn1 => by
      refine g_iinc_n (c := 1) dL_givesWay_100 rfl (by decide) (by decide) ?_
      refine g_goto (tgt := 6) dL_givesWay_103 (by decide) (g_m ?_ (g_loc ?_ (ih (i + 1) n1 (by omega) hn1)))
      · rw [hN', hR', gwRf_f _ _ _ hg, gR, hg, cond_false]
      · rw [gN, hg, cond_false]
        rfl
    refine g_iload dL_givesWay_6 rfl ?_
    refine g_aload_n dL_givesWay_8 rfl ?_
    refine g_bipush (v := nI 11) dL_givesWay_9 (by decide) ?_
    refine g_lN dL_givesWay_11 (by omega) ?_
    rw [e11]
    refine g_icmp_ge_n (tgt := 106) dL_givesWay_12 (by decide) (by omega) (by omega) (fun h1 => ?_) (fun h1 => ?_)
    · exact absurd h1 (by omega)
    · refine g_bipush (v := nI 11) dL_givesWay_15 (by decide) ?_
      refine g_iload dL_givesWay_17 rfl ?_
      refine g_imul_n dL_givesWay_19 ?_
      refine g_istore dL_givesWay_20 (by decide) ?_
      refine g_aload_n dL_givesWay_22 rfl ?_
      refine g_iload dL_givesWay_23 rfl ?_
      refine g_lR dL_givesWay_25 (by omega) ?_
      rw [er0]
      refine g_iload_n dL_givesWay_26 rfl ?_
      refine g_icmp_ne_n (tgt := 100) dL_givesWay_27 (by decide) (by omega) (by omega) (fun h2 => ?_) (fun h2 => ?_)
      · exact g_loc (by rfl) (jf (by simp [lgR, h2]) n0 hn0)
      · refine g_aload_n dL_givesWay_30 rfl ?_
        refine g_iload dL_givesWay_31 rfl ?_
        refine g_iload dL_givesWay_33 rfl ?_
        refine g_callSn_i (kL_stands (i := i) (day := day) (by omega) hd (by rw [er 1 (by omega)]; exact r1) (by rw [er 9 (by omega)]; exact r9)) oL_stands pL_stands lL_15 dL_givesWay_35 rfl rfl (Nat.le_of_ble_eq_true rfl) (Nat.le_of_ble_eq_true rfl) (by first | decide | omega) (Nat.le_refl _) (Nat.le_refl _) (fun _ e => nf_e e) (fun M1 n1 hn1 e => ?_)
        subst e
        rw [es]
        refine g_if_eq_b (tgt := 100) dL_givesWay_38 (by decide) (fun h3 => ?_) (fun h3 => ?_)
        · exact g_loc (by rfl) (jf (by simp [lgR, h3]) n1 (by omega))
        · refine g_iload dL_givesWay_41 rfl ?_
          refine g_iload dL_givesWay_43 rfl ?_
          refine g_aload_n dL_givesWay_45 rfl ?_
          refine g_iload dL_givesWay_46 rfl ?_
          refine g_iconst (v := nI 2) dL_givesWay_48 (by decide) ?_
          refine g_iadd_n dL_givesWay_49 ?_
          refine g_lR dL_givesWay_50 (by omega) ?_
          rw [er 2 (by omega)]
          refine g_aload_n dL_givesWay_51 rfl ?_
          refine g_iload dL_givesWay_52 rfl ?_
          refine g_iconst (v := nI 3) dL_givesWay_54 (by decide) ?_
          refine g_iadd_n dL_givesWay_55 ?_
          refine g_lR dL_givesWay_56 (by omega) ?_
          rw [er 3 (by omega)]
          refine g_aload_n dL_givesWay_57 rfl ?_
          refine g_iconst (v := nI 0) dL_givesWay_58 (by decide) ?_
          refine g_lN dL_givesWay_59 (by omega) ?_
          rw [e0]
          refine g_callSn_i (kL_clash hf ht r2 r3 (by omega)) oL_clash pL_clash lL_19 dL_givesWay_60 rfl rfl (Nat.le_of_ble_eq_true rfl) (Nat.le_of_ble_eq_true rfl) (by first | decide | omega) (Nat.le_refl _) (Nat.le_refl _) (fun _ e => nf_e e) (fun M1 n2 hn2 e => ?_)
          subst e
          refine g_if_eq_b (tgt := 100) dL_givesWay_63 (by decide) (fun h4 => ?_) (fun h4 => ?_)
          · exact g_loc (by rfl) (jf (by simp [lgR, h4]) n2 (by omega))
          · have hg : lgR N R h day f t i = true := by simp [lgR, h2, h3, h4]
            have hle := stB_le h3
            refine g_aload_n dL_givesWay_66 rfl ?_
            refine g_iload dL_givesWay_67 rfl ?_
            refine g_bipush (v := nI 9) dL_givesWay_69 (by decide) ?_
            refine g_iadd_n dL_givesWay_71 ?_
            refine g_dup2 dL_givesWay_72 rfl rfl ?_
            refine g_lR dL_givesWay_73 (by omega) ?_
            rw [er 9 (by omega)]
            refine g_iconst (v := nI 1) dL_givesWay_74 (by decide) ?_
            refine g_iload dL_givesWay_75 rfl ?_
            refine g_bipush (v := nI 7) dL_givesWay_77 (by decide) ?_
            refine g_idiv_n dL_givesWay_79 (by omega) (by omega) (by omega) ?_
            refine g_ishl_n dL_givesWay_80 (by omega) ?_
            refine g_isub_n dL_givesWay_81 hle ?_
            refine g_sR dL_givesWay_82 (by omega) ?_
            refine g_aload_n dL_givesWay_83 rfl ?_
            refine g_bipush (v := nI 9) dL_givesWay_84 (by decide) ?_
            refine g_dup2 dL_givesWay_86 rfl rfl ?_
            refine g_lN dL_givesWay_87 (by omega) ?_
            rw [e9]
            refine g_aload_n dL_givesWay_88 rfl ?_
            refine g_iload dL_givesWay_89 rfl ?_
            refine g_bipush (v := nI 6) dL_givesWay_91 (by decide) ?_
            refine g_iadd_n dL_givesWay_93 ?_
            refine g_lR dL_givesWay_94 (by omega) ?_
            rw [uN_n _ _ (show 11 * i + 6 ≠ 11 * i + 9 by omega), er 6 (by omega)]
            refine g_iadd_n dL_givesWay_95 ?_
            refine g_sN dL_givesWay_96 (by omega) ?_
            refine g_iinc_n (c := 1) dL_givesWay_97 rfl (by decide) (by decide) ?_
            refine g_iinc_n (c := 1) dL_givesWay_100 rfl (by decide) (by decide) ?_
            refine g_goto (tgt := 6) dL_givesWay_103 (by decide) (g_m ?_ (g_loc ?_ (ih (i + 1) n2 (by omega) (by omega))))
            · rw [hN', hR', gwRf_t _ _ _ hg, nN_9, gR, hg, cond_true, Nat.add_assoc]
              rfl
            · rw [gN, hg, cond_true]
              rfl
theorem gy2 (hB : lB N R D) {R1 : Nat → Nat} {a9 g0 h day f t : Nat} (hh : h < 1048576) (hd : day < 84) (hf : f < 1048576) (ht : t < 1048576) (F : zP) (hF : ∀ n0 D', 236 ≤ n0 → P2 D D' (kpL (lgD N D h day f t) (N 12)) (N 12) (N 12) → F (cM (lM M0 (nN N (a9 + gR (lgD N D h day f t) (dw D) (N 12)) (N 10 + (g0 + gN (lgD N D h day f t) (N 12))) (kpL (lgD N D h day f t) (N 12)).length) R1 D') Y) (some n0) (.inl (some (.int (nI (g0 + gN (lgD N D h day f t) (N 12))))))) : ∀ u q n0 D' (i : Nat), q + u = N 12 → 236 ≤ n0 → i = (kpL (lgD N D h day f t) q).length → P2 D D' (kpL (lgD N D h day f t) q) q (N 12) → G mL_givesWay 1 0 0 (some n0) 109 [(0, .ref 233), (1, .ref 234), (2, .ref 235), (3, .int (nI h)), (4, .int (nI day)), (5, .int (nI f)), (6, .int (nI t)), (7, .int (nI (g0 + gN (lgD N D h day f t) q))), (8, .int (nI i))] [] (cM (lM M0 (nN N (a9 + gR (lgD N D h day f t) (dw D) q) (N 10) (i + (N 12 - q))) R1 D') Y) F := by
  have hB' := hB
  obtain ⟨b0, b11, b12, -, -⟩ := hB'
  intro u
  induction u with
  | zero =>
    intro q n0 D' i hq hn0 hil hP
    have e12 : nN N (a9 + gR (lgD N D h day f t) (dw D) q) (N 10) (i + (N 12 - q)) 12 = i + (N 12 - q) := rfl
    have e10 : nN N (a9 + gR (lgD N D h day f t) (dw D) q) (N 10) (i + (N 12 - q)) 10 = N 10 := rfl
    have hql := kpL_len (lgD N D h day f t) q
    refine g_iload dL_givesWay_109 rfl ?_
    refine g_aload_n dL_givesWay_111 rfl ?_
    refine g_bipush (v := nI 12) dL_givesWay_112 (by decide) ?_
    refine g_lN dL_givesWay_114 (by omega) ?_
    rw [e12]
    refine g_icmp_ge_n (tgt := 223) dL_givesWay_115 (by decide) (by omega) (by omega) (fun h1 => ?_) (fun h1 => ?_)
    · refine g_aload_n dL_givesWay_223 rfl ?_
      refine g_bipush (v := nI 10) dL_givesWay_224 (by decide) ?_
      refine g_dup2 dL_givesWay_226 rfl rfl ?_
      refine g_lN dL_givesWay_227 (by omega) ?_
      rw [e10]
      refine g_iload dL_givesWay_228 rfl ?_
      refine g_iadd_n dL_givesWay_230 ?_
      refine g_sN dL_givesWay_231 (by omega) ?_
      have e : q = N 12 := by omega
      subst e
      refine g_iload dL_givesWay_232 rfl ?_
      refine g_ireturn dL_givesWay_234 rfl rfl ?_
      rw [nN_10, Nat.sub_self, Nat.add_zero, hil]
      exact hF n0 D' hn0 hP
    · exact absurd h1 (by omega)
  | succ u ih =>
    intro q n0 D' i hq hn0 hil hP
    have hql := kpL_len (lgD N D h day f t) q
    obtain ⟨N', hN'⟩ : ∃ N', N' = nN N (a9 + gR (lgD N D h day f t) (dw D) q) (N 10) (i + (N 12 - q)) := ⟨_, rfl⟩
    have e12 : N' 12 = i + (N 12 - q) := by rw [hN']; rfl
    have e9 : N' 9 = a9 + gR (lgD N D h day f t) (dw D) q := by rw [hN']; rfl
    have e0 : N' 0 = N 0 := by rw [hN']; exact nN_o _ _ _ _ (by omega) (by omega) (by omega)
    have er : ∀ j, j < 7 → D' (7 * i + j) = D (7 * q + j) := fun j hj => by
      have := hP.2 0 (by omega) j hj
      rw [Nat.add_zero, Nat.add_zero, ← hil] at this
      exact this
    have er0 : D' (7 * i) = D (7 * q) := er 0 (by omega)
    have r0 : D (7 * q) < 1048576 := lB_D hB (i := q) (j := 0) (by omega) (by omega)
    have r1 := lB_D hB (i := q) (j := 1) (by omega) (by omega)
    have r2 := lB_D hB (i := q) (j := 2) (by omega) (by omega)
    have r3 := lB_D hB (i := q) (j := 3) (by omega) (by omega)
    rw [← hN']
    have jn : ∀ b : Bool, b = lgD N D h day f t q → ∀ n1, 236 ≤ n1 → G mL_givesWay 1 0 0 (some n1) 174 [(0, .ref 233), (1, .ref 234), (2, .ref 235), (3, .int (nI h)), (4, .int (nI day)), (5, .int (nI f)), (6, .int (nI t)), (7, .int (nI (g0 + gN (lgD N D h day f t) q))), (8, .int (nI i)), (9, .int (nI (7 * i)))] [.int (nI b.toNat)] (cM (lM M0 N' R1 D') Y) F := fun b hb n1 hn1 => by
      refine g_istore dL_givesWay_174 (by decide) ?_
      refine g_iload dL_givesWay_176 rfl ?_
      refine g_if_eq_b (tgt := 205) dL_givesWay_178 (by decide) (fun h5 => ?_) (fun h5 => ?_)
      · refine g_iload dL_givesWay_205 rfl ?_
        refine g_iload dL_givesWay_207 rfl ?_
        refine g_if_eq_b (tgt := 216) dL_givesWay_209 (by decide) (fun h6 => ?_) (fun h6 => ?_)
        · refine g_iconst (v := nI 1) dL_givesWay_216 (by decide) ?_
          refine g_iadd_n dL_givesWay_217 ?_
          refine g_istore dL_givesWay_218 (by decide) ?_
          refine g_goto (tgt := 109) dL_givesWay_220 (by decide) ?_
          have hg : lgD N D h day f t q = false := by rw [← hb]; exact h5
          have ek : kpL (lgD N D h day f t) (q + 1) = kpL (lgD N D h day f t) q ++ [q] := by rw [kpL, hg, cond_false]
          refine g_m ?_ (g_loc ?_ (ih (q + 1) n1 D' (i + 1) (by omega) hn1 (by rw [ek]; simp [hil]) (by rw [ek]; exact P2_f hP (by omega))))
          · rw [hN', gR, hg, cond_false, show i + 1 + (N 12 - (q + 1)) = i + (N 12 - q) by omega]
          · rw [gN, hg, cond_false]
            rfl
        · rw [h5] at h6; cases h6
      · refine g_aload_n dL_givesWay_181 rfl ?_
        refine g_bipush (v := nI 9) dL_givesWay_182 (by decide) ?_
        refine g_dup2 dL_givesWay_184 rfl rfl ?_
        refine g_lN dL_givesWay_185 (by omega) ?_
        rw [e9]
        refine g_aload_n dL_givesWay_186 rfl ?_
        refine g_iload dL_givesWay_187 rfl ?_
        refine g_bipush (v := nI 6) dL_givesWay_189 (by decide) ?_
        refine g_iadd_n dL_givesWay_191 ?_
        refine g_lD dL_givesWay_192 (by omega) ?_
        rw [er 6 (by omega)]
        refine g_iadd_n dL_givesWay_193 ?_
        refine g_sN dL_givesWay_194 (by omega) ?_
        refine g_iinc_n (c := 1) dL_givesWay_195 rfl (by decide) (by decide) ?_
        refine g_aload_n dL_givesWay_198 rfl ?_
        refine g_aload_n dL_givesWay_199 rfl ?_
        refine g_iload dL_givesWay_200 rfl ?_
        rw [hN', nN_9]
        refine g_callSn_v (kL_goes (i := i) (by show i + (N 12 - q) ≤ 8; omega) (by show i < i + (N 12 - q); omega)) oL_goes pL_goes lL_26 dL_givesWay_202 rfl rfl (Nat.le_of_ble_eq_true rfl) (Nat.le_of_ble_eq_true rfl) (by first | decide | omega) (Nat.le_refl _) (Nat.le_refl _) (fun _ e => e ▸ nf_l (by omega)) (fun M1 n2 hn2 e => ?_)
        subst e
        refine g_iload dL_givesWay_205 rfl ?_
        refine g_iload dL_givesWay_207 rfl ?_
        refine g_if_eq_b (tgt := 216) dL_givesWay_209 (by decide) (fun h6 => ?_) (fun h6 => ?_)
        · rw [h5] at h6; cases h6
        · refine g_iconst (v := nI 0) dL_givesWay_212 (by decide) ?_
          refine g_goto (tgt := 217) dL_givesWay_213 (by decide) ?_
          refine g_iadd_n dL_givesWay_217 ?_
          refine g_istore dL_givesWay_218 (by decide) ?_
          refine g_goto (tgt := 109) dL_givesWay_220 (by decide) ?_
          have hg : lgD N D h day f t q = true := by rw [← hb]; exact h5
          have ek : kpL (lgD N D h day f t) (q + 1) = kpL (lgD N D h day f t) q := by rw [kpL, hg, cond_true]
          refine g_m ?_ (g_loc ?_ (ih (q + 1) n2 _ i (by omega) (by omega) (by rw [ek]; exact hil) (by rw [ek]; exact P2_t hP (by omega))))
          · rw [nN_12, gR, hg, cond_true, ← hil, show i + (N 12 - (q + 1)) = i + (N 12 - q) - 1 by omega, ← Nat.add_assoc]
            rfl
          · rw [gN, hg, cond_true]
            rfl
    refine g_iload dL_givesWay_109 rfl ?_
    refine g_aload_n dL_givesWay_111 rfl ?_
    refine g_bipush (v := nI 12) dL_givesWay_112 (by decide) ?_
    refine g_lN dL_givesWay_114 (by omega) ?_
    rw [e12]
    refine g_icmp_ge_n (tgt := 223) dL_givesWay_115 (by decide) (by omega) (by omega) (fun h1 => ?_) (fun h1 => ?_)
    · exact absurd h1 (by omega)
    · refine g_bipush (v := nI 7) dL_givesWay_118 (by decide) ?_
      refine g_iload dL_givesWay_120 rfl ?_
      refine g_imul_n dL_givesWay_122 ?_
      refine g_istore dL_givesWay_123 (by decide) ?_
      refine g_aload_n dL_givesWay_125 rfl ?_
      refine g_iload dL_givesWay_126 rfl ?_
      refine g_lD dL_givesWay_128 (by omega) ?_
      rw [er0]
      refine g_iload_n dL_givesWay_129 rfl ?_
      refine g_icmp_ne_n (tgt := 173) dL_givesWay_130 (by decide) (by omega) (by omega) (fun h2 => ?_) (fun h2 => ?_)
      · refine g_iconst (v := nI 0) dL_givesWay_173 (by decide) ?_
        exact g_loc (by rfl) (jn false (by simp [lgD, h2]) n0 hn0)
      · refine g_aload_n dL_givesWay_133 rfl ?_
        refine g_iload dL_givesWay_134 rfl ?_
        refine g_iconst (v := nI 1) dL_givesWay_136 (by decide) ?_
        refine g_iadd_n dL_givesWay_137 ?_
        refine g_lD dL_givesWay_138 (by omega) ?_
        rw [er 1 (by omega)]
        refine g_iload dL_givesWay_139 rfl ?_
        refine g_icmp_ne_n (tgt := 173) dL_givesWay_141 (by decide) (by omega) (by omega) (fun h3 => ?_) (fun h3 => ?_)
        · refine g_iconst (v := nI 0) dL_givesWay_173 (by decide) ?_
          exact g_loc (by rfl) (jn false (by simp [lgD, h3]) n0 hn0)
        · refine g_iload dL_givesWay_144 rfl ?_
          refine g_iload dL_givesWay_146 rfl ?_
          refine g_aload_n dL_givesWay_148 rfl ?_
          refine g_iload dL_givesWay_149 rfl ?_
          refine g_iconst (v := nI 2) dL_givesWay_151 (by decide) ?_
          refine g_iadd_n dL_givesWay_152 ?_
          refine g_lD dL_givesWay_153 (by omega) ?_
          rw [er 2 (by omega)]
          refine g_aload_n dL_givesWay_154 rfl ?_
          refine g_iload dL_givesWay_155 rfl ?_
          refine g_iconst (v := nI 3) dL_givesWay_157 (by decide) ?_
          refine g_iadd_n dL_givesWay_158 ?_
          refine g_lD dL_givesWay_159 (by omega) ?_
          rw [er 3 (by omega)]
          refine g_aload_n dL_givesWay_160 rfl ?_
          refine g_iconst (v := nI 0) dL_givesWay_161 (by decide) ?_
          refine g_lN dL_givesWay_162 (by omega) ?_
          rw [e0]
          refine g_callSn_i (kL_clash hf ht r2 r3 (by omega)) oL_clash pL_clash lL_19 dL_givesWay_163 rfl rfl (Nat.le_of_ble_eq_true rfl) (Nat.le_of_ble_eq_true rfl) (by first | decide | omega) (Nat.le_refl _) (Nat.le_refl _) (fun _ e => nf_e e) (fun M1 n2 hn2 e => ?_)
          subst e
          refine g_if_eq_b (tgt := 173) dL_givesWay_166 (by decide) (fun h4 => ?_) (fun h4 => ?_)
          · refine g_iconst (v := nI 0) dL_givesWay_173 (by decide) ?_
            exact g_loc (by rfl) (jn false (by simp [lgD, h4]) n2 (by omega))
          · refine g_iconst (v := nI 1) dL_givesWay_169 (by decide) ?_
            refine g_goto (tgt := 174) dL_givesWay_170 (by decide) ?_
            exact g_loc (by rfl) (jn true (by simp [lgD, h2, h3, h4]) n2 (by omega))
theorem kL_givesWay (hB : lB N R D) {h day f t n0 : Nat} (hh : h < 1048576) (hd : day < 84) (hf : f < 1048576) (ht : t < 1048576) (hn0 : 236 ≤ n0) : Cn mL_givesWay 1 0 0 (some n0) [.ref 233, .ref 234, .ref 235, .int (nI h), .int (nI day), .int (nI f), .int (nI t)] (cM (lM M0 N R D) Y) (zqI (nI (gN (lgR N R h day f t) (N 11) + gN (lgD N D h day f t) (N 12))) (fun M' => ∃ D', P2 D D' (kpL (lgD N D h day f t) (N 12)) (N 12) (N 12) ∧ M' = cM (lM M0 (nN N (N 9 + gR (lgR N R h day f t) (rw R) (N 11) + gR (lgD N D h day f t) (dw D) (N 12)) (N 10 + (gN (lgR N R h day f t) (N 11) + gN (lgD N D h day f t) (N 12))) (kpL (lgD N D h day f t) (N 12)).length) (gwRf R (lgR N R h day f t) (2 ^ (day / 7)) (N 11)) D') Y)) := by
  refine g_iconst (v := nI 0) dL_givesWay_0 (by decide) ?_
  refine g_istore dL_givesWay_1 (by decide) ?_
  refine g_iconst (v := nI 0) dL_givesWay_3 (by decide) ?_
  refine g_istore dL_givesWay_4 (by decide) ?_
  have e0 : cM (lM M0 N R D) Y = cM (lM M0 (nN N (N 9 + gR (lgR N R h day f t) (rw R) 0) (N 10) (N 12)) (gwRf R (lgR N R h day f t) (2 ^ (day / 7)) 0) D) Y := by
    rw [gwRf_0, gR, Nat.add_zero, nN_0]
  refine g_m e0 (g_loc (by rfl) (gy1 hB hh hd hf ht _ (fun n1 hn1 => ?_) (N 11) 0 n0 (by omega) hn0))
  refine g_iconst (v := nI 0) dL_givesWay_106 (by decide) ?_
  refine g_istore dL_givesWay_107 (by decide) ?_
  refine g_loc (by rfl) (g_m ?_ (gy2 hB (g0 := gN (lgR N R h day f t) (N 11)) hh hd hf ht _ (fun n2 D' hn2 hP => ⟨rfl, D', hP, rfl⟩) (N 12) 0 n1 D 0 (by omega) hn1 rfl ⟨fun m i hm => by simp [kpL] at hm, fun s hs j hj => by show D (7 * (0 + s) + j) = _; rw [Nat.zero_add]⟩))
  rw [gR, Nat.add_zero, Nat.sub_zero, Nat.zero_add]
end LG
