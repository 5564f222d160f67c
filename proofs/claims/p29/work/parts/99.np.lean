/-! the law's isGood -/
def zqB (Q : Bool → Prop) (M2 : zM) : zP := fun M _ o => ∃ b : Bool, o = .inl (some (.int (nI b.toNat))) ∧ Q b ∧ M = M2
theorem g_callSn_b {mi : zI} {d kc ks : Nat} {pc : Nat} {L : List (Nat × Value)} {S0 S : List Value} {M : zM} {F : zP} {mi' : zI} {d' kc' ks' kc1 ks1 idx n n0 : Nat} {As : List Value} {Q : Bool → Prop} {M2 : zM} (hc : Cn mi' d' kc' ks' (some n0) As M (zqB Q M2)) (ho : zok mi' n) (hoc : zoc mi') (hl : zLS mi.2.1 idx mi') (hd : decode mi.2.2.1 pc = .ok (.invokestatic idx, 3)) (hs : S0 = As.reverse ++ S) (hA : As.length = n) (hg : (lg_sl As).length ≤ mi'.2.2.2.1) (hS : (S.map fun v => v.category).sum ≤ 8) (h1 : d' + 1 ≤ d) (h2 : kc1 + kc' ≤ kc) (h3 : ks1 + ks' ≤ ks) (hsup : nf n0 M M2)
    (k : ∀ (b : Bool) n', n0 ≤ n' → Q b → G mi d kc1 ks1 (some n') (pc + 3) L (.int (nI b.toNat) :: S) M2 F) : G mi d kc ks (some n0) pc L S0 M F := by
  refine g_callSn hc ho hoc hl hd hs hA hg hS h1 h2 h3 ?_ ?_ ?_
  · rintro M1 nx1 E ⟨b, h, -⟩
    cases h
  · rintro M1 nx1 v ⟨b, -, -, rfl⟩
    exact hsup
  · rintro M1 nx1 v n' hn' ⟨b, h, hQ, rfl⟩
    cases h
    exact k b n' hn' hQ
def kgL (E : List (cE × Nat)) : List Nat := E.foldl (fun l e => putK (keyE e.1) l) []
theorem kgL_s (E : List (cE × Nat)) (e : cE × Nat) : kgL (E ++ [e]) = putK (keyE e.1) (kgL E) := by
  unfold kgL
  rw [List.foldl_append]
  rfl
theorem kgL_l (E : List (cE × Nat)) : ∀ l : List Nat, (E.foldl (fun l e => putK (keyE e.1) l) l).length = l.length + E.length := by
  induction E with
  | nil => intro l; rfl
  | cons e E ih =>
    intro l
    rw [List.foldl_cons, ih, putK_len, List.length_cons]
    omega
theorem kgL_len (E : List (cE × Nat)) : (kgL E).length = E.length := by
  rw [kgL, kgL_l]
  exact Nat.zero_add _
theorem kgL_m (E : List (cE × Nat)) (hE : ∀ e ∈ E, okE e.1) : ∀ l : List Nat, (∀ b ∈ l, ∃ e, okE e ∧ b = keyE e) → ∀ b ∈ E.foldl (fun l e => putK (keyE e.1) l) l, ∃ e, okE e ∧ b = keyE e := by
  induction E with
  | nil => intro l hl; exact hl
  | cons e E ih =>
    intro l hl
    rw [List.foldl_cons]
    refine ih (fun x hx => hE x (List.mem_cons_of_mem _ hx)) _ (fun b hb => ?_)
    rcases putK_mem hb with rfl | h
    · exact ⟨e.1, hE e List.mem_cons_self, rfl⟩
    · exact hl b h
theorem kgL_mem {E : List (cE × Nat)} (hE : ∀ e ∈ E, okE e.1) : ∀ b ∈ kgL E, ∃ e, okE e ∧ b = keyE e := kgL_m E hE [] (fun b hb => by cases hb)
def gM (M0 : zM) (t : Nat) (T B : Nat → Nat) : zM := zu (zu M0 t (iA 24 T)) (t + 1) (iA 3 B)
section GG
variable {M0 : zM} {N R D T B A' : Nat → Nat} {Y : Nat → Nat → Nat} {t : Nat}
theorem gM_T (ht : 236 ≤ t) : cM (lM (gM M0 t T B) N R D) Y t = some (iA 24 T) := by rw [lM_o ht, gM, zu_n _ _ (by omega), zu_s]
theorem gM_B (ht : 236 ≤ t) : cM (lM (gM M0 t T B) N R D) Y (t + 1) = some (iA 3 B) := by rw [lM_o (by omega), gM, zu_s]
theorem zu_gT (ht : 236 ≤ t) : zu (cM (lM (gM M0 t T B) N R D) Y) t (iA 24 A') = cM (lM (gM M0 t A' B) N R D) Y := by
  rw [zu_lT ht, gM, gM, zu_c _ _ _ (show t + 1 ≠ t by omega), zu_u]
theorem zu_gB (ht : 236 ≤ t) : zu (cM (lM (gM M0 t T B) N R D) Y) (t + 1) (iA 3 A') = cM (lM (gM M0 t T A') N R D) Y := by
  rw [zu_lT (by omega), gM, gM, zu_u]
theorem gM_drop (ht : 236 ≤ t) (h : ∀ v, t ≤ v → M0 v = none) : ∀ v f, cM (lM M0 N R D) Y v = some f → cM (lM (gM M0 t T B) N R D) Y v = some f := fun v f hv => by
  refine lM_drop (by omega) ?_ v f (lM_drop ht (h t (Nat.le_refl _)) v f hv)
  rw [zu_n _ _ (by omega)]; exact h _ (by omega)
end GG
section LGD
variable {M0 : zM} {N R D : Nat → Nat} {Y : Nat → Nat → Nat}
theorem gm1 (hB : lB N R D) {q day t0 : Nat} (hq : q < N 11) (ho : okE (eR R q)) (hft : R (11 * q + 2) ≤ R (11 * q + 3)) (ht0 : 236 ≤ t0) {i n0 : Nat} {l : List Nat} {T B : Nat → Nat} (hn0 : 236 ≤ n0) (hl : lAt l 0 T) (hl2 : l.length < 24) (hlb : ∀ b ∈ l, b < 2 ^ 31) (F : zP) (hF : ∀ n1 T B, 236 ≤ n1 → lAt (putK (keyE (eR R q)) l) 0 T → G mL_isGood 1 0 0 (some n1) 197 [(0, .ref 233), (1, .ref 234), (2, .ref 235), (3, .int (nI day)), (4, .ref t0), (5, .int (nI ((putK (keyE (eR R q)) l).length))), (6, .ref (t0 + 1)), (7, .int (nI 1)), (8, .int (nI (i)))] [] (cM (lM (gM M0 t0 T B) N R D) Y) F) : G mL_isGood 1 0 0 (some n0) 105 [(0, .ref 233), (1, .ref 234), (2, .ref 235), (3, .int (nI day)), (4, .ref t0), (5, .int (nI (l.length))), (6, .ref (t0 + 1)), (7, .int (nI 1)), (8, .int (nI (i))), (9, .int (nI 1)), (10, .int (nI (11 * q)))] [] (cM (lM (gM M0 t0 T B) N R D) Y) F := by
  obtain ⟨b0, b11, b12, -, -⟩ := id hB
  obtain ⟨o1, o2, o3⟩ := ho
  have o1 : R (11 * q) ≤ 2 := o1
  have o2 : R (11 * q + 2) ≤ 24 := o2
  have o3 : R (11 * q + 3) ≤ 24 := o3
  refine g_iload dL_isGood_105 rfl ?_
  refine g_if_eq_n (tgt := 117) dL_isGood_107 (by decide) (by omega) (fun g => ?_) (fun g => ?_)
  · exact absurd g (by decide)
  · refine g_aload_n dL_isGood_110 rfl ?_
    refine g_iload dL_isGood_111 rfl ?_
    refine g_lR dL_isGood_113 (by omega) ?_
    refine g_goto (tgt := 121) dL_isGood_114 (by decide) ?_
    refine g_istore dL_isGood_121 (by decide) ?_
    refine g_iload dL_isGood_123 rfl ?_
    refine g_if_eq_n (tgt := 137) dL_isGood_125 (by decide) (by omega) (fun g2 => ?_) (fun g2 => ?_)
    · exact absurd g2 (by decide)
    · refine g_aload_n dL_isGood_128 rfl ?_
      refine g_iload dL_isGood_129 rfl ?_
      refine g_iconst (v := nI 2) dL_isGood_131 (by decide) ?_
      refine g_iadd_n dL_isGood_132 ?_
      refine g_lR dL_isGood_133 (by omega) ?_
      refine g_goto (tgt := 143) dL_isGood_134 (by decide) ?_
      refine g_istore dL_isGood_143 (by decide) ?_
      refine g_iload dL_isGood_145 rfl ?_
      refine g_if_eq_n (tgt := 159) dL_isGood_147 (by decide) (by omega) (fun g3 => ?_) (fun g3 => ?_)
      · exact absurd g3 (by decide)
      · refine g_aload_n dL_isGood_150 rfl ?_
        refine g_iload dL_isGood_151 rfl ?_
        refine g_iconst (v := nI 3) dL_isGood_153 (by decide) ?_
        refine g_iadd_n dL_isGood_154 ?_
        refine g_lR dL_isGood_155 (by omega) ?_
        refine g_goto (tgt := 165) dL_isGood_156 (by decide) ?_
        refine g_istore dL_isGood_165 (by decide) ?_
        refine g_aload dL_isGood_167 rfl ?_
        refine g_iload dL_isGood_169 rfl ?_
        refine g_iload dL_isGood_171 rfl ?_
        refine g_iload dL_isGood_173 rfl ?_
        refine g_iload dL_isGood_175 rfl ?_
        refine g_callSn_i (kL_put (l := l) (by omega) (gM_T ht0) hl rfl hl2 hlb (by omega) (by omega) (by omega)) oL_put pL_put lL_9 dL_isGood_177 rfl rfl (Nat.le_of_ble_eq_true rfl) (Nat.le_of_ble_eq_true rfl) (by first | decide | omega) (Nat.le_refl _) (Nat.le_refl _) (fun _ h => by obtain ⟨T', e, -⟩ := h; exact e ▸ nf_put (gM_T ht0)) (fun M1 n1 hn1 h1 => ?_)
        obtain ⟨T', e, hT'⟩ := h1
        subst e
        rw [zu_gT ht0]
        refine g_istore dL_isGood_180 (by decide) ?_
        refine g_aload dL_isGood_182 rfl ?_
        refine g_iload dL_isGood_184 rfl ?_
        refine g_dup2 dL_isGood_186 rfl rfl ?_
        refine g_iald_n dL_isGood_187 (gM_B ht0) (by omega) (by decide) ?_
        refine g_iload dL_isGood_188 rfl ?_
        refine g_iload dL_isGood_190 rfl ?_
        refine g_callSn_i (kL_bits hft (by omega)) oL_bits pL_bits lL_69 dL_isGood_192 rfl rfl (Nat.le_of_ble_eq_true rfl) (Nat.le_of_ble_eq_true rfl) (by first | decide | omega) (Nat.le_refl _) (Nat.le_refl _) (fun _ e => nf_e e) (fun M1 n2 hn2 e => ?_)
        subst e
        refine g_ior_n dL_isGood_195 ?_
        refine g_iast_n dL_isGood_196 (gM_B ht0) (by omega) (by decide) (by omega) (g_m (zu_gB ht0) ?_)
        refine g_loc ?_ (hF n2 T' _ (by omega) hT')
        rw [putK_len]
        rfl
theorem gm0 (hB : lB N R D) {q day t0 : Nat} (hq : q < N 12) (ho : okE (eD D q)) (hft : D (7 * q + 2) ≤ D (7 * q + 3)) (ht0 : 236 ≤ t0) {i n0 : Nat} {l : List Nat} {T B : Nat → Nat} (hn0 : 236 ≤ n0) (hl : lAt l 0 T) (hl2 : l.length < 24) (hlb : ∀ b ∈ l, b < 2 ^ 31) (F : zP) (hF : ∀ n1 T B, 236 ≤ n1 → lAt (putK (keyE (eD D q)) l) 0 T → G mL_isGood 1 0 0 (some n1) 197 [(0, .ref 233), (1, .ref 234), (2, .ref 235), (3, .int (nI day)), (4, .ref t0), (5, .int (nI ((putK (keyE (eD D q)) l).length))), (6, .ref (t0 + 1)), (7, .int (nI 1)), (8, .int (nI (i)))] [] (cM (lM (gM M0 t0 T B) N R D) Y) F) : G mL_isGood 1 0 0 (some n0) 105 [(0, .ref 233), (1, .ref 234), (2, .ref 235), (3, .int (nI day)), (4, .ref t0), (5, .int (nI (l.length))), (6, .ref (t0 + 1)), (7, .int (nI 1)), (8, .int (nI (i))), (9, .int (nI 0)), (10, .int (nI (7 * q)))] [] (cM (lM (gM M0 t0 T B) N R D) Y) F := by
  obtain ⟨b0, b11, b12, -, -⟩ := id hB
  obtain ⟨o1, o2, o3⟩ := ho
  have o1 : D (7 * q) ≤ 2 := o1
  have o2 : D (7 * q + 2) ≤ 24 := o2
  have o3 : D (7 * q + 3) ≤ 24 := o3
  refine g_iload dL_isGood_105 rfl ?_
  refine g_if_eq_n (tgt := 117) dL_isGood_107 (by decide) (by omega) (fun g => ?_) (fun g => ?_)
  · refine g_aload_n dL_isGood_117 rfl ?_
    refine g_iload dL_isGood_118 rfl ?_
    refine g_lD dL_isGood_120 (by omega) ?_
    refine g_istore dL_isGood_121 (by decide) ?_
    refine g_iload dL_isGood_123 rfl ?_
    refine g_if_eq_n (tgt := 137) dL_isGood_125 (by decide) (by omega) (fun g2 => ?_) (fun g2 => ?_)
    · refine g_aload_n dL_isGood_137 rfl ?_
      refine g_iload dL_isGood_138 rfl ?_
      refine g_iconst (v := nI 2) dL_isGood_140 (by decide) ?_
      refine g_iadd_n dL_isGood_141 ?_
      refine g_lD dL_isGood_142 (by omega) ?_
      refine g_istore dL_isGood_143 (by decide) ?_
      refine g_iload dL_isGood_145 rfl ?_
      refine g_if_eq_n (tgt := 159) dL_isGood_147 (by decide) (by omega) (fun g3 => ?_) (fun g3 => ?_)
      · refine g_aload_n dL_isGood_159 rfl ?_
        refine g_iload dL_isGood_160 rfl ?_
        refine g_iconst (v := nI 3) dL_isGood_162 (by decide) ?_
        refine g_iadd_n dL_isGood_163 ?_
        refine g_lD dL_isGood_164 (by omega) ?_
        refine g_istore dL_isGood_165 (by decide) ?_
        refine g_aload dL_isGood_167 rfl ?_
        refine g_iload dL_isGood_169 rfl ?_
        refine g_iload dL_isGood_171 rfl ?_
        refine g_iload dL_isGood_173 rfl ?_
        refine g_iload dL_isGood_175 rfl ?_
        refine g_callSn_i (kL_put (l := l) (by omega) (gM_T ht0) hl rfl hl2 hlb (by omega) (by omega) (by omega)) oL_put pL_put lL_9 dL_isGood_177 rfl rfl (Nat.le_of_ble_eq_true rfl) (Nat.le_of_ble_eq_true rfl) (by first | decide | omega) (Nat.le_refl _) (Nat.le_refl _) (fun _ h => by obtain ⟨T', e, -⟩ := h; exact e ▸ nf_put (gM_T ht0)) (fun M1 n1 hn1 h1 => ?_)
        obtain ⟨T', e, hT'⟩ := h1
        subst e
        rw [zu_gT ht0]
        refine g_istore dL_isGood_180 (by decide) ?_
        refine g_aload dL_isGood_182 rfl ?_
        refine g_iload dL_isGood_184 rfl ?_
        refine g_dup2 dL_isGood_186 rfl rfl ?_
        refine g_iald_n dL_isGood_187 (gM_B ht0) (by omega) (by decide) ?_
        refine g_iload dL_isGood_188 rfl ?_
        refine g_iload dL_isGood_190 rfl ?_
        refine g_callSn_i (kL_bits hft (by omega)) oL_bits pL_bits lL_69 dL_isGood_192 rfl rfl (Nat.le_of_ble_eq_true rfl) (Nat.le_of_ble_eq_true rfl) (by first | decide | omega) (Nat.le_refl _) (Nat.le_refl _) (fun _ e => nf_e e) (fun M1 n2 hn2 e => ?_)
        subst e
        refine g_ior_n dL_isGood_195 ?_
        refine g_iast_n dL_isGood_196 (gM_B ht0) (by omega) (by decide) (by omega) (g_m (zu_gB ht0) ?_)
        refine g_loc ?_ (hF n2 T' _ (by omega) hT')
        rw [putK_len]
        rfl
      · exact absurd rfl g3
    · exact absurd rfl g2
  · exact absurd rfl g
theorem gl1 (hB : lB N R D) (hC : lC N R D) {day t0 : Nat} (hft : ∀ q, q < N 11 → R (11 * q + 2) ≤ R (11 * q + 3)) (hd : day < 84) (ht0 : 236 ≤ t0) (F : zP) (hF : ∀ n1 T B, 236 ≤ n1 → lAt (kgL (esR R day (N 11))) 0 T → G mL_isGood 1 0 0 (some n1) 20 [(0, .ref 233), (1, .ref 234), (2, .ref 235), (3, .int (nI day)), (4, .ref t0), (5, .int (nI ((kgL (esR R day (N 11))).length))), (6, .ref (t0 + 1)), (7, .int (nI 1)), (8, .int (nI (N 11)))] [] (cM (lM (gM M0 t0 T B) N R D) Y) F) : ∀ u q n0 T B, q + u = N 11 → 236 ≤ n0 → lAt (kgL (esR R day q)) 0 T → G mL_isGood 1 0 0 (some n0) 20 [(0, .ref 233), (1, .ref 234), (2, .ref 235), (3, .int (nI day)), (4, .ref t0), (5, .int (nI ((kgL (esR R day q)).length))), (6, .ref (t0 + 1)), (7, .int (nI 1)), (8, .int (nI (q)))] [] (cM (lM (gM M0 t0 T B) N R D) Y) F := by
  obtain ⟨b0, b11, b12, -, -⟩ := id hB
  intro u
  induction u with
  | zero =>
    intro q n0 T B hq hn0 hT
    rw [show q = N 11 by omega] at hT ⊢
    exact hF n0 T B hn0 hT
  | succ u ih =>
    intro q n0 T B hq hn0 hT
    have hqN : q < N 11 := by omega
    have ho := hC.1 q hqN
    have r1 := lB_R hB (i := q) (j := 1) hqN (by omega)
    have hlen : (kgL (esR R day q)).length < 24 := by
      have := esR_len R day q
      rw [kgL_len]
      omega
    have hlb : ∀ b ∈ kgL (esR R day q), b < 2 ^ 31 := fun b hb => by
      obtain ⟨e, he, rfl⟩ := kgL_mem (fun e he => esR_ok hC day q (by omega) e he) b hb
      exact Nat.lt_trans (key_b he) (by decide)
    have jn : (esR R day (q + 1)) = (esR R day q) → ∀ n1, 236 ≤ n1 → G mL_isGood 1 0 0 (some n1) 197 [(0, .ref 233), (1, .ref 234), (2, .ref 235), (3, .int (nI day)), (4, .ref t0), (5, .int (nI ((kgL (esR R day q)).length))), (6, .ref (t0 + 1)), (7, .int (nI 1)), (8, .int (nI (q)))] [] (cM (lM (gM M0 t0 T B) N R D) Y) F := fun e n1 hn1 => by
      refine g_iinc_n (c := 1) dL_isGood_197 rfl (by decide) (by decide) ?_
      refine g_goto (tgt := 20) dL_isGood_200 (by decide) ?_
      have := ih (q + 1) n1 T B (by omega) hn1 (by rw [e]; exact hT)
      rw [e] at this
      exact g_loc (by rfl) this
    have jm : (esR R day (q + 1)) = (esR R day q) ++ [(eR R q, R (11 * q + 4))] → ∀ n1, 236 ≤ n1 → G mL_isGood 1 0 0 (some n1) 105 [(0, .ref 233), (1, .ref 234), (2, .ref 235), (3, .int (nI day)), (4, .ref t0), (5, .int (nI ((kgL (esR R day q)).length))), (6, .ref (t0 + 1)), (7, .int (nI 1)), (8, .int (nI (q))), (9, .int (nI 1)), (10, .int (nI (11 * q)))] [] (cM (lM (gM M0 t0 T B) N R D) Y) F := fun e n1 hn1 => by
      refine gm1 hB hqN ho (hft q hqN) ht0 hn1 hT hlen hlb F (fun n2 T' B' hn2 hT' => ?_)
      refine g_iinc_n (c := 1) dL_isGood_197 rfl (by decide) (by decide) ?_
      refine g_goto (tgt := 20) dL_isGood_200 (by decide) ?_
      have := ih (q + 1) n2 T' B' (by omega) hn2 (by rw [e, kgL_s]; exact hT')
      rw [e, kgL_s] at this
      exact g_loc (by rfl) this
    refine g_iload dL_isGood_20 rfl ?_
    refine g_aload_n dL_isGood_22 rfl ?_
    refine g_bipush (v := nI 11) dL_isGood_23 (by decide) ?_
    refine g_lN dL_isGood_25 (by omega) ?_
    refine g_aload_n dL_isGood_26 rfl ?_
    refine g_bipush (v := nI 12) dL_isGood_27 (by decide) ?_
    refine g_lN dL_isGood_29 (by omega) ?_
    refine g_iadd_n dL_isGood_30 ?_
    refine g_icmp_ge_n (tgt := 203) dL_isGood_31 (by decide) (by omega) (by omega) (fun h1 => ?_) (fun h1 => ?_)
    · exact absurd h1 (by omega)
    · refine g_iload dL_isGood_34 rfl ?_
      refine g_aload_n dL_isGood_36 rfl ?_
      refine g_bipush (v := nI 11) dL_isGood_37 (by decide) ?_
      refine g_lN dL_isGood_39 (by omega) ?_
      refine g_icmp_ge_n (tgt := 47) dL_isGood_40 (by decide) (by omega) (by omega) (fun h2 => ?_) (fun h2 => ?_)
      · exact absurd h2 (by omega)
      · refine g_iconst (v := nI 1) dL_isGood_43 (by decide) ?_
        refine g_goto (tgt := 48) dL_isGood_44 (by decide) ?_
        refine g_istore dL_isGood_48 (by decide) ?_
        refine g_iload dL_isGood_50 rfl ?_
        refine g_if_eq_n (tgt := 63) dL_isGood_52 (by decide) (by omega) (fun h3 => ?_) (fun h3 => ?_)
        · exact absurd h3 (by decide)
        · refine g_bipush (v := nI 11) dL_isGood_55 (by decide) ?_
          refine g_iload dL_isGood_57 rfl ?_
          refine g_imul_n dL_isGood_59 ?_
          refine g_goto (tgt := 73) dL_isGood_60 (by decide) ?_
          refine g_istore dL_isGood_73 (by decide) ?_
          refine g_iload dL_isGood_75 rfl ?_
          refine g_if_eq_n (tgt := 90) dL_isGood_77 (by decide) (by omega) (fun h4 => ?_) (fun h4 => ?_)
          · exact absurd h4 (by decide)
          · refine g_aload_n dL_isGood_80 rfl ?_
            refine g_iload dL_isGood_81 rfl ?_
            refine g_iload_n dL_isGood_83 rfl ?_
            have r9 := lB_R hB (i := q) (j := 9) hqN (by omega)
            refine g_callSn_i (kL_stands (i := q) (day := day) (by omega) hd r1 r9) oL_stands pL_stands lL_15 dL_isGood_84 rfl rfl (Nat.le_of_ble_eq_true rfl) (Nat.le_of_ble_eq_true rfl) (by first | decide | omega) (Nat.le_refl _) (Nat.le_refl _) (fun _ e => nf_e e) (fun M1 n1 hn1 e => ?_)
            subst e
            refine g_if_ne_b (tgt := 105) dL_isGood_87 (by decide) (fun h5 => ?_) (fun h5 => ?_)
            · exact g_loc (by rfl) (jm (esR_t h5) n1 (by omega))
            · refine g_iload dL_isGood_90 rfl ?_
              refine g_if_ne_n (tgt := 197) dL_isGood_92 (by decide) (by omega) (fun h6 => ?_) (fun h6 => ?_)
              · exact g_loc (by rfl) (jn (esR_f h5) n1 (by omega))
              · exact absurd h6 (by decide)
theorem gl0 (hB : lB N R D) (hC : lC N R D) {day t0 : Nat} (hft : ∀ q, q < N 12 → D (7 * q + 2) ≤ D (7 * q + 3)) (hd : day < 84) (ht0 : 236 ≤ t0) (F : zP) (hF : ∀ n1 T B, 236 ≤ n1 → lAt (kgL (esR R day (N 11) ++ esD D day (N 12))) 0 T → G mL_isGood 1 0 0 (some n1) 203 [(0, .ref 233), (1, .ref 234), (2, .ref 235), (3, .int (nI day)), (4, .ref t0), (5, .int (nI (kgL (esR R day (N 11) ++ esD D day (N 12))).length)), (6, .ref (t0 + 1)), (7, .int (nI 1))] [] (cM (lM (gM M0 t0 T B) N R D) Y) F) : ∀ u q n0 T B, q + u = N 12 → 236 ≤ n0 → lAt (kgL (esR R day (N 11) ++ esD D day q)) 0 T → G mL_isGood 1 0 0 (some n0) 20 [(0, .ref 233), (1, .ref 234), (2, .ref 235), (3, .int (nI day)), (4, .ref t0), (5, .int (nI ((kgL (esR R day (N 11) ++ esD D day q)).length))), (6, .ref (t0 + 1)), (7, .int (nI 1)), (8, .int (nI (N 11 + q)))] [] (cM (lM (gM M0 t0 T B) N R D) Y) F := by
  obtain ⟨b0, b11, b12, -, -⟩ := id hB
  intro u
  induction u with
  | zero =>
    intro q n0 T B hq hn0 hT
    rw [show q = N 12 by omega] at hT ⊢
    refine g_iload dL_isGood_20 rfl ?_
    refine g_aload_n dL_isGood_22 rfl ?_
    refine g_bipush (v := nI 11) dL_isGood_23 (by decide) ?_
    refine g_lN dL_isGood_25 (by omega) ?_
    refine g_aload_n dL_isGood_26 rfl ?_
    refine g_bipush (v := nI 12) dL_isGood_27 (by decide) ?_
    refine g_lN dL_isGood_29 (by omega) ?_
    refine g_iadd_n dL_isGood_30 ?_
    refine g_icmp_ge_n (tgt := 203) dL_isGood_31 (by decide) (by omega) (by omega) (fun h1 => ?_) (fun h1 => ?_)
    · exact g_loc (by rfl) (hF n0 T B hn0 hT)
    · exact absurd h1 (by omega)
  | succ u ih =>
    intro q n0 T B hq hn0 hT
    have hqN : q < N 12 := by omega
    have ho := hC.2 q hqN
    have r1 := lB_D hB (i := q) (j := 1) hqN (by omega)
    have hlen : (kgL (esR R day (N 11) ++ esD D day q)).length < 24 := by
      have := esR_len R day (N 11)
      have := esD_len D day q
      rw [kgL_len]
      rw [List.length_append]
      omega
    have hlb : ∀ b ∈ kgL (esR R day (N 11) ++ esD D day q), b < 2 ^ 31 := fun b hb => by
      obtain ⟨e, he, rfl⟩ := kgL_mem (fun e he => (List.mem_append.mp he).elim (fun z => esR_ok hC day _ (Nat.le_refl _) e z) (fun z => esD_ok hC day q (by omega) e z)) b hb
      exact Nat.lt_trans (key_b he) (by decide)
    have jn : (esR R day (N 11) ++ esD D day (q + 1)) = (esR R day (N 11) ++ esD D day q) → ∀ n1, 236 ≤ n1 → G mL_isGood 1 0 0 (some n1) 197 [(0, .ref 233), (1, .ref 234), (2, .ref 235), (3, .int (nI day)), (4, .ref t0), (5, .int (nI ((kgL (esR R day (N 11) ++ esD D day q)).length))), (6, .ref (t0 + 1)), (7, .int (nI 1)), (8, .int (nI (N 11 + q)))] [] (cM (lM (gM M0 t0 T B) N R D) Y) F := fun e n1 hn1 => by
      refine g_iinc_n (c := 1) dL_isGood_197 rfl (by decide) (by decide) ?_
      refine g_goto (tgt := 20) dL_isGood_200 (by decide) ?_
      have := ih (q + 1) n1 T B (by omega) hn1 (by rw [e]; exact hT)
      rw [e] at this
      exact g_loc (by rfl) this
    have jm : (esR R day (N 11) ++ esD D day (q + 1)) = (esR R day (N 11) ++ esD D day q) ++ [(eD D q, D (7 * q + 4))] → ∀ n1, 236 ≤ n1 → G mL_isGood 1 0 0 (some n1) 105 [(0, .ref 233), (1, .ref 234), (2, .ref 235), (3, .int (nI day)), (4, .ref t0), (5, .int (nI ((kgL (esR R day (N 11) ++ esD D day q)).length))), (6, .ref (t0 + 1)), (7, .int (nI 1)), (8, .int (nI (N 11 + q))), (9, .int (nI 0)), (10, .int (nI (7 * q)))] [] (cM (lM (gM M0 t0 T B) N R D) Y) F := fun e n1 hn1 => by
      refine gm0 hB hqN ho (hft q hqN) ht0 hn1 hT hlen hlb F (fun n2 T' B' hn2 hT' => ?_)
      refine g_iinc_n (c := 1) dL_isGood_197 rfl (by decide) (by decide) ?_
      refine g_goto (tgt := 20) dL_isGood_200 (by decide) ?_
      have := ih (q + 1) n2 T' B' (by omega) hn2 (by rw [e, kgL_s]; exact hT')
      rw [e, kgL_s] at this
      exact g_loc (by rfl) this
    refine g_iload dL_isGood_20 rfl ?_
    refine g_aload_n dL_isGood_22 rfl ?_
    refine g_bipush (v := nI 11) dL_isGood_23 (by decide) ?_
    refine g_lN dL_isGood_25 (by omega) ?_
    refine g_aload_n dL_isGood_26 rfl ?_
    refine g_bipush (v := nI 12) dL_isGood_27 (by decide) ?_
    refine g_lN dL_isGood_29 (by omega) ?_
    refine g_iadd_n dL_isGood_30 ?_
    refine g_icmp_ge_n (tgt := 203) dL_isGood_31 (by decide) (by omega) (by omega) (fun h1 => ?_) (fun h1 => ?_)
    · exact absurd h1 (by omega)
    · refine g_iload dL_isGood_34 rfl ?_
      refine g_aload_n dL_isGood_36 rfl ?_
      refine g_bipush (v := nI 11) dL_isGood_37 (by decide) ?_
      refine g_lN dL_isGood_39 (by omega) ?_
      refine g_icmp_ge_n (tgt := 47) dL_isGood_40 (by decide) (by omega) (by omega) (fun h2 => ?_) (fun h2 => ?_)
      · refine g_iconst (v := nI 0) dL_isGood_47 (by decide) ?_
        refine g_istore dL_isGood_48 (by decide) ?_
        refine g_iload dL_isGood_50 rfl ?_
        refine g_if_eq_n (tgt := 63) dL_isGood_52 (by decide) (by omega) (fun h3 => ?_) (fun h3 => ?_)
        · refine g_bipush (v := nI 7) dL_isGood_63 (by decide) ?_
          refine g_iload dL_isGood_65 rfl ?_
          refine g_aload_n dL_isGood_67 rfl ?_
          refine g_bipush (v := nI 11) dL_isGood_68 (by decide) ?_
          refine g_lN dL_isGood_70 (by omega) ?_
          refine g_isub_n dL_isGood_71 (by omega) ?_
          rw [show N 11 + q - N 11 = q by omega]
          refine g_imul_n dL_isGood_72 ?_
          refine g_istore dL_isGood_73 (by decide) ?_
          refine g_iload dL_isGood_75 rfl ?_
          refine g_if_eq_n (tgt := 90) dL_isGood_77 (by decide) (by omega) (fun h4 => ?_) (fun h4 => ?_)
          · refine g_iload dL_isGood_90 rfl ?_
            refine g_if_ne_n (tgt := 197) dL_isGood_92 (by decide) (by omega) (fun h5 => ?_) (fun h5 => ?_)
            · exact absurd rfl h5
            · refine g_aload_n dL_isGood_95 rfl ?_
              refine g_iload dL_isGood_96 rfl ?_
              refine g_iconst (v := nI 1) dL_isGood_98 (by decide) ?_
              refine g_iadd_n dL_isGood_99 ?_
              refine g_lD dL_isGood_100 (by omega) ?_
              refine g_iload_n dL_isGood_101 rfl ?_
              refine g_icmp_ne_n (tgt := 197) dL_isGood_102 (by decide) (by omega) (by omega) (fun h6 => ?_) (fun h6 => ?_)
              · exact g_loc (by rfl) (jn (by rw [esD_f (decide_eq_false (by omega))]) n0 hn0)
              · exact g_loc (by rfl) (jm (by rw [esD_t (decide_eq_true (by omega)), List.append_assoc]) n0 hn0)
          · exact absurd rfl h4
        · exact absurd rfl h3
      · exact absurd h2 (by omega)
theorem gb1 (hB : lB N R D) {day t0 : Nat} (ht0 : 236 ≤ t0) {l : List Nat} {T B : Nat → Nat} (hT : lAt l 0 T) (hl2 : l.length < 24) (hlm : ∀ b ∈ l, ∃ e, okE e ∧ b = keyE e) (F : zP) (hF : ∀ n1 (b : Bool), 236 ≤ n1 → G mL_isGood 1 0 0 (some n1) 306 [(0, .ref 233), (1, .ref 234), (2, .ref 235), (3, .int (nI day)), (4, .ref t0), (5, .int (nI l.length)), (6, .ref (t0 + 1)), (7, .int (nI b.toNat))] [] (cM (lM (gM M0 t0 T B) N R D) Y) F) : ∀ u k n0 (b : Bool), k + u = l.length → 236 ≤ n0 → G mL_isGood 1 0 0 (some n0) 206 [(0, .ref 233), (1, .ref 234), (2, .ref 235), (3, .int (nI day)), (4, .ref t0), (5, .int (nI l.length)), (6, .ref (t0 + 1)), (7, .int (nI b.toNat)), (8, .int (nI k))] [] (cM (lM (gM M0 t0 T B) N R D) Y) F := by
  obtain ⟨b0, b11, b12, -, -⟩ := id hB
  intro u
  induction u with
  | zero =>
    intro k n0 b hk hn0
    refine g_iload dL_isGood_206 rfl ?_
    refine g_iload dL_isGood_208 rfl ?_
    refine g_icmp_ge_n (tgt := 306) dL_isGood_210 (by decide) (by omega) (by omega) (fun h1 => ?_) (fun h1 => ?_)
    · exact g_loc (by rfl) (hF n0 b hn0)
    · exact absurd h1 (by omega)
  | succ u ih =>
    intro k n0 b hk hn0
    have hkl : k < l.length := by omega
    have hx := hT k l[k] (List.getElem?_eq_getElem hkl)
    rw [Nat.zero_add] at hx
    obtain ⟨e, ⟨o1, o2, o3⟩, hxe⟩ := hlm l[k] (List.getElem_mem hkl)
    generalize l[k] = x at hx hxe
    have x1 : x / 1000 % 10 = e.1 := by rw [hxe]; unfold keyE; omega
    have x2 : x / 10000 = e.2.2 := by rw [hxe]; unfold keyE; omega
    have hxb : x < 300000 := by rw [hxe]; exact key_b ⟨o1, o2, o3⟩
    have j298 : ∀ (b2 : Bool) n1, 236 ≤ n1 → G mL_isGood 1 0 0 (some n1) 298 [(0, .ref 233), (1, .ref 234), (2, .ref 235), (3, .int (nI day)), (4, .ref t0), (5, .int (nI l.length)), (6, .ref (t0 + 1)), (8, .int (nI k))] [.int (nI b2.toNat)] (cM (lM (gM M0 t0 T B) N R D) Y) F := fun b2 n1 hn1 => by
      refine g_istore dL_isGood_298 (by decide) ?_
      refine g_iinc_n (c := 1) dL_isGood_300 rfl (by decide) (by decide) ?_
      refine g_goto (tgt := 206) dL_isGood_303 (by decide) ?_
      exact g_loc (by rfl) (ih (k + 1) n1 b2 (by omega) hn1)
    have j272 : ∀ m, e.2.2 ≤ m → m ≤ 24 → G mL_isGood 1 0 0 (some n0) 272 [(0, .ref 233), (1, .ref 234), (2, .ref 235), (3, .int (nI day)), (4, .ref t0), (5, .int (nI l.length)), (6, .ref (t0 + 1)), (7, .int (nI b.toNat)), (8, .int (nI k)), (9, .int (nI e.1))] [.int (nI m), .int (nI e.2.2)] (cM (lM (gM M0 t0 T B) N R D) Y) F := fun m hm hm2 => by
      refine g_callSn_i (kL_bits hm (by omega)) oL_bits pL_bits lL_69 dL_isGood_272 rfl rfl (Nat.le_of_ble_eq_true rfl) (Nat.le_of_ble_eq_true rfl) (by first | decide | omega) (Nat.le_refl _) (Nat.le_refl _) (fun _ e => nf_e e) (fun M1 n1 hn1 e1 => ?_)
      subst e1
      refine g_istore dL_isGood_275 (by decide) ?_
      refine g_iload dL_isGood_277 rfl ?_
      refine g_if_eq_b (tgt := 297) dL_isGood_279 (by decide) (fun h2 => ?_) (fun h2 => ?_)
      · refine g_iconst (v := nI 0) dL_isGood_297 (by decide) ?_
        exact g_loc (by rfl) (j298 false n1 (by omega))
      · refine g_aload dL_isGood_282 rfl ?_
        refine g_iload dL_isGood_284 rfl ?_
        refine g_iald_n dL_isGood_286 (gM_B ht0) (i := e.1) (by omega) (by decide) ?_
        refine g_iload dL_isGood_287 rfl ?_
        refine g_iand dL_isGood_289 ?_
        refine g_if_ne (tgt := 297) dL_isGood_290 (by decide) (fun _ => ?_) (fun _ => ?_)
        · refine g_iconst (v := nI 0) dL_isGood_297 (by decide) ?_
          exact g_loc (by rfl) (j298 false n1 (by omega))
        · refine g_iconst (v := nI 1) dL_isGood_293 (by decide) ?_
          refine g_goto (tgt := 298) dL_isGood_294 (by decide) ?_
          exact g_loc (by rfl) (j298 true n1 (by omega))
    refine g_iload dL_isGood_206 rfl ?_
    refine g_iload dL_isGood_208 rfl ?_
    refine g_icmp_ge_n (tgt := 306) dL_isGood_210 (by decide) (by omega) (by omega) (fun h1 => ?_) (fun h1 => ?_)
    · exact absurd h1 (by omega)
    · refine g_aload dL_isGood_213 rfl ?_
      refine g_iload dL_isGood_215 rfl ?_
      refine g_iald_n dL_isGood_217 (gM_T ht0) (i := k) (by omega) (by decide) ?_
      rw [hx]
      refine g_sipush (v := nI 1000) dL_isGood_218 (by decide) ?_
      refine g_idiv_n dL_isGood_221 (by omega) (by omega) (by omega) ?_
      refine g_bipush (v := nI 10) dL_isGood_222 (by decide) ?_
      refine g_irem_n dL_isGood_224 (by omega) (by omega) (by omega) ?_
      rw [x1]
      refine g_istore dL_isGood_225 (by decide) ?_
      refine g_aload dL_isGood_227 rfl ?_
      refine g_iload dL_isGood_229 rfl ?_
      refine g_iald_n dL_isGood_231 (gM_T ht0) (i := k) (by omega) (by decide) ?_
      rw [hx]
      refine g_sipush (v := nI 10000) dL_isGood_232 (by decide) ?_
      refine g_idiv_n dL_isGood_235 (by omega) (by omega) (by omega) ?_
      rw [x2]
      refine g_aload dL_isGood_236 rfl ?_
      refine g_iload dL_isGood_238 rfl ?_
      refine g_iald_n dL_isGood_240 (gM_T ht0) (i := k) (by omega) (by decide) ?_
      rw [hx]
      refine g_sipush (v := nI 10000) dL_isGood_241 (by decide) ?_
      refine g_idiv_n dL_isGood_244 (by omega) (by omega) (by omega) ?_
      rw [x2]
      refine g_aload_n dL_isGood_245 rfl ?_
      refine g_iconst (v := nI 0) dL_isGood_246 (by decide) ?_
      refine g_lN dL_isGood_247 (by omega) ?_
      refine g_iadd_n dL_isGood_248 ?_
      refine g_bipush (v := nI 24) dL_isGood_249 (by decide) ?_
      refine g_icmp_le_n (tgt := 259) dL_isGood_251 (by decide) (by omega) (by omega) (fun h2 => ?_) (fun h2 => ?_)
      · refine g_aload dL_isGood_259 rfl ?_
        refine g_iload dL_isGood_261 rfl ?_
        refine g_iald_n dL_isGood_263 (gM_T ht0) (i := k) (by omega) (by decide) ?_
        rw [hx]
        refine g_sipush (v := nI 10000) dL_isGood_264 (by decide) ?_
        refine g_idiv_n dL_isGood_267 (by omega) (by omega) (by omega) ?_
        rw [x2]
        refine g_aload_n dL_isGood_268 rfl ?_
        refine g_iconst (v := nI 0) dL_isGood_269 (by decide) ?_
        refine g_lN dL_isGood_270 (by omega) ?_
        refine g_iadd_n dL_isGood_271 ?_
        exact g_loc (by rfl) (j272 (e.2.2 + N 0) (by omega) (by omega))
      · refine g_bipush (v := nI 24) dL_isGood_254 (by decide) ?_
        refine g_goto (tgt := 272) dL_isGood_256 (by decide) ?_
        exact g_loc (by rfl) (j272 24 (by omega) (by omega))
theorem kL_isGood (hB : lB N R D) (hC : lC N R D) (hf1 : ∀ q, q < N 11 → R (11 * q + 2) ≤ R (11 * q + 3)) (hf2 : ∀ q, q < N 12 → D (7 * q + 2) ≤ D (7 * q + 3)) {day n0 : Nat} (hd : day < 84) (hn0 : 236 ≤ n0) : Cn mL_isGood 1 2 27 (some n0) [.ref 233, .ref 234, .ref 235, .int (nI day)] (cM (lM M0 N R D) Y) (zqB (fun b => b = true → icl (N 0) 0 (kgL (esA N R D day)) = true) (cM (lM M0 N R D) Y)) := by
  obtain ⟨b0, b11, b12, -, -⟩ := id hB
  refine g_free (fun hfr => ?_)
  have h0 : ∀ v, n0 ≤ v → M0 v = none := fun v hv => by have := hfr v hv; rwa [lM_o (by omega)] at this
  refine g_bipush (v := nI 24) dL_isGood_0 (by decide) ?_
  refine g_newi (kc1 := 1) (ks1 := 3) dL_isGood_2 (by decide) rfl rfl ?_
  refine g_astore dL_isGood_4 (by decide) ?_
  refine g_iconst (v := nI 0) dL_isGood_6 (by decide) ?_
  refine g_istore dL_isGood_7 (by decide) ?_
  refine g_iconst (v := nI 3) dL_isGood_9 (by decide) ?_
  refine g_newi dL_isGood_10 (by decide) rfl rfl ?_
  have ea : zu (zu (cM (lM M0 N R D) Y) n0 (iA 24 (fun _ => 0))) (n0 + 1) (iA 3 (fun _ => 0)) = cM (lM (gM M0 n0 (fun _ => 0) (fun _ => 0)) N R D) Y := by
    rw [zu_lT hn0, zu_lT (by omega)]
    rfl
  rw [ea]
  refine g_astore dL_isGood_12 (by decide) ?_
  refine g_iconst (v := nI 1) dL_isGood_14 (by decide) ?_
  refine g_istore dL_isGood_15 (by decide) ?_
  refine g_iconst (v := nI 0) dL_isGood_17 (by decide) ?_
  refine g_istore dL_isGood_18 (by decide) ?_
  have hEok : ∀ e ∈ esR R day (N 11) ++ esD D day (N 12), okE e.1 := fun e he => (List.mem_append.mp he).elim (fun z => esR_ok hC day _ (Nat.le_refl _) e z) (fun z => esD_ok hC day _ (Nat.le_refl _) e z)
  have hlen : (kgL (esR R day (N 11) ++ esD D day (N 12))).length < 24 := by
    have := esR_len R day (N 11)
    have := esD_len D day (N 12)
    rw [kgL_len, List.length_append]
    omega
  refine g_loc (by rfl) (gl1 hB hC hf1 hd hn0 _ (fun n1 T1 B1 hn1 hT1 => ?_) (N 11) 0 _ _ _ (by omega) (by omega) lAt_nil)
  have e0 : esR R day (N 11) = esR R day (N 11) ++ esD D day 0 := by rw [esD, List.append_nil]
  rw [e0] at hT1 ⊢
  refine g_loc (by rfl) (gl0 hB hC hf2 hd hn0 _ (fun n2 T2 B2 hn2 hT2 => ?_) (N 12) 0 n1 T1 B1 (by omega) hn1 hT1)
  refine g_iconst (v := nI 0) dL_isGood_203 (by decide) ?_
  refine g_istore dL_isGood_204 (by decide) ?_
  refine g_loc (by rfl) (gb1 hB hn0 hT2 hlen (kgL_mem hEok) _ (fun n3 b hn3 => ?_) _ 0 n2 true (Nat.zero_add _) hn2)
  have jr : ∀ (r : Bool) n4, (r = true → icl (N 0) 0 (kgL (esA N R D day)) = true) → G mL_isGood 1 0 0 (some n4) 329 [] [.int (nI r.toNat)] (cM (lM (gM M0 n0 T2 B2) N R D) Y) (zqB (fun b => b = true → icl (N 0) 0 (kgL (esA N R D day)) = true) (cM (lM M0 N R D) Y)) := fun r n4 hr =>
    g_drop (gM_drop hn0 h0) (g_ireturn_b dL_isGood_329 rfl ⟨r, rfl, hr, rfl⟩)
  refine g_iload dL_isGood_306 rfl ?_
  refine g_if_eq_b (tgt := 328) dL_isGood_308 (by decide) (fun h2 => ?_) (fun h2 => ?_)
  · refine g_iconst (v := nI 0) dL_isGood_328 (by decide) ?_
    exact g_loc (by rfl) (jr false n3 (fun q => by cases q))
  · refine g_aload dL_isGood_311 rfl ?_
    refine g_iload dL_isGood_313 rfl ?_
    refine g_aload_n dL_isGood_315 rfl ?_
    refine g_iconst (v := nI 0) dL_isGood_316 (by decide) ?_
    refine g_lN dL_isGood_317 (by omega) ?_
    refine g_callSn_i (kL_isCleaned (gM_T hn0) hT2 rfl (by omega) (fun b hb => by obtain ⟨e, he, rfl⟩ := kgL_mem hEok b hb; exact key_b he) b0) oL_isCleaned pL_isCleaned lL_23 dL_isGood_318 rfl rfl (Nat.le_of_ble_eq_true rfl) (Nat.le_of_ble_eq_true rfl) (by first | decide | omega) (Nat.le_refl _) (Nat.le_refl _) (fun _ e => nf_e e) (fun M1 n4 hn4 e => ?_)
    subst e
    refine g_if_eq_b (tgt := 328) dL_isGood_321 (by decide) (fun h3 => ?_) (fun h3 => ?_)
    · refine g_iconst (v := nI 0) dL_isGood_328 (by decide) ?_
      exact g_loc (by rfl) (jr false n4 (fun q => by cases q))
    · refine g_iconst (v := nI 1) dL_isGood_324 (by decide) ?_
      refine g_goto (tgt := 329) dL_isGood_325 (by decide) ?_
      exact g_loc (by rfl) (jr true n4 (fun _ => h3))
end LGD
