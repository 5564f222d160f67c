/-! the law's isDay -/
def wF (W : Nat → Nat) (f k v : Nat) : Nat → Nat := fun j => if f ≤ j ∧ j < k then v else W j
theorem wF_0 (W : Nat → Nat) (f v : Nat) : wF W f f v = W := by
  funext j
  unfold wF
  rw [if_neg (by omega)]
theorem wF_s (W : Nat → Nat) {f k : Nat} (v : Nat) (h : f ≤ k) : uN (wF W f k v) k v = wF W f (k + 1) v := by
  funext j
  by_cases hj : j = k
  · subst hj
    rw [uN_s]
    unfold wF
    rw [if_pos (by omega)]
  · rw [uN_n _ _ hj]
    unfold wF
    by_cases h2 : f ≤ j ∧ j < k
    · rw [if_pos h2, if_pos (by omega)]
    · rw [if_neg h2, if_neg (by omega)]
theorem i24_s (a : Nat) : nI 24 - nI a + Int32.ofInt (-1) = nI 24 - nI (a + 1) := by
  rw [show Int32.ofInt (-1) = -nI 1 by decide, ← nI_add, Int32.sub_eq_add_neg, Int32.sub_eq_add_neg, Int32.neg_add, Int32.add_assoc, Int32.sub_eq_add_neg]
theorem tnS_app (X : Nat → Nat) (h hr : Nat) : ∀ (l m : List Nat) (a : Int32), tnS X h hr (l ++ m) a = tnS X h hr m (tnS X h hr l a)
  | [], _, _ => rfl
  | p :: l, m, a => by rw [List.cons_append, tnS, tnS, tnS_app X h hr l m]
theorem ih_1 (X : Nat → Nat) (h w p : Nat) (l : List Nat) : ihS X h w (l ++ [p]) 0 = ihS X h w l 0 + if X p = h then ownH X w p else 0 := by
  rw [ihS_app]
  rfl
theorem tn_1 (X : Nat → Nat) (h hr p : Nat) (l : List Nat) (a : Int32) : tnS X h hr (l ++ [p]) a = bif decide (X p = h) && zin (nI hr) (nI (X (p + 2))) (nI (X (p + 3)) - nI 1) then nI (X (p + 5)) else tnS X h hr l a := by
  rw [tnS_app]
  rfl
theorem zin_h {hr f t : Nat} (hh : hr < 24) (hft : f < t) (ht : t ≤ 24) : zin (nI hr) (nI f) (nI t - nI 1) = decide (f ≤ hr ∧ hr < t) := by
  rw [pk_sub (show 1 ≤ t by omega), zin_n (by omega) (by omega) (by omega), ← Bool.decide_and]
  exact decide_eq_decide.mpr (by omega)
/-- what the law has of the lets of a list -/
def dS (X W : Nat → Nat) (h : Nat) (l : List Nat) : Prop := ∀ hr, hr < 24 → nI (W hr) - nI 1 = tnS X h hr l (-1)
theorem dS_t {X W : Nat → Nat} {h p : Nat} {l : List Nat} (hd : dS X W h l) (hp : X p = h) (ho : okT (enx X p)) : dS X (wF W (X (p + 2)) (X (p + 3)) (1 + X (p + 5))) h (l ++ [p]) := fun hr hh => by
  obtain ⟨o1, o2, o3⟩ := ho
  have o2 : X (p + 2) < X (p + 3) := o2
  have o3 : X (p + 3) ≤ 24 := o3
  rw [tn_1, decide_eq_true hp, Bool.true_and, zin_h hh o2 o3]
  unfold wF
  by_cases h1 : X (p + 2) ≤ hr ∧ hr < X (p + 3)
  · rw [if_pos h1, decide_eq_true h1, cond_true, pk_sub (by omega), Nat.add_sub_cancel_left]
  · rw [if_neg h1, decide_eq_false h1, cond_false]
    exact hd hr hh
theorem dS_f {X W : Nat → Nat} {h p : Nat} {l : List Nat} (hd : dS X W h l) (hp : ¬ X p = h) : dS X W h (l ++ [p]) := fun hr hh => by
  rw [tn_1, decide_eq_false hp, Bool.false_and, cond_false]
  exact hd hr hh
section LD
variable {M0 : zM} {X N R D : Nat → Nat} {Y : Nat → Nat → Nat}
theorem idn1 (hB : lB N R D) {q h day t0 : Nat} (hq : q < N 11) (hft : R (11 * q + 2) ≤ R (11 * q + 3)) (h24 : R (11 * q + 3) ≤ 24) (ht0 : 236 ≤ t0) {le re s i n0 : Nat} {W : Nat → Nat} (F : zP) (hF : G mL_isDay 9 0 0 (some n0) 237 [(0, .ref 8), (1, .ref 233), (2, .ref 234), (3, .ref 235), (4, .int (nI h)), (5, .int (nI day)), (6, .ref t0), (7, .int (nI (le))), (8, .int (nI (re))), (9, .int (nI 24 - nI (s + (R (11 * q + 3) - R (11 * q + 2))))), (10, .int (nI (i)))] [] (cM (lM (zu M0 t0 (iA 24 (wF W (R (11 * q + 2)) (R (11 * q + 3)) (1 + R (11 * q + 5))))) N R D) Y) F) : ∀ u k, k + u = R (11 * q + 3) → R (11 * q + 2) ≤ k → G mL_isDay 9 0 0 (some n0) 176 [(0, .ref 8), (1, .ref 233), (2, .ref 234), (3, .ref 235), (4, .int (nI h)), (5, .int (nI day)), (6, .ref t0), (7, .int (nI (le))), (8, .int (nI (re))), (9, .int (nI 24 - nI (s + (k - R (11 * q + 2))))), (10, .int (nI (i))), (11, .int (nI 1)), (12, .int (nI (11 * q))), (13, .int (nI k))] [] (cM (lM (zu M0 t0 (iA 24 (wF W (R (11 * q + 2)) k (1 + R (11 * q + 5))))) N R D) Y) F := by
  obtain ⟨b0, b11, b12, -, -⟩ := id hB
  have r2 := lB_R hB (i := q) (j := 2) hq (by omega)
  have r3 := lB_R hB (i := q) (j := 3) hq (by omega)
  have r5 := lB_R hB (i := q) (j := 5) hq (by omega)
  intro u
  induction u with
  | zero =>
    intro k hk hfk
    refine g_iload dL_isDay_176 rfl ?_
    refine g_iload dL_isDay_178 rfl ?_
    refine g_if_eq_n (tgt := 192) dL_isDay_180 (by decide) (by omega) (fun g => ?_) (fun g => ?_)
    · exact absurd g (by decide)
    · refine g_aload_n dL_isDay_183 rfl ?_
      refine g_iload dL_isDay_184 rfl ?_
      refine g_iconst (v := nI 3) dL_isDay_186 (by decide) ?_
      refine g_iadd_n dL_isDay_187 ?_
      refine g_lR dL_isDay_188 (by omega) ?_
      refine g_goto (tgt := 198) dL_isDay_189 (by decide) ?_
      refine g_icmp_ge_n (tgt := 237) dL_isDay_198 (by decide) (by omega) (by omega) (fun g2 => ?_) (fun g2 => ?_)
      · rw [show k = R (11 * q + 3) by omega]
        exact g_loc (by rfl) hF
      · exact absurd g2 (by omega)
  | succ u ih =>
    intro k hk hfk
    refine g_iload dL_isDay_176 rfl ?_
    refine g_iload dL_isDay_178 rfl ?_
    refine g_if_eq_n (tgt := 192) dL_isDay_180 (by decide) (by omega) (fun g => ?_) (fun g => ?_)
    · exact absurd g (by decide)
    · refine g_aload_n dL_isDay_183 rfl ?_
      refine g_iload dL_isDay_184 rfl ?_
      refine g_iconst (v := nI 3) dL_isDay_186 (by decide) ?_
      refine g_iadd_n dL_isDay_187 ?_
      refine g_lR dL_isDay_188 (by omega) ?_
      refine g_goto (tgt := 198) dL_isDay_189 (by decide) ?_
      refine g_icmp_ge_n (tgt := 237) dL_isDay_198 (by decide) (by omega) (by omega) (fun g2 => ?_) (fun g2 => ?_)
      · exact absurd g2 (by omega)
      · refine g_aload dL_isDay_201 rfl ?_
        refine g_iload dL_isDay_203 rfl ?_
        refine g_iconst (v := nI 1) dL_isDay_205 (by decide) ?_
        refine g_iload dL_isDay_206 rfl ?_
        refine g_if_eq_n (tgt := 220) dL_isDay_208 (by decide) (by omega) (fun g3 => ?_) (fun g3 => ?_)
        · exact absurd g3 (by decide)
        · refine g_aload_n dL_isDay_211 rfl ?_
          refine g_iload dL_isDay_212 rfl ?_
          refine g_iconst (v := nI 5) dL_isDay_214 (by decide) ?_
          refine g_iadd_n dL_isDay_215 ?_
          refine g_lR dL_isDay_216 (by omega) ?_
          refine g_goto (tgt := 226) dL_isDay_217 (by decide) ?_
          refine g_iadd_n dL_isDay_226 ?_
          refine g_iast_n dL_isDay_227 (i := k) (by rw [lM_o ht0, zu_s]) (by omega) (by decide) (by omega) ?_
          rw [zu_lT ht0, zu_u, wF_s _ _ hfk]
          refine g_iinc (v := nI 24 - nI (s + (k - R (11 * q + 2)) + 1)) dL_isDay_228 rfl (i24_s _) (by decide) ?_
          refine g_iinc_n (c := 1) dL_isDay_231 rfl (by decide) (by decide) ?_
          refine g_goto (tgt := 176) dL_isDay_234 (by decide) ?_
          refine g_loc ?_ (ih (k + 1) (by omega) (by omega))
          rw [show s + (k + 1 - R (11 * q + 2)) = s + (k - R (11 * q + 2)) + 1 by omega]
          rfl
theorem idm1 (hB : lB N R D) {q h day t0 : Nat} (hq : q < N 11) (hft : R (11 * q + 2) ≤ R (11 * q + 3)) (h24 : R (11 * q + 3) ≤ 24) (ht0 : 236 ≤ t0) {le re s i n0 : Nat} {W : Nat → Nat} (F : zP) (hF : G mL_isDay 9 0 0 (some n0) 237 [(0, .ref 8), (1, .ref 233), (2, .ref 234), (3, .ref 235), (4, .int (nI h)), (5, .int (nI day)), (6, .ref t0), (7, .int (nI (le + 1))), (8, .int (nI (re + R (11 * q + 6)))), (9, .int (nI 24 - nI (s + (R (11 * q + 3) - R (11 * q + 2))))), (10, .int (nI (i)))] [] (cM (lM (zu M0 t0 (iA 24 (wF W (R (11 * q + 2)) (R (11 * q + 3)) (1 + R (11 * q + 5))))) N R D) Y) F) : G mL_isDay 9 0 0 (some n0) 124 [(0, .ref 8), (1, .ref 233), (2, .ref 234), (3, .ref 235), (4, .int (nI h)), (5, .int (nI day)), (6, .ref t0), (7, .int (nI (le))), (8, .int (nI (re))), (9, .int (nI 24 - nI (s))), (10, .int (nI (i))), (11, .int (nI 1)), (12, .int (nI (11 * q)))] [] (cM (lM (zu M0 t0 (iA 24 W)) N R D) Y) F := by
  obtain ⟨b0, b11, b12, -, -⟩ := id hB
  have r2 := lB_R hB (i := q) (j := 2) hq (by omega)
  have r3 := lB_R hB (i := q) (j := 3) hq (by omega)
  have r6 := lB_R hB (i := q) (j := 6) hq (by omega)
  refine g_iinc_n (c := 1) dL_isDay_124 rfl (by decide) (by decide) ?_
  refine g_iload dL_isDay_127 rfl ?_
  refine g_iload dL_isDay_129 rfl ?_
  refine g_if_eq_n (tgt := 144) dL_isDay_131 (by decide) (by omega) (fun g => ?_) (fun g => ?_)
  · exact absurd g (by decide)
  · refine g_aload_n dL_isDay_134 rfl ?_
    refine g_iload dL_isDay_135 rfl ?_
    refine g_bipush (v := nI 6) dL_isDay_137 (by decide) ?_
    refine g_iadd_n dL_isDay_139 ?_
    refine g_lR dL_isDay_140 (by omega) ?_
    refine g_goto (tgt := 151) dL_isDay_141 (by decide) ?_
    refine g_iadd_n dL_isDay_151 ?_
    refine g_istore dL_isDay_152 (by decide) ?_
    refine g_iload dL_isDay_154 rfl ?_
    refine g_if_eq_n (tgt := 168) dL_isDay_156 (by decide) (by omega) (fun g2 => ?_) (fun g2 => ?_)
    · exact absurd g2 (by decide)
    · refine g_aload_n dL_isDay_159 rfl ?_
      refine g_iload dL_isDay_160 rfl ?_
      refine g_iconst (v := nI 2) dL_isDay_162 (by decide) ?_
      refine g_iadd_n dL_isDay_163 ?_
      refine g_lR dL_isDay_164 (by omega) ?_
      refine g_goto (tgt := 174) dL_isDay_165 (by decide) ?_
      refine g_istore dL_isDay_174 (by decide) ?_
      refine g_m (by rw [wF_0]) (g_loc ?_ (idn1 hB hq hft h24 ht0 (le := le + 1) (re := re + R (11 * q + 6)) (s := s) (W := W) F hF (R (11 * q + 3) - R (11 * q + 2)) (R (11 * q + 2)) (by omega) (Nat.le_refl _)))
      rw [Nat.sub_self, Nat.add_zero]
      rfl
theorem idn0 (hB : lB N R D) {q h day t0 : Nat} (hq : q < N 12) (hft : D (7 * q + 2) ≤ D (7 * q + 3)) (h24 : D (7 * q + 3) ≤ 24) (ht0 : 236 ≤ t0) {le re s i n0 : Nat} {W : Nat → Nat} (F : zP) (hF : G mL_isDay 9 0 0 (some n0) 237 [(0, .ref 8), (1, .ref 233), (2, .ref 234), (3, .ref 235), (4, .int (nI h)), (5, .int (nI day)), (6, .ref t0), (7, .int (nI (le))), (8, .int (nI (re))), (9, .int (nI 24 - nI (s + (D (7 * q + 3) - D (7 * q + 2))))), (10, .int (nI (i)))] [] (cM (lM (zu M0 t0 (iA 24 (wF W (D (7 * q + 2)) (D (7 * q + 3)) (1 + D (7 * q + 5))))) N R D) Y) F) : ∀ u k, k + u = D (7 * q + 3) → D (7 * q + 2) ≤ k → G mL_isDay 9 0 0 (some n0) 176 [(0, .ref 8), (1, .ref 233), (2, .ref 234), (3, .ref 235), (4, .int (nI h)), (5, .int (nI day)), (6, .ref t0), (7, .int (nI (le))), (8, .int (nI (re))), (9, .int (nI 24 - nI (s + (k - D (7 * q + 2))))), (10, .int (nI (i))), (11, .int (nI 0)), (12, .int (nI (7 * q))), (13, .int (nI k))] [] (cM (lM (zu M0 t0 (iA 24 (wF W (D (7 * q + 2)) k (1 + D (7 * q + 5))))) N R D) Y) F := by
  obtain ⟨b0, b11, b12, -, -⟩ := id hB
  have r2 := lB_D hB (i := q) (j := 2) hq (by omega)
  have r3 := lB_D hB (i := q) (j := 3) hq (by omega)
  have r5 := lB_D hB (i := q) (j := 5) hq (by omega)
  intro u
  induction u with
  | zero =>
    intro k hk hfk
    refine g_iload dL_isDay_176 rfl ?_
    refine g_iload dL_isDay_178 rfl ?_
    refine g_if_eq_n (tgt := 192) dL_isDay_180 (by decide) (by omega) (fun g => ?_) (fun g => ?_)
    · refine g_aload_n dL_isDay_192 rfl ?_
      refine g_iload dL_isDay_193 rfl ?_
      refine g_iconst (v := nI 3) dL_isDay_195 (by decide) ?_
      refine g_iadd_n dL_isDay_196 ?_
      refine g_lD dL_isDay_197 (by omega) ?_
      refine g_icmp_ge_n (tgt := 237) dL_isDay_198 (by decide) (by omega) (by omega) (fun g2 => ?_) (fun g2 => ?_)
      · rw [show k = D (7 * q + 3) by omega]
        exact g_loc (by rfl) hF
      · exact absurd g2 (by omega)
    · exact absurd rfl g
  | succ u ih =>
    intro k hk hfk
    refine g_iload dL_isDay_176 rfl ?_
    refine g_iload dL_isDay_178 rfl ?_
    refine g_if_eq_n (tgt := 192) dL_isDay_180 (by decide) (by omega) (fun g => ?_) (fun g => ?_)
    · refine g_aload_n dL_isDay_192 rfl ?_
      refine g_iload dL_isDay_193 rfl ?_
      refine g_iconst (v := nI 3) dL_isDay_195 (by decide) ?_
      refine g_iadd_n dL_isDay_196 ?_
      refine g_lD dL_isDay_197 (by omega) ?_
      refine g_icmp_ge_n (tgt := 237) dL_isDay_198 (by decide) (by omega) (by omega) (fun g2 => ?_) (fun g2 => ?_)
      · exact absurd g2 (by omega)
      · refine g_aload dL_isDay_201 rfl ?_
        refine g_iload dL_isDay_203 rfl ?_
        refine g_iconst (v := nI 1) dL_isDay_205 (by decide) ?_
        refine g_iload dL_isDay_206 rfl ?_
        refine g_if_eq_n (tgt := 220) dL_isDay_208 (by decide) (by omega) (fun g3 => ?_) (fun g3 => ?_)
        · refine g_aload_n dL_isDay_220 rfl ?_
          refine g_iload dL_isDay_221 rfl ?_
          refine g_iconst (v := nI 5) dL_isDay_223 (by decide) ?_
          refine g_iadd_n dL_isDay_224 ?_
          refine g_lD dL_isDay_225 (by omega) ?_
          refine g_iadd_n dL_isDay_226 ?_
          refine g_iast_n dL_isDay_227 (i := k) (by rw [lM_o ht0, zu_s]) (by omega) (by decide) (by omega) ?_
          rw [zu_lT ht0, zu_u, wF_s _ _ hfk]
          refine g_iinc (v := nI 24 - nI (s + (k - D (7 * q + 2)) + 1)) dL_isDay_228 rfl (i24_s _) (by decide) ?_
          refine g_iinc_n (c := 1) dL_isDay_231 rfl (by decide) (by decide) ?_
          refine g_goto (tgt := 176) dL_isDay_234 (by decide) ?_
          refine g_loc ?_ (ih (k + 1) (by omega) (by omega))
          rw [show s + (k + 1 - D (7 * q + 2)) = s + (k - D (7 * q + 2)) + 1 by omega]
          rfl
        · exact absurd rfl g3
    · exact absurd rfl g
theorem idm0 (hB : lB N R D) {q h day t0 : Nat} (hq : q < N 12) (hft : D (7 * q + 2) ≤ D (7 * q + 3)) (h24 : D (7 * q + 3) ≤ 24) (ht0 : 236 ≤ t0) {le re s i n0 : Nat} {W : Nat → Nat} (F : zP) (hF : G mL_isDay 9 0 0 (some n0) 237 [(0, .ref 8), (1, .ref 233), (2, .ref 234), (3, .ref 235), (4, .int (nI h)), (5, .int (nI day)), (6, .ref t0), (7, .int (nI (le + 1))), (8, .int (nI (re + D (7 * q + 6)))), (9, .int (nI 24 - nI (s + (D (7 * q + 3) - D (7 * q + 2))))), (10, .int (nI (i)))] [] (cM (lM (zu M0 t0 (iA 24 (wF W (D (7 * q + 2)) (D (7 * q + 3)) (1 + D (7 * q + 5))))) N R D) Y) F) : G mL_isDay 9 0 0 (some n0) 124 [(0, .ref 8), (1, .ref 233), (2, .ref 234), (3, .ref 235), (4, .int (nI h)), (5, .int (nI day)), (6, .ref t0), (7, .int (nI (le))), (8, .int (nI (re))), (9, .int (nI 24 - nI (s))), (10, .int (nI (i))), (11, .int (nI 0)), (12, .int (nI (7 * q)))] [] (cM (lM (zu M0 t0 (iA 24 W)) N R D) Y) F := by
  obtain ⟨b0, b11, b12, -, -⟩ := id hB
  have r2 := lB_D hB (i := q) (j := 2) hq (by omega)
  have r3 := lB_D hB (i := q) (j := 3) hq (by omega)
  have r6 := lB_D hB (i := q) (j := 6) hq (by omega)
  refine g_iinc_n (c := 1) dL_isDay_124 rfl (by decide) (by decide) ?_
  refine g_iload dL_isDay_127 rfl ?_
  refine g_iload dL_isDay_129 rfl ?_
  refine g_if_eq_n (tgt := 144) dL_isDay_131 (by decide) (by omega) (fun g => ?_) (fun g => ?_)
  · refine g_aload_n dL_isDay_144 rfl ?_
    refine g_iload dL_isDay_145 rfl ?_
    refine g_bipush (v := nI 6) dL_isDay_147 (by decide) ?_
    refine g_iadd_n dL_isDay_149 ?_
    refine g_lD dL_isDay_150 (by omega) ?_
    refine g_iadd_n dL_isDay_151 ?_
    refine g_istore dL_isDay_152 (by decide) ?_
    refine g_iload dL_isDay_154 rfl ?_
    refine g_if_eq_n (tgt := 168) dL_isDay_156 (by decide) (by omega) (fun g2 => ?_) (fun g2 => ?_)
    · refine g_aload_n dL_isDay_168 rfl ?_
      refine g_iload dL_isDay_169 rfl ?_
      refine g_iconst (v := nI 2) dL_isDay_171 (by decide) ?_
      refine g_iadd_n dL_isDay_172 ?_
      refine g_lD dL_isDay_173 (by omega) ?_
      refine g_istore dL_isDay_174 (by decide) ?_
      refine g_m (by rw [wF_0]) (g_loc ?_ (idn0 hB hq hft h24 ht0 (le := le + 1) (re := re + D (7 * q + 6)) (s := s) (W := W) F hF (D (7 * q + 3) - D (7 * q + 2)) (D (7 * q + 2)) (by omega) (Nat.le_refl _)))
      rw [Nat.sub_self, Nat.add_zero]
      rfl
    · exact absurd rfl g2
  · exact absurd rfl g
theorem idl1 (hX : XG X) (hL : Lw X N R D) {h day t0 : Nat} (hh : h ≤ 2) (hd : day < 84) (ht0 : 236 ≤ t0) (F : zP) (hF : ∀ n1 W, 236 ≤ n1 → dS X W h (lkR X day (N 11)) → G mL_isDay 9 0 0 (some n1) 19 [(0, .ref 8), (1, .ref 233), (2, .ref 234), (3, .ref 235), (4, .int (nI h)), (5, .int (nI day)), (6, .ref t0), (7, .int (nI (ihS X h 0 (lkR X day (N 11)) 0))), (8, .int (nI (ihS X h 2 (lkR X day (N 11)) 0))), (9, .int (nI 24 - nI (ihS X h 1 (lkR X day (N 11)) 0))), (10, .int (nI ((N 11))))] [] (cM (lM (zu M0 t0 (iA 24 W)) N R D) Y) F) : ∀ u q n0 W, q + u = N 11 → 236 ≤ n0 → dS X W h (lkR X day q) → G mL_isDay 9 0 0 (some n0) 19 [(0, .ref 8), (1, .ref 233), (2, .ref 234), (3, .ref 235), (4, .int (nI h)), (5, .int (nI day)), (6, .ref t0), (7, .int (nI (ihS X h 0 (lkR X day q) 0))), (8, .int (nI (ihS X h 2 (lkR X day q) 0))), (9, .int (nI 24 - nI (ihS X h 1 (lkR X day q) 0))), (10, .int (nI (q)))] [] (cM (lM (zu M0 t0 (iA 24 W)) N R D) Y) F := by
  have hB := Lw_B hL hX
  obtain ⟨b0, b11, b12, -, -⟩ := id hB
  intro u
  induction u with
  | zero =>
    intro q n0 W hq hn0 hW
    rw [show q = N 11 by omega] at hW ⊢
    exact hF n0 W hn0 hW
  | succ u ih =>
    intro q n0 W hq hn0 hW
    have hqN : q < N 11 := by omega
    have hqX : q < X 11 := by rw [← hL.2.1.1]; exact hqN
    have r0 : R (11 * q) < 1048576 := lB_R hB (i := q) (j := 0) hqN (by omega)
    have r1 := lB_R hB (i := q) (j := 1) hqN (by omega)
    have x0 : R (11 * q) = X (12 + 10 * q) := Lw_r hL hqX (j := 0) (by omega)
    have x1 : R (11 * q + 1) = X (12 + 10 * q + 1) := Lw_r hL hqX (by omega)
    have x2 : R (11 * q + 2) = X (12 + 10 * q + 2) := Lw_r hL hqX (by omega)
    have x3 : R (11 * q + 3) = X (12 + 10 * q + 3) := Lw_r hL hqX (by omega)
    have x5 : R (11 * q + 5) = X (12 + 10 * q + 5) := Lw_r hL hqX (by omega)
    have x6 : R (11 * q + 6) = X (12 + 10 * q + 6) := Lw_r hL hqX (by omega)
    have ho := okT_R hX hqX
    have o2 : X (12 + 10 * q + 2) < X (12 + 10 * q + 3) := ho.2.1
    have o3 : X (12 + 10 * q + 3) ≤ 24 := ho.2.2
    have eF : stdR X q day = false → (lkR X day (q + 1)) = (lkR X day q) := fun hs => by rw [lkR, hs, cond_false, List.append_nil]
    have eT : stdR X q day = true → (lkR X day (q + 1)) = (lkR X day q) ++ [12 + 10 * q] := fun hs => by rw [lkR, hs, cond_true]
    have jn : (stdR X q day = false ∨ ¬ X (12 + 10 * q) = h) → ∀ n1, 236 ≤ n1 → G mL_isDay 9 0 0 (some n1) 237 [(0, .ref 8), (1, .ref 233), (2, .ref 234), (3, .ref 235), (4, .int (nI h)), (5, .int (nI day)), (6, .ref t0), (7, .int (nI (ihS X h 0 (lkR X day q) 0))), (8, .int (nI (ihS X h 2 (lkR X day q) 0))), (9, .int (nI 24 - nI (ihS X h 1 (lkR X day q) 0))), (10, .int (nI (q)))] [] (cM (lM (zu M0 t0 (iA 24 W)) N R D) Y) F := fun hs n1 hn1 => by
      refine g_iinc_n (c := 1) dL_isDay_237 rfl (by decide) (by decide) ?_
      refine g_goto (tgt := 19) dL_isDay_240 (by decide) ?_
      have key : (lkR X day (q + 1)) = (lkR X day q) ∨ ((lkR X day (q + 1)) = (lkR X day q) ++ [12 + 10 * q] ∧ ¬ X (12 + 10 * q) = h) := by
        cases hc : stdR X q day
        · exact Or.inl (eF hc)
        · rcases hs with hs | hs
          · rw [hc] at hs; cases hs
          · exact Or.inr ⟨eT hc, hs⟩
      rcases key with e | ⟨e, hne⟩
      · have := ih (q + 1) n1 W (by omega) hn1 (by rw [e]; exact hW)
        rw [e] at this
        exact g_loc (by rfl) this
      · have := ih (q + 1) n1 W (by omega) hn1 (by rw [e]; exact dS_f hW hne)
        rw [e, ih_1, ih_1, ih_1, if_neg hne, if_neg hne, if_neg hne] at this
        exact g_loc (by rfl) this
    have jm : stdR X q day = true → X (12 + 10 * q) = h → ∀ n1, 236 ≤ n1 → G mL_isDay 9 0 0 (some n1) 124 [(0, .ref 8), (1, .ref 233), (2, .ref 234), (3, .ref 235), (4, .int (nI h)), (5, .int (nI day)), (6, .ref t0), (7, .int (nI (ihS X h 0 (lkR X day q) 0))), (8, .int (nI (ihS X h 2 (lkR X day q) 0))), (9, .int (nI 24 - nI (ihS X h 1 (lkR X day q) 0))), (10, .int (nI (q))), (11, .int (nI 1)), (12, .int (nI (11 * q)))] [] (cM (lM (zu M0 t0 (iA 24 W)) N R D) Y) F := fun hs hph n1 hn1 => by
      refine idm1 hB hqN (by omega) (by omega) ht0 F ?_
      refine g_iinc_n (c := 1) dL_isDay_237 rfl (by decide) (by decide) ?_
      refine g_goto (tgt := 19) dL_isDay_240 (by decide) ?_
      have := ih (q + 1) n1 (wF W (X (12 + 10 * q + 2)) (X (12 + 10 * q + 3)) (1 + X (12 + 10 * q + 5))) (by omega) hn1 (by rw [eT hs]; exact dS_t hW hph ho)
      rw [eT hs, ih_1, ih_1, ih_1, if_pos hph, if_pos hph, if_pos hph] at this
      rw [x2, x3, x5, x6]
      exact g_loc (by rfl) this
    refine g_iload dL_isDay_19 rfl ?_
    refine g_aload_n dL_isDay_21 rfl ?_
    refine g_bipush (v := nI 11) dL_isDay_22 (by decide) ?_
    refine g_lN dL_isDay_24 (by omega) ?_
    refine g_aload_n dL_isDay_25 rfl ?_
    refine g_bipush (v := nI 12) dL_isDay_26 (by decide) ?_
    refine g_lN dL_isDay_28 (by omega) ?_
    refine g_iadd_n dL_isDay_29 ?_
    refine g_icmp_ge_n (tgt := 243) dL_isDay_30 (by decide) (by omega) (by omega) (fun h1 => ?_) (fun h1 => ?_)
    · exact absurd h1 (by omega)
    · refine g_iload dL_isDay_33 rfl ?_
      refine g_aload_n dL_isDay_35 rfl ?_
      refine g_bipush (v := nI 11) dL_isDay_36 (by decide) ?_
      refine g_lN dL_isDay_38 (by omega) ?_
      refine g_icmp_ge_n (tgt := 46) dL_isDay_39 (by decide) (by omega) (by omega) (fun h2 => ?_) (fun h2 => ?_)
      · exact absurd h2 (by omega)
      · refine g_iconst (v := nI 1) dL_isDay_42 (by decide) ?_
        refine g_goto (tgt := 47) dL_isDay_43 (by decide) ?_
        refine g_istore dL_isDay_47 (by decide) ?_
        refine g_iload dL_isDay_49 rfl ?_
        refine g_if_eq_n (tgt := 62) dL_isDay_51 (by decide) (by omega) (fun h3 => ?_) (fun h3 => ?_)
        · exact absurd h3 (by decide)
        · refine g_bipush (v := nI 11) dL_isDay_54 (by decide) ?_
          refine g_iload dL_isDay_56 rfl ?_
          refine g_imul_n dL_isDay_58 ?_
          refine g_goto (tgt := 72) dL_isDay_59 (by decide) ?_
          refine g_istore dL_isDay_72 (by decide) ?_
          refine g_iload dL_isDay_74 rfl ?_
          refine g_if_eq_n (tgt := 99) dL_isDay_76 (by decide) (by omega) (fun h4 => ?_) (fun h4 => ?_)
          · exact absurd h4 (by decide)
          · refine g_aload_n dL_isDay_79 rfl ?_
            refine g_iload dL_isDay_80 rfl ?_
            refine g_iload dL_isDay_82 rfl ?_
            have r9 := lB_R hB (i := q) (j := 9) hqN (by omega)
            refine g_callSn_i (kL_stands (i := q) (day := day) (by omega) hd r1 r9) oL_stands pL_stands lL_15 dL_isDay_84 rfl rfl (Nat.le_of_ble_eq_true rfl) (Nat.le_of_ble_eq_true rfl) (by first | decide | omega) (Nat.le_refl _) (Nat.le_refl _) (fun _ e => nf_e e) (fun M1 n1 hn1 e => ?_)
            subst e
            rw [Lw_st hL hqX hd]
            refine g_if_eq_b (tgt := 99) dL_isDay_87 (by decide) (fun h5 => ?_) (fun h5 => ?_)
            · refine g_iload dL_isDay_99 rfl ?_
              refine g_if_ne_n (tgt := 237) dL_isDay_101 (by decide) (by omega) (fun h6 => ?_) (fun h6 => ?_)
              · exact g_loc (by rfl) (jn (Or.inl h5) n1 (by omega))
              · exact absurd h6 (by decide)
            · refine g_aload_n dL_isDay_90 rfl ?_
              refine g_iload dL_isDay_91 rfl ?_
              refine g_lR dL_isDay_93 (by omega) ?_
              refine g_iload dL_isDay_94 rfl ?_
              refine g_icmp_eq_n (tgt := 124) dL_isDay_96 (by decide) (by omega) (by omega) (fun h6 => ?_) (fun h6 => ?_)
              · exact g_loc (by rfl) (jm h5 (by omega) n1 (by omega))
              · refine g_iload dL_isDay_99 rfl ?_
                refine g_if_ne_n (tgt := 237) dL_isDay_101 (by decide) (by omega) (fun h7 => ?_) (fun h7 => ?_)
                · exact g_loc (by rfl) (jn (Or.inr (by omega)) n1 (by omega))
                · exact absurd h7 (by decide)
theorem idl0 (hX : XG X) (hL : Lw X N R D) {h day t0 : Nat} (hh : h ≤ 2) (hd : day < 84) (ht0 : 236 ≤ t0) (F : zP) (hF : ∀ n1 W, 236 ≤ n1 → dS X W h (lk X day) → G mL_isDay 9 0 0 (some n1) 243 [(0, .ref 8), (1, .ref 233), (2, .ref 234), (3, .ref 235), (4, .int (nI h)), (5, .int (nI day)), (6, .ref t0), (7, .int (nI (ihS X h 0 (lk X day) 0))), (8, .int (nI (ihS X h 2 (lk X day) 0))), (9, .int (nI 24 - nI (ihS X h 1 (lk X day) 0))), (10, .int (nI (N 11 + N 12)))] [] (cM (lM (zu M0 t0 (iA 24 W)) N R D) Y) F) : ∀ u q n0 W, q + u = N 12 → 236 ≤ n0 → dS X W h (lkR X day (X 11) ++ lkS X day q) → G mL_isDay 9 0 0 (some n0) 19 [(0, .ref 8), (1, .ref 233), (2, .ref 234), (3, .ref 235), (4, .int (nI h)), (5, .int (nI day)), (6, .ref t0), (7, .int (nI (ihS X h 0 (lkR X day (X 11) ++ lkS X day q) 0))), (8, .int (nI (ihS X h 2 (lkR X day (X 11) ++ lkS X day q) 0))), (9, .int (nI 24 - nI (ihS X h 1 (lkR X day (X 11) ++ lkS X day q) 0))), (10, .int (nI (N 11 + q)))] [] (cM (lM (zu M0 t0 (iA 24 W)) N R D) Y) F := by
  have hB := Lw_B hL hX
  obtain ⟨b0, b11, b12, -, -⟩ := id hB
  intro u
  induction u with
  | zero =>
    intro q n0 W hq hn0 hW
    have e : lkR X day (X 11) ++ lkS X day q = lk X day := by rw [lk, ← hL.2.1.2, show q = N 12 by omega]
    rw [e] at hW ⊢
    refine g_iload dL_isDay_19 rfl ?_
    refine g_aload_n dL_isDay_21 rfl ?_
    refine g_bipush (v := nI 11) dL_isDay_22 (by decide) ?_
    refine g_lN dL_isDay_24 (by omega) ?_
    refine g_aload_n dL_isDay_25 rfl ?_
    refine g_bipush (v := nI 12) dL_isDay_26 (by decide) ?_
    refine g_lN dL_isDay_28 (by omega) ?_
    refine g_iadd_n dL_isDay_29 ?_
    refine g_icmp_ge_n (tgt := 243) dL_isDay_30 (by decide) (by omega) (by omega) (fun h1 => ?_) (fun h1 => ?_)
    · refine g_loc ?_ (hF n0 W hn0 hW)
      rw [show N 11 + q = N 11 + N 12 by omega]
      rfl
    · exact absurd h1 (by omega)
  | succ u ih =>
    intro q n0 W hq hn0 hW
    have hqN : q < N 12 := by omega
    have hqX : q < X 92 := by rw [← hL.2.1.2]; exact hqN
    have r0 : D (7 * q) < 1048576 := lB_D hB (i := q) (j := 0) hqN (by omega)
    have r1 := lB_D hB (i := q) (j := 1) hqN (by omega)
    have x0 : D (7 * q) = X (93 + 7 * q) := Lw_d hL hqX (j := 0) (by omega)
    have x1 : D (7 * q + 1) = X (93 + 7 * q + 1) := Lw_d hL hqX (by omega)
    have x2 : D (7 * q + 2) = X (93 + 7 * q + 2) := Lw_d hL hqX (by omega)
    have x3 : D (7 * q + 3) = X (93 + 7 * q + 3) := Lw_d hL hqX (by omega)
    have x5 : D (7 * q + 5) = X (93 + 7 * q + 5) := Lw_d hL hqX (by omega)
    have x6 : D (7 * q + 6) = X (93 + 7 * q + 6) := Lw_d hL hqX (by omega)
    have ho := okT_D hX hqX
    have o2 : X (93 + 7 * q + 2) < X (93 + 7 * q + 3) := ho.2.1
    have o3 : X (93 + 7 * q + 3) ≤ 24 := ho.2.2
    have eF : decide (X (93 + 7 * q + 1) = day) = false → (lkR X day (X 11) ++ lkS X day (q + 1)) = (lkR X day (X 11) ++ lkS X day q) := fun hs => by rw [lkS, hs, cond_false, List.append_nil]
    have eT : decide (X (93 + 7 * q + 1) = day) = true → (lkR X day (X 11) ++ lkS X day (q + 1)) = (lkR X day (X 11) ++ lkS X day q) ++ [93 + 7 * q] := fun hs => by rw [lkS, hs, cond_true, ← List.append_assoc]
    have jn : (decide (X (93 + 7 * q + 1) = day) = false ∨ ¬ X (93 + 7 * q) = h) → ∀ n1, 236 ≤ n1 → G mL_isDay 9 0 0 (some n1) 237 [(0, .ref 8), (1, .ref 233), (2, .ref 234), (3, .ref 235), (4, .int (nI h)), (5, .int (nI day)), (6, .ref t0), (7, .int (nI (ihS X h 0 (lkR X day (X 11) ++ lkS X day q) 0))), (8, .int (nI (ihS X h 2 (lkR X day (X 11) ++ lkS X day q) 0))), (9, .int (nI 24 - nI (ihS X h 1 (lkR X day (X 11) ++ lkS X day q) 0))), (10, .int (nI (N 11 + q)))] [] (cM (lM (zu M0 t0 (iA 24 W)) N R D) Y) F := fun hs n1 hn1 => by
      refine g_iinc_n (c := 1) dL_isDay_237 rfl (by decide) (by decide) ?_
      refine g_goto (tgt := 19) dL_isDay_240 (by decide) ?_
      have key : (lkR X day (X 11) ++ lkS X day (q + 1)) = (lkR X day (X 11) ++ lkS X day q) ∨ ((lkR X day (X 11) ++ lkS X day (q + 1)) = (lkR X day (X 11) ++ lkS X day q) ++ [93 + 7 * q] ∧ ¬ X (93 + 7 * q) = h) := by
        cases hc : decide (X (93 + 7 * q + 1) = day)
        · exact Or.inl (eF hc)
        · rcases hs with hs | hs
          · rw [hc] at hs; cases hs
          · exact Or.inr ⟨eT hc, hs⟩
      rcases key with e | ⟨e, hne⟩
      · have := ih (q + 1) n1 W (by omega) hn1 (by rw [e]; exact hW)
        rw [e] at this
        exact g_loc (by rfl) this
      · have := ih (q + 1) n1 W (by omega) hn1 (by rw [e]; exact dS_f hW hne)
        rw [e, ih_1, ih_1, ih_1, if_neg hne, if_neg hne, if_neg hne] at this
        exact g_loc (by rfl) this
    have jm : decide (X (93 + 7 * q + 1) = day) = true → X (93 + 7 * q) = h → ∀ n1, 236 ≤ n1 → G mL_isDay 9 0 0 (some n1) 124 [(0, .ref 8), (1, .ref 233), (2, .ref 234), (3, .ref 235), (4, .int (nI h)), (5, .int (nI day)), (6, .ref t0), (7, .int (nI (ihS X h 0 (lkR X day (X 11) ++ lkS X day q) 0))), (8, .int (nI (ihS X h 2 (lkR X day (X 11) ++ lkS X day q) 0))), (9, .int (nI 24 - nI (ihS X h 1 (lkR X day (X 11) ++ lkS X day q) 0))), (10, .int (nI (N 11 + q))), (11, .int (nI 0)), (12, .int (nI (7 * q)))] [] (cM (lM (zu M0 t0 (iA 24 W)) N R D) Y) F := fun hs hph n1 hn1 => by
      refine idm0 hB hqN (by omega) (by omega) ht0 F ?_
      refine g_iinc_n (c := 1) dL_isDay_237 rfl (by decide) (by decide) ?_
      refine g_goto (tgt := 19) dL_isDay_240 (by decide) ?_
      have := ih (q + 1) n1 (wF W (X (93 + 7 * q + 2)) (X (93 + 7 * q + 3)) (1 + X (93 + 7 * q + 5))) (by omega) hn1 (by rw [eT hs]; exact dS_t hW hph ho)
      rw [eT hs, ih_1, ih_1, ih_1, if_pos hph, if_pos hph, if_pos hph] at this
      rw [x2, x3, x5, x6]
      exact g_loc (by rfl) this
    refine g_iload dL_isDay_19 rfl ?_
    refine g_aload_n dL_isDay_21 rfl ?_
    refine g_bipush (v := nI 11) dL_isDay_22 (by decide) ?_
    refine g_lN dL_isDay_24 (by omega) ?_
    refine g_aload_n dL_isDay_25 rfl ?_
    refine g_bipush (v := nI 12) dL_isDay_26 (by decide) ?_
    refine g_lN dL_isDay_28 (by omega) ?_
    refine g_iadd_n dL_isDay_29 ?_
    refine g_icmp_ge_n (tgt := 243) dL_isDay_30 (by decide) (by omega) (by omega) (fun h1 => ?_) (fun h1 => ?_)
    · exact absurd h1 (by omega)
    · refine g_iload dL_isDay_33 rfl ?_
      refine g_aload_n dL_isDay_35 rfl ?_
      refine g_bipush (v := nI 11) dL_isDay_36 (by decide) ?_
      refine g_lN dL_isDay_38 (by omega) ?_
      refine g_icmp_ge_n (tgt := 46) dL_isDay_39 (by decide) (by omega) (by omega) (fun h2 => ?_) (fun h2 => ?_)
      · refine g_iconst (v := nI 0) dL_isDay_46 (by decide) ?_
        refine g_istore dL_isDay_47 (by decide) ?_
        refine g_iload dL_isDay_49 rfl ?_
        refine g_if_eq_n (tgt := 62) dL_isDay_51 (by decide) (by omega) (fun h3 => ?_) (fun h3 => ?_)
        · refine g_bipush (v := nI 7) dL_isDay_62 (by decide) ?_
          refine g_iload dL_isDay_64 rfl ?_
          refine g_aload_n dL_isDay_66 rfl ?_
          refine g_bipush (v := nI 11) dL_isDay_67 (by decide) ?_
          refine g_lN dL_isDay_69 (by omega) ?_
          refine g_isub_n dL_isDay_70 (by omega) ?_
          rw [show N 11 + q - N 11 = q by omega]
          refine g_imul_n dL_isDay_71 ?_
          refine g_istore dL_isDay_72 (by decide) ?_
          refine g_iload dL_isDay_74 rfl ?_
          refine g_if_eq_n (tgt := 99) dL_isDay_76 (by decide) (by omega) (fun h4 => ?_) (fun h4 => ?_)
          · refine g_iload dL_isDay_99 rfl ?_
            refine g_if_ne_n (tgt := 237) dL_isDay_101 (by decide) (by omega) (fun h5 => ?_) (fun h5 => ?_)
            · exact absurd rfl h5
            · refine g_aload_n dL_isDay_104 rfl ?_
              refine g_iload dL_isDay_105 rfl ?_
              refine g_iconst (v := nI 1) dL_isDay_107 (by decide) ?_
              refine g_iadd_n dL_isDay_108 ?_
              refine g_lD dL_isDay_109 (by omega) ?_
              refine g_iload dL_isDay_110 rfl ?_
              refine g_icmp_ne_n (tgt := 237) dL_isDay_112 (by decide) (by omega) (by omega) (fun h6 => ?_) (fun h6 => ?_)
              · exact g_loc (by rfl) (jn (Or.inl (decide_eq_false (by omega))) n0 hn0)
              · refine g_aload_n dL_isDay_115 rfl ?_
                refine g_iload dL_isDay_116 rfl ?_
                refine g_lD dL_isDay_118 (by omega) ?_
                refine g_iload dL_isDay_119 rfl ?_
                refine g_icmp_ne_n (tgt := 237) dL_isDay_121 (by decide) (by omega) (by omega) (fun h7 => ?_) (fun h7 => ?_)
                · exact g_loc (by rfl) (jn (Or.inr (by omega)) n0 hn0)
                · exact g_loc (by rfl) (jm (decide_eq_true (by omega)) (by omega) n0 hn0)
          · exact absurd rfl h4
        · exact absurd rfl h3
      · exact absurd h2 (by omega)
theorem idw (hL : Lw X N R D) {h day t0 : Nat} (hh : h ≤ 2) (hd : day < 84) (ht0 : 236 ≤ t0) (h0 : M0 t0 = none) {W : Nat → Nat} (hW : dS X W h (lk X day)) : ∀ u k n0 Y, k + u = 24 → 236 ≤ n0 → IV Y X → G mL_isDay 9 0 0 (some n0) 309 [(0, .ref 8), (1, .ref 233), (2, .ref 234), (3, .ref 235), (4, .int (nI h)), (5, .int (nI day)), (6, .ref t0), (10, .int (nI 1)), (11, .int (nI k))] [] (cM (lM (zu M0 t0 (iA 24 W)) N R D) Y) (zqI (nI 1) (fun M' => ∃ Y', M' = cM (lM M0 N R D) Y' ∧ IV Y' X)) := by
  intro u
  induction u with
  | zero =>
    intro k n0 Y hk hn0 hI
    refine g_iload dL_isDay_309 rfl ?_
    refine g_bipush (v := nI 24) dL_isDay_311 (by decide) ?_
    refine g_icmp_ge_n (tgt := 354) dL_isDay_313 (by decide) (by omega) (by omega) (fun h1 => ?_) (fun h1 => ?_)
    · refine g_iload dL_isDay_354 rfl ?_
      exact g_drop (lM_drop ht0 h0) (g_ireturn_b (b := true) dL_isDay_356 rfl ⟨rfl, _, rfl, hI⟩)
    · exact absurd h1 (by omega)
  | succ u ih =>
    intro k n0 Y hk hn0 hI
    have hc := a_who (M0 := lM (zu M0 t0 (iA 24 W)) N R D) hI hh hd (hr := k) (by omega)
    rw [← hW k (by omega)] at hc
    refine g_iload dL_isDay_309 rfl ?_
    refine g_bipush (v := nI 24) dL_isDay_311 (by decide) ?_
    refine g_icmp_ge_n (tgt := 354) dL_isDay_313 (by decide) (by omega) (by omega) (fun h1 => ?_) (fun h1 => ?_)
    · exact absurd h1 (by omega)
    · refine g_iload dL_isDay_316 rfl ?_
      refine g_if_eq_n (tgt := 345) dL_isDay_318 (by decide) (by omega) (fun h2 => ?_) (fun h2 => ?_)
      · exact absurd h2 (by decide)
      · refine g_aload_n dL_isDay_321 rfl ?_
        refine g_iload dL_isDay_322 rfl ?_
        refine g_iload dL_isDay_324 rfl ?_
        refine g_iload dL_isDay_326 rfl ?_
        refine g_callVn_i (hc) oX5_who pX5_who lL_101 dL_isDay_328 rfl (cM_H rfl) rfl rfl rfl (Nat.le_of_ble_eq_true rfl) (Nat.le_of_ble_eq_true rfl) (by first | decide | omega) (fun _ h => by obtain ⟨Y', e, -⟩ := h; exact e ▸ nf_l hn0) (fun M1 n1 hn1 e => ?_)
        obtain ⟨Y', e, hI'⟩ := e
        subst e
        refine g_aload dL_isDay_331 rfl ?_
        refine g_iload dL_isDay_333 rfl ?_
        refine g_iald_n dL_isDay_335 (by rw [lM_o ht0, zu_s]) (by omega) (by decide) ?_
        refine g_iconst (v := nI 1) dL_isDay_336 (by decide) ?_
        refine g_isub dL_isDay_337 ?_
        refine g_icmp_ne (tgt := 345) dL_isDay_338 (by decide) (fun h => absurd rfl h) (fun _ => ?_)
        refine g_iconst (v := nI 1) dL_isDay_341 (by decide) ?_
        refine g_goto (tgt := 346) dL_isDay_342 (by decide) ?_
        refine g_istore dL_isDay_346 (by decide) ?_
        refine g_iinc_n (c := 1) dL_isDay_348 rfl (by decide) (by decide) ?_
        refine g_goto (tgt := 309) dL_isDay_351 (by decide) ?_
        exact g_loc (by rfl) (ih (k + 1) n1 Y' (by omega) (by omega) hI')
theorem kL_isDay (hI : IV Y X) (hL : Lw X N R D) {h day n0 : Nat} (hh : h ≤ 2) (hd : day < 84) (hn0 : 236 ≤ n0) : Cn mL_isDay 9 1 24 (some n0) [.ref 8, .ref 233, .ref 234, .ref 235, .int (nI h), .int (nI day)] (cM (lM M0 N R D) Y) (zqI (nI 1) (fun M' => ∃ Y', M' = cM (lM M0 N R D) Y' ∧ IV Y' X)) := by
  have hX := IV_X hI
  refine g_free (fun hfr => ?_)
  have h0 : M0 n0 = none := by have := hfr n0 (Nat.le_refl _); rwa [lM_o hn0] at this
  refine g_bipush (v := nI 24) dL_isDay_0 (by decide) ?_
  refine g_newi dL_isDay_2 (by decide) rfl rfl ?_
  rw [zu_lT hn0]
  refine g_astore dL_isDay_4 (by decide) ?_
  refine g_iconst (v := nI 0) dL_isDay_6 (by decide) ?_
  refine g_istore dL_isDay_7 (by decide) ?_
  refine g_iconst (v := nI 0) dL_isDay_9 (by decide) ?_
  refine g_istore dL_isDay_10 (by decide) ?_
  refine g_bipush (v := nI 24) dL_isDay_12 (by decide) ?_
  refine g_istore dL_isDay_14 (by decide) ?_
  refine g_iconst (v := nI 0) dL_isDay_16 (by decide) ?_
  refine g_istore dL_isDay_17 (by decide) ?_
  refine g_loc ?_ (idl1 hX hL hh hd hn0 _ (fun n1 W1 hn1 hW1 => ?_) (N 11) 0 (n0 + 1) _ (by omega) (by omega) ?_)
  · have e24 : nI 24 - nI (ihS X h 1 (lkR X day 0) 0) = nI 24 := show nI 24 - nI 0 = nI 24 by decide
    rw [e24]
    rfl
  · have e0 : lkR X day (N 11) = lkR X day (X 11) ++ lkS X day 0 := by rw [hL.2.1.1, lkS, List.append_nil]
    rw [e0] at hW1 ⊢
    refine g_loc ?_ (idl0 hX hL hh hd hn0 _ (fun n2 W2 hn2 hW2 => ?_) (N 12) 0 n1 W1 (by omega) hn1 hW1)
    · rfl
    · have ho : ∀ w Y', IV Y' X → w ≤ 3 → Cn mX5_hallOf 8 0 0 none [.ref 8, .int (nI h), .int (nI day), .int (nI w)] (cM (lM (zu M0 n0 (iA 24 W2)) N R D) Y') (zi (ofH X h day w) (fun M' => ∃ Y'', M' = cM (lM (zu M0 n0 (iA 24 W2)) N R D) Y'' ∧ IV Y'' X)) := fun w Y' hI' hw => a_ho hI' hh hd hw
      refine g_aload_n dL_isDay_243 rfl ?_
      refine g_iload dL_isDay_244 rfl ?_
      refine g_iload dL_isDay_246 rfl ?_
      refine g_iconst (v := nI 0) dL_isDay_248 (by decide) ?_
      refine g_callVn_i (ho 0 Y hI (by omega)) oX5_hallOf pX5_hallOf lL_97 dL_isDay_249 rfl (cM_H rfl) rfl rfl rfl (Nat.le_of_ble_eq_true rfl) (Nat.le_of_ble_eq_true rfl) (by first | decide | omega) (fun _ h => by obtain ⟨Y', e, -⟩ := h; exact e ▸ nf_l hn2) (fun M1 n3 hn3 e => ?_)
      obtain ⟨Y3, e, hI3⟩ := e
      subst e
      refine g_iload dL_isDay_252 rfl ?_
      refine g_icmp_ne (tgt := 303) dL_isDay_254 (by decide) (fun h => absurd rfl h) (fun _ => ?_)
      refine g_aload_n dL_isDay_257 rfl ?_
      refine g_iload dL_isDay_258 rfl ?_
      refine g_iload dL_isDay_260 rfl ?_
      refine g_iconst (v := nI 1) dL_isDay_262 (by decide) ?_
      refine g_callVn_i (ho 1 Y3 hI3 (by omega)) oX5_hallOf pX5_hallOf lL_97 dL_isDay_263 rfl (cM_H rfl) rfl rfl rfl (Nat.le_of_ble_eq_true rfl) (Nat.le_of_ble_eq_true rfl) (by first | decide | omega) (fun _ h => by obtain ⟨Y', e, -⟩ := h; exact e ▸ nf_l (by omega)) (fun M1 n4 hn4 e => ?_)
      obtain ⟨Y4, e, hI4⟩ := e
      subst e
      refine g_iload dL_isDay_266 rfl ?_
      refine g_icmp_ne (tgt := 303) dL_isDay_268 (by decide) (fun h => absurd rfl h) (fun _ => ?_)
      refine g_aload_n dL_isDay_271 rfl ?_
      refine g_iload dL_isDay_272 rfl ?_
      refine g_iload dL_isDay_274 rfl ?_
      refine g_iconst (v := nI 2) dL_isDay_276 (by decide) ?_
      refine g_callVn_i (ho 2 Y4 hI4 (by omega)) oX5_hallOf pX5_hallOf lL_97 dL_isDay_277 rfl (cM_H rfl) rfl rfl rfl (Nat.le_of_ble_eq_true rfl) (Nat.le_of_ble_eq_true rfl) (by first | decide | omega) (fun _ h => by obtain ⟨Y', e, -⟩ := h; exact e ▸ nf_l (by omega)) (fun M1 n5 hn5 e => ?_)
      obtain ⟨Y5, e, hI5⟩ := e
      subst e
      refine g_iload dL_isDay_280 rfl ?_
      refine g_icmp_ne (tgt := 303) dL_isDay_282 (by decide) (fun h => absurd rfl h) (fun _ => ?_)
      refine g_aload_n dL_isDay_285 rfl ?_
      refine g_iload dL_isDay_286 rfl ?_
      refine g_iload dL_isDay_288 rfl ?_
      refine g_iconst (v := nI 3) dL_isDay_290 (by decide) ?_
      refine g_callVn_i (ho 3 Y5 hI5 (by omega)) oX5_hallOf pX5_hallOf lL_97 dL_isDay_291 rfl (cM_H rfl) rfl rfl rfl (Nat.le_of_ble_eq_true rfl) (Nat.le_of_ble_eq_true rfl) (by first | decide | omega) (fun _ h => by obtain ⟨Y', e, -⟩ := h; exact e ▸ nf_l (by omega)) (fun M1 n6 hn6 e => ?_)
      obtain ⟨Y6, e, hI6⟩ := e
      subst e
      refine g_iload dL_isDay_294 rfl ?_
      refine g_icmp_ne (tgt := 303) dL_isDay_296 (by decide) (fun h => absurd rfl h) (fun _ => ?_)
      refine g_iconst (v := nI 1) dL_isDay_299 (by decide) ?_
      refine g_goto (tgt := 304) dL_isDay_300 (by decide) ?_
      refine g_istore dL_isDay_304 (by decide) ?_
      refine g_iconst (v := nI 0) dL_isDay_306 (by decide) ?_
      refine g_istore dL_isDay_307 (by decide) ?_
      exact g_loc (by rfl) (idw hL hh hd hn0 h0 hW2 24 0 n6 Y6 (by omega) (by omega) hI6)
  · intro hr hh2
    show nI 0 - nI 1 = tnS X h hr [] (-1)
    rfl
end LD
