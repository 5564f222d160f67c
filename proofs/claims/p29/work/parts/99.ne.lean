/-! the law's reason -/
def eR (R : Nat → Nat) (i : Nat) : cE := (R (11 * i), R (11 * i + 2), R (11 * i + 3))
def eD (D : Nat → Nat) (i : Nat) : cE := (D (7 * i), D (7 * i + 2), D (7 * i + 3))
def keyE (e : cE) : Nat := 10000 * e.2.2 + 1000 * e.1 + e.2.1
def nclw (w : cE) (c : Nat) (e : cE) : Bool := !(decide (e.1 = w.1) && clB w.2.1 w.2.2 e.2.1 e.2.2 c)
def esR (R : Nat → Nat) (day : Nat) : Nat → List (cE × Nat)
  | 0 => []
  | k + 1 => esR R day k ++ (bif stB R k day then [(eR R k, R (11 * k + 4))] else [])
def esD (D : Nat → Nat) (day : Nat) : Nat → List (cE × Nat)
  | 0 => []
  | k + 1 => esD D day k ++ (bif decide (D (7 * k + 1) = day) then [(eD D k, D (7 * k + 4))] else [])
def klL (w : cE) (c : Nat) (E : List (cE × Nat)) : List Nat := E.foldl (fun l e => bif nclw w c e.1 then putK (keyE e.1) l else l) [keyE w]
def hgL (w : cE) (c rk : Nat) (E : List (cE × Nat)) : Bool := E.any (fun e => !nclw w c e.1 && decide (rk ≤ e.2))
def esA (N R D : Nat → Nat) (day : Nat) : List (cE × Nat) := esR R day (N 11) ++ esD D day (N 12)
def rsL (N R D : Nat → Nat) (h day f t rk : Nat) : Nat := bif hgL (h, f, t) (N 0) rk (esA N R D day) then 2 else bif icl (N 0) 0 (klL (h, f, t) (N 0) (esA N R D day)) then 0 else 3
theorem klL_s (w : cE) (c : Nat) (E : List (cE × Nat)) (e : cE × Nat) : klL w c (E ++ [e]) = bif nclw w c e.1 then putK (keyE e.1) (klL w c E) else klL w c E := by
  unfold klL
  rw [List.foldl_append]
  rfl
theorem hgL_s (w : cE) (c rk : Nat) (E : List (cE × Nat)) (e : cE × Nat) : hgL w c rk (E ++ [e]) = (hgL w c rk E || (!nclw w c e.1 && decide (rk ≤ e.2))) := by
  unfold hgL
  rw [List.any_append, List.any_cons, List.any_nil, Bool.or_false]
theorem esR_t {R : Nat → Nat} {day k : Nat} (h : stB R k day = true) : esR R day (k + 1) = esR R day k ++ [(eR R k, R (11 * k + 4))] := by
  rw [esR, h, cond_true]
theorem esR_f {R : Nat → Nat} {day k : Nat} (h : stB R k day = false) : esR R day (k + 1) = esR R day k := by
  rw [esR, h, cond_false, List.append_nil]
theorem esD_t {D : Nat → Nat} {day k : Nat} (h : decide (D (7 * k + 1) = day) = true) : esD D day (k + 1) = esD D day k ++ [(eD D k, D (7 * k + 4))] := by
  rw [esD, h, cond_true]
theorem esD_f {D : Nat → Nat} {day k : Nat} (h : decide (D (7 * k + 1) = day) = false) : esD D day (k + 1) = esD D day k := by
  rw [esD, h, cond_false, List.append_nil]
theorem esR_len (R : Nat → Nat) (day : Nat) : ∀ k, (esR R day k).length ≤ k
  | 0 => Nat.le_refl _
  | k + 1 => by
    have := esR_len R day k
    unfold esR
    cases stB R k day <;> simp <;> omega
theorem esD_len (D : Nat → Nat) (day : Nat) : ∀ k, (esD D day k).length ≤ k
  | 0 => Nat.le_refl _
  | k + 1 => by
    have := esD_len D day k
    unfold esD
    cases decide (D (7 * k + 1) = day) <;> simp <;> omega
def okE (e : cE) : Prop := e.1 ≤ 2 ∧ e.2.1 ≤ 24 ∧ e.2.2 ≤ 24
theorem klL_len (w : cE) (c : Nat) (E : List (cE × Nat)) : ∀ l : List Nat, (E.foldl (fun l e => bif nclw w c e.1 then putK (keyE e.1) l else l) l).length ≤ l.length + E.length := by
  induction E with
  | nil => intro l; exact Nat.le_refl _
  | cons e E ih =>
    intro l
    rw [List.foldl_cons]
    refine Nat.le_trans (ih _) ?_
    rw [List.length_cons]
    cases nclw w c e.1
    · rw [cond_false]; omega
    · rw [cond_true, putK_len]; omega
theorem key_b {e : cE} (h : okE e) : keyE e < 300000 := by
  obtain ⟨h1, h2, h3⟩ := h
  unfold keyE
  omega
theorem klL_b0 (w : cE) (c : Nat) (E : List (cE × Nat)) (hE : ∀ e ∈ E, okE e.1) : ∀ l : List Nat, (∀ b ∈ l, b < 300000) → ∀ b ∈ E.foldl (fun l e => bif nclw w c e.1 then putK (keyE e.1) l else l) l, b < 300000 := by
  induction E with
  | nil => intro l hl; exact hl
  | cons e E ih =>
    intro l hl
    rw [List.foldl_cons]
    refine ih (fun x hx => hE x (List.mem_cons_of_mem _ hx)) _ (fun b hb => ?_)
    revert hb
    cases nclw w c e.1
    · rw [cond_false]; exact hl b
    · rw [cond_true]
      intro hb
      rcases putK_mem hb with rfl | h
      · exact key_b (hE e List.mem_cons_self)
      · exact hl b h
theorem klL_b {w : cE} {c : Nat} {E : List (cE × Nat)} (hw : okE w) (hE : ∀ e ∈ E, okE e.1) : ∀ b ∈ klL w c E, b < 300000 := klL_b0 w c E hE _ (fun b hb => by
  rw [List.mem_singleton.mp hb]
  exact key_b hw)
def lC (N R D : Nat → Nat) : Prop := (∀ i, i < N 11 → okE (eR R i)) ∧ ∀ i, i < N 12 → okE (eD D i)
theorem esR_ok {N R D : Nat → Nat} (h : lC N R D) (day : Nat) : ∀ k, k ≤ N 11 → ∀ e ∈ esR R day k, okE e.1
  | 0, _, e, he => by cases he
  | k + 1, hk, e, he => by
    unfold esR at he
    rcases List.mem_append.mp he with he | he
    · exact esR_ok h day k (by omega) e he
    · cases hs : stB R k day
      · rw [hs] at he; cases he
      · rw [hs, cond_true, List.mem_singleton] at he
        rw [he]
        exact h.1 k (by omega)
theorem esD_ok {N R D : Nat → Nat} (h : lC N R D) (day : Nat) : ∀ k, k ≤ N 12 → ∀ e ∈ esD D day k, okE e.1
  | 0, _, e, he => by cases he
  | k + 1, hk, e, he => by
    unfold esD at he
    rcases List.mem_append.mp he with he | he
    · exact esD_ok h day k (by omega) e he
    · cases hs : decide (D (7 * k + 1) = day)
      · rw [hs] at he; cases he
      · rw [hs, cond_true, List.mem_singleton] at he
        rw [he]
        exact h.2 k (by omega)
theorem nf_put {M : zM} {n t : Nat} {e e' : zE} (hM : M t = some e) : nf n M (zu M t e') := nf_u (by rw [hM]; exact fun q => by cases q)
section LR
variable {M0 : zM} {N R D : Nat → Nat} {Y : Nat → Nat → Nat}
theorem rs1 (hB : lB N R D) (hC : lC N R D) {h day f t rk t0 : Nat} (hw : okE (h, f, t)) (hd : day < 84) (hrk : rk < 1048576) (ht0 : 236 ≤ t0) (F : zP) (hF : ∀ n1 T, 236 ≤ n1 → lAt (klL (h, f, t) (N 0) (esR R day (N 11))) 0 T → G mL_reason 1 0 0 (some n1) 161 [(0, .ref 233), (1, .ref 234), (2, .ref 235), (3, .int (nI h)), (4, .int (nI day)), (5, .int (nI f)), (6, .int (nI t)), (7, .int (nI rk)), (8, .ref t0), (9, .int (nI (klL (h, f, t) (N 0) (esR R day (N 11))).length)), (10, .int (nI (hgL (h, f, t) (N 0) rk (esR R day (N 11))).toNat)), (11, .int (nI (N 11)))] [] (cM (lM (zu M0 t0 (iA 24 T)) N R D) Y) F) : ∀ u i n1 T, i + u = N 11 → 236 ≤ n1 → lAt (klL (h, f, t) (N 0) (esR R day i)) 0 T → G mL_reason 1 0 0 (some n1) 25 [(0, .ref 233), (1, .ref 234), (2, .ref 235), (3, .int (nI h)), (4, .int (nI day)), (5, .int (nI f)), (6, .int (nI t)), (7, .int (nI rk)), (8, .ref t0), (9, .int (nI (klL (h, f, t) (N 0) (esR R day i)).length)), (10, .int (nI (hgL (h, f, t) (N 0) rk (esR R day i)).toNat)), (11, .int (nI (i)))] [] (cM (lM (zu M0 t0 (iA 24 T)) N R D) Y) F := by
  have hB' := hB
  obtain ⟨b0, b11, b12, -, -⟩ := hB'
  obtain ⟨w1, w2, w3⟩ := hw
  have w1 : h ≤ 2 := w1
  have w2 : f ≤ 24 := w2
  have w3 : t ≤ 24 := w3
  intro u
  induction u with
  | zero =>
    intro i n1 T hi hn1 hT
    refine g_iload dL_reason_25 rfl ?_
    refine g_aload_n dL_reason_27 rfl ?_
    refine g_bipush (v := nI 11) dL_reason_28 (by decide) ?_
    refine g_lN dL_reason_30 (by omega) ?_
    refine g_icmp_ge_n (tgt := 161) dL_reason_31 (by decide) (by omega) (by omega) (fun h1 => ?_) (fun h1 => ?_)
    · have e : i = N 11 := by omega
      subst e
      exact g_loc (by rfl) (hF n1 T hn1 hT)
    · exact absurd h1 (by omega)
  | succ u ih =>
    intro i n1 T hi hn1 hT
    have r0 : R (11 * i) < 1048576 := lB_R hB (i := i) (j := 0) (by omega) (by omega)
    have r1 := lB_R hB (i := i) (j := 1) (by omega) (by omega)
    have r2 := lB_R hB (i := i) (j := 2) (by omega) (by omega)
    have r3 := lB_R hB (i := i) (j := 3) (by omega) (by omega)
    have r4 := lB_R hB (i := i) (j := 4) (by omega) (by omega)
    obtain ⟨c1, c2, c3⟩ := hC.1 i (by omega)
    have c1 : R (11 * i) ≤ 2 := c1
    have c2 : R (11 * i + 2) ≤ 24 := c2
    have c3 : R (11 * i + 3) ≤ 24 := c3
    have hlen : (klL (h, f, t) (N 0) (esR R day i)).length ≤ 13 := by
      have := klL_len (h, f, t) (N 0) (esR R day i) [keyE (h, f, t)]
      have := esR_len R day i
      unfold klL; simp only [List.length_singleton] at *; omega
    have hbnd : ∀ b ∈ klL (h, f, t) (N 0) (esR R day i), b < 300000 := klL_b ⟨w1, w2, w3⟩ (fun e he => esR_ok hC day i (by omega) e he)
    have j155 : ∀ n2 (l : List Nat) (b : Bool) T1, 236 ≤ n2 → l = klL (h, f, t) (N 0) (esR R day (i + 1)) → b = hgL (h, f, t) (N 0) rk (esR R day (i + 1)) → lAt l 0 T1 → G mL_reason 1 0 0 (some n2) 155 [(0, .ref 233), (1, .ref 234), (2, .ref 235), (3, .int (nI h)), (4, .int (nI day)), (5, .int (nI f)), (6, .int (nI t)), (7, .int (nI rk)), (8, .ref t0), (9, .int (nI (l).length)), (10, .int (nI (b).toNat)), (11, .int (nI (i)))] [] (cM (lM (zu M0 t0 (iA 24 T1)) N R D) Y) F := fun n2 l b T1 hn2 hl hb hT1 => by
      subst hl
      subst hb
      refine g_iinc_n (c := 1) dL_reason_155 rfl (by decide) (by decide) ?_
      exact g_goto (tgt := 25) dL_reason_158 (by decide) (g_loc (by rfl) (ih (i + 1) n2 T1 (by omega) hn2 hT1))
    have jst : stB R i day = true → ∀ n2, 236 ≤ n2 → G mL_reason 1 0 0 (some n2) 52 [(0, .ref 233), (1, .ref 234), (2, .ref 235), (3, .int (nI h)), (4, .int (nI day)), (5, .int (nI f)), (6, .int (nI t)), (7, .int (nI rk)), (8, .ref t0), (9, .int (nI (klL (h, f, t) (N 0) (esR R day i)).length)), (10, .int (nI (hgL (h, f, t) (N 0) rk (esR R day i)).toNat)), (11, .int (nI (i))), (12, .int (nI (11 * i)))] [] (cM (lM (zu M0 t0 (iA 24 T)) N R D) Y) F := fun hst n2 hn2 => by
      have eS : (esR R day (i + 1)) = (esR R day i) ++ [(eR R i, R (11 * i + 4))] := by
        rw [esR_t hst]
      have j118 : ∀ (cl b : Bool), cl = (!nclw (h, f, t) (N 0) (eR R i)) → b = hgL (h, f, t) (N 0) rk (esR R day (i + 1)) → ∀ n3, 236 ≤ n3 → G mL_reason 1 0 0 (some n3) 118 [(0, .ref 233), (1, .ref 234), (2, .ref 235), (3, .int (nI h)), (4, .int (nI day)), (5, .int (nI f)), (6, .int (nI t)), (7, .int (nI rk)), (8, .ref t0), (9, .int (nI (klL (h, f, t) (N 0) (esR R day i)).length)), (10, .int (nI (hgL (h, f, t) (N 0) rk (esR R day i)).toNat)), (11, .int (nI (i))), (12, .int (nI (11 * i))), (13, .int (nI cl.toNat))] [.int (nI b.toNat)] (cM (lM (zu M0 t0 (iA 24 T)) N R D) Y) F := fun cl b hcl hb n3 hn3 => by
        refine g_istore dL_reason_118 (by decide) ?_
        refine g_iload dL_reason_120 rfl ?_
        refine g_if_eq_b (tgt := 130) dL_reason_122 (by decide) (fun h5 => ?_) (fun h5 => ?_)
        · have hMt : (cM (lM (zu M0 t0 (iA 24 T)) N R D) Y) t0 = some (iA 24 T) := by rw [lM_o ht0, zu_s]
          refine g_aload dL_reason_130 rfl ?_
          refine g_iload dL_reason_132 rfl ?_
          refine g_aload_n dL_reason_134 rfl ?_
          refine g_iload dL_reason_135 rfl ?_
          refine g_lR dL_reason_137 (by omega) ?_
          refine g_aload_n dL_reason_138 rfl ?_
          refine g_iload dL_reason_139 rfl ?_
          refine g_iconst (v := nI 2) dL_reason_141 (by decide) ?_
          refine g_iadd_n dL_reason_142 ?_
          refine g_lR dL_reason_143 (by omega) ?_
          refine g_aload_n dL_reason_144 rfl ?_
          refine g_iload dL_reason_145 rfl ?_
          refine g_iconst (v := nI 3) dL_reason_147 (by decide) ?_
          refine g_iadd_n dL_reason_148 ?_
          refine g_lR dL_reason_149 (by omega) ?_
          refine g_callSn_i (kL_put (T := T) (l := klL (h, f, t) (N 0) (esR R day i)) (by omega) hMt hT rfl (by omega) (fun b hb => Nat.lt_trans (hbnd b hb) (by decide)) (by omega) (by omega) (by omega)) oL_put pL_put lL_9 dL_reason_150 rfl rfl (Nat.le_of_ble_eq_true rfl) (Nat.le_of_ble_eq_true rfl) (by first | decide | omega) (Nat.le_refl _) (Nat.le_refl _) (fun _ h => by obtain ⟨T', e, -⟩ := h; exact e ▸ nf_put hMt) (fun M1 n4 hn4 h4 => ?_)
          obtain ⟨T', e, hT'⟩ := h4
          subst e
          rw [zu_lT ht0, zu_u]
          have hnc : nclw (h, f, t) (N 0) (eR R i) = true := by rw [h5] at hcl; simpa using hcl.symm
          have ek : klL (h, f, t) (N 0) (esR R day (i + 1)) = putK (keyE (eR R i)) (klL (h, f, t) (N 0) (esR R day i)) := by rw [eS, klL_s]; show (bif nclw (h, f, t) (N 0) (eR R i) then _ else _) = _; rw [hnc, cond_true]
          refine g_istore dL_reason_153 (by decide) ?_
          refine g_loc ?_ (j155 n4 _ b T' (by omega) ek.symm hb hT')
          rw [putK_len]
          rfl
        · refine g_iload dL_reason_125 rfl ?_
          refine g_goto (tgt := 153) dL_reason_127 (by decide) ?_
          have hnc : nclw (h, f, t) (N 0) (eR R i) = false := by rw [h5] at hcl; simpa using hcl.symm
          have ek : klL (h, f, t) (N 0) (esR R day (i + 1)) = klL (h, f, t) (N 0) (esR R day i) := by rw [eS, klL_s]; show (bif nclw (h, f, t) (N 0) (eR R i) then _ else _) = _; rw [hnc, cond_false]
          refine g_istore dL_reason_153 (by decide) ?_
          exact g_loc (by rfl) (j155 n3 _ b T hn3 ek.symm hb hT)
      have j90 : ∀ cl : Bool, cl = (!nclw (h, f, t) (N 0) (eR R i)) → ∀ n3, 236 ≤ n3 → G mL_reason 1 0 0 (some n3) 90 [(0, .ref 233), (1, .ref 234), (2, .ref 235), (3, .int (nI h)), (4, .int (nI day)), (5, .int (nI f)), (6, .int (nI t)), (7, .int (nI rk)), (8, .ref t0), (9, .int (nI (klL (h, f, t) (N 0) (esR R day i)).length)), (10, .int (nI (hgL (h, f, t) (N 0) rk (esR R day i)).toNat)), (11, .int (nI (i))), (12, .int (nI (11 * i)))] [.int (nI cl.toNat)] (cM (lM (zu M0 t0 (iA 24 T)) N R D) Y) F := fun cl hcl n3 hn3 => by
        have eh : hgL (h, f, t) (N 0) rk (esR R day (i + 1)) = (hgL (h, f, t) (N 0) rk (esR R day i) || (cl && decide (rk ≤ R (11 * i + 4)))) := by rw [eS, hgL_s, hcl]
        refine g_istore dL_reason_90 (by decide) ?_
        refine g_iload dL_reason_92 rfl ?_
        refine g_if_ne_b (tgt := 113) dL_reason_94 (by decide) (fun h5 => ?_) (fun h5 => ?_)
        · refine g_iconst (v := nI 1) dL_reason_113 (by decide) ?_
          refine g_goto (tgt := 118) dL_reason_114 (by decide) ?_
          exact g_loc (by rfl) (j118 cl true hcl (by rw [eh, h5]; rfl) n3 hn3)
        · refine g_iload dL_reason_97 rfl ?_
          refine g_if_eq_b (tgt := 117) dL_reason_99 (by decide) (fun h6 => ?_) (fun h6 => ?_)
          · refine g_iconst (v := nI 0) dL_reason_117 (by decide) ?_
            exact g_loc (by rfl) (j118 cl false hcl (by rw [eh, h5, h6]; rfl) n3 hn3)
          · refine g_aload_n dL_reason_102 rfl ?_
            refine g_iload dL_reason_103 rfl ?_
            refine g_iconst (v := nI 4) dL_reason_105 (by decide) ?_
            refine g_iadd_n dL_reason_106 ?_
            refine g_lR dL_reason_107 (by omega) ?_
            refine g_iload dL_reason_108 rfl ?_
            refine g_icmp_lt_n (tgt := 117) dL_reason_110 (by decide) (by omega) (by omega) (fun h7 => ?_) (fun h7 => ?_)
            · refine g_iconst (v := nI 0) dL_reason_117 (by decide) ?_
              exact g_loc (by rfl) (j118 cl false hcl (by rw [eh, h5, h6]; simp; omega) n3 hn3)
            · refine g_iconst (v := nI 1) dL_reason_113 (by decide) ?_
              refine g_goto (tgt := 118) dL_reason_114 (by decide) ?_
              exact g_loc (by rfl) (j118 cl true hcl (by rw [eh, h5, h6]; simp; omega) n3 hn3)
      refine g_aload_n dL_reason_52 rfl ?_
      refine g_iload dL_reason_53 rfl ?_
      refine g_lR dL_reason_55 (by omega) ?_
      refine g_iload_n dL_reason_56 rfl ?_
      refine g_icmp_ne_n (tgt := 89) dL_reason_57 (by decide) (by omega) (by omega) (fun h2 => ?_) (fun h2 => ?_)
      · refine g_iconst (v := nI 0) dL_reason_89 (by decide) ?_
        exact g_loc (by rfl) (j90 false (by simp [nclw, eR, h2]) n2 hn2)
      · refine g_iload dL_reason_60 rfl ?_
        refine g_iload dL_reason_62 rfl ?_
        refine g_aload_n dL_reason_64 rfl ?_
        refine g_iload dL_reason_65 rfl ?_
        refine g_iconst (v := nI 2) dL_reason_67 (by decide) ?_
        refine g_iadd_n dL_reason_68 ?_
        refine g_lR dL_reason_69 (by omega) ?_
        refine g_aload_n dL_reason_70 rfl ?_
        refine g_iload dL_reason_71 rfl ?_
        refine g_iconst (v := nI 3) dL_reason_73 (by decide) ?_
        refine g_iadd_n dL_reason_74 ?_
        refine g_lR dL_reason_75 (by omega) ?_
        refine g_aload_n dL_reason_76 rfl ?_
        refine g_iconst (v := nI 0) dL_reason_77 (by decide) ?_
        refine g_lN dL_reason_78 (by omega) ?_
        refine g_callSn_i (kL_clash (by omega) (by omega) r2 r3 (by omega)) oL_clash pL_clash lL_19 dL_reason_79 rfl rfl (Nat.le_of_ble_eq_true rfl) (Nat.le_of_ble_eq_true rfl) (by first | decide | omega) (Nat.le_refl _) (Nat.le_refl _) (fun _ e => nf_e e) (fun M1 n3 hn3 e => ?_)
        subst e
        refine g_if_eq_b (tgt := 89) dL_reason_82 (by decide) (fun h4 => ?_) (fun h4 => ?_)
        · refine g_iconst (v := nI 0) dL_reason_89 (by decide) ?_
          exact g_loc (by rfl) (j90 false (by simp [nclw, eR, h4]) n3 (by omega))
        · refine g_iconst (v := nI 1) dL_reason_85 (by decide) ?_
          refine g_goto (tgt := 90) dL_reason_86 (by decide) ?_
          exact g_loc (by rfl) (j90 true (by simp [nclw, eR, h2, h4]) n3 (by omega))
    refine g_iload dL_reason_25 rfl ?_
    refine g_aload_n dL_reason_27 rfl ?_
    refine g_bipush (v := nI 11) dL_reason_28 (by decide) ?_
    refine g_lN dL_reason_30 (by omega) ?_
    refine g_icmp_ge_n (tgt := 161) dL_reason_31 (by decide) (by omega) (by omega) (fun h1 => ?_) (fun h1 => ?_)
    · exact absurd h1 (by omega)
    · refine g_bipush (v := nI 11) dL_reason_34 (by decide) ?_
      refine g_iload dL_reason_36 rfl ?_
      refine g_imul_n dL_reason_38 ?_
      refine g_istore dL_reason_39 (by decide) ?_
      refine g_aload_n dL_reason_41 rfl ?_
      refine g_iload dL_reason_42 rfl ?_
      refine g_iload dL_reason_44 rfl ?_
      have r9 := lB_R hB (i := i) (j := 9) (by omega) (by omega)
      refine g_callSn_i (kL_stands (i := i) (day := day) (by omega) hd r1 r9) oL_stands pL_stands lL_15 dL_reason_46 rfl rfl (Nat.le_of_ble_eq_true rfl) (Nat.le_of_ble_eq_true rfl) (by first | decide | omega) (Nat.le_refl _) (Nat.le_refl _) (fun _ e => nf_e e) (fun M1 n2 hn2 e => ?_)
      subst e
      refine g_if_eq_b (tgt := 155) dL_reason_49 (by decide) (fun h2 => ?_) (fun h2 => ?_)
      · have e0 : (esR R day (i + 1)) = (esR R day i) := by
          rw [esR_f h2]
        exact g_loc (by rfl) (j155 n2 _ _ T (by omega) (by rw [e0]) (by rw [e0]) hT)
      · exact g_loc (by rfl) (jst h2 n2 (by omega))
theorem rs2 (hB : lB N R D) (hC : lC N R D) {ER : List (cE × Nat)} (hER : ∀ e ∈ ER, okE e.1) (hEl : ER.length ≤ N 11) {h day f t rk t0 : Nat} (hw : okE (h, f, t)) (hd : day < 84) (hrk : rk < 1048576) (ht0 : 236 ≤ t0) (F : zP) (hF : ∀ n1 T, 236 ≤ n1 → lAt (klL (h, f, t) (N 0) (ER ++ esD D day (N 12))) 0 T → G mL_reason 1 0 0 (some n1) 300 [(0, .ref 233), (1, .ref 234), (2, .ref 235), (3, .int (nI h)), (4, .int (nI day)), (5, .int (nI f)), (6, .int (nI t)), (7, .int (nI rk)), (8, .ref t0), (9, .int (nI (klL (h, f, t) (N 0) (ER ++ esD D day (N 12))).length)), (10, .int (nI (hgL (h, f, t) (N 0) rk (ER ++ esD D day (N 12))).toNat)), (11, .int (nI (N 12)))] [] (cM (lM (zu M0 t0 (iA 24 T)) N R D) Y) F) : ∀ u i n1 T, i + u = N 12 → 236 ≤ n1 → lAt (klL (h, f, t) (N 0) (ER ++ esD D day i)) 0 T → G mL_reason 1 0 0 (some n1) 164 [(0, .ref 233), (1, .ref 234), (2, .ref 235), (3, .int (nI h)), (4, .int (nI day)), (5, .int (nI f)), (6, .int (nI t)), (7, .int (nI rk)), (8, .ref t0), (9, .int (nI (klL (h, f, t) (N 0) (ER ++ esD D day i)).length)), (10, .int (nI (hgL (h, f, t) (N 0) rk (ER ++ esD D day i)).toNat)), (11, .int (nI (i)))] [] (cM (lM (zu M0 t0 (iA 24 T)) N R D) Y) F := by
  have hB' := hB
  obtain ⟨b0, b11, b12, -, -⟩ := hB'
  obtain ⟨w1, w2, w3⟩ := hw
  have w1 : h ≤ 2 := w1
  have w2 : f ≤ 24 := w2
  have w3 : t ≤ 24 := w3
  intro u
  induction u with
  | zero =>
    intro i n1 T hi hn1 hT
    refine g_iload dL_reason_164 rfl ?_
    refine g_aload_n dL_reason_166 rfl ?_
    refine g_bipush (v := nI 12) dL_reason_167 (by decide) ?_
    refine g_lN dL_reason_169 (by omega) ?_
    refine g_icmp_ge_n (tgt := 300) dL_reason_170 (by decide) (by omega) (by omega) (fun h1 => ?_) (fun h1 => ?_)
    · have e : i = N 12 := by omega
      subst e
      exact g_loc (by rfl) (hF n1 T hn1 hT)
    · exact absurd h1 (by omega)
  | succ u ih =>
    intro i n1 T hi hn1 hT
    have r0 : D (7 * i) < 1048576 := lB_D hB (i := i) (j := 0) (by omega) (by omega)
    have r1 := lB_D hB (i := i) (j := 1) (by omega) (by omega)
    have r2 := lB_D hB (i := i) (j := 2) (by omega) (by omega)
    have r3 := lB_D hB (i := i) (j := 3) (by omega) (by omega)
    have r4 := lB_D hB (i := i) (j := 4) (by omega) (by omega)
    obtain ⟨c1, c2, c3⟩ := hC.2 i (by omega)
    have c1 : D (7 * i) ≤ 2 := c1
    have c2 : D (7 * i + 2) ≤ 24 := c2
    have c3 : D (7 * i + 3) ≤ 24 := c3
    have hlen : (klL (h, f, t) (N 0) (ER ++ esD D day i)).length ≤ 13 := by
      have := klL_len (h, f, t) (N 0) (ER ++ esD D day i) [keyE (h, f, t)]
      have := esD_len D day i
      unfold klL; simp only [List.length_singleton, List.length_append] at *; omega
    have hbnd : ∀ b ∈ klL (h, f, t) (N 0) (ER ++ esD D day i), b < 300000 := klL_b ⟨w1, w2, w3⟩ (fun e he => (List.mem_append.mp he).elim (fun q => hER e q) (fun q => esD_ok hC day i (by omega) e q))
    have j155 : ∀ n2 (l : List Nat) (b : Bool) T1, 236 ≤ n2 → l = klL (h, f, t) (N 0) (ER ++ esD D day (i + 1)) → b = hgL (h, f, t) (N 0) rk (ER ++ esD D day (i + 1)) → lAt l 0 T1 → G mL_reason 1 0 0 (some n2) 294 [(0, .ref 233), (1, .ref 234), (2, .ref 235), (3, .int (nI h)), (4, .int (nI day)), (5, .int (nI f)), (6, .int (nI t)), (7, .int (nI rk)), (8, .ref t0), (9, .int (nI (l).length)), (10, .int (nI (b).toNat)), (11, .int (nI (i)))] [] (cM (lM (zu M0 t0 (iA 24 T1)) N R D) Y) F := fun n2 l b T1 hn2 hl hb hT1 => by
      subst hl
      subst hb
      refine g_iinc_n (c := 1) dL_reason_294 rfl (by decide) (by decide) ?_
      exact g_goto (tgt := 164) dL_reason_297 (by decide) (g_loc (by rfl) (ih (i + 1) n2 T1 (by omega) hn2 hT1))
    have jst : decide (D (7 * i + 1) = day) = true → ∀ n2, 236 ≤ n2 → G mL_reason 1 0 0 (some n2) 191 [(0, .ref 233), (1, .ref 234), (2, .ref 235), (3, .int (nI h)), (4, .int (nI day)), (5, .int (nI f)), (6, .int (nI t)), (7, .int (nI rk)), (8, .ref t0), (9, .int (nI (klL (h, f, t) (N 0) (ER ++ esD D day i)).length)), (10, .int (nI (hgL (h, f, t) (N 0) rk (ER ++ esD D day i)).toNat)), (11, .int (nI (i))), (12, .int (nI (7 * i)))] [] (cM (lM (zu M0 t0 (iA 24 T)) N R D) Y) F := fun hst n2 hn2 => by
      have eS : (ER ++ esD D day (i + 1)) = (ER ++ esD D day i) ++ [(eD D i, D (7 * i + 4))] := by
        rw [esD_t hst, List.append_assoc]
      have j118 : ∀ (cl b : Bool), cl = (!nclw (h, f, t) (N 0) (eD D i)) → b = hgL (h, f, t) (N 0) rk (ER ++ esD D day (i + 1)) → ∀ n3, 236 ≤ n3 → G mL_reason 1 0 0 (some n3) 257 [(0, .ref 233), (1, .ref 234), (2, .ref 235), (3, .int (nI h)), (4, .int (nI day)), (5, .int (nI f)), (6, .int (nI t)), (7, .int (nI rk)), (8, .ref t0), (9, .int (nI (klL (h, f, t) (N 0) (ER ++ esD D day i)).length)), (10, .int (nI (hgL (h, f, t) (N 0) rk (ER ++ esD D day i)).toNat)), (11, .int (nI (i))), (12, .int (nI (7 * i))), (13, .int (nI cl.toNat))] [.int (nI b.toNat)] (cM (lM (zu M0 t0 (iA 24 T)) N R D) Y) F := fun cl b hcl hb n3 hn3 => by
        refine g_istore dL_reason_257 (by decide) ?_
        refine g_iload dL_reason_259 rfl ?_
        refine g_if_eq_b (tgt := 269) dL_reason_261 (by decide) (fun h5 => ?_) (fun h5 => ?_)
        · have hMt : (cM (lM (zu M0 t0 (iA 24 T)) N R D) Y) t0 = some (iA 24 T) := by rw [lM_o ht0, zu_s]
          refine g_aload dL_reason_269 rfl ?_
          refine g_iload dL_reason_271 rfl ?_
          refine g_aload_n dL_reason_273 rfl ?_
          refine g_iload dL_reason_274 rfl ?_
          refine g_lD dL_reason_276 (by omega) ?_
          refine g_aload_n dL_reason_277 rfl ?_
          refine g_iload dL_reason_278 rfl ?_
          refine g_iconst (v := nI 2) dL_reason_280 (by decide) ?_
          refine g_iadd_n dL_reason_281 ?_
          refine g_lD dL_reason_282 (by omega) ?_
          refine g_aload_n dL_reason_283 rfl ?_
          refine g_iload dL_reason_284 rfl ?_
          refine g_iconst (v := nI 3) dL_reason_286 (by decide) ?_
          refine g_iadd_n dL_reason_287 ?_
          refine g_lD dL_reason_288 (by omega) ?_
          refine g_callSn_i (kL_put (T := T) (l := klL (h, f, t) (N 0) (ER ++ esD D day i)) (by omega) hMt hT rfl (by omega) (fun b hb => Nat.lt_trans (hbnd b hb) (by decide)) (by omega) (by omega) (by omega)) oL_put pL_put lL_9 dL_reason_289 rfl rfl (Nat.le_of_ble_eq_true rfl) (Nat.le_of_ble_eq_true rfl) (by first | decide | omega) (Nat.le_refl _) (Nat.le_refl _) (fun _ h => by obtain ⟨T', e, -⟩ := h; exact e ▸ nf_put hMt) (fun M1 n4 hn4 h4 => ?_)
          obtain ⟨T', e, hT'⟩ := h4
          subst e
          rw [zu_lT ht0, zu_u]
          have hnc : nclw (h, f, t) (N 0) (eD D i) = true := by rw [h5] at hcl; simpa using hcl.symm
          have ek : klL (h, f, t) (N 0) (ER ++ esD D day (i + 1)) = putK (keyE (eD D i)) (klL (h, f, t) (N 0) (ER ++ esD D day i)) := by rw [eS, klL_s]; show (bif nclw (h, f, t) (N 0) (eD D i) then _ else _) = _; rw [hnc, cond_true]
          refine g_istore dL_reason_292 (by decide) ?_
          refine g_loc ?_ (j155 n4 _ b T' (by omega) ek.symm hb hT')
          rw [putK_len]
          rfl
        · refine g_iload dL_reason_264 rfl ?_
          refine g_goto (tgt := 292) dL_reason_266 (by decide) ?_
          have hnc : nclw (h, f, t) (N 0) (eD D i) = false := by rw [h5] at hcl; simpa using hcl.symm
          have ek : klL (h, f, t) (N 0) (ER ++ esD D day (i + 1)) = klL (h, f, t) (N 0) (ER ++ esD D day i) := by rw [eS, klL_s]; show (bif nclw (h, f, t) (N 0) (eD D i) then _ else _) = _; rw [hnc, cond_false]
          refine g_istore dL_reason_292 (by decide) ?_
          exact g_loc (by rfl) (j155 n3 _ b T hn3 ek.symm hb hT)
      have j90 : ∀ cl : Bool, cl = (!nclw (h, f, t) (N 0) (eD D i)) → ∀ n3, 236 ≤ n3 → G mL_reason 1 0 0 (some n3) 229 [(0, .ref 233), (1, .ref 234), (2, .ref 235), (3, .int (nI h)), (4, .int (nI day)), (5, .int (nI f)), (6, .int (nI t)), (7, .int (nI rk)), (8, .ref t0), (9, .int (nI (klL (h, f, t) (N 0) (ER ++ esD D day i)).length)), (10, .int (nI (hgL (h, f, t) (N 0) rk (ER ++ esD D day i)).toNat)), (11, .int (nI (i))), (12, .int (nI (7 * i)))] [.int (nI cl.toNat)] (cM (lM (zu M0 t0 (iA 24 T)) N R D) Y) F := fun cl hcl n3 hn3 => by
        have eh : hgL (h, f, t) (N 0) rk (ER ++ esD D day (i + 1)) = (hgL (h, f, t) (N 0) rk (ER ++ esD D day i) || (cl && decide (rk ≤ D (7 * i + 4)))) := by rw [eS, hgL_s, hcl]
        refine g_istore dL_reason_229 (by decide) ?_
        refine g_iload dL_reason_231 rfl ?_
        refine g_if_ne_b (tgt := 252) dL_reason_233 (by decide) (fun h5 => ?_) (fun h5 => ?_)
        · refine g_iconst (v := nI 1) dL_reason_252 (by decide) ?_
          refine g_goto (tgt := 257) dL_reason_253 (by decide) ?_
          exact g_loc (by rfl) (j118 cl true hcl (by rw [eh, h5]; rfl) n3 hn3)
        · refine g_iload dL_reason_236 rfl ?_
          refine g_if_eq_b (tgt := 256) dL_reason_238 (by decide) (fun h6 => ?_) (fun h6 => ?_)
          · refine g_iconst (v := nI 0) dL_reason_256 (by decide) ?_
            exact g_loc (by rfl) (j118 cl false hcl (by rw [eh, h5, h6]; rfl) n3 hn3)
          · refine g_aload_n dL_reason_241 rfl ?_
            refine g_iload dL_reason_242 rfl ?_
            refine g_iconst (v := nI 4) dL_reason_244 (by decide) ?_
            refine g_iadd_n dL_reason_245 ?_
            refine g_lD dL_reason_246 (by omega) ?_
            refine g_iload dL_reason_247 rfl ?_
            refine g_icmp_lt_n (tgt := 256) dL_reason_249 (by decide) (by omega) (by omega) (fun h7 => ?_) (fun h7 => ?_)
            · refine g_iconst (v := nI 0) dL_reason_256 (by decide) ?_
              exact g_loc (by rfl) (j118 cl false hcl (by rw [eh, h5, h6]; simp; omega) n3 hn3)
            · refine g_iconst (v := nI 1) dL_reason_252 (by decide) ?_
              refine g_goto (tgt := 257) dL_reason_253 (by decide) ?_
              exact g_loc (by rfl) (j118 cl true hcl (by rw [eh, h5, h6]; simp; omega) n3 hn3)
      refine g_aload_n dL_reason_191 rfl ?_
      refine g_iload dL_reason_192 rfl ?_
      refine g_lD dL_reason_194 (by omega) ?_
      refine g_iload_n dL_reason_195 rfl ?_
      refine g_icmp_ne_n (tgt := 228) dL_reason_196 (by decide) (by omega) (by omega) (fun h2 => ?_) (fun h2 => ?_)
      · refine g_iconst (v := nI 0) dL_reason_228 (by decide) ?_
        exact g_loc (by rfl) (j90 false (by simp [nclw, eD, h2]) n2 hn2)
      · refine g_iload dL_reason_199 rfl ?_
        refine g_iload dL_reason_201 rfl ?_
        refine g_aload_n dL_reason_203 rfl ?_
        refine g_iload dL_reason_204 rfl ?_
        refine g_iconst (v := nI 2) dL_reason_206 (by decide) ?_
        refine g_iadd_n dL_reason_207 ?_
        refine g_lD dL_reason_208 (by omega) ?_
        refine g_aload_n dL_reason_209 rfl ?_
        refine g_iload dL_reason_210 rfl ?_
        refine g_iconst (v := nI 3) dL_reason_212 (by decide) ?_
        refine g_iadd_n dL_reason_213 ?_
        refine g_lD dL_reason_214 (by omega) ?_
        refine g_aload_n dL_reason_215 rfl ?_
        refine g_iconst (v := nI 0) dL_reason_216 (by decide) ?_
        refine g_lN dL_reason_217 (by omega) ?_
        refine g_callSn_i (kL_clash (by omega) (by omega) r2 r3 (by omega)) oL_clash pL_clash lL_19 dL_reason_218 rfl rfl (Nat.le_of_ble_eq_true rfl) (Nat.le_of_ble_eq_true rfl) (by first | decide | omega) (Nat.le_refl _) (Nat.le_refl _) (fun _ e => nf_e e) (fun M1 n3 hn3 e => ?_)
        subst e
        refine g_if_eq_b (tgt := 228) dL_reason_221 (by decide) (fun h4 => ?_) (fun h4 => ?_)
        · refine g_iconst (v := nI 0) dL_reason_228 (by decide) ?_
          exact g_loc (by rfl) (j90 false (by simp [nclw, eD, h4]) n3 (by omega))
        · refine g_iconst (v := nI 1) dL_reason_224 (by decide) ?_
          refine g_goto (tgt := 229) dL_reason_225 (by decide) ?_
          exact g_loc (by rfl) (j90 true (by simp [nclw, eD, h2, h4]) n3 (by omega))
    refine g_iload dL_reason_164 rfl ?_
    refine g_aload_n dL_reason_166 rfl ?_
    refine g_bipush (v := nI 12) dL_reason_167 (by decide) ?_
    refine g_lN dL_reason_169 (by omega) ?_
    refine g_icmp_ge_n (tgt := 300) dL_reason_170 (by decide) (by omega) (by omega) (fun h1 => ?_) (fun h1 => ?_)
    · exact absurd h1 (by omega)
    · refine g_bipush (v := nI 7) dL_reason_173 (by decide) ?_
      refine g_iload dL_reason_175 rfl ?_
      refine g_imul_n dL_reason_177 ?_
      refine g_istore dL_reason_178 (by decide) ?_
      refine g_aload_n dL_reason_180 rfl ?_
      refine g_iload dL_reason_181 rfl ?_
      refine g_iconst (v := nI 1) dL_reason_183 (by decide) ?_
      refine g_iadd_n dL_reason_184 ?_
      refine g_lD dL_reason_185 (by omega) ?_
      refine g_iload dL_reason_186 rfl ?_
      refine g_icmp_ne_n (tgt := 294) dL_reason_188 (by decide) (by omega) (by omega) (fun h2 => ?_) (fun h2 => ?_)
      · have e0 : (ER ++ esD D day (i + 1)) = (ER ++ esD D day i) := by
          rw [esD_f (by simp [h2])]
        exact g_loc (by rfl) (j155 n1 _ _ T hn1 (by rw [e0]) (by rw [e0]) hT)
      · exact g_loc (by rfl) (jst (by simp [h2]) n1 hn1)
theorem kL_reason (hB : lB N R D) (hC : lC N R D) {h day f t rk n0 : Nat} (hw : okE (h, f, t)) (hd : day < 84) (hrk : rk < 1048576) (hn0 : 236 ≤ n0) : Cn mL_reason 1 1 24 (some n0) [.ref 233, .ref 234, .ref 235, .int (nI h), .int (nI day), .int (nI f), .int (nI t), .int (nI rk)] (cM (lM M0 N R D) Y) (zqI (nI (rsL N R D h day f t rk)) (fun M' => M' = cM (lM M0 N R D) Y)) := by
  have hB' := hB
  obtain ⟨b0, b11, b12, -, -⟩ := hB'
  have hw' := hw
  obtain ⟨w1, w2, w3⟩ := hw'
  have w1 : h ≤ 2 := w1
  have w2 : f ≤ 24 := w2
  have w3 : t ≤ 24 := w3
  refine g_free (fun hfr => ?_)
  have h0 : M0 n0 = none := by have := hfr n0 (Nat.le_refl _); rwa [lM_o hn0] at this
  refine g_bipush (v := nI 24) dL_reason_0 (by decide) ?_
  refine g_newi dL_reason_2 (by decide) rfl rfl ?_
  rw [zu_lT hn0]
  have hMt : ∀ T, cM (lM (zu M0 n0 (iA 24 T)) N R D) Y n0 = some (iA 24 T) := fun T => by rw [lM_o hn0, zu_s]
  refine g_astore dL_reason_4 (by decide) ?_
  refine g_aload dL_reason_6 rfl ?_
  refine g_iconst (v := nI 0) dL_reason_8 (by decide) ?_
  refine g_iload_n dL_reason_9 rfl ?_
  refine g_iload dL_reason_10 rfl ?_
  refine g_iload dL_reason_12 rfl ?_
  refine g_callSn_i (kL_put (l := []) (by omega) (hMt _) lAt_nil rfl (by decide) (fun b hb => by cases hb) (by omega) (by omega) (by omega)) oL_put pL_put lL_9 dL_reason_14 rfl rfl (Nat.le_of_ble_eq_true rfl) (Nat.le_of_ble_eq_true rfl) (by first | decide | omega) (Nat.le_refl _) (Nat.le_refl _) (fun _ h => by obtain ⟨T', e, -⟩ := h; exact e ▸ nf_put (hMt _)) (fun M1 n1 hn1 h1 => ?_)
  obtain ⟨T1, e, hT1⟩ := h1
  subst e
  rw [zu_lT hn0, zu_u]
  refine g_istore dL_reason_17 (by decide) ?_
  refine g_iconst (v := nI 0) dL_reason_19 (by decide) ?_
  refine g_istore dL_reason_20 (by decide) ?_
  refine g_iconst (v := nI 0) dL_reason_22 (by decide) ?_
  refine g_istore dL_reason_23 (by decide) ?_
  refine g_loc (by rfl) (rs1 hB hC hw hd hrk hn0 _ (fun n2 T2 hn2 hT2 => ?_) (N 11) 0 n1 T1 (by omega) (by omega) hT1)
  refine g_iconst (v := nI 0) dL_reason_161 (by decide) ?_
  refine g_istore dL_reason_162 (by decide) ?_
  have eE : esR R day (N 11) = esR R day (N 11) ++ esD D day 0 := by rw [esD, List.append_nil]
  rw [eE] at hT2 ⊢
  refine g_loc (by rfl) (rs2 hB hC (ER := esR R day (N 11)) (esR_ok hC day _ (Nat.le_refl _)) (esR_len R day _) hw hd hrk hn0 _ (fun n3 T3 hn3 hT3 => ?_) (N 12) 0 n2 T2 (by omega) hn2 hT2)
  have hlen : (klL (h, f, t) (N 0) (esR R day (N 11) ++ esD D day (N 12))).length ≤ 13 := by
    have := klL_len (h, f, t) (N 0) (esR R day (N 11) ++ esD D day (N 12)) [keyE (h, f, t)]
    have := esD_len D day (N 12)
    have := esR_len R day (N 11)
    unfold klL
    simp only [List.length_singleton, List.length_append] at *
    omega
  have hbnd : ∀ b ∈ klL (h, f, t) (N 0) (esR R day (N 11) ++ esD D day (N 12)), b < 300000 := klL_b hw (fun e he => (List.mem_append.mp he).elim (fun q => esR_ok hC day _ (Nat.le_refl _) e q) (fun q => esD_ok hC day _ (Nat.le_refl _) e q))
  have jr : ∀ (r : Nat) n4, r = rsL N R D h day f t rk → G mL_reason 1 0 0 (some n4) 327 [] [.int (nI r)] (cM (lM (zu M0 n0 (iA 24 T3)) N R D) Y) (zqI (nI (rsL N R D h day f t rk)) (fun M' => M' = cM (lM M0 N R D) Y)) := fun r n4 hr => by
    refine g_drop (lM_drop hn0 h0) (g_ireturn dL_reason_327 rfl rfl ⟨by rw [hr], rfl⟩)
  refine g_iload dL_reason_300 rfl ?_
  refine g_if_eq_b (tgt := 309) dL_reason_302 (by decide) (fun h5 => ?_) (fun h5 => ?_)
  · refine g_aload dL_reason_309 rfl ?_
    refine g_iload dL_reason_311 rfl ?_
    refine g_aload_n dL_reason_313 rfl ?_
    refine g_iconst (v := nI 0) dL_reason_314 (by decide) ?_
    refine g_lN dL_reason_315 (by omega) ?_
    refine g_callSn_i (kL_isCleaned (hMt T3) hT3 rfl (by omega) hbnd b0) oL_isCleaned pL_isCleaned lL_23 dL_reason_316 rfl rfl (Nat.le_of_ble_eq_true rfl) (Nat.le_of_ble_eq_true rfl) (by first | decide | omega) (Nat.le_refl _) (Nat.le_refl _) (fun _ e => nf_e e) (fun M1 n4 hn4 e => ?_)
    subst e
    refine g_if_eq_b (tgt := 326) dL_reason_319 (by decide) (fun h6 => ?_) (fun h6 => ?_)
    · refine g_iconst (v := nI 3) dL_reason_326 (by decide) ?_
      refine g_loc (by rfl) (jr 3 n4 ?_)
      unfold rsL esA
      rw [h5, h6]
      rfl
    · refine g_iconst (v := nI 0) dL_reason_322 (by decide) ?_
      refine g_goto (tgt := 327) dL_reason_323 (by decide) ?_
      refine g_loc (by rfl) (jr 0 n4 ?_)
      unfold rsL esA
      rw [h5, h6]
      rfl
  · refine g_iconst (v := nI 2) dL_reason_305 (by decide) ?_
    refine g_goto (tgt := 327) dL_reason_306 (by decide) ?_
    refine g_loc (by rfl) (jr 2 n3 ?_)
    unfold rsL esA
    rw [h5]
    rfl
end LR
