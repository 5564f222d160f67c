/-! the law's regulars -/
def wkM (X : Nat → Nat) (h wd f t r : Nat) : Nat → Nat
  | 0 => 0
  | n + 1 => wkM X h wd f t r n ||| (if rsn X h (7 * (X 3 + n) + wd) f t r = 0 then 2 ^ (X 3 + n) else 0)
def wkC (X : Nat → Nat) (h wd f t r : Nat) : Nat → Nat
  | 0 => 0
  | n + 1 => wkC X h wd f t r n + (if rsn X h (7 * (X 3 + n) + wd) f t r = 0 then 1 else 0)
theorem wkM_bit (X : Nat → Nat) (h wd f t r : Nat) : ∀ n k, (wkM X h wd f t r n).testBit k = (decide (X 3 ≤ k ∧ k < X 3 + n) && decide (rsn X h (7 * k + wd) f t r = 0))
  | 0, k => by
    rw [wkM, Nat.zero_testBit, decide_eq_false (by omega), Bool.false_and]
  | n + 1, k => by
    rw [wkM, Nat.testBit_or, wkM_bit X h wd f t r n k]
    by_cases e : k = X 3 + n
    · subst e
      rw [decide_eq_false (show ¬ (X 3 ≤ X 3 + n ∧ X 3 + n < X 3 + n) by omega), decide_eq_true (show X 3 ≤ X 3 + n ∧ X 3 + n < X 3 + (n + 1) by omega), Bool.false_and, Bool.false_or, Bool.true_and]
      by_cases q : rsn X h (7 * (X 3 + n) + wd) f t r = 0
      · rw [if_pos q, decide_eq_true q, Nat.testBit_two_pow, decide_eq_true rfl]
      · rw [if_neg q, decide_eq_false q, Nat.zero_testBit]
    · have e2 : (if rsn X h (7 * (X 3 + n) + wd) f t r = 0 then 2 ^ (X 3 + n) else 0).testBit k = false := by
        split
        · rw [Nat.testBit_two_pow, decide_eq_false (fun q => e q.symm)]
        · exact Nat.zero_testBit _
      rw [e2, Bool.or_false]
      congr 1
      exact decide_eq_decide.mpr (by omega)
theorem bsum_cnt (m : Nat) : ∀ n, bsum m n = cntH (fun k => m.testBit k) n
  | 0 => rfl
  | n + 1 => by
    rw [bsum, cntH, bsum_cnt m n]
    have h1 := bit_iff m n
    cases hb : m.testBit n
    · have h2 := (bit_0 m n).mpr hb
      rw [h2]; rfl
    · rw [h1.mpr hb]; rfl
theorem cntH_le (f : Nat → Bool) : ∀ n, cntH f n ≤ n
  | 0 => Nat.le_refl _
  | n + 1 => by
    have := cntH_le f n
    rw [cntH]
    cases f n <;> simp <;> omega
theorem wkC_b (X : Nat → Nat) (h wd f t r : Nat) : ∀ n, X 3 + n ≤ 12 → wkC X h wd f t r n = bsum (wkM X h wd f t r n) 12
  | 0, _ => by show 0 = bsum 0 12; decide
  | n + 1, hn => by
    have e0 := wkC_b X h wd f t r n (by omega)
    have e1 : cntH (fun k => (wkM X h wd f t r (n + 1)).testBit k) 12 = cntH (fun k => (wkM X h wd f t r n).testBit k) 12 + cntH (fun k => decide (X 3 + n ≤ k ∧ k < X 3 + n + 1) && decide (rsn X h (7 * (X 3 + n) + wd) f t r = 0)) 12 := by
      refine cntH_or (fun k => ?_) (fun k hk => ?_) 12
      · rw [wkM_bit, wkM_bit]
        by_cases e : k = X 3 + n
        · subst e
          rw [decide_eq_true (show X 3 ≤ X 3 + n ∧ X 3 + n < X 3 + (n + 1) by omega), decide_eq_false (show ¬ (X 3 ≤ X 3 + n ∧ X 3 + n < X 3 + n) by omega), decide_eq_true (show X 3 + n ≤ X 3 + n ∧ X 3 + n < X 3 + n + 1 by omega)]
          rfl
        · rw [decide_eq_false (show ¬ (X 3 + n ≤ k ∧ k < X 3 + n + 1) by omega), Bool.false_and, Bool.or_false]
          congr 1
          exact decide_eq_decide.mpr (by omega)
      · rw [wkM_bit] at hk
        simp only [Bool.and_eq_true, decide_eq_true_eq] at hk
        rw [decide_eq_false (show ¬ (X 3 + n ≤ k ∧ k < X 3 + n + 1) by omega), Bool.false_and]
    rw [wkC, e0, bsum_cnt, bsum_cnt, e1]
    congr 1
    by_cases q : rsn X h (7 * (X 3 + n) + wd) f t r = 0
    · rw [if_pos q]
      have e2 : (fun k => decide (X 3 + n ≤ k ∧ k < X 3 + n + 1) && decide (rsn X h (7 * (X 3 + n) + wd) f t r = 0)) = (fun k => decide (X 3 + n ≤ k ∧ k < X 3 + n + 1)) := by
        funext k
        rw [decide_eq_true q, Bool.and_true]
      rw [e2, cntH_iv (by omega)]
      omega
    · rw [if_neg q]
      exact (cntH_f (fun k => by rw [decide_eq_false q, Bool.and_false]) 12).symm
section LRG
variable {M0 : zM} {X N R D : Nat → Nat} {Y : Nat → Nat → Nat}
theorem rl1 (hX : XG X) (hL : Lw X N R D) {h wd f t rk te : Nat} (hh : h ≤ 2) (hwd : wd ≤ 6) (hft : f < t) (ht : t ≤ 24) (hr : 1 ≤ rk) (hr2 : rk ≤ 9) (F : zP) (hF : ∀ n1, 236 ≤ n1 → G mL_regulars 9 0 0 (some n1) 90 [(0, .ref 8), (1, .ref 233), (2, .ref 234), (3, .ref 235), (4, .int (nI h)), (5, .int (nI wd)), (6, .int (nI f)), (7, .int (nI t)), (8, .int (nI rk)), (9, .int (nI te)), (10, .int (nI (wkM X h wd f t rk (X 4 + 1 - X 3)))), (11, .int (nI (wkC X h wd f t rk (X 4 + 1 - X 3))))] [] (cM (lM M0 N R D) Y) F) : ∀ u n n0, X 3 + n + u = X 4 + 1 → 236 ≤ n0 → G mL_regulars 9 u (24 * u) (some n0) 11 [(0, .ref 8), (1, .ref 233), (2, .ref 234), (3, .ref 235), (4, .int (nI h)), (5, .int (nI wd)), (6, .int (nI f)), (7, .int (nI t)), (8, .int (nI rk)), (9, .int (nI te)), (10, .int (nI (wkM X h wd f t rk n))), (11, .int (nI (wkC X h wd f t rk n))), (12, .int (nI (X 3 + n)))] [] (cM (lM M0 N R D) Y) F := by
  have hB := Lw_B hL hX
  have hC := Lw_C hL hX
  obtain ⟨b0, b11, b12, -, -⟩ := id hB
  have e4 : N 4 = X 4 := hL.1 4 (by omega)
  have hx4 : X 4 ≤ 11 := hX.2.1.2.2.2.2.1
  have hw : okE (h, f, t) := ⟨hh, by show f ≤ 24; omega, ht⟩
  intro u
  induction u with
  | zero =>
    intro n n0 hn hn0
    refine g_iload dL_regulars_11 rfl ?_
    refine g_aload_n dL_regulars_13 rfl ?_
    refine g_iconst (v := nI 4) dL_regulars_14 (by decide) ?_
    refine g_lN dL_regulars_15 (by omega) ?_
    refine g_icmp_gt_n (tgt := 90) dL_regulars_16 (by decide) (by omega) (by omega) (fun h1 => ?_) (fun h1 => ?_)
    · rw [show n = X 4 + 1 - X 3 by omega]
      exact g_loc (by rfl) (hF n0 hn0)
    · exact absurd h1 (by omega)
  | succ u ih =>
    intro n n0 hn hn0
    have hd : 7 * (X 3 + n) + wd < 84 := by omega
    refine g_iload dL_regulars_11 rfl ?_
    refine g_aload_n dL_regulars_13 rfl ?_
    refine g_iconst (v := nI 4) dL_regulars_14 (by decide) ?_
    refine g_lN dL_regulars_15 (by omega) ?_
    refine g_icmp_gt_n (tgt := 90) dL_regulars_16 (by decide) (by omega) (by omega) (fun h1 => ?_) (fun h1 => ?_)
    · exact absurd h1 (by omega)
    · refine g_aload_n dL_regulars_19 rfl ?_
      refine g_aload_n dL_regulars_20 rfl ?_
      refine g_aload_n dL_regulars_21 rfl ?_
      refine g_iload dL_regulars_22 rfl ?_
      refine g_bipush (v := nI 7) dL_regulars_24 (by decide) ?_
      refine g_iload dL_regulars_26 rfl ?_
      refine g_imul_n dL_regulars_28 ?_
      refine g_iload dL_regulars_29 rfl ?_
      refine g_iadd_n dL_regulars_31 ?_
      refine g_iload dL_regulars_32 rfl ?_
      refine g_iload dL_regulars_34 rfl ?_
      refine g_iload dL_regulars_36 rfl ?_
      refine g_callSn_i (kc1 := u) (ks1 := (24*u)) (kL_reason (h := h) (day := 7 * (X 3 + n) + wd) (f := f) (t := t) (rk := rk) hB hC hw hd (by omega) hn0) oL_reason pL_reason lL_30 dL_regulars_38 rfl rfl (Nat.le_of_ble_eq_true rfl) (Nat.le_of_ble_eq_true rfl) (by first | decide | omega) (by omega) (by omega) (fun _ e => nf_e e) (fun M1 n1 hn1 e => ?_)
      subst e
      rw [Lw_rs hL hX hh hd hft ht]
      have hle : rsn X h (7 * (X 3 + n) + wd) f t rk ≤ 3 := rsnR_le X h f t rk (lk X _) []
      have j49 : ∀ b : Bool, b = decide (rsn X h (7 * (X 3 + n) + wd) f t rk = 0) → G mL_regulars 9 u (24 * u) (some n1) 49 [(0, .ref 8), (1, .ref 233), (2, .ref 234), (3, .ref 235), (4, .int (nI h)), (5, .int (nI wd)), (6, .int (nI f)), (7, .int (nI t)), (8, .int (nI rk)), (9, .int (nI te)), (10, .int (nI (wkM X h wd f t rk n))), (11, .int (nI (wkC X h wd f t rk n))), (12, .int (nI (X 3 + n)))] [.int (nI b.toNat)] (cM (lM M0 N R D) Y) F := fun b hb => by
        refine g_istore dL_regulars_49 (by decide) ?_
        refine g_iload dL_regulars_51 rfl ?_
        refine g_iload dL_regulars_53 rfl ?_
        refine g_if_eq_b (tgt := 65) dL_regulars_55 (by decide) (fun h2 => ?_) (fun h2 => ?_)
        · rw [h2] at hb
          have hz : ¬ rsn X h (7 * (X 3 + n) + wd) f t rk = 0 := of_decide_eq_false hb.symm
          refine g_iconst (v := nI 0) dL_regulars_65 (by decide) ?_
          refine g_ior_n dL_regulars_66 ?_
          refine g_istore dL_regulars_67 (by decide) ?_
          refine g_iload dL_regulars_69 rfl ?_
          refine g_iload dL_regulars_71 rfl ?_
          refine g_if_eq_b (tgt := 80) dL_regulars_73 (by decide) (fun h3 => ?_) (fun h3 => ?_)
          · refine g_iconst (v := nI 0) dL_regulars_80 (by decide) ?_
            refine g_iadd_n dL_regulars_81 ?_
            refine g_istore dL_regulars_82 (by decide) ?_
            refine g_iinc_n (c := 1) dL_regulars_84 rfl (by decide) (by decide) ?_
            refine g_goto (tgt := 11) dL_regulars_87 (by decide) ?_
            refine g_loc ?_ (ih (n + 1) n1 (by omega) (by omega))
            rw [wkM, wkC, if_neg hz, if_neg hz]
            rfl
          · rw [h2] at h3; cases h3
        · rw [h2] at hb
          have hz : rsn X h (7 * (X 3 + n) + wd) f t rk = 0 := of_decide_eq_true hb.symm
          refine g_iconst (v := nI 1) dL_regulars_58 (by decide) ?_
          refine g_iload dL_regulars_59 rfl ?_
          refine g_ishl_n dL_regulars_61 (by omega) ?_
          refine g_goto (tgt := 66) dL_regulars_62 (by decide) ?_
          refine g_ior_n dL_regulars_66 ?_
          refine g_istore dL_regulars_67 (by decide) ?_
          refine g_iload dL_regulars_69 rfl ?_
          refine g_iload dL_regulars_71 rfl ?_
          refine g_if_eq_b (tgt := 80) dL_regulars_73 (by decide) (fun h3 => ?_) (fun h3 => ?_)
          · rw [h2] at h3; cases h3
          · refine g_iconst (v := nI 1) dL_regulars_76 (by decide) ?_
            refine g_goto (tgt := 81) dL_regulars_77 (by decide) ?_
            refine g_iadd_n dL_regulars_81 ?_
            refine g_istore dL_regulars_82 (by decide) ?_
            refine g_iinc_n (c := 1) dL_regulars_84 rfl (by decide) (by decide) ?_
            refine g_goto (tgt := 11) dL_regulars_87 (by decide) ?_
            refine g_loc ?_ (ih (n + 1) n1 (by omega) (by omega))
            rw [wkM, wkC, if_pos hz, if_pos hz]
            rfl
      refine g_if_ne_n (tgt := 48) dL_regulars_41 (by decide) (by omega) (fun h2 => ?_) (fun h2 => ?_)
      · refine g_iconst (v := nI 0) dL_regulars_48 (by decide) ?_
        exact g_loc (by rfl) (j49 false (decide_eq_false h2).symm)
      · refine g_iconst (v := nI 1) dL_regulars_44 (by decide) ?_
        refine g_goto (tgt := 49) dL_regulars_45 (by decide) ?_
        exact g_loc (by rfl) (j49 true (decide_eq_true h2).symm)
/-- the weeks in their order: what gives way -/
def rgP (X : Nat → Nat) (h wd f t rk k : Nat) (N R D : Nat → Nat) : Prop :=
  Lw (mrN X (offW X h wd f t rk) h wd f t (min k (X 4 + 1) - X 3)).2 N R D ∧ XG (mrN X (offW X h wd f t rk) h wd f t (min k (X 4 + 1) - X 3)).2 ∧ bal (mrN X (offW X h wd f t rk) h wd f t (min k (X 4 + 1) - X 3)).2
theorem wk_off {X : Nat → Nat} {h wd f t rk k : Nat} (h34 : X 3 ≤ X 4) : (wkM X h wd f t rk (X 4 + 1 - X 3)) / 2 ^ k % 2 = 1 ↔ (X 3 ≤ k ∧ k ≤ X 4) ∧ offW X h wd f t rk / 2 ^ k % 2 = 0 := by
  rw [bit_iff, bit_0, wkM_bit, offW, offN_bit]
  by_cases hk : X 3 ≤ k ∧ k < X 3 + (X 4 + 1 - X 3)
  · rw [decide_eq_true hk, Bool.true_and, Bool.true_and, decide_eq_true_eq, decide_eq_false_iff_not]
    omega
  · rw [decide_eq_false hk, Bool.false_and]
    constructor
    · intro q; cases q
    · intro q; omega
theorem rl2 {X : Nat → Nat} (h34 : X 3 ≤ X 4) (h411 : X 4 ≤ 11) {h wd f t rk te w dy : Nat} (hw : w = wkM X h wd f t rk (X 4 + 1 - X 3)) (hwl : w < 4096) (hh : h ≤ 2) (hwd : wd ≤ 6) (hft : f < t) (ht : t ≤ 24) (F : zP) (hF : ∀ n1 N R D, 236 ≤ n1 → rgP X h wd f t rk 12 N R D → G mL_regulars 9 0 0 (some n1) 174 [(0, .ref 8), (1, .ref 233), (2, .ref 234), (3, .ref 235), (4, .int (nI h)), (5, .int (nI wd)), (6, .int (nI f)), (7, .int (nI t)), (8, .int (nI rk)), (9, .int (nI te)), (10, .int (nI w)), (11, .int (nI dy))] [] (cM (lM M0 N R D) Y) F) : ∀ u k n0 N R D, k + u = 12 → 236 ≤ n0 → rgP X h wd f t rk k N R D → G mL_regulars 9 0 0 (some n0) 124 [(0, .ref 8), (1, .ref 233), (2, .ref 234), (3, .ref 235), (4, .int (nI h)), (5, .int (nI wd)), (6, .int (nI f)), (7, .int (nI t)), (8, .int (nI rk)), (9, .int (nI te)), (10, .int (nI w)), (11, .int (nI dy)), (12, .int (nI k))] [] (cM (lM M0 N R D) Y) F := by
  intro u
  induction u with
  | zero =>
    intro k n0 N R D hk hn0 hP
    refine g_iload dL_regulars_124 rfl ?_
    refine g_bipush (v := nI 12) dL_regulars_126 (by decide) ?_
    refine g_icmp_ge_n (tgt := 174) dL_regulars_128 (by decide) (by omega) (by omega) (fun h1 => ?_) (fun h1 => ?_)
    · rw [show k = 12 by omega] at hP
      exact g_loc (by rfl) (hF n0 N R D hn0 hP)
    · exact absurd h1 (by omega)
  | succ u ih =>
    intro k n0 N R D hk hn0 hP
    have hoff := wk_off (h := h) (wd := wd) (f := f) (t := t) (rk := rk) (k := k) h34
    rw [← hw] at hoff
    obtain ⟨p1, p2, p3⟩ := hP
    refine g_iload dL_regulars_124 rfl ?_
    refine g_bipush (v := nI 12) dL_regulars_126 (by decide) ?_
    refine g_icmp_ge_n (tgt := 174) dL_regulars_128 (by decide) (by omega) (by omega) (fun h1 => ?_) (fun h1 => ?_)
    · exact absurd h1 (by omega)
    · refine g_iload dL_regulars_131 rfl ?_
      refine g_iload dL_regulars_133 rfl ?_
      refine g_ishr_n dL_regulars_135 (by omega) (by omega) ?_
      refine g_iconst (v := nI 1) dL_regulars_136 (by decide) ?_
      refine g_iand1_n dL_regulars_137 ?_
      refine g_iconst (v := nI 1) dL_regulars_138 (by decide) ?_
      refine g_icmp_ne_n (tgt := 165) dL_regulars_139 (by decide) (by omega) (by omega) (fun h2 => ?_) (fun h2 => ?_)
      · refine g_iconst (v := nI 0) dL_regulars_165 (by decide) ?_
        refine g_istore dL_regulars_166 (by decide) ?_
        refine g_iinc_n (c := 1) dL_regulars_168 rfl (by decide) (by decide) ?_
        refine g_goto (tgt := 124) dL_regulars_171 (by decide) ?_
        refine g_loc (by rfl) (ih (k + 1) n0 N R D (by omega) hn0 ?_)
        by_cases hin : X 3 ≤ k ∧ k ≤ X 4
        · have e1 : min k (X 4 + 1) - X 3 = k - X 3 := by omega
          have e2 : min (k + 1) (X 4 + 1) - X 3 = k - X 3 + 1 := by omega
          have e3 : X 3 + (k - X 3) = k := by omega
          have hno : ¬ offW X h wd f t rk / 2 ^ k % 2 = 0 := fun q => h2 (hoff.mpr ⟨hin, q⟩)
          unfold rgP
          rw [e2, mrN, e3, if_neg hno, ← e1]
          exact ⟨p1, p2, p3⟩
        · have e2 : min (k + 1) (X 4 + 1) - X 3 = min k (X 4 + 1) - X 3 := by omega
          unfold rgP
          rw [e2]
          exact ⟨p1, p2, p3⟩
      · obtain ⟨hin, ho⟩ := hoff.mp h2
        have hd : 7 * k + wd < 84 := by omega
        have e1 : min k (X 4 + 1) - X 3 = k - X 3 := by omega
        have e2 : min (k + 1) (X 4 + 1) - X 3 = k - X 3 + 1 := by omega
        have e3 : X 3 + (k - X 3) = k := by omega
        have hB := Lw_B p1 p2
        refine g_aload_n dL_regulars_142 rfl ?_
        refine g_aload_n dL_regulars_143 rfl ?_
        refine g_aload_n dL_regulars_144 rfl ?_
        refine g_iload dL_regulars_145 rfl ?_
        refine g_bipush (v := nI 7) dL_regulars_147 (by decide) ?_
        refine g_iload dL_regulars_149 rfl ?_
        refine g_imul_n dL_regulars_151 ?_
        refine g_iload dL_regulars_152 rfl ?_
        refine g_iadd_n dL_regulars_154 ?_
        refine g_iload dL_regulars_155 rfl ?_
        refine g_iload dL_regulars_157 rfl ?_
        refine g_callSn_i (kL_givesWay hB (h := h) (day := 7 * k + wd) (f := f) (t := t) (by omega) hd (by omega) (by omega) hn0) oL_givesWay pL_givesWay lL_40 dL_regulars_159 rfl rfl (Nat.le_of_ble_eq_true rfl) (Nat.le_of_ble_eq_true rfl) (by first | decide | omega) (Nat.le_refl _) (Nat.le_refl _) (fun _ h => by obtain ⟨D', -, e⟩ := h; exact e ▸ nf_l hn0) (fun M1 n1 hn1 e => ?_)
        obtain ⟨Da, hQ, e⟩ := e
        subst e
        refine g_goto (tgt := 166) dL_regulars_162 (by decide) ?_
        refine g_istore dL_regulars_166 (by decide) ?_
        refine g_iinc_n (c := 1) dL_regulars_168 rfl (by decide) (by decide) ?_
        refine g_goto (tgt := 124) dL_regulars_171 (by decide) ?_
        refine g_loc (by rfl) (ih (k + 1) n1 _ _ _ (by omega) (by omega) ?_)
        unfold rgP
        rw [e2, mrN, e3, if_pos ho, ← e1]
        exact ⟨(Lw_gw p1 p2 hd hft hQ).1, XG_gw p2 hd, gw_bal p1 p2 p3 hd hft hQ⟩
theorem kL_regulars (hJ : J Y X N R D) {h wd f t rk te n0 : Nat} (hh : h ≤ 2) (hwd : wd ≤ 6) (hft : f < t) (ht : t ≤ 24) (hr : 1 ≤ rk) (hr2 : rk ≤ 9) (hte : te ≤ 19) (hn0 : 236 ≤ n0) : Cn mL_regulars 9 12 288 (some n0) [.ref 8, .ref 233, .ref 234, .ref 235, .int (nI h), .int (nI wd), .int (nI f), .int (nI t), .int (nI rk), .int (nI te)] (cM (lM M0 N R D) Y) (zqI (nI 1) (PJ M0)) := by
  obtain ⟨hI, hL, hb⟩ := hJ
  have hX := IV_X hI
  have hB := Lw_B hL hX
  obtain ⟨b0, b11, b12, -, -⟩ := id hB
  have h34 : X 3 ≤ X 4 := hX.2.1.2.2.2.1
  have h411 : X 4 ≤ 11 := hX.2.1.2.2.2.2.1
  have e3 : N 3 = X 3 := hL.1 3 (by omega)
  refine g_iconst (v := nI 0) dL_regulars_0 (by decide) ?_
  refine g_istore dL_regulars_1 (by decide) ?_
  refine g_iconst (v := nI 0) dL_regulars_3 (by decide) ?_
  refine g_istore dL_regulars_4 (by decide) ?_
  refine g_aload_n dL_regulars_6 rfl ?_
  refine g_iconst (v := nI 3) dL_regulars_7 (by decide) ?_
  refine g_lN dL_regulars_8 (by omega) ?_
  rw [e3]
  refine g_istore dL_regulars_9 (by decide) ?_
  refine G.up (g_loc ?_ (rl1 (te := te) hX hL hh hwd hft ht hr hr2 _ (fun n1 hn1 => ?_) (X 4 + 1 - X 3) 0 n0 (by omega) hn0)) (Nat.le_refl _) (by omega) (by omega)
  · rfl
  · have hcb := wkC_b X h wd f t rk (X 4 + 1 - X 3) (by omega)
    have hbit := wkM_bit X h wd f t rk (X 4 + 1 - X 3)
    have hwo := fun k => wk_off (h := h) (wd := wd) (f := f) (t := t) (rk := rk) (k := k) h34
    have hwl : wkM X h wd f t rk (X 4 + 1 - X 3) < 4096 := by
      refine Nat.lt_pow_two_of_testBit (n := 12) _ (fun i hi => ?_)
      rw [hbit, decide_eq_false (by omega), Bool.false_and]
    have hcl : wkC X h wd f t rk (X 4 + 1 - X 3) ≤ 12 := by
      rw [hcb, bsum_cnt]
      exact cntH_le _ 12
    generalize hw : wkM X h wd f t rk (X 4 + 1 - X 3) = w at hcb hbit hwo hwl ⊢
    generalize hdy : wkC X h wd f t rk (X 4 + 1 - X 3) = dy at hcb hcl ⊢
    have jc : ∀ n2, 236 ≤ n2 → G mL_regulars 9 0 0 (some n2) 103 [(0, .ref 8), (1, .ref 233)] [] (cM (lM M0 N R D) Y) (zqI (nI 1) (PJ M0)) := fun n2 hn2 => by
      have hc := a_ct (M0 := lM M0 N R D) hI (w := 0) (by omega)
      rw [show cnt0 X 0 0 = N 11 from hL.2.1.1.symm] at hc
      refine g_aload_n dL_regulars_103 rfl ?_
      refine g_iconst (v := nI 0) dL_regulars_104 (by decide) ?_
      refine g_callVn_i (hc) oX5_count pX5_count lL_51 dL_regulars_105 rfl (cM_H rfl) rfl rfl rfl (Nat.le_of_ble_eq_true rfl) (Nat.le_of_ble_eq_true rfl) (by first | decide | omega) (fun _ e => nf_e e) (fun M1 n3 hn3 e => ?_)
      subst e
      refine g_aload_n dL_regulars_108 rfl ?_
      refine g_bipush (v := nI 11) dL_regulars_109 (by decide) ?_
      refine g_lN dL_regulars_111 (by omega) ?_
      refine g_icmp_ne (tgt := 119) dL_regulars_112 (by decide) (fun h => absurd rfl h) (fun _ => ?_)
      refine g_iconst (v := nI 1) dL_regulars_115 (by decide) ?_
      refine g_goto (tgt := 120) dL_regulars_116 (by decide) ?_
      exact g_ireturn_b (b := true) dL_regulars_120 rfl ⟨rfl, X, N, R, D, Y, rfl, hI, hL, hb⟩
    refine g_iload dL_regulars_90 rfl ?_
    refine g_if_eq_n (tgt := 103) dL_regulars_92 (by decide) (by omega) (fun h1 => ?_) (fun h1 => ?_)
    · exact g_loc (by rfl) (jc n1 hn1)
    · refine g_aload_n dL_regulars_95 rfl ?_
      refine g_bipush (v := nI 11) dL_regulars_96 (by decide) ?_
      refine g_lN dL_regulars_98 (by omega) ?_
      refine g_iconst (v := nI 4) dL_regulars_99 (by decide) ?_
      refine g_icmp_ne_n (tgt := 121) dL_regulars_100 (by decide) (by omega) (by omega) (fun h2 => ?_) (fun h2 => ?_)
      · refine g_iconst (v := nI 0) dL_regulars_121 (by decide) ?_
        refine g_istore dL_regulars_122 (by decide) ?_
        refine g_loc (by rfl) (rl2 h34 h411 hw.symm hwl hh hwd hft ht _ (fun n2 N1 R1 Da hn2 hP => ?_) 12 0 n1 N R D (by omega) hn1 ?_)
        · unfold rgP at hP
          rw [show min 12 (X 4 + 1) - X 3 = X 4 + 1 - X 3 by omega] at hP
          obtain ⟨hL1, hX1, hb1⟩ := hP
          obtain ⟨-, hlow, h11, -⟩ := mrN_ok (off := offW X h wd f t rk) (h := h) (wd := wd) (f := f) (t := t) hX.1 h411 hwd (X 4 + 1 - X 3) (by omega)
          have hrow := mkR0_rows (days := mkRd X h wd f t rk) (off := offW X h wd f t rk) (h := h) (wd := wd) (f := f) (t := t) (r := rk) (te := te) hlow hh
          have emk : mkR X h wd f t rk te = mkR0 (mrN X (offW X h wd f t rk) h wd f t (X 4 + 1 - X 3)).2 (mkRd X h wd f t rk) (offW X h wd f t rk) h wd f t rk te := rfl
          rw [← emk] at hrow
          generalize (mrN X (offW X h wd f t rk) h wd f t (X 4 + 1 - X 3)).2 = X1 at hL1 hX1 hb1 hlow h11 hrow
          have n11 : N1 11 = X 11 := hL1.2.1.1.trans h11
          have hn4 : N1 11 < 4 := by have := hL.2.1.1; omega
          have eN : ∀ j, j < 8 → N1 j = X j := fun j hj => (hL1.1 j (by omega)).trans (hlow j hj)
          have e5 := eN (5 + h) (by omega)
          have e2 := eN 2 (by omega)
          have e1 := eN 1 (by omega)
          have hrt := wf1_rate hX.2.1 hh
          have hx2 : X 2 ≤ 100 := hX.2.1.2.2.1
          have hx1 : X 1 ≤ 50 := hX.2.1.2.1
          refine g_bipush (v := nI 11) dL_regulars_174 (by decide) ?_
          refine g_aload_n dL_regulars_176 rfl ?_
          refine g_bipush (v := nI 11) dL_regulars_177 (by decide) ?_
          refine g_lN dL_regulars_179 (by omega) ?_
          refine g_imul_n dL_regulars_180 ?_
          refine g_istore dL_regulars_181 (by decide) ?_
          refine g_aload_n dL_regulars_183 rfl ?_
          refine g_iload dL_regulars_184 rfl ?_
          refine g_iload dL_regulars_186 rfl ?_
          refine g_sR dL_regulars_188 (by omega) ?_
          refine g_aload_n dL_regulars_189 rfl ?_
          refine g_iload dL_regulars_190 rfl ?_
          refine g_iconst (v := nI 1) dL_regulars_192 (by decide) ?_
          refine g_iadd_n dL_regulars_193 ?_
          refine g_iload dL_regulars_194 rfl ?_
          refine g_sR dL_regulars_196 (by omega) ?_
          refine g_aload_n dL_regulars_197 rfl ?_
          refine g_iload dL_regulars_198 rfl ?_
          refine g_iconst (v := nI 2) dL_regulars_200 (by decide) ?_
          refine g_iadd_n dL_regulars_201 ?_
          refine g_iload dL_regulars_202 rfl ?_
          refine g_sR dL_regulars_204 (by omega) ?_
          refine g_aload_n dL_regulars_205 rfl ?_
          refine g_iload dL_regulars_206 rfl ?_
          refine g_iconst (v := nI 3) dL_regulars_208 (by decide) ?_
          refine g_iadd_n dL_regulars_209 ?_
          refine g_iload dL_regulars_210 rfl ?_
          refine g_sR dL_regulars_212 (by omega) ?_
          refine g_aload_n dL_regulars_213 rfl ?_
          refine g_iload dL_regulars_214 rfl ?_
          refine g_iconst (v := nI 4) dL_regulars_216 (by decide) ?_
          refine g_iadd_n dL_regulars_217 ?_
          refine g_iload dL_regulars_218 rfl ?_
          refine g_sR dL_regulars_220 (by omega) ?_
          refine g_aload_n dL_regulars_221 rfl ?_
          refine g_iload dL_regulars_222 rfl ?_
          refine g_iconst (v := nI 5) dL_regulars_224 (by decide) ?_
          refine g_iadd_n dL_regulars_225 ?_
          refine g_iload dL_regulars_226 rfl ?_
          refine g_sR dL_regulars_228 (by omega) ?_
          refine g_aload_n dL_regulars_229 rfl ?_
          refine g_iload dL_regulars_230 rfl ?_
          refine g_bipush (v := nI 6) dL_regulars_232 (by decide) ?_
          refine g_iadd_n dL_regulars_234 ?_
          refine g_aload_n dL_regulars_235 rfl ?_
          refine g_iload dL_regulars_236 rfl ?_
          refine g_iload dL_regulars_238 rfl ?_
          refine g_iload dL_regulars_240 rfl ?_
          refine g_iload dL_regulars_242 rfl ?_
          refine g_isub_n dL_regulars_244 (by omega) ?_
          refine g_bipush (v := nI 100) dL_regulars_245 (by decide) ?_
          refine g_aload_n dL_regulars_247 rfl ?_
          refine g_iconst (v := nI 1) dL_regulars_248 (by decide) ?_
          refine g_lN dL_regulars_249 (by omega) ?_
          refine g_isub_n dL_regulars_250 (by omega) ?_
          refine g_callSn_i (kL_rent (h := h) (wd := wd) (hrs := t - f) (sh := 100 - N1 1) hh (by omega) (by omega) (by omega) (by omega) (by omega)) oL_rent pL_rent lL_44 dL_regulars_251 rfl rfl (Nat.le_of_ble_eq_true rfl) (Nat.le_of_ble_eq_true rfl) (by first | decide | omega) (Nat.le_refl _) (Nat.le_refl _) (fun _ e => nf_e e) (fun M1 n3 hn3 e => ?_)
          subst e
          rw [rentF_c e5 e2, e1]
          have ers : rentF X h wd (t - f) (100 - X 1) = rRent X h wd f t := rfl
          rw [ers]
          refine g_sR dL_regulars_254 (by omega) ?_
          refine g_aload_n dL_regulars_255 rfl ?_
          refine g_iload dL_regulars_256 rfl ?_
          refine g_bipush (v := nI 7) dL_regulars_258 (by decide) ?_
          refine g_iadd_n dL_regulars_260 ?_
          refine g_aload_n dL_regulars_261 rfl ?_
          refine g_iconst (v := nI 3) dL_regulars_262 (by decide) ?_
          refine g_lN dL_regulars_263 (by omega) ?_
          rw [eN 3 (by omega)]
          refine g_sR dL_regulars_264 (by omega) ?_
          refine g_aload_n dL_regulars_265 rfl ?_
          refine g_iload dL_regulars_266 rfl ?_
          refine g_bipush (v := nI 8) dL_regulars_268 (by decide) ?_
          refine g_iadd_n dL_regulars_270 ?_
          refine g_aload_n dL_regulars_271 rfl ?_
          refine g_iconst (v := nI 4) dL_regulars_272 (by decide) ?_
          refine g_lN dL_regulars_273 (by omega) ?_
          rw [eN 4 (by omega)]
          refine g_sR dL_regulars_274 (by omega) ?_
          refine g_aload_n dL_regulars_275 rfl ?_
          refine g_iload dL_regulars_276 rfl ?_
          refine g_bipush (v := nI 9) dL_regulars_278 (by decide) ?_
          refine g_iadd_n dL_regulars_280 ?_
          refine g_iload dL_regulars_281 rfl ?_
          refine g_sR dL_regulars_283 (by omega) ?_
          refine g_aload_n dL_regulars_284 rfl ?_
          refine g_bipush (v := nI 8) dL_regulars_285 (by decide) ?_
          refine g_dup2 dL_regulars_287 rfl rfl ?_
          refine g_lN dL_regulars_288 (by omega) ?_
          refine g_iload dL_regulars_289 rfl ?_
          refine g_aload_n dL_regulars_291 rfl ?_
          refine g_iload dL_regulars_292 rfl ?_
          refine g_bipush (v := nI 6) dL_regulars_294 (by decide) ?_
          refine g_iadd_n dL_regulars_296 ?_
          refine g_lR dL_regulars_297 (by omega) ?_
          rw [show (11 * N1 11 + 6 : Nat) = 11 * N1 11 + 6 from rfl, uN_n _ _ (show 11 * N1 11 + 6 ≠ 11 * N1 11 + 9 by omega), uN_n _ _ (show 11 * N1 11 + 6 ≠ 11 * N1 11 + 8 by omega), uN_n _ _ (show 11 * N1 11 + 6 ≠ 11 * N1 11 + 7 by omega), uN_s]
          refine g_imul_n dL_regulars_298 ?_
          refine g_iadd_n dL_regulars_299 ?_
          refine g_sN dL_regulars_300 (by omega) ?_
          refine g_aload_n dL_regulars_301 rfl ?_
          refine g_bipush (v := nI 11) dL_regulars_302 (by decide) ?_
          refine g_dup2 dL_regulars_304 rfl rfl ?_
          refine g_lN dL_regulars_305 (by omega) ?_
          rw [uN_n N1 _ (show 11 ≠ 8 by decide)]
          refine g_iconst (v := nI 1) dL_regulars_306 (by decide) ?_
          refine g_iadd_n dL_regulars_307 ?_
          refine g_sN dL_regulars_308 (by omega) ?_
          refine g_aload_n dL_regulars_309 rfl ?_
          refine g_iload dL_regulars_310 rfl ?_
          refine g_iload dL_regulars_312 rfl ?_
          refine g_iload dL_regulars_314 rfl ?_
          refine g_iload dL_regulars_316 rfl ?_
          refine g_iload dL_regulars_318 rfl ?_
          refine g_iload dL_regulars_320 rfl ?_
          have m11 : uN (uN N1 8 (N1 8 + dy * rRent X h wd f t)) 11 (N1 11 + 1) 11 = N1 11 + 1 := uN_s _ _ _
          have m8 : uN (uN N1 8 (N1 8 + dy * rRent X h wd f t)) 11 (N1 11 + 1) 8 = N1 8 + dy * mkV h wd f t rk te (rRent X h wd f t) (X 3) (X 4) (offW X h wd f t rk) 6 := by rw [uN_n _ _ (by omega), uN_s]; rfl
          have mm : ∀ j, j < 13 → j ≠ 8 → j ≠ 11 → uN (uN N1 8 (N1 8 + dy * rRent X h wd f t)) 11 (N1 11 + 1) j = N1 j := fun j hj hj8 hj11 => by rw [uN_n _ _ hj11, uN_n _ _ hj8]
          generalize uN (uN N1 8 (N1 8 + dy * rRent X h wd f t)) 11 (N1 11 + 1) = Nz at m11 m8 mm ⊢
          generalize hRz : uN (uN (uN (uN (uN (uN (uN (uN (uN (uN R1 (11 * N1 11) h) (11 * N1 11 + 1) wd) (11 * N1 11 + 2) f) (11 * N1 11 + 3) t) (11 * N1 11 + 4) rk) (11 * N1 11 + 5) te) (11 * N1 11 + 6) (rRent X h wd f t)) (11 * N1 11 + 7) (X 3)) (11 * N1 11 + 8) (X 4)) (11 * N1 11 + 9) w = Rz
          have r0 : ∀ j, j < 11 * N1 11 → Rz j = R1 j := fun j hj => by
            rw [← hRz]
            iterate 10 rw [uN_n _ _ (by omega)]
          have r1 : RgR (rw Rz (N1 11)) (mkV h wd f t rk te (rRent X h wd f t) (X 3) (X 4) (offW X h wd f t rk)) := by
            have rr : ∀ j, j < 10 → rw Rz (N1 11) j = mkV h wd f t rk te (rRent X h wd f t) (X 3) (X 4) w j := by
              rw [← hRz]
              refine lt10 ?_ ?_ ?_ ?_ ?_ ?_ ?_ ?_ ?_ ?_ <;> simp [uN, mkV, rw]
            refine ⟨fun j hj => ?_, by rw [rr 9 (by omega)]; exact hwl, fun k hk => ?_, hwd⟩
            · rw [rr j (by omega)]
              rcases (show j = 0 ∨ j = 1 ∨ j = 2 ∨ j = 3 ∨ j = 4 ∨ j = 5 ∨ j = 6 ∨ j = 7 ∨ j = 8 by omega) with rfl | rfl | rfl | rfl | rfl | rfl | rfl | rfl | rfl <;> rfl
            · rw [rr 9 (by omega)]
              exact hwo k
          have hmk := a_regular (M0 := lM M0 Nz Rz Da) hI hh hwd hft ht hr hr2 hte (by omega) (m := w) (fun k => by
            rw [hbit k]
            congr 1
            exact decide_eq_decide.mpr (by omega)) (fun q => by
            rw [q] at hcb
            exact h1 hcb)
          rw [bc_sum, ← hcb] at hmk
          refine g_callVn_i (hmk) oX5_regular pX5_regular lL_55 dL_regulars_322 rfl (cM_H rfl) rfl rfl rfl (Nat.le_of_ble_eq_true rfl) (Nat.le_of_ble_eq_true rfl) (by first | decide | omega) (fun _ h => by obtain ⟨Y', e, -⟩ := h; exact e ▸ nf_l (by omega)) (fun M1 n4 hn4 e => ?_)
          obtain ⟨Y4, e, hI4, hmd⟩ := e
          subst e
          rw [← hmd] at hrow
          refine g_iload dL_regulars_325 rfl ?_
          refine g_icmp_ne (tgt := 334) dL_regulars_327 (by decide) (fun h => absurd rfl h) (fun _ => ?_)
          refine g_iconst (v := nI 1) dL_regulars_330 (by decide) ?_
          refine g_goto (tgt := 335) dL_regulars_331 (by decide) ?_
          have e9 : Rz (11 * N1 11 + 9) = w := by rw [← hRz]; exact uN_s _ _ _
          have hL3 := Lw_addR hL1 hrow (by omega) m11 m8 mm r0 r1
          have hb3 := bal_addR hL1 hb1 hL3 m11 m8 mm r0 r1 (by rw [e9]; exact hcb)
          exact g_ireturn_b (b := true) dL_regulars_335 rfl ⟨rfl, _, Nz, Rz, Da, Y4, rfl, hI4, hL3, hb3⟩
        · unfold rgP
          rw [show min 0 (X 4 + 1) - X 3 = 0 by omega]
          exact ⟨hL, hX, hb⟩
      · exact g_loc (by rfl) (jc n1 hn1)
end LRG
