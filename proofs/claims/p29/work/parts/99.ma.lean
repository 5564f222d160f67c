/-! mathematics: rates, settings, undo, keep, restore, days off, lets that end -/
theorem Sd_of {Z : Nat → Nat → Nat} {X : Nat → Nat} (h1 : rP Z 10 8) (h2 : rP Z 20 12) (hA : Ab Z 9 X) (hX : XG X) : Sd Z 9 X := by
  obtain ⟨a1, a2, a3, ⟨a4, a5⟩, a6, a7⟩ := hA
  have hA : Ab Z 9 X := ⟨a1, a2, a3, ⟨a4, a5⟩, a6, a7⟩
  obtain ⟨⟨hB, n1, n2⟩, x1, x2, x3⟩ := hX
  have hX : XG X := ⟨⟨hB, n1, n2⟩, x1, x2, x3⟩
  refine ⟨⟨⟨h1, by rw [a4]; exact n1, fun i hi => ?_⟩, h2, by rw [a5]; exact n2, fun i hi => ?_⟩, hA, hX⟩
  · rw [a4] at hi
    obtain ⟨r1, r2, r3, r4⟩ := a6 i hi
    obtain ⟨⟨b1, b2, b3, b4, b5, b6, b7⟩, b8, b9, b10, b11⟩ := x2.1 i hi
    refine ⟨fun j hj => ?_, r2, ?_, ?_⟩
    · rw [r1 j hj]; exact hB _ (by omega) (by omega) (by omega) (by omega)
    · rw [r1 2 (by omega), r1 3 (by omega)]; exact b2
    · rw [r1 0 (by omega)]; exact b1
  · rw [a5] at hi
    obtain ⟨r0, r1, r2, r7, r8, r9, r84⟩ := a7 i hi
    obtain ⟨⟨b1, b2, b3, b4, b5, b6, b7⟩, b8⟩ := x2.2 i hi
    refine ⟨fun j hj => ?_, ?_, ?_, ?_⟩
    · by_cases e0 : j = 0
      · subst e0; rw [r0]; exact hB _ (by omega) (by omega) (by omega) (by omega)
      · by_cases e1 : j = 1
        · subst e1; rw [r1]; omega
        · by_cases e7 : j < 7
          · rw [r2 j (by omega) e7]; exact hB _ (by omega) (by omega) (by omega) (by omega)
          · rcases (show j = 7 ∨ j = 8 by omega) with rfl | rfl
            · rw [r7]; omega
            · rw [r8]; omega
    · rw [r9]; exact Nat.lt_of_lt_of_le (Nat.pow_lt_pow_of_lt (by decide) (show _ < 12 by omega)) (Nat.le_refl _)
    · rw [r2 2 (by omega) (by omega), r2 3 (by omega) (by omega)]; exact b2
    · rw [r0]; exact b1
theorem low_lk {X X' : Nat → Nat} (h8 : X 11 ≤ 8) (e : ∀ j, 11 ≤ j → X' j = X j) (d : Nat) : (lk X' d).map (enx X') = (lk X d).map (enx X) := by
  rw [lk, lk, List.map_append, List.map_append, e 11 (by omega), e 92 (by omega), lkR_same (X := X) (fun i hi j hj => e _ (by omega)) _ (Nat.le_refl _), lkS_same (X := X) (fun i hi j hj => e _ (by omega)) _ (Nat.le_refl _)]
theorem low_wf2 {X X' : Nat → Nat} (e : ∀ j, 11 ≤ j → X' j = X j) (h2 : wf2 X) : wf2 X' := by
  refine ⟨fun i hi => ?_, fun i hi => ?_⟩
  · rw [e 11 (by omega)] at hi
    unfold lOK
    rw [e (12 + 10 * i) (by omega), e (12 + 10 * i + 1) (by omega), e (12 + 10 * i + 2) (by omega), e (12 + 10 * i + 3) (by omega), e (12 + 10 * i + 4) (by omega), e (12 + 10 * i + 5) (by omega), e (12 + 10 * i + 6) (by omega), e (12 + 10 * i + 7) (by omega), e (12 + 10 * i + 8) (by omega), e (12 + 10 * i + 9) (by omega)]
    exact h2.1 i hi
  · rw [e 92 (by omega)] at hi
    unfold lOK
    rw [e (93 + 7 * i) (by omega), e (93 + 7 * i + 1) (by omega), e (93 + 7 * i + 2) (by omega), e (93 + 7 * i + 3) (by omega), e (93 + 7 * i + 4) (by omega), e (93 + 7 * i + 5) (by omega), e (93 + 7 * i + 6) (by omega)]
    exact h2.2 i hi
theorem RgR_e {v w w' : Nat → Nat} (h : RgR v w) (e : ∀ j, w' j = w j) : RgR v w' := RgR_c h (fun _ _ => rfl) (fun j _ => e j)
theorem SgR_e {v w w' : Nat → Nat} (h : SgR v w) (e : ∀ j, w' j = w j) : SgR v w' := SgR_c h (fun _ _ => rfl) (fun j _ => e j)
section OPS
variable {Y Z : Nat → Nat → Nat} {X : Nat → Nat} {SS : Nat → Nat → Nat} {SN : Nat → Nat} {sm ik : Nat}
theorem rP_e {Y Z : Nat → Nat → Nat} {r n : Nat} (e : Z (r + 1) = Y (r + 1)) (h : rP Y r n) : rP Z r n := by
  unfold rP
  rw [e]
  exact h
theorem inv_rate (hI : Inv Y X SS SN sm ik) {a v : Nat} (ha : a ≤ 2) (hv : 100 ≤ v) (hv2 : v ≤ 5000) {Y3 : Nat → Nat → Nat} (hS : svRel Y Y3) : Inv (uA Y3 34 (uN (Y3 34) a v)) (uN X (5 + a) v) (svS SS sm X) SN (svN sm) ik := by
  have h3 := Inv_sv hI hS
  obtain ⟨⟨hw, ⟨a1, a2, a3, ⟨a4, a5⟩, a6, a7⟩, ⟨hB, n1, n2⟩, ⟨w0, w1, w2, w3, w4, w5, w6, w7⟩, x2, x3⟩, -, -, h70⟩ := id h3
  have e : ∀ j, 11 ≤ j → uN X (5 + a) v j = X j := fun j hj => uN_n _ _ (by omega)
  refine Inv_upd h3 (fun q h1 h2 => uA_n _ _ (by omega)) (by rw [uA_n _ _ (by omega)]; exact h70) (Sd_of (rP_e (uA_n _ _ (by omega)) hw.1.1) (rP_e (uA_n _ _ (by omega)) hw.2.1) ⟨fun j hj => ?_, fun j hj => ?_, ⟨?_, ?_, ?_⟩, ⟨?_, ?_⟩, fun i hi => ?_, fun i hi => ?_⟩ ⟨⟨rB_uN hB (by omega), by rw [e _ (by omega)]; exact n1, by rw [e _ (by omega)]; exact n2⟩, ?_, low_wf2 e x2, fun d hd => ?_⟩)
  · rw [uA_n _ _ (by omega), uN_n _ _ (by omega)]; exact a1 j hj
  · show uA Y3 34 (uN (Y3 34) a v) 34 j = _
    rw [uA_s]
    by_cases h : j = a
    · subst h; rw [uN_s, uN_s]
    · rw [uN_n _ _ h, uN_n _ _ (by omega)]; exact a2 j hj
  · rw [uA_n _ _ (by omega), uN_n _ _ (by omega)]; exact a3.1
  · rw [uA_n _ _ (by omega), uN_n _ _ (by omega)]; exact a3.2.1
  · rw [uA_n _ _ (by omega), uN_n _ _ (by omega)]; exact a3.2.2
  · rw [uA_n _ _ (by omega), uN_n _ _ (by omega)]; exact a4
  · rw [uA_n _ _ (by omega), uN_n _ _ (by omega)]; exact a5
  · rw [uN_n _ _ (by omega)] at hi
    have hq : 12 ≤ Y3 11 i ∧ Y3 11 i < 20 := hw.1.1.1 i (by omega)
    show RgR (uA Y3 34 _ (uA Y3 34 _ 11 i)) _
    rw [uA_n (a := 11) _ _ (by omega), uA_n _ _ (by omega)]
    exact RgR_e (a6 i hi) (fun j => e _ (by omega))
  · rw [uN_n _ _ (by omega)] at hi
    have hq : 22 ≤ Y3 21 i ∧ Y3 21 i < 34 := hw.2.1.1 i (by omega)
    show SgR (uA Y3 34 _ (uA Y3 34 _ 21 i)) _
    rw [uA_n (a := 21) _ _ (by omega), uA_n _ _ (by omega)]
    exact SgR_e (a7 i hi) (fun j => e _ (by omega))
  · unfold wf1
    rw [uN_n _ _ (by omega), uN_n _ _ (by omega), uN_n _ _ (by omega), uN_n _ _ (by omega), uN_n _ _ (by omega)]
    refine ⟨w0, w1, w2, w3, w4, ?_, ?_, ?_⟩
    · by_cases h : a = 0
      · subst h; rw [uN_s]; exact ⟨hv, hv2⟩
      · rw [uN_n _ _ (by omega)]; exact w5
    · by_cases h : a = 1
      · subst h; rw [uN_s]; exact ⟨hv, hv2⟩
      · rw [uN_n _ _ (by omega)]; exact w6
    · by_cases h : a = 2
      · subst h; rw [uN_s]; exact ⟨hv, hv2⟩
      · rw [uN_n _ _ (by omega)]; exact w7
  · rw [uN_n _ _ (by omega), low_lk n1 e]
    exact x3 d hd
theorem set_NC (hX : wf0 X) (h2 : wf2 X) (hN : NC X) {Y : Nat → Nat → Nat} (hA : Ab Y 9 X) {w v : Nat} (hw : w ≤ 4) (hg : gdW X w v = true) : NC (uN X w v) := by
  have e : ∀ j, 11 ≤ j → uN X w v j = X j := fun j hj => uN_n _ _ (by omega)
  intro d hd
  rw [low_lk hX.2.1 e]
  by_cases h0 : w = 0
  · subst h0
    rw [uN_s]
    unfold gdW at hg
    rw [Bool.and_eq_true, show decide ((0 : Nat) ≠ 0) = false from rfl, Bool.false_or] at hg
    exact (ab_al hA hX h2 v 84 0 (by omega)).2 hg.2 d (by omega) (by omega)
  · rw [uN_n _ _ (fun q => h0 q.symm)]
    exact hN d hd
theorem inv_set (hI : Inv Y X SS SN sm ik) {w v : Nat} (hw : w ≤ 4) (hv : v ≤ mxS w) (hg : gdW X w v = true) {Y' Y3 : Nat → Nat → Nat} (h' : scr Y Y') (hS : svRel Y' Y3) : Inv (uA Y3 35 (uN (Y3 35) w v)) (uN X w v) (svS SS sm X) SN (svN sm) ik := by
  have h3 := Inv_sv (Inv_scr hI h') hS
  obtain ⟨⟨hw9, ⟨a1, a2, a3, ⟨a4, a5⟩, a6, a7⟩, ⟨hB, n1, n2⟩, ⟨w0, w1, w2, w3, w4, w5, w6, w7⟩, x2, x3⟩, -, -, h70⟩ := id h3
  have hA : Ab Y3 9 X := ⟨a1, a2, a3, ⟨a4, a5⟩, a6, a7⟩
  have e : ∀ j, 11 ≤ j → uN X w v j = X j := fun j hj => uN_n _ _ (by omega)
  have h100 := mxS_le w
  refine Inv_upd h3 (fun q h1 h2 => uA_n _ _ (by omega)) (by rw [uA_n _ _ (by omega)]; exact h70) (Sd_of (rP_e (uA_n _ _ (by omega)) hw9.1.1) (rP_e (uA_n _ _ (by omega)) hw9.2.1) ⟨fun j hj => ?_, fun j hj => ?_, ⟨?_, ?_, ?_⟩, ⟨?_, ?_⟩, fun i hi => ?_, fun i hi => ?_⟩ ⟨wf0_set ⟨hB, n1, n2⟩ hw (by omega), ?_, low_wf2 e x2, set_NC ⟨hB, n1, n2⟩ x2 x3 hA hw hg⟩)
  · show uA Y3 35 (uN (Y3 35) w v) 35 j = _
    rw [uA_s]
    by_cases h : j = w
    · subst h; rw [uN_s, uN_s]
    · rw [uN_n _ _ h, uN_n _ _ h]; exact a1 j hj
  · rw [uA_n _ _ (by omega), uN_n _ _ (by omega)]; exact a2 j hj
  · rw [uA_n _ _ (by omega), uN_n _ _ (by omega)]; exact a3.1
  · rw [uA_n _ _ (by omega), uN_n _ _ (by omega)]; exact a3.2.1
  · rw [uA_n _ _ (by omega), uN_n _ _ (by omega)]; exact a3.2.2
  · rw [uA_n _ _ (by omega), uN_n _ _ (by omega)]; exact a4
  · rw [uA_n _ _ (by omega), uN_n _ _ (by omega)]; exact a5
  · rw [uN_n _ _ (by omega)] at hi
    have hq : 12 ≤ Y3 11 i ∧ Y3 11 i < 20 := hw9.1.1.1 i (by omega)
    show RgR (uA Y3 35 _ (uA Y3 35 _ 11 i)) _
    rw [uA_n (a := 11) _ _ (by omega), uA_n _ _ (by omega)]
    exact RgR_e (a6 i hi) (fun j => e _ (by omega))
  · rw [uN_n _ _ (by omega)] at hi
    have hq : 22 ≤ Y3 21 i ∧ Y3 21 i < 34 := hw9.2.1.1 i (by omega)
    show SgR (uA Y3 35 _ (uA Y3 35 _ 21 i)) _
    rw [uA_n (a := 21) _ _ (by omega), uA_n _ _ (by omega)]
    exact SgR_e (a7 i hi) (fun j => e _ (by omega))
  · unfold gdW at hg
    rw [Bool.and_eq_true, decide_eq_true_eq] at hg
    have h34 := hg.1
    rcases (show w = 0 ∨ w = 1 ∨ w = 2 ∨ w = 3 ∨ w = 4 by omega) with rfl | rfl | rfl | rfl | rfl
    · exact ⟨hv, w1, w2, w3, w4, w5, w6, w7⟩
    · exact ⟨w0, hv, w2, w3, w4, w5, w6, w7⟩
    · exact ⟨w0, w1, hv, w3, w4, w5, w6, w7⟩
    · exact ⟨w0, w1, w2, h34, w4, w5, w6, w7⟩
    · exact ⟨w0, w1, w2, h34, hv, w5, w6, w7⟩
theorem inv_undo {s : Nat} (hI : Inv Y X SS SN (s + 1) ik) (h : bcm (uA Y 8 (uN (Y 8) 4 s)) Z 9 (Y 63 s)) : Inv Z (SS s) SS SN s ik := by
  obtain ⟨⟨hw, -⟩, ⟨b1, b2, b3, b4⟩, ⟨c1, c2, c3, c4, c5⟩, h70⟩ := hI
  have hp := wB_63 b1 (i := s) (by omega)
  have e8 : Z 8 = uN (Y 8) 4 s := (h.1 8 (by omega)).trans (uA_s _ _ _)
  have ez : ∀ q, (q < 9 ∨ 36 ≤ q) → q ≠ 8 → Z q = Y q := fun q h1 h2 => (h.1 q (by omega)).trans (uA_n _ _ h2)
  have h9 := Sd_bcm h (rP_e (uA_n _ _ (by omega)) hw.1.1) (rP_e (uA_n _ _ (by omega)) hw.2.1) (Sd_same (fun q h1 h2 => uA_n _ _ (by omega)) (b4 s (by omega)))
  refine ⟨h9, ⟨wB_same (fun q hq => ez q (by omega) (by omega)) b1, by rw [e8, uN_s], by omega, fun i hi => ?_⟩, ⟨rP_e (ez _ (by omega) (by omega)) c1, rP_e (ez _ (by omega) (by omega)) c2, by rw [e8, uN_n _ _ (by omega)]; exact c3, c4, fun e => Sd_same (fun q h1 h2 => ez q (by omega) (by omega)) (c5 e)⟩, by rw [ez 70 (by omega) (by omega)]; exact h70⟩
  have hp := wB_63 b1 (i := i) (by omega)
  rw [ez 63 (by omega) (by omega)]
  exact Sd_same (fun q h1 h2 => ez q (by omega) (by omega)) (b4 i (by omega))
theorem inv_restore {Y3 : Nat → Nat → Nat} (hI : Inv Y X SS SN sm 1) (hS : svRel Y Y3) (h : bcm Y3 Z 9 36) : Inv Z SN (svS SS sm X) SN (svN sm) 1 := by
  have h3 := Inv_sv hI hS
  exact Inv_upd h3 (fun q h1 h2 => h.1 q (by omega)) (by rw [h.1 70 (by omega)]; exact h3.2.2.2) (Sd_bcm h h3.1.1.1.1 h3.1.1.2.1 (h3.2.2.1.2.2.2.2 rfl))
theorem inv_keep {Y2 : Nat → Nat → Nat} (hI : Inv Y X SS SN sm ik) (h : bcm Y Y2 36 9) : Inv (uA Y2 8 (uN (Y2 8) 2 1)) X SS X sm 1 := by
  obtain ⟨h9, ⟨b1, b2, b3, b4⟩, ⟨c1, c2, c3, c4, c5⟩, h70⟩ := hI
  have ez : ∀ q, (q < 36 ∨ 63 ≤ q) → q ≠ 8 → uA Y2 8 (uN (Y2 8) 2 1) q = Y q := fun q h1 h2 => (uA_n _ _ h2).trans (h.1 q (by omega))
  have e8 : Y2 8 = Y 8 := h.1 8 (by omega)
  have z8 : uA Y2 8 (uN (Y2 8) 2 1) 8 = uN (Y2 8) 2 1 := uA_s _ _ _
  have zr : ∀ q, q ≠ 8 → uA Y2 8 (uN (Y2 8) 2 1) q = Y2 q := fun q hq => uA_n _ _ hq
  generalize uA Y2 8 (uN (Y2 8) 2 1) = Z at ez z8 zr
  refine ⟨Sd_same (fun q h1 h2 => ez q (by omega) (by omega)) h9, ⟨wB_same (fun q hq => ez q (by omega) (by omega)) b1, by rw [z8, uN_n _ _ (by omega), e8]; exact b2, b3, fun i hi => ?_⟩, ⟨rP_e ((zr _ (by omega)).trans h.2.1.1) c1, rP_e ((zr _ (by omega)).trans h.2.1.2) c2, by rw [z8, uN_s], Or.inr rfl, fun _ => Sd_same (fun q h1 h2 => zr q (by omega)) (Sd_bcm h c1 c2 h9)⟩, by rw [ez 70 (by omega) (by omega)]; exact h70⟩
  have hp := wB_63 b1 (i := i) (by omega)
  rw [ez 63 (by omega) (by omega)]
  exact Sd_same (fun q h1 h2 => ez q (by omega) (by omega)) (b4 i hi)
end OPS
