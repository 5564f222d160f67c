/-! mathematics: regular lets made -/
section OPS4
variable {Y Z : Nat → Nat → Nat} {X : Nat → Nat} {SS : Nat → Nat → Nat} {SN : Nat → Nat} {sm ik : Nat}
theorem offN_bit (X : Nat → Nat) (h wd f t r : Nat) : ∀ n k, (offN X h wd f t r n).testBit k = (decide (X 3 ≤ k ∧ k < X 3 + n) && decide (0 < rsn X h (7 * k + wd) f t r))
  | 0, k => by
    rw [offN, Nat.zero_testBit, decide_eq_false (by omega), Bool.false_and]
  | n + 1, k => by
    rw [offN, Nat.testBit_or, offN_bit X h wd f t r n k]
    by_cases e : k = X 3 + n
    · subst e
      rw [decide_eq_false (p := X 3 ≤ X 3 + n ∧ X 3 + n < X 3 + n) (by omega), decide_eq_true (p := X 3 ≤ X 3 + n ∧ X 3 + n < X 3 + (n + 1)) (by omega)]
      by_cases h0 : 0 < rsn X h (7 * (X 3 + n) + wd) f t r
      · rw [if_pos h0, Nat.testBit_two_pow, decide_eq_true rfl, decide_eq_true h0]; rfl
      · rw [if_neg h0, Nat.zero_testBit, decide_eq_false h0]; rfl
    · have e1 : decide (X 3 ≤ k ∧ k < X 3 + (n + 1)) = decide (X 3 ≤ k ∧ k < X 3 + n) := by
        rw [decide_eq_decide]; omega
      rw [e1]
      split
      · rw [Nat.testBit_two_pow, decide_eq_false (p := X 3 + n = k) (fun q => e q.symm), Bool.or_false]
      · rw [Nat.zero_testBit, Bool.or_false]
theorem drM_bit (hA : Ab Y 9 X) (hw : wS Y 9) (h4 : X 4 ≤ 11) {h wd f t r te : Nat} (hwd : wd ≤ 6) : ∀ n, X 3 + n ≤ X 4 + 1 → ∀ k, (drM Y h wd f t r te n).testBit k = (decide (X 3 ≤ k ∧ k < X 3 + n) && decide (rsn X h (7 * k + wd) f t r = 0))
  | 0, _, k => by
    rw [drM, Nat.zero_testBit, decide_eq_false (by omega), Bool.false_and]
  | n + 1, hn, k => by
    have e3 : Y 35 3 = X 3 := hA.1 3 (by omega)
    have hrs : rsV Y (drV Y h wd f t r te 0) (7 * (X 3 + n) + wd) = rsn X h (7 * (X 3 + n) + wd) f t r := ab_rs hA hw (by omega) _
    rw [drM, e3, hrs]
    by_cases e : k = X 3 + n
    · subst e
      rw [decide_eq_true (p := X 3 ≤ X 3 + n ∧ X 3 + n < X 3 + (n + 1)) (by omega), Bool.true_and]
      have ih := drM_bit hA hw h4 (h := h) (f := f) (t := t) (r := r) (te := te) hwd n (by omega) (X 3 + n)
      rw [decide_eq_false (p := X 3 ≤ X 3 + n ∧ X 3 + n < X 3 + n) (by omega), Bool.false_and] at ih
      by_cases h0 : rsn X h (7 * (X 3 + n) + wd) f t r = 0
      · rw [if_pos h0, or_bit, decide_eq_true rfl, decide_eq_true h0, Bool.or_true]
      · rw [if_neg h0, ih, decide_eq_false h0]
    · have e1 : decide (X 3 ≤ k ∧ k < X 3 + (n + 1)) = decide (X 3 ≤ k ∧ k < X 3 + n) := by
        rw [decide_eq_decide]; omega
      have ih := drM_bit hA hw h4 (h := h) (f := f) (t := t) (r := r) (te := te) hwd n (by omega) k
      rw [e1, ← ih]
      split
      · rw [or_bit, decide_eq_false (fun q => e q.symm), Bool.or_false]
      · rfl
/-- the weeks of the term, both ways -/
theorem dr_of (hA : Ab Y 9 X) (hw : wS Y 9) (h34 : X 3 ≤ X 4) (h4 : X 4 ≤ 11) {h wd f t r te m : Nat} (hwd : wd ≤ 6) (hm : m = drM Y h wd f t r te (Y 35 4 + 1 - Y 35 3)) (k : Nat) : m / 2 ^ k % 2 = 1 ↔ (X 3 ≤ k ∧ k ≤ X 4) ∧ offW X h wd f t r / 2 ^ k % 2 = 0 := by
  have e3 : Y 35 3 = X 3 := hA.1 3 (by omega)
  have e4 : Y 35 4 = X 4 := hA.1 4 (by omega)
  rw [e3, e4] at hm
  rw [bit_iff, bit_0, hm, drM_bit hA hw h4 hwd _ (by omega), offW, offN_bit]
  rw [show decide (X 3 ≤ k ∧ k < X 3 + (X 4 + 1 - X 3)) = decide (X 3 ≤ k ∧ k ≤ X 4) by rw [decide_eq_decide]; omega]
  simp only [Bool.and_eq_true, decide_eq_true_eq, Bool.and_eq_false_iff, decide_eq_false_iff_not]
  omega
theorem ssN_iff (X : Nat → Nat) (off : Nat) : ∀ n, ssN X off n = true ↔ ∃ i, i < n ∧ off / 2 ^ (X 3 + i) % 2 = 0
  | 0 => ⟨fun h => (by cases h), fun ⟨i, h, _⟩ => (by omega)⟩
  | n + 1 => by
    rw [ssN, Bool.or_eq_true, ssN_iff X off n, decide_eq_true_eq]
    constructor
    · rintro (⟨i, h1, h2⟩ | h)
      · exact ⟨i, by omega, h2⟩
      · exact ⟨n, by omega, h⟩
    · rintro ⟨i, h1, h2⟩
      by_cases e : i = n
      · subst e; exact Or.inr h2
      · exact Or.inl ⟨i, by omega, h2⟩
theorem dr_0 (hA : Ab Y 9 X) (hw : wS Y 9) (h34 : X 3 ≤ X 4) (h4 : X 4 ≤ 11) {h wd f t r te m : Nat} (hwd : wd ≤ 6) (hm : m = drM Y h wd f t r te (Y 35 4 + 1 - Y 35 3)) : m ≠ 0 ↔ ssW X (offW X h wd f t r) = true := by
  rw [ssW, ssN_iff]
  have hb := dr_of hA hw h34 h4 hwd hm
  constructor
  · intro h0
    obtain ⟨k, hk⟩ : ∃ k, m.testBit k = true := Nat.exists_testBit_of_ne_zero h0
    obtain ⟨⟨k1, k2⟩, k3⟩ := (hb k).mp ((bit_iff m k).mpr hk)
    exact ⟨k - X 3, by omega, by rw [show X 3 + (k - X 3) = k by omega]; exact k3⟩
  · rintro ⟨i, h1, h2⟩ h0
    have := (hb (X 3 + i)).mpr ⟨by omega, h2⟩
    rw [h0, Nat.zero_div] at this
    cases this
theorem ab_ref (hA : Ab Y 9 X) (hw : wS Y 9) (h34 : X 3 ≤ X 4) (h4 : X 4 ≤ 11) {h wd f t r te : Nat} (hwd : wd ≤ 6) : refR X h wd f t r = (decide (Y 10 1 = 8) || decide (drM Y h wd f t r te (Y 35 4 + 1 - Y 35 3) = 0)) := by
  have a6 : Y 10 1 = X 11 := hA.2.2.2.1.1
  have h0 := dr_0 hA hw h34 h4 (h := h) (f := f) (t := t) (r := r) (te := te) hwd rfl
  unfold refR
  rw [a6]
  congr 1
  cases hs : ssW X (offW X h wd f t r)
  · rw [hs] at h0
    rw [decide_eq_true (by
      by_cases e : drM Y h wd f t r te (Y 35 4 + 1 - Y 35 3) = 0
      · exact e
      · exact absurd (h0.mp e) (by decide))]
    rfl
  · rw [decide_eq_false (h0.mpr hs)]
    rfl
/-- one day after the other -/
theorem mr_step (hS : Sd Y 9 X) {h wd f t off m : Nat} (hwd : wd ≤ 6) (v0 : Y 70 0 = h) (v1 : Y 70 1 = wd) (v2 : Y 70 2 = f) (v3 : Y 70 3 = t) (v7 : Y 70 7 = X 3) (v9 : Y 70 9 = m) (hb : ∀ k, m / 2 ^ k % 2 = 1 ↔ (X 3 ≤ k ∧ k ≤ X 4) ∧ off / 2 ^ k % 2 = 0) : ∀ n Z, X 3 + n ≤ X 4 + 1 → mrP Y n Z → Sd Z 9 (mrN X off h wd f t n).2 ∧ (∀ j, j < 8 → (mrN X off h wd f t n).2 j = X j) ∧ (mrN X off h wd f t n).2 11 = X 11 ∧ (∀ q, (q < 9 ∨ 34 ≤ q) → Z q = Y q) ∧ (mrN X off h wd f t n).1 = bsum m (X 3 + n) - bsum m (X 3) ∧ bsum m (X 3) ≤ bsum m (X 3 + n) ∧ ∀ i, i < n → off / 2 ^ (X 3 + i) % 2 = 0 → NG (mrN X off h wd f t n).2 (h, f, t) (7 * (X 3 + i) + wd)
  | 0, Z, _, hm => by
    have hm : Z = Y := hm
    subst hm
    exact ⟨hS, fun _ _ => rfl, rfl, fun _ _ => rfl, by rw [mrN, Nat.add_zero, Nat.sub_self], Nat.le_refl _, fun i hi => by omega⟩
  | n + 1, Z, hn, hm => by
    obtain ⟨Z', hm1, hm2⟩ := hm
    obtain ⟨i1, i2, i3, i4, i5, i6, i7⟩ := mr_step hS hwd v0 v1 v2 v3 v7 v9 hb n Z' (by omega) hm1
    have h4 : X 4 ≤ 11 := hS.2.2.2.1.2.2.2.2.1
    have hvs : vStd (Y 70) (7 * (X 3 + n) + wd) = decide (off / 2 ^ (X 3 + n) % 2 = 0) := by
      unfold vStd
      rw [v1, v9, show (7 * (X 3 + n) + wd) % 7 = wd by omega, show (7 * (X 3 + n) + wd) / 7 = X 3 + n by omega, decide_eq_true rfl, Bool.true_and, decide_eq_decide, hb]
      exact ⟨fun q => q.2, fun q => ⟨⟨by omega, by omega⟩, q⟩⟩
    rw [v7, v1, hvs] at hm2
    rw [mrN]
    have e70 : Z' 70 = Y 70 := i4 70 (by omega)
    rw [show X 3 + (n + 1) = X 3 + n + 1 by omega, bsum]
    generalize mrN X off h wd f t n = P at i1 i2 i3 i5 i7
    by_cases h0 : off / 2 ^ (X 3 + n) % 2 = 0
    · rw [decide_eq_true h0] at hm2
      have hm2 : gwRel Z' Z (7 * (X 3 + n) + wd) := hm2
      rw [if_pos h0]
      have hA := ab_gw i1.1 i1.2.1 i1.2.2.1 (by omega) hm2
      rw [e70, v0, v2, v3] at hA
      have hX := XG_gw i1.2.2 (day := 7 * (X 3 + n) + wd) (a := h) (f := f) (t := t) (by omega)
      obtain ⟨k1, k2⟩ := gwRel_k i1.1 hm2
      obtain ⟨-, g2, -, g4⟩ := gw_ok i1.2.2.1 (day := 7 * (X 3 + n) + wd) (h := h) (f := f) (t := t) (by omega)
      have hb1 := (hb (X 3 + n)).mpr ⟨by omega, h0⟩
      refine ⟨⟨k1, hA, hX⟩, fun j hj => (g2 j hj).trans (i2 j hj), g4.trans i3, fun q hq => (k2 q hq).trans (i4 q hq), ?_, by omega, fun i hi hio => ?_⟩
      · show P.1 + 1 = _
        omega
      · by_cases e : i = n
        · subst e
          exact gw_NG i1.2.2.1 (by omega)
        · exact sub_NG (gw_sub i1.2.2.1 (by omega)) (by omega) (i7 i (by omega) hio)
    · rw [decide_eq_false h0] at hm2
      have hm2 : Z = Z' := hm2
      rw [if_neg h0, hm2]
      have hb1 : m / 2 ^ (X 3 + n) % 2 = 0 := by
        have : ¬ m / 2 ^ (X 3 + n) % 2 = 1 := fun q => h0 ((hb (X 3 + n)).mp q).2
        omega
      refine ⟨i1, i2, i3, i4, by omega, by omega, fun i hi hio => ?_⟩
      by_cases e : i = n
      · subst e
        exact absurd hio h0
      · exact i7 i (by omega) hio
theorem bsum_0 {m a : Nat} : ∀ n, (∀ k, a ≤ k → k < a + n → m / 2 ^ k % 2 = 0) → bsum m (a + n) = bsum m a
  | 0, _ => rfl
  | n + 1, h => by
    rw [show a + (n + 1) = a + n + 1 by omega, bsum, bsum_0 n (fun k h1 h2 => h k h1 (by omega)), h (a + n) (by omega) (by omega), Nat.add_zero]
theorem inv_regular (hI : Inv Y X SS SN sm ik) {h wd f t r te m : Nat} (hh : h ≤ 2) (hwd : wd ≤ 6) (hft : f < t) (ht : t ≤ 24) (hr : 1 ≤ r) (hr2 : r ≤ 9) (hte : te ≤ 19) (h8 : X 11 < 8) (hm : m = drM Y h wd f t r te (Y 35 4 + 1 - Y 35 3)) (hm0 : m ≠ 0) {Y1 Y3 W : Nat → Nat → Nat} (h1 : scr (uA Y 70 (drV Y h wd f t r te m)) Y1) (h2 : svRel Y1 Y3) (h3 : mrP Y3 (Y 35 4 + 1 - Y 35 3) W) : Inv (mrY W) (mkR X h wd f t r te) (svS SS sm X) SN (svN sm) ik ∧ bc12 m = mkRd X h wd f t r ∧ ∀ q, 34 ≤ q → mrY W q = Y3 q := by
  have hC := Inv_wC hI
  obtain ⟨hw, hA, ⟨⟨hB, n1, n2⟩, hx1, hx2, hx3⟩⟩ := id hI.1
  have h34 : X 3 ≤ X 4 := hx1.2.2.2.1
  have h4 : X 4 ≤ 11 := hx1.2.2.2.2.1
  have e3 : Y 35 3 = X 3 := hA.1 3 (by omega)
  have e4 : Y 35 4 = X 4 := hA.1 4 (by omega)
  have hml : m < 4096 := by
    rw [hm, e3, e4]
    exact drM_lt hC h wd f t r te _ (by rw [e3]; omega)
  have hbit := dr_of hA hw h34 h4 hwd hm
  have hvB := drV_B hC (h := h) (wd := wd) (f := f) (t := t) (r := r) (te := te) (m := m) hh hwd hft ht hr2 hte hml
  have hI1 := Inv_scr (Inv_70 hI (vB_dB hvB)) h1
  have hI3 := Inv_sv hI1 h2
  have e70 : Y3 70 = drV Y h wd f t r te m := (svRel_k h2 hI1.2.1.1 (by have := hI1.2.1.2.1; have := hI1.2.1.2.2.1; omega) (by omega) (by omega) (by omega)).trans ((h1 70 (by omega) (by omega) (by omega)).trans (uA_s _ _ _))
  rw [e3, e4] at h3
  obtain ⟨s1, s2, s3, s4, s5, s6, s7⟩ := mr_step hI3.1 (h := h) (wd := wd) (f := f) (t := t) (off := offW X h wd f t r) (m := m) hwd (by rw [e70]; rfl) (by rw [e70]; rfl) (by rw [e70]; rfl) (by rw [e70]; rfl) (by rw [e70]; exact e3) (by rw [e70]; rfl) hbit (X 4 + 1 - X 3) W (by omega) h3
  have hz1 : bsum m (X 3) = 0 := by
    have := bsum_0 (m := m) (a := 0) (X 3) (fun k h1 h2 => by
      have : ¬ m / 2 ^ k % 2 = 1 := fun q => by have := ((hbit k).mp q).1; omega
      omega)
    rw [Nat.zero_add] at this
    rw [this]; rfl
  have hz2 : bsum m 12 = bsum m (X 4 + 1) := by
    have := bsum_0 (m := m) (a := X 4 + 1) (11 - X 4) (fun k h1 h2 => by
      have : ¬ m / 2 ^ k % 2 = 1 := fun q => by have := ((hbit k).mp q).1; omega
      omega)
    rwa [show X 4 + 1 + (11 - X 4) = 12 by omega] at this
  have hcnt : bc12 m = mkRd X h wd f t r := by
    rw [mkRd, s5, bc_sum, hz2, hz1, Nat.sub_zero, show X 3 + (X 4 + 1 - X 3) = X 4 + 1 by omega]
  refine and_left_comm.mp ⟨hcnt, ?_⟩
  have hoff : offW X h wd f t r < 2 ^ 12 := offN_lt h4 h wd f t r _ (by omega)
  have hW70 : W 70 = drV Y h wd f t r te m := (s4 70 (by omega)).trans e70
  have hrow := mkR0_rows (days := mkRd X h wd f t r) (off := offW X h wd f t r) (h := h) (wd := wd) (f := f) (t := t) (r := r) (te := te) s2 hh
  have emk : mkR X h wd f t r te = mkR0 (mrN X (offW X h wd f t r) h wd f t (X 4 + 1 - X 3)).2 (mkRd X h wd f t r) (offW X h wd f t r) h wd f t r te := rfl
  rw [emk]
  generalize (mrN X (offW X h wd f t r) h wd f t (X 4 + 1 - X 3)).2 = X1 at s1 s2 s3 s7 hrow
  generalize mkR0 X1 (mkRd X h wd f t r) (offW X h wd f t r) h wd f t r te = X2 at hrow
  have hrent : rRent X h wd f t ≤ 240000 := rentF_le hx1 hh (by omega) (by omega)
  have w10 : W 10 1 = X1 11 := s1.2.1.2.2.2.1.1
  obtain ⟨f1, f2, f3⟩ := addR_wf (by omega) hrow s1.2.2.1 s1.2.2.2.1 s1.2.2.2.2.1 ⟨hh, hft, ht, hr, hr2, hte, hrent⟩ hwd h34 h4 hoff
  have hRg : RgR (W 70) (mkV h wd f t r te (rRent X h wd f t) (X 3) (X 4) (offW X h wd f t r)) := by
    rw [hW70]
    refine ⟨fun j hj => ?_, hml, fun k hk => hbit k, hwd⟩
    rcases (show j = 0 ∨ j = 1 ∨ j = 2 ∨ j = 3 ∨ j = 4 ∨ j = 5 ∨ j = 6 ∨ j = 7 ∨ j = 8 by omega) with rfl | rfl | rfl | rfl | rfl | rfl | rfl | rfl | rfl
    · rfl
    · rfl
    · rfl
    · rfl
    · rfl
    · rfl
    · show vRn Y h wd (t - f) (Y 35 1) = rRent X h wd f t
      rw [ab_vRn hA (by omega), show Y 35 1 = X 1 from hA.1 1 (by omega)]
      rfl
    · exact e3
    · exact e4
  obtain ⟨g1, g2, g3, g4⟩ := addR_Ab s1.1 (by omega) s1.2.1 hrow hRg (by rw [hW70]; exact hcnt.symm)
  have hNC : NC X2 := addR_NC (by omega) hrow s1.2.2.2.2.2 (fun d hd hs => by
    have r1 := hrow.2.2.1 1 (by omega)
    have r7 := hrow.2.2.1 7 (by omega)
    have r8 := hrow.2.2.1 8 (by omega)
    have r9 := hrow.2.2.1 9 (by omega)
    unfold stdR at hs
    rw [r1, r7, r8, r9] at hs
    simp only [Bool.and_eq_true, decide_eq_true_eq] at hs
    obtain ⟨d1, ⟨d2, d3⟩, d4⟩ := hs
    have d1 : wd = d % 7 := d1
    have d2 : X 3 ≤ d / 7 := d2
    have d3 : d / 7 ≤ X 4 := d3
    have d4 : offW X h wd f t r / 2 ^ (d / 7) % 2 = 0 := d4
    have := s7 (d / 7 - X 3) (by omega) (by rw [show X 3 + (d / 7 - X 3) = d / 7 by omega]; exact d4)
    rw [show 7 * (X 3 + (d / 7 - X 3)) + wd = d by omega] at this
    exact this)
  exact ⟨Inv_upd hI3 (fun q q1 q2 => (g4 q (by omega)).trans (s4 q (by omega))) (by rw [g4 70 (by omega), hW70]; exact vB_dB hvB) (Sd_of g2 g3 g1 ⟨f1, f2, f3, hNC⟩), fun q hq => (g4 q (by omega)).trans (s4 q (by omega))⟩
end OPS4
