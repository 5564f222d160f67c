/-! mathematics: what gives way -/
theorem bit_iff (x k : Nat) : x / 2 ^ k % 2 = 1 ↔ x.testBit k = true := by
  rw [Nat.testBit_eq_decide_div_mod_eq, decide_eq_true_eq]
theorem bit_0 (x k : Nat) : x / 2 ^ k % 2 = 0 ↔ x.testBit k = false := by
  have := bit_iff x k
  cases h : x.testBit k
  · rw [h] at this
    have h2 : ¬ x / 2 ^ k % 2 = 1 := fun q => by cases this.mp q
    simp only [iff_true]
    omega
  · have h2 := this.mpr h
    simp only [Bool.true_eq_false, iff_false]
    omega
theorem lvW_bit (W : Nat) {w k : Nat} (hw : w < 12) (hk : k < 12) : (lvW W w).testBit k = (W.testBit k && !decide (w = k)) := by
  have h2 : 2 ^ w < 2 ^ 32 := Nat.pow_lt_pow_of_lt (by decide) (by omega)
  rw [lvW, Nat.testBit_and, show (4294967295 : Nat) - 2 ^ w = 2 ^ 32 - (2 ^ w + 1) by omega, Nat.testBit_two_pow_sub_succ h2, decide_eq_true (show k < 32 by omega), Bool.true_and, Nat.testBit_two_pow]
theorem or_bit (W w k : Nat) : (W ||| 2 ^ w).testBit k = (W.testBit k || decide (w = k)) := by
  rw [Nat.testBit_or, Nat.testBit_two_pow]
/-- a week less -/
theorem RgR_lv {v w : Nat → Nat} (h : RgR v w) {a : Nat} (ha : a < 12) : RgR (uN v 9 (lvW (v 9) a)) (uN w 9 (w 9 ||| 2 ^ a)) := by
  obtain ⟨h1, h2, h3, h4⟩ := h
  refine ⟨fun j hj => by rw [uN_n _ _ (by omega), uN_n _ _ (by omega)]; exact h1 j hj, ?_, fun k hk => ?_, by rw [uN_n _ _ (by omega)]; exact h4⟩
  · rw [uN_s]; exact Nat.lt_of_le_of_lt (lvW_le _ _) h2
  · rw [uN_s, uN_s, uN_n _ _ (by omega), uN_n _ _ (by omega), bit_iff, bit_0, lvW_bit _ ha hk, or_bit]
    have := h3 k hk
    rw [bit_iff, bit_0] at this
    simp only [Bool.and_eq_true, Bool.not_eq_true', decide_eq_false_iff_not, Bool.or_eq_false_iff, this]
    constructor
    · rintro ⟨⟨a1, a2⟩, a3⟩; exact ⟨a1, a2, a3⟩
    · rintro ⟨a1, a2, a3⟩; exact ⟨⟨a1, a2⟩, a3⟩
theorem RgR_c {v v' w w' : Nat → Nat} (h : RgR v w) (hv : ∀ j, j < 10 → v' j = v j) (hw : ∀ j, j < 10 → w' j = w j) : RgR v' w' := by
  obtain ⟨h1, h2, h3, h4⟩ := h
  refine ⟨fun j hj => by rw [hv j (by omega), hw j (by omega)]; exact h1 j hj, by rw [hv 9 (by omega)]; exact h2, fun k hk => ?_, by rw [hw 1 (by omega)]; exact h4⟩
  rw [hv 9 (by omega), hw 7 (by omega), hw 8 (by omega), hw 9 (by omega)]
  exact h3 k hk
theorem SgR_c {v v' w w' : Nat → Nat} (h : SgR v w) (hv : ∀ j, j < 10 → v' j = v j) (hw : ∀ j, j < 7 → w' j = w j) : SgR v' w' := by
  obtain ⟨h0, h1, h2, h7, h8, h9, hb⟩ := h
  refine ⟨?_, ?_, fun j h3 h4 => ?_, ?_, ?_, ?_, ?_⟩
  · rw [hv 0 (by omega), hw 0 (by omega)]; exact h0
  · rw [hv 1 (by omega), hw 1 (by omega)]; exact h1
  · rw [hv j (by omega), hw j (by omega)]; exact h2 j h3 h4
  · rw [hv 7 (by omega), hw 1 (by omega)]; exact h7
  · rw [hv 8 (by omega), hw 1 (by omega)]; exact h8
  · rw [hv 9 (by omega), hw 1 (by omega)]; exact h9
  · rw [hw 1 (by omega)]; exact hb
/-- the lets that give way, by rows -/
def g1X (X : Nat → Nat) (day h f t i : Nat) : Bool := stdR X i day && clsh X (12 + 10 * i) h f t
def g2X (X : Nat → Nat) (day h f t i : Nat) : Bool := decide (X (93 + 7 * i + 1) = day) && clsh X (93 + 7 * i) h f t
def dI (g : Nat → Bool) (n u : Nat) : List Nat := dL g (fun i => i) n u
theorem dI_s (g : Nat → Bool) (n u : Nat) : dI g n (u + 1) = bif g (n - (u + 1)) then dI g n u else (n - (u + 1)) :: dI g n u := rfl
theorem dI_0 (g : Nat → Bool) (n : Nat) : dI g n 0 = [] := rfl
theorem dL_map (g : Nat → Bool) (A : Nat → Nat) (n : Nat) : ∀ u, dL g A n u = (dI g n u).map A
  | 0 => rfl
  | u + 1 => by
    rw [dL, dI_s, dL_map g A n u]
    cases g (n - (u + 1)) <;> rfl
theorem dN_gN (g : Nat → Bool) (n : Nat) : ∀ u, u ≤ n → dN g n u + gN g (n - u) = gN g n
  | 0, _ => by rw [dN, Nat.zero_add, Nat.sub_zero]
  | u + 1, hu => by
    have ih := dN_gN g n u (by omega)
    rw [show n - u = (n - (u + 1)) + 1 by omega, gN] at ih
    rw [dN]
    cases hg : g (n - (u + 1))
    · rw [hg] at ih
      exact ih
    · rw [hg] at ih
      simp only [cond_true] at ih ⊢
      omega
theorem dR_gR (g : Nat → Bool) (V : Nat → Nat → Nat) (n : Nat) : ∀ u, u ≤ n → dR g V n u + gR g V (n - u) = gR g V n
  | 0, _ => by rw [dR, Nat.zero_add, Nat.sub_zero]
  | u + 1, hu => by
    have ih := dR_gR g V n u (by omega)
    rw [show n - u = (n - (u + 1)) + 1 by omega, gR] at ih
    rw [dR]
    cases hg : g (n - (u + 1))
    · rw [hg] at ih
      exact ih
    · rw [hg] at ih
      simp only [cond_true] at ih ⊢
      omega
def gI2 (X0 X : Nat → Nat) (g : Nat → Bool) (n u : Nat) : Prop :=
  X 92 = (n - u) + (dI g n u).length ∧ (∀ i, i < n - u → ∀ j, j < 7 → X (93 + 7 * i + j) = X0 (93 + 7 * i + j)) ∧ (∀ m i, (dI g n u)[m]? = some i → ∀ j, j < 7 → X (93 + 7 * (n - u + m) + j) = X0 (93 + 7 * i + j)) ∧ (∀ j, j < 92 → j ≠ 9 → X j = X0 j) ∧ X 9 = X0 9 + dR g (sg X0) n u
theorem gI2_s {X0 X : Nat → Nat} {g : Nat → Bool} {n u day : Nat} (h : gI2 X0 X g n u) (hu : u + 1 ≤ n) : gI2 X0 (bif g (n - (u + 1)) then gwStep X (93 + 7 * (n - (u + 1))) day else X) g n (u + 1) := by
  obtain ⟨h1, h2, h3, h4, h5⟩ := h
  generalize hk : n - (u + 1) = k
  have hk2 : n - u = k + 1 := by omega
  rw [hk2] at h1 h2 h3
  unfold gI2
  rw [dI_s, hk, dR, hk]
  cases hg : g k
  · simp only [cond_false]
    refine ⟨by rw [h1, List.length_cons]; omega, fun i hi => h2 i (by omega), fun m i hm j hj => ?_, h4, h5⟩
    cases m with
    | zero =>
      have e : k = i := by simpa using hm
      subst e
      exact h2 k (by omega) j hj
    | succ m =>
      rw [List.getElem?_cons_succ] at hm
      have := h3 m i hm j hj
      rw [show k + (m + 1) = k + 1 + m by omega]
      exact this
  · simp only [cond_true]
    have e6 : X (93 + 7 * k + 6) = X0 (93 + 7 * k + 6) := h2 k (by omega) 6 (by omega)
    have es : gwStep X (93 + 7 * k) day = rmS (uN X 9 (X 9 + X (93 + 7 * k + 6))) k := by
      unfold gwStep
      rw [if_pos (by omega), show (93 + 7 * k - 93) / 7 = k by omega]
    rw [es]
    have e92 : uN X 9 (X 9 + X (93 + 7 * k + 6)) 92 = X 92 := uN_n _ _ (by omega)
    refine ⟨?_, fun i hi j hj => ?_, fun m i hm j hj => ?_, fun j hj h9 => ?_, ?_⟩
    · unfold rmS
      rw [if_pos rfl, e92, h1]
      omega
    · unfold rmS
      rw [if_neg (by omega), if_neg (by omega), if_neg (by rw [e92]; omega), uN_n _ _ (by omega)]
      exact h2 i (by omega) j hj
    · have hlen := (List.getElem?_eq_some_iff.mp hm).1
      unfold rmS
      rw [if_neg (by omega), if_pos (by rw [e92, h1]; omega), uN_n _ _ (by omega)]
      have := h3 m i hm j hj
      rw [show 93 + 7 * (k + m) + j + 7 = 93 + 7 * (k + 1 + m) + j by omega]
      exact this
    · unfold rmS
      rw [if_neg (by omega), if_neg (by omega), if_neg (by rw [e92]; omega), uN_n _ _ h9]
      exact h4 j hj h9
    · unfold rmS
      rw [if_neg (by omega), if_neg (by omega), if_neg (by rw [e92]; omega), uN_s, h5, e6]
      show _ = _ + (_ + X0 (93 + 7 * k + 6))
      omega
theorem gwS_ph {X0 : Nat → Nat} {day h f t : Nat} (rest : List Nat) : ∀ u, u ≤ X0 92 → ∃ X g, gwL day h f t ((lkS X0 day (X0 92)).reverse ++ rest) X0 0 = gwL day h f t ((lkS X0 day (X0 92 - u)).reverse ++ rest) X g ∧ g = dN (g2X X0 day h f t) (X0 92) u ∧ gI2 X0 X (g2X X0 day h f t) (X0 92) u
  | 0, _ => ⟨X0, 0, rfl, rfl, by rw [dI_0, List.length_nil, Nat.sub_zero, Nat.add_zero], fun _ _ _ _ => rfl, fun m i hm => by simp [dI_0] at hm, fun _ _ _ => rfl, rfl⟩
  | u + 1, hu => by
    obtain ⟨X, g, e1, e2, e3⟩ := gwS_ph (X0 := X0) (day := day) (h := h) (f := f) (t := t) rest u (by omega)
    obtain ⟨i1, i2, i3, i4, i5⟩ := e3
    generalize hk : X0 92 - (u + 1) = k
    have hk2 : X0 92 - u = k + 1 := by omega
    have hX0 : X 0 = X0 0 := i4 0 (by omega) (by omega)
    have hrow : ∀ j, j < 7 → X (93 + 7 * k + j) = X0 (93 + 7 * k + j) := i2 k (by omega)
    have hc : clsh X (93 + 7 * k) h f t = clsh X0 (93 + 7 * k) h f t := by
      unfold clsh
      rw [hX0, hrow 3 (by omega), hrow 2 (by omega)]
      have := hrow 0 (by omega)
      rw [Nat.add_zero] at this
      rw [this]
    have hs := gI2_s (day := day) ⟨i1, i2, i3, i4, i5⟩ (show u + 1 ≤ X0 92 by omega)
    rw [hk] at hs
    refine ⟨bif g2X X0 day h f t k then gwStep X (93 + 7 * k) day else X, dN (g2X X0 day h f t) (X0 92) (u + 1), ?_, rfl, hs⟩
    rw [e1, hk2, lkS, List.reverse_append, dN, hk, e2]
    have hg : g2X X0 day h f t k = (decide (X0 (93 + 7 * k + 1) = day) && clsh X0 (93 + 7 * k) h f t) := rfl
    rw [hg]
    cases hd : decide (X0 (93 + 7 * k + 1) = day)
    · rfl
    · show gwL day h f t ((93 + 7 * k) :: ((lkS X0 day k).reverse ++ rest)) X _ = _
      rw [gwL, hc]
      cases clsh X0 (93 + 7 * k) h f t <;> rfl
def gI1 (X0 X : Nat → Nat) (g : Nat → Bool) (a n u : Nat) : Prop :=
  (∀ i, i < n → ∀ j, j < 9 → X (12 + 10 * i + j) = X0 (12 + 10 * i + j)) ∧ (∀ i, i < n - u → X (12 + 10 * i + 9) = X0 (12 + 10 * i + 9)) ∧ (∀ i, n - u ≤ i → i < n → X (12 + 10 * i + 9) = bif g i then X0 (12 + 10 * i + 9) ||| 2 ^ a else X0 (12 + 10 * i + 9)) ∧ (∀ j, (j < 12 ∨ 92 ≤ j) → j ≠ 9 → X j = X0 j) ∧ X 9 = X0 9 + dR g (rg X0) n u
theorem gI1_s {X0 X : Nat → Nat} {g : Nat → Bool} {n u day : Nat} (h : gI1 X0 X g (day / 7) n u) (hn : n ≤ 8) (hu : u + 1 ≤ n) : gI1 X0 (bif g (n - (u + 1)) then gwStep X (12 + 10 * (n - (u + 1))) day else X) g (day / 7) n (u + 1) := by
  obtain ⟨h1, h2, h3, h4, h5⟩ := h
  generalize hk : n - (u + 1) = k
  have hk2 : n - u = k + 1 := by omega
  rw [hk2] at h2 h3
  unfold gI1
  rw [hk, dR, hk]
  cases hg : g k
  · simp only [cond_false]
    refine ⟨h1, fun i hi => h2 i (by omega), fun i hi hi2 => ?_, h4, h5⟩
    by_cases e : i = k
    · subst e
      rw [hg]
      exact h2 i (by omega)
    · exact h3 i (by omega) hi2
  · simp only [cond_true]
    have e6 : X (12 + 10 * k + 6) = X0 (12 + 10 * k + 6) := h1 k (by omega) 6 (by omega)
    have es : gwStep X (12 + 10 * k) day = uN (uN X 9 (X 9 + X (12 + 10 * k + 6))) (12 + 10 * k + 9) (uN X 9 (X 9 + X (12 + 10 * k + 6)) (12 + 10 * k + 9) ||| 2 ^ (day / 7)) := by
      unfold gwStep
      rw [if_neg (by omega)]
    rw [es]
    refine ⟨fun i hi j hj => ?_, fun i hi => ?_, fun i hi hi2 => ?_, fun j hj h9 => ?_, ?_⟩
    · rw [uN_n _ _ (by omega), uN_n _ _ (by omega)]
      exact h1 i hi j hj
    · rw [uN_n _ _ (by omega), uN_n _ _ (by omega)]
      exact h2 i (by omega)
    · by_cases e : i = k
      · subst e
        rw [uN_s, hg, cond_true, uN_n _ _ (by omega), h2 i (by omega)]
      · rw [uN_n _ _ (by omega), uN_n _ _ (by omega)]
        exact h3 i (by omega) hi2
    · rw [uN_n _ _ (by omega), uN_n _ _ h9]
      exact h4 j hj h9
    · rw [uN_n _ _ (by omega), uN_s, h5, e6]
      show _ = _ + (_ + X0 (12 + 10 * k + 6))
      omega
theorem gwR_ph {X0 X1 : Nat → Nat} {day h f t g0 : Nat} (hn : X0 11 ≤ 8) (h0 : X1 0 = X0 0) (hr : ∀ i, i < X0 11 → ∀ j, j < 10 → X1 (12 + 10 * i + j) = X0 (12 + 10 * i + j)) : ∀ u, u ≤ X0 11 → ∃ X g, gwL day h f t (lkR X0 day (X0 11)).reverse X1 g0 = gwL day h f t (lkR X0 day (X0 11 - u)).reverse X g ∧ g = g0 + dN (g1X X0 day h f t) (X0 11) u ∧ gI1 X1 X (g1X X0 day h f t) (day / 7) (X0 11) u
  | 0, _ => ⟨X1, g0, rfl, rfl, fun _ _ _ _ => rfl, fun _ _ => rfl, fun i h1 h2 => by omega, fun _ _ _ => rfl, rfl⟩
  | u + 1, hu => by
    obtain ⟨X, g, e1, e2, e3⟩ := gwR_ph (h := h) (f := f) (t := t) (g0 := g0) (day := day) hn h0 hr u (by omega)
    obtain ⟨i1, i2, i3, i4, i5⟩ := e3
    generalize hk : X0 11 - (u + 1) = k
    have hk2 : X0 11 - u = k + 1 := by omega
    have hX0 : X 0 = X0 0 := (i4 0 (by omega) (by omega)).trans h0
    have hrow : ∀ j, j < 9 → X (12 + 10 * k + j) = X0 (12 + 10 * k + j) := fun j hj => (i1 k (by omega) j hj).trans (hr k (by omega) j (by omega))
    have hc : clsh X (12 + 10 * k) h f t = clsh X0 (12 + 10 * k) h f t := by
      unfold clsh
      rw [hX0, hrow 3 (by omega), hrow 2 (by omega)]
      have := hrow 0 (by omega)
      rw [Nat.add_zero] at this
      rw [this]
    have hs := gI1_s (day := day) (g := g1X X0 day h f t) ⟨i1, i2, i3, i4, i5⟩ hn (show u + 1 ≤ X0 11 by omega)
    rw [hk] at hs
    refine ⟨bif g1X X0 day h f t k then gwStep X (12 + 10 * k) day else X, g0 + dN (g1X X0 day h f t) (X0 11) (u + 1), ?_, rfl, hs⟩
    rw [e1, hk2, lkR, List.reverse_append, dN, hk, e2]
    have hg : g1X X0 day h f t k = (stdR X0 k day && clsh X0 (12 + 10 * k) h f t) := rfl
    rw [hg]
    cases hd : stdR X0 k day
    · rfl
    · show gwL day h f t ((12 + 10 * k) :: (lkR X0 day k).reverse) X _ = _
      rw [gwL, hc]
      cases clsh X0 (12 + 10 * k) h f t <;> rfl
/-- what giveWay leaves, by rows -/
def gwP (X X' : Nat → Nat) (g1 g2 : Nat → Bool) (a : Nat) : Prop :=
  X' 11 = X 11 ∧ X' 92 = (dI g2 (X 92) (X 92)).length ∧ (∀ m i, (dI g2 (X 92) (X 92))[m]? = some i → ∀ j, j < 7 → X' (93 + 7 * m + j) = X (93 + 7 * i + j)) ∧ (∀ i, i < X 11 → ∀ j, j < 9 → X' (12 + 10 * i + j) = X (12 + 10 * i + j)) ∧ (∀ i, i < X 11 → X' (12 + 10 * i + 9) = bif g1 i then X (12 + 10 * i + 9) ||| 2 ^ a else X (12 + 10 * i + 9)) ∧ (∀ j, j < 9 → X' j = X j) ∧ X' 9 = X 9 + (gR g1 (rg X) (X 11) + dR g2 (sg X) (X 92) (X 92)) ∧ X' 10 = X 10 + (gN g1 (X 11) + dN g2 (X 92) (X 92))
theorem gw_rows {X : Nat → Nat} (hX : wf0 X) {day h f t : Nat} : (gw X day h f t).1 = gN (g1X X day h f t) (X 11) + dN (g2X X day h f t) (X 92) (X 92) ∧ gwP X (gw X day h f t).2 (g1X X day h f t) (g2X X day h f t) (day / 7) := by
  have h8 : X 11 ≤ 8 := hX.2.1
  obtain ⟨X1, g1, e1, e2, e3⟩ := gwS_ph (X0 := X) (day := day) (h := h) (f := f) (t := t) (lkR X day (X 11)).reverse (X 92) (Nat.le_refl _)
  rw [Nat.sub_self] at e1
  obtain ⟨a1, a2, a3, a4, a5⟩ := e3
  rw [Nat.sub_self, Nat.zero_add] at a1
  obtain ⟨X2, g2, f1, f2, f3⟩ := gwR_ph (X0 := X) (X1 := X1) (day := day) (h := h) (f := f) (t := t) (g0 := g1) h8 (a4 0 (by omega) (by omega)) (fun i hi j hj => a4 _ (by omega) (by omega)) (X 11) (Nat.le_refl _)
  rw [Nat.sub_self] at f1
  obtain ⟨b1, b2, b3, b4, b5⟩ := f3
  have el : gwL day h f t (lk X day).reverse X 0 = (g2, X2) := by
    rw [lk, List.reverse_append, e1]
    show gwL day h f t (lkR X day (X 11)).reverse X1 g1 = _
    rw [f1]
    rfl
  have en := dN_gN (g1X X day h f t) (X 11) (X 11) (Nat.le_refl _)
  rw [Nat.sub_self, gN, Nat.add_zero] at en
  have er : dR (g1X X day h f t) (rg X1) (X 11) (X 11) = gR (g1X X day h f t) (rg X) (X 11) := by
    have := dR_gR (g1X X day h f t) (rg X) (X 11) (X 11) (Nat.le_refl _)
    rw [Nat.sub_self, gR, Nat.add_zero] at this
    rw [← this]
    have key : ∀ u, u ≤ X 11 → dR (g1X X day h f t) (rg X1) (X 11) u = dR (g1X X day h f t) (rg X) (X 11) u := fun u => by
      induction u with
      | zero => intro _; rfl
      | succ u ih =>
        intro hu
        have e6 : rg X1 (X 11 - (u + 1)) 6 = rg X (X 11 - (u + 1)) 6 := a4 _ (by omega) (by omega)
        rw [dR, dR, ih (by omega), e6]
    exact key _ (Nat.le_refl _)
  unfold gw
  rw [el]
  dsimp only
  refine ⟨by rw [f2, e2, en]; omega, ?_, ?_, fun m i hm j hj => ?_, fun i hi j hj => ?_, fun i hi => ?_, fun j hj => ?_, ?_, ?_⟩
  · rw [uN_n _ _ (by omega), b4 11 (by omega) (by omega)]
    exact a4 11 (by omega) (by omega)
  · rw [uN_n _ _ (by omega), b4 92 (by omega) (by omega)]
    exact a1
  · rw [uN_n _ _ (by omega), b4 _ (by omega) (by omega)]
    have := a3 m i hm j hj
    rw [Nat.sub_self, Nat.zero_add] at this
    exact this
  · rw [uN_n _ _ (by omega), b1 i hi j hj]
    exact a4 _ (by omega) (by omega)
  · rw [uN_n _ _ (by omega), b3 i (by omega) hi, a4 _ (by omega) (by omega)]
  · rw [uN_n _ _ (by omega), b4 j (by omega) (by omega)]
    exact a4 j (by omega) (by omega)
  · rw [uN_n _ _ (by omega), b5, a5, er]
    omega
  · rw [uN_s, b4 10 (by omega) (by omega), a4 10 (by omega) (by omega), f2, e2, en]
    omega
