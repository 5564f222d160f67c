/-! mathematics: what each call does to the law's diary and to X -/
def SR (R : Nat → Nat) : Nat → Nat
  | 0 => 0
  | k + 1 => SR R k + bsum (R (11 * k + 9)) 12 * R (11 * k + 6)
def SD (D : Nat → Nat) : Nat → Nat
  | 0 => 0
  | k + 1 => SD D k + D (7 * k + 6)
section NL
variable {X N R D : Nat → Nat}
theorem Lw_otR (h : Lw X N R D) : ∀ k, k ≤ X 11 → otR X (-1) 2 k = SR R k
  | 0, _ => rfl
  | k + 1, hk => by
    have e : tqB (-1) (X (12 + 10 * k + 5)) = true := rfl
    rw [otR, SR, Lw_otR h k (by omega), e, cond_true, ← Lw_dc h (by omega), Lw_r h (by omega) (by omega)]
    rfl
theorem Lw_otS (h : Lw X N R D) : ∀ k, k ≤ X 92 → otS X (-1) 2 k = SD D k
  | 0, _ => rfl
  | k + 1, hk => by
    have e : tqB (-1) (X (93 + 7 * k + 5)) = true := rfl
    rw [otS, SD, Lw_otS h k (by omega), e, cond_true, Lw_d h (by omega) (by omega)]
    rfl
theorem Lw_bal (h : Lw X N R D) : bal X ↔ N 8 = N 9 + (SR R (N 11) + SD D (N 12)) := by
  unfold bal oT
  rw [Lw_otR h _ (Nat.le_refl _), Lw_otS h _ (Nat.le_refl _), h.1 8 (by omega), h.1 9 (by omega), h.2.1.1, h.2.1.2]
theorem SR_c {R' : Nat → Nat} : ∀ k, (∀ i, i < k → R' (11 * i + 9) = R (11 * i + 9) ∧ R' (11 * i + 6) = R (11 * i + 6)) → SR R' k = SR R k
  | 0, _ => rfl
  | k + 1, h => by rw [SR, SR, SR_c k (fun i hi => h i (by omega)), (h k (by omega)).1, (h k (by omega)).2]
theorem SD_c {D' : Nat → Nat} : ∀ k, (∀ i, i < k → D' (7 * i + 6) = D (7 * i + 6)) → SD D' k = SD D k
  | 0, _ => rfl
  | k + 1, h => by rw [SD, SD, SD_c k (fun i hi => h i (by omega)), h k (by omega)]
theorem bs_64 : ∀ w, w < 12 → ∀ a, a < 64 → ∀ b, b < 64 → (64 * a + b) / 2 ^ w % 2 = 1 → bsum ((64 * a + b) - 2 ^ w) 12 + 1 = bsum (64 * a + b) 12 := by decide +kernel
theorem bs_sub {W w : Nat} (hw : w < 12) (hW : W < 4096) (h : W / 2 ^ w % 2 = 1) : bsum (W - 2 ^ w) 12 + 1 = bsum W 12 := by
  have := bs_64 w hw (W / 64) (by omega) (W % 64) (by omega)
  rw [Nat.div_add_mod] at this
  exact this h
theorem SR_gw {g : Nat → Bool} {w n : Nat} (hw : w < 12) (hg : ∀ i, i < n → g i = true → R (11 * i + 9) < 4096 ∧ R (11 * i + 9) / 2 ^ w % 2 = 1) : ∀ k, k ≤ n → SR (gwRf R g (2 ^ w) n) k + gR g (rw R) k = SR R k
  | 0, _ => rfl
  | k + 1, hk => by
    have ih := SR_gw hw hg k (by omega)
    have e6 : gwRf R g (2 ^ w) n (11 * k + 6) = R (11 * k + 6) := by unfold gwRf; rw [if_neg (by omega)]
    rw [SR, SR, gR, e6]
    have e : (11 * k + 9) / 11 = k := by omega
    cases hgk : g k
    · have e9 : gwRf R g (2 ^ w) n (11 * k + 9) = R (11 * k + 9) := by unfold gwRf; rw [e, if_neg (by rintro ⟨-, -, q⟩; rw [hgk] at q; cases q)]
      rw [e9, cond_false]
      omega
    · have e9 : gwRf R g (2 ^ w) n (11 * k + 9) = R (11 * k + 9) - 2 ^ w := by unfold gwRf; rw [e, if_pos ⟨by omega, by omega, hgk⟩]
      have hb := bs_sub hw (hg k (by omega) hgk).1 (hg k (by omega) hgk).2
      rw [e9, cond_true, ← hb, Nat.succ_mul (bsum (R (11 * k + 9) - 2 ^ w) 12) (R (11 * k + 6))]
      show _ + _ + (_ + R (11 * k + 6)) = _
      omega
def SL (D : Nat → Nat) : List Nat → Nat
  | [] => 0
  | i :: l => D (7 * i + 6) + SL D l
theorem SL_app (D : Nat → Nat) : ∀ l m, SL D (l ++ m) = SL D l + SL D m
  | [], m => by rw [List.nil_append, SL, Nat.zero_add]
  | i :: l, m => by rw [List.cons_append, SL, SL, SL_app D l m, Nat.add_assoc]
theorem SL_kp (D : Nat → Nat) (g : Nat → Bool) : ∀ q, SL D (kpL g q) + gR g (dw D) q = SD D q
  | 0 => rfl
  | q + 1 => by
    have ih := SL_kp D g q
    rw [kpL, gR, SD]
    cases g q
    · rw [cond_false, cond_false, SL_app]
      show _ + (D (7 * q + 6) + 0) + _ = _
      omega
    · rw [cond_true, cond_true]
      show _ + (_ + D (7 * q + 6)) = _
      omega
theorem SD_L {D' : Nat → Nat} {l : List Nat} (h : ∀ m i, l[m]? = some i → D' (7 * m + 6) = D (7 * i + 6)) : ∀ k, k ≤ l.length → SD D' k = SL D (l.take k)
  | 0, _ => rfl
  | k + 1, hk => by
    have hkl : k < l.length := by omega
    rw [SD, SD_L h k (by omega), List.take_succ_eq_append_getElem hkl, SL_app, h k l[k] (List.getElem?_eq_getElem hkl)]
    rfl
theorem gw_bal (h : Lw X N R D) (hX : XG X) (hb : bal X) {day a f t : Nat} (hd : day < 84) (hft : f < t) {D' : Nat → Nat} (hP : P2 D D' (kpL (lgD N D a day f t) (N 12)) (N 12) (N 12)) : bal (gw X day a f t).2 := by
  have hb1 := (Lw_bal h).mp hb
  have h1 := (Lw_gw h hX hd hft hP).1
  refine (Lw_bal h1).mpr ?_
  have e11 : nN N (N 9 + gR (lgR N R a day f t) (rw R) (N 11) + gR (lgD N D a day f t) (dw D) (N 12)) (N 10 + (gN (lgR N R a day f t) (N 11) + gN (lgD N D a day f t) (N 12))) (kpL (lgD N D a day f t) (N 12)).length 11 = N 11 := rfl
  have e8 : nN N (N 9 + gR (lgR N R a day f t) (rw R) (N 11) + gR (lgD N D a day f t) (dw D) (N 12)) (N 10 + (gN (lgR N R a day f t) (N 11) + gN (lgD N D a day f t) (N 12))) (kpL (lgD N D a day f t) (N 12)).length 8 = N 8 := rfl
  rw [e11, e8]
  show N 8 = N 9 + gR (lgR N R a day f t) (rw R) (N 11) + gR (lgD N D a day f t) (dw D) (N 12) + (SR _ (N 11) + SD D' (kpL (lgD N D a day f t) (N 12)).length)
  have s1 := SR_gw (R := R) (g := lgR N R a day f t) (w := day / 7) (n := N 11) (by omega) (fun i hi hg => by
    rw [h.2.1.1] at hi
    refine ⟨(h.2.2.2.1 i hi).2.1, ?_⟩
    simp only [lgR, stB, Bool.and_eq_true, decide_eq_true_eq] at hg
    exact hg.2.1.2) (N 11) (Nat.le_refl _)
  have s2 := SD_L (fun m i hm => hP.1 m i hm 6 (by omega)) (kpL (lgD N D a day f t) (N 12)).length (Nat.le_refl _)
  rw [List.take_length] at s2
  have s3 := SL_kp D (lgD N D a day f t) (N 12)
  omega
/-! a single let more -/
theorem rentF_c {N : Nat → Nat} {h wd hrs sh : Nat} (h1 : N (5 + h) = X (5 + h)) (h2 : N 2 = X 2) : rentF N h wd hrs sh = rentF X h wd hrs sh := by
  unfold rentF
  rw [h1, h2]
theorem Lw_addS {X' w N' D' : Nat → Nat} (h : Lw X N R D) (ha : AddS X X' w) (h8 : X 92 < 8) (n12 : N' 12 = N 12 + 1) (n8 : N' 8 = N 8 + w 6) (nn : ∀ j, j < 12 → j ≠ 8 → N' j = N j) (d0 : ∀ j, j < 7 * N 12 → D' j = D j) (d1 : ∀ j, j < 7 → D' (7 * N 12 + j) = w j) : Lw X' N' R D' := by
  obtain ⟨a1, a2, a3, a4, a5⟩ := ha
  obtain ⟨h1, ⟨h2, h3⟩, ⟨h4, h5⟩, h6, h7⟩ := id h
  refine ⟨fun j hj => ?_, ⟨?_, ?_⟩, ⟨?_, ?_⟩, fun i hi => ?_, fun i hi j hj => ?_⟩
  · by_cases j8 : j = 8
    · subst j8
      rw [n8, a5, h1 8 (by omega)]
    · rw [nn j (by omega) j8, a2 j (by omega) j8]
      exact h1 j hj
  · rw [nn 11 (by omega) (by omega), a2 11 (by omega) (by omega)]; exact h2
  · rw [n12, a1, h3]
  · rw [a2 11 (by omega) (by omega)]; exact h4
  · rw [a1]; omega
  · rw [a2 11 (by omega) (by omega)] at hi
    exact RgR_c (h6 i hi) (fun _ _ => rfl) (fun j hj => a2 (12 + 10 * i + j) (by omega) (by omega))
  · rw [a1] at hi
    by_cases e : i = X 92
    · subst e
      rw [a4 j hj, ← h3]
      exact d1 j hj
    · rw [a3 _ (by omega) (by omega), d0 _ (by omega)]
      exact h7 i (by omega) j hj
theorem bal_addS {X' w N' D' : Nat → Nat} (h : Lw X N R D) (hb : bal X) (h' : Lw X' N' R D') (n12 : N' 12 = N 12 + 1) (n8 : N' 8 = N 8 + w 6) (nn : ∀ j, j < 12 → j ≠ 8 → N' j = N j) (d0 : ∀ j, j < 7 * N 12 → D' j = D j) (d1 : ∀ j, j < 7 → D' (7 * N 12 + j) = w j) : bal X' := by
  have hb1 := (Lw_bal h).mp hb
  refine (Lw_bal h').mpr ?_
  rw [n12, n8, nn 9 (by omega) (by omega), nn 11 (by omega) (by omega), SD, d1 6 (by omega), SD_c (D := D) (N 12) (fun i hi => d0 _ (by omega))]
  omega
/-! a regular let more -/
theorem Lw_addR {X' w N' R' : Nat → Nat} {days : Nat} (h : Lw X N R D) (ha : AddR X X' w days) (h4 : X 11 < 4) (n11 : N' 11 = N 11 + 1) (n8 : N' 8 = N 8 + days * w 6) (nn : ∀ j, j < 13 → j ≠ 8 → j ≠ 11 → N' j = N j) (r0 : ∀ j, j < 11 * N 11 → R' j = R j) (r1 : RgR (rw R' (N 11)) w) : Lw X' N' R' D := by
  obtain ⟨a1, a2, a3, a4⟩ := ha
  obtain ⟨h1, ⟨h2, h3⟩, ⟨_, h5⟩, h6, h7⟩ := id h
  refine ⟨fun j hj => ?_, ⟨?_, ?_⟩, ⟨?_, ?_⟩, fun i hi => ?_, fun i hi j hj => ?_⟩
  · by_cases j8 : j = 8
    · subst j8
      rw [n8, a4, h1 8 (by omega)]
    · rw [nn j (by omega) j8 (by omega), a2 j j8 (by omega) (Or.inl (by omega))]
      exact h1 j hj
  · rw [n11, a1, h2]
  · rw [nn 12 (by omega) (by omega) (by omega), a2 92 (by omega) (by omega) (Or.inr (by omega))]; exact h3
  · rw [a1]; omega
  · rw [a2 92 (by omega) (by omega) (Or.inr (by omega))]; exact h5
  · rw [a1] at hi
    by_cases e : i = X 11
    · subst e
      rw [← h2]
      refine RgR_c r1 (fun _ _ => rfl) (fun j hj => ?_)
      rw [h2]
      exact a3 j hj
    · refine RgR_c (h6 i (by omega)) (fun j hj => ?_) (fun j hj => ?_)
      · exact r0 _ (by omega)
      · exact a2 (12 + 10 * i + j) (by omega) (by omega) (Or.inl (by omega))
  · rw [a2 92 (by omega) (by omega) (Or.inr (by omega))] at hi
    rw [a2 _ (by omega) (by omega) (Or.inr (by omega))]
    exact h7 i hi j hj
theorem bal_addR {X' w N' R' : Nat → Nat} {days : Nat} (h : Lw X N R D) (hb : bal X) (h' : Lw X' N' R' D) (n11 : N' 11 = N 11 + 1) (n8 : N' 8 = N 8 + days * w 6) (nn : ∀ j, j < 13 → j ≠ 8 → j ≠ 11 → N' j = N j) (r0 : ∀ j, j < 11 * N 11 → R' j = R j) (r1 : RgR (rw R' (N 11)) w) (hd : days = bsum (R' (11 * N 11 + 9)) 12) : bal X' := by
  have hb1 := (Lw_bal h).mp hb
  refine (Lw_bal h').mpr ?_
  have e6 : R' (11 * N 11 + 6) = w 6 := r1.1 6 (by omega)
  rw [n11, n8, nn 9 (by omega) (by omega) (by omega), nn 12 (by omega) (by omega) (by omega), SR, ← hd, e6, SR_c (R := R) (N 11) (fun i hi => ⟨r0 _ (by omega), r0 _ (by omega)⟩)]
  omega
/-! a let less -/
def gosR (R : Nat → Nat) (i k : Nat) : Nat → Nat := fun j => if 11 * i ≤ j ∧ j < k then R (j + 11) else R j
theorem gosR_at {i n m j : Nat} (hj : j < 11) (hm : m + 1 < n) : gosR R i (11 * (n - 1)) (11 * m + j) = R (11 * (if m < i then m else m + 1) + j) := by
  unfold gosR
  by_cases h : m < i
  · rw [if_neg (by omega), if_pos h]
  · rw [if_pos (by omega), if_neg h, show 11 * m + j + 11 = 11 * (m + 1) + j by omega]
theorem gosD_at {i n m j : Nat} (hj : j < 7) (hm : m + 1 < n) : gosD D i (7 * (n - 1)) (7 * m + j) = D (7 * (if m < i then m else m + 1) + j) := by
  unfold gosD
  by_cases h : m < i
  · rw [if_neg (by omega), if_pos h]
  · rw [if_pos (by omega), if_neg h, show 7 * m + j + 7 = 7 * (m + 1) + j by omega]
theorem SR_rm {i n : Nat} (hi : i < n) : SR (gosR R i (11 * (n - 1))) (n - 1) + bsum (R (11 * i + 9)) 12 * R (11 * i + 6) = SR R n := by
  have key : ∀ k, k + 1 ≤ n → (k < i + 1 → SR (gosR R i (11 * (n - 1))) k = SR R k) ∧ (i ≤ k → SR (gosR R i (11 * (n - 1))) k + bsum (R (11 * i + 9)) 12 * R (11 * i + 6) = SR R (k + 1)) := by
    intro k
    induction k with
    | zero =>
      intro _
      refine ⟨fun _ => rfl, fun h => ?_⟩
      have e : i = 0 := by omega
      subst e
      simp [SR]
    | succ k ih =>
      intro hk
      obtain ⟨i1, i2⟩ := ih (by omega)
      have e9 := gosR_at (R := R) (i := i) (n := n) (m := k) (j := 9) (by omega) (by omega)
      have e6 := gosR_at (R := R) (i := i) (n := n) (m := k) (j := 6) (by omega) (by omega)
      constructor
      · intro h
        have := i1 (by omega)
        rw [if_pos (by omega)] at e9 e6
        rw [SR, SR, e9, e6, this]
      · intro h
        by_cases h2 : k < i
        · have e : i = k + 1 := by omega
          subst e
          have := i1 (by omega)
          rw [if_pos (by omega)] at e9 e6
          rw [SR, e9, e6, this]
          rfl
        · have := i2 (by omega)
          rw [if_neg h2] at e9 e6
          rw [SR, e9, e6]
          show _ = SR R (k + 1) + _
          omega
  have := (key (n - 1) (by omega)).2 (by omega)
  rw [show n - 1 + 1 = n by omega] at this
  exact this
theorem SD_rm {i n : Nat} (hi : i < n) : SD (gosD D i (7 * (n - 1))) (n - 1) + D (7 * i + 6) = SD D n := by
  have key : ∀ k, k + 1 ≤ n → (k < i + 1 → SD (gosD D i (7 * (n - 1))) k = SD D k) ∧ (i ≤ k → SD (gosD D i (7 * (n - 1))) k + D (7 * i + 6) = SD D (k + 1)) := by
    intro k
    induction k with
    | zero =>
      intro _
      refine ⟨fun _ => rfl, fun h => ?_⟩
      have e : i = 0 := by omega
      subst e
      simp [SD]
    | succ k ih =>
      intro hk
      obtain ⟨i1, i2⟩ := ih (by omega)
      have e6 := gosD_at (D := D) (i := i) (n := n) (m := k) (j := 6) (by omega) (by omega)
      constructor
      · intro h
        have := i1 (by omega)
        rw [if_pos (by omega)] at e6
        rw [SD, SD, e6, this]
      · intro h
        by_cases h2 : k < i
        · have e : i = k + 1 := by omega
          subst e
          have := i1 (by omega)
          rw [if_pos (by omega)] at e6
          rw [SD, e6, this]
          rfl
        · have := i2 (by omega)
          rw [if_neg h2] at e6
          rw [SD, e6]
          show _ = SD D (k + 1) + _
          omega
  have := (key (n - 1) (by omega)).2 (by omega)
  rw [show n - 1 + 1 = n by omega] at this
  exact this
end NL
