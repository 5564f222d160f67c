/-! mathematics: a let of the class and a row of the reference -/
def rg (X : Nat → Nat) (i : Nat) : Nat → Nat := fun j => X (12 + 10 * i + j)
def sg (X : Nat → Nat) (i : Nat) : Nat → Nat := fun j => X (93 + 7 * i + j)
def RgR (v w : Nat → Nat) : Prop := (∀ j, j < 9 → v j = w j) ∧ v 9 < 4096 ∧ (∀ k, k < 12 → (v 9 / 2 ^ k % 2 = 1 ↔ (w 7 ≤ k ∧ k ≤ w 8) ∧ w 9 / 2 ^ k % 2 = 0)) ∧ w 1 ≤ 6
def SgR (v w : Nat → Nat) : Prop := v 0 = w 0 ∧ v 1 = w 1 % 7 ∧ (∀ j, 2 ≤ j → j < 7 → v j = w j) ∧ v 7 = w 1 / 7 ∧ v 8 = w 1 / 7 ∧ v 9 = 2 ^ (w 1 / 7) ∧ w 1 < 84
/-- a state of the class, at b, and a row of the reference -/
def Ab (Y : Nat → Nat → Nat) (b : Nat) (X : Nat → Nat) : Prop :=
  (∀ j, j < 5 → Y (b + 26) j = X j) ∧ (∀ h, h < 3 → Y (b + 25) h = X (5 + h)) ∧ (Y b 4 = X 8 ∧ Y b 5 = X 9 ∧ Y b 6 = X 10) ∧ (Y (b + 1) 1 = X 11 ∧ Y (b + 11) 1 = X 92) ∧ (∀ i, i < X 11 → RgR (rV Y (b + 1) i) (rg X i)) ∧ ∀ i, i < X 92 → SgR (rV Y (b + 11) i) (sg X i)
theorem std_R {v X : Nat → Nat} {i : Nat} (h : RgR v (rg X i)) {day : Nat} (hd : day < 84) : vStd v day = stdR X i day := by
  obtain ⟨h1, h2, h3, h4⟩ := h
  have e1 : v 1 = X (12 + 10 * i + 1) := h1 1 (by omega)
  have e3 : v 9 / 2 ^ (day / 7) % 2 = 1 ↔ (X (12 + 10 * i + 7) ≤ day / 7 ∧ day / 7 ≤ X (12 + 10 * i + 8)) ∧ X (12 + 10 * i + 9) / 2 ^ (day / 7) % 2 = 0 := h3 (day / 7) (by omega)
  rw [Bool.eq_iff_iff]
  simp only [vStd, stdR, Bool.and_eq_true, decide_eq_true_eq, e3, e1]
  constructor
  · rintro ⟨a, b⟩; exact ⟨a.symm, b⟩
  · rintro ⟨a, b⟩; exact ⟨a.symm, b⟩
theorem pow_bit : ∀ a, a < 12 → ∀ k, k < 12 → (2 ^ a / 2 ^ k % 2 = 1 ↔ k = a) := by decide +kernel
theorem std_S {v w : Nat → Nat} (h : SgR v w) {day : Nat} (hd : day < 84) : vStd v day = decide (w 1 = day) := by
  obtain ⟨h0, h1, h2, h7, h8, h9, hb⟩ := h
  rw [Bool.eq_iff_iff]
  simp only [vStd, Bool.and_eq_true, decide_eq_true_eq, h9, h1, pow_bit (w 1 / 7) (by omega) (day / 7) (by omega)]
  omega
/-- bits, added up -/
def bsum (n : Nat) : Nat → Nat
  | 0 => 0
  | k + 1 => bsum n k + n / 2 ^ k % 2
theorem bc_sum (n : Nat) : bc12 n = bsum n 12 := by
  simp [bc12, bsum]
theorem bc_pow : ∀ a, a < 12 → bc12 (2 ^ a) = 1 := by decide +kernel
theorem std_7 {v X : Nat → Nat} {i : Nat} (h : RgR v (rg X i)) {k r : Nat} (hk : k < 12) (hr : r < 7) : stdR X i (7 * k + r) = (decide (r = v 1) && decide (v 9 / 2 ^ k % 2 = 1)) := by
  rw [← std_R h (by omega), vStd, show (7 * k + r) % 7 = r by omega, show (7 * k + r) / 7 = k by omega]
theorem dcnt_bs {v X : Nat → Nat} {i : Nat} (h : RgR v (rg X i)) : ∀ k, k ≤ 12 → dcnt X i (7 * k) = bsum (v 9) k
  | 0, _ => rfl
  | k + 1, hk => by
    have ih := dcnt_bs h k (by omega)
    have h6 : v 1 ≤ 6 := by rw [h.1 1 (by omega)]; exact h.2.2.2
    have e : dcnt X i (7 * (k + 1)) = dcnt X i (7 * k) + (stdR X i (7 * k + 0)).toNat + (stdR X i (7 * k + 1)).toNat + (stdR X i (7 * k + 2)).toNat + (stdR X i (7 * k + 3)).toNat + (stdR X i (7 * k + 4)).toNat + (stdR X i (7 * k + 5)).toNat + (stdR X i (7 * k + 6)).toNat := rfl
    rw [e, ih, bsum]
    rw [std_7 h (by omega) (r := 0) (by omega), std_7 h (by omega) (r := 1) (by omega), std_7 h (by omega) (r := 2) (by omega), std_7 h (by omega) (r := 3) (by omega), std_7 h (by omega) (r := 4) (by omega), std_7 h (by omega) (r := 5) (by omega), std_7 h (by omega) (r := 6) (by omega)]
    have hb : v 9 / 2 ^ k % 2 = 0 ∨ v 9 / 2 ^ k % 2 = 1 := by omega
    rcases (show v 1 = 0 ∨ v 1 = 1 ∨ v 1 = 2 ∨ v 1 = 3 ∨ v 1 = 4 ∨ v 1 = 5 ∨ v 1 = 6 by omega) with e1 | e1 | e1 | e1 | e1 | e1 | e1 <;> rcases hb with hb | hb <;> simp [e1, hb]
theorem dcnt_R {v X : Nat → Nat} {i : Nat} (h : RgR v (rg X i)) : dcnt X i 84 = bc12 (v 9) := by
  rw [bc_sum]
  exact dcnt_bs h 12 (Nat.le_refl _)
theorem bc_S {v w : Nat → Nat} (h : SgR v w) : bc12 (v 9) = 1 := by
  rw [h.2.2.2.2.2.1]
  exact bc_pow _ (by have := h.2.2.2.2.2.2; omega)
theorem fd_R {v X : Nat → Nat} {i : Nat} (h : RgR v (rg X i)) : ∀ m k, m + k = 12 → fdS X i (7 * m) (7 * k) = fdV v m k
  | 0, _, _ => rfl
  | m + 1, k, hk => by
    have ih := fd_R h m (k + 1) (by omega)
    have h6 : v 1 ≤ 6 := by rw [h.1 1 (by omega)]; exact h.2.2.2
    have e : fdS X i (7 * (m + 1)) (7 * k) = bif stdR X i (7 * k + 0) then nI (7 * k + 0) else bif stdR X i (7 * k + 1) then nI (7 * k + 1) else bif stdR X i (7 * k + 2) then nI (7 * k + 2) else bif stdR X i (7 * k + 3) then nI (7 * k + 3) else bif stdR X i (7 * k + 4) then nI (7 * k + 4) else bif stdR X i (7 * k + 5) then nI (7 * k + 5) else bif stdR X i (7 * k + 6) then nI (7 * k + 6) else fdS X i (7 * m) (7 * (k + 1)) := rfl
    rw [e, ih, fdV]
    rw [std_7 h (by omega) (r := 0) (by omega), std_7 h (by omega) (r := 1) (by omega), std_7 h (by omega) (r := 2) (by omega), std_7 h (by omega) (r := 3) (by omega), std_7 h (by omega) (r := 4) (by omega), std_7 h (by omega) (r := 5) (by omega), std_7 h (by omega) (r := 6) (by omega)]
    have hb : v 9 / 2 ^ k % 2 = 0 ∨ v 9 / 2 ^ k % 2 = 1 := by omega
    rcases (show v 1 = 0 ∨ v 1 = 1 ∨ v 1 = 2 ∨ v 1 = 3 ∨ v 1 = 4 ∨ v 1 = 5 ∨ v 1 = 6 by omega) with e1 | e1 | e1 | e1 | e1 | e1 | e1 <;> rcases hb with hb | hb <;> simp [e1, hb]
theorem fd_S {v w : Nat → Nat} (h : SgR v w) : fdV v 12 0 = nI (w 1) := by
  obtain ⟨h0, h1, h2, h7, h8, h9, hb⟩ := h
  have key : ∀ m k, m + k = 12 → k ≤ w 1 / 7 → fdV v m k = nI (w 1) := by
    intro m
    induction m with
    | zero => intro k hk h; omega
    | succ m ih =>
      intro k hk hle
      rw [fdV, h9, h1]
      by_cases e : k = w 1 / 7
      · rw [if_pos ((pow_bit _ (by omega) _ (by omega)).mpr e), e, Nat.div_add_mod]
      · rw [if_neg (fun q => e ((pow_bit _ (by omega) _ (by omega)).mp q))]
        exact ih (k + 1) (by omega) (by omega)
  exact key 12 0 (by omega) (Nat.zero_le _)
section AB
variable {Y : Nat → Nat → Nat} {b : Nat} {X : Nat → Nat}
theorem ab_ro (h : Ab Y b X) {i w : Nat} (hi : i < X 11) (hw : w ≤ 10) : (if w < 9 then nI (rV Y (b + 1) i w) else if w = 9 then nI (bc12 (rV Y (b + 1) i 9)) else fdV (rV Y (b + 1) i) 12 0) = ofR X i w := by
  have hr := h.2.2.2.2.1 i hi
  unfold ofR
  by_cases h9 : w < 9
  · rw [if_pos h9, if_pos h9, hr.1 w h9]
    rfl
  · rw [if_neg h9, if_neg h9, dcnt_R hr, ← fd_R hr 12 0 (by omega)]
theorem ab_so (h : Ab Y b X) {i w : Nat} (hi : i < X 92) (hw : w ≤ 6) : (if w = 1 then fdV (rV Y (b + 11) i) 12 0 else nI (rV Y (b + 11) i w)) = nI (X (93 + 7 * i + w)) := by
  have hs := h.2.2.2.2.2 i hi
  by_cases h1 : w = 1
  · subst h1
    rw [if_pos rfl, fd_S hs]
    rfl
  · rw [if_neg h1]
    by_cases h0 : w = 0
    · subst h0; rw [hs.1]; rfl
    · rw [hs.2.2.1 w (by omega) (by omega)]
      rfl
theorem ab_sfR (h : Ab Y b X) {te : Int32} {w : Nat} (hw : w ≤ 2) : ∀ n, n ≤ X 11 → sfV (rV Y (b + 1)) te w n = otR X te w n
  | 0, _ => rfl
  | n + 1, hn => by
    have hr := h.2.2.2.2.1 n (by omega)
    have e5 : rV Y (b + 1) n 5 = X (12 + 10 * n + 5) := hr.1 5 (by omega)
    have e6 : rV Y (b + 1) n 6 = X (12 + 10 * n + 6) := hr.1 6 (by omega)
    rw [sfV, otR, ab_sfR h hw n (by omega), e5]
    cases tqB te (X (12 + 10 * n + 5))
    · rfl
    · show _ + _ = _ + _
      congr 1
      unfold ownR vSh
      rcases (show w = 0 ∨ w = 1 ∨ w = 2 by omega) with rfl | rfl | rfl
      · rfl
      · simp [dcnt_R hr]
      · simp [dcnt_R hr, e6, Nat.mul_comm]
theorem ab_sfS (h : Ab Y b X) {te : Int32} {w : Nat} (hw : w ≤ 2) : ∀ n, n ≤ X 92 → sfV (rV Y (b + 11)) te w n = otS X te w n
  | 0, _ => rfl
  | n + 1, hn => by
    have hs := h.2.2.2.2.2 n (by omega)
    have e5 : rV Y (b + 11) n 5 = X (93 + 7 * n + 5) := hs.2.2.1 5 (by omega) (by omega)
    have e6 : rV Y (b + 11) n 6 = X (93 + 7 * n + 6) := hs.2.2.1 6 (by omega) (by omega)
    rw [sfV, otS, ab_sfS h hw n (by omega), e5]
    cases tqB te (X (93 + 7 * n + 5))
    · rfl
    · show _ + _ = _ + _
      congr 1
      unfold ownS vSh
      rcases (show w = 0 ∨ w = 1 ∨ w = 2 by omega) with rfl | rfl | rfl
      · rfl
      · simp [bc_S hs]
      · simp [bc_S hs, e6]
end AB
theorem ab_sfT {Y : Nat → Nat → Nat} {X : Nat → Nat} (h : Ab Y 9 X) {te : Int32} {w : Nat} (hw : w ≤ 2) : sfT Y te w = oT X te w := by
  have e1 : Y 10 1 = X 11 := h.2.2.2.1.1
  have e2 : Y 20 1 = X 92 := h.2.2.2.1.2
  rw [sfT, oT, e1, e2]
  have a := ab_sfR h (te := te) hw (X 11) (Nat.le_refl _)
  have b := ab_sfS h (te := te) hw (X 92) (Nat.le_refl _)
  rw [← a, ← b]
theorem ab_bt {Y : Nat → Nat → Nat} {X : Nat → Nat} (h : Ab Y 9 X) : ∀ n, btC Y n = btN X n
  | 0 => rfl
  | n + 1 => by rw [btC, btN, ab_bt h n, ab_sfT h (by omega)]
theorem ab_cnt {Y : Nat → Nat → Nat} {X : Nat → Nat} (h : Ab Y 9 X) {w : Nat} (hw : w ≤ 12) : cntC Y w = cnt0 X (Y 8 4) w := by
  have e1 : Y 10 1 = X 11 := h.2.2.2.1.1
  have e2 : Y 20 1 = X 92 := h.2.2.2.1.2
  have e4 : Y 9 4 = X 8 := h.2.2.1.1
  have e5 : Y 9 5 = X 9 := h.2.2.1.2.1
  have e6 : Y 9 6 = X 10 := h.2.2.1.2.2
  unfold cntC cnt0
  rw [e1, e2, e4, e5, e6, ab_sfT h (by omega), ab_sfT h (by omega)]
  by_cases h12 : w = 12
  · subst h12; rfl
  by_cases h7 : w < 7
  · rcases (show w = 0 ∨ w = 1 ∨ w = 2 ∨ w = 3 ∨ w = 4 ∨ w = 5 ∨ w = 6 by omega) with rfl | rfl | rfl | rfl | rfl | rfl | rfl <;> rfl
  · have := h.1 (w - 7) (by omega)
    have e : Y 35 (w - 7) = X (w - 7) := this
    rw [e]
