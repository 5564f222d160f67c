/-! counts and rents depend on the first n lets alone -/
theorem gN_c {g g' : Nat → Bool} : ∀ n, (∀ i, i < n → g i = g' i) → gN g n = gN g' n
  | 0, _ => rfl
  | n + 1, h => by simp only [gN, h n (by omega), gN_c n (fun i hi => h i (by omega))]
theorem gR_c {g g' : Nat → Bool} {V V' : Nat → Nat → Nat} : ∀ n, (∀ i, i < n → g i = g' i ∧ V i = V' i) → gR g V n = gR g' V' n
  | 0, _ => rfl
  | n + 1, h => by simp only [gR, (h n (by omega)).1, (h n (by omega)).2, gR_c n (fun i hi => h i (by omega))]
theorem dN_c {g g' : Nat → Bool} {n : Nat} (h : ∀ i, i < n → g i = g' i) : ∀ u, u ≤ n → dN g n u = dN g' n u
  | 0, _ => rfl
  | u + 1, hu => by simp only [dN, h (n - (u + 1)) (by omega), dN_c h u (by omega)]
theorem dR_c {g g' : Nat → Bool} {V V' : Nat → Nat → Nat} {n : Nat} (h : ∀ i, i < n → g i = g' i ∧ V i = V' i) : ∀ u, u ≤ n → dR g V n u = dR g' V' n u
  | 0, _ => rfl
  | u + 1, hu => by simp only [dR, (h (n - (u + 1)) (by omega)).1, (h (n - (u + 1)) (by omega)).2, dR_c h u (by omega)]
theorem dL_c {g g' : Nat → Bool} {A A' : Nat → Nat} {n : Nat} (h : ∀ i, i < n → g i = g' i ∧ A i = A' i) : ∀ u, u ≤ n → dL g A n u = dL g' A' n u
  | 0, _ => rfl
  | u + 1, hu => by simp only [dL, (h (n - (u + 1)) (by omega)).1, (h (n - (u + 1)) (by omega)).2, dL_c h u (by omega)]
