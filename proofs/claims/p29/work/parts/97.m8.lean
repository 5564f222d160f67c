/-! mathematics: a let more -/
theorem lay_n {X : Nat → Nat} {p a b c d e f k : Nat} (h : k < p ∨ p + 6 ≤ k) : layX X p a b c d e f k = X k := by
  unfold layX
  rw [uN_n _ _ (by omega), uN_n _ _ (by omega), uN_n _ _ (by omega), uN_n _ _ (by omega), uN_n _ _ (by omega), uN_n _ _ (by omega)]
theorem lay_at {X : Nat → Nat} {p a b c d e f : Nat} : layX X p a b c d e f p = a ∧ layX X p a b c d e f (p + 1) = b ∧ layX X p a b c d e f (p + 2) = c ∧ layX X p a b c d e f (p + 3) = d ∧ layX X p a b c d e f (p + 4) = e ∧ layX X p a b c d e f (p + 5) = f := by
  unfold layX
  refine ⟨?_, ?_, ?_, ?_, ?_, ?_⟩
  · rw [uN_n _ _ (by omega), uN_n _ _ (by omega), uN_n _ _ (by omega), uN_n _ _ (by omega), uN_n _ _ (by omega)]
    exact uN_s _ (p + 0) _
  · rw [uN_n _ _ (by omega), uN_n _ _ (by omega), uN_n _ _ (by omega), uN_n _ _ (by omega), uN_s]
  · rw [uN_n _ _ (by omega), uN_n _ _ (by omega), uN_n _ _ (by omega), uN_s]
  · rw [uN_n _ _ (by omega), uN_n _ _ (by omega), uN_s]
  · rw [uN_n _ _ (by omega), uN_s]
  · rw [uN_s]
def AddS (X1 X' w : Nat → Nat) : Prop := X' 92 = X1 92 + 1 ∧ (∀ j, j < 92 → j ≠ 8 → X' j = X1 j) ∧ (∀ j, 93 ≤ j → j < 93 + 7 * X1 92 → X' j = X1 j) ∧ (∀ j, j < 7 → X' (93 + 7 * X1 92 + j) = w j) ∧ X' 8 = X1 8 + w 6
theorem lt7 {P : Nat → Prop} (h0 : P 0) (h1 : P 1) (h2 : P 2) (h3 : P 3) (h4 : P 4) (h5 : P 5) (h6 : P 6) : ∀ j, j < 7 → P j
  | 0, _ => h0 | 1, _ => h1 | 2, _ => h2 | 3, _ => h3 | 4, _ => h4 | 5, _ => h5 | 6, _ => h6
  | n + 7, h => by omega
theorem mkS_rows {X : Nat → Nat} (hX : wf0 X) {day h f t r te : Nat} (hd : day < 84) (hh : h ≤ 2) : AddS (gw X day h f t).2 (mkS X h day f t r te) (mkV h day f t r te (sRent X h day f t) 0 0 0) := by
  obtain ⟨-, -, -, -, -, p6, -, -⟩ := gwP_gw hX day h f t
  unfold mkS
  generalize (gw X day h f t).2 = X1 at p6
  dsimp only
  obtain ⟨l0, l1, l2, l3, l4, l5⟩ := @lay_at X1 (93 + 7 * X1 92) h day f t r te
  have hr : sRent (layX X1 (93 + 7 * X1 92) h day f t r te) h day f t = sRent X h day f t := by
    unfold sRent rentF
    rw [lay_n (by omega), lay_n (by omega), p6 _ (by omega), p6 _ (by omega)]
  rw [hr]
  have hn : ∀ k, (k < 93 + 7 * X1 92 ∨ 93 + 7 * X1 92 + 6 ≤ k) → layX X1 (93 + 7 * X1 92) h day f t r te k = X1 k := fun k hk => lay_n hk
  generalize layX X1 (93 + 7 * X1 92) h day f t r te = X2 at l0 l1 l2 l3 l4 l5 hn
  have h92 := hn 92 (by omega)
  have h8 := hn 8 (by omega)
  refine ⟨?_, fun j hj hj8 => ?_, fun j hj hj2 => ?_, ?_, ?_⟩
  · rw [uN_s, uN_n _ _ (by omega), uN_n _ _ (by omega), h92]
  · rw [uN_n _ _ (by omega), uN_n _ _ hj8, uN_n _ _ (by omega), hn j (by omega)]
  · rw [uN_n _ _ (by omega), uN_n _ _ (by omega), uN_n _ _ (by omega), hn j (by omega)]
  · have e : ∀ j, j < 6 → uN (uN (uN X2 (93 + 7 * X1 92 + 6) (sRent X h day f t)) 8 (uN X2 (93 + 7 * X1 92 + 6) (sRent X h day f t) 8 + uN X2 (93 + 7 * X1 92 + 6) (sRent X h day f t) (93 + 7 * X1 92 + 6))) 92 (uN (uN X2 (93 + 7 * X1 92 + 6) (sRent X h day f t)) 8 (uN X2 (93 + 7 * X1 92 + 6) (sRent X h day f t) 8 + uN X2 (93 + 7 * X1 92 + 6) (sRent X h day f t) (93 + 7 * X1 92 + 6)) 92 + 1) (93 + 7 * X1 92 + j) = X2 (93 + 7 * X1 92 + j) := fun j hj => by
      rw [uN_n _ _ (by omega), uN_n _ _ (by omega), uN_n _ _ (by omega)]
    refine lt7 ?_ ?_ ?_ ?_ ?_ ?_ ?_
    · rw [e 0 (by omega)]; exact l0
    · rw [e 1 (by omega)]; exact l1
    · rw [e 2 (by omega)]; exact l2
    · rw [e 3 (by omega)]; exact l3
    · rw [e 4 (by omega)]; exact l4
    · rw [e 5 (by omega)]; exact l5
    · rw [uN_n _ _ (by omega), uN_n _ _ (by omega), uN_s]; rfl
  · rw [uN_n _ _ (by omega), uN_s, uN_n _ _ (by omega), uN_s, h8]
    rfl
theorem lkR_same {X X' : Nat → Nat} {d n : Nat} (h : ∀ i, i < n → ∀ j, j < 10 → X' (12 + 10 * i + j) = X (12 + 10 * i + j)) : ∀ k, k ≤ n → (lkR X' d k).map (enx X') = (lkR X d k).map (enx X)
  | 0, _ => rfl
  | k + 1, hk => by
    have hr := h k (by omega)
    have e0 : X' (12 + 10 * k) = X (12 + 10 * k) := hr 0 (by omega)
    have es : stdR X' k d = stdR X k d := by
      unfold stdR
      rw [hr 1 (by omega), hr 7 (by omega), hr 8 (by omega), hr 9 (by omega)]
    rw [lkR, lkR, List.map_append, List.map_append, lkR_same h k (by omega), es]
    congr 1
    cases stdR X k d
    · rfl
    · show [enx X' (12 + 10 * k)] = [enx X (12 + 10 * k)]
      unfold enx
      rw [e0, hr 2 (by omega), hr 3 (by omega)]
theorem lkS_same {X X' : Nat → Nat} {d n : Nat} (h : ∀ i, i < n → ∀ j, j < 7 → X' (93 + 7 * i + j) = X (93 + 7 * i + j)) : ∀ k, k ≤ n → (lkS X' d k).map (enx X') = (lkS X d k).map (enx X)
  | 0, _ => rfl
  | k + 1, hk => by
    have hr := h k (by omega)
    have e0 : X' (93 + 7 * k) = X (93 + 7 * k) := hr 0 (by omega)
    rw [lkS, lkS, List.map_append, List.map_append, lkS_same h k (by omega), hr 1 (by omega)]
    congr 1
    cases decide (X (93 + 7 * k + 1) = d)
    · rfl
    · show [enx X' (93 + 7 * k)] = [enx X (93 + 7 * k)]
      unfold enx
      rw [e0, hr 2 (by omega), hr 3 (by omega)]
section ADD
variable {X X' w : Nat → Nat}
theorem addS_lk (hX : X 11 ≤ 8) (h : AddS X X' w) (d : Nat) : (lk X' d).map (enx X') = (lk X d).map (enx X) ++ (if w 1 = d then [(w 0, w 2, w 3)] else []) := by
  obtain ⟨h1, h2, h3, h4, -⟩ := h
  rw [lk, lk, List.map_append, List.map_append, h2 11 (by omega) (by omega), h1, lkS, List.map_append, lkR_same (X := X) (fun i hi j hj => h2 _ (by omega) (by omega)) _ (Nat.le_refl _), lkS_same (X := X) (fun i hi j hj => h3 _ (by omega) (by omega)) _ (Nat.le_refl _), List.append_assoc, h4 1 (by omega)]
  congr 2
  have e0 : X' (93 + 7 * X 92) = w 0 := h4 0 (by omega)
  by_cases hw : w 1 = d
  · rw [if_pos hw, decide_eq_true hw]
    show [enx X' (93 + 7 * X 92)] = _
    unfold enx
    rw [e0, h4 2 (by omega), h4 3 (by omega)]
  · rw [if_neg hw, decide_eq_false hw]
    rfl
theorem addS_NC (hX : X 11 ≤ 8) (h : AddS X X' w) (hN : NC X) (hG : NG X (w 0, w 2, w 3) (w 1)) : NC X' := fun d hd => by
  rw [h.2.1 0 (by omega) (by omega), addS_lk hX h d]
  refine List.pairwise_append.mpr ⟨hN d hd, ?_, fun x hx y hy => ?_⟩
  · split
    · exact List.pairwise_singleton _ _
    · exact List.Pairwise.nil
  · by_cases hw : w 1 = d
    · rw [if_pos hw] at hy
      rw [List.mem_singleton.mp hy]
      subst hw
      exact ncl_sep (hG x hx)
    · rw [if_neg hw] at hy
      cases hy
def okW (w : Nat → Nat) : Prop := w 0 ≤ 2 ∧ w 2 < w 3 ∧ w 3 ≤ 24 ∧ 1 ≤ w 4 ∧ w 4 ≤ 9 ∧ w 5 ≤ 19 ∧ w 6 ≤ 240000
theorem addS_wf2 (hX : X 11 ≤ 8) (h : AddS X X' w) (h2 : wf2 X) (hw : okW w) (h83 : w 1 ≤ 83) : wf2 X' := by
  obtain ⟨a1, a2, a3, a4, -⟩ := h
  refine ⟨fun i hi => ?_, fun i hi => ?_⟩
  · rw [a2 11 (by omega) (by omega)] at hi
    have e : ∀ j, j < 10 → X' (12 + 10 * i + j) = X (12 + 10 * i + j) := fun j hj => a2 _ (by omega) (by omega)
    have e0 : X' (12 + 10 * i) = X (12 + 10 * i) := e 0 (by omega)
    unfold lOK
    rw [e0, e 1 (by omega), e 2 (by omega), e 3 (by omega), e 4 (by omega), e 5 (by omega), e 6 (by omega), e 7 (by omega), e 8 (by omega), e 9 (by omega)]
    exact h2.1 i hi
  · rw [a1] at hi
    by_cases hi2 : i = X 92
    · subst hi2
      have e0 : X' (93 + 7 * X 92) = w 0 := a4 0 (by omega)
      unfold lOK
      rw [e0, a4 1 (by omega), a4 2 (by omega), a4 3 (by omega), a4 4 (by omega), a4 5 (by omega), a4 6 (by omega)]
      exact ⟨hw, h83⟩
    · have e : ∀ j, j < 7 → X' (93 + 7 * i + j) = X (93 + 7 * i + j) := fun j hj => a3 _ (by omega) (by omega)
      have e0 : X' (93 + 7 * i) = X (93 + 7 * i) := e 0 (by omega)
      unfold lOK
      rw [e0, e 1 (by omega), e 2 (by omega), e 3 (by omega), e 4 (by omega), e 5 (by omega), e 6 (by omega)]
      exact h2.2 i (by omega)
variable {Y Z W : Nat → Nat → Nat}
theorem addS_Ab (hw9 : wS W 9) (h12 : W 20 1 < 12) (hA : Ab W 9 X) (h : AddS X X' w) (h8 : X 11 ≤ 8) (hv : SgR (Y 70) w) (hZ : Z = msY Y W (W 21) (W 20 1)) : Ab Z 9 X' := by
  obtain ⟨a1, a2, a3, a4, a5⟩ := h
  obtain ⟨b1, b2, ⟨b3, b4, b5⟩, ⟨b6, b7⟩, b8, b9⟩ := hA
  have b6 : W 10 1 = X 11 := b6
  have b7 : W 20 1 = X 92 := b7
  have hp : 22 ≤ W 21 (W 20 1) ∧ W 21 (W 20 1) < 34 := hw9.2.1.1 _ (by omega)
  have z9 : Z 9 = uN (W 9) 4 (W 9 4 + Y 70 6) := by rw [hZ, msY, uA_s]
  have z20 : Z 20 = uN (W 20) 1 (W 20 1 + 1) := by rw [hZ, msY, uA_n _ _ (by omega), uA_s]
  have zn : Z (W 21 (W 20 1)) = Y 70 := by rw [hZ, msY, uA_n _ _ (by omega), uA_n _ _ (by omega), uA_s]
  have zo : ∀ q, q ≠ 9 → q ≠ 20 → q ≠ W 21 (W 20 1) → Z q = W q := fun q h1 h2 h3 => by rw [hZ, msY, uA_n _ _ h1, uA_n _ _ h2, uA_n _ _ h3]
  have z6 : Y 70 6 = w 6 := hv.2.2.1 6 (by omega) (by omega)
  refine ⟨fun j hj => ?_, fun j hj => ?_, ⟨?_, ?_, ?_⟩, ⟨?_, ?_⟩, fun i hi => ?_, fun i hi => ?_⟩
  · rw [zo _ (by omega) (by omega) (by omega), a2 j (by omega) (by omega)]; exact b1 j hj
  · rw [zo _ (by omega) (by omega) (by omega), a2 _ (by omega) (by omega)]; exact b2 j hj
  · rw [z9, uN_s, a5, b3, z6]
  · rw [z9, uN_n _ _ (by omega), a2 9 (by omega) (by omega)]; exact b4
  · rw [z9, uN_n _ _ (by omega), a2 10 (by omega) (by omega)]; exact b5
  · show Z 10 1 = _
    rw [zo _ (by omega) (by omega) (by omega), a2 11 (by omega) (by omega)]; exact b6
  · show Z 20 1 = _
    rw [z20, uN_s, a1, b7]
  · rw [a2 11 (by omega) (by omega)] at hi
    have hq : 12 ≤ W 11 i ∧ W 11 i < 20 := hw9.1.1.1 i (by omega)
    have e : rV Z 10 i = rV W 10 i := by
      show Z (Z 11 i) = W (W 11 i)
      rw [zo 11 (by omega) (by omega) (by omega), zo _ (by omega) (by omega) (by omega)]
    show RgR (rV Z 10 i) _
    rw [e]
    exact RgR_c (b8 i hi) (fun _ _ => rfl) (fun j hj => a2 _ (by omega) (by omega))
  · rw [a1] at hi
    have hq : 22 ≤ W 21 i ∧ W 21 i < 34 := hw9.2.1.1 i (by omega)
    show SgR (Z (Z 21 i)) _
    rw [zo 21 (by omega) (by omega) (by omega)]
    by_cases hi2 : i = X 92
    · subst hi2
      rw [← b7, zn]
      refine SgR_c hv (fun _ _ => rfl) (fun j hj => ?_)
      rw [b7]
      exact a4 j hj
    · rw [zo (W 21 i) (by omega) (by omega) (fun e => hi2 ((hw9.2.1.2 i (W 20 1) (by omega) (by omega) e).trans b7))]
      exact SgR_c (b9 i (by omega)) (fun _ _ => rfl) (fun j hj => a3 _ (by omega) (by omega))
end ADD
