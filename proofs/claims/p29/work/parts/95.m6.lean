/-! mathematics: giveWay of class and reference -/
theorem gN_q {g g' : Nat → Bool} : ∀ n, (∀ i, i < n → g i = g' i) → gN g n = gN g' n
  | 0, _ => rfl
  | n + 1, h => by rw [gN, gN, gN_q n (fun i hi => h i (by omega)), h n (by omega)]
theorem gR_q {g g' : Nat → Bool} {V V' : Nat → Nat → Nat} : ∀ n, (∀ i, i < n → g i = g' i) → (∀ i, i < n → V i 6 = V' i 6) → gR g V n = gR g' V' n
  | 0, _, _ => rfl
  | n + 1, h, h2 => by rw [gR, gR, gR_q n (fun i hi => h i (by omega)) (fun i hi => h2 i (by omega)), h n (by omega), h2 n (by omega)]
theorem dN_q {g g' : Nat → Bool} {n : Nat} (h : ∀ i, i < n → g i = g' i) : ∀ u, u ≤ n → dN g n u = dN g' n u
  | 0, _ => rfl
  | u + 1, hu => by rw [dN, dN, dN_q h u (by omega), h _ (by omega)]
theorem dR_q {g g' : Nat → Bool} {V V' : Nat → Nat → Nat} {n : Nat} (h : ∀ i, i < n → g i = g' i) (h2 : ∀ i, i < n → V i 6 = V' i 6) : ∀ u, u ≤ n → dR g V n u = dR g' V' n u
  | 0, _ => rfl
  | u + 1, hu => by rw [dR, dR, dR_q h h2 u (by omega), h _ (by omega), h2 _ (by omega)]
theorem dI_c {g g' : Nat → Bool} {n : Nat} (h : ∀ i, i < n → g i = g' i) : ∀ u, u ≤ n → dI g n u = dI g' n u
  | 0, _ => rfl
  | u + 1, hu => by rw [dI_s, dI_s, dI_c h u (by omega), h _ (by omega)]
theorem dI_mem {g : Nat → Bool} {n i : Nat} : ∀ u, u ≤ n → i ∈ dI g n u → (n - u ≤ i ∧ i < n) ∧ g i = false
  | 0, _, h => by cases h
  | u + 1, hu, h => by
    rw [dI_s] at h
    cases hg : g (n - (u + 1))
    · rw [hg] at h
      rcases List.mem_cons.mp h with rfl | h
      · exact ⟨by omega, hg⟩
      · obtain ⟨h1, h2⟩ := dI_mem u (by omega) h
        exact ⟨by omega, h2⟩
    · rw [hg] at h
      obtain ⟨h1, h2⟩ := dI_mem u (by omega) h
      exact ⟨by omega, h2⟩
theorem dI_len (g : Nat → Bool) (n : Nat) : ∀ u, (dI g n u).length ≤ u
  | u => dL_len g (fun i => i) n u
theorem gwP_gw {X : Nat → Nat} (hX : wf0 X) (day h f t : Nat) : gwP X (gw X day h f t).2 (g1X X day h f t) (g2X X day h f t) (day / 7) := (gw_rows hX).2
section AB5
variable {Y Z : Nat → Nat → Nat} {X : Nat → Nat} {day : Nat}
theorem ab_g1 (hA : Ab Y 9 X) (hd : day < 84) {i : Nat} (hi : i < X 11) : gwG Y 10 70 day (Y 35 0) i = g1X X day (Y 70 0) (Y 70 2) (Y 70 3) i := by
  have hr := hA.2.2.2.2.1 i hi
  have hc : Y 35 0 = X 0 := hA.1 0 (by omega)
  show (vStd (rV Y 10 i) day && vCl (rV Y 10 i) (Y 70) (Y 35 0)) = (stdR X i day && clsh X (12 + 10 * i) (Y 70 0) (Y 70 2) (Y 70 3))
  have e1 : vStd (rV Y 10 i) day = stdR X i day := std_R hr hd
  rw [e1, hc]
  unfold vCl clsh
  have e0 : rV Y 10 i 0 = X (12 + 10 * i) := hr.1 0 (by omega)
  have e2 : rV Y 10 i 2 = X (12 + 10 * i + 2) := hr.1 2 (by omega)
  have e3 : rV Y 10 i 3 = X (12 + 10 * i + 3) := hr.1 3 (by omega)
  rw [e0, e2, e3, Bool.and_comm (decide (Y 70 2 < _))]
theorem ab_g2 (hA : Ab Y 9 X) (hd : day < 84) {i : Nat} (hi : i < X 92) : gwG Y 20 70 day (Y 35 0) i = g2X X day (Y 70 0) (Y 70 2) (Y 70 3) i := by
  have hr := hA.2.2.2.2.2 i hi
  have hc : Y 35 0 = X 0 := hA.1 0 (by omega)
  show (vStd (rV Y 20 i) day && vCl (rV Y 20 i) (Y 70) (Y 35 0)) = (decide (X (93 + 7 * i + 1) = day) && clsh X (93 + 7 * i) (Y 70 0) (Y 70 2) (Y 70 3))
  have e1 : vStd (rV Y 20 i) day = decide (X (93 + 7 * i + 1) = day) := std_S hr hd
  rw [e1, hc]
  unfold vCl clsh
  have e0 : rV Y 20 i 0 = X (93 + 7 * i) := hr.1
  have e2 : rV Y 20 i 2 = X (93 + 7 * i + 2) := hr.2.2.1 2 (by omega) (by omega)
  have e3 : rV Y 20 i 3 = X (93 + 7 * i + 3) := hr.2.2.1 3 (by omega) (by omega)
  rw [e0, e2, e3, Bool.and_comm (decide (Y 70 2 < _))]
theorem ab_gw (hw : wS Y 9) (hA : Ab Y 9 X) (hX : wf0 X) (hd : day < 84) (h : gwRel Y Z day) : Ab Z 9 (gw X day (Y 70 0) (Y 70 2) (Y 70 3)).2 := by
  obtain ⟨-, far⟩ := gwRel_k hw h
  obtain ⟨A, s, rfl, hl, hs, hP⟩ := h
  obtain ⟨p1, p2, p3, p4, p5, p6, p7, p8⟩ := gwP_gw hX day (Y 70 0) (Y 70 2) (Y 70 3)
  obtain ⟨a1, a2, ⟨a3, a4, a5⟩, ⟨a6, a7⟩, a8, a9⟩ := hA
  have hA : Ab Y 9 X := ⟨a1, a2, ⟨a3, a4, a5⟩, ⟨a6, a7⟩, a8, a9⟩
  have a6 : Y 10 1 = X 11 := a6
  have a7 : Y 20 1 = X 92 := a7
  have hs1 : Y 10 1 ≤ 8 := hw.1.2.1
  have hs2 : Y 20 1 ≤ 12 := hw.2.2.1
  have c1 : ∀ i, i < X 11 → gwG Y 10 70 day (Y 35 0) i = g1X X day (Y 70 0) (Y 70 2) (Y 70 3) i := fun i hi => ab_g1 hA hd hi
  have c2 : ∀ i, i < X 92 → gwG Y 20 70 day (Y 35 0) i = g2X X day (Y 70 0) (Y 70 2) (Y 70 3) i := fun i hi => ab_g2 hA hd hi
  generalize hG1 : gwG Y 10 70 day (Y 35 0) = G1 at *
  generalize hG2 : gwG Y 20 70 day (Y 35 0) = G2 at *
  generalize hX' : (gw X day (Y 70 0) (Y 70 2) (Y 70 3)).2 = X' at *
  generalize hx1 : g1X X day (Y 70 0) (Y 70 2) (Y 70 3) = x1 at *
  generalize hx2 : g2X X day (Y 70 0) (Y 70 2) (Y 70 3) = x2 at *
  simp only [a6, a7] at hl hs far ⊢
  have n1 : gN G1 (X 11) = gN x1 (X 11) := gN_q _ c1
  have n2 : dN G2 (X 92) (X 92) = dN x2 (X 92) (X 92) := dN_q c2 _ (Nat.le_refl _)
  have r1 : gR G1 (rV Y 10) (X 11) = gR x1 (rg X) (X 11) := gR_q _ c1 (fun i hi => (a8 i hi).1 6 (by omega))
  have r2 : dR G2 (rV Y 20) (X 92) (X 92) = dR x2 (sg X) (X 92) (X 92) := dR_q c2 (fun i hi => (a9 i hi).2.2.1 6 (by omega) (by omega)) _ (Nat.le_refl _)
  have li : dL G2 (Y 21) (X 92) (X 92) = (dI x2 (X 92) (X 92)).map (Y 21) := by
    rw [dL_map, dI_c c2 _ (Nat.le_refl _)]
  rw [n1, n2, r1, r2] at far ⊢
  rw [li] at hl hs
  rw [List.length_map] at hs
  generalize hW : gwY Y (gZ Y (Y 11) day G1 (X 11)) 9 A s (gR x1 (rg X) (X 11) + dR x2 (sg X) (X 92) (X 92)) (gN x1 (X 11) + dN x2 (X 92) (X 92)) = W at *
  have zb : W 9 = gBk Y 9 (gR x1 (rg X) (X 11) + dR x2 (sg X) (X 92) (X 92)) (gN x1 (X 11) + dN x2 (X 92) (X 92)) := by rw [← hW]; exact gwY_b _ _ _ _ _ _ _
  have zr : W 21 = A := by rw [← hW]; exact gwY_r _ _ 9 _ _ _ _
  have zs : W 20 1 = s := by
    rw [← hW]
    show gwY Y (gZ Y (Y 11) day G1 (X 11)) 9 A s _ _ (9 + 11) 1 = s
    rw [gwY_s, uN_s]
  have zo : ∀ q, q ≠ 9 → q ≠ 20 → q ≠ 21 → W q = gZ Y (Y 11) day G1 (X 11) q := fun q h1 h2 h3 => by rw [← hW]; exact gwY_o _ _ _ _ _ _ _ h1 h2 h3
  have gf : ∀ q, (q < 12 ∨ 20 ≤ q) → gZ Y (Y 11) day G1 (X 11) q = Y q := fun q hq => gw_far (b := 9) hw G1 a6.symm (by omega)
  have z1 : W 10 = Y 10 := by rw [zo _ (by omega) (by omega) (by omega)]; exact gf _ (by omega)
  have z2 : W 11 = Y 11 := by rw [zo _ (by omega) (by omega) (by omega)]; exact gf _ (by omega)
  refine ⟨fun j hj => ?_, fun j hj => ?_, ⟨?_, ?_, ?_⟩, ⟨?_, ?_⟩, fun i hi => ?_, fun m hm => ?_⟩
  · rw [far _ (by omega), p6 j (by omega)]; exact a1 j hj
  · rw [far _ (by omega), p6 _ (by omega)]; exact a2 j hj
  · rw [zb, gBk, uN_n _ _ (by omega), uN_n _ _ (by omega), p6 8 (by omega)]; exact a3
  · rw [zb, gBk, uN_n _ _ (by omega), uN_s, p7, a4]
  · rw [zb, gBk, uN_s, p8, a5]
  · show W 10 1 = _
    rw [z1, p1]; exact a6
  · show W 20 1 = _
    rw [zs, hs, p2]
  · rw [p1] at hi
    have hp : 12 ≤ Y 11 i ∧ Y 11 i < 20 := hw.1.1.1 i (by omega)
    have e : rV W 10 i = bif G1 i then uN (Y (Y 11 i)) 9 (lvW (Y (Y 11 i) 9) (day / 7)) else Y (Y 11 i) := by
      show W (W 11 i) = _
      rw [z2, zo _ (by omega) (by omega) (by omega)]
      exact gZ_at (n := 8) (i := i) Y _ day G1 hw.1.1.2 (X 11) (by omega) hi
    have hr : RgR (Y (Y 11 i)) (rg X i) := a8 i hi
    show RgR (rV W 10 i) _
    rw [e]
    cases hg : G1 i
    · refine RgR_c hr (fun _ _ => rfl) (fun j hj => ?_)
      show X' (12 + 10 * i + j) = X (12 + 10 * i + j)
      by_cases h9 : j = 9
      · subst h9
        rw [p5 i hi, ← c1 i hi, hg, cond_false]
      · exact p4 i hi j (by omega)
    · refine RgR_c (RgR_lv hr (a := day / 7) (by omega)) (fun _ _ => rfl) (fun j hj => ?_)
      show X' (12 + 10 * i + j) = uN (rg X i) 9 (rg X i 9 ||| 2 ^ (day / 7)) j
      by_cases h9 : j = 9
      · subst h9
        rw [p5 i hi, ← c1 i hi, hg, cond_true, uN_s]
        rfl
      · rw [uN_n _ _ h9]
        exact p4 i hi j (by omega)
  · rw [p2] at hm
    have hx : (dI x2 (X 92) (X 92))[m]? = some (dI x2 (X 92) (X 92))[m] := List.getElem?_eq_getElem hm
    generalize (dI x2 (X 92) (X 92))[m] = i at hx
    obtain ⟨⟨-, hi⟩, -⟩ := dI_mem _ (Nat.le_refl _) (List.mem_of_getElem? hx)
    have ha := hl m (Y 21 i) (by rw [List.getElem?_map, hx]; rfl)
    rw [Nat.zero_add] at ha
    have hp : 22 ≤ Y 21 i ∧ Y 21 i < 34 := hw.2.1.1 i (by omega)
    have e : rV W 20 m = Y (Y 21 i) := by
      show W (W 21 m) = _
      rw [zr, ha, zo _ (by omega) (by omega) (by omega)]
      exact gf _ (by omega)
    show SgR (rV W 20 m) _
    rw [e]
    exact SgR_c (a9 i hi) (fun _ _ => rfl) (fun j hj => p3 m i hx j hj)
theorem ab_gn (hA : Ab Y 9 X) (hX : wf0 X) (hd : day < 84) : gN (gwG Y 10 70 day (Y 35 0)) (Y 10 1) + dN (gwG Y 20 70 day (Y 35 0)) (Y 20 1) (Y 20 1) = (gw X day (Y 70 0) (Y 70 2) (Y 70 3)).1 := by
  have a6 : Y 10 1 = X 11 := hA.2.2.2.1.1
  have a7 : Y 20 1 = X 92 := hA.2.2.2.1.2
  rw [(gw_rows hX).1, a6, a7, gN_q _ (fun i hi => ab_g1 hA hd hi), dN_q (fun i hi => ab_g2 hA hd hi) _ (Nat.le_refl _)]
end AB5
