/-! the class: a state stays in order when lets give way, and when a let is added -/
theorem dL_mem {g : Nat → Bool} {A : Nat → Nat} {n a : Nat} : ∀ u, u ≤ n → a ∈ dL g A n u → ∃ i, i < n ∧ a = A i ∧ g i = false
  | 0, _, h => by cases h
  | u + 1, hu, h => by
    simp only [dL] at h
    cases hg : g (n - (u + 1))
    · rw [hg] at h
      rcases List.mem_cons.mp h with rfl | h
      · exact ⟨n - (u + 1), by omega, rfl, hg⟩
      · exact dL_mem u (by omega) h
    · rw [hg] at h
      exact dL_mem u (by omega) h
theorem vB_lv {v : Nat → Nat} (h : vB v) (w : Nat) : vB (uN v 9 (lvW (v 9) w)) := by
  refine ⟨fun j hj => ?_, ?_, ?_, ?_⟩
  · rw [uN_n _ _ (by omega)]; exact h.1 j hj
  · rw [uN_s]; exact Nat.lt_of_le_of_lt (lvW_le _ _) h.2.1
  · rw [uN_n _ _ (by omega), uN_n _ _ (by omega)]; exact h.2.2.1
  · rw [uN_n _ _ (by omega)]; exact h.2.2.2
theorem gw_far {Y : Nat → Nat → Nat} {b day : Nat} (hw : wS Y b) (g1 : Nat → Bool) {n1 : Nat} (hn1 : n1 = Y (b + 1) 1) {q : Nat} (hq : q < b + 3 ∨ b + 11 ≤ q) : gZ Y (Y (b + 2)) day g1 n1 q = Y q := gZ_far Y _ day g1 n1 (fun i hi e => by
  have hs := hw.1.2.1
  have : b + 3 ≤ Y (b + 2) i ∧ Y (b + 2) i < b + 11 := hw.1.1.1 i (by omega)
  omega)
theorem gw_keep {Y : Nat → Nat → Nat} {b day : Nat} (hw : wS Y b) {g1 g2 : Nat → Bool} {n1 n2 r c s : Nat} (hn1 : n1 = Y (b + 1) 1) (hn2 : n2 = Y (b + 11) 1) {A : Nat → Nat} (hA : lAt (dL g2 (Y (b + 12)) n2 n2) 0 A) (hs : s = (dL g2 (Y (b + 12)) n2 n2).length) (hP : rPA A (b + 11) 12) :
    wS (gwY Y (gZ Y (Y (b + 2)) day g1 n1) b A s r c) b ∧ ∀ q, (q < b ∨ b + 25 ≤ q) → gwY Y (gZ Y (Y (b + 2)) day g1 n1) b A s r c q = Y q := by
  have hs1 := hw.1.2.1
  have hs2 := hw.2.2.1
  have hlen := dL_len g2 (Y (b + 12)) n2 n2
  generalize hZ : gwY Y (gZ Y (Y (b + 2)) day g1 n1) b A s r c = Z
  have zr : Z (b + 12) = A := by rw [← hZ]; exact gwY_r _ _ _ _ _ _ _
  have zs : Z (b + 11) 1 = s := by rw [← hZ, gwY_s, uN_s]
  have zo : ∀ q, q ≠ b → q ≠ b + 11 → q ≠ b + 12 → Z q = gZ Y (Y (b + 2)) day g1 n1 q := fun q h1 h2 h3 => by rw [← hZ]; exact gwY_o _ _ _ _ _ _ _ h1 h2 h3
  have z1 : Z (b + 1) = Y (b + 1) := by rw [zo _ (by omega) (by omega) (by omega)]; exact gw_far hw g1 hn1 (by omega)
  have z2 : Z (b + 2) = Y (b + 2) := by rw [zo _ (by omega) (by omega) (by omega)]; exact gw_far hw g1 hn1 (by omega)
  refine ⟨⟨⟨?_, by rw [z1]; exact hs1, fun i hi => ?_⟩, ?_, by rw [zs]; omega, fun i hi => ?_⟩, fun q hq => ?_⟩
  · show rPA (Z (b + 2)) (b + 1) 8
    rw [z2]; exact hw.1.1
  · rw [z1] at hi
    have hp : b + 3 ≤ Y (b + 2) i ∧ Y (b + 2) i < b + 11 := hw.1.1.1 i (by omega)
    show vB (Z (Z (b + 2) i))
    rw [z2, zo _ (by omega) (by omega) (by omega), gZ_at (n := 8) (i := i) Y _ day g1 hw.1.1.2 n1 (by omega) (by omega)]
    have hv : vB (Y (Y (b + 2) i)) := hw.1.2.2 i hi
    cases g1 i
    · exact hv
    · exact vB_lv hv _
  · show rPA (Z (b + 12)) (b + 11) 12
    rw [zr]; exact hP
  · rw [zs] at hi
    show vB (Z (Z (b + 12) i))
    have hx : (dL g2 (Y (b + 12)) n2 n2)[i]? = some (dL g2 (Y (b + 12)) n2 n2)[i] := List.getElem?_eq_getElem (by omega)
    generalize hxe : (dL g2 (Y (b + 12)) n2 n2)[i] = a at hx
    have ha := hA i a hx
    rw [Nat.zero_add] at ha
    obtain ⟨j, hj, e, -⟩ := dL_mem n2 (Nat.le_refl _) (List.mem_of_getElem? hx)
    have hp : b + 13 ≤ Y (b + 12) j ∧ Y (b + 12) j < b + 25 := hw.2.1.1 j (by omega)
    rw [zr, ha, e, zo _ (by omega) (by omega) (by omega), gw_far hw g1 hn1 (by omega)]
    exact hw.2.2.2 j (by omega)
  · rw [zo q (by omega) (by omega) (by omega)]
    exact gw_far hw g1 hn1 (by omega)
/-- a let laid behind the others of a roll -/
theorem add_keep {Y : Nat → Nat → Nat} {r n o : Nat} (hr : rl r n) (hw : wR Y r n) (hs : Y r 1 < n) (hv : vB (Y o)) : wR (uA (uA Y (Y (r + 1) (Y r 1)) (Y o)) r (uN (Y r) 1 (Y r 1 + 1))) r n ∧ ∀ q, (q < r ∨ r + 2 + n ≤ q) → uA (uA Y (Y (r + 1) (Y r 1)) (Y o)) r (uN (Y r) 1 (Y r 1 + 1)) q = Y q := by
  have hp := hw.1.1 (Y r 1) hs
  have e1 : uA (uA Y (Y (r + 1) (Y r 1)) (Y o)) r (uN (Y r) 1 (Y r 1 + 1)) (r + 1) = Y (r + 1) := by rw [uA_n _ _ (by omega), uA_n _ _ (by omega)]
  refine ⟨⟨?_, by rw [uA_s, uN_s]; omega, fun i hi => ?_⟩, fun q hq => by rw [uA_n _ _ (by omega), uA_n _ _ (by omega)]⟩
  · unfold rP; rw [e1]; exact hw.1
  · rw [uA_s, uN_s] at hi
    have hpi := hw.1.1 i (by omega)
    rw [rV, e1, uA_n _ _ (by omega)]
    by_cases hi2 : i = Y r 1
    · subst hi2; rw [uA_s]; exact hv
    · rw [uA_n _ _ (fun e => hi2 (hw.1.2 i (Y r 1) (by omega) hs e))]
      exact hw.2.2 i (by omega)
