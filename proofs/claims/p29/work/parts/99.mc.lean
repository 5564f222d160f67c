/-! mathematics: single lets and regular lets made -/
theorem gwRel_20 {Y Z : Nat → Nat → Nat} {day : Nat} (h : gwRel Y Z day) : Z 20 1 ≤ Y 20 1 := by
  obtain ⟨A, s, rfl, -, h2, -⟩ := h
  have := dL_len (gwG Y 20 70 day (Y 35 0)) (Y 21) (Y 20 1) (Y 20 1)
  show gwY _ _ 9 _ _ _ _ (9 + 11) 1 ≤ _
  rw [gwY_s, uN_s]
  omega
def msRel (Y Z : Nat → Nat → Nat) (day : Nat) : Prop := ∃ W, gwRel Y W day ∧ Z = msY Y W (W 21) (W 20 1)
theorem msRel_k {Y Z : Nat → Nat → Nat} {day : Nat} (hw : wS Y 9) (hv : vB (Y 70)) (h12 : Y 20 1 < 12) (h : msRel Y Z day) : wS Z 9 ∧ ∀ q, (q < 9 ∨ 34 ≤ q) → Z q = Y q := by
  obtain ⟨W, h1, rfl⟩ := h
  obtain ⟨k1, k2⟩ := gwRel_k hw h1
  have hs := gwRel_20 h1
  have e70 : W 70 = Y 70 := k2 70 (by omega)
  obtain ⟨a1, a2⟩ := add_keep (o := 70) sb9.2.2.1 k1.2 (by show W 20 1 < 12; omega) (by rw [e70]; exact hv)
  have a1' : wR (uA (uA W (W 21 (W 20 1)) (W 70)) 20 (uN (W 20) 1 (W 20 1 + 1))) 20 12 := a1
  have a2' : ∀ q, (q < 20 ∨ 34 ≤ q) → uA (uA W (W 21 (W 20 1)) (W 70)) 20 (uN (W 20) 1 (W 20 1 + 1)) q = W q := fun q hq => a2 q (by omega)
  rw [e70] at a1' a2'
  have hf : ∀ q, q ≠ 9 → msY Y W (W 21) (W 20 1) q = uA (uA W (W 21 (W 20 1)) (Y 70)) 20 (uN (W 20) 1 (W 20 1 + 1)) q := fun q hq => by rw [msY, uA_n _ _ hq]
  generalize msY Y W (W 21) (W 20 1) = Z at hf
  generalize uA (uA W (W 21 (W 20 1)) (Y 70)) 20 (uN (W 20) 1 (W 20 1 + 1)) = V at hf a1' a2'
  have n1 : W 10 1 ≤ 8 := k1.1.2.1
  have n2 : V 20 1 ≤ 12 := a1'.2.1
  refine ⟨⟨⟨?_, ?_, fun i hi => ?_⟩, ?_, ?_, fun i hi => ?_⟩, fun q hq => ?_⟩
  · show rPA (Z 11) 10 8
    rw [hf 11 (by omega), a2' 11 (by omega)]; exact k1.1.1
  · show Z 10 1 ≤ 8
    rw [hf 10 (by omega), a2' 10 (by omega)]; exact n1
  · have hi' : i < Z 10 1 := hi
    rw [hf 10 (by omega), a2' 10 (by omega)] at hi'
    have hp : 12 ≤ W 11 i ∧ W 11 i < 20 := k1.1.1.1 i (by omega)
    show vB (Z (Z 11 i))
    rw [hf 11 (by omega), a2' 11 (by omega), hf _ (by omega), a2' _ (by omega)]
    exact k1.1.2.2 i hi'
  · show rPA (Z 21) 20 12
    rw [hf 21 (by omega)]; exact a1'.1
  · show Z 20 1 ≤ 12
    rw [hf 20 (by omega)]; exact n2
  · have hi' : i < Z 20 1 := hi
    rw [hf 20 (by omega)] at hi'
    have hp : 22 ≤ V 21 i ∧ V 21 i < 34 := a1'.1.1 i (by omega)
    show vB (Z (Z 21 i))
    rw [hf 21 (by omega), hf _ (by omega)]
    exact a1'.2.2 i hi'
  · rw [hf q (by omega), a2' q (by omega)]
    exact k2 q hq
theorem vB_dB {v : Nat → Nat} (h : vB v) : dB v := ⟨h.1, h.2.1⟩
section OPS3
variable {Y Z : Nat → Nat → Nat} {X : Nat → Nat} {SS : Nat → Nat → Nat} {SN : Nat → Nat} {sm ik : Nat}
theorem ms_step (hS : Sd Y 9 X) (h12 : X 92 < 12) {h day f t r te : Nat} (hh : h ≤ 2) (hd : day < 84) (hft : f < t) (ht : t ≤ 24) (hr : 1 ≤ r) (hr2 : r ≤ 9) (hte : te ≤ 19) (hvB : vB (Y 70)) (hv : SgR (Y 70) (mkV h day f t r te (sRent X h day f t) 0 0 0)) (hm : msRel Y Z day) : Sd Z 9 (mkS X h day f t r te) ∧ ∀ q, (q < 9 ∨ 34 ≤ q) → Z q = Y q := by
  obtain ⟨hw, hA, hX⟩ := hS
  have h12' : Y 20 1 < 12 := by
    have : Y 20 1 = X 92 := hA.2.2.2.1.2
    omega
  obtain ⟨k1, k2⟩ := msRel_k hw hvB h12' hm
  refine ⟨?_, k2⟩
  have v0 : Y 70 0 = h := hv.1
  have v2 : Y 70 2 = f := hv.2.2.1 2 (by omega) (by omega)
  have v3 : Y 70 3 = t := hv.2.2.1 3 (by omega) (by omega)
  obtain ⟨W, h1, hZ⟩ := hm
  have hAW := ab_gw hw hA hX.1 hd h1
  rw [v0, v2, v3] at hAW
  have hXW := XG_gw hX (day := day) (a := h) (f := f) (t := t) hd
  have hrow := mkS_rows hX.1 (day := day) (h := h) (f := f) (t := t) (r := r) (te := te) hd hh
  have hNG := gw_NG hX.1 (day := day) (h := h) (f := f) (t := t) hd
  obtain ⟨m0, m1, -, -⟩ := mkS_ok (f := f) hX.1 hX.2.1 h12 hd hh ht (Nat.le_of_lt hft) hr2 hte
  obtain ⟨g1, g2⟩ := gwRel_k hw h1
  have hs := gwRel_20 h1
  generalize (gw X day h f t).2 = X1 at hAW hXW hrow hNG
  have n1 : X1 11 ≤ 8 := hXW.1.2.1
  have hrent : sRent X h day f t ≤ 240000 := rentF_le hX.2.1 hh (by omega) (by omega)
  have hAZ := addS_Ab (Y := Y) g1 (by omega) hAW hrow n1 hv hZ
  exact ⟨k1, hAZ, m0, m1, addS_wf2 n1 hrow hXW.2.2.1 ⟨hh, hft, ht, hr, hr2, hte, hrent⟩ (by show day ≤ 83; omega), addS_NC n1 hrow hXW.2.2.2 hNG⟩
theorem ds_SgR (hA : Ab Y 9 X) {h day f t r te : Nat} (hh : h ≤ 2) (hd : day < 84) : SgR (dsV Y h day f t r te) (mkV h day f t r te (sRent X h day f t) 0 0 0) := by
  refine ⟨rfl, rfl, fun j h2 h7 => ?_, rfl, rfl, rfl, hd⟩
  rcases (show j = 2 ∨ j = 3 ∨ j = 4 ∨ j = 5 ∨ j = 6 by omega) with rfl | rfl | rfl | rfl | rfl
  · rfl
  · rfl
  · rfl
  · rfl
  · show vRn Y h (day % 7) (t - f) 0 = sRent X h day f t
    rw [ab_vRn hA (by omega)]
    rfl
theorem rfs_12 {h day f t r : Nat} (hz : rfs X h day f t r = 0) (hX : wf0 X) : X 92 < 12 := by
  have := hX.2.2
  by_cases e : X 92 = 12
  · rw [rfs, if_pos e] at hz
    cases hz
  · omega
theorem inv_single (hI : Inv Y X SS SN sm ik) {h day f t r te : Nat} (hh : h ≤ 2) (hd : day < 84) (hft : f < t) (ht : t ≤ 24) (hr : 1 ≤ r) (hr2 : r ≤ 9) (hte : te ≤ 19) (hz : rfs X h day f t r = 0) {Y' Y3 : Nat → Nat → Nat} (h1 : scr (uA Y 70 (dsV Y h day f t r te)) Y') (h2 : svRel Y' Y3) (h3 : msRel Y3 Z day) : Inv Z (mkS X h day f t r te) (svS SS sm X) SN (svN sm) ik ∧ ∀ q, 34 ≤ q → Z q = Y3 q := by
  have hvB := dsV_B (Inv_wC hI) (h := h) (day := day) (f := f) (t := t) (r := r) (te := te) hh hd hft ht hr2 hte
  have hI1 := Inv_scr (Inv_70 hI (vB_dB hvB)) h1
  have hI3 := Inv_sv hI1 h2
  have e70 : Y3 70 = dsV Y h day f t r te := (svRel_k h2 hI1.2.1.1 (by have := hI1.2.1.2.1; have := hI1.2.1.2.2.1; omega) (by omega) (by omega) (by omega)).trans ((h1 70 (by omega) (by omega) (by omega)).trans (uA_s _ _ _))
  obtain ⟨s1, s2⟩ := ms_step hI3.1 (rfs_12 hz hI.1.2.2.1) hh hd hft ht hr hr2 hte (by rw [e70]; exact hvB) (by rw [e70]; exact ds_SgR hI.1.2.1 hh hd) h3
  exact ⟨Inv_upd hI3 (fun q q1 q2 => s2 q (by omega)) (by rw [s2 70 (by omega), e70]; exact vB_dB hvB) s1, fun q hq => s2 q (by omega)⟩
theorem ans_single (hI : Inv Y X SS SN sm ik) {h day f t r te : Nat} (hd : day < 84) : cntS (uA Y 70 (dsV Y h day f t r te)) day = (gw X day h f t).1 := by
  have hA : Ab (uA Y 70 (dsV Y h day f t r te)) 9 X := (Sd_same (fun q h1 h2 => uA_n _ _ (by omega)) hI.1).2.1
  have := ab_gn hA hI.1.2.2.1 hd
  rw [uA_s] at this
  exact this
/-! regular lets -/
def AddR (X1 X' w : Nat → Nat) (days : Nat) : Prop := X' 11 = X1 11 + 1 ∧ (∀ j, j ≠ 8 → j ≠ 11 → (j < 12 + 10 * X1 11 ∨ 12 + 10 * X1 11 + 10 ≤ j) → X' j = X1 j) ∧ (∀ j, j < 10 → X' (12 + 10 * X1 11 + j) = w j) ∧ X' 8 = X1 8 + days * w 6
theorem lt10 {P : Nat → Prop} (h0 : P 0) (h1 : P 1) (h2 : P 2) (h3 : P 3) (h4 : P 4) (h5 : P 5) (h6 : P 6) (h7 : P 7) (h8 : P 8) (h9 : P 9) : ∀ j, j < 10 → P j
  | 0, _ => h0 | 1, _ => h1 | 2, _ => h2 | 3, _ => h3 | 4, _ => h4 | 5, _ => h5 | 6, _ => h6 | 7, _ => h7 | 8, _ => h8 | 9, _ => h9
  | n + 10, h => by omega
theorem mkR0_rows {X X1 : Nat → Nat} (p6 : ∀ j, j < 8 → X1 j = X j) {days off h wd f t r te : Nat} (hh : h ≤ 2) : AddR X1 (mkR0 X1 days off h wd f t r te) (mkV h wd f t r te (rRent X h wd f t) (X 3) (X 4) off) days := by
  unfold mkR0
  dsimp only
  obtain ⟨l0, l1, l2, l3, l4, l5⟩ := @lay_at X1 (12 + 10 * X1 11) h wd f t r te
  have hr : rRent (layX X1 (12 + 10 * X1 11) h wd f t r te) h wd f t = rRent X h wd f t := by
    unfold rRent rentF
    rw [lay_n (k := 1) (by omega), lay_n (k := 5 + h) (by omega), lay_n (k := 2) (by omega), p6 _ (by omega), p6 _ (by omega), p6 _ (by omega)]
  rw [hr]
  have hn : ∀ k, (k < 12 + 10 * X1 11 ∨ 12 + 10 * X1 11 + 6 ≤ k) → layX X1 (12 + 10 * X1 11) h wd f t r te k = X1 k := fun k hk => lay_n hk
  generalize layX X1 (12 + 10 * X1 11) h wd f t r te = X2 at l0 l1 l2 l3 l4 l5 hn
  have h11 := hn 11 (by omega)
  have h8 := hn 8 (by omega)
  have h3 := (hn 3 (by omega)).trans (p6 3 (by omega))
  have h4 := (hn 4 (by omega)).trans (p6 4 (by omega))
  generalize hX3 : uN X2 (12 + 10 * X1 11 + 6) (rRent X h wd f t) = X3
  have e3 : ∀ k, k ≠ 12 + 10 * X1 11 + 6 → X3 k = X2 k := fun k hk => by rw [← hX3]; exact uN_n _ _ hk
  have e3s : X3 (12 + 10 * X1 11 + 6) = rRent X h wd f t := by rw [← hX3]; exact uN_s _ _ _
  generalize hX4 : uN X3 (12 + 10 * X1 11 + 7) (X3 3) = X4
  have e4 : ∀ k, k ≠ 12 + 10 * X1 11 + 7 → X4 k = X3 k := fun k hk => by rw [← hX4]; exact uN_n _ _ hk
  have e4s : X4 (12 + 10 * X1 11 + 7) = X 3 := by rw [← hX4, uN_s, e3 3 (by omega)]; exact h3
  generalize hX5 : uN X4 (12 + 10 * X1 11 + 8) (X4 4) = X5
  have e5 : ∀ k, k ≠ 12 + 10 * X1 11 + 8 → X5 k = X4 k := fun k hk => by rw [← hX5]; exact uN_n _ _ hk
  have e5s : X5 (12 + 10 * X1 11 + 8) = X 4 := by rw [← hX5, uN_s, e4 4 (by omega), e3 4 (by omega)]; exact h4
  generalize hX6 : uN X5 (12 + 10 * X1 11 + 9) off = X6
  have e6 : ∀ k, k ≠ 12 + 10 * X1 11 + 9 → X6 k = X5 k := fun k hk => by rw [← hX6]; exact uN_n _ _ hk
  have e6s : X6 (12 + 10 * X1 11 + 9) = off := by rw [← hX6]; exact uN_s _ _ _
  have e66 : X6 (12 + 10 * X1 11 + 6) = rRent X h wd f t := by rw [e6 _ (by omega), e5 _ (by omega), e4 _ (by omega)]; exact e3s
  have e68 : X6 8 = X1 8 := by rw [e6 _ (by omega), e5 _ (by omega), e4 _ (by omega), e3 _ (by omega)]; exact h8
  have e611 : X6 11 = X1 11 := by rw [e6 _ (by omega), e5 _ (by omega), e4 _ (by omega), e3 _ (by omega)]; exact h11
  have low : ∀ j, j < 6 → X6 (12 + 10 * X1 11 + j) = X2 (12 + 10 * X1 11 + j) := fun j hj => by rw [e6 _ (by omega), e5 _ (by omega), e4 _ (by omega), e3 _ (by omega)]
  refine ⟨?_, fun j hj8 hj11 hj => ?_, ?_, ?_⟩
  · rw [uN_s, uN_n _ _ (by omega), e611]
  · rw [uN_n _ _ hj11, uN_n _ _ hj8, e6 _ (by omega), e5 _ (by omega), e4 _ (by omega), e3 _ (by omega), hn _ (by omega)]
  · have e : ∀ j, uN (uN X6 8 (X6 8 + days * X6 (12 + 10 * X1 11 + 6))) 11 (uN X6 8 (X6 8 + days * X6 (12 + 10 * X1 11 + 6)) 11 + 1) (12 + 10 * X1 11 + j) = X6 (12 + 10 * X1 11 + j) := fun j => by
      rw [uN_n _ _ (by omega), uN_n _ _ (by omega)]
    refine lt10 ?_ ?_ ?_ ?_ ?_ ?_ ?_ ?_ ?_ ?_
    · rw [e 0, low 0 (by omega)]; exact l0
    · rw [e 1, low 1 (by omega)]; exact l1
    · rw [e 2, low 2 (by omega)]; exact l2
    · rw [e 3, low 3 (by omega)]; exact l3
    · rw [e 4, low 4 (by omega)]; exact l4
    · rw [e 5, low 5 (by omega)]; exact l5
    · rw [e 6]; exact e66
    · rw [e 7, e6 _ (by omega), e5 _ (by omega)]; exact e4s
    · rw [e 8, e6 _ (by omega)]; exact e5s
    · rw [e 9]; exact e6s
  · rw [uN_n _ _ (by omega), uN_s, e68, e66]
    rfl
variable {X' w : Nat → Nat} {days : Nat}
theorem addR_lk (hX : X 11 < 8) (h : AddR X X' w days) (d : Nat) : (lk X' d).map (enx X') = (lkR X d (X 11)).map (enx X) ++ ((if stdR X' (X 11) d = true then [(w 0, w 2, w 3)] else []) ++ (lkS X d (X 92)).map (enx X)) := by
  obtain ⟨h1, h2, h3, -⟩ := h
  rw [lk, List.map_append, h1, h2 92 (by omega) (by omega) (by omega), lkR, List.map_append, lkR_same (X := X) (fun i hi j hj => h2 _ (by omega) (by omega) (by omega)) _ (Nat.le_refl _), lkS_same (X := X) (fun i hi j hj => h2 _ (by omega) (by omega) (by omega)) _ (Nat.le_refl _), List.append_assoc]
  congr 2
  have e0 : X' (12 + 10 * X 11) = w 0 := h3 0 (by omega)
  cases hs : stdR X' (X 11) d
  · rfl
  · show [enx X' (12 + 10 * X 11)] = _
    unfold enx
    rw [e0, h3 2 (by omega), h3 3 (by omega)]
    rfl
theorem addR_NC (hX : X 11 < 8) (h : AddR X X' w days) (hN : NC X) (hG : ∀ d, d < 84 → stdR X' (X 11) d = true → NG X (w 0, w 2, w 3) d) : NC X' := fun d hd => by
  rw [h.2.1 0 (by omega) (by omega) (by omega), addR_lk hX h d]
  have hp := hN d hd
  rw [lk, List.map_append] at hp
  by_cases hs : stdR X' (X 11) d = true
  · rw [if_pos hs]
    show List.Pairwise _ (_ ++ (w 0, w 2, w 3) :: _)
    rw [List.pairwise_middle (fun q => sepE_sym q), List.pairwise_cons]
    refine ⟨fun e he => sepE_sym (ncl_sep (hG d hd hs e ?_)), hp⟩
    rw [lk, List.map_append]
    exact he
  · rw [if_neg hs, List.nil_append]
    exact hp
theorem addR_wf (hX : X 11 < 8) (h : AddR X X' w days) (h0 : wf0 X) (h1 : wf1 X) (h2 : wf2 X) (hw : okW w) (h6 : w 1 ≤ 6) (h7 : w 7 ≤ w 8) (h8 : w 8 ≤ 11) (h9 : w 9 < 4096) : wf0 X' ∧ wf1 X' ∧ wf2 X' := by
  obtain ⟨a1, a2, a3, -⟩ := h
  obtain ⟨w0, w2, w3, w4, w5, w51, w61⟩ := hw
  refine ⟨⟨fun j q1 q2 q3 q4 => ?_, by rw [a1]; omega, by rw [a2 92 (by omega) (by omega) (by omega)]; exact h0.2.2⟩, wf1_low h1 (fun j hj => a2 j (by omega) (by omega) (by omega)), fun i hi => ?_, fun i hi => ?_⟩
  · by_cases e11 : j = 11
    · subst e11; rw [a1]; omega
    · by_cases hj : 12 + 10 * X 11 ≤ j ∧ j < 12 + 10 * X 11 + 10
      · obtain ⟨k, hk, rfl⟩ : ∃ k, k < 10 ∧ j = 12 + 10 * X 11 + k := ⟨j - (12 + 10 * X 11), by omega, by omega⟩
        rw [a3 k hk]
        revert k
        have : ∀ k, k < 10 → w k < 1048576 := lt10 (by omega) (by omega) (by omega) (by omega) (by omega) (by omega) (by omega) (by omega) (by omega) (by omega)
        intro k hk _ _ _ _ _ _
        exact this k hk
      · rw [a2 j (by omega) (by omega) (by omega)]
        exact h0.1 j q1 q2 q3 q4
  · rw [a1] at hi
    by_cases hi2 : i = X 11
    · subst hi2
      have e0 : X' (12 + 10 * X 11) = w 0 := a3 0 (by omega)
      unfold lOK
      rw [e0, a3 1 (by omega), a3 2 (by omega), a3 3 (by omega), a3 4 (by omega), a3 5 (by omega), a3 6 (by omega), a3 7 (by omega), a3 8 (by omega), a3 9 (by omega)]
      exact ⟨⟨w0, w2, w3, w4, w5, w51, w61⟩, h6, h7, h8, h9⟩
    · have e : ∀ j, j < 10 → X' (12 + 10 * i + j) = X (12 + 10 * i + j) := fun j hj => a2 _ (by omega) (by omega) (by omega)
      have e0 : X' (12 + 10 * i) = X (12 + 10 * i) := e 0 (by omega)
      unfold lOK
      rw [e0, e 1 (by omega), e 2 (by omega), e 3 (by omega), e 4 (by omega), e 5 (by omega), e 6 (by omega), e 7 (by omega), e 8 (by omega), e 9 (by omega)]
      exact h2.1 i (by omega)
  · rw [a2 92 (by omega) (by omega) (by omega)] at hi
    have e : ∀ j, j < 7 → X' (93 + 7 * i + j) = X (93 + 7 * i + j) := fun j hj => a2 _ (by omega) (by omega) (by omega)
    have e0 : X' (93 + 7 * i) = X (93 + 7 * i) := e 0 (by omega)
    unfold lOK
    rw [e0, e 1 (by omega), e 2 (by omega), e 3 (by omega), e 4 (by omega), e 5 (by omega), e 6 (by omega)]
    exact h2.2 i hi
theorem addR_Ab {W : Nat → Nat → Nat} (hw9 : wS W 9) (h8 : W 10 1 < 8) (hA : Ab W 9 X) (h : AddR X X' w days) (hv : RgR (W 70) w) (hd : days = bc12 (W 70 9)) : Ab (mrY W) 9 X' ∧ rP (mrY W) 10 8 ∧ rP (mrY W) 20 12 ∧ ∀ q, (q < 9 ∨ 34 ≤ q) → mrY W q = W q := by
  obtain ⟨a1, a2, a3, a4⟩ := h
  obtain ⟨b1, b2, ⟨b3, b4, b5⟩, ⟨b6, b7⟩, b8, b9⟩ := hA
  have b6 : W 10 1 = X 11 := b6
  have b7 : W 20 1 = X 92 := b7
  have hs2 : W 20 1 ≤ 12 := hw9.2.2.1
  have hp : 12 ≤ W 11 (W 10 1) ∧ W 11 (W 10 1) < 20 := hw9.1.1.1 _ (by omega)
  have z9 : mrY W 9 = uN (W 9) 4 (W 9 4 + W 70 6 * bc12 (W 70 9)) := by rw [mrY, uA_s]
  have z10 : mrY W 10 = uN (W 10) 1 (W 10 1 + 1) := by rw [mrY, uA_n _ _ (by omega), uA_s]
  have zn : mrY W (W 11 (W 10 1)) = W 70 := by rw [mrY, uA_n _ _ (by omega), uA_n _ _ (by omega), uA_s]
  have zo : ∀ q, q ≠ 9 → q ≠ 10 → q ≠ W 11 (W 10 1) → mrY W q = W q := fun q h1 h2 h3 => by rw [mrY, uA_n _ _ h1, uA_n _ _ h2, uA_n _ _ h3]
  generalize mrY W = Z at z9 z10 zn zo
  have z6 : W 70 6 = w 6 := hv.1 6 (by omega)
  refine ⟨⟨fun j hj => ?_, fun j hj => ?_, ⟨?_, ?_, ?_⟩, ⟨?_, ?_⟩, fun i hi => ?_, fun i hi => ?_⟩, rP_e (zo _ (by omega) (by omega) (by omega)) hw9.1.1, rP_e (zo _ (by omega) (by omega) (by omega)) hw9.2.1, fun q hq => zo q (by omega) (by omega) (by omega)⟩
  · rw [zo _ (by omega) (by omega) (by omega), a2 j (by omega) (by omega) (by omega)]; exact b1 j hj
  · rw [zo _ (by omega) (by omega) (by omega), a2 _ (by omega) (by omega) (by omega)]; exact b2 j hj
  · rw [z9, uN_s, a4, b3, z6, hd, Nat.mul_comm]
  · rw [z9, uN_n _ _ (by omega), a2 9 (by omega) (by omega) (by omega)]; exact b4
  · rw [z9, uN_n _ _ (by omega), a2 10 (by omega) (by omega) (by omega)]; exact b5
  · show Z 10 1 = _
    rw [z10, uN_s, a1, b6]
  · show Z 20 1 = _
    rw [zo _ (by omega) (by omega) (by omega), a2 92 (by omega) (by omega) (by omega)]; exact b7
  · rw [a1] at hi
    have hq : 12 ≤ W 11 i ∧ W 11 i < 20 := hw9.1.1.1 i (by omega)
    show RgR (Z (Z 11 i)) _
    rw [zo 11 (by omega) (by omega) (by omega)]
    by_cases hi2 : i = X 11
    · subst hi2
      rw [← b6, zn]
      refine RgR_c hv (fun _ _ => rfl) (fun j hj => ?_)
      rw [b6]
      exact a3 j hj
    · rw [zo (W 11 i) (by omega) (by omega) (fun e => hi2 ((hw9.1.1.2 i (W 10 1) (by omega) (by omega) e).trans b6))]
      exact RgR_c (b8 i (by omega)) (fun _ _ => rfl) (fun j hj => a2 _ (by omega) (by omega) (by omega))
  · rw [a2 92 (by omega) (by omega) (by omega)] at hi
    have hq : 22 ≤ W 21 i ∧ W 21 i < 34 := hw9.2.1.1 i (by omega)
    show SgR (Z (Z 21 i)) _
    rw [zo 21 (by omega) (by omega) (by omega), zo _ (by omega) (by omega) (by omega)]
    exact SgR_c (b9 i hi) (fun _ _ => rfl) (fun j hj => a2 _ (by omega) (by omega) (by omega))
end OPS3
