/-! mathematics: days off, lets that end, single lets made -/
theorem rB_rmR {X : Nat → Nat} (h : rB X) (h8 : X 11 ≤ 8) (n : Nat) : rB (rmR X n) := fun j h1 h2 h3 h4 => by
  unfold rmR
  split
  · omega
  · split
    · exact h _ (by omega) (by omega) (by omega) (by omega)
    · split
      · omega
      · exact h j h1 h2 h3 h4
theorem erz_at {n i m k : Nat} (h : ((List.range n).eraseIdx i)[m]? = some k) : k = (if m < i then m else m + 1) ∧ k < n := by
  rw [List.getElem?_eraseIdx] at h
  split at h
  · obtain ⟨h1, h2⟩ := rng_at h
    rw [if_pos (by assumption)]
    omega
  · obtain ⟨h1, h2⟩ := rng_at h
    rw [if_neg (by assumption)]
    omega
section OPS2
variable {Y Z : Nat → Nat → Nat} {X : Nat → Nat} {SS : Nat → Nat → Nat} {SN : Nat → Nat} {sm ik : Nat}
theorem of_at (X : Nat → Nat) (i d : Nat) : (∀ j, j ≠ 9 → j ≠ 12 + 10 * i + 9 → ofX X i d j = X j) ∧ ofX X i d (12 + 10 * i + 9) = X (12 + 10 * i + 9) ||| 2 ^ (d / 7) ∧ ofX X i d 9 = X 9 + X (12 + 10 * i + 6) := by
  unfold ofX
  refine ⟨fun j h1 h2 => by rw [uN_n _ _ h1, uN_n _ _ h2], by rw [uN_n _ _ (by omega), uN_s], ?_⟩
  rw [uN_s, uN_n _ _ (by omega), uN_n _ _ (by omega)]
theorem XG_of (h : XG X) {i d : Nat} (hi : i < X 11) (hd : d < 84) : XG (ofX X i d) := by
  obtain ⟨⟨hB, n1, n2⟩, x1, x2, x3⟩ := h
  obtain ⟨o1, o2, o3⟩ := of_at X i d
  have e11 := o1 11 (by omega) (by omega)
  have e92 := o1 92 (by omega) (by omega)
  have hs : SubX X (ofX X i d) := by
    refine ⟨o1 0 (by omega) (by omega), List.range (X 11), List.range (X 92), ⟨List.Sublist.refl _, by rw [e11, List.length_range], fun m k hm => ?_⟩, List.Sublist.refl _, by rw [e92, List.length_range], fun m k hm j hj => ?_⟩
    · obtain ⟨rfl, hm⟩ := rng_at hm
      refine ⟨fun j hj => o1 _ (by omega) (by omega), ?_, fun k hk => ?_⟩
      · by_cases e : m = i
        · subst e; rw [o2]; exact fun q => or_lt q (by omega)
        · rw [o1 _ (by omega) (by omega)]; exact id
      · by_cases e : m = i
        · subst e; rw [o2]; exact or_0
        · rw [o1 _ (by omega) (by omega)]; exact id
    · obtain ⟨rfl, hm⟩ := rng_at hm
      exact o1 _ (by omega) (by omega)
  refine ⟨⟨?_, by rw [e11]; exact n1, by rw [e92]; exact n2⟩, wf1_low x1 (fun j hj => o1 j (by omega) (by omega)), sub_wf2 hs x2, sub_NC hs x3⟩
  have h9 : X (12 + 10 * i + 9) ||| 2 ^ (d / 7) < 1048576 := or_b (hB _ (by omega) (by omega) (by omega) (by omega)) (by omega)
  exact rB_uN (rB_uN hB (Or.inl h9)) (by omega)
theorem inv_off (hI : Inv Y X SS SN sm ik) {i d : Nat} (hi : i < X 11) (hd : d < 84) {Y3 : Nat → Nat → Nat} (hS : svRel Y Y3) (ha : Y 11 = Y3 11) : Inv (ofY Y3 (Y 11 i) d) (ofX X i d) (svS SS sm X) SN (svN sm) ik ∧ ∀ q, 34 ≤ q → ofY Y3 (Y 11 i) d q = Y3 q := by
  have h3 := Inv_sv hI hS
  rw [ha]
  obtain ⟨⟨hw, ⟨a1, a2, a3, ⟨a4, a5⟩, a6, a7⟩, hX⟩, -, -, h70⟩ := id h3
  have n1 : X 11 ≤ 8 := hX.1.2.1
  have n2 : X 92 ≤ 12 := hX.1.2.2
  obtain ⟨o1, o2, o3⟩ := of_at X i d
  have hp : 12 ≤ Y3 11 i ∧ Y3 11 i < 20 := hw.1.1.1 i (by omega)
  have z9 : ofY Y3 (Y3 11 i) d 9 = uN (Y3 9) 5 (Y3 9 5 + Y3 (Y3 11 i) 6) := uA_s _ _ _
  have za : ofY Y3 (Y3 11 i) d (Y3 11 i) = uN (Y3 (Y3 11 i)) 9 (lvW (Y3 (Y3 11 i) 9) (d / 7)) := by rw [ofY, uA_n _ _ (by omega), uA_s]
  have zo : ∀ q, q ≠ 9 → q ≠ Y3 11 i → ofY Y3 (Y3 11 i) d q = Y3 q := fun q h1 h2 => by rw [ofY, uA_n _ _ h1, uA_n _ _ h2]
  have r6 : Y3 (Y3 11 i) 6 = X (12 + 10 * i + 6) := (a6 i hi).1 6 (by omega)
  generalize ofY Y3 (Y3 11 i) d = Z at z9 za zo
  refine ⟨?_, fun q hq => zo q (by omega) (by omega)⟩
  refine Inv_upd h3 (fun q h1 h2 => zo q (by omega) (by omega)) (by rw [zo _ (by omega) (by omega)]; exact h70) (Sd_of (rP_e (zo _ (by omega) (by omega)) hw.1.1) (rP_e (zo _ (by omega) (by omega)) hw.2.1) ⟨fun j hj => ?_, fun j hj => ?_, ⟨?_, ?_, ?_⟩, ⟨?_, ?_⟩, fun m hm => ?_, fun m hm => ?_⟩ (XG_of hX hi hd))
  · rw [zo _ (by omega) (by omega), o1 _ (by omega) (by omega)]; exact a1 j hj
  · rw [zo _ (by omega) (by omega), o1 _ (by omega) (by omega)]; exact a2 j hj
  · rw [z9, uN_n _ _ (by omega), o1 8 (by omega) (by omega)]; exact a3.1
  · rw [z9, uN_s, o3, a3.2.1, r6]
  · rw [z9, uN_n _ _ (by omega), o1 10 (by omega) (by omega)]; exact a3.2.2
  · rw [zo _ (by omega) (by omega), o1 11 (by omega) (by omega)]; exact a4
  · rw [zo _ (by omega) (by omega), o1 92 (by omega) (by omega)]; exact a5
  · rw [o1 11 (by omega) (by omega)] at hm
    have hq : 12 ≤ Y3 11 m ∧ Y3 11 m < 20 := hw.1.1.1 m (by omega)
    show RgR (Z (Z 11 m)) _
    rw [zo 11 (by omega) (by omega)]
    by_cases e : m = i
    · subst e
      rw [za]
      refine RgR_c (RgR_lv (a6 m hi) (a := d / 7) (by omega)) (fun _ _ => rfl) (fun j hj => ?_)
      show ofX X m d (12 + 10 * m + j) = uN (rg X m) 9 (rg X m 9 ||| 2 ^ (d / 7)) j
      by_cases h9 : j = 9
      · subst h9; rw [o2, uN_s]; rfl
      · rw [uN_n _ _ h9]; exact o1 _ (by omega) (by omega)
    · rw [zo (Y3 11 m) (by omega) (fun q => e (hw.1.1.2 m i (by omega) (by omega) q))]
      exact RgR_c (a6 m hm) (fun _ _ => rfl) (fun j hj => o1 _ (by omega) (by omega))
  · rw [o1 92 (by omega) (by omega)] at hm
    have hq : 22 ≤ Y3 21 m ∧ Y3 21 m < 34 := hw.2.1.1 m (by omega)
    show SgR (Z (Z 21 m)) _
    rw [zo 21 (by omega) (by omega), zo _ (by omega) (by omega)]
    exact SgR_c (a7 m hm) (fun _ _ => rfl) (fun j hj => o1 _ (by omega) (by omega))
theorem rmR_at (X : Nat → Nat) {i : Nat} (h8 : X 11 ≤ 8) : rmR X i 11 = X 11 - 1 ∧ (∀ j, (j < 11 ∨ 92 ≤ j) → rmR X i j = X j) ∧ ∀ m, m + 1 < X 11 → ∀ j, j < 10 → rmR X i (12 + 10 * m + j) = X (12 + 10 * (if m < i then m else m + 1) + j) := by
  unfold rmR
  refine ⟨rfl, fun j hj => ?_, fun m hm j hj => ?_⟩
  · rw [if_neg (by omega), if_neg (by omega), if_neg (by omega)]
  · rw [if_neg (by omega)]
    by_cases h : m < i
    · rw [if_neg (by omega), if_neg (by omega), if_pos h]
    · rw [if_pos (by omega), if_neg h]
      congr 1
      omega
theorem rmS_at (X : Nat → Nat) {i : Nat} : rmS X i 92 = X 92 - 1 ∧ (∀ j, j < 92 → rmS X i j = X j) ∧ ∀ m, m + 1 < X 92 → ∀ j, j < 7 → rmS X i (93 + 7 * m + j) = X (93 + 7 * (if m < i then m else m + 1) + j) := by
  unfold rmS
  refine ⟨rfl, fun j hj => ?_, fun m hm j hj => ?_⟩
  · rw [if_neg (by omega), if_neg (by omega), if_neg (by omega)]
  · rw [if_neg (by omega)]
    by_cases h : m < i
    · rw [if_neg (by omega), if_neg (by omega), if_pos h]
    · rw [if_pos (by omega), if_neg h]
      congr 1
      omega
theorem rmA_at {A : Nat → Nat} {i s m : Nat} (hm : m + 1 < s) : rmA A i s m = A (if m < i then m else m + 1) := by
  rw [rmA_P]
  unfold rmP
  rw [if_neg (by omega)]
  by_cases h : m < i
  · rw [if_neg (by omega), if_pos h]
  · rw [if_pos (by omega), if_neg h]
theorem XG_cx (h : XG X) {b : Bool} {i : Nat} (hi : i < cxC X b) : XG (cxX X b i) := by
  obtain ⟨⟨hB, n1, n2⟩, x1, x2, x3⟩ := h
  cases b
  · have hi : i < X 92 := hi
    obtain ⟨o1, o2, o3⟩ := rmS_at X (i := i)
    have hrB := rB_rmS hB n2 i
    show XG (uN (rmS X i) 9 (rmS X i 9 + cxB X false i))
    generalize rmS X i = V at o1 o2 o3 hrB
    have hs : SubX X (uN V 9 (V 9 + cxB X false i)) := by
      refine ⟨by rw [uN_n _ _ (by omega)]; exact o2 0 (by omega), List.range (X 11), (List.range (X 92)).eraseIdx i, ⟨List.Sublist.refl _, by rw [uN_n _ _ (by omega), o2 11 (by omega), List.length_range], fun m k hm => ?_⟩, List.eraseIdx_sublist _ _, by rw [uN_n _ _ (by omega), o1, List.length_eraseIdx, List.length_range, if_pos hi], fun m k hm j hj => ?_⟩
      · obtain ⟨rfl, hm⟩ := rng_at hm
        have e : ∀ j, j < 10 → uN V 9 (V 9 + cxB X false i) (12 + 10 * m + j) = X (12 + 10 * m + j) := fun j hj => by rw [uN_n _ _ (by omega)]; exact o2 _ (by omega)
        refine ⟨fun j hj => e j (by omega), ?_, fun k hk => ?_⟩
        · rw [e 9 (by omega)]; exact id
        · rw [e 9 (by omega)]; exact id
      · obtain ⟨e, hk⟩ := erz_at hm
        rw [uN_n _ _ (by omega), o3 m (by split at e <;> omega) j hj, ← e]
    exact ⟨⟨rB_uN hrB (by omega), by rw [uN_n _ _ (by omega), o2 11 (by omega)]; exact n1, by rw [uN_n _ _ (by omega), o1]; omega⟩, wf1_low x1 (fun j hj => by rw [uN_n _ _ (by omega)]; exact o2 j (by omega)), sub_wf2 hs x2, sub_NC hs x3⟩
  · have hi : i < X 11 := hi
    obtain ⟨o1, o2, o3⟩ := rmR_at X (i := i) n1
    have hrB := rB_rmR hB n1 i
    show XG (uN (rmR X i) 9 (rmR X i 9 + cxB X true i))
    generalize rmR X i = V at o1 o2 o3 hrB
    have hs : SubX X (uN V 9 (V 9 + cxB X true i)) := by
      refine ⟨by rw [uN_n _ _ (by omega)]; exact o2 0 (by omega), (List.range (X 11)).eraseIdx i, List.range (X 92), ⟨List.eraseIdx_sublist _ _, by rw [uN_n _ _ (by omega), o1, List.length_eraseIdx, List.length_range, if_pos hi], fun m k hm => ?_⟩, List.Sublist.refl _, by rw [uN_n _ _ (by omega), o2 92 (by omega), List.length_range], fun m k hm j hj => ?_⟩
      · obtain ⟨e, hk⟩ := erz_at hm
        have er : ∀ j, j < 10 → uN V 9 (V 9 + cxB X true i) (12 + 10 * m + j) = X (12 + 10 * k + j) := fun j hj => by
          rw [uN_n _ _ (by omega), o3 m (by split at e <;> omega) j hj, ← e]
        refine ⟨fun j hj => er j (by omega), ?_, fun k2 hk2 => ?_⟩
        · rw [er 9 (by omega)]; exact id
        · rw [er 9 (by omega)]; exact id
      · obtain ⟨rfl, hm⟩ := rng_at hm
        rw [uN_n _ _ (by omega)]
        exact o2 _ (by omega)
    exact ⟨⟨rB_uN hrB (by omega), by rw [uN_n _ _ (by omega), o1]; omega, by rw [uN_n _ _ (by omega), o2 92 (by omega)]; exact n2⟩, wf1_low x1 (fun j hj => by rw [uN_n _ _ (by omega)]; exact o2 j (by omega)), sub_wf2 hs x2, sub_NC hs x3⟩
theorem cx_ans (hA : Ab Y 9 X) (b : Bool) {i : Nat} (hi : i < cxC X b) : Y (Y (rlN b + 1) i) 6 * bc12 (Y (Y (rlN b + 1) i) 9) = cxB X b i ∧ Y (rlN b) 1 = cxC X b := by
  obtain ⟨a1, a2, a3, ⟨a4, a5⟩, a6, a7⟩ := hA
  cases b
  · have hr : SgR (Y (Y 21 i)) (sg X i) := a7 i hi
    refine ⟨?_, a5⟩
    show Y (Y 21 i) 6 * bc12 (Y (Y 21 i) 9) = X (93 + 7 * i + 6)
    rw [bc_S hr, Nat.mul_one]
    exact hr.2.2.1 6 (by omega) (by omega)
  · have hr : RgR (Y (Y 11 i)) (rg X i) := a6 i hi
    refine ⟨?_, a4⟩
    show Y (Y 11 i) 6 * bc12 (Y (Y 11 i) 9) = dcnt X i 84 * X (12 + 10 * i + 6)
    rw [← dcnt_R hr, Nat.mul_comm]
    congr 1
    exact hr.1 6 (by omega)
theorem inv_cancel (hI : Inv Y X SS SN sm ik) {b : Bool} {i : Nat} (hi : i < cxC X b) {Y3 : Nat → Nat → Nat} (hS : svRel Y Y3) : Inv (ccY Y3 (rlN b) i) (cxX X b i) (svS SS sm X) SN (svN sm) ik := by
  have h3 := Inv_sv hI hS
  obtain ⟨⟨hw, hA, hX⟩, -, -, h70⟩ := id h3
  obtain ⟨q1, -⟩ := cx_ans hA b hi
  have hXG := XG_cx hX hi
  obtain ⟨a1, a2, ⟨a3, a31, a32⟩, ⟨a4, a5⟩, a6, a7⟩ := id hA
  have n1 : X 11 ≤ 8 := hX.1.2.1
  have n2 : X 92 ≤ 12 := hX.1.2.2
  have a4 : Y3 10 1 = X 11 := a4
  have a5 : Y3 20 1 = X 92 := a5
  have h10 : rlN b = 10 ∨ rlN b = 20 := by cases b <;> simp [rlN]
  have z9 : ccY Y3 (rlN b) i 9 = uN (Y3 9) 5 (Y3 9 5 + cxB X b i) := by
    rw [ccY, uA_n _ _ (by omega), uA_n _ _ (by omega), uA_s, q1]
  have zr : ccY Y3 (rlN b) i (rlN b) = uN (Y3 (rlN b)) 1 (Y3 (rlN b) 1 - 1) := uA_s _ _ _
  have zp : ccY Y3 (rlN b) i (rlN b + 1) = rmA (Y3 (rlN b + 1)) i (Y3 (rlN b) 1) := by rw [ccY, uA_n _ _ (by omega), uA_s]
  have zo : ∀ q, q ≠ 9 → q ≠ rlN b → q ≠ rlN b + 1 → ccY Y3 (rlN b) i q = Y3 q := fun q h1 h2 h3 => by rw [ccY, uA_n _ _ h2, uA_n _ _ h3, uA_n _ _ h1]
  generalize ccY Y3 (rlN b) i = Z at z9 zr zp zo
  cases b
  · have hi : i < X 92 := hi
    have z9 : Z 9 = uN (Y3 9) 5 (Y3 9 5 + cxB X false i) := z9
    have zr : Z 20 = uN (Y3 20) 1 (Y3 20 1 - 1) := zr
    have zp : Z 21 = rmA (Y3 21) i (Y3 20 1) := zp
    have zo : ∀ q, q ≠ 9 → q ≠ 20 → q ≠ 21 → Z q = Y3 q := zo
    obtain ⟨o1, o2, o3⟩ := rmS_at X (i := i)
    have ex : cxX X false i = uN (rmS X i) 9 (rmS X i 9 + cxB X false i) := rfl
    rw [ex] at hXG ⊢
    have hP2 : rP Z 20 12 := by
      show rPA (Z 21) 20 12
      rw [zp]
      exact rPA_rm hw.2.1 (by omega) (by omega)
    generalize rmS X i = V at o1 o2 o3 hXG
    refine Inv_upd h3 (fun q h1 h2 => zo q (by omega) (by omega) (by omega)) (by rw [zo _ (by omega) (by omega) (by omega)]; exact h70) (Sd_of (rP_e (zo _ (by omega) (by omega) (by omega)) hw.1.1) hP2 ⟨fun j hj => ?_, fun j hj => ?_, ⟨?_, ?_, ?_⟩, ⟨?_, ?_⟩, fun m hm => ?_, fun m hm => ?_⟩ hXG)
    · rw [zo _ (by omega) (by omega) (by omega), uN_n _ _ (by omega), o2 _ (by omega)]; exact a1 j hj
    · rw [zo _ (by omega) (by omega) (by omega), uN_n _ _ (by omega), o2 _ (by omega)]; exact a2 j hj
    · rw [z9, uN_n _ _ (by omega), uN_n _ _ (by omega), o2 _ (by omega)]; exact a3
    · rw [z9, uN_s, uN_s, o2 _ (by omega), a31]
    · rw [z9, uN_n _ _ (by omega), uN_n _ _ (by omega), o2 _ (by omega)]; exact a32
    · rw [zo _ (by omega) (by omega) (by omega), uN_n _ _ (by omega), o2 _ (by omega)]; exact a4
    · show Z 20 1 = _
      rw [zr, uN_s, uN_n _ _ (by omega), o1, a5]
    · rw [uN_n _ _ (by omega), o2 _ (by omega)] at hm
      have hq : 12 ≤ Y3 11 m ∧ Y3 11 m < 20 := hw.1.1.1 m (by omega)
      show RgR (Z (Z 11 m)) _
      rw [zo 11 (by omega) (by omega) (by omega), zo _ (by omega) (by omega) (by omega)]
      refine RgR_c (a6 m hm) (fun _ _ => rfl) (fun j hj => ?_)
      show uN V 9 _ (12 + 10 * m + j) = X (12 + 10 * m + j)
      rw [uN_n _ _ (by omega)]
      exact o2 _ (by omega)
    · rw [uN_n _ _ (by omega), o1] at hm
      have hk : (if m < i then m else m + 1) < X 92 := by split <;> omega
      show SgR (Z (Z 21 m)) _
      rw [zp, rmA_at (by omega)]
      have o3 := o3 m (by omega)
      generalize (if m < i then m else m + 1) = k at hk o3
      have hq : 22 ≤ Y3 21 k ∧ Y3 21 k < 34 := hw.2.1.1 k (by omega)
      rw [zo (Y3 21 k) (by omega) (by omega) (by omega)]
      refine SgR_c (a7 k hk) (fun _ _ => rfl) (fun j hj => ?_)
      show uN V 9 _ (93 + 7 * m + j) = X (93 + 7 * k + j)
      rw [uN_n _ _ (by omega)]
      exact o3 j hj
  · have hi : i < X 11 := hi
    have z9 : Z 9 = uN (Y3 9) 5 (Y3 9 5 + cxB X true i) := z9
    have zr : Z 10 = uN (Y3 10) 1 (Y3 10 1 - 1) := zr
    have zp : Z 11 = rmA (Y3 11) i (Y3 10 1) := zp
    have zo : ∀ q, q ≠ 9 → q ≠ 10 → q ≠ 11 → Z q = Y3 q := zo
    obtain ⟨o1, o2, o3⟩ := rmR_at X (i := i) n1
    have ex : cxX X true i = uN (rmR X i) 9 (rmR X i 9 + cxB X true i) := rfl
    rw [ex] at hXG ⊢
    have hP1 : rP Z 10 8 := by
      show rPA (Z 11) 10 8
      rw [zp]
      exact rPA_rm hw.1.1 (by omega) (by omega)
    generalize rmR X i = V at o1 o2 o3 hXG
    refine Inv_upd h3 (fun q h1 h2 => zo q (by omega) (by omega) (by omega)) (by rw [zo _ (by omega) (by omega) (by omega)]; exact h70) (Sd_of hP1 (rP_e (zo _ (by omega) (by omega) (by omega)) hw.2.1) ⟨fun j hj => ?_, fun j hj => ?_, ⟨?_, ?_, ?_⟩, ⟨?_, ?_⟩, fun m hm => ?_, fun m hm => ?_⟩ hXG)
    · rw [zo _ (by omega) (by omega) (by omega), uN_n _ _ (by omega), o2 _ (by omega)]; exact a1 j hj
    · rw [zo _ (by omega) (by omega) (by omega), uN_n _ _ (by omega), o2 _ (by omega)]; exact a2 j hj
    · rw [z9, uN_n _ _ (by omega), uN_n _ _ (by omega), o2 _ (by omega)]; exact a3
    · rw [z9, uN_s, uN_s, o2 _ (by omega), a31]
    · rw [z9, uN_n _ _ (by omega), uN_n _ _ (by omega), o2 _ (by omega)]; exact a32
    · show Z 10 1 = _
      rw [zr, uN_s, uN_n _ _ (by omega), o1, a4]
    · rw [zo _ (by omega) (by omega) (by omega), uN_n _ _ (by omega), o2 _ (by omega)]; exact a5
    · rw [uN_n _ _ (by omega), o1] at hm
      have hk : (if m < i then m else m + 1) < X 11 := by split <;> omega
      show RgR (Z (Z 11 m)) _
      rw [zp, rmA_at (by omega)]
      have o3 := o3 m (by omega)
      generalize (if m < i then m else m + 1) = k at hk o3
      have hq : 12 ≤ Y3 11 k ∧ Y3 11 k < 20 := hw.1.1.1 k (by omega)
      rw [zo (Y3 11 k) (by omega) (by omega) (by omega)]
      refine RgR_c (a6 k hk) (fun _ _ => rfl) (fun j hj => ?_)
      show uN V 9 _ (12 + 10 * m + j) = X (12 + 10 * k + j)
      rw [uN_n _ _ (by omega)]
      exact o3 j hj
    · rw [uN_n _ _ (by omega), o2 _ (by omega)] at hm
      have hq : 22 ≤ Y3 21 m ∧ Y3 21 m < 34 := hw.2.1.1 m (by omega)
      show SgR (Z (Z 21 m)) _
      rw [zo 21 (by omega) (by omega) (by omega), zo _ (by omega) (by omega) (by omega)]
      refine SgR_c (a7 m hm) (fun _ _ => rfl) (fun j hj => ?_)
      show uN V 9 _ (93 + 7 * m + j) = X (93 + 7 * m + j)
      rw [uN_n _ _ (by omega)]
      exact o2 _ (by omega)
end OPS2
