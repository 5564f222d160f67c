/-! mathematics: the two machines in step -/
/-- a state that stands -/
def Sd (Y : Nat → Nat → Nat) (b : Nat) (X : Nat → Nat) : Prop := wS Y b ∧ Ab Y b X ∧ XG X
theorem Sd_same {Y Z : Nat → Nat → Nat} {b : Nat} {X : Nat → Nat} (h : ∀ q, b ≤ q → q < b + 27 → Z q = Y q) (hS : Sd Y b X) : Sd Z b X := by
  obtain ⟨hw, ⟨a1, a2, a3, ⟨a4, a5⟩, a6, a7⟩, hX⟩ := hS
  have n1 := hw.1.2.1
  have n2 := hw.2.2.1
  have e1 : ∀ i, i < Y (b + 1) 1 → rV Z (b + 1) i = rV Y (b + 1) i := fun i hi => by
    have hp := hw.1.1.1 i (by omega)
    rw [rV, h (b + 1 + 1) (by omega) (by omega), h _ (by omega) (by omega)]
    rfl
  have e2 : ∀ i, i < Y (b + 11) 1 → rV Z (b + 11) i = rV Y (b + 11) i := fun i hi => by
    have hp := hw.2.1.1 i (by omega)
    rw [rV, h (b + 11 + 1) (by omega) (by omega), h _ (by omega) (by omega)]
    rfl
  have z1 := h (b + 1) (by omega) (by omega)
  have z2 := h (b + 11) (by omega) (by omega)
  refine ⟨⟨⟨?_, by rw [z1]; exact n1, fun i hi => ?_⟩, ?_, by rw [z2]; exact n2, fun i hi => ?_⟩, ⟨?_, ?_, ?_, ?_, fun i hi => ?_, fun i hi => ?_⟩, hX⟩
  · unfold rP; rw [h _ (by omega) (by omega)]; exact hw.1.1
  · rw [z1] at hi; rw [e1 i hi]; exact hw.1.2.2 i hi
  · unfold rP; rw [h _ (by omega) (by omega)]; exact hw.2.1
  · rw [z2] at hi; rw [e2 i hi]; exact hw.2.2.2 i hi
  · rw [h _ (by omega) (by omega)]; exact a1
  · rw [h _ (by omega) (by omega)]; exact a2
  · rw [h b (by omega) (by omega)]; exact a3
  · rw [z1, z2]; exact ⟨a4, a5⟩
  · rw [e1 i (by omega)]; exact a6 i hi
  · rw [e2 i (by omega)]; exact a7 i hi
theorem Sd_bcm {Y Z : Nat → Nat → Nat} {b o : Nat} {X : Nat → Nat} (h : bcm Y Z b o) (h1 : rP Y (b + 1) 8) (h2 : rP Y (b + 11) 12) (hS : Sd Y o X) : Sd Z b X := by
  obtain ⟨-, ⟨p1, p2⟩, ⟨c1, c2⟩, ⟨r1, r2⟩, s1, s2, q4, q5, q6⟩ := h
  obtain ⟨hw, ⟨a1, a2, ⟨a3, a31, a32⟩, ⟨a4, a5⟩, a6, a7⟩, hX⟩ := hS
  have n1 := hw.1.2.1
  have n2 := hw.2.2.1
  refine ⟨⟨⟨?_, by rw [c1]; exact n1, fun i hi => ?_⟩, ?_, by rw [c2]; exact n2, fun i hi => ?_⟩, ⟨fun j hj => ?_, fun j hj => ?_, ⟨?_, ?_, ?_⟩, ⟨?_, ?_⟩, fun i hi => ?_, fun i hi => ?_⟩, hX⟩
  · show rPA (Z (b + 2)) (b + 1) 8
    rw [p1]; exact h1
  · rw [c1] at hi; rw [r1 i hi]; exact hw.1.2.2 i hi
  · show rPA (Z (b + 12)) (b + 11) 12
    rw [p2]; exact h2
  · rw [c2] at hi; rw [r2 i hi]; exact hw.2.2.2 i hi
  · rw [s2 j hj]; exact a1 j hj
  · rw [s1 j hj]; exact a2 j hj
  · rw [q4]; exact a3
  · rw [q5]; exact a31
  · rw [q6]; exact a32
  · rw [c1]; exact a4
  · rw [c2]; exact a5
  · rw [r1 i (by omega)]; exact a6 i hi
  · rw [r2 i (by omega)]; exact a7 i hi
def Inv (Y : Nat → Nat → Nat) (X : Nat → Nat) (SS : Nat → Nat → Nat) (SN : Nat → Nat) (sm ik : Nat) : Prop :=
  Sd Y 9 X ∧ (wB Y ∧ Y 8 4 = sm ∧ sm ≤ 6 ∧ ∀ i, i < sm → Sd Y (Y 63 i) (SS i)) ∧ (rP Y 37 8 ∧ rP Y 47 12 ∧ Y 8 2 = ik ∧ (ik = 0 ∨ ik = 1) ∧ (ik = 1 → Sd Y 36 SN)) ∧ dB (Y 70)
theorem wB_63 {Y : Nat → Nat → Nat} (hB : wB Y) {i : Nat} (hi : i < 6) : 71 ≤ Y 63 i ∧ Y 63 i + 27 ≤ 233 := by
  obtain ⟨k, hk, e⟩ := hB.1 i hi
  omega
section INV
variable {Y Z : Nat → Nat → Nat} {X X' : Nat → Nat} {SS : Nat → Nat → Nat} {SN : Nat → Nat} {sm ik : Nat}
theorem Inv_upd (hI : Inv Y X SS SN sm ik) (h : ∀ q, (q < 9 ∨ 36 ≤ q) → (q < 64 ∨ 71 ≤ q) → Z q = Y q) (h70 : dB (Z 70)) (hS : Sd Z 9 X') : Inv Z X' SS SN sm ik := by
  obtain ⟨-, ⟨b1, b2, b3, b4⟩, ⟨c1, c2, c3, c4, c5⟩, -⟩ := hI
  refine ⟨hS, ⟨wB_same (fun q hq => h q (by omega) (by omega)) b1, by rw [h 8 (by omega) (by omega)]; exact b2, b3, fun i hi => ?_⟩, ⟨?_, ?_, by rw [h 8 (by omega) (by omega)]; exact c3, c4, fun e => Sd_same (fun q h1 h2 => h q (by omega) (by omega)) (c5 e)⟩, h70⟩
  · have hp := wB_63 b1 (i := i) (by omega)
    rw [h 63 (by omega) (by omega)]
    exact Sd_same (fun q h1 h2 => h q (by omega) (by omega)) (b4 i hi)
  · unfold rP; rw [h _ (by omega) (by omega)]; exact c1
  · unfold rP; rw [h _ (by omega) (by omega)]; exact c2
theorem Inv_same (hI : Inv Y X SS SN sm ik) (h : ∀ q, (q < 64 ∨ 71 ≤ q) → Z q = Y q) (h70 : dB (Z 70)) : Inv Z X SS SN sm ik := Inv_upd hI (fun q _ h2 => h q h2) h70 (Sd_same (fun q h1 h2 => h q (by omega)) hI.1)
theorem Inv_scr (hI : Inv Y X SS SN sm ik) (h : scr Y Z) : Inv Z X SS SN sm ik := Inv_same hI (fun q hq => h q (by omega) (by omega) (by omega)) (by rw [h 70 (by omega) (by omega) (by omega)]; exact hI.2.2.2)
theorem Inv_70 (hI : Inv Y X SS SN sm ik) {v : Nat → Nat} (hv : dB v) : Inv (uA Y 70 v) X SS SN sm ik := Inv_same hI (fun q hq => uA_n _ _ (by omega)) (by rw [uA_s]; exact hv)
theorem svR_9 (hI : Inv Y X SS SN sm ik) : Sd (svR Y) 9 X := Sd_same (fun q h1 h2 => svR_o Y (by omega) (by omega)) hI.1
theorem Inv_sv (hI : Inv Y X SS SN sm ik) (h : svRel Y Z) : Inv Z X (svS SS sm X) SN (svN sm) ik := by
  obtain ⟨hS, ⟨b1, b2, b3, b4⟩, ⟨c1, c2, c3, c4, c5⟩, h70⟩ := hI
  have hI : Inv Y X SS SN sm ik := ⟨hS, ⟨b1, b2, b3, b4⟩, ⟨c1, c2, c3, c4, c5⟩, h70⟩
  have hk : ∀ q, q ≠ 8 → q ≠ 63 → q < 71 → Z q = Y q := fun q q1 q2 q3 => svRel_k h b1 (by omega) q1 q2 q3
  obtain ⟨Y2, rfl, hb⟩ := h
  have hB' := svR_B b1
  obtain ⟨s1, s2⟩ := svR_4 (Y := Y) (by omega)
  obtain ⟨-, t2, t3, t4⟩ := wB_sb hB' s1
  obtain ⟨kb, hkb, ekb⟩ := hB'.1 _ s1
  have hSb : Sd Y2 (svR Y 63 (svR Y 8 4)) X := Sd_bcm hb t3 t4 (svR_9 hI)
  have e8 : Y2 8 = svR Y 8 := hb.1 8 (by omega)
  have e63 : Y2 63 = svR Y 63 := hb.1 63 (by omega)
  have e8b : svR Y 8 2 = Y 8 2 := by
    unfold svR
    split
    · rw [uA_s, uN_n _ _ (by omega)]
    · rfl
  have zq : ∀ q, q ≠ 8 → uA Y2 8 (uN (Y2 8) 4 (Y2 8 4 + 1)) q = Y2 q := fun q hq => uA_n _ _ hq
  have z84 : uA Y2 8 (uN (Y2 8) 4 (Y2 8 4 + 1)) 8 4 = svR Y 8 4 + 1 := by rw [uA_s, uN_s, e8]
  have z82 : uA Y2 8 (uN (Y2 8) 4 (Y2 8 4 + 1)) 8 2 = Y 8 2 := by rw [uA_s, uN_n _ _ (by omega), e8, e8b]
  generalize uA Y2 8 (uN (Y2 8) 4 (Y2 8 4 + 1)) = Z at *
  have hb2 := hb.2.1
  have hb1 := hb.1
  generalize hbb : svR Y 63 (svR Y 8 4) = b at *
  have far : ∀ i, i < 6 → i ≠ svR Y 8 4 → svR Y 63 i + 27 ≤ b ∨ b + 27 ≤ svR Y 63 i := fun i hi hn => by
    obtain ⟨k, hk, e⟩ := hB'.1 i hi
    have hne : svR Y 63 i ≠ b := fun q => hn (hB'.2.1 i _ hi s1 (q.trans hbb.symm))
    omega
  have old : ∀ i, i < 6 → i ≠ svR Y 8 4 → ∀ {A : Nat → Nat}, Sd Y (svR Y 63 i) A → Sd Z (svR Y 63 i) A := fun i hi hn A hA => by
    have hp := wB_63 hB' hi
    have hf := far i hi hn
    refine Sd_same (fun q h1 h2 => ?_) hA
    rw [zq q (by omega), hb1 q (by omega), svR_o Y (by omega) (by omega)]
  have new : Sd Z b X := Sd_same (fun q h1 h2 => zq q (by omega)) hSb
  refine ⟨Sd_same (fun q h1 h2 => hk q (by omega) (by omega) (by omega)) hS, ⟨⟨?_, ?_, fun k hk2 => ?_⟩, ?_, ?_, fun i hi => ?_⟩, ⟨?_, ?_, by rw [z82]; exact c3, c4, fun e => Sd_same (fun q h1 h2 => hk q (by omega) (by omega) (by omega)) (c5 e)⟩, by rw [hk 70 (by omega) (by omega) (by omega)]; exact h70⟩
  · rw [zq 63 (by omega), e63]; exact hB'.1
  · rw [zq 63 (by omega), e63]; exact hB'.2.1
  · have hr := hB'.2.2 k hk2
    have e1 : Z (71 + 27 * k + 1 + 1) = svR Y (71 + 27 * k + 1 + 1) := by
      rw [zq _ (by omega)]
      by_cases e : k = kb
      · subst e
        rw [show 71 + 27 * k + 1 + 1 = b + 2 by omega]
        exact hb2.1
      · exact hb1 _ (by omega)
    have e2 : Z (71 + 27 * k + 11 + 1) = svR Y (71 + 27 * k + 11 + 1) := by
      rw [zq _ (by omega)]
      by_cases e : k = kb
      · subst e
        rw [show 71 + 27 * k + 11 + 1 = b + 12 by omega]
        exact hb2.2
      · exact hb1 _ (by omega)
    unfold rP
    rw [e1, e2]
    exact hr
  · rw [z84, s2, svN, b2]
    split <;> omega
  · unfold svN
    split <;> omega
  · rw [zq 63 (by omega), e63]
    unfold svS
    unfold svN at hi
    by_cases h6 : sm = 6
    · rw [if_pos h6] at hi
      rw [if_pos h6]
      have s5 : svR Y 8 4 = 5 := by rw [s2, b2, if_pos h6]
      by_cases h5 : i < 5
      · rw [if_pos h5]
        have er : svR Y 63 i = Y 63 (i + 1) := by
          have : svR Y 63 = rmA (Y 63) 0 6 := by
            unfold svR
            rw [if_pos (b2.trans h6), uA_n _ _ (by omega), uA_s]
          rw [this, rmA_P]
          congr 1
          unfold rmP
          rw [if_neg (by omega), if_pos (by omega)]
        refine old i hi (by omega) ?_
        rw [er]
        exact b4 (i + 1) (by omega)
      · rw [if_neg h5]
        have : i = svR Y 8 4 := by omega
        rw [this, hbb]
        exact new
    · rw [if_neg h6] at hi
      rw [if_neg h6]
      have ss : svR Y 8 4 = sm := by rw [s2, b2, if_neg h6]
      have sy : svR Y = Y := by
        unfold svR
        rw [if_neg (by omega)]
      by_cases hs : i = sm
      · rw [if_pos hs, hs, ← ss, hbb]
        exact new
      · rw [if_neg hs]
        refine old i (by omega) (by omega) ?_
        rw [sy]
        exact b4 i (by omega)
  · unfold rP; rw [hk _ (by omega) (by omega) (by omega)]; exact c1
  · unfold rP; rw [hk _ (by omega) (by omega) (by omega)]; exact c2
theorem Inv_wC (hI : Inv Y X SS SN sm ik) : wC Y := by
  obtain ⟨⟨-, ⟨a1, a2, -⟩, -, ⟨w0, w1, w2, w3, w4, ⟨-, w5⟩, ⟨-, w6⟩, -, w7⟩, -⟩, -⟩ := hI
  have e0 : Y 35 0 = X 0 := a1 0 (by omega)
  have e1 : Y 35 1 = X 1 := a1 1 (by omega)
  have e2 : Y 35 2 = X 2 := a1 2 (by omega)
  have e3 : Y 35 3 = X 3 := a1 3 (by omega)
  have e4 : Y 35 4 = X 4 := a1 4 (by omega)
  have f0 : Y 34 0 = X 5 := a2 0 (by omega)
  have f1 : Y 34 1 = X 6 := a2 1 (by omega)
  have f2 : Y 34 2 = X 7 := a2 2 (by omega)
  refine ⟨by omega, by omega, by omega, by omega, by omega, fun h hh => ?_⟩
  rcases (show h = 0 ∨ h = 1 ∨ h = 2 by omega) with rfl | rfl | rfl <;> omega
end INV
