/-! the class: the draft of a regular let; the first free hour -/
/-- a reason looks at hall, hours and rank alone -/
def lk5 (v w : Nat → Nat) : Prop := v 0 = w 0 ∧ v 2 = w 2 ∧ v 3 = w 3 ∧ v 4 = w 4
theorem isV_5 {c : Nat} {v w : Nat → Nat} (h : lk5 v w) (s : cZ) : isV c v s = isV c w s := by
  unfold isV
  rw [h.1, h.2.1, h.2.2.1]
theorem vCl_5 {a v w : Nat → Nat} {c : Nat} (h : lk5 v w) : vCl a v c = vCl a w c := by
  unfold vCl
  rw [h.1, h.2.1, h.2.2.1]
theorem vBf_5 {a v w : Nat → Nat} (h : lk5 v w) : vBf v a = vBf w a := by
  unfold vBf
  rw [h.1, h.2.2.1]
theorem cbW_5 {V V' : Nat → Nat → Nat} {c o : Nat} (ho : lk5 (V o) (V' o)) : ∀ (l : List Nat) (w : Bool) (s : cZ), (∀ a ∈ l, V a = V' a) → cbW V c o l w s = cbW V' c o l w s
  | [], w, s, _ => by simp only [cbW, isV_5 ho]
  | a :: l, w, s, h => by
    have h1 := h a List.mem_cons_self
    have ih := fun w s => cbW_5 ho l w s (fun b hb => h b (List.mem_cons_of_mem _ hb)) (c := c)
    simp only [cbW, h1, vCl_5 ho, vBf_5 ho, isV_5 ho, ih]
theorem any_5 {V V' : Nat → Nat → Nat} {c o : Nat} (ho : lk5 (V o) (V' o)) : ∀ (l : List Nat), (∀ a ∈ l, V a = V' a) → l.any (fun a => decide (V o 4 ≤ V a 4) && vCl (V a) (V o) c) = l.any (fun a => decide (V' o 4 ≤ V' a 4) && vCl (V' a) (V' o) c)
  | [], _ => rfl
  | a :: l, h => by
    have h1 := h a List.mem_cons_self
    have ih := any_5 ho l (fun b hb => h b (List.mem_cons_of_mem _ hb)) (c := c)
    rw [List.any_cons, List.any_cons, ih, h1, vCl_5 ho, ho.2.2.2]
theorem rsC_5 {V V' : Nat → Nat → Nat} {c o : Nat} {l : List Nat} (ho : lk5 (V o) (V' o)) (h : ∀ a ∈ l, V a = V' a) : rsC V c o l = rsC V' c o l := by
  unfold rsC
  rw [any_5 ho l h, cbW_5 ho l _ _ h]
/-- the reason against a let with these numbers on a day -/
def rsV (Y : Nat → Nat → Nat) (v : Nat → Nat) (day : Nat) : Nat := rsC (uA Y 70 v) (Y 35 0) 70 (opL Y 9 day)
theorem kq70 {a : Nat} (h : kq a ≠ 1) : a ≠ 70 := fun e => by subst e; exact h rfl
theorem opL_70 {Y : Nat → Nat → Nat} (hw : wS Y 9) {day a : Nat} (h : a ∈ opL Y 9 day) : a ≠ 70 := by
  have he : ∀ r n l k, wR Y r n → r + 2 + n ≤ 70 → k ≤ Y r 1 → (∀ b ∈ l, b < 70) → ∀ b ∈ enL Y r day l k, b < 70 := fun r n l k hwr hr => by
    induction k with
    | zero => intro _ hl b hb; exact hl b hb
    | succ k ih =>
      intro hk hl b hb
      have hs := hwr.2.1
      simp only [enL] at hb
      cases hq : vStd (rV Y r k) day
      · rw [hq] at hb; exact ih (by omega) hl b hb
      · rw [hq] at hb
        rcases adA_mem hb with rfl | hb
        · have := hwr.1.1 k (by omega); omega
        · exact ih (by omega) hl b hb
  have := he 20 12 _ (Y 20 1) hw.2 (by omega) (Nat.le_refl _) (he 10 8 [] (Y 10 1) hw.1 (by omega) (Nat.le_refl _) (fun b hb => by cases hb)) a h
  omega
/-- memory with a draft -/
theorem opL_d {Y : Nat → Nat → Nat} (hw : wS Y 9) (v : Nat → Nat) (day : Nat) : wS (uA Y 70 v) 9 ∧ opL (uA Y 70 v) 9 day = opL Y 9 day := by
  have hn1 := hw.1.2.1
  have hn2 := hw.2.2.1
  have e1 : ∀ i, i < Y 10 1 → uA Y 70 v (Y 11 i) = Y (Y 11 i) := fun i hi => uA_n _ _ (by
    have : 9 + 3 ≤ Y 11 i ∧ Y 11 i < 9 + 11 := hw.1.1.1 i (Nat.lt_of_lt_of_le hi hn1)
    omega)
  have e2 : ∀ i, i < Y 20 1 → uA Y 70 v (Y 21 i) = Y (Y 21 i) := fun i hi => uA_n _ _ (by
    have : 9 + 13 ≤ Y 21 i ∧ Y 21 i < 9 + 25 := hw.2.1.1 i (Nat.lt_of_lt_of_le hi hn2)
    omega)
  have hwd : wS (uA Y 70 v) 9 := ⟨⟨hw.1.1, hw.1.2.1, fun i hi => by
    have := hw.1.2.2 i hi
    show vB (uA Y 70 v (Y 11 i))
    rw [e1 i hi]; exact this⟩, hw.2.1, hw.2.2.1, fun i hi => by
    have := hw.2.2.2 i hi
    show vB (uA Y 70 v (Y 21 i))
    rw [e2 i hi]; exact this⟩
  refine ⟨hwd, ?_⟩
  have he : ∀ r l k, (∀ i, i < k → uA Y 70 v (Y (r + 1) i) = Y (Y (r + 1) i)) → r + 1 ≠ 70 → (∀ b ∈ l, b ≠ 70) → (∀ i, i < k → Y (r + 1) i ≠ 70) → enL (uA Y 70 v) r day l k = enL Y r day l k ∧ ∀ b ∈ enL Y r day l k, b ≠ 70 := fun r l k => by
    induction k with
    | zero => intro _ _ hl _; exact ⟨rfl, hl⟩
    | succ k ih =>
      intro h1 h2 hl h3
      obtain ⟨i1, i2⟩ := ih (fun i hi => h1 i (by omega)) h2 hl (fun i hi => h3 i (by omega))
      have e := h1 k (by omega)
      have er : uA Y 70 v (r + 1) = Y (r + 1) := uA_n _ _ h2
      simp only [enL, rV, er, e, i1]
      refine ⟨by rw [adA_c (V := uA Y 70 v) (V' := Y) e (fun b hb => uA_n _ _ (i2 b hb))], fun b hb => ?_⟩
      cases hq : vStd (Y (Y (r + 1) k)) day
      · rw [hq] at hb; exact i2 b hb
      · rw [hq] at hb
        rcases adA_mem hb with rfl | hb
        · exact h3 k (by omega)
        · exact i2 b hb
  obtain ⟨a1, a2⟩ := he 10 [] (Y 10 1) e1 (by omega) (fun b hb => by cases hb) (fun i hi => by
    have : 9 + 3 ≤ Y 11 i ∧ Y 11 i < 9 + 11 := hw.1.1.1 i (Nat.lt_of_lt_of_le hi hn1)
    show Y 11 i ≠ 70
    omega)
  obtain ⟨b1, -⟩ := he 20 (enL Y 10 day [] (Y 10 1)) (Y 20 1) e2 (by omega) a2 (fun i hi => by
    have : 9 + 13 ≤ Y 21 i ∧ Y 21 i < 9 + 25 := hw.2.1.1 i (Nat.lt_of_lt_of_le hi hn2)
    show Y 21 i ≠ 70
    omega)
  show enL (uA Y 70 v) 20 day (enL (uA Y 70 v) 10 day [] (Y 10 1)) (Y 20 1) = _
  rw [a1, b1]
  rfl
theorem wC_c {Y Y' : Nat → Nat → Nat} (h : scr Y Y') (hC : wC Y) : wC Y' := by
  unfold wC
  rw [h 35 (by omega) (by omega) (by omega), h 34 (by omega) (by omega) (by omega)]
  exact hC
section DIARY4
variable {M M0 : zM}
/-- one look: the plan is opened and the draft asked for; memory is that of a draft v -/
theorem rsV_e {Y Y1 : Nat → Nat → Nat} {v : Nat → Nat} (hw : wS Y 9) (hs : scr (uA Y 70 v) Y1) {u : Nat → Nat} (hu : lk5 v u) (day : Nat) (A : Nat → Nat) (n : Nat) : rsC (plY Y1 A n) (Y1 35 0) 70 (opL Y1 9 day) = rsV Y u day := by
  obtain ⟨hwd, hop⟩ := opL_d hw v day
  rw [opL_c hs sb9 hwd, hop, rsV, hs 35 (by omega) (by omega) (by omega)]
  show rsC _ (Y 35 0) 70 _ = _
  refine rsC_5 ?_ (fun a ha => ?_)
  · rw [plY_o _ _ _ (by omega) (by omega), hs 70 (by omega) (by omega) (by omega), uA_s, uA_s]
    exact hu
  · have hk := (opL_G sb9 hw a ha).1
    have h70 := opL_70 hw ha
    rw [pl_get hk, scr_L hs hk, uA_n _ _ h70, uA_n _ _ h70]
end DIARY4
