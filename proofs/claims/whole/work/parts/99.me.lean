/-! mathematics: the text is read alike -/
def RunN (C : Nat → Nat) : Nat → Nat → tS → tS → Prop
  | 0, _, s, t => t = s
  | n + 1, a, s, t => C a ≠ 59 ∧ (acT (C a) s).1 = true ∧ RunN C n (a + 1) (acT (C a) s).2 t
theorem RunN_app {C : Nat → Nat} {m : Nat} {t u : tS} : ∀ n a s, RunN C n a s t → RunN C m (a + n) t u → RunN C (n + m) a s u
  | 0, a, s, h, h2 => by
    have h : t = s := h
    subst h
    rw [Nat.zero_add]
    exact h2
  | n + 1, a, s, h, h2 => by
    rw [show n + 1 + m = n + m + 1 by omega]
    exact ⟨h.1, h.2.1, RunN_app n (a + 1) _ h.2.2 (by rw [show a + 1 + n = a + (n + 1) by omega]; exact h2)⟩
theorem RunN_fb {C : Nat → Nat} {m : Nat} {t : tS} : ∀ n a s, RunN C n a s t → fbT C (n + m) a s = fbT C m (a + n) t
  | 0, a, s, h => by
    have h : t = s := h
    subst h
    rw [Nat.zero_add]
    rfl
  | n + 1, a, s, h => by
    rw [show n + 1 + m = n + m + 1 by omega, fbT, if_pos h.2.1, RunN_fb n (a + 1) _ h.2.2, show a + 1 + n = a + (n + 1) by omega]
theorem RunN_rd {C : Nat → Nat} {s0 t : tS} : ∀ n a s, RunN C n a s t → rdS C s0 a = s → rdS C s0 (a + n) = t ∧ ∀ i, a ≤ i → i < a + n → C i ≠ 59
  | 0, a, s, h, h0 => by
    have h : t = s := h
    subst h
    exact ⟨h0, fun i h1 h2 => by omega⟩
  | n + 1, a, s, h, h0 => by
    have ih := RunN_rd n (a + 1) _ h.2.2 (by rw [rdS, h0])
    rw [show a + 1 + n = a + (n + 1) by omega] at ih
    refine ⟨ih.1, fun i h1 h2 => ?_⟩
    by_cases e : i = a
    · subst e; exact h.1
    · exact ih.2 i (by omega) h2
theorem fb_ref {C : Nat → Nat} {a m : Nat} {s : tS} (h : acT (C a) s = (false, s)) : fbT C (m + 1) a s = (a, s) := by
  rw [fbT, h]
  rfl
theorem ac_d0 {c k : Nat} {N : Nat → Nat} (h : 48 ≤ c ∧ c ≤ 57) (h2 : zLo k ≤ c - 48 ∧ c - 48 ≤ zHi k) : acT c (k, 0, N) = (true, (k, 1, uN N k (c - 48))) := by
  unfold acT
  rw [if_pos h, if_neg (fun q => absurd q.1 (Nat.lt_irrefl 0)), if_pos (show zLo k ≤ tN c (k, 0, N) ∧ tN c (k, 0, N) ≤ zHi k from h2)]
  rfl
theorem ac_n0 {c k : Nat} {N : Nat → Nat} (h : ¬ ((48 ≤ c ∧ c ≤ 57) ∧ (zLo k ≤ c - 48 ∧ c - 48 ≤ zHi k))) : acT c (k, 0, N) = (false, (k, 0, N)) := by
  unfold acT
  by_cases hd : 48 ≤ c ∧ c ≤ 57
  · rw [if_pos hd, if_neg (fun q => absurd q.1 (Nat.lt_irrefl 0)), if_neg (show ¬ (zLo k ≤ tN c (k, 0, N) ∧ tN c (k, 0, N) ≤ zHi k) from fun q => h ⟨hd, q⟩)]
  · rw [if_neg hd, if_pos (Or.inl (show 0 < 1 from Nat.one_pos))]
theorem ac_d1 {c k g : Nat} {N : Nat → Nat} (h : 48 ≤ c ∧ c ≤ 57) (h0 : N k ≠ 0) (h2 : zLo k ≤ 10 * N k + (c - 48) ∧ 10 * N k + (c - 48) ≤ zHi k) : acT c (k, g + 1, N) = (true, (k, g + 2, uN N k (10 * N k + (c - 48)))) := by
  have e : tN c (k, g + 1, N) = 10 * N k + (c - 48) := if_pos (Nat.succ_pos g)
  unfold acT
  rw [if_pos h, if_neg (fun q => h0 q.2), if_pos (show zLo k ≤ tN c (k, g + 1, N) ∧ tN c (k, g + 1, N) ≤ zHi k by rw [e]; exact h2), e]
theorem ac_n1 {c k g : Nat} {N : Nat → Nat} (h : 48 ≤ c ∧ c ≤ 57) (h0 : N k = 0 ∨ zHi k < 10 * N k + (c - 48)) : acT c (k, g + 1, N) = (false, (k, g + 1, N)) := by
  have e : tN c (k, g + 1, N) = 10 * N k + (c - 48) := if_pos (Nat.succ_pos g)
  unfold acT
  rw [if_pos h]
  by_cases hz : N k = 0
  · rw [if_pos (show 0 < g + 1 ∧ N k = 0 from ⟨Nat.succ_pos g, hz⟩)]
  · rw [if_neg (show ¬ (0 < g + 1 ∧ N k = 0) from fun q => hz q.2), if_neg (show ¬ (zLo k ≤ tN c (k, g + 1, N) ∧ tN c (k, g + 1, N) ≤ zHi k) by rw [e]; omega)]
theorem ac_s {c k g : Nat} {N : Nat → Nat} (h : ¬ (48 ≤ c ∧ c ≤ 57)) (hc : c = zSg k) : acT c (k, g + 1, N) = (true, ((k + 1) % 6, 0, N)) := by
  unfold acT
  rw [if_neg h, if_neg (show ¬ (g + 1 < 1 ∨ c ≠ zSg k) from fun q => q.elim (fun q => by omega) (fun q => q hc))]
theorem ac_ns {c k g : Nat} {N : Nat → Nat} (h : ¬ (48 ≤ c ∧ c ≤ 57)) (hc : c ≠ zSg k) : acT c (k, g + 1, N) = (false, (k, g + 1, N)) := by
  unfold acT
  rw [if_neg h, if_pos (show (g + 1 < 1 ∨ c ≠ zSg k) from Or.inr hc)]
/-- no digit follows -/
def PN (C : Nat → Nat) (ln b : Nat) (s : tS) : Prop := b < ln → 48 ≤ C b ∧ C b ≤ 57 → acT (C b) s = (false, s)
theorem zLoHi : ∀ k, k < 6 → zLo k ≤ 1 ∧ zHi k ≤ 83 := by decide
theorem num_none {C : Nat → Nat} {ln k a : Nat} (ha : a ≤ ln) (h : rdN C ln (zLo k) (zHi k) a = none) (N : Nat → Nat) : fbT C (ln - a) a (k, 0, N) = (a, (k, 0, N)) := by
  by_cases e : a = ln
  · subst e
    rw [Nat.sub_self]
    rfl
  · rw [show ln - a = (ln - a - 1) + 1 by omega]
    refine fb_ref (ac_n0 (fun q => ?_))
    obtain ⟨⟨q1, q2⟩, q3, q4⟩ := q
    have : atB C ln a (48 + zLo k) (if zHi k < 9 then 48 + zHi k else 57) = true := by
      simp only [atB, Bool.and_eq_true, decide_eq_true_eq]
      refine ⟨by omega, by omega, ?_⟩
      split <;> omega
    rw [rdN, this, cond_true] at h
    split at h <;> cases h
theorem num_some {C : Nat → Nat} {ln k a v b : Nat} (hk : k < 6) (h : rdN C ln (zLo k) (zHi k) a = some (v, b)) (N : Nat → Nat) : ∃ g, RunN C (b - a) a (k, 0, N) (k, g + 1, uN N k v) ∧ a < b ∧ b ≤ ln ∧ PN C ln b (k, g + 1, uN N k v) := by
  obtain ⟨z1, z2⟩ := zLoHi k hk
  cases he : atB C ln a (48 + zLo k) (if zHi k < 9 then 48 + zHi k else 57)
  · rw [rdN, he] at h; cases h
  rw [rdN, he, cond_true] at h
  simp only [atB, Bool.and_eq_true, decide_eq_true_eq] at he
  obtain ⟨c1, c2, c3⟩ := he
  have hd : (48 ≤ C a ∧ C a ≤ 57) ∧ (zLo k ≤ C a - 48 ∧ C a - 48 ≤ zHi k) := by
    split at c3 <;> exact ⟨⟨by omega, by omega⟩, by omega, by omega⟩
  have ea := ac_d0 (N := N) hd.1 hd.2
  split at h
  · rename_i h1
    obtain ⟨rfl, rfl⟩ := Prod.mk.inj (Option.some.inj h)
    obtain ⟨d1, d2, d3⟩ := h1
    simp only [atB, Bool.and_eq_true, decide_eq_true_eq] at d2
    obtain ⟨f1, f2, f3⟩ := d2
    have en : uN N k (C a - 48) k = C a - 48 := uN_s _ _ _
    have eb := ac_d1 (c := C (a + 1)) (k := k) (g := 0) (N := uN N k (C a - 48)) ⟨f2, f3⟩ (by rw [en]; omega) (by rw [en]; omega)
    rw [en, uN_u] at eb
    refine ⟨1, ?_, by omega, by omega, fun hb hdg => ac_n1 hdg (Or.inr ?_)⟩
    · rw [show a + 2 - a = 0 + 1 + 1 by omega]
      refine ⟨by omega, by rw [ea], ?_⟩
      rw [ea]
      refine ⟨by omega, by rw [eb], ?_⟩
      rw [eb]
      rfl
    · rw [uN_s]; omega
  · rename_i h1
    obtain ⟨rfl, rfl⟩ := Prod.mk.inj (Option.some.inj h)
    refine ⟨0, ?_, by omega, by omega, fun hb hdg => ac_n1 hdg ?_⟩
    · rw [show a + 1 - a = 0 + 1 by omega]
      refine ⟨by omega, by rw [ea], ?_⟩
      rw [ea]
      rfl
    · rw [uN_s]
      by_cases hz : C a - 48 = 0
      · exact Or.inl hz
      · refine Or.inr (Nat.lt_of_not_le (fun q => h1 ⟨by omega, ?_, q⟩))
        simp only [atB, Bool.and_eq_true, decide_eq_true_eq]
        exact ⟨hb, hdg⟩
def rpU : Nat → List (Bool × Nat × Nat × Nat)
  | 0 => [(true, zLo 5, zHi 5, 5)]
  | u + 1 => (true, zLo (4 - u), zHi (4 - u), 4 - u) :: (false, zSg (4 - u), 0, 0) :: rpU u
theorem rpU_5 : rpL = rpU 5 := by decide
theorem zSg_b : ∀ k, k < 5 → ¬ (48 ≤ zSg k ∧ zSg k ≤ 57) ∧ zSg k ≠ 59 := by decide
/-- a part: read alike -/
theorem part_ok {C : Nat → Nat} {ln pa : Nat} : ∀ u, u ≤ 5 → ∀ a (N PT : Nat → Nat), a ≤ ln → ∀ r, rpS C ln pa (rpU u) a PT = r → (r.1 = false → (fbT C (ln - a) a (5 - u, 0, N)).1 = r.2.1 ∧ ((fbT C (ln - a) a (5 - u, 0, N)).2.1 = 5 → 0 < (fbT C (ln - a) a (5 - u, 0, N)).2.2.1 → False)) ∧ (r.1 = true → ∃ g N', RunN C (r.2.1 - a) a (5 - u, 0, N) (5, g + 1, N') ∧ a < r.2.1 ∧ r.2.1 ≤ ln ∧ PN C ln r.2.1 (5, g + 1, N') ∧ (∀ w, 5 - u ≤ w → w < 6 → N' w = r.2.2 (6 * pa + w)) ∧ ∀ w, w < 5 - u → N' w = N w) ∧ ∀ j, (j < 6 * pa + (5 - u) ∨ 6 * pa + 6 ≤ j) → r.2.2 j = PT j
  | 0, _, a, N, PT, ha, r, hr => by
    subst hr
    rw [rpU, rpS]
    cases hN : rdN C ln (zLo 5) (zHi 5) a with
    | none =>
      dsimp only
      refine ⟨fun _ => ?_, fun q => Bool.noConfusion q, fun _ _ => rfl⟩
      rw [Nat.sub_zero, num_none ha hN N]
      exact ⟨rfl, fun _ q => absurd q (Nat.lt_irrefl 0)⟩
    | some q =>
      obtain ⟨v, b⟩ := q
      obtain ⟨g, h1, h2, h3, h4⟩ := num_some (by omega) hN N
      dsimp only
      rw [rpS]
      refine ⟨fun q => (by cases q), fun _ => ⟨g, uN N 5 v, h1, h2, h3, h4, fun w w1 w2 => ?_, fun w hw => uN_n _ _ (by omega)⟩, fun j hj => uN_n _ _ (by omega)⟩
      have e : w = 5 := by omega
      subst e
      show uN N 5 v 5 = uN PT (6 * pa + 5) v (6 * pa + 5)
      rw [uN_s, uN_s]
  | u + 1, hu, a, N, PT, ha, r, hr => by
    subst hr
    have e5 : 5 - (u + 1) = 4 - u := by omega
    rw [rpU, rpS, e5]
    cases hN : rdN C ln (zLo (4 - u)) (zHi (4 - u)) a with
    | none =>
      dsimp only
      refine ⟨fun _ => ?_, fun q => Bool.noConfusion q, fun _ _ => rfl⟩
      rw [num_none ha hN N]
      exact ⟨rfl, fun _ q => absurd q (Nat.lt_irrefl 0)⟩
    | some q =>
      obtain ⟨v, b⟩ := q
      obtain ⟨g, h1, h2, h3, h4⟩ := num_some (by omega) hN N
      dsimp only
      rw [rpS]
      have hf := RunN_fb (m := ln - b) _ _ _ h1
      rw [show b - a + (ln - b) = ln - a by omega, show a + (b - a) = b by omega] at hf
      cases hs : atB C ln b (zSg (4 - u)) (zSg (4 - u))
      · rw [cond_false]
        refine ⟨fun _ => ?_, fun q => (by cases q), fun j hj => uN_n _ _ (by omega)⟩
        have e : fbT C (ln - b) b (4 - u, g + 1, uN N (4 - u) v) = (b, (4 - u, g + 1, uN N (4 - u) v)) := by
          by_cases eb : b = ln
          · subst eb
            rw [Nat.sub_self]
            rfl
          · rw [show ln - b = (ln - b - 1) + 1 by omega]
            refine fb_ref ?_
            by_cases hd : 48 ≤ C b ∧ C b ≤ 57
            · exact h4 (by omega) hd
            · refine ac_ns hd (fun q => ?_)
              have : atB C ln b (zSg (4 - u)) (zSg (4 - u)) = true := by
                simp only [atB, Bool.and_eq_true, decide_eq_true_eq]
                omega
              rw [this] at hs
              cases hs
        rw [hf, e]
        exact ⟨rfl, fun q _ => by have q : 4 - u = 5 := q; omega⟩
      · rw [cond_true]
        simp only [atB, Bool.and_eq_true, decide_eq_true_eq] at hs
        obtain ⟨s1, s2, s3⟩ := hs
        have hcb : C b = zSg (4 - u) := by omega
        obtain ⟨y1, y2⟩ := zSg_b (4 - u) (by omega)
        have ea := ac_s (c := C b) (k := 4 - u) (g := g) (N := uN N (4 - u) v) (by rw [hcb]; exact y1) hcb
        rw [show (4 - u + 1) % 6 = 5 - u by omega] at ea
        have h5 : RunN C (b - a + 1) a (4 - u, 0, N) (5 - u, 0, uN N (4 - u) v) := RunN_app _ _ _ h1 (by
          rw [show a + (b - a) = b by omega]
          refine ⟨by rw [hcb]; exact y2, by rw [ea], ?_⟩
          rw [ea]
          rfl)
        obtain ⟨i1, i2, i3⟩ := part_ok (C := C) (ln := ln) (pa := pa) u (by omega) (b + 1) (uN N (4 - u) v) (uN PT (6 * pa + (4 - u)) v) (by omega) _ rfl
        have hf5 := RunN_fb (m := ln - (b + 1)) _ _ _ h5
        rw [show b - a + 1 + (ln - (b + 1)) = ln - a by omega, show a + (b - a + 1) = b + 1 by omega] at hf5
        generalize rpS C ln pa (rpU u) (b + 1) (uN PT (6 * pa + (4 - u)) v) = r at i1 i2 i3
        refine ⟨fun q => ?_, fun q => ?_, fun j hj => ?_⟩
        · rw [hf5]
          exact i1 q
        · obtain ⟨g2, N', j1, j2, j3, j4, j5, j6⟩ := i2 q
          refine ⟨g2, N', ?_, by omega, j3, j4, fun w w1 w2 => ?_, fun w hw => ?_⟩
          · have := RunN_app _ _ _ h5 (by rw [show a + (b - a + 1) = b + 1 by omega]; exact j1)
            rw [show b - a + 1 + (r.2.1 - (b + 1)) = r.2.1 - a by omega] at this
            exact this
          · by_cases e : w = 4 - u
            · subst e
              rw [j6 _ (by omega), uN_s, i3 _ (by omega), uN_s]
            · exact j5 w (by omega) w2
          · rw [j6 _ (by omega), uN_n _ _ (by omega)]
        · rw [i3 j (by omega), uN_n _ _ (by omega)]
/-- the whole text -/
theorem all_ok {C : Nat → Nat} {ln : Nat} (hB : bB C) : ∀ n pa a (N PT : Nat → Nat), a ≤ ln → ln < a + 12 * n → (fbT C (ln - a) a (0, 0, N)).1 = (alT C ln n pa a PT).2.2.1 ∧ (((fbT C (ln - a) a (0, 0, N)).1 = ln ∧ (fbT C (ln - a) a (0, 0, N)).2.1 = 5 ∧ 0 < (fbT C (ln - a) a (0, 0, N)).2.2.1) ↔ ((alT C ln n pa a PT).1 = true ∧ (alT C ln n pa a PT).2.2.1 = ln))
  | 0, _, a, _, _, h1, h2 => by omega
  | n + 1, pa, a, N, PT, h1, h2 => by
    obtain ⟨p1, p2, p3⟩ := part_ok (C := C) (pa := pa) 5 (by omega) a N PT h1 _ rfl
    rw [← rpU_5] at p1 p2 p3
    have er : rpS C ln pa rpL a PT = rpF C ln pa a PT := rfl
    rw [er] at p1 p2 p3
    have hb := rpF_b (pa := pa) (PT := PT) hB h1
    rw [Nat.sub_self] at p1 p2
    rw [alT]
    generalize rpF C ln pa a PT = r at p1 p2 p3 hb
    obtain ⟨b1, b2, b3⟩ := hb
    cases hr : r.1
    · obtain ⟨q1, q2⟩ := p1 hr
      rw [cond_false]
      exact ⟨q1, fun q => (q2 q.2.1 q.2.2).elim, fun q => by cases q.1⟩
    · rw [cond_true]
      obtain ⟨g, N', j1, j2, j3, j4, j5, j6⟩ := p2 hr
      have b4 := b3 hr
      have hf := RunN_fb (m := ln - r.2.1) _ _ _ j1
      rw [show r.2.1 - a + (ln - r.2.1) = ln - a by omega, show a + (r.2.1 - a) = r.2.1 by omega] at hf
      cases hs : atB C ln r.2.1 59 59
      · rw [cond_false, hf]
        by_cases eb : r.2.1 = ln
        · rw [eb, Nat.sub_self]
          exact ⟨rfl, fun _ => ⟨rfl, rfl⟩, fun _ => ⟨rfl, rfl, Nat.succ_pos g⟩⟩
        · have e : fbT C (ln - r.2.1) r.2.1 (5, g + 1, N') = (r.2.1, (5, g + 1, N')) := by
            rw [show ln - r.2.1 = (ln - r.2.1 - 1) + 1 by omega]
            refine fb_ref ?_
            by_cases hd : 48 ≤ C r.2.1 ∧ C r.2.1 ≤ 57
            · exact j4 (by omega) hd
            · refine ac_ns hd (fun q => ?_)
              have q : C r.2.1 = 59 := q
              have : atB C ln r.2.1 59 59 = true := by
                simp only [atB, Bool.and_eq_true, decide_eq_true_eq]
                omega
              rw [this] at hs
              cases hs
          rw [e]
          exact ⟨rfl, fun q => absurd q.1 eb, fun q => absurd q.2 eb⟩
      · rw [cond_true, hf]
        simp only [atB, Bool.and_eq_true, decide_eq_true_eq] at hs
        obtain ⟨s1, s2, s3⟩ := hs
        have hcb : C r.2.1 = 59 := by omega
        have ea := ac_s (c := C r.2.1) (k := 5) (g := g) (N := N') (by omega) hcb
        have ih := all_ok (C := C) (ln := ln) hB n (pa + 1) (r.2.1 + 1) N' r.2.2 (by omega) (by omega)
        have e : fbT C (ln - r.2.1) r.2.1 (5, g + 1, N') = fbT C (ln - (r.2.1 + 1)) (r.2.1 + 1) (0, 0, N') := by
          rw [show ln - r.2.1 = (ln - (r.2.1 + 1)) + 1 by omega, fbT, ea, if_pos rfl]
        rw [e]
        exact ih
theorem text_ok {Y : Nat → Nat → Nat} {BU : Nat → Nat} {ln : Nat} (h : InT Y BU ln) (PT : Nat → Nat) : (fbA Y).1 = (if alB BU ln PT = true then ln else (alF BU ln PT).2.2.1) ∧ icT Y = alB BU ln PT := by
  obtain ⟨h1, h2, h3, h4, -⟩ := h
  have hA := all_ok (C := BU) (ln := ln) h4 6 0 0 (Y 66) PT (Nat.zero_le _) (by omega)
  rw [Nat.sub_zero] at hA
  have ef : fbA Y = fbT BU ln 0 (0, 0, Y 66) := by rw [fbA, h1, h3]
  have ei : icT Y = alB BU ln PT := by
    unfold icT alB
    rw [ef, h1, Bool.eq_iff_iff]
    simp only [Bool.and_eq_true, decide_eq_true_eq]
    exact hA.2
  refine ⟨?_, ei⟩
  rw [ef, hA.1]
  split
  · rename_i hb
    unfold alB at hb
    simp only [Bool.and_eq_true, decide_eq_true_eq] at hb
    exact hb.2
  · rfl
