/-! mathematics: fewer lets stay in order -/
theorem lkR_L (X : Nat → Nat) (d : Nat) {α : Type} (f : Nat → α) : ∀ k, (lkR X d k).map f = ((List.range k).filter (fun i => stdR X i d)).map (fun i => f (12 + 10 * i))
  | 0 => rfl
  | k + 1 => by
    rw [lkR, List.map_append, lkR_L X d f k, List.range_succ, List.filter_append, List.map_append]
    congr 1
    cases h : stdR X k d <;> simp [h]
theorem lkS_L (X : Nat → Nat) (d : Nat) {α : Type} (f : Nat → α) : ∀ k, (lkS X d k).map f = ((List.range k).filter (fun i => decide (X (93 + 7 * i + 1) = d))).map (fun i => f (93 + 7 * i))
  | 0 => rfl
  | k + 1 => by
    rw [lkS, List.map_append, lkS_L X d f k, List.range_succ, List.filter_append, List.map_append]
    congr 1
    by_cases h : X (93 + 7 * k + 1) = d <;> simp [h]
theorem rng_L {α : Type} {L : List Nat} {q' q : Nat → Bool} {e' e : Nat → α} (h : ∀ m i, L[m]? = some i → q' m = q i ∧ e' m = e i) : ((List.range L.length).filter q').map e' = (L.filter q).map e := by
  have key : ∀ k, k ≤ L.length → ((List.range k).filter q').map e' = ((L.take k).filter q).map e := fun k => by
    induction k with
    | zero => intro _; rfl
    | succ k ih =>
      intro hk
      have hx : L[k]? = some L[k] := List.getElem?_eq_getElem hk
      obtain ⟨h1, h2⟩ := h k _ hx
      rw [List.range_succ, List.filter_append, List.map_append, ih (by omega), List.take_add_one, hx, List.filter_append, List.map_append]
      congr 1
      simp only [Option.toList, List.filter, h1]
      cases q L[k]
      · rfl
      · simp [h2]
  rw [key _ (Nat.le_refl _), List.take_length]
theorem rng_S {α : Type} {L : List Nat} {q' q : Nat → Bool} {e' e : Nat → α} (h : ∀ m i, L[m]? = some i → (q' m = true → q i = true) ∧ e' m = e i) : (((List.range L.length).filter q').map e').Sublist ((L.filter q).map e) := by
  have key : ∀ k, k ≤ L.length → (((List.range k).filter q').map e').Sublist (((L.take k).filter q).map e) := fun k => by
    induction k with
    | zero => intro _; exact List.Sublist.refl _
    | succ k ih =>
      intro hk
      have hx : L[k]? = some L[k] := List.getElem?_eq_getElem hk
      obtain ⟨h1, h2⟩ := h k _ hx
      rw [List.range_succ, List.filter_append, List.map_append, List.take_add_one, hx, List.filter_append, List.map_append]
      refine List.Sublist.append (ih (by omega)) ?_
      simp only [Option.toList, List.filter]
      cases hq : q' k
      · exact List.nil_sublist _
      · rw [h1 hq]
        simp [h2]
  have := key _ (Nat.le_refl _)
  rwa [List.take_length] at this
theorem dI_sub (g : Nat → Bool) (n : Nat) : ∀ u, u ≤ n → (dI g n u).Sublist (List.range' (n - u) u)
  | 0, _ => List.Sublist.refl _
  | u + 1, hu => by
    rw [dI_s, List.range'_succ, show n - (u + 1) + 1 = n - u by omega]
    cases g (n - (u + 1))
    · exact List.Sublist.cons_cons _ (dI_sub g n u (by omega))
    · exact List.Sublist.cons _ (dI_sub g n u (by omega))
def SubX (X X' : Nat → Nat) : Prop := X' 0 = X 0 ∧ ∃ L1 L2 : List Nat, (L1.Sublist (List.range (X 11)) ∧ X' 11 = L1.length ∧ ∀ m i, L1[m]? = some i → (∀ j, j < 9 → X' (12 + 10 * m + j) = X (12 + 10 * i + j)) ∧ (X (12 + 10 * i + 9) < 4096 → X' (12 + 10 * m + 9) < 4096) ∧ ∀ k, k < 12 → X' (12 + 10 * m + 9) / 2 ^ k % 2 = 0 → X (12 + 10 * i + 9) / 2 ^ k % 2 = 0) ∧ (L2.Sublist (List.range (X 92)) ∧ X' 92 = L2.length ∧ ∀ m i, L2[m]? = some i → ∀ j, j < 7 → X' (93 + 7 * m + j) = X (93 + 7 * i + j))
theorem sub_lk {X X' : Nat → Nat} (h : SubX X X') {d : Nat} (hd : d < 84) : ((lk X' d).map (enx X')).Sublist ((lk X d).map (enx X)) := by
  obtain ⟨-, L1, L2, ⟨h1, h2, h3⟩, h4, h5, h6⟩ := h
  rw [lk, lk, List.map_append, List.map_append, lkR_L, lkR_L, lkS_L, lkS_L, h2, h5]
  refine List.Sublist.append ?_ ?_
  · refine List.Sublist.trans (rng_S (q := fun i => stdR X i d) (e := fun i => enx X (12 + 10 * i)) (fun m i hm => ?_)) ((h1.filter _).map _)
    obtain ⟨a1, -, a3⟩ := h3 m i hm
    have e0 : X' (12 + 10 * m) = X (12 + 10 * i) := a1 0 (by omega)
    refine ⟨fun hs => ?_, ?_⟩
    · unfold stdR at hs ⊢
      rw [a1 1 (by omega), a1 7 (by omega), a1 8 (by omega)] at hs
      simp only [Bool.and_eq_true, decide_eq_true_eq] at hs ⊢
      exact ⟨hs.1, hs.2.1, a3 _ (by omega) hs.2.2⟩
    · show enx X' _ = enx X _
      unfold enx
      rw [e0, a1 2 (by omega), a1 3 (by omega)]
  · refine List.Sublist.trans (rng_S (q := fun i => decide (X (93 + 7 * i + 1) = d)) (e := fun i => enx X (93 + 7 * i)) (fun m i hm => ?_)) ((h4.filter _).map _)
    have a1 := h6 m i hm
    have e0 : X' (93 + 7 * m) = X (93 + 7 * i) := a1 0 (by omega)
    refine ⟨fun hs => ?_, ?_⟩
    · rw [a1 1 (by omega)] at hs
      exact hs
    · show enx X' _ = enx X _
      unfold enx
      rw [e0, a1 2 (by omega), a1 3 (by omega)]
theorem sub_NC {X X' : Nat → Nat} (h : SubX X X') (hN : NC X) : NC X' := fun d hd => by
  rw [h.1]
  exact (hN d hd).sublist (sub_lk h hd)
theorem sub_rng {L : List Nat} {n m i : Nat} (h : L.Sublist (List.range n)) (hm : L[m]? = some i) : i < n := List.mem_range.mp (h.subset (List.mem_of_getElem? hm))
theorem sub_wf2 {X X' : Nat → Nat} (h : SubX X X') (h2 : wf2 X) : wf2 X' := by
  obtain ⟨-, L1, L2, ⟨h1, e2, h3⟩, h4, h5, h6⟩ := h
  refine ⟨fun m hm => ?_, fun m hm => ?_⟩
  · rw [e2] at hm
    have hx : L1[m]? = some L1[m] := List.getElem?_eq_getElem hm
    generalize L1[m] = i at hx
    obtain ⟨a1, a2, -⟩ := h3 m i hx
    obtain ⟨⟨b1, b2, b3, b4, b5, b6, b7⟩, b8, b9, b10, b11⟩ := h2.1 i (sub_rng h1 hx)
    have e0 : X' (12 + 10 * m) = X (12 + 10 * i) := a1 0 (by omega)
    unfold lOK
    rw [e0, a1 1 (by omega), a1 2 (by omega), a1 3 (by omega), a1 4 (by omega), a1 5 (by omega), a1 6 (by omega), a1 7 (by omega), a1 8 (by omega)]
    exact ⟨⟨b1, b2, b3, b4, b5, b6, b7⟩, b8, b9, b10, a2 b11⟩
  · rw [h5] at hm
    have hx : L2[m]? = some L2[m] := List.getElem?_eq_getElem hm
    generalize L2[m] = i at hx
    have a1 := h6 m i hx
    obtain ⟨⟨b1, b2, b3, b4, b5, b6, b7⟩, b8⟩ := h2.2 i (sub_rng h4 hx)
    have e0 : X' (93 + 7 * m) = X (93 + 7 * i) := a1 0 (by omega)
    unfold lOK
    rw [e0, a1 1 (by omega), a1 2 (by omega), a1 3 (by omega), a1 4 (by omega), a1 5 (by omega), a1 6 (by omega)]
    exact ⟨⟨b1, b2, b3, b4, b5, b6, b7⟩, b8⟩
theorem rng_at {n m i : Nat} (h : (List.range n)[m]? = some i) : m = i ∧ m < n := by
  obtain ⟨h1, h2⟩ := List.getElem?_eq_some_iff.mp h
  rw [List.length_range] at h1
  rw [List.getElem_range] at h2
  exact ⟨h2, h1⟩
theorem or_lt {w a : Nat} (hw : w < 4096) (ha : a < 12) : w ||| 2 ^ a < 4096 := Nat.or_lt_two_pow (n := 12) hw (Nat.pow_lt_pow_of_lt (by decide) ha)
theorem or_0 {w a k : Nat} (h : (w ||| 2 ^ a) / 2 ^ k % 2 = 0) : w / 2 ^ k % 2 = 0 := by
  rw [bit_0, or_bit, Bool.or_eq_false_iff] at h
  exact (bit_0 _ _).mpr h.1
theorem gw_sub {X : Nat → Nat} (hX : wf0 X) {day h f t : Nat} (hd : day < 84) : SubX X (gw X day h f t).2 := by
  obtain ⟨p1, p2, p3, p4, p5, p6, p7, p8⟩ := gwP_gw hX day h f t
  refine ⟨p6 0 (by omega), List.range (X 11), dI (g2X X day h f t) (X 92) (X 92), ⟨List.Sublist.refl _, by rw [p1, List.length_range], fun m i hm => ?_⟩, ?_, p2, p3⟩
  · obtain ⟨rfl, hi⟩ := rng_at hm
    refine ⟨p4 m hi, ?_, fun k hk => ?_⟩
    · rw [p5 m hi]
      cases g1X X day h f t m
      · exact id
      · exact fun q => or_lt q (by omega)
    · rw [p5 m hi]
      cases g1X X day h f t m
      · exact id
      · exact or_0
  · have := dI_sub (g2X X day h f t) (X 92) (X 92) (Nat.le_refl _)
    rwa [Nat.sub_self, ← List.range_eq_range'] at this
/-- nothing of the day stands in the way -/
def NG (X : Nat → Nat) (w : cE) (d : Nat) : Prop := ∀ e ∈ (lk X d).map (enx X), nclE w (X 0) e = true
theorem sub_NG {X X' : Nat → Nat} (h : SubX X X') {d : Nat} (hd : d < 84) {w : cE} (hN : NG X w d) : NG X' w d := fun e he => by
  rw [h.1]
  exact hN e ((sub_lk h hd).subset he)
theorem ncl_sep {w e : cE} {c : Nat} (h : nclE w c e = true) : sepE c e w := fun q => by
  unfold nclE at h
  rw [decide_eq_true q, Bool.true_and] at h
  simp only [Bool.not_eq_true', Bool.and_eq_false_iff, decide_eq_false_iff_not] at h
  omega
theorem gw_NG {X : Nat → Nat} (hX : wf0 X) {day h f t : Nat} (hd : day < 84) : NG (gw X day h f t).2 (h, f, t) day := by
  obtain ⟨p1, p2, p3, p4, p5, p6, p7, p8⟩ := gwP_gw hX day h f t
  have e00 := p6 0 (by omega)
  intro e he
  rw [e00]
  rw [lk, List.map_append, lkR_L, lkS_L, List.mem_append] at he
  generalize hX' : (gw X day h f t).2 = X' at *
  rcases he with he | he
  · obtain ⟨i, hi, rfl⟩ := List.mem_map.mp he
    obtain ⟨hi, hs⟩ := List.mem_filter.mp hi
    have hi := List.mem_range.mp hi
    rw [p1] at hi
    have e0 : X' (12 + 10 * i) = X (12 + 10 * i) := p4 i hi 0 (by omega)
    have ee : enx X' (12 + 10 * i) = enx X (12 + 10 * i) := by
      unfold enx
      rw [e0, p4 i hi 2 (by omega), p4 i hi 3 (by omega)]
    show nclE (h, f, t) (X 0) (enx X' (12 + 10 * i)) = true
    rw [ee]
    have hc := clsh_n X (12 + 10 * i) h f t
    cases hn : nclE (h, f, t) (X 0) (enx X (12 + 10 * i))
    · rw [hn] at hc
      have p5 := p5 i hi
      unfold stdR at hs
      rw [p4 i hi 1 (by omega), p4 i hi 7 (by omega), p4 i hi 8 (by omega), p5] at hs
      have hg : g1X X day h f t i = stdR X i day := by
        show (stdR X i day && clsh X (12 + 10 * i) h f t) = _
        rw [hc, Bool.not_false, Bool.and_true]
      simp only [Bool.and_eq_true, decide_eq_true_eq] at hs
      obtain ⟨s1, s2, s3⟩ := hs
      cases hg2 : g1X X day h f t i
      · rw [hg2, cond_false] at s3
        rw [hg2] at hg
        unfold stdR at hg
        rw [decide_eq_true s1, decide_eq_true s2.1, decide_eq_true s2.2, decide_eq_true s3] at hg
        cases hg
      · rw [hg2, cond_true, bit_0, or_bit, decide_eq_true rfl, Bool.or_true] at s3
        cases s3
    · rfl
  · obtain ⟨m, hm, rfl⟩ := List.mem_map.mp he
    obtain ⟨hm, hs⟩ := List.mem_filter.mp hm
    have hm := List.mem_range.mp hm
    rw [p2] at hm
    have hx : (dI (g2X X day h f t) (X 92) (X 92))[m]? = some (dI (g2X X day h f t) (X 92) (X 92))[m] := List.getElem?_eq_getElem hm
    generalize (dI (g2X X day h f t) (X 92) (X 92))[m] = i at hx
    obtain ⟨-, hg⟩ := dI_mem _ (Nat.le_refl _) (List.mem_of_getElem? hx)
    have p3 := p3 m i hx
    have e0 : X' (93 + 7 * m) = X (93 + 7 * i) := p3 0 (by omega)
    have ee : enx X' (93 + 7 * m) = enx X (93 + 7 * i) := by
      unfold enx
      rw [e0, p3 2 (by omega), p3 3 (by omega)]
    rw [p3 1 (by omega)] at hs
    show nclE (h, f, t) (X 0) (enx X' (93 + 7 * m)) = true
    rw [ee]
    have hg : (decide (X (93 + 7 * i + 1) = day) && clsh X (93 + 7 * i) h f t) = false := hg
    rw [hs, Bool.true_and, clsh_n, Bool.not_eq_false'] at hg
    exact hg
def XG (X : Nat → Nat) : Prop := wf0 X ∧ wf1 X ∧ wf2 X ∧ NC X
theorem XG_gw {X : Nat → Nat} (h : XG X) {day a f t : Nat} (hd : day < 84) : XG (gw X day a f t).2 := by
  obtain ⟨h0, h1, h2, h3⟩ := h
  obtain ⟨w0, w1, -, -⟩ := gw_ok h0 hd (h := a) (f := f) (t := t)
  have hs := gw_sub h0 (h := a) (f := f) (t := t) hd
  exact ⟨w0, wf1_low h1 w1, sub_wf2 hs h2, sub_NC hs h3⟩
