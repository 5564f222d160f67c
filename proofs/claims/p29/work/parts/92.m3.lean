/-! mathematics: rents, the next free time, settings -/
theorem ab_vRn {Y : Nat → Nat → Nat} {X : Nat → Nat} (h : Ab Y 9 X) {a wd hrs d : Nat} (ha : a < 3) : vRn Y a wd hrs d = rentF X a wd hrs (100 - d) := by
  have e1 : Y 34 a = X (5 + a) := h.2.1 a ha
  have e2 : Y 35 2 = X 2 := h.1 2 (by omega)
  unfold vRn rentF
  rw [e1, e2]
theorem rsO_V {Y : Nat → Nat → Nat} (hw : wS Y 9) (u : Nat → Nat) (day : Nat) : rsO (uA Y 70 u) day = rsV Y u day := by
  rw [rsO, rsV, (opL_d hw u day).2]
  rw [uA_n _ _ (by omega)]
theorem ab_rf {Y : Nat → Nat → Nat} {X : Nat → Nat} (h : Ab Y 9 X) (hw : wS Y 9) {day : Nat} (hd : day < 84) (v : Nat → Nat) : (if Y 20 1 = 12 then 1 else rsO (uA Y 70 v) day) = rfs X (v 0) day (v 2) (v 3) (v 4) := by
  have e2 : Y 20 1 = X 92 := h.2.2.2.1.2
  rw [rfs, e2, rsO_V hw, ab_rs h hw hd]
theorem nI_nm1 {f : Nat} (h : f < 2 ^ 31) : nI f ≠ -1 := by
  intro e
  have := congrArg Int32.toInt e
  rw [show (nI f).toInt = (f : Int) from Int32.toInt_ofNat_of_lt h] at this
  have h1 : (-1 : Int32).toInt = -1 := rfl
  omega
theorem ab_fh {Y : Nat → Nat → Nat} {X : Nat → Nat} (h : Ab Y 9 X) (hw : wS Y 9) {a day hrs : Nat} (hd : day < 84) (h12 : X 92 ≠ 12) : ∀ n f, (match ffH X a hrs day n f with | none => fhV Y a day hrs 1 n f = -1 | some v => ∃ g, g < 25 ∧ v = 24 * day + g ∧ fhV Y a day hrs 1 n f = nI g)
  | 0, _ => rfl
  | n + 1, f => by
    have ih := ab_fh h hw (a := a) (hrs := hrs) hd h12 n (f + 1)
    rw [ffH, fhV, ab_rs h hw hd]
    by_cases h1 : f + hrs ≤ 24
    · rw [if_pos h1, if_pos h1]
      have e : rfs X a day f (f + hrs) 1 = rsn X a day f (f + hrs) 1 := if_neg h12
      rw [e]
      show (match (if rsn X a day f (f + hrs) 1 = 0 then some (24 * day + f) else ffH X a hrs day n (f + 1)) with | none => (if rsn X a day f (f + hrs) 1 = 0 then nI f else fhV Y a day hrs 1 n (f + 1)) = -1 | some v => ∃ g, g < 25 ∧ v = 24 * day + g ∧ (if rsn X a day f (f + hrs) 1 = 0 then nI f else fhV Y a day hrs 1 n (f + 1)) = nI g)
      by_cases h2 : rsn X a day f (f + hrs) 1 = 0
      · rw [if_pos h2, if_pos h2]
        exact ⟨f, by omega, rfl, rfl⟩
      · rw [if_neg h2, if_neg h2]
        exact ih
    · rw [if_neg h1, if_neg h1]
theorem ab_nf {Y : Nat → Nat → Nat} {X : Nat → Nat} (h : Ab Y 9 X) (hw : wS Y 9) {a hrs : Nat} (h12 : X 92 ≠ 12) : ∀ n day, day + n ≤ 84 → nfC Y a hrs n day = ffD X a hrs n day
  | 0, _, _ => rfl
  | n + 1, day, hd => by
    have ih := ab_nf h hw (a := a) (hrs := hrs) h12 n (day + 1) (by omega)
    have hf := ab_fh h hw (a := a) (hrs := hrs) (day := day) (by omega) h12 25 0
    rw [nfC, ffD]
    cases hff : ffH X a hrs day 25 0 with
    | none =>
      rw [hff] at hf
      have hf' : fhV Y a day hrs 1 25 0 = -1 := hf
      rw [if_pos hf', ih]
    | some v =>
      rw [hff] at hf
      obtain ⟨g, g1, rfl, g3⟩ : ∃ g, g < 25 ∧ v = 24 * day + g ∧ fhV Y a day hrs 1 25 0 = nI g := hf
      rw [g3, if_neg (nI_nm1 (by omega)), nI_add]
theorem ffH_12 {X : Nat → Nat} {a hrs day : Nat} (h12 : X 92 = 12) : ∀ n f, ffH X a hrs day n f = none
  | 0, _ => rfl
  | n + 1, f => by
    rw [ffH, ffH_12 h12 n (f + 1), rfs, if_pos h12]
    simp
theorem ffD_12 {X : Nat → Nat} {a hrs : Nat} (h12 : X 92 = 12) : ∀ n day, ffD X a hrs n day = -1
  | 0, _ => rfl
  | n + 1, day => by rw [ffD, ffH_12 h12]; exact ffD_12 h12 n (day + 1)
theorem ab_nfx {Y : Nat → Nat → Nat} {X : Nat → Nat} (h : Ab Y 9 X) (hw : wS Y 9) {a hrs n day : Nat} (hd : day + n ≤ 84) : (if Y 20 1 = 12 then (-1 : Int32) else nfC Y a hrs n day) = ffD X a hrs n day := by
  have e2 : Y 20 1 = X 92 := h.2.2.2.1.2
  by_cases h12 : X 92 = 12
  · rw [e2, if_pos h12, ffD_12 h12]
  · rw [e2, if_neg h12, ab_nf h hw h12 n day hd]
/-- apart, with time for the cleaning -/
def sepE (c : Nat) (e x : cE) : Prop := e.1 = x.1 → (e.2.2 + c ≤ x.2.1 ∨ x.2.2 + c ≤ e.2.1)
theorem sepE_sym {c : Nat} {e x : cE} (h : sepE c e x) : sepE c x e := fun q => (h q.symm).symm
theorem sep_ins {c : Nat} {e : cE} : ∀ {l : List cE}, (insF e l).Pairwise (sepE c) ↔ (∀ x ∈ l, sepE c e x) ∧ l.Pairwise (sepE c)
  | [] => by simp [insF]
  | x :: r => by
    rw [insF]
    cases gtE x e
    · rw [cond_false, List.pairwise_cons, List.pairwise_cons, sep_ins (l := r)]
      constructor
      · rintro ⟨h1, h2, h3⟩
        refine ⟨fun y hy => ?_, fun y hy => h1 y (insF_mem.mpr (Or.inr hy)), h3⟩
        rcases List.mem_cons.mp hy with rfl | hy
        · exact sepE_sym (h1 e (insF_mem.mpr (Or.inl rfl)))
        · exact h2 y hy
      · rintro ⟨h1, h2, h3⟩
        refine ⟨fun y hy => ?_, fun y hy => h1 y (List.mem_cons_of_mem _ hy), h3⟩
        rcases insF_mem.mp hy with rfl | hy
        · exact sepE_sym (h1 x List.mem_cons_self)
        · exact h2 y hy
    · rw [cond_true, List.pairwise_cons]
theorem sep_srt {c : Nat} : ∀ (D l : List cE), srtP l → ((srtE D l).Pairwise (sepE c) ↔ D.Pairwise (sepE c) ∧ l.Pairwise (sepE c) ∧ ∀ d ∈ D, ∀ x ∈ l, sepE c d x)
  | [], l, _ => by simp [srtE]
  | e :: D, l, h => by
    show (srtE D (addC e l)).Pairwise _ ↔ _
    rw [addC_F h, sep_srt D _ (insF_s h), sep_ins, List.pairwise_cons]
    constructor
    · rintro ⟨h1, ⟨h2, h3⟩, h4⟩
      refine ⟨⟨fun d hd => sepE_sym (h4 d hd e (insF_mem.mpr (Or.inl rfl))), h1⟩, h3, fun d hd x hx => ?_⟩
      rcases List.mem_cons.mp hd with rfl | hd
      · exact h2 x hx
      · exact h4 d hd x (insF_mem.mpr (Or.inr hx))
    · rintro ⟨⟨h1, h2⟩, h3, h4⟩
      refine ⟨h2, ⟨fun x hx => h4 e List.mem_cons_self x hx, h3⟩, fun d hd x hx => ?_⟩
      rcases insF_mem.mp hx with rfl | hx
      · exact sepE_sym (h1 d hd)
      · exact h4 d (List.mem_cons_of_mem _ hd) x hx
theorem mok_sep {c : Nat} : ∀ (l : List cE) (o : Nat), (∀ e ∈ l, e.2.1 < e.2.2) → mok c o l = true → l.Pairwise (fun e x => e.1 = x.1 → e.2.2 + c ≤ x.2.1)
  | [], _, _, _ => List.Pairwise.nil
  | e :: t, o, hv, h => by
    rw [mok, Bool.and_eq_true] at h
    obtain ⟨h1, h2⟩ := h
    have ih := mok_sep t _ (fun x hx => hv x (List.mem_cons_of_mem _ hx)) h2
    refine List.pairwise_cons.mpr ⟨fun x hx he => ?_, ih⟩
    have hz : e.2.2 ≤ (if e.2.2 < o then o else e.2.2) := by split <;> omega
    cases hf : t.find? (fun x => decide (x.1 = e.1)) with
    | none =>
      have := List.find?_eq_none.mp hf x hx
      exact absurd (decide_eq_true he.symm) this
    | some x0 =>
      rw [hf] at h1
      have h1' := of_decide_eq_true h1
      have hx0 : x0.1 = e.1 := by
        have := List.find?_some hf
        simpa using this
      obtain ⟨as, bs, rfl, hno⟩ := List.find?_eq_some_iff_append.mp hf |>.2
      rcases List.mem_append.mp hx with hx | hx
      · have := hno x hx
        rw [decide_eq_true he.symm] at this
        cases this
      · rcases List.mem_cons.mp hx with rfl | hx
        · omega
        · have hp := (List.pairwise_cons.mp (List.pairwise_append.mp ih).2.1).1 x hx (hx0.trans he)
          have hv0 := hv x0 (List.mem_cons_of_mem _ (List.mem_append.mpr (Or.inr List.mem_cons_self)))
          omega
theorem csK_srt (X : Nat → Nat) (l : List Nat) : ∀ k, k ≤ l.length → csK X l k = srtE ((l.take k).map (enx X)) []
  | 0, _ => rfl
  | k + 1, hk => by
    have hx : l[k]? = some l[k] := List.getElem?_eq_getElem (by omega)
    rw [csK, hx, csK_srt X l k (by omega), List.take_succ, hx, List.map_append, srtE, srtE, List.foldl_append]
    rfl
theorem csK_all (X : Nat → Nat) (l : List Nat) : csK X l l.length = srtE (l.map (enx X)) [] := by
  rw [csK_srt X l _ (Nat.le_refl _), List.take_length]
theorem pwK_all {X : Nat → Nat} {l : List Nat} (h : (l.map (enx X)).Pairwise (sepE (X 0))) : ∀ k, k ≤ l.length → pwK X l k = true
  | 0, _ => rfl
  | k + 1, hk => by
    have hx : l[k]? = some l[k] := List.getElem?_eq_getElem (by omega)
    rw [pwK, hx, pwK_all h k (by omega), Bool.true_and]
    show pwJ X l[k] (l.take k) = true
    rw [pwJ, List.all_eq_true]
    intro q hq
    have hp : ((l.take (k + 1)).map (enx X)).Pairwise (sepE (X 0)) := h.sublist ((List.take_sublist _ _).map _)
    rw [List.take_succ, hx, List.map_append] at hp
    have hs := (List.pairwise_append.mp hp).2.2 (enx X q) (List.mem_map.mpr ⟨q, hq, rfl⟩) (enx X l[k]) (by simp)
    have hs' : X q = X l[k] → (X (q + 3) + X 0 ≤ X (l[k] + 2) ∨ X (l[k] + 3) + X 0 ≤ X (q + 2)) := hs
    rw [Bool.not_eq_true', ← Bool.not_eq_true]
    simp only [clsh, Bool.and_eq_true, decide_eq_true_eq]
    rintro ⟨e1, e2, e3⟩
    have := hs' e1.symm
    omega
def NC (X : Nat → Nat) : Prop := ∀ day, day < 84 → ((lk X day).map (enx X)).Pairwise (sepE (X 0))
theorem lk_u0 (X : Nat → Nat) (v day : Nat) : lk (uN X 0 v) day = lk X day := by
  have e1 : ∀ k, lkR (uN X 0 v) day k = lkR X day k := fun k => by
    induction k with
    | zero => rfl
    | succ k ih =>
      rw [lkR, lkR, ih]
      congr 1
  have e2 : ∀ k, lkS (uN X 0 v) day k = lkS X day k := fun k => by
    induction k with
    | zero => rfl
    | succ k ih => rw [lkS, lkS, ih, uN_n _ _ (by omega)]
  rw [lk, lk, uN_n _ _ (by omega), uN_n _ _ (by omega), e1, e2]
theorem lk_low {X : Nat → Nat} {day p : Nat} (hX : wf0 X) (hp : p ∈ lk X day) : 12 ≤ p := by
  rcases lk_plc hX hp with ⟨i, -, rfl⟩ | ⟨i, -, rfl⟩ <;> omega
theorem enx_u0 {X : Nat → Nat} (hX : wf0 X) (v day : Nat) : (lk X day).map (enx (uN X 0 v)) = (lk X day).map (enx X) := List.map_congr_left (fun p hp => by
  have := lk_low hX hp
  unfold enx
  rw [uN_n _ _ (by omega), uN_n _ _ (by omega), uN_n _ _ (by omega)])
theorem lk_ft {X : Nat → Nat} (h2 : wf2 X) {day : Nat} : ∀ e ∈ (lk X day).map (enx X), e.2.1 < e.2.2 := fun e he => by
  obtain ⟨p, hp, rfl⟩ := List.mem_map.mp he
  exact (lk_ok h2 hp).2.1
/-- a day can be cleaned: the same on both sides, and then no two lets clash -/
theorem ab_gd {Y : Nat → Nat → Nat} {X : Nat → Nat} (h : Ab Y 9 X) (hX : wf0 X) (h2 : wf2 X) {day : Nat} (hd : day < 84) (c : Nat) : cbL Y c (opL Y 9 day) (0, fun _ => 0) = gdD (uN X 0 c) day ∧ (gdD (uN X 0 c) day = true → ((lk X day).map (enx X)).Pairwise (sepE c)) := by
  have hs : srtP ([] : List cE) := List.Pairwise.nil
  have ec : (uN X 0 c) 0 = c := uN_s _ _ _
  have e1 : mok c 0 (csK (uN X 0 c) (lk (uN X 0 c) day) (lk (uN X 0 c) day).length) = mok c 0 (srtE ((lk X day).map (enx X)) []) := by
    rw [csK_all, lk_u0, enx_u0 hX]
  have imp : mok c 0 (srtE ((lk X day).map (enx X)) []) = true → ((lk X day).map (enx X)).Pairwise (sepE c) := fun hm => by
    have hp := mok_sep _ _ (fun e he => by
      rcases (srtE_mem _ _ hs).mp he with he | he
      · exact lk_ft h2 e he
      · cases he) hm
    have hp2 : (srtE ((lk X day).map (enx X)) []).Pairwise (sepE c) := hp.imp (fun q e => Or.inl (q e))
    exact ((sep_srt _ _ hs).mp hp2).1
  have e2 : gdD (uN X 0 c) day = mok c 0 (srtE ((lk X day).map (enx X)) []) := by
    rw [gdD, ec, e1, Bool.eq_iff_iff, Bool.and_eq_true]
    refine ⟨fun q => q.2, fun q => ⟨?_, q⟩⟩
    refine pwK_all ?_ _ (Nat.le_refl _)
    rw [lk_u0, enx_u0 hX, ec]
    exact imp q
  rw [e2]
  refine ⟨?_, imp⟩
  rw [cbL_E, opL_map, ab_ent h hd, cbE_mok]
theorem ab_al {Y : Nat → Nat → Nat} {X : Nat → Nat} (h : Ab Y 9 X) (hX : wf0 X) (h2 : wf2 X) (c : Nat) : ∀ n day, day + n ≤ 84 → acC Y c n day = alD (uN X 0 c) n day ∧ (alD (uN X 0 c) n day = true → ∀ d, day ≤ d → d < day + n → ((lk X d).map (enx X)).Pairwise (sepE c))
  | 0, _, _ => ⟨rfl, fun _ d h1 h2 => by omega⟩
  | n + 1, day, hd => by
    obtain ⟨i1, i2⟩ := ab_al h hX h2 c n (day + 1) (by omega)
    obtain ⟨g1, g2⟩ := ab_gd h hX h2 (day := day) (by omega) c
    rw [acC, alD, g1, i1]
    refine ⟨rfl, fun ht d d1 d2 => ?_⟩
    rw [Bool.and_eq_true] at ht
    by_cases e : d = day
    · subst e; exact g2 ht.1
    · exact i2 ht.2 d (by omega) (by omega)
theorem mxS_St {w : Nat} (h : w ≤ 4) : zSt w = mxS w := by
  rcases (show w = 0 ∨ w = 1 ∨ w = 2 ∨ w = 3 ∨ w = 4 by omega) with rfl | rfl | rfl | rfl | rfl <;> rfl
theorem ab_set {Y : Nat → Nat → Nat} {X : Nat → Nat} (h : Ab Y 9 X) (hX : wf0 X) (h1 : wf1 X) (h2 : wf2 X) {w v : Nat} (hw : w ≤ 4) : alS Y w v = gdW X w v := by
  have e3 : Y 35 3 = X 3 := h.1 3 (by omega)
  have e4 : Y 35 4 = X 4 := h.1 4 (by omega)
  have h34 := h1.2.2.2.1
  unfold alS gdW
  rcases (show w = 0 ∨ w = 1 ∨ w = 2 ∨ w = 3 ∨ w = 4 by omega) with rfl | rfl | rfl | rfl | rfl
  · rw [if_pos rfl, (ab_al h hX h2 v 84 0 (by omega)).1, uN_n _ _ (by omega), uN_n _ _ (by omega), decide_eq_true h34]
    simp
  · rw [uN_n _ _ (by omega), uN_n _ _ (by omega), decide_eq_true h34]
    simp
  · rw [uN_n _ _ (by omega), uN_n _ _ (by omega), decide_eq_true h34]
    simp
  · rw [uN_s, uN_n _ _ (by omega), e4]
    simp
  · rw [uN_s, uN_n _ _ (by omega), e3]
    simp
