/-! mathematics: the law's diary and the row of numbers X -/
def Lw (X N R D : Nat → Nat) : Prop := (∀ j, j < 11 → N j = X j) ∧ (N 11 = X 11 ∧ N 12 = X 92) ∧ (X 11 ≤ 4 ∧ X 92 ≤ 8) ∧ (∀ i, i < X 11 → RgR (rw R i) (rg X i)) ∧ ∀ i, i < X 92 → ∀ j, j < 7 → D (7 * i + j) = X (93 + 7 * i + j)
section LW
variable {X N R D : Nat → Nat}
theorem Lw_r (h : Lw X N R D) {i j : Nat} (hi : i < X 11) (hj : j < 9) : R (11 * i + j) = X (12 + 10 * i + j) := (h.2.2.2.1 i hi).1 j hj
theorem Lw_d (h : Lw X N R D) {i j : Nat} (hi : i < X 92) (hj : j < 7) : D (7 * i + j) = X (93 + 7 * i + j) := h.2.2.2.2 i hi j hj
theorem Lw_B (h : Lw X N R D) (hX : XG X) : lB N R D := by
  obtain ⟨⟨hr, -, -⟩, w1, -, -⟩ := hX
  obtain ⟨h1, ⟨h2, h3⟩, ⟨h4, h5⟩, h6, h7⟩ := id h
  refine ⟨by rw [h1 0 (by omega)]; exact w1.1, by omega, by omega, fun j hj hj2 => ?_, fun j hj => ?_⟩
  · rw [h2] at hj
    have hi : j / 11 < X 11 := by omega
    rw [show j = 11 * (j / 11) + j % 11 by omega]
    by_cases h9 : j % 11 = 9
    · rw [h9]
      exact Nat.lt_trans (h6 _ hi).2.1 (by decide)
    · rw [Lw_r h hi (by omega)]
      exact hr _ (by omega) (by omega) (by omega) (by omega)
  · rw [h3] at hj
    have hi : j / 7 < X 92 := by omega
    rw [show j = 7 * (j / 7) + j % 7 by omega, Lw_d h hi (by omega)]
    exact hr _ (by omega) (by omega) (by omega) (by omega)
theorem Lw_eR (h : Lw X N R D) {i : Nat} (hi : i < X 11) : eR R i = enx X (12 + 10 * i) := by
  have e0 : R (11 * i) = X (12 + 10 * i) := Lw_r h hi (j := 0) (by omega)
  unfold eR enx
  rw [e0, Lw_r h hi (by omega), Lw_r h hi (by omega)]
theorem Lw_eD (h : Lw X N R D) {i : Nat} (hi : i < X 92) : eD D i = enx X (93 + 7 * i) := by
  have e0 : D (7 * i) = X (93 + 7 * i) := Lw_d h hi (j := 0) (by omega)
  unfold eD enx
  rw [e0, Lw_d h hi (by omega), Lw_d h hi (by omega)]
def okT (e : cE) : Prop := e.1 ≤ 2 ∧ e.2.1 < e.2.2 ∧ e.2.2 ≤ 24
theorem okT_E {e : cE} (h : okT e) : okE e := ⟨h.1, by have := h.2.1; have := h.2.2; omega, h.2.2⟩
theorem okT_R (hX : XG X) {i : Nat} (hi : i < X 11) : okT (enx X (12 + 10 * i)) := by
  obtain ⟨a1, a2, a3, -⟩ := (hX.2.2.1.1 i hi).1
  exact ⟨a1, a2, a3⟩
theorem okT_D (hX : XG X) {i : Nat} (hi : i < X 92) : okT (enx X (93 + 7 * i)) := by
  obtain ⟨a1, a2, a3, -⟩ := (hX.2.2.1.2 i hi).1
  exact ⟨a1, a2, a3⟩
theorem okT_lk (hX : XG X) {day p : Nat} (hp : p ∈ lk X day) : okT (enx X p) := by
  obtain ⟨a1, a2, a3, -⟩ := lk_ok hX.2.2.1 hp
  exact ⟨a1, a2, a3⟩
theorem Lw_C (h : Lw X N R D) (hX : XG X) : lC N R D := by
  refine ⟨fun i hi => ?_, fun i hi => ?_⟩
  · rw [h.2.1.1] at hi
    rw [Lw_eR h hi]
    exact okT_E (okT_R hX hi)
  · rw [h.2.1.2] at hi
    rw [Lw_eD h hi]
    exact okT_E (okT_D hX hi)
theorem Lw_st (h : Lw X N R D) {i day : Nat} (hi : i < X 11) (hd : day < 84) : stB R i day = stdR X i day := by
  rw [← std_R (h.2.2.2.1 i hi) hd]
  unfold stB vStd
  have e : decide (R (11 * i + 1) = day % 7) = decide (day % 7 = rw R i 1) := by
    have : rw R i 1 = R (11 * i + 1) := rfl
    rw [this]
    exact decide_eq_decide.mpr ⟨fun q => q.symm, fun q => q.symm⟩
  rw [e]
  rfl
def eX (X : Nat → Nat) (p : Nat) : cE × Nat := (enx X p, X (p + 4))
theorem Lw_esR (h : Lw X N R D) {day : Nat} (hd : day < 84) : ∀ k, k ≤ X 11 → esR R day k = (lkR X day k).map (eX X)
  | 0, _ => rfl
  | k + 1, hk => by
    rw [esR, lkR, List.map_append, Lw_esR h hd k (by omega), Lw_st h (by omega) hd, Lw_eR h (by omega), Lw_r h (by omega) (by omega)]
    cases stdR X k day <;> rfl
theorem Lw_esD (h : Lw X N R D) {day : Nat} : ∀ k, k ≤ X 92 → esD D day k = (lkS X day k).map (eX X)
  | 0, _ => rfl
  | k + 1, hk => by
    rw [esD, lkS, List.map_append, Lw_esD h k (by omega), Lw_eD h (by omega), Lw_d h (by omega) (by omega), Lw_d h (by omega) (by omega)]
    cases decide (X (93 + 7 * k + 1) = day) <;> rfl
theorem Lw_es (h : Lw X N R D) {day : Nat} (hd : day < 84) : esA N R D day = (lk X day).map (eX X) := by
  rw [esA, lk, List.map_append, h.2.1.1, h.2.1.2, Lw_esR h hd _ (Nat.le_refl _), Lw_esD h _ (Nat.le_refl _)]
theorem clB_e {f t f2 t2 c : Nat} (h : f < t) (h2 : f2 < t2) : clB f t f2 t2 c = (decide (f < t2 + c) && decide (f2 < t + c)) := by
  unfold clB
  split
  · rw [decide_eq_true (show f < t2 + c by omega), Bool.true_and]
  · rw [decide_eq_true (show f2 < t + c by omega), Bool.and_true]
theorem ncl_e {w e : cE} {c : Nat} (hw : w.2.1 < w.2.2) (he : e.2.1 < e.2.2) : nclw w c e = nclE w c e := by
  unfold nclw nclE
  rw [clB_e hw he]
/-- no two of a hall that end together -/
def ntE (a b : cE) : Prop := ¬ (a.2.2 = b.2.2 ∧ a.1 = b.1)
theorem nt_sym {a b : cE} (h : ntE a b) : ntE b a := fun q => h ⟨q.1.symm, q.2.symm⟩
theorem nt_sep {c : Nat} {a b : cE} (h : sepE c a b) (ha : a.2.1 < a.2.2) (hb : b.2.1 < b.2.2) : ntE a b := fun q => by
  have := h q.2
  have := q.1
  omega
theorem key_lt {e x : cE} (he : okE e) (hx : okE x) (h : ntE e x) : keyE e < keyE x ↔ gtE x e = true := by
  rw [gtE_iff]
  obtain ⟨a1, a2, a3⟩ := he
  obtain ⟨b1, b2, b3⟩ := hx
  unfold ntE at h
  unfold keyE
  omega
theorem insK_map {e : cE} (he : okE e) : ∀ r : List cE, (∀ x ∈ r, okE x ∧ ntE e x) → insK (keyE e) (r.map keyE) = (insR e r).map keyE
  | [], _ => rfl
  | x :: r, h => by
    have h0 := h x List.mem_cons_self
    have hk := key_lt he h0.1 h0.2
    rw [List.map_cons, insK, insR, insK_map he r (fun y hy => h y (List.mem_cons_of_mem _ hy))]
    cases hg : gtE x e
    · rw [if_neg (fun q => by rw [hk, hg] at q; cases q), cond_false]
      rfl
    · rw [if_pos (hk.mpr hg), cond_true]
      rfl
theorem putK_map {e : cE} {l : List cE} (he : okE e) (h : ∀ x ∈ l, okE x ∧ ntE e x) : putK (keyE e) (l.map keyE) = (addC e l).map keyE := by
  unfold putK addC
  rw [← List.map_reverse, insK_map he _ (fun x hx => h x (List.mem_reverse.mp hx)), List.map_reverse]
theorem kl_srt {w : cE} {c : Nat} : ∀ (E : List (cE × Nat)) (l : List cE), (∀ e ∈ E, okE e.1 ∧ nclw w c e.1 = nclE w c e.1) → (∀ x ∈ l, okE x) → (∀ e ∈ E, nclE w c e.1 = true → ∀ x ∈ l, ntE e.1 x) → E.Pairwise (fun a b => ntE a.1 b.1) → E.foldl (fun l e => bif nclw w c e.1 then putK (keyE e.1) l else l) (l.map keyE) = (srtE ((E.map Prod.fst).filter (nclE w c)) l).map keyE
  | [], l, _, _, _, _ => rfl
  | e :: E, l, h1, h2, h3, h4 => by
    have h0 := h1 e List.mem_cons_self
    rw [List.foldl_cons, h0.2, List.map_cons, List.filter_cons]
    rw [List.pairwise_cons] at h4
    cases hn : nclE w c e.1
    · rw [cond_false]
      exact kl_srt E l (fun x hx => h1 x (List.mem_cons_of_mem _ hx)) h2 (fun x hx => h3 x (List.mem_cons_of_mem _ hx)) h4.2
    · rw [cond_true, if_pos rfl, putK_map h0.1 (fun x hx => ⟨h2 x hx, h3 e List.mem_cons_self hn x hx⟩)]
      rw [kl_srt E (addC e.1 l) (fun x hx => h1 x (List.mem_cons_of_mem _ hx)) (fun x hx => ?_) (fun y hy hny x hx => ?_) h4.2]
      · rfl
      · rcases addC_mem hx with rfl | hx
        · exact h0.1
        · exact h2 x hx
      · rcases addC_mem hx with rfl | hx
        · exact nt_sym (h4.1 y hy)
        · exact h3 y (List.mem_cons_of_mem _ hy) hny x hx
theorem gt_x {a b : cE} (h : ntE a b) : gtE a b = !gtE b a := by
  have h1 := gtE_iff a b
  have h2 := gtE_iff b a
  unfold ntE at h
  cases ha : gtE a b <;> cases hb : gtE b a <;> rw [ha] at h1 <;> rw [hb] at h2 <;> simp at h1 h2 ⊢ <;> omega
theorem insF_comm {d w : cE} (h : ntE d w) : ∀ l : List cE, insF d (insF w l) = insF w (insF d l)
  | [] => by
    have h2 := gt_x h
    simp only [insF]
    cases hg : gtE d w <;> rw [hg] at h2 <;> cases hg2 : gtE w d <;> rw [hg2] at h2 <;> simp_all
  | e :: r => by
    have ih := insF_comm h r
    have h0 := gt_x h
    have h1 := gtE_iff e w
    have h2 := gtE_iff e d
    have h3 := gtE_iff w d
    have h4 := gtE_iff d w
    cases a1 : gtE e w <;> cases a2 : gtE e d <;> cases a3 : gtE w d <;> cases a4 : gtE d w <;> simp only [insF, a1, a2, a3, a4, cond_true, cond_false] <;> simp only [a1, a2, a3, a4, Bool.false_eq_true, false_iff, true_iff] at h0 h1 h2 h3 h4 <;> first | rfl | (rw [ih]) | (exfalso; revert h0; decide) | (exfalso; omega)
theorem srt_w {w : cE} : ∀ (D' l : List cE), srtP l → (∀ d ∈ D', ntE d w) → srtE D' (insF w l) = insF w (srtE D' l)
  | [], _, _, _ => rfl
  | d :: D', l, hl, h => by
    have e1 : srtE (d :: D') (insF w l) = srtE D' (addC d (insF w l)) := rfl
    have e2 : srtE (d :: D') l = srtE D' (addC d l) := rfl
    rw [e1, e2, addC_F (insF_s hl), addC_F hl, insF_comm (h d List.mem_cons_self)]
    exact srt_w D' (insF d l) (insF_s hl) (fun x hx => h x (List.mem_cons_of_mem _ hx))
theorem mok_all {c : Nat} : ∀ (l : List cE) (o B ha : Nat), mok c o l = true → B ≤ o → (∀ x, l.find? (fun y => decide (y.1 = ha)) = some x → B ≤ x.2.1) → ∀ y ∈ l, y.1 = ha → B ≤ y.2.1
  | [], _, _, _, _, _, _, y, hy, _ => by cases hy
  | e :: t, o, B, ha, hm, hB, hf, y, hy, hya => by
    rw [mok, Bool.and_eq_true] at hm
    obtain ⟨m1, m2⟩ := hm
    have ho : B ≤ (if e.2.2 < o then o else e.2.2) + c := by split <;> omega
    rw [List.find?_cons] at hf
    by_cases he : e.1 = ha
    · rw [decide_eq_true he] at hf
      have hfe : B ≤ e.2.1 := hf e rfl
      rcases List.mem_cons.mp hy with rfl | hy
      · exact hfe
      · refine mok_all t _ B ha m2 ho (fun x hx => ?_) y hy hya
        rw [← he] at hx
        rw [hx] at m1
        have := of_decide_eq_true m1
        omega
    · rw [decide_eq_false he] at hf
      rcases List.mem_cons.mp hy with rfl | hy
      · exact absurd hya he
      · exact mok_all t _ B ha m2 ho hf y hy hya
theorem icl_mok {c : Nat} : ∀ (l : List cE) (o : Nat), (∀ e ∈ l, okE e) → icl c o (l.map keyE) = mok c o l
  | [], _, _ => rfl
  | e :: t, o, h => by
    obtain ⟨a1, a2, a3⟩ := h e List.mem_cons_self
    have ht : ∀ x ∈ t, okE x := fun x hx => h x (List.mem_cons_of_mem _ hx)
    have k1 : keyE e / 10000 = e.2.2 := by unfold keyE; omega
    have k2 : keyE e / 1000 % 10 = e.1 := by unfold keyE; omega
    have eo : (if o < e.2.2 then e.2.2 else o) = (if e.2.2 < o then o else e.2.2) := by split <;> split <;> omega
    rw [List.map_cons, icl, mok, k1, k2, eo, icl_mok t _ ht]
    cases hm : mok c ((if e.2.2 < o then o else e.2.2) + c) t
    · rw [Bool.and_false, Bool.and_false]
    · rw [Bool.and_true, Bool.and_true]
      rw [Bool.eq_iff_iff]
      rw [List.all_eq_true]
      constructor
      · intro ha
        cases hf : t.find? (fun x => decide (x.1 = e.1)) with
        | none => rfl
        | some x =>
          have hx := List.mem_of_find?_eq_some hf
          have hx3 : decide (x.1 = e.1) = true := List.find?_some (p := fun x : cE => decide (x.1 = e.1)) hf
          have hx2 := of_decide_eq_true hx3
          obtain ⟨b1, b2, b3⟩ := ht x hx
          have := ha (keyE x) (List.mem_map.mpr ⟨x, hx, rfl⟩)
          rw [show keyE x / 1000 % 10 = x.1 by unfold keyE; omega, show keyE x % 1000 = x.2.1 by unfold keyE; omega, decide_eq_true hx2] at this
          simpa using this
      · intro hq y hy
        obtain ⟨x, hx, rfl⟩ := List.mem_map.mp hy
        obtain ⟨b1, b2, b3⟩ := ht x hx
        rw [show keyE x / 1000 % 10 = x.1 by unfold keyE; omega, show keyE x % 1000 = x.2.1 by unfold keyE; omega]
        by_cases hxe : x.1 = e.1
        · have := mok_all t _ _ e.1 hm (Nat.le_refl _) (fun z hz => by rw [hz] at hq; exact of_decide_eq_true hq) x hx hxe
          rw [decide_eq_true this, Bool.or_true]
        · rw [decide_eq_false hxe]
          rfl
theorem srtE_ok {P : cE → Prop} (D' l : List cE) (hD : ∀ e ∈ D', P e) (hl : ∀ e ∈ l, P e) (hs : srtP l) : ∀ e ∈ srtE D' l, P e := fun e he => ((srtE_mem D' l hs).mp he).elim (hD e) (hl e)
theorem srt_nil : srtP [] := List.Pairwise.nil
theorem pw_fst {c : Nat} {X : Nat → Nat} {l : List Nat} (h : (l.map (enx X)).Pairwise (sepE c)) (ho : ∀ p ∈ l, okT (enx X p)) : (l.map (eX X)).Pairwise (fun a b => ntE a.1 b.1) := by
  rw [List.pairwise_map] at h ⊢
  exact h.imp_of_mem (fun ha hb q => nt_sep q (ho _ ha).2.1 (ho _ hb).2.1)
theorem Lw_rs (h : Lw X N R D) (hX : XG X) {a day f t rk : Nat} (ha : a ≤ 2) (hd : day < 84) (hft : f < t) (ht : t ≤ 24) : rsL N R D a day f t rk = rsn X a day f t rk := by
  have e0 : N 0 = X 0 := h.1 0 (by omega)
  have hw : okT (a, f, t) := ⟨ha, hft, ht⟩
  unfold rsn
  rw [rsnR_eq, rsL, Lw_es h hd, e0]
  have hok : ∀ e ∈ (lk X day).map (eX X), okT e.1 := fun e he => by
    obtain ⟨p, hp, rfl⟩ := List.mem_map.mp he
    exact okT_lk hX hp
  have eh : hgL (a, f, t) (X 0) rk ((lk X day).map (eX X)) = (lk X day).any (fun p => clsh X p a f t && decide (rk ≤ X (p + 4))) := by
    unfold hgL
    rw [any_map, Bool.eq_iff_iff, List.any_eq_true, List.any_eq_true]
    have key : ∀ p ∈ lk X day, ((!nclw (a, f, t) (X 0) (eX X p).1 && decide (rk ≤ (eX X p).2)) = true ↔ (clsh X p a f t && decide (rk ≤ X (p + 4))) = true) := fun p hp => by
      have e1 : nclw (a, f, t) (X 0) (eX X p).1 = nclE (a, f, t) (X 0) (enx X p) := ncl_e hft (okT_lk hX hp).2.1
      rw [e1, clsh_n]
      rfl
    constructor
    · rintro ⟨p, hp, q⟩; exact ⟨p, hp, (key p hp).mp q⟩
    · rintro ⟨p, hp, q⟩; exact ⟨p, hp, (key p hp).mpr q⟩
  have ef : ((lk X day).map (eX X)).map Prod.fst = (lk X day).map (enx X) := by
    rw [List.map_map]
    rfl
  have hDk : ∀ d ∈ ((lk X day).map (enx X)).filter (nclE (a, f, t) (X 0)), okT d ∧ ntE d (a, f, t) := fun d hd => by
    obtain ⟨d1, d2⟩ := List.mem_filter.mp hd
    obtain ⟨p, hp, rfl⟩ := List.mem_map.mp d1
    have ho := okT_lk hX hp
    exact ⟨ho, nt_sep (ncl_sep d2) ho.2.1 hft⟩
  have ek : icl (X 0) 0 (klL (a, f, t) (X 0) ((lk X day).map (eX X))) = mok (X 0) 0 (addC (a, f, t) (srtE (((lk X day).map (enx X)).filter (nclE (a, f, t) (X 0))) [])) := by
    have e1 := kl_srt (w := (a, f, t)) (c := X 0) ((lk X day).map (eX X)) [(a, f, t)] (fun e he => ⟨okT_E (hok e he), ncl_e hft (hok e he).2.1⟩) (fun x hx => by rw [List.mem_singleton.mp hx]; exact okT_E hw) (fun e he hn x hx => by rw [List.mem_singleton.mp hx]; exact nt_sep (ncl_sep hn) (hok e he).2.1 hft) (pw_fst (hX.2.2.2 day hd) (fun p hp => okT_lk hX hp))
    rw [ef] at e1
    have e2 : klL (a, f, t) (X 0) ((lk X day).map (eX X)) = (srtE (((lk X day).map (enx X)).filter (nclE (a, f, t) (X 0))) [(a, f, t)]).map keyE := e1
    have e3 := srt_w (w := (a, f, t)) (((lk X day).map (enx X)).filter (nclE (a, f, t) (X 0))) [] srt_nil (fun d hd => (hDk d hd).2)
    have e4 : srtE (((lk X day).map (enx X)).filter (nclE (a, f, t) (X 0))) [(a, f, t)] = insF (a, f, t) (srtE (((lk X day).map (enx X)).filter (nclE (a, f, t) (X 0))) []) := e3
    rw [e2, addC_F (srtE_s _ _ srt_nil), ← e4]
    exact icl_mok _ _ (srtE_ok _ _ (fun e he => okT_E (hDk e he).1) (fun x hx => by rw [List.mem_singleton.mp hx]; exact okT_E hw) (List.pairwise_singleton _ _))
  rw [eh, ek]
/-! what gives way -/
theorem lv_64 : ∀ w, w < 12 → ∀ a, a < 64 → ∀ b, b < 64 → (64 * a + b) / 2 ^ w % 2 = 1 → (64 * a + b) - 2 ^ w = lvW (64 * a + b) w := by decide +kernel
theorem lvs29 {W w : Nat} (hw : w < 12) (hW : W < 4096) (h : W / 2 ^ w % 2 = 1) : W - 2 ^ w = lvW W w := by
  have := lv_64 w hw (W / 64) (by omega) (W % 64) (by omega)
  rw [Nat.div_add_mod] at this
  exact this h
theorem Lw_g1 (h : Lw X N R D) (hX : XG X) {day a f t i : Nat} (hd : day < 84) (hft : f < t) (hi : i < X 11) : lgR N R a day f t i = g1X X day a f t i := by
  have ho := okT_R hX hi
  have e0 : R (11 * i) = X (12 + 10 * i) := Lw_r h hi (j := 0) (by omega)
  have b : X (12 + 10 * i + 2) < X (12 + 10 * i + 3) := ho.2.1
  unfold lgR g1X clsh
  rw [e0, Lw_st h hi hd, Lw_r h hi (by omega), Lw_r h hi (by omega), h.1 0 (by omega), clB_e hft b]
  cases decide (X (12 + 10 * i) = a) <;> cases stdR X i day <;> rfl
theorem Lw_g2 (h : Lw X N R D) (hX : XG X) {day a f t i : Nat} (hft : f < t) (hi : i < X 92) : lgD N D a day f t i = g2X X day a f t i := by
  have ho := okT_D hX hi
  have e0 : D (7 * i) = X (93 + 7 * i) := Lw_d h hi (j := 0) (by omega)
  have b : X (93 + 7 * i + 2) < X (93 + 7 * i + 3) := ho.2.1
  unfold lgD g2X clsh
  rw [e0, Lw_d h hi (by omega), Lw_d h hi (by omega), Lw_d h hi (by omega), h.1 0 (by omega), clB_e hft b]
  cases decide (X (93 + 7 * i) = a) <;> cases decide (X (93 + 7 * i + 1) = day) <;> rfl
theorem kpL_q {g g' : Nat → Bool} : ∀ n, (∀ i, i < n → g i = g' i) → kpL g n = kpL g' n
  | 0, _ => rfl
  | n + 1, h => by rw [kpL, kpL, h n (by omega), kpL_q n (fun i hi => h i (by omega))]
theorem dR_all (g : Nat → Bool) (V : Nat → Nat → Nat) (n : Nat) : dR g V n n = gR g V n := by
  have := dR_gR g V n n (Nat.le_refl _)
  rw [Nat.sub_self, gR, Nat.add_zero] at this
  exact this
theorem dN_all (g : Nat → Bool) (n : Nat) : dN g n n = gN g n := by
  have := dN_gN g n n (Nat.le_refl _)
  rw [Nat.sub_self, gN, Nat.add_zero] at this
  exact this
theorem Lw_gw (h : Lw X N R D) (hX : XG X) {day a f t : Nat} (hd : day < 84) (hft : f < t) {D' : Nat → Nat} (hP : P2 D D' (kpL (lgD N D a day f t) (N 12)) (N 12) (N 12)) :
    Lw (gw X day a f t).2 (nN N (N 9 + gR (lgR N R a day f t) (rw R) (N 11) + gR (lgD N D a day f t) (dw D) (N 12)) (N 10 + (gN (lgR N R a day f t) (N 11) + gN (lgD N D a day f t) (N 12))) (kpL (lgD N D a day f t) (N 12)).length) (gwRf R (lgR N R a day f t) (2 ^ (day / 7)) (N 11)) D' ∧ gN (lgR N R a day f t) (N 11) + gN (lgD N D a day f t) (N 12) = (gw X day a f t).1 := by
  have h' := h
  obtain ⟨h1, ⟨h2, h3⟩, ⟨h4, h5⟩, h6, h7⟩ := h'
  obtain ⟨ec, g11, g92, gS, gRw, gR9, g8, g9, g10⟩ := gw_rows hX.1 (day := day) (h := a) (f := f) (t := t)
  have eg1 : ∀ i, i < N 11 → lgR N R a day f t i = g1X X day a f t i := fun i hi => Lw_g1 h hX hd hft (by omega)
  have eg2 : ∀ i, i < N 12 → lgD N D a day f t i = g2X X day a f t i := fun i hi => Lw_g2 h hX hft (by omega)
  have n1 : gN (lgR N R a day f t) (N 11) = gN (g1X X day a f t) (X 11) := by rw [← h2]; exact gN_q _ eg1
  have n2 : gN (lgD N D a day f t) (N 12) = dN (g2X X day a f t) (X 92) (X 92) := by rw [dN_all, ← h3]; exact gN_q _ eg2
  have r1 : gR (lgR N R a day f t) (rw R) (N 11) = gR (g1X X day a f t) (rg X) (X 11) := by
    rw [← h2]
    exact gR_q _ eg1 (fun i hi => Lw_r h (by omega) (by omega))
  have r2 : gR (lgD N D a day f t) (dw D) (N 12) = dR (g2X X day a f t) (sg X) (X 92) (X 92) := by
    rw [dR_all, ← h3]
    exact gR_q _ eg2 (fun i hi => Lw_d h (by omega) (by omega))
  have ek : kpL (lgD N D a day f t) (N 12) = dI (g2X X day a f t) (X 92) (X 92) := by
    rw [kpL_q _ eg2, h3, kpL_all]
  refine ⟨⟨fun j hj => ?_, ⟨?_, ?_⟩, ⟨by omega, ?_⟩, fun i hi => ?_, fun i hi j hj => ?_⟩, by rw [n1, n2, ec]⟩
  · by_cases j9 : j = 9
    · subst j9
      rw [g9, ← h1 9 (by omega), ← r1, ← r2]
      exact Nat.add_assoc _ _ _
    · by_cases j10 : j = 10
      · subst j10
        rw [g10, ← h1 10 (by omega), ← n1, ← n2]
        rfl
      · rw [nN_o _ _ _ _ j9 j10 (by omega), g8 j (by omega)]
        exact h1 j hj
  · rw [nN_o _ _ _ _ (by omega) (by omega) (by omega), g11]
    exact h2
  · rw [g92, ← ek]
    rfl
  · rw [g92, ← ek]
    have := kpL_len (lgD N D a day f t) (N 12)
    omega
  · rw [g11] at hi
    have hR := h6 i hi
    have hrow : ∀ j, j < 11 → j ≠ 9 → gwRf R (lgR N R a day f t) (2 ^ (day / 7)) (N 11) (11 * i + j) = R (11 * i + j) := fun j hj hj9 => by
      unfold gwRf
      rw [if_neg (by omega)]
    have h9 : gwRf R (lgR N R a day f t) (2 ^ (day / 7)) (N 11) (11 * i + 9) = bif g1X X day a f t i then R (11 * i + 9) - 2 ^ (day / 7) else R (11 * i + 9) := by
      unfold gwRf
      have e : (11 * i + 9) / 11 = i := by omega
      rw [e, ← eg1 i (by omega)]
      cases hg : lgR N R a day f t i
      · rw [if_neg (by rintro ⟨-, -, q⟩; cases q), cond_false]
      · rw [if_pos ⟨by omega, by omega, rfl⟩, cond_true]
    cases hg : g1X X day a f t i
    · refine RgR_c hR (fun j hj => ?_) (fun j hj => ?_)
      · by_cases j9 : j = 9
        · subst j9
          rw [hg, cond_false] at h9
          exact h9
        · exact hrow j (by omega) j9
      · by_cases j9 : j = 9
        · subst j9
          have := gR9 i hi
          rw [hg, cond_false] at this
          exact this
        · exact gRw i hi j (by omega)
    · have hst : stB R i day = true := by
        rw [Lw_st h hi hd]
        unfold g1X at hg
        rw [Bool.and_eq_true] at hg
        exact hg.1
      simp only [stB, Bool.and_eq_true, decide_eq_true_eq] at hst
      have hlv := lvs29 (w := day / 7) (by omega) hR.2.1 hst.2
      refine RgR_c (RgR_lv hR (a := day / 7) (by omega)) (fun j hj => ?_) (fun j hj => ?_)
      · by_cases j9 : j = 9
        · subst j9
          rw [hg, cond_true] at h9
          rw [uN_s, ← hlv]
          exact h9
        · rw [uN_n _ _ j9]
          exact hrow j (by omega) j9
      · by_cases j9 : j = 9
        · subst j9
          have := gR9 i hi
          rw [hg, cond_true] at this
          rw [uN_s]
          exact this
        · rw [uN_n _ _ j9]
          exact gRw i hi j (by omega)
  · rw [g92] at hi
    have hm : (dI (g2X X day a f t) (X 92) (X 92))[i]? = some ((dI (g2X X day a f t) (X 92) (X 92))[i]) := List.getElem?_eq_getElem hi
    have hk : ∀ k, (dI (g2X X day a f t) (X 92) (X 92))[i]? = some k → D' (7 * i + j) = (gw X day a f t).2 (93 + 7 * i + j) := fun k hk => by
      rw [gS i k hk j hj, ← Lw_d h (by have := (dI_mem _ (Nat.le_refl _) (List.mem_of_getElem? hk)).1; omega) hj]
      exact hP.1 i k (by rw [ek]; exact hk) j hj
    exact hk _ hm
end LW
