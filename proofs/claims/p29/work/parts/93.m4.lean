/-! mathematics: how full a hall is, who has it -/
def aRs (X : Nat → Nat) (h n : Nat) : Nat → Nat
  | 0 => 0
  | k + 1 => aRs X h n k + (if X (12 + 10 * k) = h then ownH X 1 (12 + 10 * k) * dcnt X k n else 0)
def aSs (X : Nat → Nat) (h n : Nat) : Nat → Nat
  | 0 => 0
  | k + 1 => aSs X h n k + (if X (93 + 7 * k) = h then ownH X 1 (93 + 7 * k) * (if X (93 + 7 * k + 1) < n then 1 else 0) else 0)
theorem ihS_add (X : Nat → Nat) (h w : Nat) : ∀ (l : List Nat) (a : Nat), ihS X h w l a = a + ihS X h w l 0
  | [], a => rfl
  | p :: l, a => by
    rw [ihS, ihS, ihS_add X h w l (a + _), ihS_add X h w l (0 + _)]
    omega
theorem ihS_app (X : Nat → Nat) (h w : Nat) : ∀ (l m : List Nat) (a : Nat), ihS X h w (l ++ m) a = ihS X h w m (ihS X h w l a)
  | [], _, _ => rfl
  | p :: l, m, a => by
    rw [List.cons_append, ihS, ihS, ihS_app X h w l m]
theorem aRs_s (X : Nat → Nat) (h n : Nat) : ∀ k, aRs X h (n + 1) k = aRs X h n k + ihS X h 1 (lkR X n k) 0
  | 0 => rfl
  | k + 1 => by
    rw [aRs, aRs, aRs_s X h n k, lkR, ihS_app, ihS_add X h 1 _ (ihS X h 1 (lkR X n k) 0), dcnt]
    cases stdR X k n
    · show _ = _ + (_ + 0)
      rw [show (false).toNat = 0 from rfl, Nat.add_zero]
      omega
    · show _ = _ + (_ + (0 + (if X (12 + 10 * k) = h then ownH X 1 (12 + 10 * k) else 0)))
      rw [show (true).toNat = 1 from rfl]
      by_cases hh : X (12 + 10 * k) = h
      · rw [if_pos hh, if_pos hh, if_pos hh, Nat.mul_add, Nat.mul_one]
        omega
      · rw [if_neg hh, if_neg hh, if_neg hh]
        omega
theorem aSs_s (X : Nat → Nat) (h n : Nat) : ∀ k, aSs X h (n + 1) k = aSs X h n k + ihS X h 1 (lkS X n k) 0
  | 0 => rfl
  | k + 1 => by
    rw [aSs, aSs, aSs_s X h n k, lkS, ihS_app, ihS_add X h 1 _ (ihS X h 1 (lkS X n k) 0)]
    by_cases hh : X (93 + 7 * k) = h
    · by_cases e : X (93 + 7 * k + 1) = n
      · have e1 : X (93 + 7 * k + 1) < n + 1 := by omega
        have e2 : ¬ X (93 + 7 * k + 1) < n := by omega
        simp only [if_pos hh, if_pos e1, if_neg e2, decide_eq_true e, cond_true, ihS]
        omega
      · by_cases hl : X (93 + 7 * k + 1) < n
        · have e1 : X (93 + 7 * k + 1) < n + 1 := by omega
          simp only [if_pos hh, if_pos e1, if_pos hl, decide_eq_false e, cond_false, ihS]
          omega
        · have e1 : ¬ X (93 + 7 * k + 1) < n + 1 := by omega
          simp only [if_pos hh, if_neg e1, if_neg hl, decide_eq_false e, cond_false, ihS]
          omega
    · simp only [if_neg hh]
      cases decide (X (93 + 7 * k + 1) = n)
      · simp only [cond_false, ihS]
        omega
      · simp only [cond_true, ihS, if_neg hh]
        omega
theorem aRs_0 (X : Nat → Nat) (h : Nat) : ∀ k, aRs X h 0 k = 0
  | 0 => rfl
  | k + 1 => by
    rw [aRs, aRs_0 X h k]
    split <;> rfl
theorem aSs_0 (X : Nat → Nat) (h : Nat) : ∀ k, aSs X h 0 k = 0
  | 0 => rfl
  | k + 1 => by
    rw [aSs, aSs_0 X h k, if_neg (Nat.not_lt_zero _)]
    split <;> rfl
theorem shN_rows (X : Nat → Nat) (h : Nat) : ∀ n, shN X h n = aRs X h n (X 11) + aSs X h n (X 92)
  | 0 => by rw [shN, aRs_0, aSs_0]
  | n + 1 => by
    rw [shN, shN_rows X h n, aRs_s, aSs_s, lk, ihS_app, ihS_add X h 1 (lkS X n (X 92)) (ihS X h 1 (lkR X n (X 11)) 0)]
    omega
theorem ab_hi {Y : Nat → Nat → Nat} {X : Nat → Nat} (h : Ab Y 9 X) (a : Nat) : hiT Y a = shN X a 84 := by
  have e1 : Y 10 1 = X 11 := h.2.2.2.1.1
  have e2 : Y 20 1 = X 92 := h.2.2.2.1.2
  rw [hiT, shN_rows, e1, e2]
  congr 1
  · have key : ∀ k, k ≤ X 11 → hiV (rV Y 10) a k = aRs X a 84 k := fun k => by
      induction k with
      | zero => intro _; rfl
      | succ k ih =>
        intro hk
        have hr : RgR (rV Y 10 k) (rg X k) := h.2.2.2.2.1 k (by omega)
        have v0 : rV Y 10 k 0 = X (12 + 10 * k) := hr.1 0 (by omega)
        have v2 : rV Y 10 k 2 = X (12 + 10 * k + 2) := hr.1 2 (by omega)
        have v3 : rV Y 10 k 3 = X (12 + 10 * k + 3) := hr.1 3 (by omega)
        rw [hiV, aRs, ih (by omega), v0, v2, v3, dcnt_R hr]
        show _ = _ + (if X (12 + 10 * k) = a then (X (12 + 10 * k + 3) - X (12 + 10 * k + 2)) * bc12 (rV Y 10 k 9) else 0)
        split <;> rfl
    exact key _ (Nat.le_refl _)
  · have key : ∀ k, k ≤ X 92 → hiV (rV Y 20) a k = aSs X a 84 k := fun k => by
      induction k with
      | zero => intro _; rfl
      | succ k ih =>
        intro hk
        have hs : SgR (rV Y 20 k) (sg X k) := h.2.2.2.2.2 k (by omega)
        have v0 : rV Y 20 k 0 = X (93 + 7 * k) := hs.1
        have v2 : rV Y 20 k 2 = X (93 + 7 * k + 2) := hs.2.2.1 2 (by omega) (by omega)
        have v3 : rV Y 20 k 3 = X (93 + 7 * k + 3) := hs.2.2.1 3 (by omega) (by omega)
        have hb : X (93 + 7 * k + 1) < 84 := hs.2.2.2.2.2.2
        rw [hiV, aSs, ih (by omega), v0, v2, v3, bc_S hs, if_pos hb]
        show _ = _ + (if X (93 + 7 * k) = a then (X (93 + 7 * k + 3) - X (93 + 7 * k + 2)) * 1 else 0)
        split <;> rfl
    exact key _ (Nat.le_refl _)
/-- sums over what stands on a day -/
def own6 (w : Nat) (e : T6) : Nat := if w = 0 then 1 else if w = 1 then e.1.2.2 - e.1.2.1 else e.2.2.2
def sm6 (h w : Nat) : List T6 → Nat
  | [] => 0
  | e :: l => (if e.1.1 = h then own6 w e else 0) + sm6 h w l
theorem sm6_app (h w : Nat) : ∀ l m, sm6 h w (l ++ m) = sm6 h w l + sm6 h w m
  | [], m => by rw [List.nil_append, sm6, Nat.zero_add]
  | e :: l, m => by rw [List.cons_append, sm6, sm6, sm6_app h w l m, Nat.add_assoc]
theorem sm6_rev (h w : Nat) : ∀ l, sm6 h w l.reverse = sm6 h w l
  | [] => rfl
  | e :: l => by rw [List.reverse_cons, sm6_app, sm6_rev h w l, sm6, sm6, sm6]; omega
theorem sm6_ins (V : Nat → Nat → Nat) (h w a : Nat) : ∀ r, sm6 h w ((insA V a r).map (t6 V)) = sm6 h w ((a :: r).map (t6 V))
  | [] => rfl
  | e :: r => by
    rw [insA]
    cases vBf (V a) (V e)
    · rfl
    · rw [cond_true, List.map_cons, sm6, sm6_ins V h w a r, List.map_cons, List.map_cons, List.map_cons, sm6, sm6, sm6]
      omega
theorem sm6_ad (V : Nat → Nat → Nat) (h w a : Nat) (l : List Nat) : sm6 h w ((adA V a l).map (t6 V)) = sm6 h w ((a :: l).map (t6 V)) := by
  unfold adA
  rw [List.map_reverse, sm6_rev, sm6_ins, List.map_cons, sm6, List.map_reverse, sm6_rev, List.map_cons, sm6]
theorem sm6_fold (V : Nat → Nat → Nat) (h w : Nat) : ∀ (E l : List Nat), sm6 h w ((E.foldl (fun l a => adA V a l) l).map (t6 V)) = sm6 h w (E.map (t6 V)) + sm6 h w (l.map (t6 V))
  | [], l => by rw [List.foldl_nil, List.map_nil, sm6, Nat.zero_add]
  | e :: E, l => by
    rw [List.foldl_cons, sm6_fold V h w E, sm6_ad, List.map_cons, sm6, List.map_cons, sm6]
    omega
theorem smL_6 (V : Nat → Nat → Nat) (h : Nat) {w w' : Nat} (hw : (w = 0 ∧ w' = 0) ∨ (w = 3 ∧ w' = 1) ∨ (w = 2 ∧ w' = 2)) : ∀ l, smL V h w l = sm6 h w' (l.map (t6 V))
  | [] => rfl
  | a :: l => by
    rw [smL, List.map_cons, sm6, smL_6 V h hw l]
    congr 1
    show _ = (if V a 0 = h then own6 w' (t6 V a) else 0)
    rcases hw with ⟨rfl, rfl⟩ | ⟨rfl, rfl⟩ | ⟨rfl, rfl⟩ <;> rfl
theorem ihS_6 (X : Nat → Nat) (h : Nat) {w : Nat} (hw : w ≤ 2) : ∀ l, ihS X h w l 0 = sm6 h w (l.map (x6 X))
  | [] => rfl
  | p :: l => by
    rw [ihS, ihS_add, ihS_6 X h hw l, List.map_cons, sm6]
    congr 1
    show 0 + (if X p = h then ownH X w p else 0) = (if X p = h then own6 w (x6 X p) else 0)
    rw [Nat.zero_add]
    rcases (show w = 0 ∨ w = 1 ∨ w = 2 by omega) with rfl | rfl | rfl <;> rfl
theorem ab_sm {Y : Nat → Nat → Nat} {X : Nat → Nat} (h : Ab Y 9 X) {day : Nat} (hd : day < 84) (a : Nat) {w w' : Nat} (hw : (w = 0 ∧ w' = 0) ∨ (w = 3 ∧ w' = 1) ∨ (w = 2 ∧ w' = 2)) : smL Y a w (opL Y 9 day) = ihS X a w' (lk X day) 0 := by
  rw [smL_6 Y a hw, opL_f, sm6_fold, ab_opE h hd, ihS_6 X a (by omega)]
  rfl
/-- who has a hall at an hour -/
def mt6 (h hr : Nat) (e : T6) : Bool := decide (e.1.1 = h ∧ e.1.2.1 ≤ hr ∧ hr < e.1.2.2)
theorem pw_all {α : Type} {R : α → α → Prop} (hs : ∀ x y, R x y → R y x) : ∀ {l : List α}, l.Pairwise R → ∀ x ∈ l, ∀ y ∈ l, x ≠ y → R x y
  | [], _, x, hx, _, _, _ => by cases hx
  | a :: l, h, x, hx, y, hy, hn => by
    obtain ⟨h1, h2⟩ := List.pairwise_cons.mp h
    rcases List.mem_cons.mp hx with ex | hx'
    · rcases List.mem_cons.mp hy with ey | hy'
      · exact absurd (ex.trans ey.symm) hn
      · rw [ex]
        exact h1 y hy'
    · rcases List.mem_cons.mp hy with ey | hy'
      · rw [ey]
        exact hs _ _ (h1 x hx')
      · exact pw_all hs h2 x hx' y hy' hn
theorem mt_one {c h hr : Nat} {D : List T6} (hp : (D.map Prod.fst).Pairwise (sepE c)) : ∀ e ∈ D, ∀ e' ∈ D, mt6 h hr e = true → mt6 h hr e' = true → e = e' := fun e he e' he' h1 h2 => by
  have hp' : D.Pairwise (fun a b => sepE c a.1 b.1) := List.pairwise_map.mp hp
  by_cases hn : e = e'
  · exact hn
  · have := pw_all (fun x y q => sepE_sym q) hp' e he e' he' hn
    have a1 := of_decide_eq_true h1
    have a2 := of_decide_eq_true h2
    have := this (a1.1.trans a2.1.symm)
    omega
theorem taV_or (V : Nat → Nat → Nat) (h hr : Nat) : ∀ l : List Nat, (∀ a ∈ l, V a 2 < V a 3) → (∃ e ∈ l.map (t6 V), mt6 h hr e = true ∧ taV V h hr l = nI e.2.2.1) ∨ ((∀ e ∈ l.map (t6 V), mt6 h hr e = false) ∧ taV V h hr l = -1)
  | [], _ => Or.inr ⟨fun e he => (by cases he), rfl⟩
  | a :: l, hv => by
    have h3 := hv a List.mem_cons_self
    rw [taV]
    by_cases hm : V a 0 = h ∧ V a 2 ≤ hr ∧ hr ≤ V a 3 - 1
    · rw [if_pos hm]
      exact Or.inl ⟨t6 V a, List.mem_cons_self, decide_eq_true ⟨hm.1, hm.2.1, by show hr < V a 3; omega⟩, rfl⟩
    · rw [if_neg hm]
      rcases taV_or V h hr l (fun b hb => hv b (List.mem_cons_of_mem _ hb)) with ⟨e, he, h1, h2⟩ | ⟨h1, h2⟩
      · exact Or.inl ⟨e, List.mem_cons_of_mem _ he, h1, h2⟩
      · refine Or.inr ⟨fun e he => ?_, h2⟩
        rcases List.mem_cons.mp he with rfl | he
        · refine decide_eq_false (fun q => hm ⟨q.1, q.2.1, ?_⟩)
          have : hr < V a 3 := q.2.2
          omega
        · exact h1 e he
theorem tnS_or (X : Nat → Nat) (h : Nat) {hr : Nat} (hh : hr < 24) : ∀ (l : List Nat) (a : Int32), (∀ p ∈ l, X (p + 2) < X (p + 3) ∧ X (p + 3) ≤ 24) → (∃ e ∈ l.map (x6 X), mt6 h hr e = true ∧ tnS X h hr l a = nI e.2.2.1) ∨ ((∀ e ∈ l.map (x6 X), mt6 h hr e = false) ∧ tnS X h hr l a = a)
  | [], a, _ => Or.inr ⟨fun e he => (by cases he), rfl⟩
  | p :: l, a, hv => by
    obtain ⟨h3, h4⟩ := hv p List.mem_cons_self
    have em : (decide (X p = h) && zin (nI hr) (nI (X (p + 2))) (nI (X (p + 3)) - nI 1)) = mt6 h hr (x6 X p) := by
      rw [pk_sub (by omega), zin_n (by omega) (by omega) (by omega), Bool.eq_iff_iff]
      show _ ↔ decide (X p = h ∧ X (p + 2) ≤ hr ∧ hr < X (p + 3)) = true
      simp only [Bool.and_eq_true, decide_eq_true_eq]
      omega
    rw [tnS, em]
    rcases tnS_or X h hh l (bif mt6 h hr (x6 X p) then nI (X (p + 5)) else a) (fun q hq => hv q (List.mem_cons_of_mem _ hq)) with ⟨e, he, h1, h2⟩ | ⟨h1, h2⟩
    · exact Or.inl ⟨e, List.mem_cons_of_mem _ he, h1, h2⟩
    · rw [h2]
      cases hm : mt6 h hr (x6 X p)
      · refine Or.inr ⟨fun e he => ?_, rfl⟩
        rcases List.mem_cons.mp he with rfl | he
        · exact hm
        · exact h1 e he
      · exact Or.inl ⟨x6 X p, List.mem_cons_self, hm, rfl⟩
theorem opL_mem6 {Y : Nat → Nat → Nat} {X : Nat → Nat} (h : Ab Y 9 X) {day : Nat} (hd : day < 84) {e : T6} : e ∈ (opL Y 9 day).map (t6 Y) ↔ e ∈ (lk X day).map (x6 X) := by
  rw [← ab_opE h hd, List.mem_map, List.mem_map]
  constructor
  · rintro ⟨a, ha, rfl⟩
    exact ⟨a, opL_mem.mp ha, rfl⟩
  · rintro ⟨a, ha, rfl⟩
    exact ⟨a, opL_mem.mpr ha, rfl⟩
theorem nc_6 {X : Nat → Nat} (hn : NC X) {day : Nat} (hd : day < 84) : (((lk X day).map (x6 X)).map Prod.fst).Pairwise (sepE (X 0)) := by
  rw [List.map_map]
  exact hn day hd
theorem ab_who {Y : Nat → Nat → Nat} {X : Nat → Nat} (h : Ab Y 9 X) (hw : wS Y 9) (h2 : wf2 X) (hn : NC X) {a day hr : Nat} (hd : day < 84) (hh : hr < 24) : taV Y a hr (opL Y 9 day) = tnS X a hr (lk X day) (-1) := by
  have hv : ∀ x ∈ opL Y 9 day, Y x 2 < Y x 3 := fun x hx => (opL_G sb9 hw x hx).2.2.2.1
  have hx : ∀ p ∈ lk X day, X (p + 2) < X (p + 3) ∧ X (p + 3) ≤ 24 := fun p hp => ⟨(lk_ok h2 hp).2.1, (lk_ok h2 hp).2.2.1⟩
  rcases taV_or Y a hr _ hv with ⟨e, he, m1, r1⟩ | ⟨m1, r1⟩
  · have he' := (opL_mem6 h hd).mp he
    rcases tnS_or X a hh _ (-1) hx with ⟨e2, he2, m2, r2⟩ | ⟨m2, r2⟩
    · rw [r1, r2, mt_one (nc_6 hn hd) e he' e2 he2 m1 m2]
    · rw [m2 e he'] at m1
      cases m1
  · rcases tnS_or X a hh _ (-1) hx with ⟨e2, he2, m2, r2⟩ | ⟨m2, r2⟩
    · rw [m1 e2 ((opL_mem6 h hd).mpr he2)] at m2
      cases m2
    · rw [r1, r2]
/-- hours, counted one by one -/
def cntH (f : Nat → Bool) : Nat → Nat
  | 0 => 0
  | k + 1 => cntH f k + (f k).toNat
theorem cntH_or {f g k : Nat → Bool} (h : ∀ n, k n = (f n || g n)) (hd : ∀ n, f n = true → g n = false) : ∀ n, cntH k n = cntH f n + cntH g n
  | 0 => rfl
  | n + 1 => by
    rw [cntH, cntH, cntH, cntH_or h hd n, h n]
    have := hd n
    cases hf : f n <;> cases hg : g n
    · simp
    · simp; omega
    · simp; omega
    · rw [this hf] at hg; cases hg
theorem cntH_f {f : Nat → Bool} (h : ∀ n, f n = false) : ∀ n, cntH f n = 0
  | 0 => rfl
  | n + 1 => by rw [cntH, cntH_f h n, h n]; rfl
theorem cntH_iv {a b : Nat} (hab : a < b) : ∀ n, cntH (fun k => decide (a ≤ k ∧ k < b)) n = min n b - a
  | 0 => by rw [cntH]; omega
  | n + 1 => by
    rw [cntH, cntH_iv hab n]
    by_cases h : a ≤ n ∧ n < b
    · rw [decide_eq_true h]
      show _ + 1 = _
      omega
    · rw [decide_eq_false h]
      show _ + 0 = _
      omega
theorem cntH_D {c h : Nat} : ∀ (D : List T6), (D.map Prod.fst).Pairwise (sepE c) → (∀ e ∈ D, e.1.2.1 < e.1.2.2 ∧ e.1.2.2 ≤ 24) → cntH (fun hr => D.any (mt6 h hr)) 24 = sm6 h 1 D
  | [], _, _ => cntH_f (fun n => rfl) 24
  | e :: D, hp, hv => by
    have hp' := (List.pairwise_cons.mp hp)
    have ih := cntH_D (c := c) (h := h) D hp'.2 (fun x hx => hv x (List.mem_cons_of_mem _ hx))
    obtain ⟨v1, v2⟩ := hv e List.mem_cons_self
    rw [cntH_or (f := fun hr => mt6 h hr e) (g := fun hr => D.any (mt6 h hr)) (fun n => List.any_cons) (fun n hn => ?_), ih, sm6]
    · congr 1
      by_cases he : e.1.1 = h
      · rw [if_pos he]
        have ef : (fun hr => mt6 h hr e) = fun k => decide (e.1.2.1 ≤ k ∧ k < e.1.2.2) := by
          funext k
          unfold mt6
          rw [Bool.eq_iff_iff, decide_eq_true_eq, decide_eq_true_eq]
          exact ⟨fun q => q.2, fun q => ⟨he, q⟩⟩
        rw [ef, cntH_iv v1]
        show _ = e.1.2.2 - e.1.2.1
        omega
      · rw [if_neg he]
        exact cntH_f (fun n => decide_eq_false (fun q => he q.1)) 24
    · rw [List.any_eq_false]
      intro x hx hm
      have a1 := of_decide_eq_true hn
      have a2 := of_decide_eq_true hm
      have := hp'.1 x.1 (List.mem_map.mpr ⟨x, hx, rfl⟩) (a1.1.trans a2.1.symm)
      omega
theorem hwV_cnt {V : Nat → Nat → Nat} {h : Nat} {l : List Nat} (hv : ∀ a ∈ l, V a 2 < V a 3 ∧ V a 5 < 1048576) : ∀ n, hwV V h l n + cntH (fun hr => (l.map (t6 V)).any (mt6 h hr)) n = n
  | 0 => rfl
  | n + 1 => by
    have ih := hwV_cnt (V := V) (h := h) hv n
    rw [hwV, cntH]
    rcases taV_or V h n l (fun a ha => (hv a ha).1) with ⟨e, he, m1, r1⟩ | ⟨m1, r1⟩
    · obtain ⟨a, ha, rfl⟩ := List.mem_map.mp he
      have h5 : V a 5 < 1048576 := (hv a ha).2
      rw [r1, if_neg (nI_nm1 (show (t6 V a).2.2.1 < 2 ^ 31 by show V a 5 < 2 ^ 31; omega)), List.any_eq_true.mpr ⟨_, he, m1⟩]
      show _ + (_ + 1) = _
      omega
    · rw [r1, if_pos rfl, List.any_eq_false.mpr (fun x hx => by rw [m1 x hx]; exact fun q => by cases q)]
      show _ + 1 + (_ + 0) = _
      omega
theorem any_perm {h : Nat} {D D' : List T6} (hm : ∀ e, e ∈ D ↔ e ∈ D') (hr : Nat) : D.any (mt6 h hr) = D'.any (mt6 h hr) := by
  rw [Bool.eq_iff_iff, List.any_eq_true, List.any_eq_true]
  exact ⟨fun ⟨x, a, b⟩ => ⟨x, (hm x).mp a, b⟩, fun ⟨x, a, b⟩ => ⟨x, (hm x).mpr a, b⟩⟩
theorem ab_ho {Y : Nat → Nat → Nat} {X : Nat → Nat} (h : Ab Y 9 X) (hw : wS Y 9) (h2 : wf2 X) (hn : NC X) {a day w : Nat} (hd : day < 84) (hw3 : w ≤ 3) : hoC Y a day w = ofH X a day w := by
  unfold hoC ofH
  rcases (show w = 0 ∨ w = 1 ∨ w = 2 ∨ w = 3 by omega) with rfl | rfl | rfl | rfl
  · rw [if_pos rfl, if_pos rfl, ab_sm h hd a (Or.inl ⟨rfl, rfl⟩)]
  · rw [if_neg (by decide), if_pos rfl, if_neg (by decide), if_neg (by decide), ab_sm h hd a (Or.inr (Or.inl ⟨rfl, rfl⟩))]
  · rw [if_neg (by decide), if_neg (by decide), if_pos rfl, if_neg (by decide), if_neg (by decide)]
    have e1 := hwV_cnt (V := Y) (h := a) (l := opL Y 9 day) (fun x hx => ⟨(opL_G sb9 hw x hx).2.2.2.1, (opL_G sb9 hw x hx).2.1 5 (by omega)⟩) 24
    have e2 : (fun hr => ((opL Y 9 day).map (t6 Y)).any (mt6 a hr)) = fun hr => ((lk X day).map (x6 X)).any (mt6 a hr) := by
      funext hr
      exact any_perm (fun e => opL_mem6 h hd) hr
    rw [e2, cntH_D _ (nc_6 hn hd) (fun e he => by
      obtain ⟨p, hp, rfl⟩ := List.mem_map.mp he
      exact ⟨(lk_ok h2 hp).2.1, (lk_ok h2 hp).2.2.1⟩), ← ihS_6 X a (by omega)] at e1
    rw [pk_sub (by omega)]
    congr 1
    omega
  · rw [if_neg (by decide), if_neg (by decide), if_neg (by decide), if_neg (by decide), if_pos rfl, ab_sm h hd a (Or.inr (Or.inr ⟨rfl, rfl⟩))]
