/-! mathematics: the plan of a day, and why a let would be refused -/
def ent (V : Nat → Nat → Nat) (a : Nat) : cE := (V a 0, V a 2, V a 3)
def enx (X : Nat → Nat) (p : Nat) : cE := (X p, X (p + 2), X (p + 3))
def insF (o : cE) : List cE → List cE
  | [] => [o]
  | e :: r => bif gtE e o then o :: e :: r else e :: insF o r
def srtP (l : List cE) : Prop := l.Pairwise (fun a b => gtE a b = false)
theorem gtE_iff (a e : cE) : gtE a e = true ↔ e.2.2 < a.2.2 ∨ (a.2.2 = e.2.2 ∧ e.1 < a.1) := by
  simp [gtE]
theorem gtE_f (a e : cE) : gtE a e = false ↔ ¬ (e.2.2 < a.2.2 ∨ (a.2.2 = e.2.2 ∧ e.1 < a.1)) := by
  rw [← gtE_iff]
  simp
theorem vBf_gt (V : Nat → Nat → Nat) (o a : Nat) : vBf (V o) (V a) = gtE (ent V a) (ent V o) := by
  rw [Bool.eq_iff_iff, gtE_iff]
  simp only [vBf, ent, Bool.or_eq_true, Bool.and_eq_true, decide_eq_true_eq]
  omega
theorem insF_mem {e a : cE} : ∀ {r : List cE}, a ∈ insF e r ↔ a = e ∨ a ∈ r
  | [] => by simp [insF]
  | x :: r => by
    rw [insF]
    cases gtE x e
    · rw [cond_false, List.mem_cons, insF_mem (r := r), List.mem_cons]
      constructor
      · rintro (h | h | h)
        · exact Or.inr (Or.inl h)
        · exact Or.inl h
        · exact Or.inr (Or.inr h)
      · rintro (h | h | h)
        · exact Or.inr (Or.inl h)
        · exact Or.inl h
        · exact Or.inr (Or.inr h)
    · rw [cond_true, List.mem_cons]
theorem gt_tr {x y e : cE} (h1 : gtE x e = true) (h2 : gtE x y = false) : gtE y e = true := by
  rw [gtE_iff] at h1 ⊢
  rw [gtE_f] at h2
  omega
theorem insF_all {e : cE} : ∀ {l : List cE}, (∀ y ∈ l, gtE y e = true) → insF e l = e :: l
  | [], _ => rfl
  | x :: r, h => by rw [insF, h x List.mem_cons_self, cond_true]
theorem insF_s {e : cE} : ∀ {l : List cE}, srtP l → srtP (insF e l)
  | [], _ => List.pairwise_singleton _ _
  | x :: r, h => by
    obtain ⟨h1, h2⟩ := List.pairwise_cons.mp h
    rw [insF]
    cases hg : gtE x e
    · rw [cond_false]
      refine List.pairwise_cons.mpr ⟨fun y hy => ?_, insF_s h2⟩
      rcases insF_mem.mp hy with rfl | hy
      · exact hg
      · exact h1 y hy
    · rw [cond_true]
      refine List.pairwise_cons.mpr ⟨fun y hy => ?_, h⟩
      have hxe := (gtE_iff x e).mp hg
      rcases List.mem_cons.mp hy with rfl | hy
      · rw [gtE_f]; omega
      · have := (gtE_f x y).mp (h1 y hy)
        rw [gtE_f]; omega
/-- from the end, or from the begin: the same place in an ordered row -/
theorem insR_app {e : cE} (r : List cE) (x : cE) : ∀ s : List cE, gtE x e = false → insR e (s ++ x :: r) = insR e s ++ x :: r
  | [], h => by
    show insR e (x :: r) = e :: x :: r
    rw [insR, h, cond_false]
  | y :: s, h => by
    rw [List.cons_append, insR, insR]
    cases gtE y e
    · rfl
    · rw [cond_true, cond_true, insR_app r x s h]
      rfl
theorem insR_all {e : cE} : ∀ s : List cE, (∀ y ∈ s, gtE y e = true) → insR e s = s ++ [e]
  | [], _ => rfl
  | y :: s, h => by
    rw [insR, h y List.mem_cons_self, cond_true, insR_all s (fun z hz => h z (List.mem_cons_of_mem _ hz))]
    rfl
theorem addC_F {e : cE} : ∀ {l : List cE}, srtP l → addC e l = insF e l
  | [], _ => rfl
  | x :: r, h => by
    obtain ⟨h1, h2⟩ := List.pairwise_cons.mp h
    rw [insF]
    cases hg : gtE x e
    · rw [cond_false, ← addC_F h2]
      show (insR e (x :: r).reverse).reverse = x :: (insR e r.reverse).reverse
      rw [List.reverse_cons, insR_app [] x _ hg, List.reverse_append]
      rfl
    · rw [cond_true]
      show (insR e (x :: r).reverse).reverse = _
      rw [insR_all _ (fun y hy => ?_), List.reverse_append, List.reverse_reverse]
      · rfl
      · rcases List.mem_cons.mp (List.mem_reverse.mp hy) with rfl | hy
        · exact hg
        · exact gt_tr hg (h1 y hy)
theorem insF_flt {e : cE} (q : cE → Bool) : ∀ {l : List cE}, srtP l → (insF e l).filter q = bif q e then insF e (l.filter q) else l.filter q
  | [], _ => by
    rw [insF]
    cases hq : q e <;> simp [hq, insF]
  | x :: r, h => by
    obtain ⟨h1, h2⟩ := List.pairwise_cons.mp h
    rw [insF]
    cases hg : gtE x e
    · rw [cond_false]
      cases hx : q x
      · rw [List.filter_cons_of_neg (by simp [hx]), List.filter_cons_of_neg (by simp [hx])]
        exact insF_flt q h2
      · rw [List.filter_cons_of_pos hx, List.filter_cons_of_pos hx, insF_flt q h2]
        cases q e
        · rfl
        · rw [cond_true, cond_true, insF, hg, cond_false]
    · rw [cond_true]
      have ha : ∀ y ∈ (x :: r).filter q, gtE y e = true := fun y hy => by
        rcases List.mem_cons.mp (List.mem_filter.mp hy).1 with rfl | hy
        · exact hg
        · exact gt_tr hg (h1 y hy)
      cases he : q e
      · rw [List.filter_cons_of_neg (by simp [he])]
        rfl
      · rw [List.filter_cons_of_pos he, cond_true, insF_all ha]
/-- put one after the other -/
def srtE (D : List cE) (l : List cE) : List cE := D.foldl (fun l e => addC e l) l
theorem srtE_s : ∀ (D l : List cE), srtP l → srtP (srtE D l)
  | [], _, h => h
  | e :: D, l, h => srtE_s D (addC e l) (by rw [addC_F h]; exact insF_s h)
theorem srtE_flt (q : cE → Bool) : ∀ (D l : List cE), srtP l → (srtE D l).filter q = srtE (D.filter q) (l.filter q)
  | [], _, _ => rfl
  | e :: D, l, h => by
    show (srtE D (addC e l)).filter q = _
    rw [addC_F h, srtE_flt q D _ (insF_s h), insF_flt q h]
    cases he : q e
    · rw [List.filter_cons_of_neg (by simp [he])]
      rfl
    · rw [List.filter_cons_of_pos he, cond_true]
      show _ = srtE (D.filter q) (addC e (l.filter q))
      rw [addC_F (h.filter q)]
theorem srtE_mem {a : cE} : ∀ (D l : List cE), srtP l → (a ∈ srtE D l ↔ a ∈ D ∨ a ∈ l)
  | [], l, _ => by simp [srtE]
  | e :: D, l, h => by
    show a ∈ srtE D (addC e l) ↔ _
    rw [addC_F h, srtE_mem D _ (insF_s h), insF_mem, List.mem_cons]
    constructor
    · rintro (h | h | h)
      · exact Or.inl (Or.inr h)
      · exact Or.inl (Or.inl h)
      · exact Or.inr h
    · rintro ((h | h) | h)
      · exact Or.inr (Or.inl h)
      · exact Or.inl h
      · exact Or.inr (Or.inr h)
/-- cleaning, let by let -/
def isT (c : Nat) (e : cE) (s : cZ) : Option cZ := if e.2.1 < s.2 e.1 then none else some ((if s.1 < e.2.2 then e.2.2 else s.1) + c, uN s.2 e.1 ((if s.1 < e.2.2 then e.2.2 else s.1) + c))
def cbE (c : Nat) : List cE → cZ → Bool
  | [], _ => true
  | e :: l, s => match isT c e s with | none => false | some s' => cbE c l s'
theorem isV_T (V : Nat → Nat → Nat) (c a : Nat) (s : cZ) : isV c (V a) s = isT c (ent V a) s := rfl
theorem cbL_E (V : Nat → Nat → Nat) (c : Nat) : ∀ (l : List Nat) (s : cZ), cbL V c l s = cbE c (l.map (ent V)) s
  | [], _ => rfl
  | a :: l, s => by
    rw [cbL, List.map_cons, cbE, isV_T]
    cases isT c (ent V a) s with
    | none => rfl
    | some s' => exact cbL_E V c l s'
theorem mok_iff (c : Nat) : ∀ (l : List cE) (o : Nat) (cf : Nat → Nat), cbE c l (o, cf) = true ↔ (∀ h x, l.find? (fun y => decide (y.1 = h)) = some x → cf h ≤ x.2.1) ∧ mok c o l = true
  | [], o, cf => by
    simp [cbE, mok]
  | e :: t, o, cf => by
    rw [cbE, mok, isT]
    dsimp only
    by_cases h0 : e.2.1 < cf e.1
    · rw [if_pos h0]
      constructor
      · intro h; cases h
      · rintro ⟨h1, -⟩
        have := h1 e.1 e (by simp)
        omega
    · rw [if_neg h0]
      dsimp only
      rw [mok_iff c t, Bool.and_eq_true]
      rw [show (if e.2.2 < o then o else e.2.2) = (if o < e.2.2 then e.2.2 else o) by split <;> split <;> omega]
      generalize (if o < e.2.2 then e.2.2 else o) + c = z
      constructor
      · rintro ⟨h1, h2⟩
        refine ⟨fun h x hx => ?_, ?_, h2⟩
        · rw [List.find?_cons] at hx
          by_cases he : e.1 = h
          · rw [decide_eq_true he] at hx
            cases hx
            subst he
            omega
          · rw [decide_eq_false he] at hx
            have := h1 h x hx
            rwa [uN_n _ _ (fun q => he q.symm)] at this
        · cases hf : t.find? (fun x => decide (x.1 = e.1)) with
          | none => rfl
          | some x =>
            have := h1 e.1 x hf
            rw [uN_s] at this
            exact decide_eq_true this
      · rintro ⟨h1, h2, h3⟩
        refine ⟨fun h x hx => ?_, h3⟩
        by_cases he : h = e.1
        · subst he
          rw [hx] at h2
          rw [uN_s]
          exact of_decide_eq_true h2
        · rw [uN_n _ _ he]
          refine h1 h x ?_
          rw [List.find?_cons, decide_eq_false (fun q => he q.symm)]
          exact hx
theorem cbE_mok (c : Nat) (l : List cE) : cbE c l (0, fun _ => 0) = mok c 0 l := by
  rw [Bool.eq_iff_iff, mok_iff]
  exact ⟨fun h => h.2, fun h => ⟨fun _ _ _ => Nat.zero_le _, h⟩⟩
/-- clashes by entries -/
def nclE (w : cE) (c : Nat) (e : cE) : Bool := !(decide (e.1 = w.1) && (decide (w.2.1 < e.2.2 + c) && decide (e.2.1 < w.2.2 + c)))
theorem vCl_n (V : Nat → Nat → Nat) (a o c : Nat) : vCl (V a) (V o) c = !nclE (ent V o) c (ent V a) := by
  unfold vCl nclE ent
  rw [Bool.not_not, Bool.and_comm (decide (V a 2 < V o 3 + c))]
theorem clsh_n (X : Nat → Nat) (p h f t : Nat) : clsh X p h f t = !nclE (h, f, t) (X 0) (enx X p) := by
  unfold clsh nclE enx
  rw [Bool.not_not]
theorem cbW_F (V : Nat → Nat → Nat) (c o : Nat) : ∀ (l : List Nat) (s : cZ), cbW V c o l false s = cbE c ((l.map (ent V)).filter (nclE (ent V o) c)) s
  | [], _ => rfl
  | a :: l, s => by
    rw [cbW, vCl_n, List.map_cons]
    cases hn : nclE (ent V o) c (ent V a)
    · rw [List.filter_cons_of_neg (by simp [hn])]
      exact cbW_F V c o l s
    · rw [List.filter_cons_of_pos hn, cbE, ← isV_T]
      show (match isV c (V a) s with | none => false | some s2 => cbW V c o l false s2) = _
      cases isV c (V a) s with
      | none => rfl
      | some s' => exact cbW_F V c o l s'
theorem cbW_T (V : Nat → Nat → Nat) (c o : Nat) : ∀ (l : List Nat) (s : cZ), cbW V c o l true s = cbE c (insF (ent V o) ((l.map (ent V)).filter (nclE (ent V o) c))) s
  | [], s => by
    show (!true || (isV c (V o) s).isSome) = (match isT c (ent V o) s with | none => false | some s' => cbE c [] s')
    rw [← isV_T]
    cases isV c (V o) s <;> rfl
  | a :: l, s => by
    rw [cbW, vCl_n, List.map_cons]
    cases hn : nclE (ent V o) c (ent V a)
    · rw [List.filter_cons_of_neg (by simp [hn])]
      exact cbW_T V c o l s
    · rw [List.filter_cons_of_pos hn, insF, ← vBf_gt]
      cases vBf (V o) (V a)
      · show (match isV c (V a) s with | none => false | some s2 => cbW V c o l true s2) = cbE c (ent V a :: _) s
        rw [cbE, ← isV_T]
        cases isV c (V a) s with
        | none => rfl
        | some s' => exact cbW_T V c o l s'
      · show (match isV c (V o) s with | none => false | some s1 => match isV c (V a) s1 with | none => false | some s2 => cbW V c o l false s2) = cbE c (ent V o :: ent V a :: _) s
        rw [cbE, ← isV_T]
        cases isV c (V o) s with
        | none => rfl
        | some s1 =>
          show (match isV c (V a) s1 with | none => false | some s2 => cbW V c o l false s2) = cbE c (ent V a :: _) s1
          rw [cbE, ← isV_T]
          cases isV c (V a) s1 with
          | none => rfl
          | some s2 => exact cbW_F V c o l s2
/-- the plan, by entries -/
def enR (Y : Nat → Nat → Nat) (r day : Nat) : Nat → List Nat
  | 0 => []
  | k + 1 => enR Y r day k ++ (bif vStd (rV Y r k) day then [Y (r + 1) k] else [])
def opE (Y : Nat → Nat → Nat) (b day : Nat) : List Nat := enR Y (b + 1) day (Y (b + 1) 1) ++ enR Y (b + 11) day (Y (b + 11) 1)
theorem enL_f (Y : Nat → Nat → Nat) (r day : Nat) (l : List Nat) : ∀ k, enL Y r day l k = (enR Y r day k).foldl (fun l a => adA Y a l) l
  | 0 => rfl
  | k + 1 => by
    rw [enL, enR, List.foldl_append, ← enL_f Y r day l k]
    cases vStd (rV Y r k) day <;> rfl
theorem opL_f (Y : Nat → Nat → Nat) (b day : Nat) : opL Y b day = (opE Y b day).foldl (fun l a => adA Y a l) [] := by
  rw [opL, opE, List.foldl_append, enL_f, enL_f]
theorem adA_mem2 {V : Nat → Nat → Nat} {a x : Nat} : ∀ {r : List Nat}, x ∈ insA V a r ↔ x = a ∨ x ∈ r
  | [] => by simp [insA]
  | e :: r => by
    rw [insA]
    cases vBf (V a) (V e)
    · rw [cond_false, List.mem_cons]
    · rw [cond_true, List.mem_cons, adA_mem2 (r := r), List.mem_cons]
      constructor
      · rintro (h | h | h)
        · exact Or.inr (Or.inl h)
        · exact Or.inl h
        · exact Or.inr (Or.inr h)
      · rintro (h | h | h)
        · exact Or.inr (Or.inl h)
        · exact Or.inl h
        · exact Or.inr (Or.inr h)
theorem fold_mem {V : Nat → Nat → Nat} {x : Nat} : ∀ (E l : List Nat), x ∈ E.foldl (fun l a => adA V a l) l ↔ x ∈ E ∨ x ∈ l
  | [], l => by simp
  | e :: E, l => by
    rw [List.foldl_cons, fold_mem E, List.mem_cons]
    have : x ∈ adA V e l ↔ x = e ∨ x ∈ l := by
      unfold adA
      rw [List.mem_reverse, adA_mem2, List.mem_reverse]
    rw [this]
    constructor
    · rintro (h | h | h)
      · exact Or.inl (Or.inr h)
      · exact Or.inl (Or.inl h)
      · exact Or.inr h
    · rintro ((h | h) | h)
      · exact Or.inr (Or.inl h)
      · exact Or.inl h
      · exact Or.inr (Or.inr h)
theorem opL_mem {Y : Nat → Nat → Nat} {b day x : Nat} : x ∈ opL Y b day ↔ x ∈ opE Y b day := by
  rw [opL_f, fold_mem]
  simp
theorem insA_map (V : Nat → Nat → Nat) (a : Nat) : ∀ r : List Nat, (insA V a r).map (ent V) = insR (ent V a) (r.map (ent V))
  | [] => rfl
  | e :: r => by
    rw [insA, List.map_cons, insR, vBf_gt]
    cases gtE (ent V e) (ent V a)
    · rfl
    · rw [cond_true, cond_true, List.map_cons, insA_map V a r]
theorem adA_map (V : Nat → Nat → Nat) (a : Nat) (l : List Nat) : (adA V a l).map (ent V) = addC (ent V a) (l.map (ent V)) := by
  unfold adA addC
  rw [List.map_reverse, insA_map, List.map_reverse]
theorem fold_map (V : Nat → Nat → Nat) : ∀ (E l : List Nat), (E.foldl (fun l a => adA V a l) l).map (ent V) = srtE (E.map (ent V)) (l.map (ent V))
  | [], _ => rfl
  | e :: E, l => by
    rw [List.foldl_cons, fold_map V E, adA_map]
    rfl
theorem opL_map (Y : Nat → Nat → Nat) (b day : Nat) : (opL Y b day).map (ent Y) = srtE ((opE Y b day).map (ent Y)) [] := by
  rw [opL_f, fold_map]
  rfl
/-- the reference's reason, by entries -/
theorem rsnR_eq (X : Nat → Nat) (h f t r : Nat) : ∀ (ps : List Nat) (acc : List cE), rsnR X h f t r ps acc = bif ps.any (fun p => clsh X p h f t && decide (r ≤ X (p + 4))) then 2 else bif mok (X 0) 0 (addC (h, f, t) (srtE ((ps.map (enx X)).filter (nclE (h, f, t) (X 0))) acc)) then 0 else 3
  | [], _ => rfl
  | p :: ps, acc => by
    rw [rsnR, List.any_cons, List.map_cons]
    have hn := clsh_n X p h f t
    cases hc : clsh X p h f t
    · rw [hc] at hn
      rw [cond_false, rsnR_eq X h f t r ps, Bool.false_and, Bool.false_or, List.filter_cons_of_pos (by simpa using hn)]
      rfl
    · rw [hc] at hn
      rw [cond_true, Bool.true_and, List.filter_cons_of_neg (by simpa using hn)]
      cases decide (r ≤ X (p + 4))
      · rw [cond_false, rsnR_eq X h f t r ps, Bool.false_or]
      · rfl
theorem rsC_eq (V : Nat → Nat → Nat) (c o : Nat) (l : List Nat) : rsC V c o l = bif l.any (fun a => decide (V o 4 ≤ V a 4) && vCl (V a) (V o) c) then 2 else bif cbE c (insF (ent V o) ((l.map (ent V)).filter (nclE (ent V o) c))) (0, fun _ => 0) then 0 else 3 := by
  rw [rsC, cbW_T]
/-- what stands on a day, on both sides -/
abbrev T6 : Type := cE × Nat × Nat × Nat
def t6 (V : Nat → Nat → Nat) (a : Nat) : T6 := (ent V a, V a 4, V a 5, V a 6)
def x6 (X : Nat → Nat) (p : Nat) : T6 := (enx X p, X (p + 4), X (p + 5), X (p + 6))
section AB2
variable {Y : Nat → Nat → Nat} {b : Nat} {X : Nat → Nat}
theorem ab_enR (h : Ab Y b X) {day : Nat} (hd : day < 84) : ∀ k, k ≤ X 11 → (enR Y (b + 1) day k).map (t6 Y) = (lkR X day k).map (x6 X)
  | 0, _ => rfl
  | k + 1, hk => by
    have hr := h.2.2.2.2.1 k (by omega)
    rw [enR, lkR, List.map_append, List.map_append, ab_enR h hd k (by omega), std_R hr hd]
    congr 1
    cases stdR X k day
    · rfl
    · show [t6 Y (Y (b + 1 + 1) k)] = [x6 X (12 + 10 * k)]
      have e : ∀ j, j < 9 → Y (Y (b + 1 + 1) k) j = X (12 + 10 * k + j) := hr.1
      simp only [t6, x6, ent, enx, e 0 (by omega), e 2 (by omega), e 3 (by omega), e 4 (by omega), e 5 (by omega), e 6 (by omega), Nat.add_zero]
theorem ab_enS (h : Ab Y b X) {day : Nat} (hd : day < 84) : ∀ k, k ≤ X 92 → (enR Y (b + 11) day k).map (t6 Y) = (lkS X day k).map (x6 X)
  | 0, _ => rfl
  | k + 1, hk => by
    have hs := h.2.2.2.2.2 k (by omega)
    rw [enR, lkS, List.map_append, List.map_append, ab_enS h hd k (by omega), std_S hs hd]
    congr 1
    show _ = List.map (x6 X) (bif decide (sg X k 1 = day) then _ else _)
    cases decide (sg X k 1 = day)
    · rfl
    · show [t6 Y (Y (b + 11 + 1) k)] = [x6 X (93 + 7 * k)]
      have e0 : Y (Y (b + 11 + 1) k) 0 = X (93 + 7 * k) := hs.1
      have e : ∀ j, 2 ≤ j → j < 7 → Y (Y (b + 11 + 1) k) j = X (93 + 7 * k + j) := hs.2.2.1
      simp only [t6, x6, ent, enx, e0, e 2 (by omega) (by omega), e 3 (by omega) (by omega), e 4 (by omega) (by omega), e 5 (by omega) (by omega), e 6 (by omega) (by omega)]
theorem ab_opE (h : Ab Y b X) {day : Nat} (hd : day < 84) : (opE Y b day).map (t6 Y) = (lk X day).map (x6 X) := by
  rw [opE, lk, List.map_append, List.map_append, h.2.2.2.1.1, h.2.2.2.1.2, ab_enR h hd _ (Nat.le_refl _), ab_enS h hd _ (Nat.le_refl _)]
theorem ab_ent (h : Ab Y b X) {day : Nat} (hd : day < 84) : (opE Y b day).map (ent Y) = (lk X day).map (enx X) := by
  have := congrArg (List.map Prod.fst) (ab_opE h hd)
  rw [List.map_map, List.map_map] at this
  exact this
theorem any_map {α β : Type} (f : α → β) (q : β → Bool) : ∀ l : List α, (l.map f).any q = l.any (fun a => q (f a))
  | [] => rfl
  | a :: l => by rw [List.map_cons, List.any_cons, List.any_cons, any_map f q l]
/-- the same reason on both sides -/
theorem ab_rs {Y : Nat → Nat → Nat} {X : Nat → Nat} (h : Ab Y 9 X) (hw : wS Y 9) {day : Nat} (hd : day < 84) (v : Nat → Nat) : rsV Y v day = rsn X (v 0) day (v 2) (v 3) (v 4) := by
  have e35 : Y 35 0 = X 0 := h.1 0 (by omega)
  have hV : ∀ a ∈ opL Y 9 day, uA Y 70 v a = Y a := fun a ha => uA_n _ _ (opL_70 hw ha)
  have hV0 : uA Y 70 v 70 = v := uA_s _ _ _
  rw [rsV, rsC_eq, rsn, rsnR_eq, e35]
  have ew : ent (uA Y 70 v) 70 = (v 0, v 2, v 3) := by rw [ent, hV0]
  have em : (opL Y 9 day).map (ent (uA Y 70 v)) = (opL Y 9 day).map (ent Y) := List.map_congr_left (fun a ha => by rw [ent, ent, hV a ha])
  have ea : (opL Y 9 day).any (fun a => decide (uA Y 70 v 70 4 ≤ uA Y 70 v a 4) && vCl (uA Y 70 v a) (uA Y 70 v 70) (X 0)) = (lk X day).any (fun p => clsh X p (v 0) (v 2) (v 3) && decide (v 4 ≤ X (p + 4))) := by
    let q : T6 → Bool := fun e => (!nclE (v 0, v 2, v 3) (X 0) e.1) && decide (v 4 ≤ e.2.1)
    have a1 : (lk X day).any (fun p => clsh X p (v 0) (v 2) (v 3) && decide (v 4 ≤ X (p + 4))) = ((lk X day).map (x6 X)).any q := by
      rw [any_map]
      congr 1
      funext p
      rw [clsh_n]
      rfl
    have a2 : ((opE Y 9 day).map (t6 Y)).any q = (opL Y 9 day).any (fun a => q (t6 Y a)) := by
      rw [any_map, Bool.eq_iff_iff, List.any_eq_true, List.any_eq_true]
      constructor
      · rintro ⟨x, hx, hq⟩
        exact ⟨x, opL_mem.mpr hx, hq⟩
      · rintro ⟨x, hx, hq⟩
        exact ⟨x, opL_mem.mp hx, hq⟩
    rw [a1, ← ab_opE h hd, a2, Bool.eq_iff_iff, List.any_eq_true, List.any_eq_true]
    have key : ∀ a ∈ opL Y 9 day, (decide (uA Y 70 v 70 4 ≤ uA Y 70 v a 4) && vCl (uA Y 70 v a) (uA Y 70 v 70) (X 0)) = q (t6 Y a) := fun a ha => by
      rw [vCl_n, ew, Bool.and_comm]
      simp only [q, t6, ent, hV a ha, hV0]
    constructor
    · rintro ⟨a, ha, hq⟩
      exact ⟨a, ha, by rw [← key a ha]; exact hq⟩
    · rintro ⟨a, ha, hq⟩
      exact ⟨a, ha, by rw [key a ha]; exact hq⟩
  rw [ea, em, ew, opL_map, ab_ent h hd, cbE_mok]
  have hs : srtP ([] : List cE) := List.Pairwise.nil
  rw [srtE_flt _ _ _ hs, addC_F (srtE_s _ _ hs)]
  rfl
end AB2
