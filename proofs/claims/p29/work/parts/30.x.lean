/-! pure mathematics of the state as one row of numbers -/
def zin (v lo hi : Int32) : Bool := decide (lo ≤ v) && decide (v ≤ hi)
theorem zin_n {w a b : Nat} (hw : w < 2 ^ 31) (ha : a < 2 ^ 31) (hb : b < 2 ^ 31) : zin (nI w) (nI a) (nI b) = (decide (a ≤ w) && decide (w ≤ b)) := by
  simp only [zin, nI_leI ha hw, nI_leI hw hb]
theorem zin_i {v : Int32} {a b : Nat} (ha : a < 2 ^ 31) (hb : b < 2 ^ 31) (h : zin v (nI a) (nI b) = true) : ∃ n, a ≤ n ∧ n ≤ b ∧ v = nI n := by
  simp only [zin, Bool.and_eq_true, decide_eq_true_eq] at h
  have h0 : ¬ v < 0 := fun q => by
    have h1 : False := Int32.not_le.mpr q (Int32.le_trans (nI_pos' ha) h.1)
    exact h1
  obtain ⟨n, hn, rfl⟩ := nI_of h0
  exact ⟨n, (nI_leI ha hn).mp h.1, (nI_leI hn hb).mp h.2, rfl⟩
def zhrs (f t : Int32) : Bool := zin f (nI 0) (nI 23) && zin t (f + nI 1) (nI 24)
def zwho (r t : Int32) : Bool := zin r (nI 1) (nI 9) && zin t (nI 0) (nI 19)
def rB (X : Nat → Nat) : Prop := ∀ j, j < 177 → j ≠ 8 → j ≠ 9 → j ≠ 10 → X j < 1048576
def stdR (X : Nat → Nat) (i day : Nat) : Bool := decide (X (12 + 10 * i + 1) = day % 7) && ((decide (X (12 + 10 * i + 7) ≤ day / 7) && decide (day / 7 ≤ X (12 + 10 * i + 8))) && decide (X (12 + 10 * i + 9) / 2 ^ (day / 7) % 2 = 0))
def lkR (X : Nat → Nat) (day : Nat) : Nat → List Nat
  | 0 => []
  | k + 1 => lkR X day k ++ (bif stdR X k day then [12 + 10 * k] else [])
def lkS (X : Nat → Nat) (day : Nat) : Nat → List Nat
  | 0 => []
  | k + 1 => lkS X day k ++ (bif decide (X (93 + 7 * k + 1) = day) then [93 + 7 * k] else [])
def lk (X : Nat → Nat) (day : Nat) : List Nat := lkR X day (X 11) ++ lkS X day (X 92)
theorem lkR_len (X : Nat → Nat) (day : Nat) : ∀ k, (lkR X day k).length ≤ k
  | 0 => Nat.le_refl 0
  | k + 1 => by
    have h := lkR_len X day k
    simp only [lkR, List.length_append]
    cases stdR X k day <;> simp <;> omega
theorem lkS_len (X : Nat → Nat) (day : Nat) : ∀ k, (lkS X day k).length ≤ k
  | 0 => Nat.le_refl 0
  | k + 1 => by
    have h := lkS_len X day k
    simp only [lkS, List.length_append]
    cases decide (X (93 + 7 * k + 1) = day) <;> simp <;> omega
theorem lkR_mem {X : Nat → Nat} {day p : Nat} : ∀ {k}, p ∈ lkR X day k → ∃ i, i < k ∧ p = 12 + 10 * i ∧ stdR X i day = true
  | 0, h => by cases h
  | k + 1, h => by
    rcases List.mem_append.mp h with h | h
    · obtain ⟨i, h1, h2⟩ := lkR_mem h
      exact ⟨i, by omega, h2⟩
    · cases hs : stdR X k day
      · rw [hs] at h; cases h
      · rw [hs] at h
        exact ⟨k, by omega, List.mem_singleton.mp h, hs⟩
theorem lkS_mem {X : Nat → Nat} {day p : Nat} : ∀ {k}, p ∈ lkS X day k → ∃ i, i < k ∧ p = 93 + 7 * i ∧ X (93 + 7 * i + 1) = day
  | 0, h => by cases h
  | k + 1, h => by
    rcases List.mem_append.mp h with h | h
    · obtain ⟨i, h1, h2⟩ := lkS_mem h
      exact ⟨i, by omega, h2⟩
    · cases hs : decide (X (93 + 7 * k + 1) = day)
      · rw [hs] at h; cases h
      · rw [hs] at h
        exact ⟨k, by omega, List.mem_singleton.mp h, of_decide_eq_true hs⟩
def wf0 (X : Nat → Nat) : Prop := rB X ∧ X 11 ≤ 8 ∧ X 92 ≤ 12
theorem lk_len {X : Nat → Nat} (h : wf0 X) (day : Nat) : (lk X day).length ≤ 20 := by
  have h1 := lkR_len X day (X 11)
  have h2 := lkS_len X day (X 92)
  obtain ⟨-, h3, h4⟩ := h
  simp only [lk, List.length_append]
  omega
theorem lk_lt {X : Nat → Nat} (h : wf0 X) {day p : Nat} (hp : p ∈ lk X day) : 12 ≤ p ∧ p + 6 < 177 := by
  obtain ⟨-, h3, h4⟩ := h
  rcases List.mem_append.mp hp with h | h
  · obtain ⟨i, h1, rfl, -⟩ := lkR_mem h
    omega
  · obtain ⟨i, h1, rfl, -⟩ := lkS_mem h
    omega
def atL (l : List Nat) (A : Nat → Nat) : Prop := ∀ j a, l[j]? = some a → A j = a
theorem atL_nil (A : Nat → Nat) : atL [] A := fun j a h => by simp at h
theorem atL_push {l : List Nat} {A : Nat → Nat} (h : atL l A) (a : Nat) : atL (l ++ [a]) (uN A l.length a) := by
  intro j b hb
  rcases Nat.lt_trichotomy j l.length with hj | hj | hj
  · rw [uN_n _ _ (by omega)]
    rw [List.getElem?_append_left hj] at hb
    exact h j b hb
  · subst hj
    rw [uN_s]
    simpa using hb
  · rw [List.getElem?_eq_none (by simp; omega)] at hb
    cases hb
theorem len1 {α : Type} (l : List α) (a : α) : (l ++ [a]).length = l.length + 1 := by simp
def dcnt (X : Nat → Nat) (i : Nat) : Nat → Nat
  | 0 => 0
  | k + 1 => dcnt X i k + (stdR X i k).toNat
theorem dcnt_le (X : Nat → Nat) (i : Nat) : ∀ k, dcnt X i k ≤ k
  | 0 => Nat.le_refl 0
  | k + 1 => by
    have h := dcnt_le X i k
    simp only [dcnt]
    cases stdR X i k <;> simp <;> omega
def clsh (X : Nat → Nat) (p h f t : Nat) : Bool := decide (X p = h) && (decide (f < X (p + 3) + X 0) && decide (X (p + 2) < t + X 0))
abbrev cE : Type := Nat × Nat × Nat
def gtE (a e : cE) : Bool := decide (e.2.2 < a.2.2) || (decide (a.2.2 = e.2.2) && decide (e.1 < a.1))
def insR (e : cE) : List cE → List cE
  | [] => [e]
  | a :: r => bif gtE a e then a :: insR e r else e :: a :: r
def addC (e : cE) (l : List cE) : List cE := (insR e l.reverse).reverse
theorem insR_len (e : cE) : ∀ r, (insR e r).length = r.length + 1
  | [] => rfl
  | a :: r => by
    simp only [insR]
    cases gtE a e
    · rfl
    · simp [insR_len e r]
theorem addC_len (e : cE) (l : List cE) : (addC e l).length = l.length + 1 := by simp [addC, insR_len]
def cAt (l : List cE) (o : Nat) (CH CF CT : Nat → Nat) : Prop := ∀ j a, l[j]? = some a → CH (o + j) = a.1 ∧ CF (o + j) = a.2.1 ∧ CT (o + j) = a.2.2
def cS (e : cE) : Prop := e.1 < 1048576 ∧ e.2.1 < 1048576 ∧ e.2.2 < 1048576
theorem cAt_nil {o : Nat} {CH CF CT : Nat → Nat} : cAt [] o CH CF CT := fun j a h => by simp at h
theorem cAt_put {l : List cE} {o k : Nat} {CH CF CT : Nat → Nat} {x y z : Nat} (h : cAt l o CH CF CT) (hk : k < o ∨ o + l.length ≤ k) : cAt l o (uN CH k x) (uN CF k y) (uN CT k z) := fun j a hj => by
  have hl := (List.getElem?_eq_some_iff.mp hj).1
  rw [uN_n _ _ (by omega), uN_n _ _ (by omega), uN_n _ _ (by omega)]
  exact h j a hj
theorem cAt_cons {l : List cE} {o : Nat} {CH CF CT : Nat → Nat} {a : cE} (h : cAt l (o + 1) CH CF CT) (h1 : CH o = a.1) (h2 : CF o = a.2.1) (h3 : CT o = a.2.2) : cAt (a :: l) o CH CF CT := fun j b hj => by
  cases j with
  | zero => cases hj; exact ⟨h1, h2, h3⟩
  | succ j =>
    have := h j b hj
    rw [show o + (j + 1) = o + 1 + j by omega]
    exact this
theorem cAt_app {l m : List cE} {o : Nat} {CH CF CT : Nat → Nat} (h : cAt l o CH CF CT) (h2 : cAt m (o + l.length) CH CF CT) : cAt (l ++ m) o CH CF CT := fun j b hj => by
  by_cases hl : j < l.length
  · rw [List.getElem?_append_left hl] at hj
    exact h j b hj
  · rw [List.getElem?_append_right (by omega)] at hj
    have := h2 _ b hj
    rw [show o + l.length + (j - l.length) = o + j by omega] at this
    exact this
theorem cAt_left {l m : List cE} {o : Nat} {CH CF CT : Nat → Nat} (h : cAt (l ++ m) o CH CF CT) : cAt l o CH CF CT := fun j b hj => h j b (by rw [List.getElem?_append_left (List.getElem?_eq_some_iff.mp hj).1]; exact hj)
def mok (c : Nat) : Nat → List cE → Bool
  | _, [] => true
  | o, e :: t => (match t.find? (fun x => decide (x.1 = e.1)) with | none => true | some x => decide ((if e.2.2 < o then o else e.2.2) + c ≤ x.2.1)) && mok c ((if e.2.2 < o then o else e.2.2) + c) t
def rsnR (X : Nat → Nat) (h f t r : Nat) : List Nat → List cE → Nat
  | [], acc => bif mok (X 0) 0 (addC (h, f, t) acc) then 0 else 3
  | p :: ps, acc => bif clsh X p h f t then (bif decide (r ≤ X (p + 4)) then 2 else rsnR X h f t r ps acc) else rsnR X h f t r ps (addC (X p, X (p + 2), X (p + 3)) acc)
def rsn (X : Nat → Nat) (h day f t r : Nat) : Nat := rsnR X h f t r (lk X day) []
def rfs (X : Nat → Nat) (h day f t r : Nat) : Nat := if X 92 = 12 then 1 else rsn X h day f t r
theorem rsnR_le (X : Nat → Nat) (h f t r : Nat) : ∀ ps acc, rsnR X h f t r ps acc ≤ 3
  | [], acc => by simp only [rsnR]; cases mok (X 0) 0 (addC (h, f, t) acc) <;> decide
  | p :: ps, acc => by
    simp only [rsnR]
    cases clsh X p h f t
    · exact rsnR_le X h f t r ps _
    · cases decide (r ≤ X (p + 4))
      · exact rsnR_le X h f t r ps _
      · exact Nat.le_succ 2
theorem insR_mem {e a : cE} : ∀ {r : List cE}, a ∈ insR e r → a = e ∨ a ∈ r
  | [], h => Or.inl (List.mem_singleton.mp h)
  | b :: r, h => by
    simp only [insR] at h
    cases hg : gtE b e
    · rw [hg] at h
      rcases List.mem_cons.mp h with h | h
      · exact Or.inl h
      · exact Or.inr h
    · rw [hg] at h
      rcases List.mem_cons.mp h with h | h
      · exact Or.inr (h ▸ List.mem_cons_self)
      · rcases insR_mem h with h | h
        · exact Or.inl h
        · exact Or.inr (List.mem_cons_of_mem _ h)
theorem addC_mem {e a : cE} {l : List cE} (h : a ∈ addC e l) : a = e ∨ a ∈ l := by
  rcases insR_mem (List.mem_reverse.mp h) with h | h
  · exact Or.inl h
  · exact Or.inr (List.mem_reverse.mp h)
theorem drop_get {α : Type} {l : List α} {k : Nat} {a : α} (h : l[k]? = some a) : l.drop k = a :: l.drop (k + 1) := by
  obtain ⟨h1, h2⟩ := List.getElem?_eq_some_iff.mp h
  rw [← h2, List.drop_eq_getElem_cons h1]
def rentF (X : Nat → Nat) (h wd hrs sh : Nat) : Nat := if 4 < wd then hrs * X (5 + h) * sh / 100 * (100 + X 2) / 100 else hrs * X (5 + h) * sh / 100
def sRent (X : Nat → Nat) (h day f t : Nat) : Nat := rentF X h (day % 7) (t - f) 100
def rRent (X : Nat → Nat) (h wd f t : Nat) : Nat := rentF X h wd (t - f) (100 - X 1)
def wf1 (X : Nat → Nat) : Prop := X 0 ≤ 4 ∧ X 1 ≤ 50 ∧ X 2 ≤ 100 ∧ X 3 ≤ X 4 ∧ X 4 ≤ 11 ∧ (100 ≤ X 5 ∧ X 5 ≤ 5000) ∧ (100 ≤ X 6 ∧ X 6 ≤ 5000) ∧ (100 ≤ X 7 ∧ X 7 ≤ 5000)
theorem wf1_rate {X : Nat → Nat} (h : wf1 X) {a : Nat} (ha : a ≤ 2) : 100 ≤ X (5 + a) ∧ X (5 + a) ≤ 5000 := by
  obtain ⟨-, -, -, -, -, h5, h6, h7⟩ := h
  rcases (show a = 0 ∨ a = 1 ∨ a = 2 by omega) with rfl | rfl | rfl <;> assumption
theorem rent_b {X : Nat → Nat} (h : wf1 X) {a hrs sh : Nat} (ha : a ≤ 2) (hh : hrs ≤ 24) (hs : sh ≤ 100) : hrs * X (5 + a) ≤ 120000 ∧ hrs * X (5 + a) * sh ≤ 12000000 ∧ hrs * X (5 + a) * sh / 100 ≤ 120000 ∧ hrs * X (5 + a) * sh / 100 * (100 + X 2) ≤ 24000000 ∧ hrs * X (5 + a) * sh / 100 * (100 + X 2) / 100 ≤ 240000 := by
  have h1 : hrs * X (5 + a) ≤ 24 * 5000 := Nat.mul_le_mul hh (wf1_rate h ha).2
  have h2 : hrs * X (5 + a) * sh ≤ 24 * 5000 * 100 := Nat.mul_le_mul h1 hs
  have h3 : hrs * X (5 + a) * sh / 100 ≤ 120000 := by omega
  have h4 : hrs * X (5 + a) * sh / 100 * (100 + X 2) ≤ 120000 * 200 := Nat.mul_le_mul h3 (by have := h.2.2.1; omega)
  exact ⟨by omega, by omega, h3, by omega, by omega⟩
theorem rentF_le {X : Nat → Nat} (h : wf1 X) {a wd hrs sh : Nat} (ha : a ≤ 2) (hh : hrs ≤ 24) (hs : sh ≤ 100) : rentF X a wd hrs sh ≤ 240000 := by
  obtain ⟨h1, h2, h3, h4, h5⟩ := rent_b h ha hh hs
  unfold rentF
  split <;> omega
def SVf (SS : Nat → Nat → Nat) : Nat → Nat := fun j => SS (j / 177) (j % 177)
def svS (SS : Nat → Nat → Nat) (sm : Nat) (X : Nat → Nat) : Nat → Nat → Nat := fun k => if sm = 6 then (if k < 5 then SS (k + 1) else X) else if k = sm then X else SS k
def svN (sm : Nat) : Nat := if sm = 6 then 6 else sm + 1
theorem SVf_at (SS : Nat → Nat → Nat) {s j : Nat} (h : j < 177) : SVf SS (177 * s + j) = SS s j := by
  unfold SVf
  rw [show (177 * s + j) / 177 = s by omega, show (177 * s + j) % 177 = j by omega]
def fil (A B : Nat → Nat) (o k : Nat) : Nat → Nat := fun j => if o ≤ j ∧ j < o + k then A j else B j
theorem fil_0 (A B : Nat → Nat) (o : Nat) : fil A B o 0 = B := by
  funext j
  unfold fil
  rw [if_neg (by omega)]
theorem fil_s (A B : Nat → Nat) (o k : Nat) : uN (fil A B o k) (o + k) (A (o + k)) = fil A B o (k + 1) := by
  funext j
  unfold uN fil
  by_cases h : j = o + k
  · subst h; rw [if_pos rfl, if_pos (by omega)]
  · rw [if_neg h]
    by_cases h2 : o ≤ j ∧ j < o + k
    · rw [if_pos h2, if_pos (by omega)]
    · rw [if_neg h2, if_neg (by omega)]
theorem fil_in {A B : Nat → Nat} {o k j : Nat} (h : o ≤ j) (h2 : j < o + k) : fil A B o k j = A j := by unfold fil; rw [if_pos ⟨h, h2⟩]
theorem fil_out {A B : Nat → Nat} {o k j : Nat} (h : j < o ∨ o + k ≤ j) : fil A B o k j = B j := by unfold fil; rw [if_neg (by omega)]
def rmS (X : Nat → Nat) (n : Nat) : Nat → Nat := fun j => if j = 92 then X 92 - 1 else if 93 + 7 * n ≤ j ∧ j < 93 + 7 * (X 92 - 1) then X (j + 7) else if 93 + 7 * (X 92 - 1) ≤ j ∧ j < 93 + 7 * X 92 then 0 else X j
def rmR (X : Nat → Nat) (n : Nat) : Nat → Nat := fun j => if j = 11 then X 11 - 1 else if 12 + 10 * n ≤ j ∧ j < 12 + 10 * (X 11 - 1) then X (j + 10) else if 12 + 10 * (X 11 - 1) ≤ j ∧ j < 12 + 10 * X 11 then 0 else X j
def gwStep (X : Nat → Nat) (p day : Nat) : Nat → Nat := if 93 ≤ p then rmS (uN X 9 (X 9 + X (p + 6))) ((p - 93) / 7) else uN (uN X 9 (X 9 + X (p + 6))) (p + 9) (uN X 9 (X 9 + X (p + 6)) (p + 9) ||| 2 ^ (day / 7))
def gwL (day h f t : Nat) : List Nat → (Nat → Nat) → Nat → Nat × (Nat → Nat)
  | [], X, g => (g, X)
  | p :: ps, X, g => bif clsh X p h f t then gwL day h f t ps (gwStep X p day) (g + 1) else gwL day h f t ps X g
def gw (X : Nat → Nat) (day h f t : Nat) : Nat × (Nat → Nat) := ((gwL day h f t (lk X day).reverse X 0).1, uN (gwL day h f t (lk X day).reverse X 0).2 10 ((gwL day h f t (lk X day).reverse X 0).2 10 + (gwL day h f t (lk X day).reverse X 0).1))
theorem rB_uN {X : Nat → Nat} (h : rB X) {k v : Nat} (hv : v < 1048576 ∨ k = 8 ∨ k = 9 ∨ k = 10) : rB (uN X k v) := fun j h1 h2 h3 h4 => by
  by_cases hj : j = k
  · subst hj
    rw [uN_s]
    omega
  · rw [uN_n _ _ hj]
    exact h j h1 h2 h3 h4
theorem rB_rmS {X : Nat → Nat} (h : rB X) (h12 : X 92 ≤ 12) (n : Nat) : rB (rmS X n) := fun j h1 h2 h3 h4 => by
  unfold rmS
  split
  · omega
  · split
    · exact h _ (by omega) (by omega) (by omega) (by omega)
    · split
      · omega
      · exact h j h1 h2 h3 h4
theorem or_b {a w : Nat} (ha : a < 1048576) (hw : w ≤ 11) : a ||| 2 ^ w < 1048576 := Nat.or_lt_two_pow (n := 20) ha (Nat.lt_of_le_of_lt (Nat.pow_le_pow_right (by decide) hw) (by decide))
theorem gwStep_wf {X : Nat → Nat} (h : wf0 X) {p day : Nat} (hp : p + 6 < 177) (hd : day < 84) (h2 : 93 ≤ p ∨ p + 9 < 92) (hp3 : 12 ≤ p) : wf0 (gwStep X p day) := by
  obtain ⟨hB, h8, h12⟩ := h
  have hb1 := rB_uN hB (k := 9) (v := X 9 + X (p + 6)) (Or.inr (Or.inr (Or.inl rfl)))
  have e11 : uN X 9 (X 9 + X (p + 6)) 11 = X 11 := uN_n _ _ (by decide)
  have e92 : uN X 9 (X 9 + X (p + 6)) 92 = X 92 := uN_n _ _ (by decide)
  unfold gwStep
  by_cases hc : 93 ≤ p
  · rw [if_pos hc]
    refine ⟨rB_rmS hb1 (by rw [e92]; exact h12) _, ?_, ?_⟩
    · unfold rmS
      rw [if_neg (by decide), if_neg (by omega), if_neg (by omega), e11]
      exact h8
    · unfold rmS
      rw [if_pos rfl, e92]
      omega
  · rw [if_neg hc]
    refine ⟨rB_uN hb1 (Or.inl (or_b (hb1 _ (by omega) (by omega) (by omega) (by omega)) (by omega))), ?_, ?_⟩
    · rw [uN_n _ _ (by omega), e11]
      exact h8
    · rw [uN_n _ _ (by omega), e92]
      exact h12
theorem gwStep_low {X : Nat → Nat} {p day j : Nat} (hp : 12 ≤ p) (hj : j < 8) : gwStep X p day j = X j := by
  unfold gwStep
  split
  · unfold rmS
    rw [if_neg (by omega), if_neg (by omega), if_neg (by omega), uN_n _ _ (by omega)]
  · rw [uN_n _ _ (by omega), uN_n _ _ (by omega)]
def plc (X : Nat → Nat) (p : Nat) : Prop := (∃ i, i < 8 ∧ p = 12 + 10 * i) ∨ ∃ i, i < X 92 ∧ p = 93 + 7 * i
theorem lk_plc {X : Nat → Nat} (h : wf0 X) {day p : Nat} (hp : p ∈ lk X day) : plc X p := by
  obtain ⟨-, h3, h4⟩ := h
  rcases List.mem_append.mp hp with h | h
  · obtain ⟨i, h1, h2, -⟩ := lkR_mem h
    exact Or.inl ⟨i, by omega, h2⟩
  · obtain ⟨i, h1, h2, -⟩ := lkS_mem h
    exact Or.inr ⟨i, h1, h2⟩
theorem lkR_pw (X : Nat → Nat) (day : Nat) : ∀ k, (lkR X day k).Pairwise (· < ·)
  | 0 => List.Pairwise.nil
  | k + 1 => by
    unfold lkR
    refine List.pairwise_append.mpr ⟨lkR_pw X day k, by cases stdR X k day <;> simp, fun a ha b hb => ?_⟩
    obtain ⟨i, hi, rfl, -⟩ := lkR_mem ha
    cases hs : stdR X k day
    · rw [hs] at hb; cases hb
    · rw [hs] at hb
      have := List.mem_singleton.mp hb
      omega
theorem lkS_pw (X : Nat → Nat) (day : Nat) : ∀ k, (lkS X day k).Pairwise (· < ·)
  | 0 => List.Pairwise.nil
  | k + 1 => by
    unfold lkS
    refine List.pairwise_append.mpr ⟨lkS_pw X day k, by cases decide (X (93 + 7 * k + 1) = day) <;> simp, fun a ha b hb => ?_⟩
    obtain ⟨i, hi, rfl, -⟩ := lkS_mem ha
    cases hs : decide (X (93 + 7 * k + 1) = day)
    · rw [hs] at hb; cases hb
    · rw [hs] at hb
      have := List.mem_singleton.mp hb
      omega
theorem lk_pw {X : Nat → Nat} (h : wf0 X) (day : Nat) : (lk X day).Pairwise (· < ·) := by
  refine List.pairwise_append.mpr ⟨lkR_pw X day _, lkS_pw X day _, fun a ha b hb => ?_⟩
  obtain ⟨-, h3, h4⟩ := h
  obtain ⟨i, hi, rfl, -⟩ := lkR_mem ha
  obtain ⟨j, hj, rfl, -⟩ := lkS_mem hb
  omega
theorem gwStep_plc {X : Nat → Nat} {p q day : Nat} (hp : plc X p) (hq : plc X q) (hlt : q < p) : plc (gwStep X p day) q := by
  rcases hq with h | ⟨i, hi, rfl⟩
  · exact Or.inl h
  · rcases hp with ⟨i2, h2, rfl⟩ | ⟨i2, h2, rfl⟩
    · exact absurd hlt (by omega)
    · refine Or.inr ⟨i, ?_, rfl⟩
      unfold gwStep rmS
      rw [if_pos (by omega), if_pos rfl, uN_n _ _ (by decide)]
      omega
theorem gwL_ok {day h f t : Nat} (hd : day < 84) : ∀ (ps : List Nat) (X : Nat → Nat) (g : Nat), wf0 X → (∀ p ∈ ps, plc X p) → ps.Pairwise (· > ·) → wf0 (gwL day h f t ps X g).2 ∧ (∀ j, j < 8 → (gwL day h f t ps X g).2 j = X j) ∧ (gwL day h f t ps X g).2 92 ≤ X 92 ∧ (gwL day h f t ps X g).1 ≤ g + ps.length ∧ (gwL day h f t ps X g).2 11 = X 11
  | [], X, g, h1, h2, h3 => ⟨h1, fun _ _ => rfl, Nat.le_refl _, Nat.le_refl _, rfl⟩
  | p :: ps, X, g, h1, h2, h3 => by
    unfold gwL
    have hp := h2 p List.mem_cons_self
    rw [List.pairwise_cons] at h3
    cases hc : clsh X p h f t
    · have := gwL_ok (h := h) (f := f) (t := t) hd ps X g h1 (fun q hq => h2 q (List.mem_cons_of_mem _ hq)) h3.2
      simp only [cond_false, List.length_cons]
      exact ⟨this.1, this.2.1, this.2.2.1, by omega, this.2.2.2.2⟩
    · have h12 := h1.2.2
      have hw : wf0 (gwStep X p day) := gwStep_wf h1 (by rcases hp with ⟨i, hi, rfl⟩ | ⟨i, hi, rfl⟩ <;> omega) hd (by rcases hp with ⟨i, hi, rfl⟩ | ⟨i, hi, rfl⟩ <;> omega) (by rcases hp with ⟨i, hi, rfl⟩ | ⟨i, hi, rfl⟩ <;> omega)
      obtain ⟨a1, a2, a3, a4, a5⟩ := gwL_ok (h := h) (f := f) (t := t) hd ps (gwStep X p day) (g + 1) hw (fun q hq => gwStep_plc hp (h2 q (List.mem_cons_of_mem _ hq)) (h3.1 q hq)) h3.2
      simp only [cond_true, List.length_cons]
      have hp12 : 12 ≤ p := by rcases hp with ⟨i, hi, rfl⟩ | ⟨i, hi, rfl⟩ <;> omega
      have e92 : gwStep X p day 92 ≤ X 92 := by
        unfold gwStep
        split
        · unfold rmS
          rw [if_pos rfl, uN_n _ _ (by decide)]
          omega
        · rw [uN_n _ _ (by rcases hp with ⟨i, hi, rfl⟩ | ⟨i, hi, rfl⟩ <;> omega), uN_n _ _ (by decide)]
          exact Nat.le_refl _
      have e11 : gwStep X p day 11 = X 11 := by
        unfold gwStep
        split
        · unfold rmS
          rw [if_neg (by omega), if_neg (by omega), if_neg (by omega), uN_n _ _ (by decide)]
        · rw [uN_n _ _ (by omega), uN_n _ _ (by decide)]
      exact ⟨a1, fun j hj => (a2 j hj).trans (gwStep_low hp12 hj), by omega, by omega, a5.trans e11⟩
theorem gw_ok {X : Nat → Nat} (h0 : wf0 X) {day h f t : Nat} (hd : day < 84) : wf0 (gw X day h f t).2 ∧ (∀ j, j < 8 → (gw X day h f t).2 j = X j) ∧ (gw X day h f t).2 92 ≤ X 92 ∧ (gw X day h f t).2 11 = X 11 := by
  obtain ⟨a1, a2, a3, a4, a5⟩ := gwL_ok (h := h) (f := f) (t := t) hd (lk X day).reverse X 0 h0 (fun p hp => lk_plc h0 (List.mem_reverse.mp hp)) (List.pairwise_reverse.mpr (lk_pw h0 day))
  unfold gw
  refine ⟨⟨rB_uN a1.1 (Or.inr (Or.inr (Or.inr rfl))), ?_, ?_⟩, fun j hj => ?_, ?_, ?_⟩
  · dsimp only
    rw [uN_n _ _ (by decide)]; exact a1.2.1
  · dsimp only
    rw [uN_n _ _ (by decide)]; exact a1.2.2
  · dsimp only
    rw [uN_n _ _ (by omega)]; exact a2 j hj
  · dsimp only
    rw [uN_n _ _ (by decide)]; exact a3
  · dsimp only
    rw [uN_n _ _ (by decide)]; exact a5
theorem wf1_low {X Y : Nat → Nat} (h : wf1 X) (e : ∀ j, j < 8 → Y j = X j) : wf1 Y := by
  unfold wf1 at h ⊢
  rw [e 0 (by decide), e 1 (by decide), e 2 (by decide), e 3 (by decide), e 4 (by decide), e 5 (by decide), e 6 (by decide), e 7 (by decide)]
  exact h
def layX (X : Nat → Nat) (p h d f t r te : Nat) : Nat → Nat := uN (uN (uN (uN (uN (uN X (p + 0) h) (p + 1) d) (p + 2) f) (p + 3) t) (p + 4) r) (p + 5) te
def mkS (X : Nat → Nat) (h day f t r te : Nat) : Nat → Nat :=
  let X1 := (gw X day h f t).2
  let p := 93 + 7 * X1 92
  let X2 := layX X1 p h day f t r te
  let X3 := uN X2 (p + 6) (sRent X2 h day f t)
  let X4 := uN X3 8 (X3 8 + X3 (p + 6))
  uN X4 92 (X4 92 + 1)
theorem i32_m1 (x : Int32) : x + Int32.ofInt (-1) = x - nI 1 := by
  rw [Int32.sub_eq_add_neg]
  rfl
theorem zin_cnt {v : Int32} {c : Nat} (hc : c ≤ 1000) (h : zin v (nI 0) (nI c - nI 1) = true) : ∃ n, n < c ∧ v = nI n := by
  cases c with
  | zero =>
    simp only [zin, Bool.and_eq_true, decide_eq_true_eq] at h
    exact absurd (Int32.le_trans h.1 h.2) (by decide)
  | succ c =>
    rw [show nI (c + 1) - nI 1 = nI c from nI_pred c] at h
    obtain ⟨n, -, h1, rfl⟩ := zin_i (by decide) (by omega) h
    exact ⟨n, by omega, rfl⟩
theorem zin_cnt' {n c : Nat} (hc : c ≤ 1000) (h : n < c) : zin (nI n) (nI 0) (nI c - nI 1) = true := by
  obtain ⟨c, rfl⟩ : ∃ k, c = k + 1 := ⟨c - 1, by omega⟩
  rw [show nI (c + 1) - nI 1 = nI c from nI_pred c, zin_n (by omega) (by decide) (by omega)]
  simp
  omega
def offN (X : Nat → Nat) (h wd f t r : Nat) : Nat → Nat
  | 0 => 0
  | n + 1 => offN X h wd f t r n ||| (if 0 < rsn X h (7 * (X 3 + n) + wd) f t r then 2 ^ (X 3 + n) else 0)
def offW (X : Nat → Nat) (h wd f t r : Nat) : Nat := offN X h wd f t r (X 4 + 1 - X 3)
theorem offN_lt {X : Nat → Nat} (h4 : X 4 ≤ 11) (h wd f t r : Nat) : ∀ n, X 3 + n ≤ X 4 + 1 → offN X h wd f t r n < 2 ^ 12
  | 0, _ => by simp [offN]
  | n + 1, hn => by
    refine Nat.or_lt_two_pow (offN_lt h4 h wd f t r n (by omega)) ?_
    split
    · exact Nat.pow_lt_pow_right (by decide) (by omega)
    · decide
def mrN (X : Nat → Nat) (off h wd f t : Nat) : Nat → Nat × (Nat → Nat)
  | 0 => (0, X)
  | n + 1 => if off / 2 ^ (X 3 + n) % 2 = 0 then ((mrN X off h wd f t n).1 + 1, (gw (mrN X off h wd f t n).2 (7 * (X 3 + n) + wd) h f t).2) else mrN X off h wd f t n
theorem mrN_ok {X : Nat → Nat} (h0 : wf0 X) (h4 : X 4 ≤ 11) {off h wd f t : Nat} (hw : wd ≤ 6) : ∀ n, X 3 + n ≤ X 4 + 1 → wf0 (mrN X off h wd f t n).2 ∧ (∀ j, j < 8 → (mrN X off h wd f t n).2 j = X j) ∧ (mrN X off h wd f t n).2 11 = X 11 ∧ (mrN X off h wd f t n).1 ≤ n
  | 0, _ => ⟨h0, fun _ _ => rfl, rfl, Nat.le_refl _⟩
  | n + 1, hn => by
    obtain ⟨a1, a2, a3, a4⟩ := mrN_ok h0 h4 (off := off) (h := h) (f := f) (t := t) hw n (by omega)
    unfold mrN
    split
    · obtain ⟨b1, b2, b3, b4⟩ := gw_ok a1 (day := 7 * (X 3 + n) + wd) (h := h) (f := f) (t := t) (by omega)
      exact ⟨b1, fun j hj => (b2 j hj).trans (a2 j hj), b4.trans a3, by dsimp only; omega⟩
    · exact ⟨a1, a2, a3, by omega⟩
def mkR0 (X1 : Nat → Nat) (days off h wd f t r te : Nat) : Nat → Nat :=
  let p := 12 + 10 * X1 11
  let X2 := layX X1 p h wd f t r te
  let X3 := uN X2 (p + 6) (rRent X2 h wd f t)
  let X4 := uN X3 (p + 7) (X3 3)
  let X5 := uN X4 (p + 8) (X4 4)
  let X6 := uN X5 (p + 9) off
  let X7 := uN X6 8 (X6 8 + days * X6 (p + 6))
  uN X7 11 (X7 11 + 1)
def mkR (X : Nat → Nat) (h wd f t r te : Nat) : Nat → Nat := mkR0 (mrN X (offW X h wd f t r) h wd f t (X 4 + 1 - X 3)).2 (mrN X (offW X h wd f t r) h wd f t (X 4 + 1 - X 3)).1 (offW X h wd f t r) h wd f t r te
def mkRd (X : Nat → Nat) (h wd f t r : Nat) : Nat := (mrN X (offW X h wd f t r) h wd f t (X 4 + 1 - X 3)).1
def ssN (X : Nat → Nat) (off : Nat) : Nat → Bool
  | 0 => false
  | n + 1 => ssN X off n || decide (off / 2 ^ (X 3 + n) % 2 = 0)
def ssW (X : Nat → Nat) (off : Nat) : Bool := ssN X off (X 4 + 1 - X 3)
abbrev okI (hall a b f t r te : Int32) (wd : Nat) : Bool := zin a (nI 0) (nI wd) && zhrs f t && zwho r te
theorem rfs_le (X : Nat → Nat) (h day f t r : Nat) : rfs X h day f t r ≤ 3 := by
  unfold rfs
  split
  · decide
  · exact rsnR_le X h f t r _ _
def okA (a1 a2 a3 a4 a5 : Int32) (m : Nat) : Bool := zin a1 (nI 0) (nI m) && zhrs a2 a3 && zwho a4 a5
theorem zhrs_n {f t : Nat} (hf : f < t) (ht : t ≤ 24) : zhrs (nI f) (nI t) = true := by
  rw [zhrs, nI_add, zin_n (by omega) (by decide) (by decide), zin_n (by omega) (by omega) (by decide)]
  simp
  omega
theorem zwho_n {r te : Nat} (hr : 1 ≤ r) (hr2 : r ≤ 9) (hte : te ≤ 19) : zwho (nI r) (nI te) = true := by
  rw [zwho, zin_n (by omega) (by decide) (by decide), zin_n (by omega) (by decide) (by decide)]
  simp
  omega
theorem zin_t {w a b : Nat} (h1 : a ≤ w) (h2 : w ≤ b) (hb : b < 2 ^ 31) : zin (nI w) (nI a) (nI b) = true := by
  rw [zin_n (by omega) (by omega) hb]
  simp
  omega
def refR (X : Nat → Nat) (h wd f t r : Nat) : Bool := decide (X 11 = 8) || !ssW X (offW X h wd f t r)
def cxC (X : Nat → Nat) (b : Bool) : Nat := bif b then X 11 else X 92
def cxB (X : Nat → Nat) (b : Bool) (i : Nat) : Nat := bif b then dcnt X i 84 * X (12 + 10 * i + 6) else X (93 + 7 * i + 6)
def cxX (X : Nat → Nat) (b : Bool) (i : Nat) : Nat → Nat := bif b then uN (rmR X i) 9 (rmR X i 9 + cxB X b i) else uN (rmS X i) 9 (rmS X i 9 + cxB X b i)
def ofX (X : Nat → Nat) (i d : Nat) : Nat → Nat := uN (uN X (12 + 10 * i + 9) (X (12 + 10 * i + 9) ||| 2 ^ (d / 7))) 9 (uN X (12 + 10 * i + 9) (X (12 + 10 * i + 9) ||| 2 ^ (d / 7)) 9 + uN X (12 + 10 * i + 9) (X (12 + 10 * i + 9) ||| 2 ^ (d / 7)) (12 + 10 * i + 6))
def lOK (X : Nat → Nat) (p : Nat) : Prop := X p ≤ 2 ∧ X (p + 2) < X (p + 3) ∧ X (p + 3) ≤ 24 ∧ 1 ≤ X (p + 4) ∧ X (p + 4) ≤ 9 ∧ X (p + 5) ≤ 19 ∧ X (p + 6) ≤ 240000
def wf2 (X : Nat → Nat) : Prop := (∀ i, i < X 11 → lOK X (12 + 10 * i) ∧ X (12 + 10 * i + 1) ≤ 6 ∧ X (12 + 10 * i + 7) ≤ X (12 + 10 * i + 8) ∧ X (12 + 10 * i + 8) ≤ 11 ∧ X (12 + 10 * i + 9) < 4096) ∧ ∀ i, i < X 92 → lOK X (93 + 7 * i) ∧ X (93 + 7 * i + 1) ≤ 83
theorem lk_ok {X : Nat → Nat} (h : wf2 X) {day p : Nat} (hp : p ∈ lk X day) : lOK X p := by
  rcases List.mem_append.mp hp with h1 | h1
  · obtain ⟨i, h2, rfl, -⟩ := lkR_mem h1
    exact (h.1 i h2).1
  · obtain ⟨i, h2, rfl, -⟩ := lkS_mem h1
    exact (h.2 i h2).1
def fdS (X : Nat → Nat) (i : Nat) : Nat → Nat → Int32
  | 0, _ => -1
  | n + 1, k => bif stdR X i k then nI k else fdS X i n (k + 1)
def ofR (X : Nat → Nat) (i w : Nat) : Int32 := if w < 9 then nI (X (12 + 10 * i + w)) else if w = 9 then nI (dcnt X i 84) else fdS X i 84 0
def tnS (X : Nat → Nat) (h hr : Nat) : List Nat → Int32 → Int32
  | [], a => a
  | p :: ps, a => tnS X h hr ps (bif decide (X p = h) && zin (nI hr) (nI (X (p + 2))) (nI (X (p + 3)) - nI 1) then nI (X (p + 5)) else a)
def ownH (X : Nat → Nat) (w p : Nat) : Nat := if w = 0 then 1 else if w = 1 then X (p + 3) - X (p + 2) else X (p + 6)
def ihS (X : Nat → Nat) (h w : Nat) : List Nat → Nat → Nat
  | [], a => a
  | p :: ps, a => ihS X h w ps (a + if X p = h then ownH X w p else 0)
def ofH (X : Nat → Nat) (h day w : Nat) : Int32 := if w = 0 then nI (ihS X h 0 (lk X day) 0) else if w = 3 then nI (ihS X h 2 (lk X day) 0) else nI 24 - nI (ihS X h 1 (lk X day) 0)
def tqB (te : Int32) (v : Nat) : Bool := decide (te = -1) || decide (nI v = te)
def ownR (X : Nat → Nat) (w i : Nat) : Nat := if w = 0 then 1 else if w = 1 then dcnt X i 84 else dcnt X i 84 * X (12 + 10 * i + 6)
def ownS (X : Nat → Nat) (w i : Nat) : Nat := if w < 2 then 1 else X (93 + 7 * i + 6)
def otR (X : Nat → Nat) (te : Int32) (w : Nat) : Nat → Nat
  | 0 => 0
  | n + 1 => otR X te w n + (bif tqB te (X (12 + 10 * n + 5)) then ownR X w n else 0)
def otS (X : Nat → Nat) (te : Int32) (w : Nat) : Nat → Nat
  | 0 => 0
  | n + 1 => otS X te w n + (bif tqB te (X (93 + 7 * n + 5)) then ownS X w n else 0)
def oT (X : Nat → Nat) (te : Int32) (w : Nat) : Nat := otR X te w (X 11) + otS X te w (X 92)
def cnt0 (X : Nat → Nat) (sm w : Nat) : Nat := if w = 0 then X 11 else if w = 1 then X 92 else if w = 2 then oT X (-1) 1 else if w = 3 then oT X (-1) 2 else if w = 4 then X 8 else if w = 5 then X 9 else if w = 6 then X 10 else if w = 12 then sm else X (w - 7)
def ffH (X : Nat → Nat) (h hrs day : Nat) : Nat → Nat → Option Nat
  | 0, _ => none
  | n + 1, f => if f + hrs ≤ 24 then (if rfs X h day f (f + hrs) 1 = 0 then some (24 * day + f) else ffH X h hrs day n (f + 1)) else none
def ffD (X : Nat → Nat) (h hrs : Nat) : Nat → Nat → Int32
  | 0, _ => -1
  | n + 1, day => match ffH X h hrs day 25 0 with | some v => nI v | none => ffD X h hrs n (day + 1)
def btN (X : Nat → Nat) : Nat → Int32 × Nat
  | 0 => (-1, 0)
  | n + 1 => if (btN X n).2 < oT X (nI n) 2 then (nI n, oT X (nI n) 2) else btN X n
theorem nI_m1 {n : Nat} (h : n < 2 ^ 31) : ¬ nI n = -1 := fun e => by
  have h1 := nI_pos h
  rw [e] at h1
  exact h1 (by decide)
def pwJ (X : Nat → Nat) (p : Nat) (l : List Nat) : Bool := l.all (fun q => !clsh X p (X q) (X (q + 2)) (X (q + 3)))
def pwK (X : Nat → Nat) (l : List Nat) : Nat → Bool
  | 0 => true
  | k + 1 => pwK X l k && (match l[k]? with | none => true | some p => pwJ X p (l.take k))
def csK (X : Nat → Nat) (l : List Nat) : Nat → List cE
  | 0 => []
  | k + 1 => match l[k]? with | none => csK X l k | some p => addC (X p, X (p + 2), X (p + 3)) (csK X l k)
def gdD (X : Nat → Nat) (day : Nat) : Bool := pwK X (lk X day) (lk X day).length && mok (X 0) 0 (csK X (lk X day) (lk X day).length)
def alD (X : Nat → Nat) : Nat → Nat → Bool
  | 0, _ => true
  | n + 1, day => gdD X day && alD X n (day + 1)
def gdW (X : Nat → Nat) (w v : Nat) : Bool := decide (uN X w v 3 ≤ uN X w v 4) && (decide (w ≠ 0) || alD (uN X w v) 84 0)
def mxS (w : Nat) : Nat := if w = 0 then 4 else if w = 1 then 50 else if w = 2 then 100 else 11
theorem csK_len (X : Nat → Nat) (l : List Nat) : ∀ k, (csK X l k).length ≤ k
  | 0 => Nat.le_refl 0
  | k + 1 => by
    have := csK_len X l k
    simp only [csK]
    cases l[k]? with
    | none => simp only; omega
    | some p => simp only [addC_len]; omega
theorem uN_b {X : Nat → Nat} {w v : Nat} : uN (uN X w v) w (X w) = X := by
  funext j
  by_cases h : j = w
  · subst h; simp [uN]
  · simp [uN, h]
theorem wf0_set {X : Nat → Nat} (hX : wf0 X) {w v : Nat} (hw : w ≤ 4) (hv : v ≤ 100) : wf0 (uN X w v) := by
  refine ⟨fun j h1 h2 h3 h4 => ?_, ?_, ?_⟩
  · by_cases h : j = w
    · subst h; rw [uN_s]; omega
    · rw [uN_n _ _ h]; exact hX.1 j h1 h2 h3 h4
  · rw [uN_n _ _ (by omega)]; exact hX.2.1
  · rw [uN_n _ _ (by omega)]; exact hX.2.2
theorem mxS_le (w : Nat) : mxS w ≤ 100 := by
  simp only [mxS]
  repeat' split
  all_goals omega
def prP (P : Nat → Nat) (j : Nat) : Prop := P (6 * j + 0) ≤ 2 ∧ P (6 * j + 1) ≤ 83 ∧ P (6 * j + 2) ≤ 23 ∧ 1 ≤ P (6 * j + 3) ∧ P (6 * j + 3) ≤ 24 ∧ 1 ≤ P (6 * j + 4) ∧ P (6 * j + 4) ≤ 9 ∧ P (6 * j + 5) ≤ 19
theorem prP_eq {P Q : Nat → Nat} {j : Nat} (h : prP P j) (e : ∀ k, k < 6 → Q (6 * j + k) = P (6 * j + k)) : prP Q j := by
  simp only [prP] at h ⊢
  rw [e 0 (by omega), e 1 (by omega), e 2 (by omega), e 3 (by omega), e 4 (by omega), e 5 (by omega)]
  exact h
def ltOk (P X : Nat → Nat) (k : Nat) : Bool := decide (P (6 * k + 2) < P (6 * k + 3)) && decide (rfs X (P (6 * k)) (P (6 * k + 1)) (P (6 * k + 2)) (P (6 * k + 3)) (P (6 * k + 4)) = 0)
def ltX (P X : Nat → Nat) (k : Nat) : Nat → Nat := mkS X (P (6 * k)) (P (6 * k + 1)) (P (6 * k + 2)) (P (6 * k + 3)) (P (6 * k + 4)) (P (6 * k + 5))
def ltT (P X : Nat → Nat) : Nat → Nat × (Nat → Nat)
  | 0 => (0, X)
  | k + 1 => bif ltOk P (ltT P X k).2 k then ((ltT P X k).1 + 1, ltX P (ltT P X k).2 k) else ltT P X k
theorem rB_lay {X : Nat → Nat} (h : rB X) {p a b c d e f : Nat} (ha : a < 1048576) (hb : b < 1048576) (hc : c < 1048576) (hd : d < 1048576) (he : e < 1048576) (hf : f < 1048576) : rB (layX X p a b c d e f) := by
  intro j h1 h2 h3 h4
  have := h j h1 h2 h3 h4
  simp only [layX, uN]
  repeat' split
  all_goals assumption
theorem rB_u {X : Nat → Nat} (h : rB X) {p v : Nat} (hv : v < 1048576 ∨ p = 8 ∨ p = 9 ∨ p = 10) : rB (uN X p v) := by
  intro j h1 h2 h3 h4
  have := h j h1 h2 h3 h4
  simp only [uN]
  split
  · omega
  · assumption
theorem mkS_ok {X : Nat → Nat} (hX : wf0 X) (h1 : wf1 X) (hlt : X 92 < 12) {day h f t r te : Nat} (hd : day < 84) (hh : h ≤ 2) (ht : t ≤ 24) (hf : f ≤ t) (hr : r ≤ 9) (hte : te ≤ 19) : wf0 (mkS X h day f t r te) ∧ wf1 (mkS X h day f t r te) ∧ (mkS X h day f t r te) 11 = X 11 ∧ ∀ j, j < 8 → mkS X h day f t r te j = X j := by
  obtain ⟨g1, g2, g3, g4⟩ := gw_ok hX (h := h) (f := f) (t := t) hd
  unfold mkS
  generalize hX1 : (gw X day h f t).2 = X1 at g1 g2 g3 g4
  have hlow : ∀ j, j < 93 → layX X1 (93 + 7 * X1 92) h day f t r te j = X1 j := fun j hj => by
    unfold layX
    rw [uN_n _ _ (by omega), uN_n _ _ (by omega), uN_n _ _ (by omega), uN_n _ _ (by omega), uN_n _ _ (by omega), uN_n _ _ (by omega)]
  have hw1 : wf1 (layX X1 (93 + 7 * X1 92) h day f t r te) := wf1_low h1 (fun j hj => (hlow j (by omega)).trans (g2 j hj))
  have hrent : sRent (layX X1 (93 + 7 * X1 92) h day f t r te) h day f t ≤ 240000 := rentF_le hw1 hh (by omega) (by omega)
  dsimp only
  have hrB := rB_u (rB_u (rB_u (rB_lay g1.1 (p := 93 + 7 * X1 92) (a := h) (b := day) (c := f) (d := t) (e := r) (f := te) (by omega) (by omega) (by omega) (by omega) (by omega) (by omega)) (p := 93 + 7 * X1 92 + 6) (v := sRent (layX X1 (93 + 7 * X1 92) h day f t r te) h day f t) (Or.inl (by omega))) (p := 8) (v := uN (layX X1 (93 + 7 * X1 92) h day f t r te) (93 + 7 * X1 92 + 6) (sRent (layX X1 (93 + 7 * X1 92) h day f t r te) h day f t) 8 + uN (layX X1 (93 + 7 * X1 92) h day f t r te) (93 + 7 * X1 92 + 6) (sRent (layX X1 (93 + 7 * X1 92) h day f t r te) h day f t) (93 + 7 * X1 92 + 6)) (Or.inr (Or.inl rfl))) (p := 92) (v := X1 92 + 1) (Or.inl (by omega))
  have e92 : uN (uN (layX X1 (93 + 7 * X1 92) h day f t r te) (93 + 7 * X1 92 + 6) (sRent (layX X1 (93 + 7 * X1 92) h day f t r te) h day f t)) 8 (uN (layX X1 (93 + 7 * X1 92) h day f t r te) (93 + 7 * X1 92 + 6) (sRent (layX X1 (93 + 7 * X1 92) h day f t r te) h day f t) 8 + uN (layX X1 (93 + 7 * X1 92) h day f t r te) (93 + 7 * X1 92 + 6) (sRent (layX X1 (93 + 7 * X1 92) h day f t r te) h day f t) (93 + 7 * X1 92 + 6)) 92 = X1 92 := by
    rw [uN_n _ _ (by omega), uN_n _ _ (by omega), hlow 92 (by omega)]
  rw [e92]
  have el : ∀ j, j < 92 → j ≠ 8 → uN (uN (uN (layX X1 (93 + 7 * X1 92) h day f t r te) (93 + 7 * X1 92 + 6) (sRent (layX X1 (93 + 7 * X1 92) h day f t r te) h day f t)) 8 (uN (layX X1 (93 + 7 * X1 92) h day f t r te) (93 + 7 * X1 92 + 6) (sRent (layX X1 (93 + 7 * X1 92) h day f t r te) h day f t) 8 + uN (layX X1 (93 + 7 * X1 92) h day f t r te) (93 + 7 * X1 92 + 6) (sRent (layX X1 (93 + 7 * X1 92) h day f t r te) h day f t) (93 + 7 * X1 92 + 6))) 92 (X1 92 + 1) j = X1 j := fun j hj h8 => by
    rw [uN_n _ _ (by omega), uN_n _ _ (by omega), uN_n _ _ (by omega), hlow j (by omega)]
  refine ⟨⟨hrB, ?_, ?_⟩, wf1_low h1 (fun j hj => (el j (by omega) (by omega)).trans (g2 j hj)), (el 11 (by omega) (by omega)).trans g4, fun j hj => (el j (by omega) (by omega)).trans (g2 j hj)⟩
  · rw [el 11 (by omega) (by omega)]; exact g1.2.1
  · rw [uN_s]; omega
theorem ltOk_h {P X : Nat → Nat} {k : Nat} (h : ltOk P X k = true) : P (6 * k + 2) < P (6 * k + 3) ∧ rfs X (P (6 * k)) (P (6 * k + 1)) (P (6 * k + 2)) (P (6 * k + 3)) (P (6 * k + 4)) = 0 ∧ X 92 ≠ 12 := by
  simp only [ltOk, Bool.and_eq_true, decide_eq_true_eq] at h
  refine ⟨h.1, h.2, fun e => ?_⟩
  rw [rfs, if_pos e] at h
  exact absurd h.2 (by decide)
def shN (X : Nat → Nat) (h : Nat) : Nat → Nat
  | 0 => 0
  | k + 1 => shN X h k + ihS X h 1 (lk X k) 0
def shD (X : Nat → Nat) (h : Nat) : UInt64 := FP.ddiv (FP.i2d (nI (shN X h 84))) 4656581277212737536
def mnF (X : Nat → Nat) : UInt32 := FP.fdiv (FP.i2f (nI (oT X (-1) 2))) 1118306304
def mxN (f : Nat → Int64) : Nat → Int64 → Int64
  | 0, h => h
  | k + 1, h => 31 * mxN f k h + f k
def mx1 (v h : Int64) : Int64 := 31 * h + v
def dg1 (X : Nat → Nat) (sm : Nat) (h : Int64) : Int64 := mxN (fun w => (nI (cnt0 X sm w)).toInt64) 13 h
def dg2 (X : Nat → Nat) (h : Int64) : Int64 := mxN (fun j => (nI (oT X (nI (j / 3)) (j % 3))).toInt64) 60 (mxN (fun j => (nI (X (93 + 7 * (j / 7) + j % 7))).toInt64) (7 * X 92) (mxN (fun j => (ofR X (j / 11) (j % 11)).toInt64) (11 * X 11) h))
def dg3 (X : Nat → Nat) (a : Nat) (h : Int64) : Int64 := mx1 (shD X a).toInt64 (mx1 (nI (sRent X a 5 18 20)).toInt64 (mx1 (nI (rfs X a 5 18 20 5)).toInt64 (mx1 (ffD X a 3 84 0).toInt64 (mxN (fun j => (ofH X a (j / 4) (j % 4)).toInt64) 28 (mx1 (nI (X (5 + a))).toInt64 h)))))
def dg3N (X : Nat → Nat) : Nat → Int64 → Int64
  | 0, h => h
  | a + 1, h => dg3 X a (dg3N X a h)
