/-! the class: giving way -/
def gBk (Y : Nat → Nat → Nat) (b r c : Nat) : Nat → Nat := uN (uN (Y b) 5 (Y b 5 + r)) 6 (Y b 6 + c)
theorem gBk_0 (Y : Nat → Nat → Nat) (b : Nat) : gBk Y b 0 0 = Y b := by
  funext j
  simp only [gBk, uN, Nat.add_zero]
  by_cases h : j = 6
  · subst h; simp
  · by_cases h5 : j = 5
    · subst h5; simp
    · simp [h, h5]
theorem gBk_s (Y : Nat → Nat → Nat) (b r c x : Nat) : uN (uN (gBk Y b r c) 5 (gBk Y b r c 5 + x)) 6 (gBk Y b r c 6 + 1) = gBk Y b (r + x) (c + 1) := by
  funext j
  simp only [gBk, uN]
  by_cases h : j = 6
  · subst h; simp [Nat.add_assoc]
  · by_cases h5 : j = 5
    · subst h5; simp [Nat.add_assoc]
    · simp [h, h5]
def gN (g : Nat → Bool) : Nat → Nat
  | 0 => 0
  | k + 1 => bif g k then gN g k + 1 else gN g k
def gR (g : Nat → Bool) (V : Nat → Nat → Nat) : Nat → Nat
  | 0 => 0
  | k + 1 => bif g k then gR g V k + V k 6 else gR g V k
def gZ (Y : Nat → Nat → Nat) (A : Nat → Nat) (day : Nat) (g : Nat → Bool) : Nat → Nat → Nat → Nat
  | 0 => Y
  | k + 1 => bif g k then uA (gZ Y A day g k) (A k) (uN (Y (A k)) 9 (lvW (Y (A k) 9) (day / 7))) else gZ Y A day g k
theorem gZ_far (Y : Nat → Nat → Nat) (A : Nat → Nat) (day : Nat) (g : Nat → Bool) {q : Nat} : ∀ k, (∀ i, i < k → q ≠ A i) → gZ Y A day g k q = Y q
  | 0, _ => rfl
  | k + 1, h => by
    have ih := gZ_far Y A day g k (fun i hi => h i (by omega))
    simp only [gZ]
    cases g k
    · exact ih
    · rw [cond_true, uA_n _ _ (h k (by omega))]; exact ih
theorem gZ_at (Y : Nat → Nat → Nat) (A : Nat → Nat) (day : Nat) (g : Nat → Bool) {n i : Nat} (hinj : ∀ i j, i < n → j < n → A i = A j → i = j) : ∀ k, k ≤ n → i < k → gZ Y A day g k (A i) = bif g i then uN (Y (A i)) 9 (lvW (Y (A i) 9) (day / 7)) else Y (A i)
  | 0, _, h => by omega
  | k + 1, hk, h => by
    by_cases e : i = k
    · subst e
      simp only [gZ]
      cases g i
      · exact gZ_far Y A day g i (fun j hj q => by have := hinj i j (by omega) (by omega) q; omega)
      · rw [cond_true, cond_true, uA_s]
    · have ih := gZ_at (n := n) (i := i) Y A day g hinj k (by omega) (by omega)
      simp only [gZ]
      cases g k
      · exact ih
      · rw [cond_true, uA_n _ _ (fun q => e (hinj i k (by omega) (by omega) q))]; exact ih
/-- from the last to the first: how many go, their rents, who stays -/
def dN (g : Nat → Bool) (n : Nat) : Nat → Nat
  | 0 => 0
  | u + 1 => bif g (n - (u + 1)) then dN g n u + 1 else dN g n u
def dR (g : Nat → Bool) (V : Nat → Nat → Nat) (n : Nat) : Nat → Nat
  | 0 => 0
  | u + 1 => bif g (n - (u + 1)) then dR g V n u + V (n - (u + 1)) 6 else dR g V n u
def dL (g : Nat → Bool) (A : Nat → Nat) (n : Nat) : Nat → List Nat
  | 0 => []
  | u + 1 => bif g (n - (u + 1)) then dL g A n u else A (n - (u + 1)) :: dL g A n u
theorem dL_len (g : Nat → Bool) (A : Nat → Nat) (n : Nat) : ∀ u, (dL g A n u).length ≤ u
  | 0 => Nat.le_refl 0
  | u + 1 => by
    have := dL_len g A n u
    simp only [dL]
    cases g (n - (u + 1))
    · simp only [cond_false, List.length_cons]; omega
    · simp only [cond_true]; omega
/-- rows of a pool, each once -/
def rPA (A : Nat → Nat) (r n : Nat) : Prop := (∀ i, i < n → r + 2 ≤ A i ∧ A i < r + 2 + n) ∧ ∀ i j, i < n → j < n → A i = A j → i = j
def rmP (i s j : Nat) : Nat := if j = s - 1 then i else if i ≤ j ∧ j + 1 < s then j + 1 else j
theorem rmA_P (A : Nat → Nat) {i s : Nat} (j : Nat) : rmA A i s j = A (rmP i s j) := by
  simp only [rmA, rmP, shA, uN]
  split
  · rfl
  · split <;> rfl
theorem rPA_rm {A : Nat → Nat} {r n i s : Nat} (h : rPA A r n) (hi : i < s) (hs : s ≤ n) : rPA (rmA A i s) r n := by
  have hb : ∀ j, j < n → rmP i s j < n := fun j hj => by
    simp only [rmP]
    repeat' split
    all_goals omega
  refine ⟨fun j hj => ?_, fun j k hj hk e => ?_⟩
  · rw [rmA_P]
    exact h.1 _ (hb j hj)
  · rw [rmA_P, rmA_P] at e
    have e2 := h.2 _ _ (hb j hj) (hb k hk) e
    simp only [rmP] at e2
    repeat' split at e2
    all_goals omega
def gwY (Y W : Nat → Nat → Nat) (b : Nat) (A : Nat → Nat) (s r c : Nat) : Nat → Nat → Nat := uA (uA (uA W (b + 12) A) (b + 11) (uN (Y (b + 11)) 1 s)) b (gBk Y b r c)
theorem gwY_b (Y W : Nat → Nat → Nat) (b : Nat) (A : Nat → Nat) (s r c : Nat) : gwY Y W b A s r c b = gBk Y b r c := by rw [gwY, uA_s]
theorem gwY_r (Y W : Nat → Nat → Nat) (b : Nat) (A : Nat → Nat) (s r c : Nat) : gwY Y W b A s r c (b + 12) = A := by rw [gwY, uA_n _ _ (by omega), uA_n _ _ (by omega), uA_s]
theorem gwY_s (Y W : Nat → Nat → Nat) (b : Nat) (A : Nat → Nat) (s r c : Nat) : gwY Y W b A s r c (b + 11) = uN (Y (b + 11)) 1 s := by rw [gwY, uA_n _ _ (by omega), uA_s]
theorem gwY_o (Y W : Nat → Nat → Nat) (b : Nat) (A : Nat → Nat) (s r c : Nat) {q : Nat} (h : q ≠ b) (h1 : q ≠ b + 11) (h2 : q ≠ b + 12) : gwY Y W b A s r c q = W q := by rw [gwY, uA_n _ _ h, uA_n _ _ h1, uA_n _ _ h2]
theorem gwY_ub (Y W : Nat → Nat → Nat) (b : Nat) (A : Nat → Nat) (s r c x : Nat) : uA (gwY Y W b A s r c) b (uN (uN (gwY Y W b A s r c b) 5 (gwY Y W b A s r c b 5 + x)) 6 (gwY Y W b A s r c b 6 + 1)) = gwY Y W b A s (r + x) (c + 1) := by
  rw [gwY_b, gBk_s]
  simp only [gwY, uA_u]
theorem gwY_rm (Y W : Nat → Nat → Nat) (b : Nat) (A B : Nat → Nat) (s t r c : Nat) : uA (uA (gwY Y W b A s r c) (b + 12) B) (b + 11) (uN (gwY Y W b A s r c (b + 11)) 1 t) = gwY Y W b B t r c := by
  funext q
  by_cases h : q = b + 11
  · subst h; rw [uA_s, gwY_s, gwY_s, uN_u]
  · rw [uA_n _ _ h]
    by_cases h2 : q = b + 12
    · subst h2; rw [uA_s, gwY_r]
    · rw [uA_n _ _ h2]
      by_cases h3 : q = b
      · subst h3; rw [gwY_b, gwY_b]
      · rw [gwY_o _ _ _ _ _ _ _ h3 h h2, gwY_o _ _ _ _ _ _ _ h3 h h2]
section GWAY
variable {M M0 : zM} {Y : Nat → Nat → Nat}
theorem gw2 {b o day : Nat} {W : Nat → Nat → Nat} {g : Nat → Bool} (hb : sb b) (hw : wR Y (b + 11) 12) (ho : kq o = 1) (hvo : vB (Y o)) (hoo : o < b ∨ b + 27 ≤ o) (hd : day < 84) (hc : Y (b + 26) 0 < 1048576) (hW : ∀ q, (q < b + 3 ∨ b + 11 ≤ q) → W q = Y q) (hg : ∀ i, i < Y (b + 11) 1 → g i = vGw (rV Y (b + 11) i) (Y o) day (Y (b + 26) 0)) {r0 c0 : Nat} (F : zP) (hF : ∀ A s, lAt (dL g (Y (b + 12)) (Y (b + 11) 1) (Y (b + 11) 1)) 0 A → s = (dL g (Y (b + 12)) (Y (b + 11) 1) (Y (b + 11) 1)).length → rPA A (b + 11) 12 → F (cM M0 (gwY Y W b A s (r0 + dR g (rV Y (b + 11)) (Y (b + 11) 1) (Y (b + 11) 1)) (c0 + dN g (Y (b + 11) 1) (Y (b + 11) 1)))) none (.inl (some (.int (nI (c0 + dN g (Y (b + 11) 1) (Y (b + 11) 1))))))) : ∀ k u A s, k + u = Y (b + 11) 1 → s = k + (dL g (Y (b + 12)) (Y (b + 11) 1) u).length → (∀ j, j < k → A j = Y (b + 12) j) → lAt (dL g (Y (b + 12)) (Y (b + 11) 1) u) k A → rPA A (b + 11) 12 → G mX4_giveWayTo 3 0 0 none 72 [(0, .ref b), (1, .ref o), (2, .int (nI day)), (3, .int (nI (Y b 6))), (4, .int (nI k - nI 1))] [] (cM M0 (gwY Y W b A s (r0 + dR g (rV Y (b + 11)) (Y (b + 11) 1) u) (c0 + dN g (Y (b + 11) 1) u))) F := by
  have hsz := hw.2.1
  intro k
  induction k with
  | zero =>
    intro u A s hu hs hA hL hP
    have : u = Y (b + 11) 1 := by omega
    subst this
    refine g_iload dX4_giveWayTo_72 rfl ?_
    refine g_if_lt (tgt := 121) dX4_giveWayTo_74 (by decide) (fun h1 => ?_) (fun h1 => absurd (by decide) h1)
    refine g_aload_n dX4_giveWayTo_121 rfl ?_
    refine g_get fX4_47 dX4_giveWayTo_122 (cM_S hb.1) rfl ?_
    rw [gwY_b]
    rw [show gBk Y b (r0 + dR g (rV Y (b + 11)) (Y (b + 11) 1) (Y (b + 11) 1)) (c0 + dN g (Y (b + 11) 1) (Y (b + 11) 1)) 6 = Y b 6 + (c0 + dN g (Y (b + 11) 1) (Y (b + 11) 1)) by simp [gBk, uN]]
    refine g_iload_n dX4_giveWayTo_125 rfl ?_
    refine g_isub_n dX4_giveWayTo_126 (by omega) ?_
    rw [Nat.add_sub_cancel_left]
    exact g_ireturn dX4_giveWayTo_127 rfl rfl (hF A s hL (by omega) hP)
  | succ k ih =>
    intro u A s hu hs hA hL hP
    have hlen := dL_len g (Y (b + 12)) (Y (b + 11) 1) u
    have hu1 : Y (b + 11) 1 - (u + 1) = k := by omega
    generalize hZ : gwY Y W b A s (r0 + dR g (rV Y (b + 11)) (Y (b + 11) 1) u) (c0 + dN g (Y (b + 11) 1) u) = Z
    have zr : Z (b + 12) = A := by rw [← hZ]; exact gwY_r _ _ _ _ _ _ _
    have zs : Z (b + 11) 1 = s := by rw [← hZ, gwY_s, uN_s]
    have zo : ∀ q, q ≠ b → q ≠ b + 11 → q ≠ b + 12 → (q < b + 3 ∨ b + 11 ≤ q) → Z q = Y q := fun q h1 h2 h3 h4 => by rw [← hZ, gwY_o _ _ _ _ _ _ _ h1 h2 h3, hW q h4]
    have hpa := hw.1.1 k (by omega)
    have hak : kq (Y (b + 12) k) = 1 := rl_k hb.2.2.1 hw.1 (by omega)
    have hva : vB (Y (Y (b + 12) k)) := hw.2.2 k (by omega)
    have hpa2 : b + 13 ≤ Y (b + 12) k ∧ Y (b + 12) k < b + 25 := hpa
    have za : Z (Y (b + 12) k) = Y (Y (b + 12) k) := zo _ (by omega) (by omega) (by omega) (by omega)
    have zoo : Z o = Y o := zo o (by omega) (by omega) (by omega) (by omega)
    have z26 : Z (b + 26) = Y (b + 26) := zo _ (by omega) (by omega) (by omega) (by omega)
    have hgk := hg k (by omega)
    rw [show nI (k + 1) - nI 1 = nI k from nI_pred k]
    refine g_iload dX4_giveWayTo_72 rfl ?_
    refine g_if_lt_n (tgt := 121) dX4_giveWayTo_74 (by decide) (by omega) (fun h1 => ?_) (fun h1 => ?_)
    · omega
    refine g_aload_n dX4_giveWayTo_77 rfl ?_
    refine g_get fX4_20 dX4_giveWayTo_78 (cM_S hb.1) rfl ?_
    refine g_get fX4_57 dX4_giveWayTo_81 (cM_R hb.2.2.1.1) rfl ?_
    refine g_iload dX4_giveWayTo_84 rfl ?_
    refine g_cwl dX4_giveWayTo_86 hb.2.2.1.2.1 (by omega) ?_
    rw [show Z (b + 11 + 1) k = Y (b + 12) k by rw [show b + 11 + 1 = b + 12 from rfl, zr]; exact hA k (by omega)]
    refine g_astore dX4_giveWayTo_87 (by decide) ?_
    refine g_aload_n dX4_giveWayTo_89 rfl ?_
    refine g_aload dX4_giveWayTo_90 rfl ?_
    refine g_aload_n dX4_giveWayTo_92 rfl ?_
    refine g_iload_n dX4_giveWayTo_93 rfl ?_
    refine g_callV_i (kX4_givesWay hb hak ho (by rw [za]; exact hva) (by rw [zoo]; exact hvo) hd (by rw [z26]; exact hc)) oX4_givesWay pX4_givesWay lX4_61 dX4_giveWayTo_94 rfl (cM_S hb.1) rfl rfl rfl (Nat.le_of_ble_eq_true rfl) (Nat.le_of_ble_eq_true rfl) (by decide) (fun M' h' => ?_)
    subst h'
    rw [za, zoo, z26]
    rw [show vGw (Y (Y (b + 12) k)) (Y o) day (Y (b + 26) 0) = g k from hgk.symm]
    refine g_if_eq_b (tgt := 115) dX4_giveWayTo_97 (by decide) (fun h2 => ?_) (fun h2 => ?_)
    · refine g_iinc (v := nI k - nI 1) dX4_giveWayTo_115 rfl (i32_m1 _) (by decide) ?_
      refine g_goto (tgt := 72) dX4_giveWayTo_118 (by decide) ?_
      have eL : dL g (Y (b + 12)) (Y (b + 11) 1) (u + 1) = Y (b + 12) k :: dL g (Y (b + 12)) (Y (b + 11) 1) u := by simp only [dL, hu1, h2, cond_false]
      have eN : dN g (Y (b + 11) 1) (u + 1) = dN g (Y (b + 11) 1) u := by simp only [dN, hu1, h2, cond_false]
      have eR : dR g (rV Y (b + 11)) (Y (b + 11) 1) (u + 1) = dR g (rV Y (b + 11)) (Y (b + 11) 1) u := by simp only [dR, hu1, h2, cond_false]
      have := ih (u + 1) A s (by omega) (by rw [eL, List.length_cons]; omega) (fun j hj => hA j (by omega)) (by rw [eL]; exact lAt_cons hL (hA k (by omega))) hP
      rw [eN, eR, hZ] at this
      exact g_loc rfl this
    · refine g_aload_n dX4_giveWayTo_100 rfl ?_
      refine g_aload dX4_giveWayTo_101 rfl ?_
      refine g_callV_v (kX4_letGo hb hak) oX4_letGo pX4_letGo lX4_65 dX4_giveWayTo_103 rfl (cM_S hb.1) rfl rfl rfl (Nat.le_of_ble_eq_true rfl) (Nat.le_of_ble_eq_true rfl) (by decide) (fun M' h' => ?_)
      subst h'
      rw [za, ← hZ, gwY_ub]
      generalize hZ2 : gwY Y W b A s (r0 + dR g (rV Y (b + 11)) (Y (b + 11) 1) u + Y (Y (b + 12) k) 6) (c0 + dN g (Y (b + 11) 1) u + 1) = Z2
      have z2r : Z2 (b + 12) = A := by rw [← hZ2]; exact gwY_r _ _ _ _ _ _ _
      have z2s : Z2 (b + 11) 1 = s := by rw [← hZ2, gwY_s, uN_s]
      refine g_aload_n dX4_giveWayTo_106 rfl ?_
      refine g_get fX4_20 dX4_giveWayTo_107 (cM_S hb.1) rfl ?_
      refine g_iload dX4_giveWayTo_110 rfl ?_
      refine g_callV_v (kX3_remove (Y := Z2) hb.2.2.1 (by show rPA (Z2 (b + 12)) (b + 11) 12; rw [z2r]; exact hP) (by rw [z2s]; omega) (i := k) (by rw [z2s]; omega)) oX3_remove pX3_remove lX4_74 dX4_giveWayTo_112 rfl (cM_R hb.2.2.1.1) rfl rfl rfl (Nat.le_of_ble_eq_true rfl) (Nat.le_of_ble_eq_true rfl) (by decide) (fun M' h' => ?_)
      subst h'
      have e5 : uA (uA Z2 (b + 11 + 1) (rmA (Z2 (b + 11 + 1)) k (Z2 (b + 11) 1))) (b + 11) (uN (Z2 (b + 11)) 1 (Z2 (b + 11) 1 - 1)) = gwY Y W b (rmA A k s) (s - 1) (r0 + dR g (rV Y (b + 11)) (Y (b + 11) 1) u + Y (Y (b + 12) k) 6) (c0 + dN g (Y (b + 11) 1) u + 1) := by
        rw [show b + 11 + 1 = b + 12 from rfl, z2r, z2s, ← hZ2, gwY_rm]
      rw [e5]
      refine g_iinc (v := nI k - nI 1) dX4_giveWayTo_115 rfl (i32_m1 _) (by decide) ?_
      refine g_goto (tgt := 72) dX4_giveWayTo_118 (by decide) ?_
      have eL : dL g (Y (b + 12)) (Y (b + 11) 1) (u + 1) = dL g (Y (b + 12)) (Y (b + 11) 1) u := by simp only [dL, hu1, h2, cond_true]
      have eN : c0 + dN g (Y (b + 11) 1) (u + 1) = c0 + dN g (Y (b + 11) 1) u + 1 := by simp only [dN, hu1, h2, cond_true]; omega
      have eR : r0 + dR g (rV Y (b + 11)) (Y (b + 11) 1) (u + 1) = r0 + dR g (rV Y (b + 11)) (Y (b + 11) 1) u + Y (Y (b + 12) k) 6 := by
        simp only [dR, hu1, h2, cond_true]
        rw [← Nat.add_assoc]
        rfl
      have := ih (u + 1) (rmA A k s) (s - 1) (by omega) (by rw [eL]; omega) (fun j hj => by
        rw [rmA_P, rmP, if_neg (by omega), if_neg (by omega)]; exact hA j (by omega)) (by
        rw [eL]
        intro j a hj
        have hjl := (List.getElem?_eq_some_iff.mp hj).1
        rw [rmA_P, rmP, if_neg (by omega), if_pos (by omega)]
        have := hL j a hj
        rw [show k + j + 1 = k + 1 + j by omega]
        exact this) (rPA_rm hP (by omega) (by omega))
      rw [eN, eR] at this
      exact g_loc rfl this
theorem uA_c (Y : Nat → Nat → Nat) {p q : Nat} (f h : Nat → Nat) (hpq : p ≠ q) : uA (uA Y p f) q h = uA (uA Y q h) p f := by
  funext a
  by_cases h1 : a = p
  · subst h1; rw [uA_n _ _ hpq, uA_s, uA_s]
  · rw [uA_n _ f h1]
    by_cases h2 : a = q
    · subst h2; rw [uA_s, uA_s]
    · rw [uA_n _ _ h2, uA_n _ _ h2, uA_n _ _ h1]
theorem gw1 {b o day : Nat} {g : Nat → Bool} (hb : sb b) (hw : wR Y (b + 1) 8) (ho : kq o = 1) (hvo : vB (Y o)) (hoo : o < b ∨ b + 27 ≤ o) (hd : day < 84) (hc : Y (b + 26) 0 < 1048576) (hg : ∀ i, i < Y (b + 1) 1 → g i = vGw (rV Y (b + 1) i) (Y o) day (Y (b + 26) 0)) (F : zP) (hF : G mX4_giveWayTo 3 0 0 none 61 [(0, .ref b), (1, .ref o), (2, .int (nI day)), (3, .int (nI (Y b 6)))] [] (cM M0 (uA (gZ Y (Y (b + 2)) day g (Y (b + 1) 1)) b (gBk Y b (gR g (rV Y (b + 1)) (Y (b + 1) 1)) (gN g (Y (b + 1) 1))))) F) : ∀ u k, k + u = Y (b + 1) 1 → G mX4_giveWayTo 3 0 0 none 8 [(0, .ref b), (1, .ref o), (2, .int (nI day)), (3, .int (nI (Y b 6))), (4, .int (nI k))] [] (cM M0 (uA (gZ Y (Y (b + 2)) day g k) b (gBk Y b (gR g (rV Y (b + 1)) k) (gN g k)))) F := by
  have hsz := hw.2.1
  have far : ∀ q k, k ≤ Y (b + 1) 1 → (q < b + 3 ∨ b + 11 ≤ q) → gZ Y (Y (b + 2)) day g k q = Y q := fun q k hk hq => gZ_far Y _ day g k (fun i hi e => by
    have : b + 3 ≤ Y (b + 2) i ∧ Y (b + 2) i < b + 11 := hw.1.1 i (by omega)
    omega)
  intro u
  induction u with
  | zero =>
    intro k hk
    have : k = Y (b + 1) 1 := by omega
    subst this
    have e1 : uA (gZ Y (Y (b + 2)) day g (Y (b + 1) 1)) b (gBk Y b (gR g (rV Y (b + 1)) (Y (b + 1) 1)) (gN g (Y (b + 1) 1))) (b + 1) = Y (b + 1) := by rw [uA_n _ _ (by omega), far _ _ (Nat.le_refl _) (by omega)]
    refine g_iload dX4_giveWayTo_8 rfl ?_
    refine g_aload_n dX4_giveWayTo_10 rfl ?_
    refine g_get fX4_14 dX4_giveWayTo_11 (cM_S hb.1) rfl ?_
    refine g_get fX4_54 dX4_giveWayTo_14 (cM_R hb.2.1.1) rfl ?_
    rw [e1]
    refine g_icmp_ge_n (tgt := 61) dX4_giveWayTo_17 (by decide) (by omega) (by omega) (fun h1 => ?_) (fun h1 => ?_)
    · exact g_loc rfl hF
    · omega
  | succ u ih =>
    intro k hk
    generalize hZ : uA (gZ Y (Y (b + 2)) day g k) b (gBk Y b (gR g (rV Y (b + 1)) k) (gN g k)) = Z
    have zo : ∀ q, q ≠ b → (q < b + 3 ∨ b + 11 ≤ q) → Z q = Y q := fun q h1 h2 => by rw [← hZ, uA_n _ _ h1, far q k (by omega) h2]
    have z1 : Z (b + 1) = Y (b + 1) := zo _ (by omega) (by omega)
    have z2 : Z (b + 2) = Y (b + 2) := zo _ (by omega) (by omega)
    have hpa : b + 3 ≤ Y (b + 2) k ∧ Y (b + 2) k < b + 11 := hw.1.1 k (by omega)
    have hak : kq (Y (b + 2) k) = 1 := rl_k hb.2.1 hw.1 (by omega)
    have hva : vB (Y (Y (b + 2) k)) := hw.2.2 k (by omega)
    have za : Z (Y (b + 2) k) = Y (Y (b + 2) k) := by
      rw [← hZ, uA_n _ _ (by omega)]
      exact gZ_far Y _ day g k (fun i hi e => by have := hw.1.2 k i (by omega) (by omega) e; omega)
    have zoo : Z o = Y o := zo o (by omega) (by omega)
    have z26 : Z (b + 26) = Y (b + 26) := zo _ (by omega) (by omega)
    have hgk := hg k (by omega)
    refine g_iload dX4_giveWayTo_8 rfl ?_
    refine g_aload_n dX4_giveWayTo_10 rfl ?_
    refine g_get fX4_14 dX4_giveWayTo_11 (cM_S hb.1) rfl ?_
    refine g_get fX4_54 dX4_giveWayTo_14 (cM_R hb.2.1.1) rfl ?_
    rw [z1]
    refine g_icmp_ge_n (tgt := 61) dX4_giveWayTo_17 (by decide) (by omega) (by omega) (fun h1 => ?_) (fun h1 => ?_)
    · omega
    refine g_aload_n dX4_giveWayTo_20 rfl ?_
    refine g_get fX4_14 dX4_giveWayTo_21 (cM_S hb.1) rfl ?_
    refine g_get fX4_57 dX4_giveWayTo_24 (cM_R hb.2.1.1) rfl ?_
    refine g_iload dX4_giveWayTo_27 rfl ?_
    refine g_cwl dX4_giveWayTo_29 hb.2.1.2.1 (by omega) ?_
    rw [show Z (b + 1 + 1) k = Y (b + 2) k by rw [show b + 1 + 1 = b + 2 from rfl, z2]]
    refine g_astore dX4_giveWayTo_30 (by decide) ?_
    refine g_aload_n dX4_giveWayTo_32 rfl ?_
    refine g_aload dX4_giveWayTo_33 rfl ?_
    refine g_aload_n dX4_giveWayTo_35 rfl ?_
    refine g_iload_n dX4_giveWayTo_36 rfl ?_
    refine g_callV_i (kX4_givesWay hb hak ho (by rw [za]; exact hva) (by rw [zoo]; exact hvo) hd (by rw [z26]; exact hc)) oX4_givesWay pX4_givesWay lX4_61 dX4_giveWayTo_37 rfl (cM_S hb.1) rfl rfl rfl (Nat.le_of_ble_eq_true rfl) (Nat.le_of_ble_eq_true rfl) (by decide) (fun M' h' => ?_)
    subst h'
    rw [za, zoo, z26]
    rw [show vGw (Y (Y (b + 2) k)) (Y o) day (Y (b + 26) 0) = g k from hgk.symm]
    refine g_if_eq_b (tgt := 55) dX4_giveWayTo_40 (by decide) (fun h2 => ?_) (fun h2 => ?_)
    · refine g_iinc_n (c := 1) dX4_giveWayTo_55 rfl (by decide) (by decide) ?_
      refine g_goto (tgt := 8) dX4_giveWayTo_58 (by decide) ?_
      have := ih (k + 1) (by omega)
      simp only [gZ, gR, gN, h2, cond_false] at this
      rw [hZ] at this
      exact g_loc rfl this
    · refine g_aload_n dX4_giveWayTo_43 rfl ?_
      refine g_aload dX4_giveWayTo_44 rfl ?_
      refine g_callV_v (kX4_letGo hb hak) oX4_letGo pX4_letGo lX4_65 dX4_giveWayTo_46 rfl (cM_S hb.1) rfl rfl rfl (Nat.le_of_ble_eq_true rfl) (Nat.le_of_ble_eq_true rfl) (by decide) (fun M' h' => ?_)
      subst h'
      rw [za]
      rw [show uA Z b (uN (uN (Z b) 5 (Z b 5 + Y (Y (b + 2) k) 6)) 6 (Z b 6 + 1)) = uA (gZ Y (Y (b + 2)) day g k) b (gBk Y b (gR g (rV Y (b + 1)) k + Y (Y (b + 2) k) 6) (gN g k + 1)) by rw [← hZ, uA_s, gBk_s, uA_u]]
      refine g_aload dX4_giveWayTo_49 rfl ?_
      refine g_iload_n dX4_giveWayTo_51 rfl ?_
      refine g_callV_v (kX1_leaveOut hak hd) oX1_leaveOut pX1_leaveOut lX4_69 dX4_giveWayTo_52 rfl (cM_L hak) rfl rfl rfl (Nat.le_of_ble_eq_true rfl) (Nat.le_of_ble_eq_true rfl) (by decide) (fun M' h' => ?_)
      subst h'
      refine g_iinc_n (c := 1) dX4_giveWayTo_55 rfl (by decide) (by decide) ?_
      refine g_goto (tgt := 8) dX4_giveWayTo_58 (by decide) ?_
      have := ih (k + 1) (by omega)
      simp only [gZ, gR, gN, h2, cond_true] at this
      have e6 : uA (gZ Y (Y (b + 2)) day g k) b (gBk Y b (gR g (rV Y (b + 1)) k + Y (Y (b + 2) k) 6) (gN g k + 1)) (Y (b + 2) k) = Y (Y (b + 2) k) := by
        rw [uA_n _ _ (by omega)]
        exact gZ_far Y _ day g k (fun i hi e => by have := hw.1.2 k i (by omega) (by omega) e; omega)
      rw [e6, uA_c _ _ _ (by omega)]
      exact g_loc rfl this
def gwG (Y : Nat → Nat → Nat) (r o day c : Nat) : Nat → Bool := fun i => vGw (rV Y r i) (Y o) day c
theorem kX4_giveWayTo {b o day : Nat} (hb : sb b) (hw : wS Y b) (ho : kq o = 1) (hvo : vB (Y o)) (hoo : o < b ∨ b + 27 ≤ o) (hd : day < 84) (hc : Y (b + 26) 0 < 1048576) {g1 g2 : Nat → Bool} (hg1 : g1 = gwG Y (b + 1) o day (Y (b + 26) 0)) (hg2 : g2 = gwG Y (b + 11) o day (Y (b + 26) 0)) {n1 n2 : Nat} (hn1 : n1 = Y (b + 1) 1) (hn2 : n2 = Y (b + 11) 1) : Cn mX4_giveWayTo 3 0 0 none [.ref b, .ref o, .int (nI day)] (cM M0 Y) (zi (nI (gN g1 n1 + dN g2 n2 n2)) (fun M' => ∃ A s, M' = cM M0 (gwY Y (gZ Y (Y (b + 2)) day g1 n1) b A s (gR g1 (rV Y (b + 1)) n1 + dR g2 (rV Y (b + 11)) n2 n2) (gN g1 n1 + dN g2 n2 n2)) ∧ lAt (dL g2 (Y (b + 12)) n2 n2) 0 A ∧ s = (dL g2 (Y (b + 12)) n2 n2).length ∧ rPA A (b + 11) 12)) := by
  subst hg1 hg2 hn1 hn2
  have hs1 := hw.1.2.1
  have hs2 := hw.2.2.1
  have far : ∀ q, (q < b + 3 ∨ b + 11 ≤ q) → gZ Y (Y (b + 2)) day (gwG Y (b + 1) o day (Y (b + 26) 0)) (Y (b + 1) 1) q = Y q := fun q hq => gZ_far Y _ day _ _ (fun i hi e => by
    have : b + 3 ≤ Y (b + 2) i ∧ Y (b + 2) i < b + 11 := hw.1.1.1 i (by omega)
    omega)
  refine g_aload_n dX4_giveWayTo_0 rfl ?_
  refine g_get fX4_47 dX4_giveWayTo_1 (cM_S hb.1) rfl ?_
  refine g_istore_n dX4_giveWayTo_4 (by decide) ?_
  refine g_iconst (v := nI 0) dX4_giveWayTo_5 (by decide) ?_
  refine g_istore dX4_giveWayTo_6 (by decide) ?_
  have e0 : Y = uA (gZ Y (Y (b + 2)) day (gwG Y (b + 1) o day (Y (b + 26) 0)) 0) b (gBk Y b (gR (gwG Y (b + 1) o day (Y (b + 26) 0)) (rV Y (b + 1)) 0) (gN (gwG Y (b + 1) o day (Y (b + 26) 0)) 0)) := by
    simp only [gZ, gR, gN, gBk_0]
    funext a
    by_cases h : a = b
    · subst h; rw [uA_s]
    · rw [uA_n _ _ h]
  have := gw1 (M0 := M0) (g := gwG Y (b + 1) o day (Y (b + 26) 0)) hb hw.1 ho hvo hoo hd hc (fun i hi => rfl) (zi (nI (gN (gwG Y (b + 1) o day (Y (b + 26) 0)) (Y (b + 1) 1) + dN (gwG Y (b + 11) o day (Y (b + 26) 0)) (Y (b + 11) 1) (Y (b + 11) 1))) (fun M' => ∃ A s, M' = cM M0 (gwY Y (gZ Y (Y (b + 2)) day (gwG Y (b + 1) o day (Y (b + 26) 0)) (Y (b + 1) 1)) b A s (gR (gwG Y (b + 1) o day (Y (b + 26) 0)) (rV Y (b + 1)) (Y (b + 1) 1) + dR (gwG Y (b + 11) o day (Y (b + 26) 0)) (rV Y (b + 11)) (Y (b + 11) 1) (Y (b + 11) 1)) (gN (gwG Y (b + 1) o day (Y (b + 26) 0)) (Y (b + 1) 1) + dN (gwG Y (b + 11) o day (Y (b + 26) 0)) (Y (b + 11) 1) (Y (b + 11) 1))) ∧ lAt (dL (gwG Y (b + 11) o day (Y (b + 26) 0)) (Y (b + 12)) (Y (b + 11) 1) (Y (b + 11) 1)) 0 A ∧ s = (dL (gwG Y (b + 11) o day (Y (b + 26) 0)) (Y (b + 12)) (Y (b + 11) 1) (Y (b + 11) 1)).length ∧ rPA A (b + 11) 12)) ?_ (Y (b + 1) 1) 0 (by omega)
  · rw [← e0] at this
    exact g_loc rfl this
  · refine g_aload_n dX4_giveWayTo_61 rfl ?_
    refine g_get fX4_20 dX4_giveWayTo_62 (cM_S hb.1) rfl ?_
    refine g_get fX4_54 dX4_giveWayTo_65 (cM_R hb.2.2.1.1) rfl ?_
    rw [uA_n _ _ (show b + 11 ≠ b by omega), far (b + 11) (by omega)]
    refine g_iconst (v := nI 1) dX4_giveWayTo_68 (by decide) ?_
    refine g_isub dX4_giveWayTo_69 ?_
    refine g_istore dX4_giveWayTo_70 (by decide) ?_
    have e7 : uA (gZ Y (Y (b + 2)) day (gwG Y (b + 1) o day (Y (b + 26) 0)) (Y (b + 1) 1)) b (gBk Y b (gR (gwG Y (b + 1) o day (Y (b + 26) 0)) (rV Y (b + 1)) (Y (b + 1) 1)) (gN (gwG Y (b + 1) o day (Y (b + 26) 0)) (Y (b + 1) 1))) = gwY Y (gZ Y (Y (b + 2)) day (gwG Y (b + 1) o day (Y (b + 26) 0)) (Y (b + 1) 1)) b (Y (b + 12)) (Y (b + 11) 1) (gR (gwG Y (b + 1) o day (Y (b + 26) 0)) (rV Y (b + 1)) (Y (b + 1) 1) + dR (gwG Y (b + 11) o day (Y (b + 26) 0)) (rV Y (b + 11)) (Y (b + 11) 1) 0) (gN (gwG Y (b + 1) o day (Y (b + 26) 0)) (Y (b + 1) 1) + dN (gwG Y (b + 11) o day (Y (b + 26) 0)) (Y (b + 11) 1) 0) := by
      simp only [dR, dN, Nat.add_zero]
      funext q
      by_cases h : q = b
      · subst h; rw [uA_s, gwY_b]
      · rw [uA_n _ _ h]
        by_cases h2 : q = b + 11
        · subst h2
          rw [gwY_s, far _ (by omega)]
          funext j
          by_cases hj : j = 1
          · subst hj; rw [uN_s]
          · rw [uN_n _ _ hj]
        · by_cases h3 : q = b + 12
          · subst h3; rw [gwY_r, far _ (by omega)]
          · rw [gwY_o _ _ _ _ _ _ _ h h2 h3]
    rw [e7]
    exact g_loc rfl (gw2 hb hw.2 ho hvo hoo hd hc far (fun i hi => rfl) _ (fun A s h1 h2 h3 => ⟨rfl, rfl, A, s, rfl, h1, h2, h3⟩) (Y (b + 11) 1) 0 (Y (b + 12)) (Y (b + 11) 1) (by omega) (by simp [dL]) (fun j hj => rfl) lAt_nil hw.2.1)
end GWAY
