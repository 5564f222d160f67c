/-! the class: made -/
section NEWI
variable {mi : zI} {d kc ks : Nat} {pc : Nat} {L : List (Nat × Value)} {S : List Value} {M M0 : zM} {F : zP}
theorem g_newi {n N kc1 ks1 : Nat} (hd : decode mi.2.2.1 pc = .ok (.newarray .int, 2)) (hN : N < 1000000) (hkc : kc = kc1 + 1) (hks : ks = ks1 + N) (kk : G mi d kc1 ks1 (some (n + 1)) (pc + 2) L (.ref n :: S) (zu M n (iA N (fun _ => 0))) F) : G mi d kc ks (some n) pc L (.int (nI N) :: S) M F := by
  refine g_newa (t := 0) (N := N) (ty := .int) (x := (N, .inl (fun _ => nI 0))) hd rfl q153 (fun g => rfl) (fun U cA h => h) (fun cA r => rfl) (fun h => ?_) ?_ ?_ hkc hks kk
  · have := Int32.lt_iff_toInt_lt.mp h
    rw [nI_toInt (by omega)] at this
    have h0 : (0 : Int32).toInt = 0 := rfl
    omega
  · show (nI N).toInt.toNat = N
    rw [nI_toInt (by omega)]
    omega
  · show N * 4 ≤ 536870912
    omega
end NEWI
theorem zu_ite (M : zM) (b : Nat) (e : zE) (q : Nat) : zu M b e q = if q = b then some e else M q := by
  by_cases h : q = b
  · subst h; rw [zu_s, if_pos rfl]
  · rw [zu_n _ _ h, if_neg h]
theorem g_arrq {mi : zI} {d kc ks : Nat} {nx : Option Nat} {pc : Nat} {L : List (Nat × Value)} {S : List Value} {M : zM} {F : zP} {b n t : Nat} {f f' : Nat → Option Nat} (hM : M b = some (aR t n f)) (h : ∀ j, j < n → f j = f' j) (k : G mi d kc ks nx pc L S (zu M b (aR t n f')) F) : G mi d kc ks nx pc L S M F := by
  intro l p e R s m args below meth c g mc ms C H locs cells slots ls Y
  obtain ⟨x1, x2, x3⟩ := Y
  have hMn : M b ≠ none := by rw [hM]; exact fun z => by cases z
  have hv : vp_cell (g.2.2.1 t) (n, .inr (.inr (.inr (.inr (fun j => (f j).map g.1))))) = vp_cell (g.2.2.1 t) (n, .inr (.inr (.inr (.inr (fun j => (f' j).map g.1))))) := by
    rw [vp_cell_q, vp_cell_q]
    unfold arrV
    congr 1
    exact congrArg Array.ofFn (funext fun j => congrArg (fun x => va_rf (Option.map g.1 x)) (h j.val j.isLt))
  exact k l p e R s m args below meth c g mc ms C H locs cells slots ls ⟨x1.upd hMn (by show H[g.1 b]? = some (vp_cell _ _); exact (x1.1 _ _ hM).trans (congrArg some hv)) (fun _ _ => rfl), x2.upd hMn rfl, x3⟩
abbrev l0 : List Value := lF (fun _ => 0)
def rlm (M : zM) (r n k : Nat) : zM := fun q => if q = r then some (.inr (3, [.ref (r + 1), .int (nI 0)])) else if q = r + 1 then some (aR 3 n (fun j => if j < k then some (r + 2 + j) else none)) else if r + 2 ≤ q ∧ q < r + 2 + k then some (.inr (1, l0)) else M q
def rlF (M : zM) (r n : Nat) : zM := fun q => if q = r then some (.inr (3, [.ref (r + 1), .int (nI 0)])) else if q = r + 1 then some (aR 3 n (fun j => some (r + 2 + j))) else if r + 2 ≤ q ∧ q < r + 2 + n then some (.inr (1, l0)) else M q
theorem rlm_0 (M : zM) (r n : Nat) (e : zE) : zu (zu (zu M r e) (r + 1) (aR 3 n (fun _ => none))) r (.inr (3, [.ref (r + 1), .int (nI 0)])) = rlm M r n 0 := by
  funext q
  simp only [zu_ite, rlm]
  by_cases h : q = r
  · rw [if_pos h, if_pos h]
  · rw [if_neg h, if_neg h]
    by_cases h1 : q = r + 1
    · rw [if_pos h1, if_pos h1]
      simp [h]
    · rw [if_neg h1, if_neg h1, if_neg h, if_neg (by omega)]
theorem rlm_s (M : zM) (r n k : Nat) : zu (zu (rlm M r n k) (r + 2 + k) (.inr (1, l0))) (r + 1) (aR 3 n (va_up (fun j => if j < k then some (r + 2 + j) else none) k (some (r + 2 + k)))) = rlm M r n (k + 1) := by
  funext q
  simp only [zu_ite, rlm]
  by_cases h1 : q = r + 1
  · rw [if_pos h1, if_neg (by omega), if_pos h1]
    have e : va_up (fun j => if j < k then some (r + 2 + j) else none) k (some (r + 2 + k)) = fun j => if j < k + 1 then some (r + 2 + j) else none := by
      funext j
      by_cases hj : j = k
      · subst hj; simp [va_up]
      · simp only [va_up, if_neg hj]
        by_cases hj2 : j < k
        · rw [if_pos hj2, if_pos (by omega)]
        · rw [if_neg hj2, if_neg (by omega)]
    rw [e]
  · rw [if_neg h1]
    by_cases h2 : q = r + 2 + k
    · rw [if_pos h2, if_neg (by omega), if_neg h1, if_pos (by omega)]
    · rw [if_neg h2]
      by_cases h : q = r
      · rw [if_pos h, if_pos h]
      · rw [if_neg h, if_neg h, if_neg h1, if_neg h1]
        by_cases h3 : r + 2 ≤ q ∧ q < r + 2 + k
        · rw [if_pos h3, if_pos (by omega)]
        · rw [if_neg h3, if_neg (by omega)]
theorem rlm_F (M : zM) (r n : Nat) : zu (rlm M r n n) (r + 1) (aR 3 n (fun j => some (r + 2 + j))) = rlF M r n := by
  funext q
  simp only [zu_ite, rlm, rlF]
  by_cases h1 : q = r + 1
  · rw [if_pos h1, if_neg (by omega), if_pos h1]
  · rw [if_neg h1, if_neg h1, if_neg h1]
section CONS
variable {M M0 : zM}
theorem z_AO1 (g : zG) (U : State) (h : z_S g U) : va_AO RX1 U := h.2.2.2.2.2.2.2.1.1
theorem z_AO4 (g : zG) (U : State) (h : z_S g U) : va_AO RX4 U := h.2.2.2.2.2.2.2.1.2
theorem ty_X1 : ∃ ty : Nat → FieldType, (∀ k, k < rX1.2.2 → parseFieldDescriptor (rX1.2.1 k).2.2.1 = some (ty k)) ∧ ∀ j, j < rX1.2.2 → defaultValue (ty j) = vp_V l0 j := ⟨tyX1, tyX1_ok, by decide +kernel⟩
theorem kX1_init {a n : Nat} : Cn mX1_init 1 0 0 (some n) [.ref a] M (zn n (fun M' => M' = M)) := by
  refine g_aload_n dX1_init_0 rfl ?_
  refine g_objInit lO_X1_3 dX1_init_1 (by decide) (by decide) ?_
  exact g_return dX1_init_4 rfl ⟨rfl, rfl, rfl⟩
theorem xi3 {r n : Nat} (hr : 8 ≤ r) (hn : n ≤ 12) (F : zP) (hF : G mX3_init 3 0 0 (some (r + 2 + n)) 50 [] [] (rlF M r n) F) : ∀ u k, k + u = n → G mX3_init 3 u (10 * u) (some (r + 2 + k)) 22 [(0, .ref r), (1, .int (nI n)), (2, .int (nI k))] [] (rlm M r n k) F := by
  have e0 : ∀ k, rlm M r n k r = some (.inr (3, [.ref (r + 1), .int (nI 0)])) := fun k => if_pos rfl
  have e1 : ∀ k, rlm M r n k (r + 1) = some (aR 3 n (fun j => if j < k then some (r + 2 + j) else none)) := fun k => by
    unfold rlm
    rw [if_neg (by omega), if_pos rfl]
  intro u
  induction u with
  | zero =>
    intro k hk
    have : k = n := by omega
    subst this
    refine g_iload_n dX3_init_22 rfl ?_
    refine g_aload_n dX3_init_23 rfl ?_
    refine g_get fX3_11 dX3_init_24 (e0 k) rfl ?_
    refine g_alen (t := 3) (ty := .object RX1) (v := nI k) dX3_init_27 (fun g => rfl) (e1 k) rfl ?_
    refine g_icmp_ge_n (tgt := 50) dX3_init_28 (by decide) (by omega) (by omega) (fun h1 => ?_) (fun h1 => ?_)
    · refine g_arrq (e1 k) (f' := fun j => some (r + 2 + j)) (fun j hj => if_pos hj) ?_
      refine g_m (rlm_F M r k) ?_
      exact g_loc rfl hF
    · omega
  | succ u ih =>
    intro k hk
    refine g_iload_n dX3_init_22 rfl ?_
    refine g_aload_n dX3_init_23 rfl ?_
    refine g_get fX3_11 dX3_init_24 (e0 k) rfl ?_
    refine g_alen (t := 3) (ty := .object RX1) (v := nI n) dX3_init_27 (fun g => rfl) (e1 k) rfl ?_
    refine g_icmp_ge_n (tgt := 50) dX3_init_28 (by decide) (by omega) (by omega) (fun h1 => ?_) (fun h1 => ?_)
    · omega
    refine g_aload_n dX3_init_31 rfl ?_
    refine g_get fX3_11 dX3_init_32 (e0 k) rfl ?_
    refine g_iload_n dX3_init_35 rfl ?_
    refine g_new (ci := 1) (r := rX1) (fs := l0) (kc1 := u) (ks1 := 10 * u) rfl q53 q55 q21 dX3_init_36 ty_X1 (fun g => rfl) rfl (by show 10 * (u + 1) = 10 * u + 10; omega) ?_
    refine g_dup dX3_init_39 rfl ?_
    refine g_callIN (kc1 := u) (ks1 := 10 * u) (kX1_init (a := r + 2 + k) (n := r + 2 + k + 1)) oX1_init pX1_init lX3_17 dX3_init_40 (S := [.ref (r + 2 + k), .int (nI k), .ref (r + 1)]) (As := []) rfl rfl (Nat.le_of_ble_eq_true rfl) (Nat.le_of_ble_eq_true rfl) (by decide) (Nat.le_refl _) (Nat.le_refl _) ?_ ?_
    · rintro M1 nx1 E ⟨-, h, -⟩
      cases h
    rintro M1 nx1 v ⟨rfl, h, rfl⟩
    cases h
    refine g_aast (t := 3) (ci := 1) (r := rX1) (n := n) dX3_init_43 (fun g => rfl) (by rw [zu_n _ _ (show r + 1 ≠ r + 2 + k by omega)]; exact e1 k) (zu_s _ _ _) rfl (vp_in_nI (by omega) (by omega)) (by omega) ?_
    refine g_m (M' := rlm M r n (k + 1)) (by rw [nI_clamp (by omega)]; exact rlm_s M r n k) ?_
    refine g_iinc_n (c := 1) dX3_init_44 rfl (by decide) (by decide) ?_
    refine g_goto (tgt := 22) dX3_init_47 (by decide) ?_
    exact g_loc rfl (ih (k + 1) (by omega))
theorem kX3_init {r n : Nat} (hr : 8 ≤ r) (hn : n ≤ 12) (h0 : 0 < n) : Cn mX3_init 3 (n + 1) (11 * n) (some (r + 1)) [.ref r, .int (nI n)] (zu M r (.inr (3, [.null, .int (nI 0)]))) (zn (r + 2 + n) (fun M' => M' = rlF M r n)) := by
  refine g_aload_n dX3_init_0 rfl ?_
  refine g_objInit lO_X3_3 dX3_init_1 (by decide) (by decide) ?_
  refine g_aload_n dX3_init_4 rfl ?_
  refine g_iload_n dX3_init_5 rfl ?_
  refine g_if_le_n (tgt := 13) dX3_init_6 (by decide) (by omega) (fun h1 => ?_) (fun h1 => ?_)
  · omega
  refine g_iload_n dX3_init_9 rfl ?_
  refine g_goto (tgt := 14) dX3_init_10 (by decide) ?_
  refine g_anew (t := 3) (N := n) (C0 := RX1) (kc1 := n) (ks1 := 10 * n) dX3_init_14 q53 z_AO1 (fun g => rfl) (fun h => ?_) (nI_clamp (by omega)) (by omega) rfl (by omega) ?_
  · have := Int32.lt_iff_toInt_lt.mp h
    rw [nI_toInt (by omega)] at this
    have h0 : (0 : Int32).toInt = 0 := rfl
    omega
  refine g_putF (r := rX3) (fs := [.null, .int (nI 0)]) fX3_11 ⟨rfl, rfl⟩ dX3_init_17 (by rw [zu_n _ _ (by omega), zu_s]) (by decide) rfl rfl (by omega) ?_
  refine g_m (rlm_0 M r n _) ?_
  refine g_iconst (v := nI 0) dX3_init_20 (by decide) ?_
  refine g_istore_n dX3_init_21 (by decide) ?_
  exact g_loc rfl (xi3 hr hn _ (g_return dX3_init_50 rfl ⟨rfl, rfl, rfl⟩) n 0 (by omega))
/-- a state at its begin -/
def s0R : Nat → Nat := uN (uN (uN (fun _ => 0) 0 1000) 1 1500) 2 2500
def s0S : Nat → Nat := uN (uN (uN (uN (uN (fun _ => 0) 0 1) 1 20) 2 50) 3 0) 4 11
def s0 (b j : Nat) : Nat → Nat := if j = 2 then (fun i => b + 3 + i) else if j = 12 then (fun i => b + 13 + i) else if j = 25 then s0R else if j = 26 then s0S else fun _ => 0
def stF (M : zM) (b : Nat) : zM := fun q => if b ≤ q ∧ q < b + 27 then some (shp (ko (q - b)) q (s0 b (q - b))) else M q
theorem fin27 {j : Nat} (h : j < 27) : j = 0 ∨ j = 1 ∨ j = 2 ∨ (3 ≤ j ∧ j < 11) ∨ j = 11 ∨ j = 12 ∨ (13 ≤ j ∧ j < 25) ∨ j = 25 ∨ j = 26 := by omega
theorem ko_let1 : ∀ j, j < 27 → 3 ≤ j → j < 11 → ko j = 1 := by decide
theorem ko_let2 : ∀ j, j < 27 → 13 ≤ j → j < 25 → ko j = 1 := by decide
theorem s0_o (b : Nat) {j : Nat} (h1 : j ≠ 2) (h2 : j ≠ 12) (h3 : j ≠ 25) (h4 : j ≠ 26) : s0 b j = fun _ => 0 := by
  unfold s0
  rw [if_neg h1, if_neg h2, if_neg h3, if_neg h4]
theorem stF_of {M M' : zM} {b : Nat} (ho : ∀ q, ¬ (b ≤ q ∧ q < b + 27) → M' q = M q) (h0 : M' b = some (shp 4 b (fun _ => 0))) (h1 : M' (b + 1) = some (shp 3 (b + 1) (fun _ => 0))) (h2 : M' (b + 2) = some (shp 25 (b + 2) (fun i => b + 3 + i))) (h3 : ∀ j, j < 8 → M' (b + 3 + j) = some (shp 1 (b + 3 + j) (fun _ => 0))) (h11 : M' (b + 11) = some (shp 3 (b + 11) (fun _ => 0))) (h12 : M' (b + 12) = some (shp 26 (b + 12) (fun i => b + 13 + i))) (h13 : ∀ j, j < 12 → M' (b + 13 + j) = some (shp 1 (b + 13 + j) (fun _ => 0))) (h25 : M' (b + 25) = some (shp 27 (b + 25) s0R)) (h26 : M' (b + 26) = some (shp 28 (b + 26) s0S)) : M' = stF M b := by
  funext q
  by_cases hq : b ≤ q ∧ q < b + 27
  · obtain ⟨j, rfl⟩ : ∃ j, q = b + j := ⟨q - b, by omega⟩
    rw [stF, if_pos hq, show b + j - b = j by omega]
    rcases fin27 (show j < 27 by omega) with rfl | rfl | rfl | hj | rfl | rfl | hj | rfl | rfl
    · exact h0
    · exact h1
    · exact h2
    · rw [ko_let1 j (by omega) hj.1 hj.2, s0_o b (by omega) (by omega) (by omega) (by omega)]
      have := h3 (j - 3) (by omega)
      rw [show b + 3 + (j - 3) = b + j by omega] at this
      exact this
    · exact h11
    · exact h12
    · rw [ko_let2 j (by omega) hj.1 hj.2, s0_o b (by omega) (by omega) (by omega) (by omega)]
      have := h13 (j - 13) (by omega)
      rw [show b + 13 + (j - 13) = b + j by omega] at this
      exact this
    · exact h25
    · exact h26
  · rw [stF, if_neg hq]
    exact ho q hq
theorem ty_X3 : ∃ ty : Nat → FieldType, (∀ k, k < rX3.2.2 → parseFieldDescriptor (rX3.2.1 k).2.2.1 = some (ty k)) ∧ ∀ j, j < rX3.2.2 → defaultValue (ty j) = vp_V [.null, .int (nI 0)] j := ⟨tyX3, tyX3_ok, by decide +kernel⟩
abbrev d4 : List Value := [.null, .null, .null, .null, .int (nI 0), .int (nI 0), .int (nI 0)]
theorem rlF_o {M : zM} {r n q : Nat} (h : q < r ∨ r + 2 + n ≤ q) : rlF M r n q = M q := by
  unfold rlF
  rw [if_neg (by omega), if_neg (by omega), if_neg (by omega)]
theorem rlF_0 {M : zM} {r n : Nat} : rlF M r n r = some (.inr (3, [.ref (r + 1), .int (nI 0)])) := if_pos rfl
theorem rlF_1 {M : zM} {r n : Nat} : rlF M r n (r + 1) = some (aR 3 n (fun j => some (r + 2 + j))) := by
  unfold rlF
  rw [if_neg (by omega), if_pos rfl]
theorem rlF_l {M : zM} {r n j : Nat} (h : j < n) : rlF M r n (r + 2 + j) = some (.inr (1, l0)) := by
  unfold rlF
  rw [if_neg (by omega), if_neg (by omega), if_pos (by omega)]
theorem kX4_init {b : Nat} (hb : 8 ≤ b) : Cn mX4_init 4 26 232 (some (b + 1)) [.ref b] (zu M b (.inr (4, d4))) (zn (b + 27) (fun M' => M' = stF M b)) := by
  refine g_aload_n dX4_init_0 rfl ?_
  refine g_objInit lO_X4_3 dX4_init_1 (by decide) (by decide) ?_
  refine g_aload_n dX4_init_4 rfl ?_
  refine g_new (ci := 3) (r := rX3) (fs := [.null, .int (nI 0)]) (kc1 := 25) (ks1 := 230) rfl q47 q48 q20 dX4_init_5 ty_X3 (fun g => rfl) rfl rfl ?_
  refine g_dup dX4_init_8 rfl ?_
  refine g_bipush (v := nI 8) dX4_init_9 (by decide) ?_
  refine g_callI (kc1 := 16) (ks1 := 142) (kX3_init (M := zu M b (.inr (4, d4))) (r := b + 1) (n := 8) (by omega) (by omega) (by omega)) oX3_init pX3_init lX4_11 dX4_init_11 (S := [.ref (b + 1), .ref b]) (As := [.int (nI 8)]) rfl rfl (Nat.le_of_ble_eq_true rfl) (Nat.le_of_ble_eq_true rfl) (by decide) (Nat.le_refl _) (Nat.le_refl _) ?_ ?_
  · rintro M1 nx1 E ⟨-, h, -⟩
    cases h
  rintro M1 nx1 v ⟨rfl, h, rfl⟩
  cases h
  refine g_putF (r := rX4) (fs := d4) fX4_14 ⟨rfl, rfl⟩ dX4_init_14 (by rw [rlF_o (by omega), zu_s]) (by decide) rfl rfl (by omega) ?_
  refine g_aload_n dX4_init_17 rfl ?_
  refine g_new (ci := 3) (r := rX3) (fs := [.null, .int (nI 0)]) (kc1 := 15) (ks1 := 140) rfl q47 q48 q20 dX4_init_18 ty_X3 (fun g => rfl) rfl rfl ?_
  refine g_dup dX4_init_21 rfl ?_
  refine g_bipush (v := nI 12) dX4_init_22 (by decide) ?_
  generalize hM1 : zu (rlF (zu M b (.inr (4, d4))) (b + 1) 8) b (.inr (4, d4.set 0 (.ref (b + 1)))) = M1
  refine g_callI (kc1 := 2) (ks1 := 8) (kX3_init (M := M1) (r := b + 11) (n := 12) (by omega) (by omega) (by omega)) oX3_init pX3_init lX4_11 dX4_init_24 (S := [.ref (b + 11), .ref b]) (As := [.int (nI 12)]) rfl rfl (Nat.le_of_ble_eq_true rfl) (Nat.le_of_ble_eq_true rfl) (by decide) (Nat.le_refl _) (Nat.le_refl _) ?_ ?_
  · rintro M1 nx1 E ⟨-, h, -⟩
    cases h
  rintro M2 nx1 v ⟨rfl, h, rfl⟩
  cases h
  refine g_putF (r := rX4) (fs := d4.set 0 (.ref (b + 1))) fX4_20 ⟨rfl, rfl⟩ dX4_init_27 (by rw [rlF_o (by omega), ← hM1, zu_s]) (by show 1 < 7; omega) rfl rfl (by omega) ?_
  refine g_aload_n dX4_init_30 rfl ?_
  refine g_iconst (v := nI 3) dX4_init_31 (by decide) ?_
  refine g_newi (N := 3) (kc1 := 1) (ks1 := 5) dX4_init_32 (by decide) rfl rfl ?_
  refine g_dup dX4_init_34 rfl ?_
  refine g_iconst (v := nI 0) dX4_init_35 (by decide) ?_
  refine g_sipush (v := nI 1000) dX4_init_36 (by decide) ?_
  refine g_iast_n (X := fun _ => 0) (n := 3) dX4_init_39 (zu_s _ _ _) (by omega) (by decide) (by omega) ?_
  refine g_dup dX4_init_40 rfl ?_
  refine g_iconst (v := nI 1) dX4_init_41 (by decide) ?_
  refine g_sipush (v := nI 1500) dX4_init_42 (by decide) ?_
  refine g_iast_n (n := 3) dX4_init_45 (zu_s _ _ _) (by omega) (by decide) (by omega) ?_
  refine g_dup dX4_init_46 rfl ?_
  refine g_iconst (v := nI 2) dX4_init_47 (by decide) ?_
  refine g_sipush (v := nI 2500) dX4_init_48 (by decide) ?_
  refine g_iast_n (n := 3) dX4_init_51 (zu_s _ _ _) (by omega) (by decide) (by omega) ?_
  rw [zu_u, zu_u, zu_u]
  refine g_putF (r := rX4) (fs := (d4.set 0 (.ref (b + 1))).set 1 (.ref (b + 11))) fX4_23 ⟨rfl, rfl⟩ dX4_init_52 (by rw [zu_n _ _ (by omega), zu_s]) (by show 2 < 7; omega) rfl rfl (by omega) ?_
  refine g_aload_n dX4_init_55 rfl ?_
  refine g_iconst (v := nI 5) dX4_init_56 (by decide) ?_
  refine g_newi (N := 5) (kc1 := 0) (ks1 := 0) dX4_init_57 (by decide) rfl rfl ?_
  refine g_dup dX4_init_59 rfl ?_
  refine g_iconst (v := nI 0) dX4_init_60 (by decide) ?_
  refine g_iconst (v := nI 1) dX4_init_61 (by decide) ?_
  refine g_iast_n (X := fun _ => 0) (n := 5) dX4_init_62 (zu_s _ _ _) (by omega) (by decide) (by omega) ?_
  refine g_dup dX4_init_63 rfl ?_
  refine g_iconst (v := nI 1) dX4_init_64 (by decide) ?_
  refine g_bipush (v := nI 20) dX4_init_65 (by decide) ?_
  refine g_iast_n (n := 5) dX4_init_67 (zu_s _ _ _) (by omega) (by decide) (by omega) ?_
  refine g_dup dX4_init_68 rfl ?_
  refine g_iconst (v := nI 2) dX4_init_69 (by decide) ?_
  refine g_bipush (v := nI 50) dX4_init_70 (by decide) ?_
  refine g_iast_n (n := 5) dX4_init_72 (zu_s _ _ _) (by omega) (by decide) (by omega) ?_
  refine g_dup dX4_init_73 rfl ?_
  refine g_iconst (v := nI 3) dX4_init_74 (by decide) ?_
  refine g_iconst (v := nI 0) dX4_init_75 (by decide) ?_
  refine g_iast_n (n := 5) dX4_init_76 (zu_s _ _ _) (by omega) (by decide) (by omega) ?_
  refine g_dup dX4_init_77 rfl ?_
  refine g_iconst (v := nI 4) dX4_init_78 (by decide) ?_
  refine g_bipush (v := nI 11) dX4_init_79 (by decide) ?_
  refine g_iast_n (n := 5) dX4_init_81 (zu_s _ _ _) (by omega) (by decide) (by omega) ?_
  rw [zu_u, zu_u, zu_u, zu_u, zu_u]
  refine g_putF (r := rX4) (fs := ((d4.set 0 (.ref (b + 1))).set 1 (.ref (b + 11))).set 2 (.ref (b + 25))) fX4_27 ⟨rfl, rfl⟩ dX4_init_82 (by rw [zu_n _ _ (by omega), zu_s]) (by show 3 < 7; omega) rfl rfl (by omega) ?_
  refine g_return dX4_init_85 rfl ⟨rfl, rfl, ?_⟩
  refine stF_of (fun q hq => ?_) ?_ ?_ ?_ (fun j hj => ?_) ?_ ?_ (fun j hj => ?_) ?_ ?_
  · rw [zu_n _ _ (by omega), zu_n _ _ (by omega), zu_n _ _ (by omega), zu_n _ _ (by omega), zu_n _ _ (by omega), rlF_o (by omega), ← hM1, zu_n _ _ (by omega), rlF_o (by omega), zu_n _ _ (by omega)]
  · rw [zu_s]; rfl
  · rw [zu_n _ _ (by omega), zu_n _ _ (by omega), zu_n _ _ (by omega), zu_n _ _ (by omega), zu_n _ _ (by omega), rlF_o (by omega), ← hM1, zu_n _ _ (by omega), rlF_0]
    rfl
  · rw [zu_n _ _ (by omega), zu_n _ _ (by omega), zu_n _ _ (by omega), zu_n _ _ (by omega), zu_n _ _ (by omega), rlF_o (by omega), ← hM1, zu_n _ _ (by omega), show b + 2 = b + 1 + 1 from rfl, rlF_1]
    rfl
  · rw [zu_n _ _ (by omega), zu_n _ _ (by omega), zu_n _ _ (by omega), zu_n _ _ (by omega), zu_n _ _ (by omega), rlF_o (by omega), ← hM1, zu_n _ _ (by omega), show b + 3 + j = b + 1 + 2 + j from rfl, rlF_l hj]
    rfl
  · rw [zu_n _ _ (by omega), zu_n _ _ (by omega), zu_n _ _ (by omega), zu_n _ _ (by omega), zu_n _ _ (by omega), rlF_0]
    rfl
  · rw [zu_n _ _ (by omega), zu_n _ _ (by omega), zu_n _ _ (by omega), zu_n _ _ (by omega), zu_n _ _ (by omega), show b + 12 = b + 11 + 1 from rfl, rlF_1]
    rfl
  · rw [zu_n _ _ (by omega), zu_n _ _ (by omega), zu_n _ _ (by omega), zu_n _ _ (by omega), zu_n _ _ (by omega), show b + 13 + j = b + 11 + 2 + j from rfl, rlF_l hj]
    rfl
  · rw [zu_n _ _ (by omega), zu_n _ _ (by omega), zu_n _ _ (by omega), zu_s]
    rfl
  · rw [zu_n _ _ (by omega), zu_s]
    rfl
end CONS
