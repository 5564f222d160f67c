/-! mathematics: lets made from a text, in step -/
theorem alT_low {C : Nat → Nat} {ln : Nat} : ∀ n pa a PT j, j < 6 * pa → (alT C ln n pa a PT).2.2.2 j = PT j
  | 0, _, _, _, _, _ => rfl
  | n + 1, pa, a, PT, j, hj => by
    have h1 : (rpF C ln pa a PT).2.2 j = PT j := rpS_low _ _ _ _ hj
    rw [alT]
    cases (rpF C ln pa a PT).1
    · exact h1
    · cases atB C ln (rpF C ln pa a PT).2.1 59 59
      · exact h1
      · exact (alT_low n (pa + 1) _ _ j (by omega)).trans h1
section LT
variable {Y Z : Nat → Nat → Nat} {X : Nat → Nat} {SS : Nat → Nat → Nat} {SN : Nat → Nat} {sm ik : Nat}
theorem Inv_tY (hI : Inv Y X SS SN sm ik) (s : tS) : Inv (tY Y s) X SS SN sm ik := Inv_same hI (fun q hq => tY_o _ _ (by omega) (by omega)) (by rw [tY_o _ _ (by omega) (by omega)]; exact hI.2.2.2)
theorem pt_ok (hI : Inv Y X SS SN sm ik) {N : Nat → Nat} (hN : ptB N) : ptR Y N = rfs X (N 0) (N 1) (N 2) (N 3) (N 4) := by
  have hd : N 1 < 84 := by have := hN.2.1; omega
  unfold ptR
  exact ab_rf hI.1.2.1 hI.1.1 hd (ptV Y N)
theorem pt_step (hI : Inv Y X SS SN sm ik) {N : Nat → Nat} (hN : ptB N) (h : ptRel Y N Z) : Inv Z (bif ptOk Y N then mkS X (N 0) (N 1) (N 2) (N 3) (N 4) (N 5) else X) SS SN sm ik := by
  have hr := pt_ok hI hN
  obtain ⟨n0, n1, n2, n3, n4, n5, n6, n7⟩ := hN
  obtain ⟨h1, h2, h3⟩ := h
  unfold ptOk
  by_cases hft : N 2 < N 3
  · rw [decide_eq_true hft, Bool.true_and]
    have hvB := dsV_B (Inv_wC hI) (h := N 0) (day := N 1) (f := N 2) (t := N 3) (r := N 4) (te := N 5) n0 (by omega) hft n4 n6 n7
    have hI1 := Inv_70 hI (vB_dB hvB)
    by_cases hz : ptR Y N = 0
    · rw [decide_eq_true hz, cond_true]
      obtain ⟨Y', s1, s2⟩ := h3 hft hz
      have hI2 := Inv_scr hI1 s1
      have e70 : Y' 70 = dsV Y (N 0) (N 1) (N 2) (N 3) (N 4) (N 5) := (s1 70 (by omega) (by omega) (by omega)).trans (uA_s _ _ _)
      rw [hr] at hz
      obtain ⟨t1, t2⟩ := ms_step hI2.1 (rfs_12 hz hI.1.2.2.1) n0 (by omega) hft n4 n5 n6 n7 (by rw [e70]; exact hvB) (by rw [e70]; exact ds_SgR hI.1.2.1 n0 (by omega)) s2
      exact Inv_upd hI2 (fun q q1 q2 => t2 q (by omega)) (by rw [t2 70 (by omega), e70]; exact vB_dB hvB) t1
    · rw [decide_eq_false hz, cond_false]
      exact Inv_scr hI1 (h2 hft hz)
  · rw [decide_eq_false hft, Bool.false_and, cond_false, h1 (by omega)]
    exact hI
/-- how far the making has come -/
def LC (C : Nat → Nat) (ln : Nat) (s0 : tS) (Y : Nat → Nat → Nat) (P X : Nat → Nat) (SS : Nat → Nat → Nat) (SN : Nat → Nat) (sm ik a pa : Nat) : Prop := ∀ Z m, ltP C ln s0 Y a Z m → Inv Z (ltT P X pa).2 SS SN sm ik ∧ m = (ltT P X pa).1
variable {C : Nat → Nat} {ln : Nat} {s0 : tS} {P : Nat → Nat}
theorem LC_0 (hI : Inv Y X SS SN sm ik) : LC C ln s0 Y P X SS SN sm ik 0 0 := fun Z m h => by
  obtain ⟨rfl, rfl⟩ := h
  exact ⟨Inv_tY hI _, rfl⟩
theorem LC_s {a pa : Nat} (h : LC C ln s0 Y P X SS SN sm ik a pa) (hn : ¬ (ln ≤ a + 1 ∨ C (a + 1) = 59)) : LC C ln s0 Y P X SS SN sm ik (a + 1) pa := fun Z m hm => by
  obtain ⟨Z', m', h1, h2⟩ := hm
  rw [if_neg hn] at h2
  obtain ⟨rfl, rfl⟩ := h2
  obtain ⟨i1, i2⟩ := h Z' m h1
  exact ⟨Inv_tY i1 _, i2⟩
theorem LC_n {pa : Nat} : ∀ n a, LC C ln s0 Y P X SS SN sm ik a pa → a + n < ln → (∀ i, a ≤ i → i < a + n → C (i + 1) ≠ 59) → LC C ln s0 Y P X SS SN sm ik (a + n) pa
  | 0, _, h, _, _ => h
  | n + 1, a, h, hl, hc => by
    have := LC_n n (a + 1) (LC_s h (fun q => q.elim (fun q => by omega) (fun q => hc a (by omega) (by omega) q))) (by omega) (fun i h1 h2 => hc i (by omega) (by omega))
    rw [show a + 1 + n = a + (n + 1) by omega] at this
    exact this
theorem LC_p {a pa : Nat} (h : LC C ln s0 Y P X SS SN sm ik a pa) (hn : ln ≤ a + 1 ∨ C (a + 1) = 59) (hp : prP P pa) (hN : ∀ w, w < 6 → (rdS C s0 (a + 1)).2.2 w = P (6 * pa + w)) : LC C ln s0 Y P X SS SN sm ik (a + 1) (pa + 1) := fun Z m hm => by
  obtain ⟨Z', m', h1, h2⟩ := hm
  rw [if_pos hn] at h2
  obtain ⟨h3, rfl⟩ := h2
  obtain ⟨i1, rfl⟩ := h Z' m' h1
  generalize rdS C s0 (a + 1) = st at hN h3
  have e0 : st.2.2 0 = P (6 * pa) := hN 0 (by omega)
  have e1 := hN 1 (by omega)
  have e2 := hN 2 (by omega)
  have e3 := hN 3 (by omega)
  have e4 := hN 4 (by omega)
  have e5 := hN 5 (by omega)
  obtain ⟨p0, p1, p2, p3, p4, p5, p6, p7⟩ := hp
  have p0 : P (6 * pa) ≤ 2 := p0
  have hB : ptB st.2.2 := by
    unfold ptB
    rw [e0, e1, e2, e3, e4, e5]
    exact ⟨p0, p1, p2, p3, p4, p5, p6, p7⟩
  have hI := Inv_tY i1 st
  have hs := pt_step hI hB h3
  have ho := pt_ok hI hB
  have eo : ptOk (tY Z' st) st.2.2 = ltOk P (ltT P X pa).2 pa := by
    unfold ptOk ltOk
    rw [ho, e0, e1, e2, e3, e4]
  rw [eo, e0, e1, e2, e3, e4, e5] at hs
  rw [eo]
  rw [ltT]
  cases hb : ltOk P (ltT P X pa).2 pa
  · rw [hb] at hs
    exact ⟨hs, rfl⟩
  · rw [hb] at hs
    exact ⟨hs, rfl⟩
theorem lets_ok (hB : bB C) : ∀ n pa a (PT N : Nat → Nat), a ≤ ln → ln < a + 12 * n → (alT C ln n pa a PT).1 = true → (alT C ln n pa a PT).2.2.1 = ln → P = (alT C ln n pa a PT).2.2.2 → prA P (alT C ln n pa a PT).2.1 → rdS C s0 a = (0, 0, N) → LC C ln s0 Y P X SS SN sm ik a pa → LC C ln s0 Y P X SS SN sm ik ln (alT C ln n pa a PT).2.1
  | 0, _, a, _, _, h1, h2, _, _, _, _, _, _ => by omega
  | n + 1, pa, a, PT, N, h1, h2, ht, hl, hP, hA, hrd, hL => by
    obtain ⟨-, p2, -⟩ := part_ok (C := C) (ln := ln) (pa := pa) 5 (by omega) a N PT h1 _ rfl
    rw [← rpU_5] at p2
    have er : rpS C ln pa rpL a PT = rpF C ln pa a PT := rfl
    rw [er, Nat.sub_self] at p2
    have hb := rpF_b (pa := pa) (PT := PT) hB h1
    rw [alT] at ht hl hP hA ⊢
    generalize rpF C ln pa a PT = r at p2 hb ht hl hP hA
    obtain ⟨b1, b2, b3⟩ := hb
    cases hr : r.1
    · rw [hr] at ht; cases ht
    · rw [hr, cond_true] at ht hl hP hA
      rw [cond_true]
      obtain ⟨g, N', j1, j2, j3, j4, j5, j6⟩ := p2 hr
      have b4 := b3 hr
      obtain ⟨k1, k2⟩ := RunN_rd _ _ _ j1 hrd
      rw [show a + (r.2.1 - a) = r.2.1 by omega] at k1 k2
      -- inside the part
      have hin := LC_n (r.2.1 - a - 1) a hL (by omega) (fun i i1 i2 => k2 (i + 1) (by omega) (by omega))
      rw [show a + (r.2.1 - a - 1) = r.2.1 - 1 by omega] at hin
      have fin : (ln ≤ r.2.1 ∨ C r.2.1 = 59) → prP P pa → (∀ w, w < 6 → r.2.2 (6 * pa + w) = P (6 * pa + w)) → LC C ln s0 Y P X SS SN sm ik r.2.1 (pa + 1) := fun q1 q2 q3 => by
        have := LC_p hin (by rw [show r.2.1 - 1 + 1 = r.2.1 by omega]; exact q1) q2 (fun w hw => by
          rw [show r.2.1 - 1 + 1 = r.2.1 by omega, k1]
          exact (j5 w (Nat.zero_le _) hw).trans (q3 w hw))
        rwa [show r.2.1 - 1 + 1 = r.2.1 by omega] at this
      cases hs : atB C ln r.2.1 59 59
      · rw [hs, cond_false] at ht hl hP hA
        rw [cond_false]
        have hl : r.2.1 = ln := hl
        have := fin (Or.inl (by omega)) (hA pa (Nat.lt_succ_self pa)) (fun w _ => by rw [hP])
        rw [hl] at this
        exact this
      · rw [hs, cond_true] at ht hl hP hA
        rw [cond_true]
        simp only [atB, Bool.and_eq_true, decide_eq_true_eq] at hs
        obtain ⟨s1, s2, s3⟩ := hs
        have hcb : C r.2.1 = 59 := by omega
        have ea := ac_s (c := C r.2.1) (k := 5) (g := g) (N := N') (by omega) hcb
        -- another part follows
        obtain ⟨-, p2', -⟩ := part_ok (C := C) (ln := ln) (pa := pa + 1) 5 (by omega) (r.2.1 + 1) N' r.2.2 (by omega) _ rfl
        rw [← rpU_5] at p2'
        have er' : rpS C ln (pa + 1) rpL (r.2.1 + 1) r.2.2 = rpF C ln (pa + 1) (r.2.1 + 1) r.2.2 := rfl
        rw [er', Nat.sub_self] at p2'
        have hn0 : ∃ n', n = n' + 1 := by
          cases n with
          | zero => cases ht
          | succ n' => exact ⟨n', rfl⟩
        have hr2 : (rpF C ln (pa + 1) (r.2.1 + 1) r.2.2).1 = true := by
          obtain ⟨n', rfl⟩ := hn0
          rw [alT] at ht
          cases hq : (rpF C ln (pa + 1) (r.2.1 + 1) r.2.2).1
          · rw [hq] at ht; cases ht
          · rfl
        have hpa : pa < (alT C ln n (pa + 1) (r.2.1 + 1) r.2.2).2.1 := by
          obtain ⟨n', rfl⟩ := hn0
          have mono : ∀ n pa a PT, pa ≤ (alT C ln n pa a PT).2.1 := fun n => by
            induction n with
            | zero => intro pa a PT; exact Nat.le_refl _
            | succ n ih =>
              intro pa a PT
              rw [alT]
              cases (rpF C ln pa a PT).1
              · exact Nat.le_refl _
              · cases atB C ln (rpF C ln pa a PT).2.1 59 59
                · exact Nat.le_succ _
                · exact Nat.le_trans (Nat.le_succ _) (ih (pa + 1) _ _)
          exact mono (n' + 1) (pa + 1) _ _
        obtain ⟨g', N'', j1', j2', -, -, -, -⟩ := p2' hr2
        have hne : C (r.2.1 + 1) ≠ 59 := by
          generalize (rpF C ln (pa + 1) (r.2.1 + 1) r.2.2).2.1 = e at j1' j2'
          rw [show e - (r.2.1 + 1) = (e - (r.2.1 + 1) - 1) + 1 by omega] at j1'
          exact j1'.1
        have hlt : r.2.1 + 1 < ln := by
          have := rpF_b (pa := pa + 1) (PT := r.2.2) hB (show r.2.1 + 1 ≤ ln by omega)
          omega
        have h5 := fin (Or.inr hcb) (hA pa hpa) (fun w hw => by rw [hP, alT_low _ _ _ _ _ (by omega)])
        have h6 := LC_s h5 (fun q => q.elim (fun q => by omega) (fun q => hne q))
        exact lets_ok hB n (pa + 1) (r.2.1 + 1) r.2.2 N' (by omega) (by omega) ht hl hP hA (by rw [rdS, k1, ea]) h6
end LT
section LT2
variable {Y Z : Nat → Nat → Nat} {X : Nat → Nat} {SS : Nat → Nat → Nat} {SN BU PT : Nat → Nat} {sm ik ln : Nat}
theorem inv_lets (hI : Inv Y X SS SN sm ik) (hT : InT Y BU ln) (hq : alB BU ln PT = true) {Y3 : Nat → Nat → Nat} {m : Nat} (h1 : svRel (tY Y (fbA Y).2) Y3) (h2 : ltP (Y 65) (Y 64 1) (0, 0, (fbA Y).2.2.2) Y3 (Y 64 1) Z m) : Inv (uA Z 64 (uN (Z 64) 1 0)) (ltT (alF BU ln PT).2.2.2 X (alF BU ln PT).2.1).2 (svS SS sm X) SN (svN sm) ik ∧ m = (ltT (alF BU ln PT).2.2.2 X (alF BU ln PT).2.1).1 ∧ InT (uA Z 64 (uN (Z 64) 1 0)) BU 0 := by
  have hic := (text_ok hT PT).2
  rw [hq] at hic
  have hE := icT_E hic (fbA Y).2.2.2
  obtain ⟨t1, t2, t3, t4, t5⟩ := hT
  have hIt := Inv_tY hI (fbA Y).2
  have hI3 := Inv_sv hIt h1
  have h65 : Y3 65 = BU := (svRel_k h1 hIt.2.1.1 (by have := hIt.2.1.2.1; have := hIt.2.1.2.2.1; omega) (by omega) (by omega) (by omega)).trans ((tY_o _ _ (by omega) (by omega)).trans t3)
  rw [t3, t1] at h2 hE
  have hk := ltP_k (Inv_wC hI3) hI3.1.1 (tI_0 _) hE ln Z m (Nat.le_refl _) h2
  have hBd := rdS_B (C := BU) (s := (0, 0, (fbA Y).2.2.2)) ⟨by show 0 < 6; omega, Nat.le_refl _, (fbA_B t5).2.2.2⟩ ln
  unfold alB at hq
  simp only [Bool.and_eq_true, decide_eq_true_eq] at hq
  obtain ⟨hA, -⟩ := alT_ok t4 (ln := ln) 6 0 0 PT (fun j hj => by omega)
  have hL := lets_ok (s0 := (0, 0, (fbA Y).2.2.2)) (Y := Y3) (X := X) (SS := svS SS sm X) (SN := SN) (sm := svN sm) (ik := ik) (P := (alF BU ln PT).2.2.2) t4 6 0 0 PT (fbA Y).2.2.2 (Nat.zero_le _) (by omega) hq.1 hq.2 rfl hA rfl (LC_0 hI3)
  obtain ⟨f1, f2⟩ := hL Z m h2
  have e66 : Z 66 = (rdS BU (0, 0, (fbA Y).2.2.2) ln).2.2 := by
    rw [← hk.2.2.2.1.1, tY_n]
  refine ⟨Inv_same f1 (fun q hq => uA_n _ _ (by omega)) (by rw [uA_n _ _ (by omega)]; exact f1.2.2.2), f2, ?_⟩
  refine ⟨by rw [uA_s, uN_s], Nat.zero_le _, ?_, t4, ?_⟩
  · rw [uA_n _ _ (by omega), hk.2.2.2.2 65 (by omega) (by omega) (by omega) (by omega) (by omega) (by omega) (by omega)]
    exact h65
  · unfold wN
    rw [uA_n _ _ (by omega), e66]
    exact hBd.2.2
theorem inv_fb (hI : Inv Y X SS SN sm ik) (hT : InT Y BU ln) : Inv (tY Y (fbA Y).2) X SS SN sm ik ∧ InT (tY Y (fbA Y).2) BU ln := by
  refine ⟨Inv_tY hI _, by rw [tY_1]; exact hT.1, hT.2.1, by rw [tY_o _ _ (by omega) (by omega)]; exact hT.2.2.1, hT.2.2.2.1, ?_⟩
  unfold wN
  rw [tY_n]
  exact (fbA_B hT.2.2.2.2).2.2.2
theorem inv_append (hI : Inv Y X SS SN sm ik) (hT : InT Y BU ln) {c : Nat} (hc : c ≤ 126) (hl : ln < 60) : Inv (uA (uA Y 65 (uN (Y 65) (Y 64 1) c)) 64 (uN (Y 64) 1 (Y 64 1 + 1))) X SS SN sm ik ∧ InT (uA (uA Y 65 (uN (Y 65) (Y 64 1) c)) 64 (uN (Y 64) 1 (Y 64 1 + 1))) (uN BU ln c) (ln + 1) := by
  obtain ⟨t1, t2, t3, t4, t5⟩ := hT
  refine ⟨Inv_same hI (fun q hq => by rw [uA_n _ _ (by omega), uA_n _ _ (by omega)]) (by rw [uA_n _ _ (by omega), uA_n _ _ (by omega)]; exact hI.2.2.2), by rw [uA_s, uN_s, t1], hl, ?_, fun j => ?_, ?_⟩
  · rw [uA_n _ _ (by omega), uA_s, t1, t3]
  · unfold uN
    split
    · omega
    · exact t4 j
  · unfold wN
    rw [uA_n _ _ (by omega), uA_n _ _ (by omega)]
    exact t5
theorem inv_clear (hI : Inv Y X SS SN sm ik) (hT : InT Y BU ln) : Inv (uA Y 64 (uN (Y 64) 1 0)) X SS SN sm ik ∧ InT (uA Y 64 (uN (Y 64) 1 0)) BU 0 := by
  obtain ⟨t1, t2, t3, t4, t5⟩ := hT
  refine ⟨Inv_same hI (fun q hq => by rw [uA_n _ _ (by omega)]) (by rw [uA_n _ _ (by omega)]; exact hI.2.2.2), by rw [uA_s, uN_s], Nat.zero_le _, by rw [uA_n _ _ (by omega)]; exact t3, t4, ?_⟩
  unfold wN
  rw [uA_n _ _ (by omega)]
  exact t5
end LT2
