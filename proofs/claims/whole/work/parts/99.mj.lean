/-! the law: its memory -/
def oM (f : Nat → Int64) (f2 : Nat → UInt64) : zM := fun q => if q = 243 then some (lA f) else if q = 244 then some (dA f2) else none
theorem mM_o {M0 : zM} {X SV SN AT CH CF CT BU PT : Nat → Nat} {sm ik th mn cl ln sp nu pa : Nat} {hs : Int64} {q : Nat} (h : q < 233 ∨ 243 ≤ q) : mM M0 X SV SN AT CH CF CT BU PT sm ik th mn cl ln sp nu pa hs q = M0 q := by
  unfold mM
  rw [beq_f (by omega), beq_f (by omega), beq_f (by omega), beq_f (by omega), beq_f (by omega), beq_f (by omega), beq_f (by omega), beq_f (by omega), beq_f (by omega), beq_f (by omega)]
  rfl
theorem cm_comm (O : zM) (X SV SN AT CH CF CT BU PT : Nat → Nat) (sm ik th mn cl ln sp nu pa : Nat) (hs : Int64) (Y : Nat → Nat → Nat) : cM (mM O X SV SN AT CH CF CT BU PT sm ik th mn cl ln sp nu pa hs) Y = mM (cM O Y) X SV SN AT CH CF CT BU PT sm ik th mn cl ln sp nu pa hs := by
  funext q
  by_cases h : 233 ≤ q
  · rw [cM_o (kq_99 (Or.inr h))]
    unfold mM
    rw [cM_o (kq_99 (Or.inr h))]
  · rw [mM_o (Or.inl (by omega))]
    unfold cM
    rw [mM_o (Or.inl (by omega))]
theorem oM_l (f f' : Nat → Int64) (f2 : Nat → UInt64) (X SV SN AT CH CF CT BU PT : Nat → Nat) (sm ik th mn cl ln sp nu pa : Nat) (hs : Int64) (Y : Nat → Nat → Nat) : zu (cM (mM (oM f f2) X SV SN AT CH CF CT BU PT sm ik th mn cl ln sp nu pa hs) Y) 243 (lA f') = cM (mM (oM f' f2) X SV SN AT CH CF CT BU PT sm ik th mn cl ln sp nu pa hs) Y := by
  funext q
  rw [zu_ite]
  by_cases h : q = 243
  · subst h; rfl
  · rw [if_neg h]
    have e : ∀ q, q ≠ 243 → oM f f2 q = oM f' f2 q := fun q h => by unfold oM; rw [if_neg h, if_neg h]
    unfold cM mM
    rw [e q h]
theorem oM_d (f : Nat → Int64) (f2 f' : Nat → UInt64) (X SV SN AT CH CF CT BU PT : Nat → Nat) (sm ik th mn cl ln sp nu pa : Nat) (hs : Int64) (Y : Nat → Nat → Nat) : zu (cM (mM (oM f f2) X SV SN AT CH CF CT BU PT sm ik th mn cl ln sp nu pa hs) Y) 244 (dA f') = cM (mM (oM f f') X SV SN AT CH CF CT BU PT sm ik th mn cl ln sp nu pa hs) Y := by
  funext q
  rw [zu_ite]
  by_cases h : q = 244
  · subst h; rfl
  · rw [if_neg h]
    have e : ∀ q, q ≠ 244 → oM f f2 q = oM f f' q := fun q h => by unfold oM; rw [if_neg h, if_neg h]
    unfold cM mM
    rw [e q h]
theorem G_mono {mi : zI} {d kc ks : Nat} {nx : Option Nat} {pc : Nat} {L : List (Nat × Value)} {S : List Value} {M : zM} {F F' : zP} (h : G mi d kc ks nx pc L S M F) (hF : ∀ M nx o, F M nx o → F' M nx o) : G mi d kc ks nx pc L S M F' := by
  intro l p e R s m args below meth c g mc ms C H locs cells slots ls X T hT X2
  obtain ⟨t, a1, o, b1, b2, b3⟩ := h l p e R s m args below meth c g mc ms C H locs cells slots ls X T hT X2
  refine ⟨t, a1, o, b1, b2, ?_⟩
  rcases b3 with ⟨⟨⟨M1, nx1, v, c1, c2, c3⟩, c4⟩, c5⟩ | ⟨q, c1, E, ce, Ls, ⟨⟨M1, c2, c3⟩, c4⟩, c5⟩
  · exact Or.inl ⟨⟨⟨M1, nx1, v, c1, hF _ _ _ c2, c3⟩, c4⟩, c5⟩
  · exact Or.inr ⟨q, c1, E, ce, Ls, ⟨⟨M1, hF _ _ _ c2, c3⟩, c4⟩, c5⟩
theorem zi_mono {mi : zI} {d kc ks : Nat} {nx : Option Nat} {As : List Value} {M : zM} {b : Int32} {P P' : zM → Prop} (h : Cn mi d kc ks nx As M (zi b P)) (hP : ∀ M, P M → P' M) : Cn mi d kc ks nx As M (zi b P') := G_mono h (fun M1 nx1 o q => ⟨q.1, q.2.1, hP _ q.2.2⟩)
theorem zd_mono {mi : zI} {d kc ks : Nat} {nx : Option Nat} {As : List Value} {M : zM} {b : UInt64} {P P' : zM → Prop} (h : Cn mi d kc ks nx As M (zd b P)) (hP : ∀ M, P M → P' M) : Cn mi d kc ks nx As M (zd b P') := G_mono h (fun M1 nx1 o q => ⟨q.1, q.2.1, hP _ q.2.2⟩)
theorem zg_mono {mi : zI} {d kc ks : Nat} {nx : Option Nat} {As : List Value} {M : zM} {b : UInt32} {P P' : zM → Prop} (h : Cn mi d kc ks nx As M (zg b P)) (hP : ∀ M, P M → P' M) : Cn mi d kc ks nx As M (zg b P') := G_mono h (fun M1 nx1 o q => ⟨q.1, q.2.1, hP _ q.2.2⟩)
theorem zj_mono {mi : zI} {d kc ks : Nat} {nx : Option Nat} {As : List Value} {M : zM} {b : Int64} {P P' : zM → Prop} (h : Cn mi d kc ks nx As M (zj b P)) (hP : ∀ M, P M → P' M) : Cn mi d kc ks nx As M (zj b P') := G_mono h (fun M1 nx1 o q => ⟨q.1, q.2.1, hP _ q.2.2⟩)
def LI : zM → Prop := fun M => ∃ (f : Nat → Int64) (f2 : Nat → UInt64) (Y : Nat → Nat → Nat) (X : Nat → Nat) (SS : Nat → Nat → Nat) (SN AT CH CF CT BU PT : Nat → Nat) (sm ik th mn cl ln sp nu pa : Nat) (hs : Int64), M = cM (mM (oM f f2) X (SVf SS) SN AT CH CF CT BU PT sm ik th mn cl ln sp nu pa hs) Y ∧ Inv Y X SS SN sm ik ∧ InT Y BU ln
def LJ (kk : Nat) (b : Int32) : zM → Prop := fun M => ∃ (f : Nat → Int64) (f2 : Nat → UInt64) (Y : Nat → Nat → Nat) (X : Nat → Nat) (SS : Nat → Nat → Nat) (SN AT CH CF CT BU PT : Nat → Nat) (sm ik mn cl ln sp nu pa : Nat) (hs : Int64), M = mM (cM (oM f f2) Y) X (SVf SS) SN AT CH CF CT BU PT sm ik kk mn cl ln sp nu pa hs ∧ Inv Y X SS SN sm ik ∧ InT Y BU ln ∧ (kk = 0 → f 0 = b.toInt64)
def LJd (kk : Nat) (b : UInt64) : zM → Prop := fun M => ∃ (f : Nat → Int64) (f2 : Nat → UInt64) (Y : Nat → Nat → Nat) (X : Nat → Nat) (SS : Nat → Nat → Nat) (SN AT CH CF CT BU PT : Nat → Nat) (sm ik mn cl ln sp nu pa : Nat) (hs : Int64), M = mM (cM (oM f f2) Y) X (SVf SS) SN AT CH CF CT BU PT sm ik kk mn cl ln sp nu pa hs ∧ Inv Y X SS SN sm ik ∧ InT Y BU ln ∧ (kk = 0 → f2 0 = b ∧ FP.dIsNaN b = false)
theorem LJ_th {kk : Nat} {b : Int32} {M : zM} (h : LJ kk b M) : Cn mX6_thrown 0 0 0 none [.ref 233] M (zi (nI kk) (fun M' => M' = M)) ∧ ∃ fs, M 233 = some (.inr (6, fs)) := by
  obtain ⟨f, f2, Y, X, SS, SN, AT, CH, CF, CT, BU, PT, sm, ik, mn, cl, ln, sp, nu, pa, hs, rfl, h1, h2, h3⟩ := h
  exact ⟨kX6_thrown, _, rfl⟩
theorem LJd_th {kk : Nat} {b : UInt64} {M : zM} (h : LJd kk b M) : Cn mX6_thrown 0 0 0 none [.ref 233] M (zi (nI kk) (fun M' => M' = M)) ∧ ∃ fs, M 233 = some (.inr (6, fs)) := by
  obtain ⟨f, f2, Y, X, SS, SN, AT, CH, CF, CT, BU, PT, sm, ik, mn, cl, ln, sp, nu, pa, hs, rfl, h1, h2, h3⟩ := h
  exact ⟨kX6_thrown, _, rfl⟩
theorem LJ_out {kk : Nat} {b : Int32} {M : zM} (h0 : kk = 0) (h : LJ kk b M) : ∃ f, M 243 = some (lA f) ∧ f 0 = b.toInt64 := by
  obtain ⟨f, f2, Y, X, SS, SN, AT, CH, CF, CT, BU, PT, sm, ik, mn, cl, ln, sp, nu, pa, hs, rfl, h1, h2, h3⟩ := h
  exact ⟨f, rfl, h3 h0⟩
theorem LJd_out {kk : Nat} {b : UInt64} {M : zM} (h0 : kk = 0) (h : LJd kk b M) : ∃ f, M 244 = some (dA f) ∧ f 0 = b ∧ FP.dIsNaN b = false := by
  obtain ⟨f, f2, Y, X, SS, SN, AT, CH, CF, CT, BU, PT, sm, ik, mn, cl, ln, sp, nu, pa, hs, rfl, h1, h2, h3⟩ := h
  exact ⟨f2, rfl, h3 h0⟩
theorem LJ_LI {kk : Nat} {b : Int32} {M : zM} (h : LJ kk b M) : LI M := by
  obtain ⟨f, f2, Y, X, SS, SN, AT, CH, CF, CT, BU, PT, sm, ik, mn, cl, ln, sp, nu, pa, hs, rfl, h1, h2, h3⟩ := h
  exact ⟨f, f2, Y, X, SS, SN, AT, CH, CF, CT, BU, PT, sm, ik, kk, mn, cl, ln, sp, nu, pa, hs, (cm_comm ..).symm, h1, h2⟩
theorem LJd_LI {kk : Nat} {b : UInt64} {M : zM} (h : LJd kk b M) : LI M := by
  obtain ⟨f, f2, Y, X, SS, SN, AT, CH, CF, CT, BU, PT, sm, ik, mn, cl, ln, sp, nu, pa, hs, rfl, h1, h2, h3⟩ := h
  exact ⟨f, f2, Y, X, SS, SN, AT, CH, CF, CT, BU, PT, sm, ik, kk, mn, cl, ln, sp, nu, pa, hs, (cm_comm ..).symm, h1, h2⟩
theorem LI_mk {f : Nat → Int64} {f2 : Nat → UInt64} {Y : Nat → Nat → Nat} {X : Nat → Nat} {SS : Nat → Nat → Nat} {SN AT CH CF CT BU PT : Nat → Nat} {sm ik th mn cl ln sp nu pa : Nat} {hs : Int64} (h1 : Inv Y X SS SN sm ik) (h2 : InT Y BU ln) : LI (mM (cM (oM f f2) Y) X (SVf SS) SN AT CH CF CT BU PT sm ik th mn cl ln sp nu pa hs) := ⟨f, f2, Y, X, SS, SN, AT, CH, CF, CT, BU, PT, sm, ik, th, mn, cl, ln, sp, nu, pa, hs, (cm_comm ..).symm, h1, h2⟩
theorem LJ_mk {kk : Nat} {b : Int32} {f : Nat → Int64} {f2 : Nat → UInt64} {Y : Nat → Nat → Nat} {X : Nat → Nat} {SS : Nat → Nat → Nat} {SN AT CH CF CT BU PT : Nat → Nat} {sm ik mn cl ln sp nu pa : Nat} {hs : Int64} (h1 : Inv Y X SS SN sm ik) (h2 : InT Y BU ln) (h3 : kk = 0 → f 0 = b.toInt64) : LJ kk b (mM (cM (oM f f2) Y) X (SVf SS) SN AT CH CF CT BU PT sm ik kk mn cl ln sp nu pa hs) := ⟨f, f2, Y, X, SS, SN, AT, CH, CF, CT, BU, PT, sm, ik, mn, cl, ln, sp, nu, pa, hs, rfl, h1, h2, h3⟩
theorem LJd_mk {kk : Nat} {b : UInt64} {f : Nat → Int64} {f2 : Nat → UInt64} {Y : Nat → Nat → Nat} {X : Nat → Nat} {SS : Nat → Nat → Nat} {SN AT CH CF CT BU PT : Nat → Nat} {sm ik mn cl ln sp nu pa : Nat} {hs : Int64} (h1 : Inv Y X SS SN sm ik) (h2 : InT Y BU ln) (h3 : kk = 0 → f2 0 = b ∧ FP.dIsNaN b = false) : LJd kk b (mM (cM (oM f f2) Y) X (SVf SS) SN AT CH CF CT BU PT sm ik kk mn cl ln sp nu pa hs) := ⟨f, f2, Y, X, SS, SN, AT, CH, CF, CT, BU, PT, sm, ik, mn, cl, ln, sp, nu, pa, hs, rfl, h1, h2, h3⟩
theorem upL_0 (f : Nat → Int64) (x : Int64) : vp_updL f 0 x 0 = x := by simp [vp_updL]
theorem upD_0 (f : Nat → UInt64) (x : UInt64) : va_up f 0 x 0 = x := by simp [va_up]
section LAWW
variable {L : Nat} {xs : Nat → Int32} {i kc ks kk d2 : Nat} {M : zM} {P : zM → Prop} {F : zP}
theorem wL_regular (hL : L < 2 ^ 31) (hi : i + 7 ≤ L) {a1 a2 a3 a4 a5 a6 : Int32} (e1 : xs (i + 1) = a1) (e2 : xs (i + 2) = a2) (e3 : xs (i + 3) = a3) (e4 : xs (i + 4) = a4) (e5 : xs (i + 5) = a5) (e6 : xs (i + 6) = a6) {b : Int32} (hk : kk ≤ 3) (h1 : Cn mL_regular 9 1 6 none [.ref 8, .int a1, .int a2, .int a3, .int a4, .int a5, .int a6, .ref 243] M (zi (nI kk) P)) (hd2 : d2 ≤ 9) (h2 : ∀ M1, P M1 → Cn mX6_regular d2 0 0 none [.ref 233, .int a1, .int a2, .int a3, .int a4, .int a5, .int a6] M1 (zi b (LJ kk b)) ∧ ∃ fs, M1 233 = some (.inr (6, fs))) (k : ∀ M', LI M' → G (mLaw L xs) 11 kc ks none 28 (lwl (i + 7)) [] M' F) : G (mLaw L xs) 11 (kc + 1) (ks + 6) none 164 (lwl i) [] M F := by
  subst e1 e2 e3 e4 e5 e6
  exact vL_regular hL hi hk h1 hd2 h2 (fun M2 q => LJ_th q) (fun h0 M2 q => LJ_out h0 q) (fun M2 q => k M2 (LJ_LI q))
theorem wL_single (hL : L < 2 ^ 31) (hi : i + 7 ≤ L) {a1 a2 a3 a4 a5 a6 : Int32} (e1 : xs (i + 1) = a1) (e2 : xs (i + 2) = a2) (e3 : xs (i + 3) = a3) (e4 : xs (i + 4) = a4) (e5 : xs (i + 5) = a5) (e6 : xs (i + 6) = a6) {b : Int32} (hk : kk ≤ 3) (h1 : Cn mL_single 9 1 6 none [.ref 8, .int a1, .int a2, .int a3, .int a4, .int a5, .int a6, .ref 243] M (zi (nI kk) P)) (hd2 : d2 ≤ 9) (h2 : ∀ M1, P M1 → Cn mX6_single d2 0 0 none [.ref 233, .int a1, .int a2, .int a3, .int a4, .int a5, .int a6] M1 (zi b (LJ kk b)) ∧ ∃ fs, M1 233 = some (.inr (6, fs))) (k : ∀ M', LI M' → G (mLaw L xs) 11 kc ks none 28 (lwl (i + 7)) [] M' F) : G (mLaw L xs) 11 (kc + 1) (ks + 6) none 282 (lwl i) [] M F := by
  subst e1 e2 e3 e4 e5 e6
  exact vL_single hL hi hk h1 hd2 h2 (fun M2 q => LJ_th q) (fun h0 M2 q => LJ_out h0 q) (fun M2 q => k M2 (LJ_LI q))
theorem wL_cancel (hL : L < 2 ^ 31) (hi : i + 7 ≤ L) {bb : Bool} (hbb : bb = true ↔ ¬ xs (i + 1) = 0) {a2 : Int32} (e2 : xs (i + 2) = a2) {b : Int32} (hk : kk ≤ 3) (h1 : Cn mL_cancel 9 1 6 none [.ref 8, .int (nI bb.toNat), .int a2, .ref 243] M (zi (nI kk) P)) (hd2 : d2 ≤ 9) (h2 : ∀ M1, P M1 → Cn mX6_cancel d2 0 0 none [.ref 233, .int (nI bb.toNat), .int a2] M1 (zi b (LJ kk b)) ∧ ∃ fs, M1 233 = some (.inr (6, fs))) (k : ∀ M', LI M' → G (mLaw L xs) 11 kc ks none 28 (lwl (i + 7)) [] M' F) : G (mLaw L xs) 11 (kc + 1) (ks + 6) none 400 (lwl i) [] M F := by
  subst e2
  exact vL_cancel hL hi hbb hk h1 hd2 h2 (fun M2 q => LJ_th q) (fun h0 M2 q => LJ_out h0 q) (fun M2 q => k M2 (LJ_LI q))
theorem wL_off (hL : L < 2 ^ 31) (hi : i + 7 ≤ L) {a1 a2 : Int32} (e1 : xs (i + 1) = a1) (e2 : xs (i + 2) = a2) {b : Int32} (hk : kk ≤ 3) (h1 : Cn mL_off 9 1 6 none [.ref 8, .int a1, .int a2, .ref 243] M (zi (nI kk) P)) (hd2 : d2 ≤ 9) (h2 : ∀ M1, P M1 → Cn mX6_off d2 0 0 none [.ref 233, .int a1, .int a2] M1 (zi b (LJ kk b)) ∧ ∃ fs, M1 233 = some (.inr (6, fs))) (k : ∀ M', LI M' → G (mLaw L xs) 11 kc ks none 28 (lwl (i + 7)) [] M' F) : G (mLaw L xs) 11 (kc + 1) (ks + 6) none 484 (lwl i) [] M F := by
  subst e1 e2
  exact vL_off hL hi hk h1 hd2 h2 (fun M2 q => LJ_th q) (fun h0 M2 q => LJ_out h0 q) (fun M2 q => k M2 (LJ_LI q))
theorem wL_rate (hL : L < 2 ^ 31) (hi : i + 7 ≤ L) {a1 a2 : Int32} (e1 : xs (i + 1) = a1) (e2 : xs (i + 2) = a2) {b : Int32} (hk : kk ≤ 3) (h1 : Cn mL_rate 9 1 6 none [.ref 8, .int a1, .int a2, .ref 243] M (zi (nI kk) P)) (hd2 : d2 ≤ 9) (h2 : ∀ M1, P M1 → Cn mX6_rate d2 0 0 none [.ref 233, .int a1, .int a2] M1 (zi b (LJ kk b)) ∧ ∃ fs, M1 233 = some (.inr (6, fs))) (k : ∀ M', LI M' → G (mLaw L xs) 11 kc ks none 28 (lwl (i + 7)) [] M' F) : G (mLaw L xs) 11 (kc + 1) (ks + 6) none 552 (lwl i) [] M F := by
  subst e1 e2
  exact vL_rate hL hi hk h1 hd2 h2 (fun M2 q => LJ_th q) (fun h0 M2 q => LJ_out h0 q) (fun M2 q => k M2 (LJ_LI q))
theorem wL_set (hL : L < 2 ^ 31) (hi : i + 7 ≤ L) {a1 a2 : Int32} (e1 : xs (i + 1) = a1) (e2 : xs (i + 2) = a2) {b : Int32} (hk : kk ≤ 3) (h1 : Cn mL_set 9 1 6 none [.ref 8, .int a1, .int a2, .ref 243] M (zi (nI kk) P)) (hd2 : d2 ≤ 9) (h2 : ∀ M1, P M1 → Cn mX6_set d2 0 0 none [.ref 233, .int a1, .int a2] M1 (zi b (LJ kk b)) ∧ ∃ fs, M1 233 = some (.inr (6, fs))) (k : ∀ M', LI M' → G (mLaw L xs) 11 kc ks none 28 (lwl (i + 7)) [] M' F) : G (mLaw L xs) 11 (kc + 1) (ks + 6) none 620 (lwl i) [] M F := by
  subst e1 e2
  exact vL_set hL hi hk h1 hd2 h2 (fun M2 q => LJ_th q) (fun h0 M2 q => LJ_out h0 q) (fun M2 q => k M2 (LJ_LI q))
theorem wL_append (hL : L < 2 ^ 31) (hi : i + 7 ≤ L) {a1 : Int32} (e1 : xs (i + 1) = a1) {b : Int32} (hk : kk ≤ 3) (h1 : Cn mL_append 9 1 6 none [.ref 8, .int a1, .ref 243] M (zi (nI kk) P)) (hd2 : d2 ≤ 9) (h2 : ∀ M1, P M1 → Cn mX6_append d2 0 0 none [.ref 233, .int a1] M1 (zi b (LJ kk b)) ∧ ∃ fs, M1 233 = some (.inr (6, fs))) (k : ∀ M', LI M' → G (mLaw L xs) 11 kc ks none 28 (lwl (i + 7)) [] M' F) : G (mLaw L xs) 11 (kc + 1) (ks + 6) none 688 (lwl i) [] M F := by
  subst e1
  exact vL_append hL hi hk h1 hd2 h2 (fun M2 q => LJ_th q) (fun h0 M2 q => LJ_out h0 q) (fun M2 q => k M2 (LJ_LI q))
theorem wL_lets (hL : L < 2 ^ 31) (hi : i + 7 ≤ L) {b : Int32} (hk : kk ≤ 3) (h1 : Cn mL_lets 9 1 6 none [.ref 8, .ref 243] M (zi (nI kk) P)) (hd2 : d2 ≤ 9) (h2 : ∀ M1, P M1 → Cn mX6_lets d2 0 0 none [.ref 233] M1 (zi b (LJ kk b)) ∧ ∃ fs, M1 233 = some (.inr (6, fs))) (k : ∀ M', LI M' → G (mLaw L xs) 11 kc ks none 28 (lwl (i + 7)) [] M' F) : G (mLaw L xs) 11 (kc + 1) (ks + 6) none 770 (lwl i) [] M F := by
  exact vL_lets hL hi hk h1 hd2 h2 (fun M2 q => LJ_th q) (fun h0 M2 q => LJ_out h0 q) (fun M2 q => k M2 (LJ_LI q))
theorem wL_undo (hL : L < 2 ^ 31) (hi : i + 7 ≤ L) {b : Int32} (hk : kk ≤ 3) (h1 : Cn mL_undo 9 1 6 none [.ref 8, .ref 243] M (zi (nI kk) P)) (hd2 : d2 ≤ 9) (h2 : ∀ M1, P M1 → Cn mX6_undo d2 0 0 none [.ref 233] M1 (zi b (LJ kk b)) ∧ ∃ fs, M1 233 = some (.inr (6, fs))) (k : ∀ M', LI M' → G (mLaw L xs) 11 kc ks none 28 (lwl (i + 7)) [] M' F) : G (mLaw L xs) 11 (kc + 1) (ks + 6) none 814 (lwl i) [] M F := by
  exact vL_undo hL hi hk h1 hd2 h2 (fun M2 q => LJ_th q) (fun h0 M2 q => LJ_out h0 q) (fun M2 q => k M2 (LJ_LI q))
theorem wL_restore (hL : L < 2 ^ 31) (hi : i + 7 ≤ L) {b : Int32} (hk : kk ≤ 3) (h1 : Cn mL_restore 9 1 6 none [.ref 8, .ref 243] M (zi (nI kk) P)) (hd2 : d2 ≤ 9) (h2 : ∀ M1, P M1 → Cn mX6_restore d2 0 0 none [.ref 233] M1 (zi b (LJ kk b)) ∧ ∃ fs, M1 233 = some (.inr (6, fs))) (k : ∀ M', LI M' → G (mLaw L xs) 11 kc ks none 28 (lwl (i + 7)) [] M' F) : G (mLaw L xs) 11 (kc + 1) (ks + 6) none 871 (lwl i) [] M F := by
  exact vL_restore hL hi hk h1 hd2 h2 (fun M2 q => LJ_th q) (fun h0 M2 q => LJ_out h0 q) (fun M2 q => k M2 (LJ_LI q))
theorem wL_regularOf (hL : L < 2 ^ 31) (hi : i + 7 ≤ L) {a1 a2 : Int32} (e1 : xs (i + 1) = a1) (e2 : xs (i + 2) = a2) {b : Int32} (hk : kk ≤ 3) (h1 : Cn mL_regularOf 9 1 6 none [.ref 8, .int a1, .int a2, .ref 243] M (zi (nI kk) P)) (hd2 : d2 ≤ 9) (h2 : ∀ M1, P M1 → Cn mX6_regularOf d2 0 0 none [.ref 233, .int a1, .int a2] M1 (zi b (LJ kk b)) ∧ ∃ fs, M1 233 = some (.inr (6, fs))) (k : ∀ M', LI M' → G (mLaw L xs) 11 kc ks none 28 (lwl (i + 7)) [] M' F) : G (mLaw L xs) 11 (kc + 1) (ks + 6) none 915 (lwl i) [] M F := by
  subst e1 e2
  exact vL_regularOf hL hi hk h1 hd2 h2 (fun M2 q => LJ_th q) (fun h0 M2 q => LJ_out h0 q) (fun M2 q => k M2 (LJ_LI q))
theorem wL_singleOf (hL : L < 2 ^ 31) (hi : i + 7 ≤ L) {a1 a2 : Int32} (e1 : xs (i + 1) = a1) (e2 : xs (i + 2) = a2) {b : Int32} (hk : kk ≤ 3) (h1 : Cn mL_singleOf 9 1 6 none [.ref 8, .int a1, .int a2, .ref 243] M (zi (nI kk) P)) (hd2 : d2 ≤ 9) (h2 : ∀ M1, P M1 → Cn mX6_singleOf d2 0 0 none [.ref 233, .int a1, .int a2] M1 (zi b (LJ kk b)) ∧ ∃ fs, M1 233 = some (.inr (6, fs))) (k : ∀ M', LI M' → G (mLaw L xs) 11 kc ks none 28 (lwl (i + 7)) [] M' F) : G (mLaw L xs) 11 (kc + 1) (ks + 6) none 983 (lwl i) [] M F := by
  subst e1 e2
  exact vL_singleOf hL hi hk h1 hd2 h2 (fun M2 q => LJ_th q) (fun h0 M2 q => LJ_out h0 q) (fun M2 q => k M2 (LJ_LI q))
theorem wL_who (hL : L < 2 ^ 31) (hi : i + 7 ≤ L) {a1 a2 a3 : Int32} (e1 : xs (i + 1) = a1) (e2 : xs (i + 2) = a2) (e3 : xs (i + 3) = a3) {b : Int32} (hk : kk ≤ 3) (h1 : Cn mL_who 9 1 6 none [.ref 8, .int a1, .int a2, .int a3, .ref 243] M (zi (nI kk) P)) (hd2 : d2 ≤ 9) (h2 : ∀ M1, P M1 → Cn mX6_who d2 0 0 none [.ref 233, .int a1, .int a2, .int a3] M1 (zi b (LJ kk b)) ∧ ∃ fs, M1 233 = some (.inr (6, fs))) (k : ∀ M', LI M' → G (mLaw L xs) 11 kc ks none 28 (lwl (i + 7)) [] M' F) : G (mLaw L xs) 11 (kc + 1) (ks + 6) none 1051 (lwl i) [] M F := by
  subst e1 e2 e3
  exact vL_who hL hi hk h1 hd2 h2 (fun M2 q => LJ_th q) (fun h0 M2 q => LJ_out h0 q) (fun M2 q => k M2 (LJ_LI q))
theorem wL_hallOf (hL : L < 2 ^ 31) (hi : i + 7 ≤ L) {a1 a2 a3 : Int32} (e1 : xs (i + 1) = a1) (e2 : xs (i + 2) = a2) (e3 : xs (i + 3) = a3) {b : Int32} (hk : kk ≤ 3) (h1 : Cn mL_hallOf 9 1 6 none [.ref 8, .int a1, .int a2, .int a3, .ref 243] M (zi (nI kk) P)) (hd2 : d2 ≤ 9) (h2 : ∀ M1, P M1 → Cn mX6_hallOf d2 0 0 none [.ref 233, .int a1, .int a2, .int a3] M1 (zi b (LJ kk b)) ∧ ∃ fs, M1 233 = some (.inr (6, fs))) (k : ∀ M', LI M' → G (mLaw L xs) 11 kc ks none 28 (lwl (i + 7)) [] M' F) : G (mLaw L xs) 11 (kc + 1) (ks + 6) none 1131 (lwl i) [] M F := by
  subst e1 e2 e3
  exact vL_hallOf hL hi hk h1 hd2 h2 (fun M2 q => LJ_th q) (fun h0 M2 q => LJ_out h0 q) (fun M2 q => k M2 (LJ_LI q))
theorem wL_tenant (hL : L < 2 ^ 31) (hi : i + 7 ≤ L) {a1 a2 : Int32} (e1 : xs (i + 1) = a1) (e2 : xs (i + 2) = a2) {b : Int32} (hk : kk ≤ 3) (h1 : Cn mL_tenant 9 1 6 none [.ref 8, .int a1, .int a2, .ref 243] M (zi (nI kk) P)) (hd2 : d2 ≤ 9) (h2 : ∀ M1, P M1 → Cn mX6_tenant d2 0 0 none [.ref 233, .int a1, .int a2] M1 (zi b (LJ kk b)) ∧ ∃ fs, M1 233 = some (.inr (6, fs))) (k : ∀ M', LI M' → G (mLaw L xs) 11 kc ks none 28 (lwl (i + 7)) [] M' F) : G (mLaw L xs) 11 (kc + 1) (ks + 6) none 1211 (lwl i) [] M F := by
  subst e1 e2
  exact vL_tenant hL hi hk h1 hd2 h2 (fun M2 q => LJ_th q) (fun h0 M2 q => LJ_out h0 q) (fun M2 q => k M2 (LJ_LI q))
theorem wL_count (hL : L < 2 ^ 31) (hi : i + 7 ≤ L) {a1 : Int32} (e1 : xs (i + 1) = a1) {b : Int32} (hk : kk ≤ 3) (h1 : Cn mL_count 9 1 6 none [.ref 8, .int a1, .ref 243] M (zi (nI kk) P)) (hd2 : d2 ≤ 9) (h2 : ∀ M1, P M1 → Cn mX6_count d2 0 0 none [.ref 233, .int a1] M1 (zi b (LJ kk b)) ∧ ∃ fs, M1 233 = some (.inr (6, fs))) (k : ∀ M', LI M' → G (mLaw L xs) 11 kc ks none 28 (lwl (i + 7)) [] M' F) : G (mLaw L xs) 11 (kc + 1) (ks + 6) none 1279 (lwl i) [] M F := by
  subst e1
  exact vL_count hL hi hk h1 hd2 h2 (fun M2 q => LJ_th q) (fun h0 M2 q => LJ_out h0 q) (fun M2 q => k M2 (LJ_LI q))
theorem wL_refusal (hL : L < 2 ^ 31) (hi : i + 7 ≤ L) {a1 a2 a3 a4 a5 : Int32} (e1 : xs (i + 1) = a1) (e2 : xs (i + 2) = a2) (e3 : xs (i + 3) = a3) (e4 : xs (i + 4) = a4) (e5 : xs (i + 5) = a5) {b : Int32} (hk : kk ≤ 3) (h1 : Cn mL_refusal 9 1 6 none [.ref 8, .int a1, .int a2, .int a3, .int a4, .int a5, .ref 243] M (zi (nI kk) P)) (hd2 : d2 ≤ 9) (h2 : ∀ M1, P M1 → Cn mX6_refusal d2 0 0 none [.ref 233, .int a1, .int a2, .int a3, .int a4, .int a5] M1 (zi b (LJ kk b)) ∧ ∃ fs, M1 233 = some (.inr (6, fs))) (k : ∀ M', LI M' → G (mLaw L xs) 11 kc ks none 28 (lwl (i + 7)) [] M' F) : G (mLaw L xs) 11 (kc + 1) (ks + 6) none 1335 (lwl i) [] M F := by
  subst e1 e2 e3 e4 e5
  exact vL_refusal hL hi hk h1 hd2 h2 (fun M2 q => LJ_th q) (fun h0 M2 q => LJ_out h0 q) (fun M2 q => k M2 (LJ_LI q))
theorem wL_price (hL : L < 2 ^ 31) (hi : i + 7 ≤ L) {a1 a2 a3 a4 : Int32} (e1 : xs (i + 1) = a1) (e2 : xs (i + 2) = a2) (e3 : xs (i + 3) = a3) (e4 : xs (i + 4) = a4) {b : Int32} (hk : kk ≤ 3) (h1 : Cn mL_price 9 1 6 none [.ref 8, .int a1, .int a2, .int a3, .int a4, .ref 243] M (zi (nI kk) P)) (hd2 : d2 ≤ 9) (h2 : ∀ M1, P M1 → Cn mX6_price d2 0 0 none [.ref 233, .int a1, .int a2, .int a3, .int a4] M1 (zi b (LJ kk b)) ∧ ∃ fs, M1 233 = some (.inr (6, fs))) (k : ∀ M', LI M' → G (mLaw L xs) 11 kc ks none 28 (lwl (i + 7)) [] M' F) : G (mLaw L xs) 11 (kc + 1) (ks + 6) none 1439 (lwl i) [] M F := by
  subst e1 e2 e3 e4
  exact vL_price hL hi hk h1 hd2 h2 (fun M2 q => LJ_th q) (fun h0 M2 q => LJ_out h0 q) (fun M2 q => k M2 (LJ_LI q))
theorem wL_nextFree (hL : L < 2 ^ 31) (hi : i + 7 ≤ L) {a1 a2 a3 : Int32} (e1 : xs (i + 1) = a1) (e2 : xs (i + 2) = a2) (e3 : xs (i + 3) = a3) {b : Int32} (hk : kk ≤ 3) (h1 : Cn mL_nextFree 9 1 6 none [.ref 8, .int a1, .int a2, .int a3, .ref 243] M (zi (nI kk) P)) (hd2 : d2 ≤ 9) (h2 : ∀ M1, P M1 → Cn mX6_nextFree d2 0 0 none [.ref 233, .int a1, .int a2, .int a3] M1 (zi b (LJ kk b)) ∧ ∃ fs, M1 233 = some (.inr (6, fs))) (k : ∀ M', LI M' → G (mLaw L xs) 11 kc ks none 28 (lwl (i + 7)) [] M' F) : G (mLaw L xs) 11 (kc + 1) (ks + 6) none 1531 (lwl i) [] M F := by
  subst e1 e2 e3
  exact vL_nextFree hL hi hk h1 hd2 h2 (fun M2 q => LJ_th q) (fun h0 M2 q => LJ_out h0 q) (fun M2 q => k M2 (LJ_LI q))
theorem wL_fullness (hL : L < 2 ^ 31) (hi : i + 7 ≤ L) {a1 : Int32} (e1 : xs (i + 1) = a1) {b : UInt64} (hk : kk ≤ 3) (h1 : Cn mL_fullness 9 1 6 none [.ref 8, .int a1, .ref 244] M (zi (nI kk) P)) (hd2 : d2 ≤ 9) (h2 : ∀ M1, P M1 → Cn mX6_fullness d2 0 0 none [.ref 233, .int a1] M1 (zd b (LJd kk b)) ∧ ∃ fs, M1 233 = some (.inr (6, fs))) (k : ∀ M', LI M' → G (mLaw L xs) 11 kc ks none 28 (lwl (i + 7)) [] M' F) : G (mLaw L xs) 11 (kc + 1) (ks + 6) none 1624 (lwl i) [] M F := by
  subst e1
  exact vL_fullness hL hi hk h1 hd2 h2 (fun M2 q => LJd_th q) (fun h0 M2 q => LJd_out h0 q) (fun M2 q => k M2 (LJd_LI q))
end LAWW
