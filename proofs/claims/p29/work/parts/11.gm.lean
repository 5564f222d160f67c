/-! G: memory: fields, arrays, what is made -/
def zu (M : zM) (b : Nat) (e : zE) : zM := fun q => bif Nat.beq q b then some e else M q
theorem zu_s (M : zM) (b : Nat) (e : zE) : zu M b e b = some e := by simp [zu]
theorem zu_n (M : zM) {b q : Nat} (e : zE) (h : q ≠ b) : zu M b e q = M q := by
  unfold zu
  rw [show Nat.beq q b = false from by
    cases hb : Nat.beq q b
    · rfl
    · exact absurd (Nat.eq_of_beq_eq_true hb) h]
  rfl
theorem zu_u (M : zM) (b : Nat) (e f : zE) : zu (zu M b e) b f = zu M b f := by
  funext q
  by_cases h : q = b
  · subst h; rw [zu_s, zu_s]
  · rw [zu_n _ _ h, zu_n _ _ h, zu_n _ _ h]
theorem zu_c (M : zM) {b b' : Nat} (e f : zE) (h : b ≠ b') : zu (zu M b e) b' f = zu (zu M b' f) b e := by
  funext q
  by_cases h1 : q = b'
  · subst h1; rw [zu_s, zu_n _ _ (Ne.symm h), zu_s]
  · by_cases h2 : q = b
    · subst h2; rw [zu_n _ _ h1, zu_s, zu_s]
    · rw [zu_n _ _ h1, zu_n _ _ h2, zu_n _ _ h2, zu_n _ _ h1]
theorem zu_id {M : zM} {b : Nat} {e : zE} (h : M b = some e) : zu M b e = M := by
  funext q
  by_cases h1 : q = b
  · subst h1; rw [zu_s, h]
  · rw [zu_n _ _ h1]
theorem z_one {D : va_G} {cl : List vw_C} {q : Nat × va_E} {H : Heap} (h : va_at D cl q H) : va_P D cl [q] H := fun k x hk => by
  have hz : k < 1 := (List.getElem?_eq_some_iff.mp hk).1
  rw [show k = 0 by omega] at hk
  cases hk
  exact h
theorem z_R.upd {g : zG} {M : zM} {H H1 : Heap} {b : Nat} {e : zE} (h : z_R g M H) (hM : M b ≠ none) (h1 : va_at g.2.1 vwCl (g.1 b, z_e g e) H1) (oq : ∀ q : Nat, q ≠ g.1 b → H1[q]? = H[q]?) : z_R g (zu M b e) H1 := by
  have dom : ∀ v, zu M b e v ≠ none → M v ≠ none := fun v hv => by
    by_cases hb : v = b
    · subst hb; exact hM
    · rwa [zu_n _ _ hb] at hv
  refine ⟨fun v f hv => ?_, fun v w h2 h3 h4 => h.2 v w (dom v h2) (dom w h3) h4⟩
  by_cases hb : v = b
  · subst hb
    rw [zu_s] at hv
    cases hv
    exact h1
  · rw [zu_n _ _ hb] at hv
    exact (h.1 v f hv).kept (oq _ (fun e9 => hb (h.2 v b (by rw [hv]; exact fun z => by cases z) hM e9)))
theorem z_N.upd {g : zG} {nx : Option Nat} {M : zM} {H H1 : Heap} {b : Nat} {e : zE} (h : z_N g nx M H) (hM : M b ≠ none) (z : H1.size = H.size) : z_N g nx (zu M b e) H1 := by
  intro n hn
  obtain ⟨h1, h2⟩ := h n hn
  refine ⟨h1, fun v hv => ⟨by rw [z]; exact (h2 v hv).1, ?_⟩⟩
  rw [zu_n]
  · exact (h2 v hv).2
  · intro e9
    subst e9
    exact hM (h2 v hv).2
theorem z_new {g : zG} {M : zM} {H H1 : Heap} {n : Nat} {e : zE} (h : z_R g M H) (hN : z_N g (some n) M H) (h1 : va_at g.2.1 vwCl (g.1 n, z_e g e) H1) (o1 : ∀ q : Nat, q < H.size → H1[q]? = H[q]?) (z : H1.size = H.size + 1) : z_R g (zu M n e) H1 ∧ z_N g (some (n + 1)) (zu M n e) H1 := by
  obtain ⟨hn8, hN⟩ := hN n rfl
  have hn : g.1 n = H.size := by have := (hN n (Nat.le_refl _)).1; omega
  have lt : ∀ v, M v ≠ none → g.1 v < H.size := fun v hv => by
    cases hc : M v with
    | none => exact absurd hc hv
    | some f => exact (h.1 v f hc).lt
  refine ⟨⟨fun v f hv => ?_, fun v w h2 h3 h4 => ?_⟩, fun n' hn' => ?_⟩
  · by_cases hb : v = n
    · subst hb
      rw [zu_s] at hv
      cases hv
      exact h1
    · rw [zu_n _ _ hb] at hv
      exact (h.1 v f hv).kept (o1 _ (h.1 v f hv).lt)
  · by_cases hv : v = n
    · by_cases hw : w = n
      · rw [hv, hw]
      · rw [zu_n _ _ hw] at h3
        have := lt w h3
        rw [← h4, hv, hn] at this
        omega
    · rw [zu_n _ _ hv] at h2
      by_cases hw : w = n
      · have := lt v h2
        rw [h4, hw, hn] at this
        omega
      · rw [zu_n _ _ hw] at h3
        exact h.2 v w h2 h3 h4
  · cases hn'
    refine ⟨by omega, fun v hv => ⟨by have := (hN v (by omega)).1; omega, ?_⟩⟩
    rw [zu_n _ _ (by omega)]
    exact (hN v (by omega)).2
def z_cl (r : vw_C) : Prop := (∀ w ∈ u_ws r.1 r.2.1 r.2.2, w ∈ SW) ∧ ∃ ty0 : Nat → FieldType, (∀ k, k < r.2.2 → parseFieldDescriptor (r.2.1 k).2.2.1 = some (ty0 k)) ∧ ∀ a, a < r.2.2 → ∀ b, b < r.2.2 → a ≠ b → (r.2.1 a).2.1 ≠ (r.2.1 b).2.1
theorem z_cls : ∀ {ci : Nat} {r : vw_C}, vwCl[ci]? = some r → z_cl r
  | 0, _, h => by cases h; exact ⟨iwX0, tyX0, tyX0_ok, nmX0⟩
  | 1, _, h => by cases h; exact ⟨iwX1, tyX1, tyX1_ok, nmX1⟩
  | 2, _, h => by cases h; exact ⟨iwX2, tyX2, tyX2_ok, nmX2⟩
  | 3, _, h => by cases h; exact ⟨iwX3, tyX3, tyX3_ok, nmX3⟩
  | 4, _, h => by cases h; exact ⟨iwX4, tyX4, tyX4_ok, nmX4⟩
  | 5, _, h => by cases h; exact ⟨iwX5, tyX5, tyX5_ok, nmX5⟩
  | n + 6, _, h => by simp [vwCl] at h
/-- a field by its link: class, place, type, final -/
def zLF (own : String) (idx ci k : Nat) (ty : FieldType) (fin : Bool) (r : vw_C) : Prop :=
  vwCl[ci]? = some r ∧ k < r.2.2 ∧ Cond.fieldLink own idx r.1 (r.2.1 k).2.1 (r.2.1 k).2.2.1 ∈ SW ∧ (r.2.1 k).1 = r.1 ∧ parseFieldDescriptor (r.2.1 k).2.2.1 = some ty ∧ (r.2.1 k).2.2.2 = fin
theorem z_fits {ty : FieldType} {v : Value} (r : Nat → Nat) (h : fits ty v = true) : fits ty (z_v r v) = true := by cases v <;> first | exact h | (cases ty <;> first | exact h | (simp [fits] at h))
theorem z_narrow {ty : FieldType} {v : Value} (r : Nat → Nat) (h : narrow ty v = v) : narrow ty (z_v r v) = z_v r v := by cases v <;> first | exact h | (cases ty <;> rfl)
section GM
variable {p : Program} {l : Launch} {e : Env} {R : Room} {s : State} {m : MethodId} {args : Array Value} {below : List Frame} {meth : Method} {c : Code} {H : Heap} {locs : List Loc} {cells slots : Nat} {Q : State → Prop}
variable {cc : ByteArray} {pc : Nat} {ls : Array Slot} {rest : List Value} {D : va_G} {cl : List vw_C} {A : Nat → Prop} {a : Nat} {tys : List (ClassId × FieldType)} {H0 : Heap}
theorem zz_put (hexec : p.tables.exec = Jvm.exec) (hb : c.code = cc) {own ref C : String} {T : u_T} {N ci index : Nat} {Ts : List Cond} (hts : ∀ w ∈ Ts, w.before args s = true) (hin : ∀ w ∈ u_ws C T N, w ∈ Ts) (ty0 : Nat → FieldType) (hty : ∀ k, k < N → parseFieldDescriptor (T k).2.2.1 = some (ty0 k)) (hnm : ∀ a, a < N → ∀ b, b < N → a ≠ b → (T a).2.1 ≠ (T b).2.1) (hown : s.vm.findClass own = some m.cls) (hK : va_K D cl tys s) {fs : List Value} (hP : va_at D cl (a, .inr (ci, fs)) H) (hS0 : va_S A H0 H locs) (hAa : A a) (hc : cl[ci]? = some (C, T, N)) (k : Nat) (hk : k < N) (hlink : (Cond.fieldLink own index ref (T k).2.1 (T k).2.2.1).before args s = true) (hsame : ∀ x, s.fieldFound? (T k).1 (T k).2.1 (T k).2.2.1 = some x → s.fieldFound? ref (T k).2.1 (T k).2.2.1 = some x) (hfin : (T k).2.2.2 = false) {ty : FieldType} {v : Value} (hd : parseFieldDescriptor (T k).2.2.1 = some ty) (hn : narrow ty v = v) (hfit : fits ty v = true) (hl : k < fs.length)
    (hdg : decode cc pc = .ok (.putfield index, 3)) (kk : ∀ (H1 : Heap) (locs1 : List Loc), va_at D cl (a, .inr (ci, fs.set k v)) H1 → H1.size = H.size → (∀ q : Nat, q ≠ a → H1[q]? = H[q]?) → va_S A H0 H1 locs1 → W p l e R s m args below meth c H1 locs1 cells slots Q (F0 m (pc + 3) ls rest)) : W p l e R s m args below meth c H locs cells slots Q (F0 m pc ls (v :: .ref a :: rest)) := by
  have hap := va_apart (own := own) hts hin ty0 hty hnm hK hc
  obtain ⟨r, h1, cell, q1, q2, q3, q4⟩ := hP
  have hr : r = (C, T, N) := Option.some.inj (h1.symm.trans hc)
  subst hr
  obtain ⟨hS, hfc, kC, hkC, hkind⟩ := hK.1 ci _ hc
  obtain ⟨cf, kf, fi, f, hi, hsl⟩ := hS k hk
  have hlay := hts _ (hin _ (u_in_lay hk))
  unfold u_lay at hlay
  rw [if_neg (by rw [hfin]; decide)] at hlay
  have hst := (u_facts hfc hkC (u_lays hts hin hk) hi).1
  have h6 := u_store hfc hkC hkind hlay hi hd hn hfit
  refine W.putK hexec hb (f := f) ⟨hown, hlink, ⟨_, _, _, hsame _ hi⟩, hst⟩ (by rw [q2]; exact h6) q1 q3 (by rw [hsl]; exact k2_hasslot (q4 k hk)) rfl rfl hdg fun H' e1 e2 e3 => ?_
  rw [hsl] at e1 ⊢
  exact kk H' _ ⟨_, hc, t_OB.to (V := updV (vp_V fs) k v) ⟨_, e1, q2, q3, t_set q4 hap hk v⟩ (fun j _ => vp_updV_set hl v j)⟩ e2 e3 (hS0.put e2 e3 hAa)
theorem zz_putF (hexec : p.tables.exec = Jvm.exec) (hb : c.code = cc) {own ref C : String} {T : u_T} {N ci index : Nat} {Ts : List Cond} (hts : ∀ w ∈ Ts, w.before args s = true) (hin : ∀ w ∈ u_ws C T N, w ∈ Ts) (ty0 : Nat → FieldType) (hty : ∀ k, k < N → parseFieldDescriptor (T k).2.2.1 = some (ty0 k)) (hnm : ∀ a, a < N → ∀ b, b < N → a ≠ b → (T a).2.1 ≠ (T b).2.1) (hown : s.vm.findClass own = some m.cls) (hK : va_K D cl tys s) {fs : List Value} (hP : va_at D cl (a, .inr (ci, fs)) H) (hS0 : va_S A H0 H locs) (hAa : A a) (hc : cl[ci]? = some (C, T, N)) (k : Nat) (hk : k < N) (hlink : (Cond.fieldLink own index ref (T k).2.1 (T k).2.2.1).before args s = true) (hsame : ∀ x, s.fieldFound? (T k).1 (T k).2.1 (T k).2.2.1 = some x → s.fieldFound? ref (T k).2.1 (T k).2.2.1 = some x) (hfin : (T k).2.2.2 = true) (hin2 : meth.name = "<init>") (hdecl : (T k).1 = own) {ty : FieldType} {v : Value} (hd : parseFieldDescriptor (T k).2.2.1 = some ty) (hn : narrow ty v = v) (hfit : fits ty v = true) (hl : k < fs.length)
    (hdg : decode cc pc = .ok (.putfield index, 3)) (kk : ∀ (H1 : Heap) (locs1 : List Loc), va_at D cl (a, .inr (ci, fs.set k v)) H1 → H1.size = H.size → (∀ q : Nat, q ≠ a → H1[q]? = H[q]?) → va_S A H0 H1 locs1 → W p l e R s m args below meth c H1 locs1 cells slots Q (F0 m (pc + 3) ls rest)) : W p l e R s m args below meth c H locs cells slots Q (F0 m pc ls (v :: .ref a :: rest)) := by
  have hap := va_apart (own := own) hts hin ty0 hty hnm hK hc
  obtain ⟨r, h1, cell, q1, q2, q3, q4⟩ := hP
  have hr : r = (C, T, N) := Option.some.inj (h1.symm.trans hc)
  subst hr
  obtain ⟨hS, hfc, kC, hkC, hkind⟩ := hK.1 ci _ hc
  obtain ⟨cf, kf, fi, f, hi, hsl⟩ := hS k hk
  have hlay := hts _ (hin _ (u_in_lay hk))
  unfold u_lay at hlay
  rw [if_pos hfin] at hlay
  have hst := (u_facts hfc hkC (u_lays hts hin hk) hi).1
  have hcf : m.cls = cf := by
    obtain ⟨_, _, c', _, _, _, -, -, hf', -, -, -, hown2, -⟩ := Cond.laysFinal_spec hlay
    have e1 : c' = cf := by have := hi.symm.trans hf'; simp at this; exact this.1.symm
    rw [hdecl] at hown2
    rw [← e1]; exact Option.some.inj (hown.symm.trans hown2)
  have h6 := u_fits hfc hkC hkind (Or.inr hlay) hi hd hn hfit
  refine W.putFinK hexec hb hown hlink (hsame _ hi) hst hcf hin2 (by rw [q2]; exact h6) q1 q3 (by rw [hsl]; exact k2_hasslot (q4 k hk)) rfl rfl hdg fun H' e1 e2 e3 => ?_
  rw [hsl] at e1 ⊢
  exact kk H' _ ⟨_, hc, t_OB.to (V := updV (vp_V fs) k v) ⟨_, e1, q2, q3, t_set q4 hap hk v⟩ (fun j _ => vp_updV_set hl v j)⟩ e2 e3 (hS0.put e2 e3 hAa)
theorem zz_iast (hexec : p.tables.exec = Jvm.exec) (hb : c.code = cc) (hS : va_S A H0 H locs) (hAa : A a) {cA : ClassId} {n : Nat} {f : Nat → Int32} (ha : H[a]? = some (vp_cell cA (n, .inl f))) (ht : ArrOfT s cA .int) {i : Int32} {x : Int32} (hin : vp_in i n) (hdg : decode cc pc = .ok (.iastore, 1))
    (kk : ∀ (H1 : Heap) (locs1 : List Loc), H1[a]? = some (vp_cell cA (n, .inl (upd f i.toNatClampNeg x))) → H1.size = H.size → (∀ q : Nat, q ≠ a → H1[q]? = H[q]?) → va_S A H0 H1 locs1 → W p l e R s m args below meth c H1 locs1 cells slots Q (F0 m (pc + 1) ls rest)) : W p l e R s m args below meth c H locs cells slots Q (F0 m pc ls (.int x :: .int i :: .ref a :: rest)) := by
  refine W.iast hexec hb ha (ht n (fun j => .int (f j))) (fun q => by cases q) (by show ¬ (i < 0 ∨ (arrV _ _ _).slots.size ≤ _); rw [arrV_size]; exact hin) rfl rfl hdg fun H1 e z oq => ?_
  refine kk H1 _ ?_ z oq (hS.put z oq hAa)
  rw [e]
  rw [vp_cell_i, vp_cell_i, arrV_store]
  congr 2
  funext q
  by_cases hq : q = i.toNatClampNeg
  · subst hq
    simp [updV, upd]
  · simp [updV, upd, hq]
theorem zz_last (hexec : p.tables.exec = Jvm.exec) (hb : c.code = cc) (hS : va_S A H0 H locs) (hAa : A a) {cA : ClassId} {n : Nat} {f : Nat → Int64} (ha : H[a]? = some (vp_cell cA (n, .inr (.inl f)))) (ht : ArrOfT s cA .long) {i : Int32} {x : Int64} (hin : vp_in i n) (hdg : decode cc pc = .ok (.lastore, 1))
    (kk : ∀ (H1 : Heap) (locs1 : List Loc), H1[a]? = some (vp_cell cA (n, .inr (.inl (vp_updL f i.toNatClampNeg x)))) → H1.size = H.size → (∀ q : Nat, q ≠ a → H1[q]? = H[q]?) → va_S A H0 H1 locs1 → W p l e R s m args below meth c H1 locs1 cells slots Q (F0 m (pc + 1) ls rest)) : W p l e R s m args below meth c H locs cells slots Q (F0 m pc ls (.long x :: .int i :: .ref a :: rest)) := by
  refine W.last hexec hb ha (ht n (fun j => .long (f j))) (fun q => by cases q) (by show ¬ (i < 0 ∨ (arrV _ _ _).slots.size ≤ _); rw [arrV_size]; exact hin) rfl rfl hdg fun H1 e z oq => ?_
  refine kk H1 _ ?_ z oq (hS.put z oq hAa)
  rw [e]
  rw [vp_cell_l, vp_cell_l, arrV_store]
  congr 2
  funext q
  by_cases hq : q = i.toNatClampNeg
  · subst hq
    simp [updV, vp_updL]
  · simp [updV, vp_updL, hq]
theorem zz_dast (hexec : p.tables.exec = Jvm.exec) (hb : c.code = cc) (hS : va_S A H0 H locs) (hAa : A a) {cA : ClassId} {n : Nat} {f : Nat → UInt64} (ha : H[a]? = some (vp_cell cA (n, .inr (.inr (.inr (.inl f)))))) (ht : ArrOfT s cA .double) {i : Int32} {x : UInt64} (hin : vp_in i n) (hdg : decode cc pc = .ok (.dastore, 1))
    (kk : ∀ (H1 : Heap) (locs1 : List Loc), H1[a]? = some (vp_cell cA (n, .inr (.inr (.inr (.inl (va_up f i.toNatClampNeg x)))))) → H1.size = H.size → (∀ q : Nat, q ≠ a → H1[q]? = H[q]?) → va_S A H0 H1 locs1 → W p l e R s m args below meth c H1 locs1 cells slots Q (F0 m (pc + 1) ls rest)) : W p l e R s m args below meth c H locs cells slots Q (F0 m pc ls (.double x :: .int i :: .ref a :: rest)) := by
  refine W.dast hexec hb ha (ht n (fun j => .double (f j))) (fun q => by cases q) (by show ¬ (i < 0 ∨ (arrV _ _ _).slots.size ≤ _); rw [arrV_size]; exact hin) rfl rfl hdg fun H1 e z oq => ?_
  refine kk H1 _ ?_ z oq (hS.put z oq hAa)
  rw [e]
  rw [vp_cell_d, vp_cell_d, arrV_store]
  congr 2
  funext q
  by_cases hq : q = i.toNatClampNeg
  · subst hq
    simp [updV, va_up]
  · simp [updV, va_up, hq]
theorem zz_aast (hexec : p.tables.exec = Jvm.exec) (hb : c.code = cc) (hK : va_K D cl tys s) (hS : va_S A H0 H locs) (hAa : A a) (t0 ci : Nat) {cA : ClassId} {r : vw_C} {n v : Nat} {vs : List Value} {f : Nat → Option Nat} (ha : H[a]? = some (vp_cell cA (n, .inr (.inr (.inr (.inr f)))))) (ht : tys[t0]? = some (cA, .object r.1)) (hv : va_at D cl (v, .inr (ci, vs)) H) (hc : cl[ci]? = some r) {i : Int32} (hin : vp_in i n) (hdg : decode cc pc = .ok (.aastore, 1))
    (kk : ∀ (H1 : Heap) (locs1 : List Loc), H1[a]? = some (vp_cell cA (n, .inr (.inr (.inr (.inr (va_up f i.toNatClampNeg (some v))))))) → H1.size = H.size → (∀ q : Nat, q ≠ a → H1[q]? = H[q]?) → va_S A H0 H1 locs1 → W p l e R s m args below meth c H1 locs1 cells slots Q (F0 m (pc + 1) ls rest)) : W p l e R s m args below meth c H locs cells slots Q (F0 m pc ls (.ref v :: .int i :: .ref a :: rest)) := by
  have hlt : i.toNatClampNeg < n := Nat.not_le.mp fun q => hin (Or.inr q)
  have h0 : ¬ i < 0 := fun q => hin (Or.inl q)
  obtain ⟨r', hr', cellV, g1, g2, g3, -⟩ := hv
  have hcls := (hK.1 ci r hc).2
  obtain ⟨kA, comp, k1, k2, k3, -⟩ := (hK.2 t0 _ ht).2
  have hcomp : comp = D.1 ci := Option.some.inj (k3.symm.trans hcls.1)
  subst hcomp
  obtain ⟨kC, hkC, -⟩ := hcls.2
  refine W.aast hexec hb ha (fun q h => by cases h) (fun h => by cases h) k1 k2 rfl hkC ⟨h0, by show _ < (arrV _ _ _).slots.size; rw [arrV_size]; exact hlt⟩ g1 (fun q h => by rw [g3] at h; cases h) (by rw [g2]; exact hkC) (by rw [g2]; exact va_assign hcls) rfl rfl hdg fun H1 e z oq => ?_
  refine kk H1 _ ?_ z oq (hS.put z oq hAa)
  rw [e]
  rw [vp_cell_q, vp_cell_q, arrV_store]
  congr 2
  funext q
  by_cases hq : q = i.toNatClampNeg
  · subst hq
    simp [updV, va_up, va_rf]
  · simp [updV, va_up, hq]
theorem zz_new {c0 : Code} (hexec : p.tables.exec = Jvm.exec) (hb : c0.code = cc) {own C : String} {T : u_T} {N ci index : Nat} {Ts : List Cond} (hts : ∀ w ∈ Ts, w.before args s = true) (hin : ∀ w ∈ u_ws C T N, w ∈ Ts) (ty : Nat → FieldType) (hty : ∀ k, k < N → parseFieldDescriptor (T k).2.2.1 = some (ty k)) (hown : s.vm.findClass own = some m.cls) (hcl : (Cond.classLink own index C).before args s = true) (hinst : (Cond.instantiable C N).before args s = true) (hini : (Cond.initialized C).before args s = true)
    (hK : va_K D cl tys s) (hS : va_S A H0 H locs) (hc : cl[ci]? = some (C, T, N)) {fs : List Value} (hfs : ∀ j, j < N → defaultValue (ty j) = vp_V fs j) (hcells : cells + 1 ≤ R.cells) (hslots : slots + N ≤ R.slots) (hdg : decode cc pc = .ok (.new index, 3))
    (kk : ∀ (H1 : Heap), va_at D cl (H.size, .inr (ci, fs)) H1 → H1.size = H.size + 1 → (∀ q : Nat, q < H.size → H1[q]? = H[q]?) → va_S A H0 H1 locs →
      W p l e R s m args below meth c0 H1 locs (cells + 1) (slots + N) Q (F0 m (pc + 3) ls (.ref H.size :: rest))) : W p l e R s m args below meth c0 H locs cells slots Q (F0 m pc ls rest) := by
  have hKn := hK.1 ci _ hc
  refine W.newcK hexec hb hown hcl hinst hini rfl hdg hcells hslots hKn.2.1 rfl fun H1 kC hkC e1 z1 o1 => ?_
  exact kk H1 ⟨_, hc, (u_born ty hts hin hKn hkC e1 hty).to hfs⟩ z1 o1 ⟨Nat.le_trans hS.1 (by omega), fun x h1 h2 => (o1 x (Nat.lt_of_lt_of_le h1 hS.1)).trans (hS.2.1 x h1 h2), hS.2.2⟩
theorem zz_anew (hexec : p.tables.exec = Jvm.exec) (hb : c.code = cc) {own C : String} {index : Nat} (hown : s.vm.findClass own = some m.cls) (hclink : (Cond.classLink own index C).before args s = true) (hover : va_AO C s) (hS : va_S A H0 H locs) {cA : ClassId} (hcA : va_RA s cA (.object C))
    {n : Int32} {N' : Nat} (hn : ¬ n < 0) (hN : n.toNatClampNeg = N') (hbytes : N' * 4 ≤ 536870912) (hcells : cells + 1 ≤ R.cells) (hslots : slots + N' ≤ R.slots) (hdg : decode cc pc = .ok (.anewarray index, 3))
    (kk : ∀ (H1 : Heap), H1[H.size]? = some (vp_cell cA (N', .inr (.inr (.inr (.inr (fun _ => none)))))) → H1.size = H.size + 1 → (∀ q : Nat, q < H.size → H1[q]? = H[q]?) → va_S A H0 H1 locs →
      W p l e R s m args below meth c H1 locs (cells + 1) (slots + N') Q (F0 m (pc + 3) ls (.ref H.size :: rest))) : W p l e R s m args below meth c H locs cells slots Q (F0 m pc ls (.int n :: rest)) := by
  subst hN
  refine W.anew hexec hb hown hclink (va_AO.use hover) rfl hdg rfl hn hbytes hcells hslots fun cA' kA comp f1 f2 f3 f4 => ?_
  obtain ⟨kA9, comp9, k1, k2, k3, k4⟩ := hcA
  have hce : cA' = cA := Option.some.inj (f1.symm.trans k4)
  subst hce
  generalize hH1 : H.push ({ cls := cA', slots := Array.replicate n.toNatClampNeg .null, vm := .none } : Cell) = H1
  have z1 : H1.size = H.size + 1 := by rw [← hH1, Array.size_push]
  have e1 : H1[H.size]? = some (arrV cA' n.toNatClampNeg (fun _ => .null)) := by rw [← hH1, Array.getElem?_push_size, ← arrV_new]
  have o1 : ∀ q : Nat, q < H.size → H1[q]? = H[q]? := fun q hq => by rw [← hH1, Array.getElem?_push, if_neg (Nat.ne_of_lt hq)]
  exact kk H1 e1 z1 o1 ⟨Nat.le_trans hS.1 (by omega), fun x h1 h2 => (o1 x (Nat.lt_of_lt_of_le h1 hS.1)).trans (hS.2.1 x h1 h2), hS.2.2⟩
end GM
section GN
variable {mi : zI} {d kc ks : Nat} {nx : Option Nat} {pc : Nat} {L : List (Nat × Value)} {S : List Value} {M : zM} {F : zP}
theorem g_get {idx ci k b : Nat} {ty : FieldType} {fin : Bool} {r : vw_C} {fs : List Value} {v : Value} (hf : zLF mi.2.1 idx ci k ty fin r) (hd : decode mi.2.2.1 pc = .ok (.getfield idx, 3)) (hM : M b = some (.inr (ci, fs))) (hv : fs[k]? = some v) (kk : G mi d kc ks nx (pc + 3) L (v :: S) M F) : G mi d kc ks nx pc L (.ref b :: S) M F := by
  intro l p e R s m args below meth c g mc ms C H locs cells slots ls X
  obtain ⟨h1, h2, h3, h4, h5, h6⟩ := hf
  have hts := C.2.2.2.2.2.2.2.1
  exact va_get (D := g.2.1) (ci := ci) (C := r.1) (T := r.2.1) (N := r.2.2) (ref := r.1) C.1 C.2.1 hts (z_cls h1).1 C.2.2.2.2.2.2.1 C.2.2.2.2.2.2.2.2.2.1.1 (z_one (X.1.1 _ _ hM)) 0 rfl h1 k h2 (hts _ h3) (fun x hx => by rw [h4] at hx; exact hx) (v := z_v g.1 v) (by rw [List.getElem?_map, hv]; rfl) hd (kk l p e R s m args below meth c g mc ms C H locs cells slots ls X)
theorem g_put {idx ci k b : Nat} {ty : FieldType} {r : vw_C} {fs : List Value} {v : Value} (hf : zLF mi.2.1 idx ci k ty false r) (hd : decode mi.2.2.1 pc = .ok (.putfield idx, 3)) (hM : M b = some (.inr (ci, fs))) (hk : k < fs.length) (hn : narrow ty v = v) (hfit : fits ty v = true) (hb : 8 ≤ b) (kk : G mi d kc ks nx (pc + 3) L S (zu M b (.inr (ci, fs.set k v))) F) : G mi d kc ks nx pc L (v :: .ref b :: S) M F := by
  intro l p e R s m args below meth c g mc ms C H locs cells slots ls X
  obtain ⟨h1, h2, h3, h4, h5, h6⟩ := hf
  have hts := C.2.2.2.2.2.2.2.1
  obtain ⟨i1, ty0, i2, i3⟩ := z_cls h1
  have hMn : M b ≠ none := by rw [hM]; exact fun z => by cases z
  refine zz_put (D := g.2.1) (ci := ci) (C := r.1) (T := r.2.1) (N := r.2.2) (ref := r.1) (A := z_A g) C.1 C.2.1 hts i1 ty0 i2 i3 C.2.2.2.2.2.2.1 C.2.2.2.2.2.2.2.2.2.1.1 (X.1.1 _ _ hM) X.2.2.1 (C.2.2.2.2.2.2.2.2.2.2.1 b hb) h1 k h2 (hts _ h3) (fun x hx => by rw [h4] at hx; exact hx) h6 h5 (z_narrow g.1 hn) (z_fits g.1 hfit) (by rw [List.length_map]; exact hk) hd (fun H1 locs1 a1 z1 o1 s1 => ?_)
  rw [← List.map_set] at a1
  exact kk l p e R s m args below meth c g mc ms C H1 locs1 cells slots ls ⟨X.1.upd hMn a1 o1, X.2.1.upd hMn z1, s1, X.2.2.2.1, X.2.2.2.2⟩
theorem g_putF {idx ci k b : Nat} {ty : FieldType} {r : vw_C} {fs : List Value} {v : Value} (hf : zLF mi.2.1 idx ci k ty true r) (hi : (mi.1.name, mi.2.2.2.2.2.2) = ("<init>", none) ∧ r.1 = mi.2.1) (hd : decode mi.2.2.1 pc = .ok (.putfield idx, 3)) (hM : M b = some (.inr (ci, fs))) (hk : k < fs.length) (hn : narrow ty v = v) (hfit : fits ty v = true) (hb : 8 ≤ b) (kk : G mi d kc ks nx (pc + 3) L S (zu M b (.inr (ci, fs.set k v))) F) : G mi d kc ks nx pc L (v :: .ref b :: S) M F := by
  intro l p e R s m args below meth c g mc ms C H locs cells slots ls X
  obtain ⟨h1, h2, h3, h4, h5, h6⟩ := hf
  have hts := C.2.2.2.2.2.2.2.1
  obtain ⟨i1, ty0, i2, i3⟩ := z_cls h1
  have hMn : M b ≠ none := by rw [hM]; exact fun z => by cases z
  refine zz_putF (D := g.2.1) (ci := ci) (C := r.1) (T := r.2.1) (N := r.2.2) (ref := r.1) (A := z_A g) C.1 C.2.1 hts i1 ty0 i2 i3 C.2.2.2.2.2.2.1 C.2.2.2.2.2.2.2.2.2.1.1 (X.1.1 _ _ hM) X.2.2.1 (C.2.2.2.2.2.2.2.2.2.2.1 b hb) h1 k h2 (hts _ h3) (fun x hx => by rw [h4] at hx; exact hx) h6 ((C.2.2.2.2.2.2.2.2.1.1 (Prod.mk.inj hi.1).2).trans (Prod.mk.inj hi.1).1) (h4.trans hi.2) h5 (z_narrow g.1 hn) (z_fits g.1 hfit) (by rw [List.length_map]; exact hk) hd (fun H1 locs1 a1 z1 o1 s1 => ?_)
  rw [← List.map_set] at a1
  exact kk l p e R s m args below meth c g mc ms C H1 locs1 cells slots ls ⟨X.1.upd hMn a1 o1, X.2.1.upd hMn z1, s1, X.2.2.2.1, X.2.2.2.2⟩
theorem g_iald {b n : Nat} {f : Nat → Int32} {i : Int32} (hd : decode mi.2.2.1 pc = .ok (.iaload, 1)) (hM : M b = some (.inl (0, n, .inl f))) (hin : vp_in i n) (kk : G mi d kc ks nx (pc + 1) L (.int (f i.toNatClampNeg) :: S) M F) : G mi d kc ks nx pc L (.int i :: .ref b :: S) M F := by
  intro l p e R s m args below meth c g mc ms C H locs cells slots ls X
  exact va_iald (tys := z_tys g) C.1 C.2.1 C.2.2.2.2.2.2.2.2.2.1.1 (z_one (X.1.1 _ _ hM)) 0 0 rfl rfl hin hd (kk l p e R s m args below meth c g mc ms C H locs cells slots ls X)
theorem g_aald {b n t v : Nat} {f : Nat → Option Nat} {i : Int32} {C0 : String} (hd : decode mi.2.2.1 pc = .ok (.aaload, 1)) (ht : ∀ g : zG, (z_tys g)[t]? = some (g.2.2.1 t, .object C0)) (hM : M b = some (.inl (t, n, .inr (.inr (.inr (.inr f)))))) (hin : vp_in i n) (hv : f i.toNatClampNeg = some v) (kk : G mi d kc ks nx (pc + 1) L (.ref v :: S) M F) : G mi d kc ks nx pc L (.int i :: .ref b :: S) M F := by
  intro l p e R s m args below meth c g mc ms C H locs cells slots ls X
  refine va_aldq (tys := z_tys g) C.1 C.2.1 C.2.2.2.2.2.2.2.2.2.1.1 (z_one (X.1.1 _ _ hM)) 0 t rfl (ht g) hin hd ?_
  have := kk l p e R s m args below meth c g mc ms C H locs cells slots ls X
  simp only [hv]
  exact this
theorem g_alen {b t : Nat} {x : vp_A} {ty : FieldType} {v : Int32} (hd : decode mi.2.2.1 pc = .ok (.arraylength, 1)) (ht : ∀ g : zG, (z_tys g)[t]? = some (g.2.2.1 t, ty)) (hM : M b = some (.inl (t, x))) (hv : Int32.ofNat x.1 = v) (kk : G mi d kc ks nx (pc + 1) L (.int v :: S) M F) : G mi d kc ks nx pc L (.ref b :: S) M F := by
  intro l p e R s m args below meth c g mc ms C H locs cells slots ls X
  exact va_alen (tys := z_tys g) C.1 C.2.1 C.2.2.2.2.2.2.2.2.2.1.1 (z_one (X.1.1 _ _ hM)) 0 t rfl (ht g) (by rw [z_a_1]; exact hv) hd (kk l p e R s m args below meth c g mc ms C H locs cells slots ls X)
theorem g_iast {b n : Nat} {f : Nat → Int32} {i x : Int32} (hd : decode mi.2.2.1 pc = .ok (.iastore, 1)) (hM : M b = some (.inl (0, n, .inl f))) (hin : vp_in i n) (hb : 8 ≤ b) (kk : G mi d kc ks nx (pc + 1) L S (zu M b (.inl (0, n, .inl (upd f i.toNatClampNeg x)))) F) : G mi d kc ks nx pc L (.int x :: .int i :: .ref b :: S) M F := by
  intro l p e R s m args below meth c g mc ms C H locs cells slots ls X
  have hMn : M b ≠ none := by rw [hM]; exact fun z => by cases z
  exact zz_iast (A := z_A g) C.1 C.2.1 X.2.2.1 (C.2.2.2.2.2.2.2.2.2.2.1 b hb) (X.1.1 _ _ hM) (C.2.2.2.2.2.2.2.2.2.1.1.2 0 _ rfl).1 hin hd (fun H1 locs1 a1 z1 o1 s1 => kk l p e R s m args below meth c g mc ms C H1 locs1 cells slots ls ⟨X.1.upd hMn a1 o1, X.2.1.upd hMn z1, s1, X.2.2.2.1, X.2.2.2.2⟩)
theorem g_aast {b n t v ci : Nat} {f : Nat → Option Nat} {i : Int32} {r : vw_C} {vs : List Value} (hd : decode mi.2.2.1 pc = .ok (.aastore, 1)) (ht : ∀ g : zG, (z_tys g)[t]? = some (g.2.2.1 t, .object r.1)) (hM : M b = some (.inl (t, n, .inr (.inr (.inr (.inr f)))))) (hv : M v = some (.inr (ci, vs))) (hc : vwCl[ci]? = some r) (hin : vp_in i n) (hb : 8 ≤ b) (kk : G mi d kc ks nx (pc + 1) L S (zu M b (.inl (t, n, .inr (.inr (.inr (.inr (va_up f i.toNatClampNeg (some v)))))))) F) : G mi d kc ks nx pc L (.ref v :: .int i :: .ref b :: S) M F := by
  intro l p e R s m args below meth c g mc ms C H locs cells slots ls X
  have hMn : M b ≠ none := by rw [hM]; exact fun z => by cases z
  refine zz_aast (A := z_A g) C.1 C.2.1 C.2.2.2.2.2.2.2.2.2.1.1 X.2.2.1 (C.2.2.2.2.2.2.2.2.2.2.1 b hb) t ci (X.1.1 _ _ hM) (ht g) (X.1.1 _ _ hv) hc hin hd (fun H1 locs1 a1 z1 o1 s1 => ?_)
  refine kk l p e R s m args below meth c g mc ms C H1 locs1 cells slots ls ⟨X.1.upd hMn ?_ o1, X.2.1.upd hMn z1, s1, X.2.2.2.1, X.2.2.2.2⟩
  show H1[g.1 b]? = some (vp_cell (g.2.2.1 t) (n, .inr (.inr (.inr (.inr (fun j => (va_up f i.toNatClampNeg (some v) j).map g.1))))))
  have hf : va_up (fun j => (f j).map g.1) i.toNatClampNeg (some (g.1 v)) = fun j => (va_up f i.toNatClampNeg (some v) j).map g.1 := by
    funext j
    by_cases hj : j = i.toNatClampNeg <;> simp [va_up, hj]
  rw [a1, hf]
theorem g_new {idx ci n kc1 ks1 : Nat} {r : vw_C} {fs : List Value} (hc : vwCl[ci]? = some r) (h1 : Cond.classLink mi.2.1 idx r.1 ∈ SW) (h2 : Cond.instantiable r.1 r.2.2 ∈ SW) (h3 : Cond.initialized r.1 ∈ SW) (hd : decode mi.2.2.1 pc = .ok (.new idx, 3)) (hfs : ∃ ty : Nat → FieldType, (∀ k, k < r.2.2 → parseFieldDescriptor (r.2.1 k).2.2.1 = some (ty k)) ∧ ∀ j, j < r.2.2 → defaultValue (ty j) = vp_V fs j) (hnr : ∀ g : Nat → Nat, fs.map (z_v g) = fs) (hkc : kc = kc1 + 1) (hks : ks = ks1 + r.2.2) (kk : G mi d kc1 ks1 (some (n + 1)) (pc + 3) L (.ref n :: S) (zu M n (.inr (ci, fs))) F) : G mi d kc ks (some n) pc L S M F := by
  intro l p e R s m args below meth c g mc ms C H locs cells slots ls X
  have hts := C.2.2.2.2.2.2.2.1
  obtain ⟨x1, x2, x3, x4, x5, x6⟩ := X
  obtain ⟨ty, t1, t2⟩ := hfs
  have hn : g.1 n = H.size := by have := ((x2 n rfl).2 n (Nat.le_refl _)).1; omega
  have r1 := C.2.2.2.2.2.2.2.2.2.2.2.2.2.1
  have r2 := C.2.2.2.2.2.2.2.2.2.2.2.2.2.2.1
  refine zz_new (D := g.2.1) (ci := ci) (C := r.1) (T := r.2.1) (N := r.2.2) (A := z_A g) C.1 C.2.1 hts (z_cls hc).1 ty t1 C.2.2.2.2.2.2.1 (hts _ h1) (hts _ h2) (hts _ h3) C.2.2.2.2.2.2.2.2.2.1.1 x3 hc (fs := fs) t2 (by omega) (by omega) hd (fun H1 a1 z1 o1 s1 => ?_)
  rw [← hn] at a1 ⊢
  obtain ⟨y1, y2⟩ := z_new (e := .inr (ci, fs)) x1 x2 (by show va_at _ _ (_, .inr (ci, fs.map (z_v g.1))) _; rw [hnr]; exact a1) o1 z1
  exact kk l p e R s m args below meth c g mc ms C H1 locs (cells + 1) (slots + r.2.2) ls ⟨y1, y2, s1, x4, by omega, by omega⟩
theorem g_newa {t n N kc1 ks1 : Nat} {at_ : ArrayType} {ty : FieldType} {i : Int32} {x : vp_A} (hd : decode mi.2.2.1 pc = .ok (.newarray at_, 2)) (hty : newarray.typeOf at_ = ty) (hw : Cond.arrayClass ty ∈ SW) (ht : ∀ g : zG, (z_tys g)[t]? = some (g.2.2.1 t, ty)) (hra : ∀ (U : State) (cA : ClassId), va_RA U cA ty → U.vm.findClass ("[" ++ ty.toString) = some cA) (hx : ∀ (cA : ClassId) (r : Nat → Nat), vp_cell cA (z_a r x) = arrV cA N (fun _ => defaultValue ty)) (hi : ¬ i < 0) (hN : i.toNatClampNeg = N) (hby : N * componentBytes ty ≤ 536870912) (hkc : kc = kc1 + 1) (hks : ks = ks1 + N) (kk : G mi d kc1 ks1 (some (n + 1)) (pc + 2) L (.ref n :: S) (zu M n (.inl (t, x))) F) : G mi d kc ks (some n) pc L (.int i :: S) M F := by
  intro l p e R s m args below meth c g mc ms C H locs cells slots ls X
  have hts := C.2.2.2.2.2.2.2.1
  obtain ⟨x1, x2, x3, x4, x5, x6⟩ := X
  have hn : g.1 n = H.size := by have := ((x2 n rfl).2 n (Nat.le_refl _)).1; omega
  have r1 := C.2.2.2.2.2.2.2.2.2.2.2.2.2.1
  have r2 := C.2.2.2.2.2.2.2.2.2.2.2.2.2.2.1
  subst hty
  refine va_newaK C.1 C.2.1 (hts _ hw) rfl hd rfl hi hN hby (by omega) (by omega) hn.symm (fun H1 cA e1 z1 o1 a1 f1 => ?_)
  have hce : cA = g.2.2.1 t := Option.some.inj (f1.symm.trans (hra _ _ (C.2.2.2.2.2.2.2.2.2.1.1.2 t _ (ht g)).2))
  subst hce
  rw [hn] at z1 o1
  obtain ⟨y1, y2⟩ := z_new (e := .inl (t, x)) x1 x2 (by show H1[g.1 n]? = some (vp_cell (g.2.2.1 t) (z_a g.1 x)); rw [hx]; exact e1) o1 z1
  exact kk l p e R s m args below meth c g mc ms C H1 locs (cells + 1) (slots + N) ls ⟨y1, y2, ⟨Nat.le_trans x3.1 (by omega), fun q h1 h2 => (o1 q (Nat.lt_of_lt_of_le h1 x3.1)).trans (x3.2.1 q h1 h2), x3.2.2⟩, x4, by omega, by omega⟩
theorem g_anew {t n N idx kc1 ks1 : Nat} {C0 : String} {i : Int32} (hd : decode mi.2.2.1 pc = .ok (.anewarray idx, 3)) (hw : Cond.classLink mi.2.1 idx C0 ∈ SW) (ho : ∀ (g : zG) (U : State), z_S g U → va_AO C0 U) (ht : ∀ g : zG, (z_tys g)[t]? = some (g.2.2.1 t, .object C0)) (hi : ¬ i < 0) (hN : i.toNatClampNeg = N) (hby : N * 4 ≤ 536870912) (hkc : kc = kc1 + 1) (hks : ks = ks1 + N) (kk : G mi d kc1 ks1 (some (n + 1)) (pc + 3) L (.ref n :: S) (zu M n (.inl (t, N, .inr (.inr (.inr (.inr (fun _ => none))))))) F) : G mi d kc ks (some n) pc L (.int i :: S) M F := by
  intro l p e R s m args below meth c g mc ms C H locs cells slots ls X
  have hts := C.2.2.2.2.2.2.2.1
  obtain ⟨x1, x2, x3, x4, x5, x6⟩ := X
  have hn : g.1 n = H.size := by have := ((x2 n rfl).2 n (Nat.le_refl _)).1; omega
  have r1 := C.2.2.2.2.2.2.2.2.2.2.2.2.2.1
  have r2 := C.2.2.2.2.2.2.2.2.2.2.2.2.2.2.1
  refine zz_anew (A := z_A g) (H0 := s.heap) C.1 C.2.1 C.2.2.2.2.2.2.1 (hts _ hw) (ho g s C.2.2.2.2.2.2.2.2.2.1) x3 (C.2.2.2.2.2.2.2.2.2.1.1.2 t _ (ht g)).2 hi hN hby (by omega) (by omega) hd (fun H1 e1 z1 o1 s1 => ?_)
  rw [← hn] at e1 ⊢
  obtain ⟨y1, y2⟩ := z_new (e := .inl (t, N, .inr (.inr (.inr (.inr (fun _ => none)))))) x1 x2 e1 o1 z1
  exact kk l p e R s m args below meth c g mc ms C H1 locs (cells + 1) (slots + N) ls ⟨y1, y2, s1, x4, by omega, by omega⟩
end GN
