/-! G: calls -/
theorem z_args (r : Nat → Nat) : ∀ (i : Nat) (As : List Value), lv_args i (As.map (z_v r)) = (lv_args i As).map (fun q => (q.1, z_v r q.2))
  | _, [] => rfl
  | i, v :: t => by
    show (i, z_v r v) :: lv_args (if (z_v r v).category = 2 then i + 2 else i + 1) (t.map (z_v r)) = (i, z_v r v) :: (lv_args (if v.category = 2 then i + 2 else i + 1) t).map _
    rw [z_v_cat, z_args r _ t]
theorem z_lgsl (r : Nat → Nat) : ∀ (As : List Value), (lg_sl (As.map (z_v r))).length = (lg_sl As).length
  | [] => rfl
  | v :: t => by
    have ih := z_lgsl r t
    simp only [lg_sl, List.map_cons, List.flatMap_cons, List.length_append, z_v_cat] at ih ⊢
    rw [ih]
    by_cases h : v.category = 2 <;> simp [h]
/-- what is decided of a method once for all: its name, its code among the words -/
def zok (mi : zI) (n : Nat) : Prop := plainName mi.1.cls = true ∧ mi.2.1 = mi.1.cls ∧ (mi.1.cls ≠ "java/lang/invoke/MethodHandle" ∧ mi.1.cls ≠ "java/lang/invoke/VarHandle") ∧ (parseMethodDescriptor mi.1.desc).map (fun d => d.parameters.length) = some n ∧ mi.2.2.2.1 ≤ 21 ∧ Cond.initialized mi.1.cls ∈ SW
def zoc (mi : zI) : Prop := mi.2.2.2.2.2 = ([], none) ∧ Cond.code mi.1 mi.2.2.1 mi.2.2.2.1 mi.2.2.2.2.1 ∈ SW
def zLV (own : String) (idx : Nat) (mi : zI) : Prop := Cond.methodLink own idx mi.1 ∈ SW ∧ Cond.instanceMethod mi.1 ∈ SW ∧ Cond.selects mi.1.cls mi.1 mi.1 ∈ SW
def zLS (own : String) (idx : Nat) (mi : zI) : Prop := Cond.methodLink own idx mi.1 ∈ SW ∧ Cond.static mi.1 ∈ SW
def zLI (own : String) (idx : Nat) (mi : zI) : Prop := Cond.methodLink own idx mi.1 ∈ SW ∧ Cond.instanceMethod mi.1 ∈ SW ∧ mi.1.name = "<init>" ∧ mi.2.2.2.2.1 = none
def zLNS (own : String) (idx : Nat) (mi : zI) (host : String) : Prop := (own, idx, mi.1, host) ∈ z_nests ∧ Cond.static mi.1 ∈ SW
def zLNI (own : String) (idx : Nat) (mi : zI) (host : String) : Prop := (own, idx, mi.1, host) ∈ z_nests ∧ Cond.instanceMethod mi.1 ∈ SW ∧ mi.1.name = "<init>" ∧ mi.2.2.2.2.1 = none
theorem z_all {args : Array Value} {s : State} (hts : ∀ w ∈ SW, w.before args s = true) {c : Cond} (hc : c ∈ SW) : ∀ w ∈ c :: SW, ∀ (a' : Array Value) (U : State), s.WarmedH U.vm → w.before a' U = true := fun w hw a' U hW => by
  have h : w ∈ SW := (List.mem_cons.mp hw).elim (fun e => e ▸ hc) id
  exact word_at hW (good_of_word (SW_good w h)) (hts w h)
/-- the start of a callee -/
def z_Pc (g : zG) (nx : Option Nat) (As : List Value) (M : zM) : Array Value → State → Prop := va_Pc (As.map (z_v g.1)) (fun U => z_S g U ∧ z_R g M U.heap ∧ z_N g nx M U.heap)
theorem z_blind (g : zG) (nx : Option Nat) (As : List Value) (M : zM) : FrameBlind (z_Pc g nx As M) := fun a U f mk h => ⟨h.1, h.2.1.calling f mk a, h.2.2⟩
theorem z_pre {g : zG} {nx : Option Nat} {As : List Value} {M : zM} {s : State} {H : Heap} {locs : List Loc} (hS : z_S g s) (h1 : z_R g M H) (h2 : z_N g nx M H) (h3 : va_S (z_A g) s.heap H locs) : ∀ U : State, U.heap = H → s.WarmedH U.vm → z_Pc g nx As M (As.map (z_v g.1)).toArray U := fun U hU hW => by
  subst hU
  exact ⟨rfl, hS.go hW h3.1 h3.2.1, h1, h2⟩
theorem Cn.body {mi : zI} {d kc ks : Nat} {nx : Option Nat} {As : List Value} {M : zM} {F : zP} (h : Cn mi d kc ks nx As M F) {l : Launch} (hl : l.stackTraces = false) {g : zG} (hg : ∀ v, 8 ≤ v → g.2.2.2 ≤ g.1 v) (hn : (lg_sl As).length ≤ mi.2.2.2.1) (ho : mi.2.1 = mi.1.cls) (hz : mi.2.2.2.2.2.2 = none) {ws : List Cond} (hws : ∀ w ∈ SW, w ∈ ws)
    {p : Program} {e : Env} {s : State} {m : MethodId} {args : Array Value} {below : List Frame} {meth : Method} {c : Code} {s₁ : State} (B : BodyLoose p l mi.1 (headSpec ws { frames := d, cells := kc, slots := ks, locals := 40 * d }) mi.2.2.1 mi.2.2.2.1 mi.2.2.2.2.1 e s m args below meth c s₁) (hml : c.maxLocals = mi.2.2.2.1) (ht : c.exceptionTable.toList = tableOf mi.2.2.2.2.2.1) (hP : z_Pc g nx As M args s) :
    W p l e { frames := d, cells := kc, slots := ks, locals := 40 * d } s m args below meth c s.heap [] 0 0 (vx_MQ below (z_Q g F) (z_X g F) args s kc ks (z_A g)) (entryFrame m args mi.2.2.2.1) := by
  obtain ⟨rfl, hS, hR, hN⟩ := hP
  have hts := atoms_spec (ws := ws) B.pre
  have hl2 := lv_entry (As.map (z_v g.1)) (n := mi.2.2.2.1) (by rw [z_lgsl]; exact hn)
  rw [z_args] at hl2
  rw [lg_entry_eq]
  exact h l p e _ s m _ below meth c g kc ks ⟨B.exec, B.bytes, hml, B.returns, B.notSynchronized, fun _ => ht, by rw [ho]; exact findClass_of_methodNamed B.named, fun w hw => hts w (hws w hw), ⟨fun _ => (name_of_methodNamed B.named B.method).1, fun q hq => by rw [hz] at hq; cases hq⟩, hS, hg, Nat.le_refl _, Nat.le_refl _, Nat.le_refl _, Nat.le_refl _, hl⟩ s.heap [] 0 0 _ ⟨hR, hN, va_S.rf, hl2, by omega, by omega⟩
theorem Cn.vmet {mi : zI} {d kc ks : Nat} {nx : Option Nat} {As : List Value} {M : zM} {F : zP} (h : Cn mi d kc ks nx As M F) {l : Launch} (hl : l.stackTraces = false) {g : zG} (hg : ∀ v, 8 ≤ v → g.2.2.2 ≤ g.1 v) (hn : (lg_sl As).length ≤ mi.2.2.2.1) {n : Nat} (ho : zok mi n) (hc : zoc mi) :
    vx_Met l mi.1 (Cond.code mi.1 mi.2.2.1 mi.2.2.2.1 mi.2.2.2.2.1 :: SW) { frames := d, cells := kc, slots := ks, locals := 40 * d } (z_Pc g nx As M) (z_Q g F) (z_X g F) kc ks (z_A g) := by
  refine vx_ofW (cc := mi.2.2.1) (maxL := mi.2.2.2.1) (ret := mi.2.2.2.2.1) ho.1 rfl ?_
  intro p e s m args below meth c s₁ B hml ht hP
  have ht2 : c.exceptionTable.toList = tableOf mi.2.2.2.2.2.1 := by
    rw [hc.1]
    cases hx : c.exceptionTable.toList with
    | nil => rfl
    | cons x t => exact (ht x (by rw [hx]; exact List.mem_cons_self)).elim
  exact h.body hl hg hn ho.2.1 (by rw [hc.1]) (fun w hw => List.mem_cons_of_mem _ hw) B hml ht2 hP
theorem Cn.met {mi : zI} {d kc ks : Nat} {nx : Option Nat} {As : List Value} {M : zM} {F : zP} (h : Cn mi d kc ks nx As M F) (hno : ∀ M nx E, ¬ F M nx (.inr E)) {l : Launch} (hl : l.stackTraces = false) {g : zG} (hg : ∀ v, 8 ≤ v → g.2.2.2 ≤ g.1 v) (hn : (lg_sl As).length ≤ mi.2.2.2.1) {n : Nat} (ho : zok mi n) (hc : zoc mi) :
    Met l mi.1 (Cond.code mi.1 mi.2.2.1 mi.2.2.2.1 mi.2.2.2.2.1 :: SW) { frames := d, cells := kc, slots := ks, locals := 40 * d } (z_Pc g nx As M) (z_Q g F) kc ks (z_A g) := by
  have h1 := h.vmet hl hg hn ho hc
  intro p e ha hcs hk s m args below hf hfit hP hK
  obtain ⟨n, o, a1, a2, a3, a4⟩ := h1 p e ha hcs hk s m args below hf hfit hP hK
  refine ⟨n, o, a1, a2, a3, ?_⟩
  rcases a4 with a4 | ⟨q, -, E, ce, Ls, ⟨⟨M1, b1, -⟩, -⟩, -⟩
  · exact a4
  · exact (hno _ _ _ b1).elim
def zp (v : Option Value) (S : List Value) : List Value := match v with
  | some x => x :: S
  | none => S
theorem zp_map (r : Nat → Nat) (v : Option Value) (S : List Value) : (v.map (z_v r)).toList ++ S.map (z_v r) = (zp v S).map (z_v r) := by cases v <;> rfl
theorem z_room (r : Nat → Nat) {S : List Value} (h : (S.map fun v => v.category).sum ≤ 8) : ((S.map (z_v r)).map fun v => v.category).sum ≤ 8 := by
  have e : (S.map (z_v r)).map (fun v => v.category) = S.map fun v => v.category := by
    rw [List.map_map]
    exact List.map_congr_left (fun v _ => z_v_cat r v)
  rw [e]
  exact h
section GC
variable {mi : zI} {d kc ks : Nat} {nx : Option Nat} {pc : Nat} {L : List (Nat × Value)} {S0 S : List Value} {M : zM} {F : zP}
variable {mi' : zI} {d' kc' ks' kc1 ks1 idx n b : Nat} {As : List Value} {F' : zP}
/-- behind a callee's return -/
theorem z_back {g : zG} {l : Launch} {p : Program} {R : Room} {s : State} {m : MethodId} {args : Array Value} {meth : Method} {c : Code} {mc ms : Nat} (C : z_C mi d g l p R s m args meth c mc ms) {H : Heap} {locs : List Loc} {cells slots : Nat} {ls : Array Slot} (X : z_H mi kc ks nx L M g s H locs cells slots ls mc ms) {T' st t : State} {Ls : List Loc} {oc : Outcome} {v : Option Value} (h0 : st.heap = H) (e1 : T'.heap = t.heap) (hL : ∀ q ∈ Ls, z_A g q.base) (hq : (∃ (M : zM) (nx : Option Nat) (v : Option Value), oc = .returned (v.map (z_v g.1)) ∧ F' M nx (.inl v) ∧ z_R g M t.heap ∧ z_N g nx M t.heap) ∧ va_F (z_A g) st t) (hv : oc = .returned v) (h2 : kc1 + kc' ≤ kc) (h3 : ks1 + ks' ≤ ks) :
    ∃ (M1 : zM) (nx1 : Option Nat) (v1 : Option Value), v = v1.map (z_v g.1) ∧ F' M1 nx1 (.inl v1) ∧ z_H mi kc1 ks1 nx1 L M1 g s T'.heap (locs ++ Ls) (cells + kc') (slots + ks') ls mc ms := by
  obtain ⟨⟨M1, nx1, v1, b1, b2, b3, b4⟩, hF⟩ := hq
  obtain ⟨x1, x2, x3, x4, x5, x6⟩ := X
  rw [b1] at hv
  refine ⟨M1, nx1, v1, (Outcome.returned.inj hv).symm, b2, by rw [e1]; exact b3, by rw [e1]; exact b4, ?_, x4, by omega, by omega⟩
  exact (vx_keep h0 e1 x3 (fun q _ h => h) (fun q h => h) hL hF).2.2
theorem z_run {g : zG} {l : Launch} {p : Program} {e : Env} {R : Room} {s : State} {m : MethodId} {args : Array Value} {below : List Frame} {meth : Method} {c : Code} {mc ms : Nat} (C : z_C mi d g l p R s m args meth c mc ms) {H : Heap} {locs : List Loc} {cells slots : Nat} {ls : Array Slot} (X : z_H mi kc ks nx L M g s H locs cells slots ls mc ms) {st0 : List Value} {a : Array Value} (hr : va_Run p l e R s m args below meth c H locs cells slots kc' ks' (F0 m pc ls st0) (S.map (z_v g.1)) (z_Q g F' a) (z_A g)) (h2 : kc1 + kc' ≤ kc) (h3 : ks1 + ks' ≤ ks)
    (k : ∀ M1 nx1 v, F' M1 nx1 (.inl v) → G mi d kc1 ks1 nx1 (pc + 3) L (zp v S) M1 F) :
    W p l e R s m args below meth c H locs cells slots (vx_MQ below (z_Q g F) (z_X g F) args s mc ms (z_A g)) (F0 m pc ls st0) := by
  intro T hT Y
  obtain ⟨v, st, t, T', Ls, h0, Y', hL, e1, e2, hq, stp⟩ := hr T hT Y
  obtain ⟨M1, nx1, v1, rfl, b2, X1⟩ := z_back C X h0 e1 hL hq rfl h2 h3
  obtain ⟨t2, a1, a2⟩ := k M1 nx1 v1 b2 l p e R s m args below meth c g mc ms C _ _ _ _ ls X1 T' rfl Y'
  exact ⟨t2, stp t2 (by show Steps p.tables e below (T'.setTop (F0 m (pc + 3) ls ((v1.map (z_v g.1)).toList ++ S.map (z_v g.1)))) t2; rw [zp_map]; exact a1), a2⟩
theorem z_cb {g : zG} {l : Launch} {p : Program} {R : Room} {s : State} {m : MethodId} {args : Array Value} {meth : Method} {c : Code} {mc ms : Nat} (C : z_C mi d g l p R s m args meth c mc ms) (ho : zok mi' n) (hc : zoc mi') (hl : Cond.methodLink mi.2.1 idx mi'.1 ∈ SW) (h1 : d' + 1 ≤ d) :
    CallB R s args mi.2.1 idx mi'.1 mi'.2.2.1 mi'.2.2.2.1 mi'.2.2.2.2.1 (Cond.code mi'.1 mi'.2.2.1 mi'.2.2.2.1 mi'.2.2.2.2.1 :: SW) { frames := d', cells := kc', slots := ks', locals := 40 * d' } kc' ks' n := by
  obtain ⟨o1, o2, o3, o4, o5, o6⟩ := ho
  have hts := C.2.2.2.2.2.2.2.1
  have r1 := C.2.2.2.2.2.2.2.2.2.2.2.1
  have r2 := C.2.2.2.2.2.2.2.2.2.2.2.2.1
  refine ⟨rfl, rfl, by show d' + 1 ≤ R.frames; omega, by show 8 + (mi'.2.2.2.1 + 11) + 40 * d' ≤ R.locals; omega, z_all hts hc.2, List.mem_cons_self, hts _ hc.2, hts _ o6, o3, fun sig h => ?_, hts _ hl⟩
  rw [h] at o4
  exact (Option.some.inj o4).symm
theorem z_recv {g : zG} {s : State} {H : Heap} {ci : Nat} {fs : List Value} {r : vw_C} (hS : z_S g s) (h1 : z_R g M H) (hM : M b = some (.inr (ci, fs))) (hci : vwCl[ci]? = some r) : ∃ cell : Cell, H[g.1 b]? = some cell ∧ cell.vm.isStatics = false ∧ s.vm.findClass r.1 = some cell.cls := va_recv (q0 := 0) (ci := ci) hS.1 (z_one (h1.1 _ _ hM)) hci rfl
theorem g_callV {ci : Nat} {fs : List Value} {r : vw_C} (hc : Cn mi' d' kc' ks' nx (.ref b :: As) M F') (ho : zok mi' n) (hoc : zoc mi') (hl : zLV mi.2.1 idx mi') (hd : decode mi.2.2.1 pc = .ok (.invokevirtual idx, 3)) (hs : S0 = As.reverse ++ .ref b :: S) (hM : M b = some (.inr (ci, fs))) (hci : vwCl[ci]? = some r) (hr : r.1 = mi'.1.cls) (hA : As.length = n) (hg : (lg_sl (.ref b :: As)).length ≤ mi'.2.2.2.1) (hS : (S.map fun v => v.category).sum ≤ 8) (h1 : d' + 1 ≤ d) (h2 : kc1 + kc' ≤ kc) (h3 : ks1 + ks' ≤ ks) (hno : ∀ M nx E, ¬ F' M nx (.inr E))
    (k : ∀ M1 nx1 v, F' M1 nx1 (.inl v) → G mi d kc1 ks1 nx1 (pc + 3) L (zp v S) M1 F) : G mi d kc ks nx pc L S0 M F := by
  intro l p e R s m args below meth c g mc ms C H locs cells slots ls X
  have hCn := hc.met hno C.2.2.2.2.2.2.2.2.2.2.2.2.2.2.2 (g := g) C.2.2.2.2.2.2.2.2.2.2.1 hg ho hoc
  have hts := C.2.2.2.2.2.2.2.1
  have r3 := C.2.2.2.2.2.2.2.2.2.2.2.2.2.1
  have r4 := C.2.2.2.2.2.2.2.2.2.2.2.2.2.2.1
  have x5 := X.2.2.2.2.1
  have x6 := X.2.2.2.2.2
  refine z_run C X (va_runV (C := mi'.1.cls) (As := As.map (z_v g.1)) (b := g.1 b) (rest := S.map (z_v g.1)) (index := idx) ⟨C.1, C.2.1, C.2.2.1, C.2.2.2.2.2.2.1, hts⟩ hCn ⟨z_cb C ho hoc hl.1 h1, hts _ hl.2.1, hts _ hl.2.2⟩ ⟨z_blind _ _ _ _, by rw [← hr]; exact z_recv C.2.2.2.2.2.2.2.2.2.1 X.1 hM hci, z_pre C.2.2.2.2.2.2.2.2.2.1 X.1 X.2.1 X.2.2.1⟩ rfl (by rw [List.length_map]; exact hA) X.2.2.2.1.1 (by rw [hs, List.map_append, List.map_reverse]; rfl) (lv_room (z_room g.1 hS)) hd ⟨by omega, by omega⟩) h2 h3 k
theorem g_callS (hc : Cn mi' d' kc' ks' nx As M F') (ho : zok mi' n) (hoc : zoc mi') (hl : zLS mi.2.1 idx mi') (hd : decode mi.2.2.1 pc = .ok (.invokestatic idx, 3)) (hs : S0 = As.reverse ++ S) (hA : As.length = n) (hg : (lg_sl As).length ≤ mi'.2.2.2.1) (hS : (S.map fun v => v.category).sum ≤ 8) (h1 : d' + 1 ≤ d) (h2 : kc1 + kc' ≤ kc) (h3 : ks1 + ks' ≤ ks) (hno : ∀ M nx E, ¬ F' M nx (.inr E))
    (k : ∀ M1 nx1 v, F' M1 nx1 (.inl v) → G mi d kc1 ks1 nx1 (pc + 3) L (zp v S) M1 F) : G mi d kc ks nx pc L S0 M F := by
  intro l p e R s m args below meth c g mc ms C H locs cells slots ls X
  have hCn := hc.met hno C.2.2.2.2.2.2.2.2.2.2.2.2.2.2.2 (g := g) C.2.2.2.2.2.2.2.2.2.2.1 hg ho hoc
  have hts := C.2.2.2.2.2.2.2.1
  have r3 := C.2.2.2.2.2.2.2.2.2.2.2.2.2.1
  have r4 := C.2.2.2.2.2.2.2.2.2.2.2.2.2.2.1
  have x5 := X.2.2.2.2.1
  have x6 := X.2.2.2.2.2
  refine z_run C X (va_runS (As := As.map (z_v g.1)) (rest := S.map (z_v g.1)) (index := idx) ⟨C.1, C.2.1, C.2.2.1, C.2.2.2.2.2.2.1, hts⟩ hCn ⟨z_cb C ho hoc hl.1 h1, hts _ hl.2⟩ ⟨z_blind _ _ _ _, z_pre C.2.2.2.2.2.2.2.2.2.1 X.1 X.2.1 X.2.2.1⟩ rfl (by rw [List.length_map]; exact hA) X.2.2.2.1.1 (by rw [hs, List.map_append, List.map_reverse]) (lv_room (z_room g.1 hS)) hd ⟨by omega, by omega⟩) h2 h3 k
theorem z_cn {g : zG} {l : Launch} {p : Program} {R : Room} {s : State} {m : MethodId} {args : Array Value} {meth : Method} {c : Code} {mc ms : Nat} {host : String} (C : z_C mi d g l p R s m args meth c mc ms) (ho : zok mi' n) (hc : zoc mi') (hl : (mi.2.1, idx, mi'.1, host) ∈ z_nests) (h1 : d' + 1 ≤ d) :
    va_CN R s args mi.2.1 idx mi'.1 host mi'.2.2.1 mi'.2.2.2.1 mi'.2.2.2.2.1 (Cond.code mi'.1 mi'.2.2.1 mi'.2.2.2.1 mi'.2.2.2.2.1 :: SW) { frames := d', cells := kc', slots := ks', locals := 40 * d' } kc' ks' n := by
  obtain ⟨o1, o2, o3, o4, o5, o6⟩ := ho
  have hts := C.2.2.2.2.2.2.2.1
  have r1 := C.2.2.2.2.2.2.2.2.2.2.2.1
  have r2 := C.2.2.2.2.2.2.2.2.2.2.2.2.1
  refine ⟨⟨rfl, rfl, by show d' + 1 ≤ R.frames; omega, by show 8 + (mi'.2.2.2.1 + 11) + 40 * d' ≤ R.locals; omega, z_all hts hc.2, List.mem_cons_self⟩, hts _ hc.2, hts _ o6, o3, fun sig h => ?_, va_Nw.use rfl (C.2.2.2.2.2.2.2.2.2.1.2.2.2.2.2.1 _ hl)⟩
  rw [h] at o4
  exact (Option.some.inj o4).symm
theorem g_callSN {host : String} (hc : Cn mi' d' kc' ks' nx As M F') (ho : zok mi' n) (hoc : zoc mi') (hl : zLNS mi.2.1 idx mi' host) (hd : decode mi.2.2.1 pc = .ok (.invokestatic idx, 3)) (hs : S0 = As.reverse ++ S) (hA : As.length = n) (hg : (lg_sl As).length ≤ mi'.2.2.2.1) (hS : (S.map fun v => v.category).sum ≤ 8) (h1 : d' + 1 ≤ d) (h2 : kc1 + kc' ≤ kc) (h3 : ks1 + ks' ≤ ks) (hno : ∀ M nx E, ¬ F' M nx (.inr E))
    (k : ∀ M1 nx1 v, F' M1 nx1 (.inl v) → G mi d kc1 ks1 nx1 (pc + 3) L (zp v S) M1 F) : G mi d kc ks nx pc L S0 M F := by
  intro l p e R s m args below meth c g mc ms C H locs cells slots ls X
  have hCn := hc.met hno C.2.2.2.2.2.2.2.2.2.2.2.2.2.2.2 (g := g) C.2.2.2.2.2.2.2.2.2.2.1 hg ho hoc
  have hts := C.2.2.2.2.2.2.2.1
  have r3 := C.2.2.2.2.2.2.2.2.2.2.2.2.2.1
  have r4 := C.2.2.2.2.2.2.2.2.2.2.2.2.2.2.1
  have x5 := X.2.2.2.2.1
  have x6 := X.2.2.2.2.2
  refine z_run C X (va_runSN (host := host) (As := As.map (z_v g.1)) (rest := S.map (z_v g.1)) (index := idx) ⟨C.1, C.2.1, C.2.2.1, C.2.2.2.2.2.2.1, hts⟩ hCn ⟨z_cn C ho hoc hl.1 h1, hts _ hl.2, trivial⟩ ⟨z_blind _ _ _ _, z_pre C.2.2.2.2.2.2.2.2.2.1 X.1 X.2.1 X.2.2.1⟩ rfl (by rw [List.length_map]; exact hA) X.2.2.2.1.1 (by rw [hs, List.map_append, List.map_reverse]) (lv_room (z_room g.1 hS)) hd ⟨by omega, by omega⟩) h2 h3 k
theorem g_callI (hc : Cn mi' d' kc' ks' nx (.ref b :: As) M F') (ho : zok mi' n) (hoc : zoc mi') (hl : zLI mi.2.1 idx mi') (hd : decode mi.2.2.1 pc = .ok (.invokespecial idx, 3)) (hs : S0 = As.reverse ++ .ref b :: S) (hA : As.length = n) (hg : (lg_sl (.ref b :: As)).length ≤ mi'.2.2.2.1) (hS : (S.map fun v => v.category).sum ≤ 8) (h1 : d' + 1 ≤ d) (h2 : kc1 + kc' ≤ kc) (h3 : ks1 + ks' ≤ ks) (hno : ∀ M nx E, ¬ F' M nx (.inr E))
    (k : ∀ M1 nx1 v, F' M1 nx1 (.inl v) → G mi d kc1 ks1 nx1 (pc + 3) L (zp v S) M1 F) : G mi d kc ks nx pc L S0 M F := by
  intro l p e R s m args below meth c g mc ms C H locs cells slots ls X
  have hCn := hc.met hno C.2.2.2.2.2.2.2.2.2.2.2.2.2.2.2 (g := g) C.2.2.2.2.2.2.2.2.2.2.1 hg ho hoc
  have hts := C.2.2.2.2.2.2.2.1
  have r3 := C.2.2.2.2.2.2.2.2.2.2.2.2.2.1
  have r4 := C.2.2.2.2.2.2.2.2.2.2.2.2.2.2.1
  have x5 := X.2.2.2.2.1
  have x6 := X.2.2.2.2.2
  have hcb := z_cb (kc' := kc') (ks' := ks') C ho hoc hl.1 h1
  rw [hl.2.2.2] at hcb hCn
  refine z_run C X (va_runI (As := As.map (z_v g.1)) (b := g.1 b) (rest := S.map (z_v g.1)) (index := idx) ⟨C.1, C.2.1, C.2.2.1, C.2.2.2.2.2.2.1, hts⟩ hCn ⟨hcb, hl.2.2.1, hts _ hl.2.1⟩ ⟨z_blind _ _ _ _, z_pre C.2.2.2.2.2.2.2.2.2.1 X.1 X.2.1 X.2.2.1⟩ rfl (by rw [List.length_map]; exact hA) X.2.2.2.1.1 (by rw [hs, List.map_append, List.map_reverse]; rfl) (lv_room (z_room g.1 hS)) hd ⟨by omega, by omega⟩) h2 h3 k
theorem g_callIN {host : String} (hc : Cn mi' d' kc' ks' nx (.ref b :: As) M F') (ho : zok mi' n) (hoc : zoc mi') (hl : zLNI mi.2.1 idx mi' host) (hd : decode mi.2.2.1 pc = .ok (.invokespecial idx, 3)) (hs : S0 = As.reverse ++ .ref b :: S) (hA : As.length = n) (hg : (lg_sl (.ref b :: As)).length ≤ mi'.2.2.2.1) (hS : (S.map fun v => v.category).sum ≤ 8) (h1 : d' + 1 ≤ d) (h2 : kc1 + kc' ≤ kc) (h3 : ks1 + ks' ≤ ks) (hno : ∀ M nx E, ¬ F' M nx (.inr E))
    (k : ∀ M1 nx1 v, F' M1 nx1 (.inl v) → G mi d kc1 ks1 nx1 (pc + 3) L (zp v S) M1 F) : G mi d kc ks nx pc L S0 M F := by
  intro l p e R s m args below meth c g mc ms C H locs cells slots ls X
  have hCn := hc.met hno C.2.2.2.2.2.2.2.2.2.2.2.2.2.2.2 (g := g) C.2.2.2.2.2.2.2.2.2.2.1 hg ho hoc
  have hts := C.2.2.2.2.2.2.2.1
  have r3 := C.2.2.2.2.2.2.2.2.2.2.2.2.2.1
  have r4 := C.2.2.2.2.2.2.2.2.2.2.2.2.2.2.1
  have x5 := X.2.2.2.2.1
  have x6 := X.2.2.2.2.2
  have hcb := z_cn (kc' := kc') (ks' := ks') C ho hoc hl.1 h1
  rw [hl.2.2.2] at hcb hCn
  refine z_run C X (va_runIN (host := host) (As := As.map (z_v g.1)) (b := g.1 b) (rest := S.map (z_v g.1)) (index := idx) ⟨C.1, C.2.1, C.2.2.1, C.2.2.2.2.2.2.1, hts⟩ hCn ⟨hcb, hl.2.2.1, hts _ hl.2.1⟩ ⟨z_blind _ _ _ _, z_pre C.2.2.2.2.2.2.2.2.2.1 X.1 X.2.1 X.2.2.1⟩ rfl (by rw [List.length_map]; exact hA) X.2.2.2.1.1 (by rw [hs, List.map_append, List.map_reverse]; rfl) (lv_room (z_room g.1 hS)) hd ⟨by omega, by omega⟩) h2 h3 k
/-- Object.<init> -/
theorem g_objInit (hl : Cond.methodLink mi.2.1 idx objectInit ∈ SW ∧ Cond.instanceMethod objectInit ∈ SW ∧ Cond.code objectInit ⟨#[0xb1]⟩ 1 none ∈ SW) (hd : decode mi.2.2.1 pc = .ok (.invokespecial idx, 3)) (h1 : 1 ≤ d) (hS : (S.map fun v => v.category).sum ≤ 8) (k : G mi d kc ks nx (pc + 3) L S M F) : G mi d kc ks nx pc L (.ref b :: S) M F := by
  intro l p e R s m args below meth c g mc ms C H locs cells slots ls X
  have hts := C.2.2.2.2.2.2.2.1
  have r1 := C.2.2.2.2.2.2.2.2.2.2.2.1
  have r2 := C.2.2.2.2.2.2.2.2.2.2.2.2.1
  have hroom := z_room g.1 hS
  have hr2 := lv_room (m := m) (pc := pc) (ls := ls) (rest := List.map (z_v g.1) (Value.ref b :: S)) hroom
  refine W.objInit C.1 C.2.1 C.2.2.2.2.2.2.1 (hts _ hl.1) (hts _ hl.2.1) (hts _ hl.2.2) rfl (X.2.2.2.1.1.trans C.2.2.1.symm) rfl hd (by omega) (by omega) ?_
  exact W.eq (g2 := F0 m (pc + 3) ls (S.map (z_v g.1))) rfl (k l p e R s m args below meth c g mc ms C H locs cells slots ls X)
end GC
