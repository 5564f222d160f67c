/-! G: throws, calls that may throw, handlers, members of the JDK -/
def z_nm : List String := ["java/lang/RuntimeException", "java/lang/Exception"]
def zTh (ik ic : Nat) (cls : String) : Prop := Cond.classLink RX5 ik cls ∈ SW ∧ Cond.initialized cls ∈ SW ∧ (∀ w ∈ (vx_atS RX5 ic cls z_nm).filter goodWord, w ∈ SW) ∧ (∀ w ∈ (vx_atS RX5 ic cls z_nm).filter (fun w => !goodWord w), w ∈ Cond.castable cls cls :: z_decl.map (fun q => Cond.declares ⟨q, "<init>", "(Ljava/lang/String;)V"⟩)) ∧ (∀ w ∈ Cond.classLink RX5 ik cls :: Cond.initialized cls :: vx_atS RX5 ic cls z_nm, vx_ot w = true) ∧ Bundle.fit cls = true ∧ cls ∈ z_xs
set_option maxRecDepth 100000 in
theorem zTh_ISE : zTh 70 74 "java/lang/IllegalStateException" := by
  refine ⟨by decide +kernel, by decide +kernel, by decide +kernel, by decide +kernel, by decide +kernel, by decide +kernel, by decide +kernel⟩
set_option maxRecDepth 100000 in
theorem zTh_IOB : zTh 148 152 "java/lang/IndexOutOfBoundsException" := by
  refine ⟨by decide +kernel, by decide +kernel, by decide +kernel, by decide +kernel, by decide +kernel, by decide +kernel, by decide +kernel⟩
set_option maxRecDepth 100000 in
theorem zTh_IAE : zTh 329 333 "java/lang/IllegalArgumentException" := by
  refine ⟨by decide +kernel, by decide +kernel, by decide +kernel, by decide +kernel, by decide +kernel, by decide +kernel, by decide +kernel⟩
theorem z_nm_fit : ∀ n ∈ z_nm, Bundle.fit n = true := by decide +kernel
theorem z_R.keep {g : zG} {M : zM} {H H1 : Heap} (h : z_R g M H) (o : ∀ q : Nat, q < H.size → H1[q]? = H[q]?) : z_R g M H1 := ⟨fun v e hv => (h.1 v e hv).kept (o _ (h.1 v e hv).lt), h.2⟩
theorem z_hdecl {g : zG} {s : State} {args : Array Value} (h : z_S g s) : ∀ w ∈ z_decl.map (fun q => Cond.declares ⟨q, "<init>", "(Ljava/lang/String;)V"⟩), w.before args s = true := fun w hw => by
  obtain ⟨q, hq, rfl⟩ := List.mem_map.mp hw
  exact va_Nw.use rfl (h.2.2.2.2.2.2.1.1.2 q hq)
section GX
variable {mi : zI} {d kc ks : Nat} {nx : Option Nat} {pc : Nat} {L : List (Nat × Value)} {S0 S : List Value} {M : zM} {F : zP}
variable {mi' : zI} {d' kc' ks' kc1 ks1 idx n b : Nat} {As : List Value} {F' : zP}
theorem z_thx {g : zG} {s : State} {H : Heap} {locs : List Loc} {cls : String} (h1 : z_R g M H) (hS : va_S (z_A g) s.heap H locs) (h : F M none (.inr cls)) : ∀ t : State, s.vm.Alike t.vm → H.size ≤ t.heap.size → (∀ q : Nat, q < H.size → t.heap[q]? = H[q]?) → z_X g F cls s t := fun t _ h2 h3 =>
  ⟨⟨M, h, h1.keep h3⟩, Nat.le_trans hS.1 h2, fun q q1 q2 => (h3 q (Nat.lt_of_lt_of_le q1 hS.1)).trans (hS.2.1 q q1 q2)⟩
theorem g_throw {ik is ic : Nat} {cls text : String} (hmi : mi.2.1 = RX5) (htb : mi.2.2.2.2.2 = ([], none)) (hT : zTh ik ic cls) (ht : (is, text) ∈ z_texts) (d0 : decode mi.2.2.1 pc = .ok (.new ik, 3)) (d3 : decode mi.2.2.1 (pc + 3) = .ok (.dup, 1)) (d4 : decode mi.2.2.1 (pc + 4) = .ok (.ldc is, 2)) (d6 : decode mi.2.2.1 (pc + 6) = .ok (.invokespecial ic, 3)) (d9 : decode mi.2.2.1 (pc + 9) = .ok (.athrow, 1)) (h1 : 6 ≤ d) (h2 : 1 ≤ kc) (h3 : 6 ≤ ks) (hS : (S.map fun v => v.category).sum ≤ 8) (h : F M none (.inr cls)) : G mi d kc ks nx pc L S M F := by
  intro l p e R s m args below meth c g mc ms C H locs cells slots ls X
  obtain ⟨t1, t2, t3, t4, t5, t6, t7⟩ := hT
  have hts := C.2.2.2.2.2.2.2.1
  have r1 := C.2.2.2.2.2.2.2.2.2.2.2.1
  have r2 := C.2.2.2.2.2.2.2.2.2.2.2.2.1
  have r3 := C.2.2.2.2.2.2.2.2.2.2.2.2.2.1
  have r4 := C.2.2.2.2.2.2.2.2.2.2.2.2.2.2.1
  have hSs := C.2.2.2.2.2.2.2.2.2.1
  obtain ⟨x1, x2, x3, x4, x5, x6⟩ := X
  obtain ⟨sa, hsa⟩ := hSs.2.2.2.1 _ ht
  have hown := C.2.2.2.2.2.2.1
  rw [hmi] at hown
  have htab : ∀ x ∈ c.exceptionTable.toList, covers x (pc + 9) = false := by
    rw [C.2.2.2.2.2.1 (by rw [htb]), htb]
    intro x hx
    cases hx
  have hroom := z_room g.1 hS
  refine vx_throwS (A := z_A g) C.1 C.2.1 C.2.2.2.2.2.2.2.2.2.2.2.2.2.2.2 (own := RX5) (cls := cls) (text := text) (names := z_nm) (sa := sa) hown t6 z_nm_fit (hts _ t1) (hts _ t2) hsa (vx_hat (fun w hw => hts w (t3 w hw)) t4 (vx_c (va_Nw.use rfl (hSs.2.2.2.2.2.2.1.1.1 _ t7)) (z_hdecl hSs))) t5 hSs.2.2.1.1 hSs.2.2.1.2 x3 (x4.1.trans C.2.2.1.symm) d0 d3 d4 d6 d9 htab (by show 5 < R.frames; omega) (by show _ + 82 ≤ R.locals; omega) (by omega) (by omega) C.2.2.2.2.1 (z_thx x1 x3 h) x3.2.2 (by omega) (by omega)
theorem g_throwW {ik is ic : Nat} {cls text : String} (hmi : mi.2.1 = RX5) (htb : mi.2.2.2.2.2 = ([], none)) (hT : zTh ik ic cls) (ht : (is, text) ∈ z_texts) (d0 : decode mi.2.2.1 pc = .ok (.new ik, 3)) (d3 : decode mi.2.2.1 (pc + 3) = .ok (.dup, 1)) (d4 : decode mi.2.2.1 (pc + 4) = .ok (.ldc_w is, 3)) (d7 : decode mi.2.2.1 (pc + 7) = .ok (.invokespecial ic, 3)) (d10 : decode mi.2.2.1 (pc + 10) = .ok (.athrow, 1)) (h1 : 6 ≤ d) (h2 : 1 ≤ kc) (h3 : 6 ≤ ks) (hS : (S.map fun v => v.category).sum ≤ 8) (h : F M none (.inr cls)) : G mi d kc ks nx pc L S M F := by
  intro l p e R s m args below meth c g mc ms C H locs cells slots ls X
  obtain ⟨t1, t2, t3, t4, t5, t6, t7⟩ := hT
  have hts := C.2.2.2.2.2.2.2.1
  have r1 := C.2.2.2.2.2.2.2.2.2.2.2.1
  have r2 := C.2.2.2.2.2.2.2.2.2.2.2.2.1
  have r3 := C.2.2.2.2.2.2.2.2.2.2.2.2.2.1
  have r4 := C.2.2.2.2.2.2.2.2.2.2.2.2.2.2.1
  have hSs := C.2.2.2.2.2.2.2.2.2.1
  obtain ⟨x1, x2, x3, x4, x5, x6⟩ := X
  obtain ⟨sa, hsa⟩ := hSs.2.2.2.1 _ ht
  have hown := C.2.2.2.2.2.2.1
  rw [hmi] at hown
  have htab : ∀ x ∈ c.exceptionTable.toList, covers x (pc + 10) = false := by
    rw [C.2.2.2.2.2.1 (by rw [htb]), htb]
    intro x hx
    cases hx
  have hroom := z_room g.1 hS
  refine vx_throwSW (A := z_A g) C.1 C.2.1 C.2.2.2.2.2.2.2.2.2.2.2.2.2.2.2 (own := RX5) (cls := cls) (text := text) (names := z_nm) (sa := sa) hown t6 z_nm_fit (hts _ t1) (hts _ t2) hsa (vx_hat (fun w hw => hts w (t3 w hw)) t4 (vx_c (va_Nw.use rfl (hSs.2.2.2.2.2.2.1.1.1 _ t7)) (z_hdecl hSs))) t5 hSs.2.2.1.1 hSs.2.2.1.2 x3 (x4.1.trans C.2.2.1.symm) d0 d3 d4 d7 d10 htab (by show 5 < R.frames; omega) (by show _ + 82 ≤ R.locals; omega) (by omega) (by omega) C.2.2.2.2.1 (z_thx x1 x3 h) x3.2.2 (by omega) (by omega)
/-- behind a call that may throw: it returns, or throws and is not caught here, or is caught -/
theorem z_xrun {g : zG} {l : Launch} {p : Program} {e : Env} {R : Room} {s : State} {m : MethodId} {args : Array Value} {below : List Frame} {meth : Method} {c : Code} {mc ms : Nat} (C : z_C mi d g l p R s m args meth c mc ms) {H : Heap} {locs : List Loc} {cells slots : Nat} {ls : Array Slot} (X : z_H mi kc ks nx L M g s H locs cells slots ls mc ms) {st0 : List Value} {a : Array Value} (hr : vx_Run p l e R s m args below meth c H locs cells slots kc' ks' (F0 m pc ls st0) (S.map (z_v g.1)) (z_Q g F' a) (z_X g F') (z_A g)) (h2 : kc1 + kc' ≤ kc) (h3 : ks1 + ks' ≤ ks)
    (k : ∀ M1 nx1 v, F' M1 nx1 (.inl v) → G mi d kc1 ks1 nx1 (pc + 3) L (zp v S) M1 F)
    (kx : ∀ (M1 : zM) (E : String) (H1 : Heap) (locs1 : List Loc) (cl sl : Nat) (q : Addr) (ce : Cell), F' M1 none (.inr E) → z_H mi kc1 ks1 none L M1 g s H1 locs1 cl sl ls mc ms → H1[q]? = some ce → ce.vm = .none → s.vm.findClass E = some ce.cls → vx_W p l e R s m args below meth c H1 locs1 cl sl (vx_MQ below (z_Q g F) (z_X g F) args s mc ms (z_A g)) (F0 m pc ls (S.map (z_v g.1))) q) :
    W p l e R s m args below meth c H locs cells slots (vx_MQ below (z_Q g F) (z_X g F) args s mc ms (z_A g)) (F0 m pc ls st0) := by
  intro T hT Y
  rcases hr T hT Y with ⟨v, st, t, T', Ls, h0, Y', hL, e1, e2, hq, stp⟩ | ⟨q, st, t, T', Ls, E, ce, h0, Y', hL, e1, e2, ⟨⟨M1, b1, b2⟩, hF⟩, hce, hcv, hcl, stp⟩
  · obtain ⟨M1, nx1, v1, rfl, b2, X1⟩ := z_back C X h0 e1 hL hq rfl h2 h3
    obtain ⟨t2, a1, a2⟩ := k M1 nx1 v1 b2 l p e R s m args below meth c g mc ms C _ _ _ _ ls X1 T' rfl Y'
    exact ⟨t2, stp t2 (by show Steps p.tables e below (T'.setTop (F0 m (pc + 3) ls ((v1.map (z_v g.1)).toList ++ S.map (z_v g.1)))) t2; rw [zp_map]; exact a1), a2⟩
  · obtain ⟨x1, x2, x3, x4, x5, x6⟩ := X
    obtain ⟨t2, a1, a2⟩ := kx M1 E T'.heap (locs ++ Ls) (cells + kc') (slots + ks') q ce b1 ⟨by rw [e1]; exact b2, (fun n hn => nomatch hn), (vx_keep h0 e1 x3 (fun q _ h => h) (fun q h => h) hL hF).2.2, x4, by omega, by omega⟩ (by rw [e1]; exact hce) hcv hcl T' rfl Y'
    exact ⟨t2, stp.trans a1, a2⟩
theorem z_xout {g : zG} {l : Launch} {p : Program} {e : Env} {R : Room} {s : State} {m : MethodId} {args : Array Value} {below : List Frame} {meth : Method} {c : Code} {mc ms : Nat} (C : z_C mi d g l p R s m args meth c mc ms) (htb : mi.2.2.2.2.2 = ([], none)) {H : Heap} {locs : List Loc} {cells slots : Nat} {ls : Array Slot} (X : z_H mi kc ks none L M g s H locs cells slots ls mc ms) {E : String} {q : Addr} {ce : Cell} {st : List Value} (h1 : H[q]? = some ce) (h2 : ce.vm = .none) (h3 : s.vm.findClass E = some ce.cls) (h : F M none (.inr E)) : vx_W p l e R s m args below meth c H locs cells slots (vx_MQ below (z_Q g F) (z_X g F) args s mc ms (z_A g)) (F0 m pc ls st) q := by
  obtain ⟨x1, x2, x3, x4, x5, x6⟩ := X
  refine vx_out (by rw [C.2.2.2.2.2.1 (by rw [htb]), htb]; intro x hx; cases hx) C.2.2.2.2.1 h1 h2 h3 (fun t ht ha => z_thx x1 x3 h t ha (by rw [ht]; exact Nat.le_refl _) (fun q _ => by rw [ht])) x3.2.2 (by omega) (by omega)
theorem g_callSx (htb : mi.2.2.2.2.2 = ([], none)) (hc : Cn mi' d' kc' ks' nx As M F') (ho : zok mi' n) (hoc : zoc mi') (hl : zLS mi.2.1 idx mi') (hd : decode mi.2.2.1 pc = .ok (.invokestatic idx, 3)) (hs : S0 = As.reverse ++ S) (hA : As.length = n) (hg : (lg_sl As).length ≤ mi'.2.2.2.1) (hS : (S.map fun v => v.category).sum ≤ 8) (h1 : d' + 1 ≤ d) (h2 : kc1 + kc' ≤ kc) (h3 : ks1 + ks' ≤ ks) (kx : ∀ M1 E, F' M1 none (.inr E) → F M1 none (.inr E))
    (k : ∀ M1 nx1 v, F' M1 nx1 (.inl v) → G mi d kc1 ks1 nx1 (pc + 3) L (zp v S) M1 F) : G mi d kc ks nx pc L S0 M F := by
  intro l p e R s m args below meth c g mc ms C H locs cells slots ls X
  have hCn := hc.vmet C.2.2.2.2.2.2.2.2.2.2.2.2.2.2.2 (g := g) C.2.2.2.2.2.2.2.2.2.2.1 hg ho hoc
  have hts := C.2.2.2.2.2.2.2.1
  have r3 := C.2.2.2.2.2.2.2.2.2.2.2.2.2.1
  have r4 := C.2.2.2.2.2.2.2.2.2.2.2.2.2.2.1
  have x5 := X.2.2.2.2.1
  have x6 := X.2.2.2.2.2
  refine z_xrun C X (vx_runS (As := As.map (z_v g.1)) (rest := S.map (z_v g.1)) (index := idx) ⟨C.1, C.2.1, C.2.2.1, C.2.2.2.2.2.2.1, hts⟩ hCn ⟨z_cb C ho hoc hl.1 h1, hts _ hl.2⟩ ⟨z_blind _ _ _ _, z_pre C.2.2.2.2.2.2.2.2.2.1 X.1 X.2.1 X.2.2.1⟩ rfl (by rw [List.length_map]; exact hA) X.2.2.2.1.1 (by rw [hs, List.map_append, List.map_reverse]) (lv_room (z_room g.1 hS)) hd ⟨by omega, by omega⟩) h2 h3 k (fun M1 E H1 locs1 cl sl q ce b1 X1 hce hcv hcl => z_xout C htb X1 hce hcv hcl (kx M1 E b1))
/-- which row of the table takes E, thrown at pc -/
def zH (mi : zI) (pc : Nat) (E : String) (hp : Nat) : Prop := E ∈ z_xs ∧ ∃ (pre suf : List (Nat × Nat × Nat × Nat)) (x : Nat × Nat × Nat × Nat), mi.2.2.2.2.2.1 = pre ++ x :: suf ∧ (∀ z ∈ pre, z.2.2.2 ≠ 0 ∧ ∃ nm ∈ z_xs, E ≠ nm ∧ Cond.classLink mi.2.1 z.2.2.2 nm ∈ SW) ∧ covers ⟨x.1, x.2.1, x.2.2.1, x.2.2.2⟩ pc = true ∧ x.2.2.2 ≠ 0 ∧ Cond.classLink mi.2.1 x.2.2.2 E ∈ SW ∧ x.2.2.1 = hp
theorem z_L_zf1b {g : zG} {L : List (Nat × Value)} {i : Nat} {v : Value} : ∀ q ∈ z_L g (zf1 i L), q ∈ (i, v) :: (z_L g L).filter (fun q => !(q.1 == i) && !(q.1 + 1 == i && q.2.category == 2)) := by
  intro q hq
  obtain ⟨q0, h0, rfl⟩ := List.mem_map.mp hq
  have h := z_L_zf1 (g := g) (v := .null) (i := i) (q0.1, z_v g.1 q0.2) (List.mem_cons_of_mem _ (List.mem_map.mpr ⟨q0, h0, rfl⟩))
  rcases List.mem_cons.mp h with h | h
  · exact ((zf1_mem h0).2.1 (congrArg Prod.fst h)).elim
  · exact List.mem_cons_of_mem _ h
/-- a static call of a method with handlers, that doesn't throw -/
def zoh (mi : zI) : Prop := mi.2.2.2.2.2.2 = none ∧ Cond.codeWith mi.1 mi.2.2.1 mi.2.2.2.1 mi.2.2.2.2.1 mi.2.2.2.2.2.1 ∈ SW
theorem Cn.metH {mi : zI} {d kc ks : Nat} {nx : Option Nat} {As : List Value} {M : zM} {F : zP} (h : Cn mi d kc ks nx As M F) (hno : ∀ M nx E, ¬ F M nx (.inr E)) {l : Launch} (hl : l.stackTraces = false) {g : zG} (hg : ∀ v, 8 ≤ v → g.2.2.2 ≤ g.1 v) (hn : (lg_sl As).length ≤ mi.2.2.2.1) {n : Nat} (ho : zok mi n) (hz : mi.2.2.2.2.2.2 = none) :
    Met l mi.1 (Cond.codeWith mi.1 mi.2.2.1 mi.2.2.2.1 mi.2.2.2.2.1 mi.2.2.2.2.2.1 :: SW) { frames := d, cells := kc, slots := ks, locals := 40 * d } (z_Pc g nx As M) (z_Q g F) kc ks (z_A g) := by
  have h1 : vx_Met l mi.1 (Cond.codeWith mi.1 mi.2.2.1 mi.2.2.2.1 mi.2.2.2.2.1 mi.2.2.2.2.2.1 :: SW) { frames := d, cells := kc, slots := ks, locals := 40 * d } (z_Pc g nx As M) (z_Q g F) (z_X g F) kc ks (z_A g) := by
    refine vx_ofWH (cc := mi.2.2.1) (maxL := mi.2.2.2.1) (ret := mi.2.2.2.2.1) (hh := mi.2.2.2.2.2.1) ho.1 rfl ?_
    intro p e s m args below meth c s₁ B hml hP
    exact h.body hl hg hn ho.2.1 hz (fun w hw => List.mem_cons_of_mem _ hw) B hml (vx_table (x := mi.1) B (atoms_spec (ws := Cond.codeWith mi.1 mi.2.2.1 mi.2.2.2.1 mi.2.2.2.2.1 mi.2.2.2.2.2.1 :: SW) B.pre _ List.mem_cons_self)) hP
  intro p e ha hcs hk s m args below hf hfit hP hK
  obtain ⟨n, o, a1, a2, a3, a4⟩ := h1 p e ha hcs hk s m args below hf hfit hP hK
  refine ⟨n, o, a1, a2, a3, ?_⟩
  rcases a4 with a4 | ⟨q, -, E, ce, Ls, ⟨⟨M1, b1, -⟩, -⟩, -⟩
  · exact a4
  · exact (hno _ _ _ b1).elim
theorem g_callSW (hc : Cn mi' d' kc' ks' nx As M F') (ho : zok mi' n) (hoc : zoh mi') (hl : zLS mi.2.1 idx mi') (hd : decode mi.2.2.1 pc = .ok (.invokestatic idx, 3)) (hs : S0 = As.reverse ++ S) (hA : As.length = n) (hg : (lg_sl As).length ≤ mi'.2.2.2.1) (hS : (S.map fun v => v.category).sum ≤ 8) (h1 : d' + 1 ≤ d) (h2 : kc1 + kc' ≤ kc) (h3 : ks1 + ks' ≤ ks) (hno : ∀ M nx E, ¬ F' M nx (.inr E))
    (k : ∀ M1 nx1 v, F' M1 nx1 (.inl v) → G mi d kc1 ks1 nx1 (pc + 3) L (zp v S) M1 F) : G mi d kc ks nx pc L S0 M F := by
  intro l p e R s m args below meth c g mc ms C H locs cells slots ls X
  have hCn := hc.metH hno C.2.2.2.2.2.2.2.2.2.2.2.2.2.2.2 (g := g) C.2.2.2.2.2.2.2.2.2.2.1 hg ho hoc.1
  have hts := C.2.2.2.2.2.2.2.1
  have r1 := C.2.2.2.2.2.2.2.2.2.2.2.1
  have r2 := C.2.2.2.2.2.2.2.2.2.2.2.2.1
  have r3 := C.2.2.2.2.2.2.2.2.2.2.2.2.2.1
  have r4 := C.2.2.2.2.2.2.2.2.2.2.2.2.2.2.1
  have x5 := X.2.2.2.2.1
  have x6 := X.2.2.2.2.2
  obtain ⟨o1, o2, o3, o4, o5, o6⟩ := ho
  refine z_run C X (vx_runSW (As := As.map (z_v g.1)) (rest := S.map (z_v g.1)) (index := idx) (n := n) (hh := mi'.2.2.2.2.2.1) (bytes := mi'.2.2.1) (maxL := mi'.2.2.2.1) (ret := mi'.2.2.2.2.1) ⟨C.1, C.2.1, C.2.2.1, C.2.2.2.2.2.2.1, hts⟩ hCn ⟨⟨rfl, rfl, by show d' + 1 ≤ R.frames; omega, by show 8 + (mi'.2.2.2.1 + 11) + 40 * d' ≤ R.locals; omega, z_all hts hoc.2, List.mem_cons_self⟩, hts _ hoc.2, hts _ o6, o3, fun sig h => ?_, hts _ hl.1, hts _ hl.2⟩ ⟨z_blind _ _ _ _, z_pre C.2.2.2.2.2.2.2.2.2.1 X.1 X.2.1 X.2.2.1⟩ rfl (by rw [List.length_map]; exact hA) X.2.2.2.1.1 (by rw [hs, List.map_append, List.map_reverse]) (lv_room (z_room g.1 hS)) hd ⟨by omega, by omega⟩) h2 h3 k
  rw [h] at o4
  exact (Option.some.inj o4).symm
/-- Math.min of two ints -/
theorem g_min {x y : Int32} (hl : Cond.methodLink mi.2.1 idx Lib.Math.min.name ∈ SW ∧ Cond.static Lib.Math.min.name ∈ SW ∧ Cond.initialized "java/lang/Math" ∈ SW ∧ Cond.code Lib.Math.min.name Lib.Math.min.code 2 (some .int) ∈ SW) (hd : decode mi.2.2.1 pc = .ok (.invokestatic idx, 3)) (h1 : 1 ≤ d) (hS : (S.map fun v => v.category).sum ≤ 8) (k : G mi d kc ks nx (pc + 3) L (.int (if y < x then y else x) :: S) M F) : G mi d kc ks nx pc L (.int y :: .int x :: S) M F := by
  intro l p e R s m args below meth c g mc ms C H locs cells slots ls X
  have hts := C.2.2.2.2.2.2.2.1
  have r1 := C.2.2.2.2.2.2.2.2.2.2.2.1
  have r2 := C.2.2.2.2.2.2.2.2.2.2.2.2.1
  have r3 := C.2.2.2.2.2.2.2.2.2.2.2.2.2.1
  have r4 := C.2.2.2.2.2.2.2.2.2.2.2.2.2.2.1
  have hr := z_room g.1 hS
  have x5 := X.2.2.2.2.1
  have x6 := X.2.2.2.2.2
  exact va_mmin C.1 C.2.1 (C.2.2.1.trans X.2.2.2.1.1.symm) C.2.2.2.2.2.2.1 (hts _ hl.1) (hts _ hl.2.1) (hts _ hl.2.2.1) (hts _ hl.2.2.2) (by omega) (by omega) (by omega) (by omega) hd (k l p e R s m args below meth c g mc ms C H locs cells slots ls X)
end GX
