/-! the law's rules: what a callee leaves behind is forgotten, the next address goes on -/
/-- the answer alone: the next address may be any -/
def zqI (r : Int32) (P : zM → Prop) : zP := fun M _ o => o = .inl (some (.int r)) ∧ P M
def zqV (P : zM → Prop) : zP := fun M _ o => o = .inl none ∧ P M
def nf (n : Nat) (M M1 : zM) : Prop := ∀ q, n ≤ q → M q = none → M1 q = none
theorem nf_r (n : Nat) (M : zM) : nf n M M := fun _ _ h => h
theorem nf_c {M0 : zM} {Y Y' : Nat → Nat → Nat} {n : Nat} (hn : 236 ≤ n) : nf n (cM M0 Y) (cM M0 Y') := fun q hq h => by
  have hk : kq q = 99 := by
    unfold kq
    rw [show Nat.ble 233 q = true from Nat.ble_eq_true_of_le (by omega)]
    rfl
  rw [cM_o hk] at h ⊢
  exact h
theorem nf_u {M : zM} {n t : Nat} {e : zE} (ht : M t ≠ none) : nf n M (zu M t e) := fun q _ h => by
  have hq : q ≠ t := fun he => ht (by rw [← he]; exact h)
  rw [zu_n _ _ hq]
  exact h
section LX
variable {mi : zI} {d kc ks : Nat} {nx : Option Nat} {pc : Nat} {L : List (Nat × Value)} {S0 S : List Value} {M : zM} {F : zP}
variable {mi' : zI} {d' kc' ks' kc1 ks1 idx n b n0 : Nat} {As : List Value} {F' : zP}
theorem z_backn {g : zG} {l : Launch} {p : Program} {R : Room} {s : State} {m : MethodId} {args : Array Value} {meth : Method} {c : Code} {mc ms : Nat} (C : z_C mi d g l p R s m args meth c mc ms) {H : Heap} {locs : List Loc} {cells slots : Nat} {ls : Array Slot} (X : z_H mi kc ks (some n0) L M g s H locs cells slots ls mc ms) {T' st t : State} {Ls : List Loc} {oc : Outcome} {v : Option Value} (h0 : st.heap = H) (e1 : T'.heap = t.heap) (hL : ∀ q ∈ Ls, z_A g q.base) (hq : (∃ (M : zM) (nx : Option Nat) (v : Option Value), oc = .returned (v.map (z_v g.1)) ∧ F' M nx (.inl v) ∧ z_R g M t.heap ∧ z_N g nx M t.heap) ∧ va_F (z_A g) st t) (hv : oc = .returned v) (h2 : kc1 + kc' ≤ kc) (h3 : ks1 + ks' ≤ ks) (hsup : ∀ M1 nx1 v, F' M1 nx1 (.inl v) → nf n0 M M1) :
    ∃ (M1 : zM) (nx1 : Option Nat) (v1 : Option Value) (n' : Nat), n0 ≤ n' ∧ v = v1.map (z_v g.1) ∧ F' M1 nx1 (.inl v1) ∧ z_H mi kc1 ks1 (some n') L M1 g s T'.heap (locs ++ Ls) (cells + kc') (slots + ks') ls mc ms := by
  obtain ⟨⟨M1, nx1, v1, b1, b2, b3, b4⟩, hF⟩ := hq
  obtain ⟨x1, x2, x3, x4, x5, x6⟩ := X
  rw [b1] at hv
  have hsz : H.size ≤ t.heap.size := by rw [← h0]; exact hF.1
  have hN := x2 n0 rfl
  refine ⟨M1, nx1, v1, n0 + (t.heap.size - H.size), by omega, (Outcome.returned.inj hv).symm, b2, by rw [e1]; exact b3, ?_, ?_, x4, by omega, by omega⟩
  · intro n' hn'
    cases hn'
    refine ⟨by omega, fun v hv => ?_⟩
    have h4 := hN.2 v (by omega)
    refine ⟨by rw [e1]; omega, hsup _ _ _ b2 v (by omega) h4.2⟩
  · exact (vx_keep h0 e1 x3 (fun q _ h => h) (fun q h => h) hL hF).2.2
theorem z_runn {g : zG} {l : Launch} {p : Program} {e : Env} {R : Room} {s : State} {m : MethodId} {args : Array Value} {below : List Frame} {meth : Method} {c : Code} {mc ms : Nat} (C : z_C mi d g l p R s m args meth c mc ms) {H : Heap} {locs : List Loc} {cells slots : Nat} {ls : Array Slot} (X : z_H mi kc ks (some n0) L M g s H locs cells slots ls mc ms) {st0 : List Value} {a : Array Value} (hr : va_Run p l e R s m args below meth c H locs cells slots kc' ks' (F0 m pc ls st0) (S.map (z_v g.1)) (z_Q g F' a) (z_A g)) (h2 : kc1 + kc' ≤ kc) (h3 : ks1 + ks' ≤ ks) (hsup : ∀ M1 nx1 v, F' M1 nx1 (.inl v) → nf n0 M M1)
    (k : ∀ M1 nx1 v n', n0 ≤ n' → F' M1 nx1 (.inl v) → G mi d kc1 ks1 (some n') (pc + 3) L (zp v S) M1 F) :
    W p l e R s m args below meth c H locs cells slots (vx_MQ below (z_Q g F) (z_X g F) args s mc ms (z_A g)) (F0 m pc ls st0) := by
  intro T hT Y
  obtain ⟨v, st, t, T', Ls, h0, Y', hL, e1, e2, hq, stp⟩ := hr T hT Y
  obtain ⟨M1, nx1, v1, n', hn', rfl, b2, X1⟩ := z_backn C X h0 e1 hL hq rfl h2 h3 hsup
  obtain ⟨t2, a1, a2⟩ := k M1 nx1 v1 n' hn' b2 l p e R s m args below meth c g mc ms C _ _ _ _ ls X1 T' rfl Y'
  exact ⟨t2, stp t2 (by show Steps p.tables e below (T'.setTop (F0 m (pc + 3) ls ((v1.map (z_v g.1)).toList ++ S.map (z_v g.1)))) t2; rw [zp_map]; exact a1), a2⟩
theorem g_callVn {ci : Nat} {fs : List Value} {r : vw_C} (hc : Cn mi' d' kc' ks' none (.ref b :: As) M F') (ho : zok mi' n) (hoc : zoc mi') (hl : zLV mi.2.1 idx mi') (hd : decode mi.2.2.1 pc = .ok (.invokevirtual idx, 3)) (hs : S0 = As.reverse ++ .ref b :: S) (hM : M b = some (.inr (ci, fs))) (hci : vwCl[ci]? = some r) (hr : r.1 = mi'.1.cls) (hA : As.length = n) (hg : (lg_sl (.ref b :: As)).length ≤ mi'.2.2.2.1) (hS : (S.map fun v => v.category).sum ≤ 8) (h1 : d' + 1 ≤ d) (h2 : kc1 + kc' ≤ kc) (h3 : ks1 + ks' ≤ ks) (hno : ∀ M nx E, ¬ F' M nx (.inr E)) (hsup : ∀ M1 nx1 v, F' M1 nx1 (.inl v) → nf n0 M M1)
    (k : ∀ M1 nx1 v n', n0 ≤ n' → F' M1 nx1 (.inl v) → G mi d kc1 ks1 (some n') (pc + 3) L (zp v S) M1 F) : G mi d kc ks (some n0) pc L S0 M F := by
  intro l p e R s m args below meth c g mc ms C H locs cells slots ls X
  have hCn := (show Cn mi' d' kc' ks' (some n0) (.ref b :: As) M F' from G.none hc).met hno C.2.2.2.2.2.2.2.2.2.2.2.2.2.2.2 (g := g) C.2.2.2.2.2.2.2.2.2.2.1 hg ho hoc
  have hts := C.2.2.2.2.2.2.2.1
  have r3 := C.2.2.2.2.2.2.2.2.2.2.2.2.2.1
  have r4 := C.2.2.2.2.2.2.2.2.2.2.2.2.2.2.1
  have x5 := X.2.2.2.2.1
  have x6 := X.2.2.2.2.2
  refine z_runn C X (va_runV (C := mi'.1.cls) (As := As.map (z_v g.1)) (b := g.1 b) (rest := S.map (z_v g.1)) (index := idx) ⟨C.1, C.2.1, C.2.2.1, C.2.2.2.2.2.2.1, hts⟩ hCn ⟨z_cb C ho hoc hl.1 h1, hts _ hl.2.1, hts _ hl.2.2⟩ ⟨z_blind _ _ _ _, by rw [← hr]; exact z_recv C.2.2.2.2.2.2.2.2.2.1 X.1 hM hci, z_pre C.2.2.2.2.2.2.2.2.2.1 X.1 X.2.1 X.2.2.1⟩ rfl (by rw [List.length_map]; exact hA) X.2.2.2.1.1 (by rw [hs, List.map_append, List.map_reverse]; rfl) (lv_room (z_room g.1 hS)) hd ⟨by omega, by omega⟩) h2 h3 hsup k
theorem g_callSn (hc : Cn mi' d' kc' ks' (some n0) As M F') (ho : zok mi' n) (hoc : zoc mi') (hl : zLS mi.2.1 idx mi') (hd : decode mi.2.2.1 pc = .ok (.invokestatic idx, 3)) (hs : S0 = As.reverse ++ S) (hA : As.length = n) (hg : (lg_sl As).length ≤ mi'.2.2.2.1) (hS : (S.map fun v => v.category).sum ≤ 8) (h1 : d' + 1 ≤ d) (h2 : kc1 + kc' ≤ kc) (h3 : ks1 + ks' ≤ ks) (hno : ∀ M nx E, ¬ F' M nx (.inr E)) (hsup : ∀ M1 nx1 v, F' M1 nx1 (.inl v) → nf n0 M M1)
    (k : ∀ M1 nx1 v n', n0 ≤ n' → F' M1 nx1 (.inl v) → G mi d kc1 ks1 (some n') (pc + 3) L (zp v S) M1 F) : G mi d kc ks (some n0) pc L S0 M F := by
  intro l p e R s m args below meth c g mc ms C H locs cells slots ls X
  have hCn := hc.met hno C.2.2.2.2.2.2.2.2.2.2.2.2.2.2.2 (g := g) C.2.2.2.2.2.2.2.2.2.2.1 hg ho hoc
  have hts := C.2.2.2.2.2.2.2.1
  have r3 := C.2.2.2.2.2.2.2.2.2.2.2.2.2.1
  have r4 := C.2.2.2.2.2.2.2.2.2.2.2.2.2.2.1
  have x5 := X.2.2.2.2.1
  have x6 := X.2.2.2.2.2
  refine z_runn C X (va_runS (As := As.map (z_v g.1)) (rest := S.map (z_v g.1)) (index := idx) ⟨C.1, C.2.1, C.2.2.1, C.2.2.2.2.2.2.1, hts⟩ hCn ⟨z_cb C ho hoc hl.1 h1, hts _ hl.2⟩ ⟨z_blind _ _ _ _, z_pre C.2.2.2.2.2.2.2.2.2.1 X.1 X.2.1 X.2.2.1⟩ rfl (by rw [List.length_map]; exact hA) X.2.2.2.1.1 (by rw [hs, List.map_append, List.map_reverse]) (lv_room (z_room g.1 hS)) hd ⟨by omega, by omega⟩) h2 h3 hsup k
theorem g_callVn_i {ci : Nat} {fs : List Value} {r : vw_C} {x : Int32} {P : zM → Prop} (hc : Cn mi' d' 0 0 none (.ref b :: As) M (zi x P)) (ho : zok mi' n) (hoc : zoc mi') (hl : zLV mi.2.1 idx mi') (hd : decode mi.2.2.1 pc = .ok (.invokevirtual idx, 3)) (hs : S0 = As.reverse ++ .ref b :: S) (hM : M b = some (.inr (ci, fs))) (hci : vwCl[ci]? = some r) (hr : r.1 = mi'.1.cls) (hA : As.length = n) (hg : (lg_sl (.ref b :: As)).length ≤ mi'.2.2.2.1) (hS : (S.map fun v => v.category).sum ≤ 8) (h1 : d' + 1 ≤ d) (hsup : ∀ M1, P M1 → nf n0 M M1)
    (k : ∀ M1 n', n0 ≤ n' → P M1 → G mi d kc ks (some n') (pc + 3) L (.int x :: S) M1 F) : G mi d kc ks (some n0) pc L S0 M F := by
  refine g_callVn hc ho hoc hl hd hs hM hci hr hA hg hS h1 (Nat.le_refl _) (Nat.le_refl _) ?_ ?_ ?_
  · rintro M1 nx1 E ⟨-, h, -⟩
    cases h
  · rintro M1 nx1 v ⟨-, -, h⟩
    exact hsup _ h
  · rintro M1 nx1 v n' hn' ⟨-, h, hP⟩
    cases h
    exact k M1 n' hn' hP
theorem g_callVn_d {ci : Nat} {fs : List Value} {r : vw_C} {x : UInt64} {P : zM → Prop} (hc : Cn mi' d' 0 0 none (.ref b :: As) M (zd x P)) (ho : zok mi' n) (hoc : zoc mi') (hl : zLV mi.2.1 idx mi') (hd : decode mi.2.2.1 pc = .ok (.invokevirtual idx, 3)) (hs : S0 = As.reverse ++ .ref b :: S) (hM : M b = some (.inr (ci, fs))) (hci : vwCl[ci]? = some r) (hr : r.1 = mi'.1.cls) (hA : As.length = n) (hg : (lg_sl (.ref b :: As)).length ≤ mi'.2.2.2.1) (hS : (S.map fun v => v.category).sum ≤ 8) (h1 : d' + 1 ≤ d) (hsup : ∀ M1, P M1 → nf n0 M M1)
    (k : ∀ M1 n', n0 ≤ n' → P M1 → G mi d kc ks (some n') (pc + 3) L (.double x :: S) M1 F) : G mi d kc ks (some n0) pc L S0 M F := by
  refine g_callVn hc ho hoc hl hd hs hM hci hr hA hg hS h1 (Nat.le_refl _) (Nat.le_refl _) ?_ ?_ ?_
  · rintro M1 nx1 E ⟨-, h, -⟩
    cases h
  · rintro M1 nx1 v ⟨-, -, h⟩
    exact hsup _ h
  · rintro M1 nx1 v n' hn' ⟨-, h, hP⟩
    cases h
    exact k M1 n' hn' hP
theorem g_callVn_g {ci : Nat} {fs : List Value} {r : vw_C} {x : UInt32} {P : zM → Prop} (hc : Cn mi' d' 0 0 none (.ref b :: As) M (zg x P)) (ho : zok mi' n) (hoc : zoc mi') (hl : zLV mi.2.1 idx mi') (hd : decode mi.2.2.1 pc = .ok (.invokevirtual idx, 3)) (hs : S0 = As.reverse ++ .ref b :: S) (hM : M b = some (.inr (ci, fs))) (hci : vwCl[ci]? = some r) (hr : r.1 = mi'.1.cls) (hA : As.length = n) (hg : (lg_sl (.ref b :: As)).length ≤ mi'.2.2.2.1) (hS : (S.map fun v => v.category).sum ≤ 8) (h1 : d' + 1 ≤ d) (hsup : ∀ M1, P M1 → nf n0 M M1)
    (k : ∀ M1 n', n0 ≤ n' → P M1 → G mi d kc ks (some n') (pc + 3) L (.float x :: S) M1 F) : G mi d kc ks (some n0) pc L S0 M F := by
  refine g_callVn hc ho hoc hl hd hs hM hci hr hA hg hS h1 (Nat.le_refl _) (Nat.le_refl _) ?_ ?_ ?_
  · rintro M1 nx1 E ⟨-, h, -⟩
    cases h
  · rintro M1 nx1 v ⟨-, -, h⟩
    exact hsup _ h
  · rintro M1 nx1 v n' hn' ⟨-, h, hP⟩
    cases h
    exact k M1 n' hn' hP
theorem g_callSn_i {x : Int32} {P : zM → Prop} (hc : Cn mi' d' kc' ks' (some n0) As M (zqI x P)) (ho : zok mi' n) (hoc : zoc mi') (hl : zLS mi.2.1 idx mi') (hd : decode mi.2.2.1 pc = .ok (.invokestatic idx, 3)) (hs : S0 = As.reverse ++ S) (hA : As.length = n) (hg : (lg_sl As).length ≤ mi'.2.2.2.1) (hS : (S.map fun v => v.category).sum ≤ 8) (h1 : d' + 1 ≤ d) (h2 : kc1 + kc' ≤ kc) (h3 : ks1 + ks' ≤ ks) (hsup : ∀ M1, P M1 → nf n0 M M1)
    (k : ∀ M1 n', n0 ≤ n' → P M1 → G mi d kc1 ks1 (some n') (pc + 3) L (.int x :: S) M1 F) : G mi d kc ks (some n0) pc L S0 M F := by
  refine g_callSn hc ho hoc hl hd hs hA hg hS h1 h2 h3 ?_ ?_ ?_
  · rintro M1 nx1 E ⟨h, -⟩
    cases h
  · rintro M1 nx1 v ⟨-, h⟩
    exact hsup _ h
  · rintro M1 nx1 v n' hn' ⟨h, hP⟩
    cases h
    exact k M1 n' hn' hP
theorem g_callSn_v {P : zM → Prop} (hc : Cn mi' d' kc' ks' (some n0) As M (zqV P)) (ho : zok mi' n) (hoc : zoc mi') (hl : zLS mi.2.1 idx mi') (hd : decode mi.2.2.1 pc = .ok (.invokestatic idx, 3)) (hs : S0 = As.reverse ++ S) (hA : As.length = n) (hg : (lg_sl As).length ≤ mi'.2.2.2.1) (hS : (S.map fun v => v.category).sum ≤ 8) (h1 : d' + 1 ≤ d) (h2 : kc1 + kc' ≤ kc) (h3 : ks1 + ks' ≤ ks) (hsup : ∀ M1, P M1 → nf n0 M M1)
    (k : ∀ M1 n', n0 ≤ n' → P M1 → G mi d kc1 ks1 (some n') (pc + 3) L S M1 F) : G mi d kc ks (some n0) pc L S0 M F := by
  refine g_callSn hc ho hoc hl hd hs hA hg hS h1 h2 h3 ?_ ?_ ?_
  · rintro M1 nx1 E ⟨h, -⟩
    cases h
  · rintro M1 nx1 v ⟨-, h⟩
    exact hsup _ h
  · rintro M1 nx1 v n' hn' ⟨h, hP⟩
    cases h
    exact k M1 n' hn' hP
/-- what lies behind the next address is free -/
theorem g_free (k : (∀ v, n0 ≤ v → M v = none) → G mi d kc ks (some n0) pc L S M F) : G mi d kc ks (some n0) pc L S M F := by
  intro l p e R s m args below meth c g mc ms C H locs cells slots ls X
  exact k (fun v hv => ((X.2.1 n0 rfl).2 v hv).2) l p e R s m args below meth c g mc ms C H locs cells slots ls X
/-- cells that nobody needs any more -/
theorem g_drop {M' : zM} (h : ∀ v e, M' v = some e → M v = some e) (k : G mi d kc ks nx pc L S M' F) : G mi d kc ks nx pc L S M F := by
  intro l p e R s m args below meth c g mc ms C H locs cells slots ls X
  obtain ⟨x1, x2, x3⟩ := X
  have hn : ∀ v, M' v ≠ none → M v ≠ none := fun v hv => by
    cases hc : M' v with
    | none => exact absurd hc hv
    | some f => rw [h v f hc]; exact fun q => by cases q
  refine k l p e R s m args below meth c g mc ms C H locs cells slots ls ⟨⟨fun v e hv => x1.1 v e (h v e hv), fun v w h1 h2 h3 => x1.2 v w (hn v h1) (hn w h2) h3⟩, fun n hn' => ⟨(x2 n hn').1, fun v hv => ⟨((x2 n hn').2 v hv).1, ?_⟩⟩, x3⟩
  have h4 := ((x2 n hn').2 v hv).2
  cases hc : M' v with
  | none => rfl
  | some f => rw [h v f hc] at h4; cases h4
end LX
/-! a method that is given the script -/
def z_PcS (mi : zI) (g : zG) (nx : Option Nat) (As : List Value) (M : zM) : Array Value → State → Prop := va_Pc (As.map (z_v g.1)) (fun U => (z_S g U ∧ z_R g M U.heap ∧ z_N g nx M U.heap) ∧ z_scr mi g U)
theorem z_blindS (mi : zI) (g : zG) (nx : Option Nat) (As : List Value) (M : zM) : FrameBlind (z_PcS mi g nx As M) := fun a U f mk h => ⟨h.1, ⟨h.2.1.1.calling f mk a, h.2.1.2⟩, fun q hq => by
  obtain ⟨h1, h2, h3⟩ := h.2.2 q hq
  exact ⟨h1.moved (State.WarmedH.refl U).alike, h2, h3⟩⟩
theorem z_preS {mi : zI} {g : zG} {nx : Option Nat} {As : List Value} {M : zM} {s : State} {H : Heap} {locs : List Loc} (hS : z_S g s) (hc : z_scr mi g s) (h1 : z_R g M H) (h2 : z_N g nx M H) (h3 : va_S (z_A g) s.heap H locs) : ∀ U : State, U.heap = H → s.WarmedH U.vm → z_PcS mi g nx As M (As.map (z_v g.1)).toArray U := fun U hU hW => by
  subst hU
  refine ⟨rfl, ⟨hS.go hW h3.1 h3.2.1, h1, h2⟩, fun q hq => ?_⟩
  obtain ⟨a1, a2, a3⟩ := hc q hq
  exact ⟨(a1.kept (h3.2.1 _ a2 a3)).moved hW.alike, Nat.lt_of_lt_of_le a2 h3.1, a3⟩
def zocS (mi : zI) : Prop := mi.2.2.2.2.2.1 = [] ∧ Cond.code mi.1 mi.2.2.1 mi.2.2.2.1 mi.2.2.2.2.1 ∈ SW
theorem Cn.metS {mi : zI} {d kc ks : Nat} {nx : Option Nat} {As : List Value} {M : zM} {F : zP} (h : Cn mi d kc ks nx As M F) (hno : ∀ M nx E, ¬ F M nx (.inr E)) {l : Launch} (hl : l.stackTraces = false) {g : zG} (hg : ∀ v, 8 ≤ v → g.2.2.2 ≤ g.1 v) (hn : (lg_sl As).length ≤ mi.2.2.2.1) {n : Nat} (ho : zok mi n) (hc : zocS mi) :
    Met l mi.1 (Cond.code mi.1 mi.2.2.1 mi.2.2.2.1 mi.2.2.2.2.1 :: SW) { frames := d, cells := kc, slots := ks, locals := 40 * d } (z_PcS mi g nx As M) (z_Q g F) kc ks (z_A g) := by
  have h1 : vx_Met l mi.1 (Cond.code mi.1 mi.2.2.1 mi.2.2.2.1 mi.2.2.2.2.1 :: SW) { frames := d, cells := kc, slots := ks, locals := 40 * d } (z_PcS mi g nx As M) (z_Q g F) (z_X g F) kc ks (z_A g) := by
    refine vx_ofW (cc := mi.2.2.1) (maxL := mi.2.2.2.1) (ret := mi.2.2.2.2.1) ho.1 rfl ?_
    intro p e s m args below meth c s₁ B hml ht hP
    have ht2 : c.exceptionTable.toList = tableOf mi.2.2.2.2.2.1 := by
      rw [hc.1]
      cases hx : c.exceptionTable.toList with
      | nil => rfl
      | cons x t => exact (ht x (by rw [hx]; exact List.mem_cons_self)).elim
    obtain ⟨rfl, ⟨hS, hR, hN⟩, hscr⟩ := hP
    have hts := atoms_spec (ws := Cond.code mi.1 mi.2.2.1 mi.2.2.2.1 mi.2.2.2.2.1 :: SW) B.pre
    have hl2 := lv_entry (As.map (z_v g.1)) (n := mi.2.2.2.1) (by rw [z_lgsl]; exact hn)
    rw [z_args] at hl2
    rw [lg_entry_eq]
    exact h l p e _ s m _ below meth c g kc ks ⟨B.exec, B.bytes, hml, B.returns, B.notSynchronized, fun _ => ht2, by rw [ho.2.1]; exact findClass_of_methodNamed B.named, fun w hw => hts w (List.mem_cons_of_mem _ hw), ⟨fun _ => (name_of_methodNamed B.named B.method).1, hscr⟩, hS, hg, Nat.le_refl _, Nat.le_refl _, Nat.le_refl _, Nat.le_refl _, hl⟩ s.heap [] 0 0 _ ⟨hR, hN, va_S.rf, hl2, by omega, by omega⟩
  intro p e ha hcs hk s m args below hf hfit hP hK
  obtain ⟨n, o, a1, a2, a3, a4⟩ := h1 p e ha hcs hk s m args below hf hfit hP hK
  refine ⟨n, o, a1, a2, a3, ?_⟩
  rcases a4 with a4 | ⟨q, -, E, ce, Ls, ⟨⟨M1, b1, -⟩, -⟩, -⟩
  · exact a4
  · exact (hno _ _ _ b1).elim
section LS
variable {mi : zI} {d kc ks : Nat} {nx : Option Nat} {pc : Nat} {L : List (Nat × Value)} {S0 S : List Value} {M : zM} {F : zP}
variable {mi' : zI} {d' kc' ks' kc1 ks1 idx n b n0 : Nat} {As : List Value} {F' : zP}
theorem z_cbS {g : zG} {l : Launch} {p : Program} {R : Room} {s : State} {m : MethodId} {args : Array Value} {meth : Method} {c : Code} {mc ms : Nat} (C : z_C mi d g l p R s m args meth c mc ms) (ho : zok mi' n) (hc : zocS mi') (hl : Cond.methodLink mi.2.1 idx mi'.1 ∈ SW) (h1 : d' + 1 ≤ d) :
    CallB R s args mi.2.1 idx mi'.1 mi'.2.2.1 mi'.2.2.2.1 mi'.2.2.2.2.1 (Cond.code mi'.1 mi'.2.2.1 mi'.2.2.2.1 mi'.2.2.2.2.1 :: SW) { frames := d', cells := kc', slots := ks', locals := 40 * d' } kc' ks' n := by
  obtain ⟨o1, o2, o3, o4, o5, o6⟩ := ho
  have hts := C.2.2.2.2.2.2.2.1
  have r1 := C.2.2.2.2.2.2.2.2.2.2.2.1
  have r2 := C.2.2.2.2.2.2.2.2.2.2.2.2.1
  refine ⟨rfl, rfl, by show d' + 1 ≤ R.frames; omega, by show 8 + (mi'.2.2.2.1 + 11) + 40 * d' ≤ R.locals; omega, z_all hts hc.2, List.mem_cons_self, hts _ hc.2, hts _ o6, o3, fun sig h => ?_, hts _ hl⟩
  rw [h] at o4
  exact (Option.some.inj o4).symm
theorem g_callSS {x : Int32} {P : zM → Prop} (hc : Cn mi' d' kc' ks' (some n0) As M (zqI x P)) (hsc : mi'.2.2.2.2.2.2 = mi.2.2.2.2.2.2) (ho : zok mi' n) (hoc : zocS mi') (hl : zLS mi.2.1 idx mi') (hd : decode mi.2.2.1 pc = .ok (.invokestatic idx, 3)) (hs : S0 = As.reverse ++ S) (hA : As.length = n) (hg : (lg_sl As).length ≤ mi'.2.2.2.1) (hS : (S.map fun v => v.category).sum ≤ 8) (h1 : d' + 1 ≤ d) (h2 : kc1 + kc' ≤ kc) (h3 : ks1 + ks' ≤ ks) (hsup : ∀ M1, P M1 → nf n0 M M1)
    (k : ∀ M1 n', n0 ≤ n' → P M1 → G mi d kc1 ks1 (some n') (pc + 3) L (.int x :: S) M1 F) : G mi d kc ks (some n0) pc L S0 M F := by
  intro l p e R s m args below meth c g mc ms C H locs cells slots ls X
  have hno : ∀ M nx E, ¬ zqI x P M nx (.inr E) := by
    rintro M1 nx1 E ⟨h, -⟩
    cases h
  have hCn := hc.metS hno C.2.2.2.2.2.2.2.2.2.2.2.2.2.2.2 (g := g) C.2.2.2.2.2.2.2.2.2.2.1 hg ho hoc
  have hts := C.2.2.2.2.2.2.2.1
  have r3 := C.2.2.2.2.2.2.2.2.2.2.2.2.2.1
  have r4 := C.2.2.2.2.2.2.2.2.2.2.2.2.2.2.1
  have x5 := X.2.2.2.2.1
  have x6 := X.2.2.2.2.2
  have hscr : z_scr mi' g s := fun q hq => C.2.2.2.2.2.2.2.2.1.2 q (hsc ▸ hq)
  refine z_runn C X (va_runS (As := As.map (z_v g.1)) (rest := S.map (z_v g.1)) (index := idx) ⟨C.1, C.2.1, C.2.2.1, C.2.2.2.2.2.2.1, hts⟩ hCn ⟨z_cbS C ho hoc hl.1 h1, hts _ hl.2⟩ ⟨z_blindS _ _ _ _ _, z_preS C.2.2.2.2.2.2.2.2.2.1 hscr X.1 X.2.1 X.2.2.1⟩ rfl (by rw [List.length_map]; exact hA) X.2.2.2.1.1 (by rw [hs, List.map_append, List.map_reverse]) (lv_room (z_room g.1 hS)) hd ⟨by omega, by omega⟩) h2 h3 ?_ ?_
  · rintro M1 nx1 v ⟨-, h⟩
    exact hsup _ h
  · rintro M1 nx1 v n' hn' ⟨h, hP⟩
    cases h
    exact k M1 n' hn' hP
end LS
