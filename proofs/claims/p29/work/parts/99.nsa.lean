/-! a call with nine words below -/
theorem va_runS9 {p : Program} {l : Launch} {e : Env} {R : Room} {s : State} {m : MethodId} {args : Array Value} {below : List Frame} {meth : Method} {c : Code} {H : Heap} {locs : List Loc} {cells slots : Nat} {Ts ws : List Cond} {cc bytes : ByteArray} {nL maxL index n mc ms : Nat} {own : String} {y : MethodName} {ret : Option FieldType} {rm : Room} {Pc : Array Value → State → Prop} {Qc : Array Value → State → Outcome → State → Prop} {free : Addr → Prop} {As rest : List Value} {g : JFrame} (S : CallFix p m c cc nL s args Ts own) (hM : Met l y ws rm Pc Qc mc ms free) (cw : CallB R s args own index y bytes maxL ret ws rm mc ms n ∧ (Cond.static y).before args s = true) (hlo : 9 + (maxL + 11) + rm.locals ≤ R.locals) (hp : PreS s H Pc As)
    (hg : g.method = m) (hn : As.length = n) (hsize : g.locals.size = nL) (hstack : g.stack = As.reverse ++ rest) (hW : 2 * g.monitorRoom + (rest.map fun v => v.category).sum ≤ 9) (hdg : decode cc g.pc = .ok (.invokestatic index, 3)) (hf : cells + mc ≤ R.cells ∧ slots + ms ≤ R.slots) :
    va_Run p l e R s m args below meth c H locs cells slots mc ms g rest (Qc As.toArray) (free) := by
  obtain ⟨⟨hrc, hrs, hfr, -, hws, hcw, hcode, hini, hy, hlen, hl⟩, hstt⟩ := cw
  have hK : Back l R p e below s args y 3 9 (PreOf R mc ms Pc) (PostOf Qc mc ms free) := back_of (bytes := bytes) (maxL := maxL) (ret := ret) hM hp.1 hrc hrs hfr hlo hws hcw (fun a' U hW => word_at hW (Or.inl (by first | rfl | simp [Cond.onTables, Cond.keeps, Cond.steady])) hini)
  obtain ⟨hx, hb, hml, ho, -⟩ := S
  intro T hT X
  obtain ⟨v, vm₁, ⟨U', l2, c2, s2⟩, hW₁, X', ⟨g', mk, t, L, e1, e2, hq, h1, hL, h2, h3⟩, st⟩ := callS X hx (bytes := bytes) (maxL := maxL) (ret := ret) ho hl hstt hini hcode hy hK hg (hsize.trans hml.symm) (argsL := As) (rest := rest) (fun sig h => hn.trans (hlen sig h)) hstack hW (by rw [hb]; exact hdg)
    (fun vm₁ hW₁ => ⟨hf.1, hf.2, hp.2 (T.setVm vm₁) hT hW₁⟩)
  dsimp only [Pt.U, Pt.locs, Pt.cells, Pt.slots] at X' e1 e2 h1 h2 h3 st
  subst h1; subst h2; subst h3
  exact ⟨v, (T.setVm vm₁).calling g' mk As.toArray, t, U', L, hT, X', hL, e1, e2, hq, st⟩
theorem z_room9 (r : Nat → Nat) {S : List Value} (h : (S.map fun v => v.category).sum ≤ 9) : ((S.map (z_v r)).map fun v => v.category).sum ≤ 9 := by
  have e : (S.map (z_v r)).map (fun v => v.category) = S.map fun v => v.category := by
    rw [List.map_map]
    exact List.map_congr_left (fun v _ => z_v_cat r v)
  rw [e]
  exact h
theorem g_callS9 {mi : zI} {d kc ks : Nat} {pc : Nat} {L : List (Nat × Value)} {S0 S : List Value} {M : zM} {F : zP} {mi' : zI} {d' idx n n0 : Nat} {As : List Value} {x : Int32} {P : zM → Prop} (hc : Cn mi' d' 0 0 (some n0) As M (zqI x P)) (hm : mi'.2.2.2.1 ≤ 20) (ho : zok mi' n) (hoc : zoc mi') (hl : zLS mi.2.1 idx mi') (hd : decode mi.2.2.1 pc = .ok (.invokestatic idx, 3)) (hs : S0 = As.reverse ++ S) (hA : As.length = n) (hg : (lg_sl As).length ≤ mi'.2.2.2.1) (hS : (S.map fun v => v.category).sum ≤ 9) (h1 : d' + 1 ≤ d) (hsup : ∀ M1, P M1 → nf n0 M M1)
    (k : ∀ M1 n', n0 ≤ n' → P M1 → G mi d kc ks (some n') (pc + 3) L (.int x :: S) M1 F) : G mi d kc ks (some n0) pc L S0 M F := by
  intro l p e R s m args below meth c g mc ms C H locs cells slots ls X
  have hno : ∀ M nx E, ¬ zqI x P M nx (.inr E) := by
    rintro M1 nx1 E ⟨h, -⟩
    cases h
  have hCn := hc.met hno C.2.2.2.2.2.2.2.2.2.2.2.2.2.2.2 (g := g) C.2.2.2.2.2.2.2.2.2.2.1 hg ho hoc
  have hts := C.2.2.2.2.2.2.2.1
  have r2 := C.2.2.2.2.2.2.2.2.2.2.2.2.1
  have r3 := C.2.2.2.2.2.2.2.2.2.2.2.2.2.1
  have r4 := C.2.2.2.2.2.2.2.2.2.2.2.2.2.2.1
  have x5 := X.2.2.2.2.1
  have x6 := X.2.2.2.2.2
  refine z_runn (kc1 := kc) (ks1 := ks) C X (va_runS9 (As := As.map (z_v g.1)) (rest := S.map (z_v g.1)) (index := idx) ⟨C.1, C.2.1, C.2.2.1, C.2.2.2.2.2.2.1, hts⟩ hCn ⟨z_cb C ho hoc hl.1 h1, hts _ hl.2⟩ (by show 9 + (mi'.2.2.2.1 + 11) + 40 * d' ≤ R.locals; omega) ⟨z_blind _ _ _ _, z_pre C.2.2.2.2.2.2.2.2.2.1 X.1 X.2.1 X.2.2.1⟩ rfl (by rw [List.length_map]; exact hA) X.2.2.2.1.1 (by rw [hs, List.map_append, List.map_reverse]) (by show 2 * 0 + _ ≤ 9; have := z_room9 g.1 hS; omega) hd ⟨by omega, by omega⟩) (by omega) (by omega) ?_ ?_
  · rintro M1 nx1 v ⟨-, h⟩
    exact hsup _ h
  · rintro M1 nx1 v n' hn' ⟨h, hP⟩
    cases h
    exact k M1 n' hn' hP
