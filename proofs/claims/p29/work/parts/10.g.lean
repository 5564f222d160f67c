/-! G: a logic over W: everything of the machine is put away; memory is a function of numbered cells (zM), rho places them in the heap -/
abbrev zE : Type := (Nat × vp_A) ⊕ (Nat × List Value)
abbrev zM : Type := Nat → Option zE
abbrev zO : Type := Option Value ⊕ String
/-- a method: name, class by which its code names itself, bytes, locals, return, handlers, the script (of the law alone) -/
abbrev zI : Type := MethodName × String × ByteArray × Nat × Option FieldType × List (Nat × Nat × Nat × Nat) × Option (Nat × (Nat → Int32))
abbrev zP : Type := zM → Option Nat → zO → Prop
/-- where cells lie, class numbers, array class numbers, the first cell that may be written -/
abbrev zG : Type := (Nat → Nat) × va_G × (Nat → ClassId) × Nat
def z_v (r : Nat → Nat) (v : Value) : Value := match v with
  | .ref a => .ref (r a)
  | .int x => .int x
  | .long x => .long x
  | .float x => .float x
  | .double x => .double x
  | .null => .null
  | .retAddr a => .retAddr a
theorem z_v_cat (r : Nat → Nat) (v : Value) : (z_v r v).category = v.category := by cases v <;> rfl
def z_a (r : Nat → Nat) (x : vp_A) : vp_A := match x with
  | (n, .inl f) => (n, .inl f)
  | (n, .inr (.inl f)) => (n, .inr (.inl f))
  | (n, .inr (.inr (.inl f))) => (n, .inr (.inr (.inl f)))
  | (n, .inr (.inr (.inr (.inl f)))) => (n, .inr (.inr (.inr (.inl f))))
  | (n, .inr (.inr (.inr (.inr f)))) => (n, .inr (.inr (.inr (.inr (fun j => (f j).map r)))))
theorem z_a_1 (r : Nat → Nat) (x : vp_A) : (z_a r x).1 = x.1 := by rcases x with ⟨n, f | f | f | f | f⟩ <;> rfl
def z_e (g : zG) (e : zE) : va_E := match e with
  | .inl (t, x) => .inl (g.2.2.1 t, z_a g.1 x)
  | .inr (ci, fs) => .inr (ci, fs.map (z_v g.1))
def z_R (g : zG) (M : zM) (H : Heap) : Prop :=
  (∀ v e, M v = some e → va_at g.2.1 vwCl (g.1 v, z_e g e) H) ∧ ∀ v w, M v ≠ none → M w ≠ none → g.1 v = g.1 w → v = w
def z_N (g : zG) (nx : Option Nat) (M : zM) (H : Heap) : Prop := ∀ n, nx = some n → 8 ≤ n ∧ ∀ v, n ≤ v → g.1 v + n = H.size + v ∧ M v = none
abbrev z_A (g : zG) : Nat → Prop := fun q => g.2.2.2 ≤ q
def z_nests : List (String × Nat × MethodName × String) := [(RX5, 9, ⟨RX4, "<init>", "()V"⟩, RX5), (RX5, 25, ⟨RX2, "<init>", "()V"⟩, RX5), (RX5, 32, ⟨RX0, "<init>", "()V"⟩, RX5), (RX5, 39, ⟨RX1, "<init>", "()V"⟩, RX5), (RX3, 17, ⟨RX1, "<init>", "()V"⟩, RX5), (RX0, 80, ⟨RX5, "isIn", "(III)Z"⟩, RX5), (RX3, 30, ⟨RX5, "isIn", "(III)Z"⟩, RX5)]
def z_texts : List (Nat × String) := [(107, "the let is refused"), (136, "the let does not stand on this day"), (150, "no such setting"), (160, "the diary does not allow this value"), (247, "no such tenant"), (331, "an argument or the text is not as it must be"), (334, "no such hall"), (336, "no such let"), (72, "there are as many regular lets as may be"), (85, "the let would be off on all its days")]
def z_xs : List String := ["java/lang/IllegalArgumentException", "java/lang/IndexOutOfBoundsException", "java/lang/IllegalStateException"]
def z_decl : List String := ["java/lang/RuntimeException", "java/lang/Exception", "java/lang/Throwable"]
abbrev z_tys (g : zG) : List (ClassId × FieldType) := [(g.2.2.1 0, .int), (g.2.2.1 1, .int), (g.2.2.1 2, .int), (g.2.2.1 3, .object RX1), (g.2.2.1 4, .object RX4)]
/-- the numbers of the statics -/
def zLo (j : Nat) : Nat := [0, 0, 0, 1, 1, 0].getD j 0
def zHi (j : Nat) : Nat := [2, 83, 23, 24, 9, 19].getD j 0
def zSt (j : Nat) : Nat := [4, 50, 100, 11, 11].getD j 0
/-- what holds of the start of every method -/
def z_S (g : zG) (U : State) : Prop :=
  va_K g.2.1 vwCl (z_tys g) U ∧
  ((True ∧ True ∧ va_Z RX5 "HIGHEST_SETTING" "[I" (.ref (g.1 3)) (z_A g) U U.heap) ∧ True ∧ True ∧ va_T .int (g.1 3) 5 (fun j => .int (nI (zSt j))) (z_A g) U U.heap) ∧
  (vx_Zq Bundle.tN "UNASSIGNED_STACK" Bundle.steD (z_A g) U U.heap ∧ vx_Zq Bundle.tN "SUPPRESSED_SENTINEL" Bundle.listD (z_A g) U U.heap) ∧
  (∀ q ∈ z_texts, ∃ a, vk_R RX5 q.1 q.2 a U) ∧
  True ∧
  (∀ q ∈ z_nests, va_Nw (.methodLinkNest q.1 q.2.1 q.2.2.1 q.2.2.2) U) ∧
  (((∀ q ∈ z_xs, va_Nw (.castable q q) U) ∧ ∀ q ∈ z_decl, va_Nw (.declares ⟨q, "<init>", "(Ljava/lang/String;)V"⟩) U) ∧ True) ∧
  (va_AO RX1 U ∧ va_AO RX4 U) ∧ g.2.2.2 ≤ U.heap.size
theorem z_S.go {g : zG} {u U : State} (hW : u.WarmedH U.vm) (hz : u.heap.size ≤ U.heap.size) (hq : ∀ a : Nat, a < u.heap.size → ¬ z_A g a → U.heap[a]? = u.heap[a]?) (h : z_S g u) : z_S g U := by
  obtain ⟨h1, ⟨⟨-, -, h4⟩, -, -, h4b⟩, ⟨h5, h6⟩, h7, -, h10, ⟨⟨h11, h11b⟩, h12⟩, ⟨h13, h14⟩, h15⟩ := h
  have ha := hW.alike
  exact ⟨h1.moved ha, ⟨⟨trivial, trivial, (h4.kept hq).moved ha⟩, trivial, trivial, (h4b.kept hq).moved ha⟩, ⟨(h5.kept hq).moved ha, (h6.kept hq).moved ha⟩, fun q hm => by obtain ⟨a, h⟩ := h7 q hm; exact ⟨a, h.warm hW⟩, trivial, fun q hm => (h10 q hm).warmM hW, ⟨⟨fun q hm => (h11 q hm).warmC hW, fun q hm => (h11b q hm).warmD hW⟩, trivial⟩, ⟨h13.moved ha, h14.moved ha⟩, Nat.le_trans h15 hz⟩
theorem z_S.calling {g : zG} {u : State} (f : JFrame) (mk : MethodId) (a : Array Value) (h : z_S g u) : z_S g (u.calling f mk a) := h.go (State.WarmedH.refl u) (Nat.le_refl _) (fun _ _ _ => rfl)
/-- lists of locals -/
def zl : List (Nat × Value) → Nat → Option Value
  | [], _ => none
  | q :: t, k => bif Nat.beq q.1 k then some q.2 else zl t k
theorem zl_mem : ∀ {L : List (Nat × Value)} {k : Nat} {v : Value}, zl L k = some v → (k, v) ∈ L
  | [], _, _, h => by cases h
  | q :: t, k, v, h => by
    unfold zl at h
    cases hb : Nat.beq q.1 k with
    | true =>
      rw [hb] at h
      have hk := Nat.eq_of_beq_eq_true hb
      cases h
      subst hk
      exact List.mem_cons_self
    | false =>
      rw [hb] at h
      exact List.mem_cons_of_mem _ (zl_mem h)
def zf1 (i : Nat) : List (Nat × Value) → List (Nat × Value)
  | [] => []
  | q :: t => bif Nat.beq q.1 i || (Nat.beq (q.1 + 1) i && Nat.beq q.2.category 2) then zf1 i t else q :: zf1 i t
def zf2 (i : Nat) : List (Nat × Value) → List (Nat × Value)
  | [] => []
  | q :: t => bif Nat.beq q.1 i || (Nat.beq q.1 (i + 1) || (Nat.beq (q.1 + 1) i && Nat.beq q.2.category 2)) then zf2 i t else q :: zf2 i t
theorem zf1_mem {i : Nat} : ∀ {L : List (Nat × Value)} {q : Nat × Value}, q ∈ zf1 i L → q ∈ L ∧ q.1 ≠ i ∧ ¬ (q.1 + 1 = i ∧ q.2.category = 2)
  | [], _, h => by cases h
  | p :: t, q, h => by
    unfold zf1 at h
    cases hb : (Nat.beq p.1 i || (Nat.beq (p.1 + 1) i && Nat.beq p.2.category 2)) with
    | true =>
      rw [hb] at h
      exact ⟨List.mem_cons_of_mem _ (zf1_mem h).1, (zf1_mem h).2⟩
    | false =>
      rw [hb] at h
      rcases List.mem_cons.mp h with rfl | h
      · simp only [Bool.or_eq_false_iff, Bool.and_eq_false_iff] at hb
        refine ⟨List.mem_cons_self, fun e => ?_, fun e => ?_⟩
        · rw [e, Nat.beq_refl] at hb; cases hb.1
        · rw [e.1, e.2, Nat.beq_refl, Nat.beq_refl] at hb; rcases hb.2 with z | z <;> cases z
      · exact ⟨List.mem_cons_of_mem _ (zf1_mem h).1, (zf1_mem h).2⟩
theorem zf2_mem {i : Nat} : ∀ {L : List (Nat × Value)} {q : Nat × Value}, q ∈ zf2 i L → q ∈ L ∧ q.1 ≠ i ∧ q.1 ≠ i + 1 ∧ ¬ (q.1 + 1 = i ∧ q.2.category = 2)
  | [], _, h => by cases h
  | p :: t, q, h => by
    unfold zf2 at h
    cases hb : (Nat.beq p.1 i || (Nat.beq p.1 (i + 1) || (Nat.beq (p.1 + 1) i && Nat.beq p.2.category 2))) with
    | true =>
      rw [hb] at h
      exact ⟨List.mem_cons_of_mem _ (zf2_mem h).1, (zf2_mem h).2⟩
    | false =>
      rw [hb] at h
      rcases List.mem_cons.mp h with rfl | h
      · simp only [Bool.or_eq_false_iff, Bool.and_eq_false_iff] at hb
        refine ⟨List.mem_cons_self, fun e => ?_, fun e => ?_, fun e => ?_⟩
        · rw [e, Nat.beq_refl] at hb; cases hb.1
        · rw [e, Nat.beq_refl] at hb; cases hb.2.1
        · rw [e.1, e.2, Nat.beq_refl, Nat.beq_refl] at hb; rcases hb.2.2 with z | z <;> cases z
      · exact ⟨List.mem_cons_of_mem _ (zf2_mem h).1, (zf2_mem h).2⟩
theorem lv_has.less {ls : Array Slot} {nL : Nat} {l l' : List (Nat × Value)} (h : lv_has ls nL l) (hl : ∀ q ∈ l', q ∈ l) : lv_has ls nL l' := ⟨h.1, h.2.1, fun q hq => h.2.2 q (hl q hq)⟩
abbrev z_L (g : zG) (L : List (Nat × Value)) : List (Nat × Value) := L.map fun q => (q.1, z_v g.1 q.2)
theorem z_L_zf1 {g : zG} {L : List (Nat × Value)} {i : Nat} {v : Value} : ∀ q ∈ z_L g ((i, v) :: zf1 i L), q ∈ (i, z_v g.1 v) :: (z_L g L).filter (fun q => !(q.1 == i) && !(q.1 + 1 == i && q.2.category == 2)) := by
  intro q hq
  rcases List.mem_cons.mp hq with rfl | hq
  · exact List.mem_cons_self
  · obtain ⟨q0, h0, rfl⟩ := List.mem_map.mp hq
    obtain ⟨h1, h2, h3⟩ := zf1_mem h0
    refine List.mem_cons_of_mem _ (List.mem_filter.mpr ⟨List.mem_map.mpr ⟨q0, h1, rfl⟩, ?_⟩)
    simp only [z_v_cat, Bool.and_eq_true, Bool.not_eq_true', beq_eq_false_iff_ne, ne_eq, Bool.and_eq_false_iff]
    refine ⟨h2, ?_⟩
    by_cases hh : q0.1 + 1 = i
    · exact Or.inr (fun hc => h3 ⟨hh, hc⟩)
    · exact Or.inl hh
theorem z_L_zf2 {g : zG} {L : List (Nat × Value)} {i : Nat} {v : Value} : ∀ q ∈ z_L g ((i, v) :: zf2 i L), q ∈ (i, z_v g.1 v) :: (z_L g L).filter (fun q => !(q.1 == i) && (!(q.1 == i + 1) && !(q.1 + 1 == i && q.2.category == 2))) := by
  intro q hq
  rcases List.mem_cons.mp hq with rfl | hq
  · exact List.mem_cons_self
  · obtain ⟨q0, h0, rfl⟩ := List.mem_map.mp hq
    obtain ⟨h1, h2, h3, h4⟩ := zf2_mem h0
    refine List.mem_cons_of_mem _ (List.mem_filter.mpr ⟨List.mem_map.mpr ⟨q0, h1, rfl⟩, ?_⟩)
    simp only [z_v_cat, Bool.and_eq_true, Bool.not_eq_true', beq_eq_false_iff_ne, ne_eq, Bool.and_eq_false_iff]
    refine ⟨h2, h3, ?_⟩
    by_cases hh : q0.1 + 1 = i
    · exact Or.inr (fun hc => h4 ⟨hh, hc⟩)
    · exact Or.inl hh
theorem z_lk {g : zG} {ls : Array Slot} {nL : Nat} {L : List (Nat × Value)} {k : Nat} {v : Value} (h : lv_has ls nL (z_L g L)) (hl : zl L k = some v) : ls[k]? = some (.val (z_v g.1 v)) := h.2.2 (k, z_v g.1 v) (List.mem_map.mpr ⟨(k, v), zl_mem hl, rfl⟩)
/-- the script, of the law alone -/
def z_scr (mi : zI) (g : zG) (s : State) : Prop := ∀ q, mi.2.2.2.2.2.2 = some q → va_X (g.1 0) q.1 q.2 s s.heap ∧ g.1 0 < s.heap.size ∧ ¬ z_A g (g.1 0)
/-- the machine at a method's code -/
def z_C (mi : zI) (d : Nat) (g : zG) (l : Launch) (p : Program) (R : Room) (s : State) (m : MethodId) (args : Array Value) (meth : Method) (c : Code) (mc ms : Nat) : Prop :=
  p.tables.exec = Jvm.exec ∧ c.code = mi.2.2.1 ∧ c.maxLocals = mi.2.2.2.1 ∧ meth.sig.returnType = mi.2.2.2.2.1 ∧ meth.locks = false ∧ (mi.2.2.2.2.2.2 = none → c.exceptionTable.toList = tableOf mi.2.2.2.2.2.1) ∧ s.vm.findClass mi.2.1 = some m.cls ∧ (∀ w ∈ SW, w.before args s = true) ∧ ((mi.2.2.2.2.2.2 = none → meth.name = mi.1.name) ∧ z_scr mi g s) ∧ z_S g s ∧ (∀ v, 8 ≤ v → g.2.2.2 ≤ g.1 v) ∧ d ≤ R.frames ∧ 40 * d ≤ R.locals ∧ mc ≤ R.cells ∧ ms ≤ R.slots ∧ l.stackTraces = false
def z_H (mi : zI) (kc ks : Nat) (nx : Option Nat) (L : List (Nat × Value)) (M : zM) (g : zG) (s : State) (H : Heap) (locs : List Loc) (cells slots : Nat) (ls : Array Slot) (mc ms : Nat) : Prop :=
  z_R g M H ∧ z_N g nx M H ∧ va_S (z_A g) s.heap H locs ∧ lv_has ls mi.2.2.2.1 (z_L g L) ∧ cells + kc ≤ mc ∧ slots + ks ≤ ms
def z_Q (g : zG) (F : zP) : Array Value → State → Outcome → State → Prop := fun _ st oc t =>
  (∃ (M : zM) (nx : Option Nat) (v : Option Value), oc = .returned (v.map (z_v g.1)) ∧ F M nx (.inl v) ∧ z_R g M t.heap ∧ z_N g nx M t.heap) ∧ va_F (z_A g) st t
def z_X (g : zG) (F : zP) : String → State → State → Prop := fun E st t => (∃ M : zM, F M none (.inr E) ∧ z_R g M t.heap) ∧ va_F (z_A g) st t
def G (mi : zI) (d kc ks : Nat) (nx : Option Nat) (pc : Nat) (L : List (Nat × Value)) (S : List Value) (M : zM) (F : zP) : Prop :=
  ∀ (l : Launch) (p : Program) (e : Env) (R : Room) (s : State) (m : MethodId) (args : Array Value) (below : List Frame) (meth : Method) (c : Code) (g : zG) (mc ms : Nat), z_C mi d g l p R s m args meth c mc ms →
    ∀ (H : Heap) (locs : List Loc) (cells slots : Nat) (ls : Array Slot), z_H mi kc ks nx L M g s H locs cells slots ls mc ms →
      W p l e R s m args below meth c H locs cells slots (vx_MQ below (z_Q g F) (z_X g F) args s mc ms (z_A g)) (F0 m pc ls (S.map (z_v g.1)))
/-- a contract -/
def Cn (mi : zI) (d kc ks : Nat) (nx : Option Nat) (As : List Value) (M : zM) (F : zP) : Prop := G mi d kc ks nx 0 (lv_args 0 As) [] M F
def zi (r : Int32) (P : zM → Prop) : zP := fun M nx o => nx = none ∧ o = .inl (some (.int r)) ∧ P M
def zj (r : Int64) (P : zM → Prop) : zP := fun M nx o => nx = none ∧ o = .inl (some (.long r)) ∧ P M
def zd (r : UInt64) (P : zM → Prop) : zP := fun M nx o => nx = none ∧ o = .inl (some (.double r)) ∧ P M
def zg (r : UInt32) (P : zM → Prop) : zP := fun M nx o => nx = none ∧ o = .inl (some (.float r)) ∧ P M
def zv (P : zM → Prop) : zP := fun M nx o => nx = none ∧ o = .inl none ∧ P M
def zn (n : Nat) (P : zM → Prop) : zP := fun M nx o => nx = some n ∧ o = .inl none ∧ P M
def zt (E : String) (P : zM → Prop) : zP := fun M nx o => nx = none ∧ o = .inr E ∧ P M
section GR
variable {mi : zI} {d kc ks : Nat} {nx : Option Nat} {pc : Nat} {L : List (Nat × Value)} {S : List Value} {M : zM} {F : zP}
theorem G.to {P : zP} (h : G mi d kc ks nx pc L S M P) (hP : ∀ M nx o, P M nx o → F M nx o) : G mi d kc ks nx pc L S M F := by
  intro l p e R s m args below meth c g mc ms C H locs cells slots ls X T hT Y
  obtain ⟨t, a, o, b1, b2, b3⟩ := h l p e R s m args below meth c g mc ms C H locs cells slots ls X T hT Y
  refine ⟨t, a, o, b1, b2, ?_⟩
  rcases b3 with ⟨⟨⟨M, nx, v, h1, h2, h3⟩, h4⟩, h5⟩ | ⟨q, rfl, E, ce, Ls, ⟨⟨M, h1, h2⟩, h3⟩, h4⟩
  · exact Or.inl ⟨⟨⟨M, nx, v, h1, hP _ _ _ h2, h3⟩, h4⟩, h5⟩
  · exact Or.inr ⟨q, rfl, E, ce, Ls, ⟨⟨M, hP _ _ _ h1, h2⟩, h3⟩, h4⟩
theorem G.up {d' kc' ks' : Nat} (h : G mi d' kc' ks' nx pc L S M F) (h1 : d' ≤ d) (h2 : kc' ≤ kc) (h3 : ks' ≤ ks) : G mi d kc ks nx pc L S M F := by
  intro l p e R s m args below meth c g mc ms C H locs cells slots ls X
  obtain ⟨c1, c2, c3, c4, c5, c6, c7, c8, c9, c10, c11, c12, c13, c14⟩ := C
  obtain ⟨x1, x2, x3, x4, x5, x6⟩ := X
  exact h l p e R s m args below meth c g mc ms ⟨c1, c2, c3, c4, c5, c6, c7, c8, c9, c10, c11, Nat.le_trans h1 c12, by omega, c14⟩ H locs cells slots ls ⟨x1, x2, x3, x4, by omega, by omega⟩
theorem G.none {n : Nat} (h : G mi d kc ks none pc L S M F) : G mi d kc ks (some n) pc L S M F := by
  intro l p e R s m args below meth c g mc ms C H locs cells slots ls X
  obtain ⟨x1, x2, x3, x4, x5, x6⟩ := X
  exact h l p e R s m args below meth c g mc ms C H locs cells slots ls ⟨x1, (fun n hn => nomatch hn), x3, x4, x5, x6⟩
/-- other locals: those that are read off the list -/
theorem g_loc {L' : List (Nat × Value)} (h : L'.map (fun q => zl L q.1) = L'.map (fun q => some q.2)) (k : G mi d kc ks nx pc L' S M F) : G mi d kc ks nx pc L S M F := by
  intro l p e R s m args below meth c g mc ms C H locs cells slots ls X
  obtain ⟨x1, x2, x3, x4, x5⟩ := X
  refine k l p e R s m args below meth c g mc ms C H locs cells slots ls ⟨x1, x2, x3, x4.less (fun q hq => ?_), x5⟩
  obtain ⟨q0, h0, rfl⟩ := List.mem_map.mp hq
  have h1 : zl L q0.1 = some q0.2 := by
    obtain ⟨i, hi, he⟩ := List.getElem_of_mem h0
    have h2 := congrArg (fun l => l[i]?) h
    simp only [List.getElem?_map, List.getElem?_eq_getElem hi, Option.map_some] at h2
    rw [he] at h2
    exact Option.some.inj h2
  exact List.mem_map.mpr ⟨q0, zl_mem h1, rfl⟩
theorem g_m {M' : zM} (h : M = M') (k : G mi d kc ks nx pc L S M' F) : G mi d kc ks nx pc L S M F := h ▸ k
theorem g_s {S' : List Value} (h : S = S') (k : G mi d kc ks nx pc L S' M F) : G mi d kc ks nx pc L S M F := h ▸ k
theorem g_pc {pc' : Nat} (h : pc = pc') (k : G mi d kc ks nx pc' L S M F) : G mi d kc ks nx pc L S M F := h ▸ k
theorem g_iadd {x y : Int32} (hd : decode mi.2.2.1 pc = .ok (.iadd, 1)) (k : G mi d kc ks nx (pc + 1) L (.int (x + y) :: S) M F) : G mi d kc ks nx pc L (.int y :: .int x :: S) M F := by
  intro l p e R s m args below meth c g mc ms C H locs cells slots ls X
  exact lv_iadd C.1 C.2.1 hd (k l p e R s m args below meth c g mc ms C H locs cells slots ls X)
theorem g_isub {x y : Int32} (hd : decode mi.2.2.1 pc = .ok (.isub, 1)) (k : G mi d kc ks nx (pc + 1) L (.int (x - y) :: S) M F) : G mi d kc ks nx pc L (.int y :: .int x :: S) M F := by
  intro l p e R s m args below meth c g mc ms C H locs cells slots ls X
  exact lv_isub C.1 C.2.1 hd (k l p e R s m args below meth c g mc ms C H locs cells slots ls X)
theorem g_imul {x y : Int32} (hd : decode mi.2.2.1 pc = .ok (.imul, 1)) (k : G mi d kc ks nx (pc + 1) L (.int (x * y) :: S) M F) : G mi d kc ks nx pc L (.int y :: .int x :: S) M F := by
  intro l p e R s m args below meth c g mc ms C H locs cells slots ls X
  exact lv_imul C.1 C.2.1 hd (k l p e R s m args below meth c g mc ms C H locs cells slots ls X)
theorem g_iand {x y : Int32} (hd : decode mi.2.2.1 pc = .ok (.iand, 1)) (k : G mi d kc ks nx (pc + 1) L (.int (x &&& y) :: S) M F) : G mi d kc ks nx pc L (.int y :: .int x :: S) M F := by
  intro l p e R s m args below meth c g mc ms C H locs cells slots ls X
  exact lv_iand C.1 C.2.1 hd (k l p e R s m args below meth c g mc ms C H locs cells slots ls X)
theorem g_ior {x y : Int32} (hd : decode mi.2.2.1 pc = .ok (.ior, 1)) (k : G mi d kc ks nx (pc + 1) L (.int (x ||| y) :: S) M F) : G mi d kc ks nx pc L (.int y :: .int x :: S) M F := by
  intro l p e R s m args below meth c g mc ms C H locs cells slots ls X
  exact lv_ior C.1 C.2.1 hd (k l p e R s m args below meth c g mc ms C H locs cells slots ls X)
theorem g_ixor {x y : Int32} (hd : decode mi.2.2.1 pc = .ok (.ixor, 1)) (k : G mi d kc ks nx (pc + 1) L (.int (x ^^^ y) :: S) M F) : G mi d kc ks nx pc L (.int y :: .int x :: S) M F := by
  intro l p e R s m args below meth c g mc ms C H locs cells slots ls X
  exact lv_ixor C.1 C.2.1 hd (k l p e R s m args below meth c g mc ms C H locs cells slots ls X)
theorem g_ishl {x y : Int32} (hd : decode mi.2.2.1 pc = .ok (.ishl, 1)) (k : G mi d kc ks nx (pc + 1) L (.int (x <<< (y &&& 31)) :: S) M F) : G mi d kc ks nx pc L (.int y :: .int x :: S) M F := by
  intro l p e R s m args below meth c g mc ms C H locs cells slots ls X
  exact lv_ishl C.1 C.2.1 hd (k l p e R s m args below meth c g mc ms C H locs cells slots ls X)
theorem g_ishr {x y : Int32} (hd : decode mi.2.2.1 pc = .ok (.ishr, 1)) (k : G mi d kc ks nx (pc + 1) L (.int (x >>> (y &&& 31)) :: S) M F) : G mi d kc ks nx pc L (.int y :: .int x :: S) M F := by
  intro l p e R s m args below meth c g mc ms C H locs cells slots ls X
  exact lv_ishr C.1 C.2.1 hd (k l p e R s m args below meth c g mc ms C H locs cells slots ls X)
theorem g_idiv {x y : Int32} (hd : decode mi.2.2.1 pc = .ok (.idiv, 1)) (hne : ¬ y = 0) (k : G mi d kc ks nx (pc + 1) L (.int (x / y) :: S) M F) : G mi d kc ks nx pc L (.int y :: .int x :: S) M F := by
  intro l p e R s m args below meth c g mc ms C H locs cells slots ls X
  exact lv_idiv C.1 C.2.1 hd hne (k l p e R s m args below meth c g mc ms C H locs cells slots ls X)
theorem g_irem {x y : Int32} (hd : decode mi.2.2.1 pc = .ok (.irem, 1)) (hne : ¬ y = 0) (k : G mi d kc ks nx (pc + 1) L (.int (x - x / y * y) :: S) M F) : G mi d kc ks nx pc L (.int y :: .int x :: S) M F := by
  intro l p e R s m args below meth c g mc ms C H locs cells slots ls X
  exact lv_irem C.1 C.2.1 hd hne (k l p e R s m args below meth c g mc ms C H locs cells slots ls X)
theorem g_ineg {x : Int32} (hd : decode mi.2.2.1 pc = .ok (.ineg, 1)) (k : G mi d kc ks nx (pc + 1) L (.int (-x) :: S) M F) : G mi d kc ks nx pc L (.int x :: S) M F := by
  intro l p e R s m args below meth c g mc ms C H locs cells slots ls X
  exact lv_ineg C.1 C.2.1 hd (k l p e R s m args below meth c g mc ms C H locs cells slots ls X)
theorem g_iushr {x y v : Int32} (hd : decode mi.2.2.1 pc = .ok (.iushr, 1)) (hv : (x.toUInt32 >>> (y.toUInt32 &&& Int32.toUInt32 31)).toInt32 = v) (k : G mi d kc ks nx (pc + 1) L (.int v :: S) M F) : G mi d kc ks nx pc L (.int y :: .int x :: S) M F := by
  intro l p e R s m args below meth c g mc ms C H locs cells slots ls X
  exact lv_iushr C.1 C.2.1 hd hv (k l p e R s m args below meth c g mc ms C H locs cells slots ls X)
theorem g_ladd {x y : Int64} (hd : decode mi.2.2.1 pc = .ok (.ladd, 1)) (k : G mi d kc ks nx (pc + 1) L (.long (x + y) :: S) M F) : G mi d kc ks nx pc L (.long y :: .long x :: S) M F := by
  intro l p e R s m args below meth c g mc ms C H locs cells slots ls X
  exact lv_ladd C.1 C.2.1 hd (k l p e R s m args below meth c g mc ms C H locs cells slots ls X)
theorem g_lsub {x y : Int64} (hd : decode mi.2.2.1 pc = .ok (.lsub, 1)) (k : G mi d kc ks nx (pc + 1) L (.long (x - y) :: S) M F) : G mi d kc ks nx pc L (.long y :: .long x :: S) M F := by
  intro l p e R s m args below meth c g mc ms C H locs cells slots ls X
  exact lv_lsub C.1 C.2.1 hd (k l p e R s m args below meth c g mc ms C H locs cells slots ls X)
theorem g_lmul {x y : Int64} (hd : decode mi.2.2.1 pc = .ok (.lmul, 1)) (k : G mi d kc ks nx (pc + 1) L (.long (x * y) :: S) M F) : G mi d kc ks nx pc L (.long y :: .long x :: S) M F := by
  intro l p e R s m args below meth c g mc ms C H locs cells slots ls X
  exact lv_lmul C.1 C.2.1 hd (k l p e R s m args below meth c g mc ms C H locs cells slots ls X)
theorem g_land {x y : Int64} (hd : decode mi.2.2.1 pc = .ok (.land, 1)) (k : G mi d kc ks nx (pc + 1) L (.long (x &&& y) :: S) M F) : G mi d kc ks nx pc L (.long y :: .long x :: S) M F := by
  intro l p e R s m args below meth c g mc ms C H locs cells slots ls X
  exact lv_land C.1 C.2.1 hd (k l p e R s m args below meth c g mc ms C H locs cells slots ls X)
theorem g_lor {x y : Int64} (hd : decode mi.2.2.1 pc = .ok (.lor, 1)) (k : G mi d kc ks nx (pc + 1) L (.long (x ||| y) :: S) M F) : G mi d kc ks nx pc L (.long y :: .long x :: S) M F := by
  intro l p e R s m args below meth c g mc ms C H locs cells slots ls X
  exact lv_lor C.1 C.2.1 hd (k l p e R s m args below meth c g mc ms C H locs cells slots ls X)
theorem g_lshl {x v : Int64} {y : Int32} (hd : decode mi.2.2.1 pc = .ok (.lshl, 1)) (hv : x <<< (y.toInt64 &&& 63) = v) (k : G mi d kc ks nx (pc + 1) L (.long v :: S) M F) : G mi d kc ks nx pc L (.int y :: .long x :: S) M F := by
  intro l p e R s m args below meth c g mc ms C H locs cells slots ls X
  exact lv_lshl C.1 C.2.1 hd hv (k l p e R s m args below meth c g mc ms C H locs cells slots ls X)
theorem g_lcmp {x y : Int64} (hd : decode mi.2.2.1 pc = .ok (.lcmp, 1)) (k : G mi d kc ks nx (pc + 1) L (.int (lg_cmp x y) :: S) M F) : G mi d kc ks nx pc L (.long y :: .long x :: S) M F := by
  intro l p e R s m args below meth c g mc ms C H locs cells slots ls X
  exact W.lcmp C.1 C.2.1 hd (k l p e R s m args below meth c g mc ms C H locs cells slots ls X)
theorem g_i2l {x : Int32} (hd : decode mi.2.2.1 pc = .ok (.i2l, 1)) (k : G mi d kc ks nx (pc + 1) L (.long x.toInt64 :: S) M F) : G mi d kc ks nx pc L (.int x :: S) M F := by
  intro l p e R s m args below meth c g mc ms C H locs cells slots ls X
  exact lv_i2l C.1 C.2.1 hd rfl (k l p e R s m args below meth c g mc ms C H locs cells slots ls X)
theorem g_l2i {x : Int64} (hd : decode mi.2.2.1 pc = .ok (.l2i, 1)) (k : G mi d kc ks nx (pc + 1) L (.int x.toInt32 :: S) M F) : G mi d kc ks nx pc L (.long x :: S) M F := by
  intro l p e R s m args below meth c g mc ms C H locs cells slots ls X
  exact lv_l2i C.1 C.2.1 hd rfl (k l p e R s m args below meth c g mc ms C H locs cells slots ls X)
theorem g_i2d {x : Int32} (hd : decode mi.2.2.1 pc = .ok (.i2d, 1)) (k : G mi d kc ks nx (pc + 1) L (.double (FP.i2d x) :: S) M F) : G mi d kc ks nx pc L (.int x :: S) M F := by
  intro l p e R s m args below meth c g mc ms C H locs cells slots ls X
  exact lv_i2d C.1 C.2.1 hd (k l p e R s m args below meth c g mc ms C H locs cells slots ls X)
theorem g_l2d {x : Int64} (hd : decode mi.2.2.1 pc = .ok (.l2d, 1)) (k : G mi d kc ks nx (pc + 1) L (.double (FP.l2d x) :: S) M F) : G mi d kc ks nx pc L (.long x :: S) M F := by
  intro l p e R s m args below meth c g mc ms C H locs cells slots ls X
  exact lv_l2d C.1 C.2.1 hd (k l p e R s m args below meth c g mc ms C H locs cells slots ls X)
theorem g_i2f {x : Int32} (hd : decode mi.2.2.1 pc = .ok (.i2f, 1)) (k : G mi d kc ks nx (pc + 1) L (.float (FP.i2f x) :: S) M F) : G mi d kc ks nx pc L (.int x :: S) M F := by
  intro l p e R s m args below meth c g mc ms C H locs cells slots ls X
  exact lv_i2f C.1 C.2.1 hd (k l p e R s m args below meth c g mc ms C H locs cells slots ls X)
theorem g_d2l {x : UInt64} (hd : decode mi.2.2.1 pc = .ok (.d2l, 1)) (k : G mi d kc ks nx (pc + 1) L (.long (FP.d2l x) :: S) M F) : G mi d kc ks nx pc L (.double x :: S) M F := by
  intro l p e R s m args below meth c g mc ms C H locs cells slots ls X
  exact lv_d2l C.1 C.2.1 hd (k l p e R s m args below meth c g mc ms C H locs cells slots ls X)
theorem g_f2d {x : UInt32} (hd : decode mi.2.2.1 pc = .ok (.f2d, 1)) (hn : vf_n64 (FP.f2d x)) (k : G mi d kc ks nx (pc + 1) L (.double (FP.f2d x) :: S) M F) : G mi d kc ks nx pc L (.float x :: S) M F := by
  intro l p e R s m args below meth c g mc ms C H locs cells slots ls X
  exact lv_f2d C.1 C.2.1 hd hn (k l p e R s m args below meth c g mc ms C H locs cells slots ls X)
theorem g_dadd {x y : UInt64} (hd : decode mi.2.2.1 pc = .ok (.dadd, 1)) (hn : vf_n64 (FP.dadd x y)) (k : G mi d kc ks nx (pc + 1) L (.double (FP.dadd x y) :: S) M F) : G mi d kc ks nx pc L (.double y :: .double x :: S) M F := by
  intro l p e R s m args below meth c g mc ms C H locs cells slots ls X
  exact lv_dadd C.1 C.2.1 hd hn (k l p e R s m args below meth c g mc ms C H locs cells slots ls X)
theorem g_dsub {x y : UInt64} (hd : decode mi.2.2.1 pc = .ok (.dsub, 1)) (hn : vf_n64 (FP.dsub x y)) (k : G mi d kc ks nx (pc + 1) L (.double (FP.dsub x y) :: S) M F) : G mi d kc ks nx pc L (.double y :: .double x :: S) M F := by
  intro l p e R s m args below meth c g mc ms C H locs cells slots ls X
  exact lv_dsub C.1 C.2.1 hd hn (k l p e R s m args below meth c g mc ms C H locs cells slots ls X)
theorem g_dmul {x y : UInt64} (hd : decode mi.2.2.1 pc = .ok (.dmul, 1)) (hn : vf_n64 (FP.dmul x y)) (k : G mi d kc ks nx (pc + 1) L (.double (FP.dmul x y) :: S) M F) : G mi d kc ks nx pc L (.double y :: .double x :: S) M F := by
  intro l p e R s m args below meth c g mc ms C H locs cells slots ls X
  exact lv_dmul C.1 C.2.1 hd hn (k l p e R s m args below meth c g mc ms C H locs cells slots ls X)
theorem g_ddiv {x y : UInt64} (hd : decode mi.2.2.1 pc = .ok (.ddiv, 1)) (hn : vf_n64 (FP.ddiv x y)) (k : G mi d kc ks nx (pc + 1) L (.double (FP.ddiv x y) :: S) M F) : G mi d kc ks nx pc L (.double y :: .double x :: S) M F := by
  intro l p e R s m args below meth c g mc ms C H locs cells slots ls X
  exact lv_ddiv C.1 C.2.1 hd hn (k l p e R s m args below meth c g mc ms C H locs cells slots ls X)
theorem g_fdiv {x y : UInt32} (hd : decode mi.2.2.1 pc = .ok (.fdiv, 1)) (hn : vf_n32 (FP.fdiv x y)) (k : G mi d kc ks nx (pc + 1) L (.float (FP.fdiv x y) :: S) M F) : G mi d kc ks nx pc L (.float y :: .float x :: S) M F := by
  intro l p e R s m args below meth c g mc ms C H locs cells slots ls X
  exact lv_fdiv C.1 C.2.1 hd hn (k l p e R s m args below meth c g mc ms C H locs cells slots ls X)
theorem g_dcmp {x y : UInt64} {op : CmpOp} (hd : decode mi.2.2.1 pc = .ok (.dcmp op, 1)) (k : G mi d kc ks nx (pc + 1) L (.int (Op.cmpValue (FP.dcmp x y) op) :: S) M F) : G mi d kc ks nx pc L (.double y :: .double x :: S) M F := by
  intro l p e R s m args below meth c g mc ms C H locs cells slots ls X
  exact lv_dcmp C.1 C.2.1 hd (k l p e R s m args below meth c g mc ms C H locs cells slots ls X)
theorem g_dup {v : Value} (hd : decode mi.2.2.1 pc = .ok (.dup, 1)) (hv : v.category = 1) (k : G mi d kc ks nx (pc + 1) L (v :: v :: S) M F) : G mi d kc ks nx pc L (v :: S) M F := by
  intro l p e R s m args below meth c g mc ms C H locs cells slots ls X
  exact lv_dup C.1 C.2.1 hd ((z_v_cat _ _).trans hv) (k l p e R s m args below meth c g mc ms C H locs cells slots ls X)
theorem g_dup2 {v w : Value} (hd : decode mi.2.2.1 pc = .ok (.dup2, 1)) (hv : v.category = 1) (hw : w.category = 1) (k : G mi d kc ks nx (pc + 1) L (v :: w :: v :: w :: S) M F) : G mi d kc ks nx pc L (v :: w :: S) M F := by
  intro l p e R s m args below meth c g mc ms C H locs cells slots ls X
  exact lv_dup2_11 C.1 C.2.1 hd ((z_v_cat _ _).trans hv) ((z_v_cat _ _).trans hw) (k l p e R s m args below meth c g mc ms C H locs cells slots ls X)
theorem g_pop {v : Value} (hd : decode mi.2.2.1 pc = .ok (.pop, 1)) (hv : v.category = 1) (k : G mi d kc ks nx (pc + 1) L (S) M F) : G mi d kc ks nx pc L (v :: S) M F := by
  intro l p e R s m args below meth c g mc ms C H locs cells slots ls X
  exact lv_pop C.1 C.2.1 hd ((z_v_cat _ _).trans hv) (k l p e R s m args below meth c g mc ms C H locs cells slots ls X)
theorem g_iconst {n : Int} {v : Int32} (hd : decode mi.2.2.1 pc = .ok (.iconst n, 1)) (hv : Int32.ofInt n = v) (k : G mi d kc ks nx (pc + 1) L (.int v :: S) M F) : G mi d kc ks nx pc L (S) M F := by
  intro l p e R s m args below meth c g mc ms C H locs cells slots ls X
  exact lv_iconst C.1 C.2.1 hd hv (k l p e R s m args below meth c g mc ms C H locs cells slots ls X)
theorem g_bipush {n : Int} {v : Int32} (hd : decode mi.2.2.1 pc = .ok (.bipush n, 2)) (hv : (Int8.ofInt n).toInt32 = v) (k : G mi d kc ks nx (pc + 2) L (.int v :: S) M F) : G mi d kc ks nx pc L (S) M F := by
  intro l p e R s m args below meth c g mc ms C H locs cells slots ls X
  exact lv_bipush C.1 C.2.1 hd hv (k l p e R s m args below meth c g mc ms C H locs cells slots ls X)
theorem g_sipush {n : Int} {v : Int32} (hd : decode mi.2.2.1 pc = .ok (.sipush n, 3)) (hv : (Int16.ofInt n).toInt32 = v) (k : G mi d kc ks nx (pc + 3) L (.int v :: S) M F) : G mi d kc ks nx pc L (S) M F := by
  intro l p e R s m args below meth c g mc ms C H locs cells slots ls X
  exact lv_sipush C.1 C.2.1 hd hv (k l p e R s m args below meth c g mc ms C H locs cells slots ls X)
theorem g_lconst {n : Fin 2} {v : Int64} (hd : decode mi.2.2.1 pc = .ok (.lconst n, 1)) (hv : Int64.ofNat n = v) (k : G mi d kc ks nx (pc + 1) L (.long v :: S) M F) : G mi d kc ks nx pc L (S) M F := by
  intro l p e R s m args below meth c g mc ms C H locs cells slots ls X
  exact lv_lconst C.1 C.2.1 hd hv (k l p e R s m args below meth c g mc ms C H locs cells slots ls X)
theorem g_ldci {i : Nat} {v : Int32} (hd : decode mi.2.2.1 pc = .ok (.ldc i, 2)) (hw : Cond.constant mi.2.1 i v ∈ SW) (k : G mi d kc ks nx (pc + 2) L (.int v :: S) M F) : G mi d kc ks nx pc L (S) M F := by
  intro l p e R s m args below meth c g mc ms C H locs cells slots ls X
  exact lv_ldc C.1 C.2.1 C.2.2.2.2.2.2.1 (C.2.2.2.2.2.2.2.1 _ hw) hd (k l p e R s m args below meth c g mc ms C H locs cells slots ls X)
theorem g_ldcf {i : Nat} {v : UInt32} (hd : decode mi.2.2.1 pc = .ok (.ldc i, 2)) (hw : Cond.constantFloat mi.2.1 i v ∈ SW) (k : G mi d kc ks nx (pc + 2) L (.float v :: S) M F) : G mi d kc ks nx pc L (S) M F := by
  intro l p e R s m args below meth c g mc ms C H locs cells slots ls X
  exact lv_ldcf C.1 C.2.1 C.2.2.2.2.2.2.1 (C.2.2.2.2.2.2.2.1 _ hw) hd (k l p e R s m args below meth c g mc ms C H locs cells slots ls X)
theorem g_ldcl {i : Nat} {v : Int64} (hd : decode mi.2.2.1 pc = .ok (.ldc2_w i, 3)) (hw : Cond.constantLong mi.2.1 i v ∈ SW) (k : G mi d kc ks nx (pc + 3) L (.long v :: S) M F) : G mi d kc ks nx pc L (S) M F := by
  intro l p e R s m args below meth c g mc ms C H locs cells slots ls X
  exact lv_ldc2 C.1 C.2.1 C.2.2.2.2.2.2.1 (C.2.2.2.2.2.2.2.1 _ hw) hd (k l p e R s m args below meth c g mc ms C H locs cells slots ls X)
theorem g_ldcd {i : Nat} {v : UInt64} (hd : decode mi.2.2.1 pc = .ok (.ldc2_w i, 3)) (hw : Cond.constantDouble mi.2.1 i v ∈ SW) (k : G mi d kc ks nx (pc + 3) L (.double v :: S) M F) : G mi d kc ks nx pc L (S) M F := by
  intro l p e R s m args below meth c g mc ms C H locs cells slots ls X
  exact lv_ldc2d C.1 C.2.1 C.2.2.2.2.2.2.1 (C.2.2.2.2.2.2.2.1 _ hw) hd (k l p e R s m args below meth c g mc ms C H locs cells slots ls X)
theorem g_iload_n {q : Fin 4} {x : Int32} (hd : decode mi.2.2.1 pc = .ok (.iload_n q, 1)) (hl : zl L q = some (.int x)) (k : G mi d kc ks nx (pc + 1) L (.int x :: S) M F) : G mi d kc ks nx pc L (S) M F := by
  intro l p e R s m args below meth c g mc ms C H locs cells slots ls X
  exact lv_iload_n C.1 C.2.1 hd rfl (z_lk X.2.2.2.1 hl) (k l p e R s m args below meth c g mc ms C H locs cells slots ls X)
theorem g_iload {q : Nat} {x : Int32} (hd : decode mi.2.2.1 pc = .ok (.iload q, 2)) (hl : zl L q = some (.int x)) (k : G mi d kc ks nx (pc + 2) L (.int x :: S) M F) : G mi d kc ks nx pc L (S) M F := by
  intro l p e R s m args below meth c g mc ms C H locs cells slots ls X
  exact lv_iload C.1 C.2.1 hd (z_lk X.2.2.2.1 hl) (k l p e R s m args below meth c g mc ms C H locs cells slots ls X)
theorem g_lload_n {q : Fin 4} {x : Int64} (hd : decode mi.2.2.1 pc = .ok (.lload_n q, 1)) (hl : zl L q = some (.long x)) (k : G mi d kc ks nx (pc + 1) L (.long x :: S) M F) : G mi d kc ks nx pc L (S) M F := by
  intro l p e R s m args below meth c g mc ms C H locs cells slots ls X
  exact lv_lload_n C.1 C.2.1 hd rfl (z_lk X.2.2.2.1 hl) (k l p e R s m args below meth c g mc ms C H locs cells slots ls X)
theorem g_lload {q : Nat} {x : Int64} (hd : decode mi.2.2.1 pc = .ok (.lload q, 2)) (hl : zl L q = some (.long x)) (k : G mi d kc ks nx (pc + 2) L (.long x :: S) M F) : G mi d kc ks nx pc L (S) M F := by
  intro l p e R s m args below meth c g mc ms C H locs cells slots ls X
  exact lv_lload C.1 C.2.1 hd (z_lk X.2.2.2.1 hl) (k l p e R s m args below meth c g mc ms C H locs cells slots ls X)
theorem g_dload_n {q : Fin 4} {x : UInt64} (hd : decode mi.2.2.1 pc = .ok (.dload_n q, 1)) (hl : zl L q = some (.double x)) (k : G mi d kc ks nx (pc + 1) L (.double x :: S) M F) : G mi d kc ks nx pc L (S) M F := by
  intro l p e R s m args below meth c g mc ms C H locs cells slots ls X
  exact lv_dload_n C.1 C.2.1 hd rfl (z_lk X.2.2.2.1 hl) (k l p e R s m args below meth c g mc ms C H locs cells slots ls X)
theorem g_dload {q : Nat} {x : UInt64} (hd : decode mi.2.2.1 pc = .ok (.dload q, 2)) (hl : zl L q = some (.double x)) (k : G mi d kc ks nx (pc + 2) L (.double x :: S) M F) : G mi d kc ks nx pc L (S) M F := by
  intro l p e R s m args below meth c g mc ms C H locs cells slots ls X
  exact lv_dload C.1 C.2.1 hd (z_lk X.2.2.2.1 hl) (k l p e R s m args below meth c g mc ms C H locs cells slots ls X)
theorem g_fload_n {q : Fin 4} {x : UInt32} (hd : decode mi.2.2.1 pc = .ok (.fload_n q, 1)) (hl : zl L q = some (.float x)) (k : G mi d kc ks nx (pc + 1) L (.float x :: S) M F) : G mi d kc ks nx pc L (S) M F := by
  intro l p e R s m args below meth c g mc ms C H locs cells slots ls X
  exact lv_fload_n C.1 C.2.1 hd rfl (z_lk X.2.2.2.1 hl) (k l p e R s m args below meth c g mc ms C H locs cells slots ls X)
theorem g_fload {q : Nat} {x : UInt32} (hd : decode mi.2.2.1 pc = .ok (.fload q, 2)) (hl : zl L q = some (.float x)) (k : G mi d kc ks nx (pc + 2) L (.float x :: S) M F) : G mi d kc ks nx pc L (S) M F := by
  intro l p e R s m args below meth c g mc ms C H locs cells slots ls X
  exact lv_fload C.1 C.2.1 hd (z_lk X.2.2.2.1 hl) (k l p e R s m args below meth c g mc ms C H locs cells slots ls X)
theorem g_aload_n {q : Fin 4} {x : Nat} (hd : decode mi.2.2.1 pc = .ok (.aload_n q, 1)) (hl : zl L q = some (.ref x)) (k : G mi d kc ks nx (pc + 1) L (.ref x :: S) M F) : G mi d kc ks nx pc L (S) M F := by
  intro l p e R s m args below meth c g mc ms C H locs cells slots ls X
  exact lv_aload_n C.1 C.2.1 hd rfl (z_lk X.2.2.2.1 hl) (k l p e R s m args below meth c g mc ms C H locs cells slots ls X)
theorem g_aload {q : Nat} {x : Nat} (hd : decode mi.2.2.1 pc = .ok (.aload q, 2)) (hl : zl L q = some (.ref x)) (k : G mi d kc ks nx (pc + 2) L (.ref x :: S) M F) : G mi d kc ks nx pc L (S) M F := by
  intro l p e R s m args below meth c g mc ms C H locs cells slots ls X
  exact lv_aload C.1 C.2.1 hd (z_lk X.2.2.2.1 hl) (k l p e R s m args below meth c g mc ms C H locs cells slots ls X)
theorem g_istore_n {q : Fin 4} {x : Int32} (hd : decode mi.2.2.1 pc = .ok (.istore_n q, 1)) (hn : (q : Nat) < mi.2.2.2.1) (k : G mi d kc ks nx (pc + 1) ((q, .int x) :: zf1 q L) S M F) : G mi d kc ks nx pc L (.int x :: S) M F := by
  intro l p e R s m args below meth c g mc ms C H locs cells slots ls X
  obtain ⟨x1, x2, x3, x4, x5⟩ := X
  exact lv_istore_n C.1 C.2.1 hd rfl x4 hn rfl (fun ls' hl' => k l p e R s m args below meth c g mc ms C H locs cells slots ls' ⟨x1, x2, x3, hl'.less (z_L_zf1 (v := .int x)), x5⟩)
theorem g_istore {q : Nat} {x : Int32} (hd : decode mi.2.2.1 pc = .ok (.istore q, 2)) (hn : (q : Nat) < mi.2.2.2.1) (k : G mi d kc ks nx (pc + 2) ((q, .int x) :: zf1 q L) S M F) : G mi d kc ks nx pc L (.int x :: S) M F := by
  intro l p e R s m args below meth c g mc ms C H locs cells slots ls X
  obtain ⟨x1, x2, x3, x4, x5⟩ := X
  exact lv_istore C.1 C.2.1 hd x4 hn rfl (fun ls' hl' => k l p e R s m args below meth c g mc ms C H locs cells slots ls' ⟨x1, x2, x3, hl'.less (z_L_zf1 (v := .int x)), x5⟩)
theorem g_lstore_n {q : Fin 4} {x : Int64} (hd : decode mi.2.2.1 pc = .ok (.lstore_n q, 1)) (hn : (q : Nat) + 1 < mi.2.2.2.1) (k : G mi d kc ks nx (pc + 1) ((q, .long x) :: zf2 q L) S M F) : G mi d kc ks nx pc L (.long x :: S) M F := by
  intro l p e R s m args below meth c g mc ms C H locs cells slots ls X
  obtain ⟨x1, x2, x3, x4, x5⟩ := X
  exact lv_lstore_n C.1 C.2.1 hd rfl x4 hn rfl (fun ls' hl' => k l p e R s m args below meth c g mc ms C H locs cells slots ls' ⟨x1, x2, x3, hl'.less (z_L_zf2 (v := .long x)), x5⟩)
theorem g_lstore {q : Nat} {x : Int64} (hd : decode mi.2.2.1 pc = .ok (.lstore q, 2)) (hn : (q : Nat) + 1 < mi.2.2.2.1) (k : G mi d kc ks nx (pc + 2) ((q, .long x) :: zf2 q L) S M F) : G mi d kc ks nx pc L (.long x :: S) M F := by
  intro l p e R s m args below meth c g mc ms C H locs cells slots ls X
  obtain ⟨x1, x2, x3, x4, x5⟩ := X
  exact lv_lstore C.1 C.2.1 hd x4 hn rfl (fun ls' hl' => k l p e R s m args below meth c g mc ms C H locs cells slots ls' ⟨x1, x2, x3, hl'.less (z_L_zf2 (v := .long x)), x5⟩)
theorem g_dstore_n {q : Fin 4} {x : UInt64} (hd : decode mi.2.2.1 pc = .ok (.dstore_n q, 1)) (hn : (q : Nat) + 1 < mi.2.2.2.1) (k : G mi d kc ks nx (pc + 1) ((q, .double x) :: zf2 q L) S M F) : G mi d kc ks nx pc L (.double x :: S) M F := by
  intro l p e R s m args below meth c g mc ms C H locs cells slots ls X
  obtain ⟨x1, x2, x3, x4, x5⟩ := X
  exact lv_dstore_n C.1 C.2.1 hd rfl x4 hn rfl (fun ls' hl' => k l p e R s m args below meth c g mc ms C H locs cells slots ls' ⟨x1, x2, x3, hl'.less (z_L_zf2 (v := .double x)), x5⟩)
theorem g_dstore {q : Nat} {x : UInt64} (hd : decode mi.2.2.1 pc = .ok (.dstore q, 2)) (hn : (q : Nat) + 1 < mi.2.2.2.1) (k : G mi d kc ks nx (pc + 2) ((q, .double x) :: zf2 q L) S M F) : G mi d kc ks nx pc L (.double x :: S) M F := by
  intro l p e R s m args below meth c g mc ms C H locs cells slots ls X
  obtain ⟨x1, x2, x3, x4, x5⟩ := X
  exact lv_dstore C.1 C.2.1 hd x4 hn rfl (fun ls' hl' => k l p e R s m args below meth c g mc ms C H locs cells slots ls' ⟨x1, x2, x3, hl'.less (z_L_zf2 (v := .double x)), x5⟩)
theorem g_astore_n {q : Fin 4} {x : Nat} (hd : decode mi.2.2.1 pc = .ok (.astore_n q, 1)) (hn : (q : Nat) < mi.2.2.2.1) (k : G mi d kc ks nx (pc + 1) ((q, .ref x) :: zf1 q L) S M F) : G mi d kc ks nx pc L (.ref x :: S) M F := by
  intro l p e R s m args below meth c g mc ms C H locs cells slots ls X
  obtain ⟨x1, x2, x3, x4, x5⟩ := X
  exact lv_astore_n C.1 C.2.1 hd rfl x4 hn rfl (fun ls' hl' => k l p e R s m args below meth c g mc ms C H locs cells slots ls' ⟨x1, x2, x3, hl'.less (z_L_zf1 (v := .ref x)), x5⟩)
theorem g_astore {q : Nat} {x : Nat} (hd : decode mi.2.2.1 pc = .ok (.astore q, 2)) (hn : (q : Nat) < mi.2.2.2.1) (k : G mi d kc ks nx (pc + 2) ((q, .ref x) :: zf1 q L) S M F) : G mi d kc ks nx pc L (.ref x :: S) M F := by
  intro l p e R s m args below meth c g mc ms C H locs cells slots ls X
  obtain ⟨x1, x2, x3, x4, x5⟩ := X
  exact lv_astore C.1 C.2.1 hd x4 hn rfl (fun ls' hl' => k l p e R s m args below meth c g mc ms C H locs cells slots ls' ⟨x1, x2, x3, hl'.less (z_L_zf1 (v := .ref x)), x5⟩)
theorem z_pick {g : zG} {L : List (Nat × Value)} {q : Nat} {v : Value} (h : zl L q = some v) : ∃ k : Nat, (z_L g L)[k]? = some (q, z_v g.1 v) := by
  obtain ⟨k, hk⟩ := List.getElem?_of_mem (zl_mem h)
  exact ⟨k, by rw [List.getElem?_map, hk]; rfl⟩
theorem g_iinc {q : Nat} {n : Int} {x v : Int32} (hd : decode mi.2.2.1 pc = .ok (.iinc q n, 3)) (hl : zl L q = some (.int x)) (hv : x + Int32.ofInt n = v) (hn : q < mi.2.2.2.1) (k : G mi d kc ks nx (pc + 3) ((q, .int v) :: zf1 q L) S M F) : G mi d kc ks nx pc L S M F := by
  intro l p e R s m args below meth c g mc ms C H locs cells slots ls X
  obtain ⟨x1, x2, x3, x4, x5⟩ := X
  obtain ⟨j, hj⟩ := z_pick (g := g) hl
  exact lv_iinc C.1 C.2.1 hd x4 hj hv hn rfl (fun ls' hl' => k l p e R s m args below meth c g mc ms C H locs cells slots ls' ⟨x1, x2, x3, hl'.less (z_L_zf1 (v := .int v)), x5⟩)
theorem g_if_eq {x : Int32} {off : Int} {tgt : Nat} (hd : decode mi.2.2.1 pc = .ok (.ifCond .eq off, 3)) (ht : (pc : Int) + off = (tgt : Int)) (kt : x = 0 → G mi d kc ks nx tgt L S M F) (kf : ¬ x = 0 → G mi d kc ks nx (pc + 3) L S M F) : G mi d kc ks nx pc L (.int x :: S) M F := by
  intro l p e R s m args below meth c g mc ms C H locs cells slots ls X
  exact lv_if_eq C.1 C.2.1 hd ht (fun h => kt h l p e R s m args below meth c g mc ms C H locs cells slots ls X) (fun h => kf h l p e R s m args below meth c g mc ms C H locs cells slots ls X)
theorem g_icmp_eq {x y : Int32} {off : Int} {tgt : Nat} (hd : decode mi.2.2.1 pc = .ok (.if_icmp .eq off, 3)) (ht : (pc : Int) + off = (tgt : Int)) (kt : x = y → G mi d kc ks nx tgt L S M F) (kf : ¬ x = y → G mi d kc ks nx (pc + 3) L S M F) : G mi d kc ks nx pc L (.int y :: .int x :: S) M F := by
  intro l p e R s m args below meth c g mc ms C H locs cells slots ls X
  exact lv_icmp_eq C.1 C.2.1 hd ht (fun h => kt h l p e R s m args below meth c g mc ms C H locs cells slots ls X) (fun h => kf h l p e R s m args below meth c g mc ms C H locs cells slots ls X)
theorem g_if_ne {x : Int32} {off : Int} {tgt : Nat} (hd : decode mi.2.2.1 pc = .ok (.ifCond .ne off, 3)) (ht : (pc : Int) + off = (tgt : Int)) (kt : ¬ x = 0 → G mi d kc ks nx tgt L S M F) (kf : x = 0 → G mi d kc ks nx (pc + 3) L S M F) : G mi d kc ks nx pc L (.int x :: S) M F := by
  intro l p e R s m args below meth c g mc ms C H locs cells slots ls X
  exact lv_if_ne C.1 C.2.1 hd ht (fun h => kt h l p e R s m args below meth c g mc ms C H locs cells slots ls X) (fun h => kf h l p e R s m args below meth c g mc ms C H locs cells slots ls X)
theorem g_icmp_ne {x y : Int32} {off : Int} {tgt : Nat} (hd : decode mi.2.2.1 pc = .ok (.if_icmp .ne off, 3)) (ht : (pc : Int) + off = (tgt : Int)) (kt : ¬ x = y → G mi d kc ks nx tgt L S M F) (kf : x = y → G mi d kc ks nx (pc + 3) L S M F) : G mi d kc ks nx pc L (.int y :: .int x :: S) M F := by
  intro l p e R s m args below meth c g mc ms C H locs cells slots ls X
  exact lv_icmp_ne C.1 C.2.1 hd ht (fun h => kt h l p e R s m args below meth c g mc ms C H locs cells slots ls X) (fun h => kf h l p e R s m args below meth c g mc ms C H locs cells slots ls X)
theorem g_if_lt {x : Int32} {off : Int} {tgt : Nat} (hd : decode mi.2.2.1 pc = .ok (.ifCond .lt off, 3)) (ht : (pc : Int) + off = (tgt : Int)) (kt : x < 0 → G mi d kc ks nx tgt L S M F) (kf : ¬ x < 0 → G mi d kc ks nx (pc + 3) L S M F) : G mi d kc ks nx pc L (.int x :: S) M F := by
  intro l p e R s m args below meth c g mc ms C H locs cells slots ls X
  exact lv_if_lt C.1 C.2.1 hd ht (fun h => kt h l p e R s m args below meth c g mc ms C H locs cells slots ls X) (fun h => kf h l p e R s m args below meth c g mc ms C H locs cells slots ls X)
theorem g_icmp_lt {x y : Int32} {off : Int} {tgt : Nat} (hd : decode mi.2.2.1 pc = .ok (.if_icmp .lt off, 3)) (ht : (pc : Int) + off = (tgt : Int)) (kt : x < y → G mi d kc ks nx tgt L S M F) (kf : ¬ x < y → G mi d kc ks nx (pc + 3) L S M F) : G mi d kc ks nx pc L (.int y :: .int x :: S) M F := by
  intro l p e R s m args below meth c g mc ms C H locs cells slots ls X
  exact lv_icmp_lt C.1 C.2.1 hd ht (fun h => kt h l p e R s m args below meth c g mc ms C H locs cells slots ls X) (fun h => kf h l p e R s m args below meth c g mc ms C H locs cells slots ls X)
theorem g_if_ge {x : Int32} {off : Int} {tgt : Nat} (hd : decode mi.2.2.1 pc = .ok (.ifCond .ge off, 3)) (ht : (pc : Int) + off = (tgt : Int)) (kt : 0 ≤ x → G mi d kc ks nx tgt L S M F) (kf : ¬ 0 ≤ x → G mi d kc ks nx (pc + 3) L S M F) : G mi d kc ks nx pc L (.int x :: S) M F := by
  intro l p e R s m args below meth c g mc ms C H locs cells slots ls X
  exact lv_if_ge C.1 C.2.1 hd ht (fun h => kt h l p e R s m args below meth c g mc ms C H locs cells slots ls X) (fun h => kf h l p e R s m args below meth c g mc ms C H locs cells slots ls X)
theorem g_icmp_ge {x y : Int32} {off : Int} {tgt : Nat} (hd : decode mi.2.2.1 pc = .ok (.if_icmp .ge off, 3)) (ht : (pc : Int) + off = (tgt : Int)) (kt : y ≤ x → G mi d kc ks nx tgt L S M F) (kf : ¬ y ≤ x → G mi d kc ks nx (pc + 3) L S M F) : G mi d kc ks nx pc L (.int y :: .int x :: S) M F := by
  intro l p e R s m args below meth c g mc ms C H locs cells slots ls X
  exact lv_icmp_ge C.1 C.2.1 hd ht (fun h => kt h l p e R s m args below meth c g mc ms C H locs cells slots ls X) (fun h => kf h l p e R s m args below meth c g mc ms C H locs cells slots ls X)
theorem g_if_gt {x : Int32} {off : Int} {tgt : Nat} (hd : decode mi.2.2.1 pc = .ok (.ifCond .gt off, 3)) (ht : (pc : Int) + off = (tgt : Int)) (kt : 0 < x → G mi d kc ks nx tgt L S M F) (kf : ¬ 0 < x → G mi d kc ks nx (pc + 3) L S M F) : G mi d kc ks nx pc L (.int x :: S) M F := by
  intro l p e R s m args below meth c g mc ms C H locs cells slots ls X
  exact lv_if_gt C.1 C.2.1 hd ht (fun h => kt h l p e R s m args below meth c g mc ms C H locs cells slots ls X) (fun h => kf h l p e R s m args below meth c g mc ms C H locs cells slots ls X)
theorem g_icmp_gt {x y : Int32} {off : Int} {tgt : Nat} (hd : decode mi.2.2.1 pc = .ok (.if_icmp .gt off, 3)) (ht : (pc : Int) + off = (tgt : Int)) (kt : y < x → G mi d kc ks nx tgt L S M F) (kf : ¬ y < x → G mi d kc ks nx (pc + 3) L S M F) : G mi d kc ks nx pc L (.int y :: .int x :: S) M F := by
  intro l p e R s m args below meth c g mc ms C H locs cells slots ls X
  exact lv_icmp_gt C.1 C.2.1 hd ht (fun h => kt h l p e R s m args below meth c g mc ms C H locs cells slots ls X) (fun h => kf h l p e R s m args below meth c g mc ms C H locs cells slots ls X)
theorem g_if_le {x : Int32} {off : Int} {tgt : Nat} (hd : decode mi.2.2.1 pc = .ok (.ifCond .le off, 3)) (ht : (pc : Int) + off = (tgt : Int)) (kt : x ≤ 0 → G mi d kc ks nx tgt L S M F) (kf : ¬ x ≤ 0 → G mi d kc ks nx (pc + 3) L S M F) : G mi d kc ks nx pc L (.int x :: S) M F := by
  intro l p e R s m args below meth c g mc ms C H locs cells slots ls X
  exact lv_if_le C.1 C.2.1 hd ht (fun h => kt h l p e R s m args below meth c g mc ms C H locs cells slots ls X) (fun h => kf h l p e R s m args below meth c g mc ms C H locs cells slots ls X)
theorem g_icmp_le {x y : Int32} {off : Int} {tgt : Nat} (hd : decode mi.2.2.1 pc = .ok (.if_icmp .le off, 3)) (ht : (pc : Int) + off = (tgt : Int)) (kt : x ≤ y → G mi d kc ks nx tgt L S M F) (kf : ¬ x ≤ y → G mi d kc ks nx (pc + 3) L S M F) : G mi d kc ks nx pc L (.int y :: .int x :: S) M F := by
  intro l p e R s m args below meth c g mc ms C H locs cells slots ls X
  exact lv_icmp_le C.1 C.2.1 hd ht (fun h => kt h l p e R s m args below meth c g mc ms C H locs cells slots ls X) (fun h => kf h l p e R s m args below meth c g mc ms C H locs cells slots ls X)
theorem g_goto {off : Int} {tgt : Nat} (hd : decode mi.2.2.1 pc = .ok (.goto off, 3)) (ht : (pc : Int) + off = (tgt : Int)) (k : G mi d kc ks nx tgt L S M F) : G mi d kc ks nx pc L S M F := by
  intro l p e R s m args below meth c g mc ms C H locs cells slots ls X
  exact lv_goto C.1 C.2.1 hd ht (k l p e R s m args below meth c g mc ms C H locs cells slots ls X)
theorem g_tabOut {dflt lo hi : Int} {offs : Array Int} {len : Nat} {x : Int32} {tgt : Nat} (hd : decode mi.2.2.1 pc = .ok (.tableswitch dflt lo hi offs, len)) (h : x.toInt < lo ∨ hi < x.toInt) (ht : (pc : Int) + dflt = (tgt : Int)) (k : G mi d kc ks nx tgt L S M F) : G mi d kc ks nx pc L (.int x :: S) M F := by
  intro l p e R s m args below meth c g mc ms C H locs cells slots ls X
  exact lv_tableOut C.1 C.2.1 hd h ht (k l p e R s m args below meth c g mc ms C H locs cells slots ls X)
theorem g_tabIn {dflt lo hi : Int} {offs : Array Int} {len : Nat} {x : Int32} {off : Int} {tgt : Nat} (hd : decode mi.2.2.1 pc = .ok (.tableswitch dflt lo hi offs, len)) (h1 : ¬ x.toInt < lo) (h2 : ¬ hi < x.toInt) (ho : offs[(x.toInt - lo).toNat]? = some off) (ht : (pc : Int) + off = (tgt : Int)) (k : G mi d kc ks nx tgt L S M F) : G mi d kc ks nx pc L (.int x :: S) M F := by
  intro l p e R s m args below meth c g mc ms C H locs cells slots ls X
  exact lv_tableIn C.1 C.2.1 hd h1 h2 ho ht (k l p e R s m args below meth c g mc ms C H locs cells slots ls X)
theorem g_lookup {dflt : Int} {ps : Array (Int × Int)} {len : Nat} {x : Int32} {off : Int} {tgt : Nat} (hd : decode mi.2.2.1 pc = .ok (.lookupswitch dflt ps, len)) (hp : (ps.toList.zip (ps.toList.drop 1)).all (fun (a, next) => a.1 < next.1) = true) (ho : Op.lookupswitch.offset ps.toList dflt x.toInt = off) (ht : (pc : Int) + off = (tgt : Int)) (k : G mi d kc ks nx tgt L S M F) : G mi d kc ks nx pc L (.int x :: S) M F := by
  intro l p e R s m args below meth c g mc ms C H locs cells slots ls X
  exact lv_lookup C.1 C.2.1 hd hp ho ht (k l p e R s m args below meth c g mc ms C H locs cells slots ls X)
theorem g_ireturn {x : Int32} {ty : FieldType} (hd : decode mi.2.2.1 pc = .ok (.ireturn, 1)) (hr : mi.2.2.2.2.1 = some ty) (hn : narrow ty (.int x) = .int x) (h : F M nx (.inl (some (.int x)))) : G mi d kc ks nx pc L [.int x] M F := by
  intro l p e R s m args below meth c g mc ms C H locs cells slots ls X
  obtain ⟨x1, x2, x3, x4, x5, x6⟩ := X
  exact W.widen (by omega) (by omega) (vx_ret (W.zret C.1 C.2.1 (C.2.2.2.1.trans hr) hn (fun t ht hW => ⟨⟨M, nx, (some (.int x)), rfl, h, by rw [ht]; exact x1, by rw [ht]; exact x2⟩, x3.F ht⟩) x3.2.2 hd C.2.2.2.2.1))
theorem g_lreturn {x : Int64} (hd : decode mi.2.2.1 pc = .ok (.lreturn, 1)) (hr : mi.2.2.2.2.1 = some .long) (h : F M nx (.inl (some (.long x)))) : G mi d kc ks nx pc L [.long x] M F := by
  intro l p e R s m args below meth c g mc ms C H locs cells slots ls X
  obtain ⟨x1, x2, x3, x4, x5, x6⟩ := X
  exact W.widen (by omega) (by omega) (vx_ret (W.lret C.1 C.2.1 (C.2.2.2.1.trans hr) (fun t ht hW => ⟨⟨M, nx, (some (.long x)), rfl, h, by rw [ht]; exact x1, by rw [ht]; exact x2⟩, x3.F ht⟩) x3.2.2 hd C.2.2.2.2.1))
theorem g_dreturn {x : UInt64} (hd : decode mi.2.2.1 pc = .ok (.dreturn, 1)) (hr : mi.2.2.2.2.1 = some .double) (h : F M nx (.inl (some (.double x)))) : G mi d kc ks nx pc L [.double x] M F := by
  intro l p e R s m args below meth c g mc ms C H locs cells slots ls X
  obtain ⟨x1, x2, x3, x4, x5, x6⟩ := X
  exact W.widen (by omega) (by omega) (vx_ret (W.dret C.1 C.2.1 (C.2.2.2.1.trans hr) (fun t ht hW => ⟨⟨M, nx, (some (.double x)), rfl, h, by rw [ht]; exact x1, by rw [ht]; exact x2⟩, x3.F ht⟩) x3.2.2 hd C.2.2.2.2.1))
theorem g_freturn {x : UInt32} (hd : decode mi.2.2.1 pc = .ok (.freturn, 1)) (hr : mi.2.2.2.2.1 = some .float) (h : F M nx (.inl (some (.float x)))) : G mi d kc ks nx pc L [.float x] M F := by
  intro l p e R s m args below meth c g mc ms C H locs cells slots ls X
  obtain ⟨x1, x2, x3, x4, x5, x6⟩ := X
  exact W.widen (by omega) (by omega) (vx_ret (W.fret C.1 C.2.1 (C.2.2.2.1.trans hr) (fun t ht hW => ⟨⟨M, nx, (some (.float x)), rfl, h, by rw [ht]; exact x1, by rw [ht]; exact x2⟩, x3.F ht⟩) x3.2.2 hd C.2.2.2.2.1))
theorem g_return (hd : decode mi.2.2.1 pc = .ok (.return_, 1)) (hr : mi.2.2.2.2.1 = none) (h : F M nx (.inl none)) : G mi d kc ks nx pc L [] M F := by
  intro l p e R s m args below meth c g mc ms C H locs cells slots ls X
  obtain ⟨x1, x2, x3, x4, x5, x6⟩ := X
  exact W.widen (by omega) (by omega) (vx_ret (W.vret C.1 C.2.1 (C.2.2.2.1.trans hr) (fun t ht hW => ⟨⟨M, nx, none, rfl, h, by rw [ht]; exact x1, by rw [ht]; exact x2⟩, x3.F ht⟩) x3.2.2 hd C.2.2.2.2.1))
end GR
