/-! THE LAW, FROM ITS ENTRY -/
theorem sp_exact {args : Array Value} {s : State} {own : String} {k : Nat} (h : (Cond.exactly (.string own k) "java/lang/String").before args s = true) : ∃ a : Nat, (Term.string own k).eval args s none [] s = some (.ref a) := by
  obtain ⟨a, c, cA, kA, q1, -⟩ := Cond.exactly_spec (args := args) (first := s) (o := none) (s := s) (idx := []) (t := .string own k) (cls := "java/lang/String") h
  exact ⟨a, q1⟩
theorem sp_prim {args : Array Value} {s : State} {ty : FieldType} (h : (Cond.arrayClass ty).before args s = true) : ∃ c : ClassId, ArrOfT s c ty ∧ s.vm.findClass ("[" ++ ty.toString) = some c := by
  obtain ⟨c, k, comp, f1, f2, f3⟩ := Cond.arrayClass_spec (args := args) (first := s) (o := none) (s := s) (idx := []) h
  exact ⟨c, fun n z => ⟨fun k h => (by cases h), k, f2, comp, f3⟩, f1⟩
theorem sp_over {args : Array Value} {s : State} {C : String} (h : (Cond.arrayOver (.object C)).before args s = true) : ∃ c : ClassId, ArrOfT s c (.object C) ∧ va_RA s c (.object C) := by
  obtain ⟨comp, c, k, f1, f2, f3, f4, f5⟩ := Cond.arrayOver_spec (args := args) (first := s) (o := none) (s := s) (idx := []) h
  exact ⟨c, fun n z => ⟨fun k h => (by cases h), k, f3, comp, f4⟩, k, comp, f3, f4, f1, f5⟩
theorem sp_drop {s t : State} {Ls : List Loc} {k n : Nat} (h : s.sameButNew t Ls k n) (hL : ∀ z ∈ Ls, s.heap.size ≤ z.base) : s.sameButNew t [] k n := by
  obtain ⟨h1, h2, h3, h4, h5, h6⟩ := h
  refine ⟨h1, h2, h3, h4, h5, fun a c hc => ?_⟩
  obtain ⟨c', e1, e2, e3, e4⟩ := h6 a c hc
  refine ⟨c', e1, e2, e3, fun i _ => e4 i (fun hm => ?_)⟩
  have h7 := hL _ hm
  have h8 := (Array.getElem?_eq_some_iff.mp hc).1
  exact absurd h8 (Nat.not_lt.mpr h7)
theorem sp_lo : ∀ j, j < 6 → Cond.eq (.elem (.static RX2 "LOWEST" "[I") (.int (Int32.ofNat j))) (.int (nI (zLo j))) ∈ flatC (Jvm.Cond.and given_1 narrow_1) := by decide +kernel
theorem sp_hi : ∀ j, j < 6 → Cond.eq (.elem (.static RX2 "HIGHEST" "[I") (.int (Int32.ofNat j))) (.int (nI (zHi j))) ∈ flatC (Jvm.Cond.and given_1 narrow_1) := by decide +kernel
theorem sp_st : ∀ j, j < 5 → Cond.eq (.elem (.static RX5 "HIGHEST_SETTING" "[I") (.int (Int32.ofNat j))) (.int (nI (zSt j))) ∈ flatC (Jvm.Cond.and given_1 narrow_1) := by decide +kernel
theorem sp_by : ∀ j, j < 6 → Cond.eq (.elem (.field (.string RX2 44) "java/lang/String" "value" "[B") (.int (Int32.ofNat j))) (.int ((([[58, 44, 45, 42, 64, 59]] : List (List Int32)).getD 0 []).getD j 0)) ∈ flatC (Jvm.Cond.and given_1 narrow_1) := by decide +kernel
theorem sp_nc : ∀ q ∈ z_xs, ∀ q' ∈ z_xs, q ≠ q' → Cond.not (.castable q q') ∈ flatC (Jvm.Cond.and given_1 narrow_1) := by decide +kernel
theorem sp_ex : ∀ q ∈ z_texts, Cond.exactly (.string RX5 q.1) "java/lang/String" ∈ flatC (Jvm.Cond.and given_1 narrow_1) := by decide +kernel
theorem sp_sr : ∀ q ∈ z_texts, Cond.stringRef RX5 q.1 q.2 ∈ lw_tbl := by
  refine List.forall_mem_cons.mpr ⟨List.mem_of_getElem? (i := 736) (by decide +kernel), ?_⟩
  refine List.forall_mem_cons.mpr ⟨List.mem_of_getElem? (i := 756) (by decide +kernel), ?_⟩
  refine List.forall_mem_cons.mpr ⟨List.mem_of_getElem? (i := 772) (by decide +kernel), ?_⟩
  refine List.forall_mem_cons.mpr ⟨List.mem_of_getElem? (i := 787) (by decide +kernel), ?_⟩
  refine List.forall_mem_cons.mpr ⟨List.mem_of_getElem? (i := 799) (by decide +kernel), ?_⟩
  refine List.forall_mem_cons.mpr ⟨List.mem_of_getElem? (i := 834) (by decide +kernel), ?_⟩
  refine List.forall_mem_cons.mpr ⟨List.mem_of_getElem? (i := 842) (by decide +kernel), ?_⟩
  refine List.forall_mem_cons.mpr ⟨List.mem_of_getElem? (i := 539) (by decide +kernel), ?_⟩
  refine List.forall_mem_cons.mpr ⟨List.mem_of_getElem? (i := 470) (by decide +kernel), ?_⟩
  refine List.forall_mem_cons.mpr ⟨List.mem_of_getElem? (i := 551) (by decide +kernel), ?_⟩
  refine List.forall_mem_cons.mpr ⟨List.mem_of_getElem? (i := 516) (by decide +kernel), ?_⟩
  refine List.forall_mem_cons.mpr ⟨List.mem_of_getElem? (i := 675) (by decide +kernel), ?_⟩
  refine List.forall_mem_cons.mpr ⟨List.mem_of_getElem? (i := 686) (by decide +kernel), ?_⟩
  exact fun q h => by cases h
theorem sp_ne : ∀ q ∈ z_nests, Cond.methodLinkNest q.1 q.2.1 q.2.2.1 q.2.2.2 ∈ lw_tbl := by
  refine List.forall_mem_cons.mpr ⟨List.mem_of_getElem? (i := 101) (by decide +kernel), ?_⟩
  refine List.forall_mem_cons.mpr ⟨List.mem_of_getElem? (i := 215) (by decide +kernel), ?_⟩
  refine List.forall_mem_cons.mpr ⟨List.mem_of_getElem? (i := 240) (by decide +kernel), ?_⟩
  refine List.forall_mem_cons.mpr ⟨List.mem_of_getElem? (i := 259) (by decide +kernel), ?_⟩
  refine List.forall_mem_cons.mpr ⟨List.mem_of_getElem? (i := 114) (by decide +kernel), ?_⟩
  refine List.forall_mem_cons.mpr ⟨List.mem_of_getElem? (i := 313) (by decide +kernel), ?_⟩
  refine List.forall_mem_cons.mpr ⟨List.mem_of_getElem? (i := 584) (by decide +kernel), ?_⟩
  refine List.forall_mem_cons.mpr ⟨List.mem_of_getElem? (i := 718) (by decide +kernel), ?_⟩
  exact fun q h => by cases h
theorem sp_ca : ∀ q ∈ z_xs, Cond.castable q q ∈ lw_tbl := by
  refine List.forall_mem_cons.mpr ⟨List.mem_of_getElem? (i := 431) (by decide +kernel), ?_⟩
  refine List.forall_mem_cons.mpr ⟨List.mem_of_getElem? (i := 509) (by decide +kernel), ?_⟩
  refine List.forall_mem_cons.mpr ⟨List.mem_of_getElem? (i := 668) (by decide +kernel), ?_⟩
  exact fun q h => by cases h
theorem sp_de : ∀ q ∈ z_decl, Cond.declares ⟨q, "<init>", "(Ljava/lang/String;)V"⟩ ∈ lw_tbl := by
  refine List.forall_mem_cons.mpr ⟨List.mem_of_getElem? (i := 433) (by decide +kernel), ?_⟩
  refine List.forall_mem_cons.mpr ⟨List.mem_of_getElem? (i := 435) (by decide +kernel), ?_⟩
  refine List.forall_mem_cons.mpr ⟨List.mem_of_getElem? (i := 437) (by decide +kernel), ?_⟩
  exact fun q h => by cases h
theorem whole_start {p : Program} {e : Env} {s : State} {m : MethodId} {below : List Frame} {meth : Method} {c : Code} (l : Launch) (hflags : l.flags = flags0) {b L : Nat} {xs : Nat → Int32} (hL : L ≤ 3584) (C0 : lw_At p s m meth c b L xs) : W p l e room_1 s m #[Value.ref b] below meth c s.heap [] 0 0 (lw_Z below #[Value.ref b] s) (entryFrame m ([Value.ref b] : List Value).toArray 10) := by
  obtain ⟨hx, hb, hr, hml, hown, hts, hX, hbl, hlocks, hgv⟩ := id C0
  have hs := flat_of_before _ hgv
  have hA : ∀ a : Nat, a < s.heap.size → ¬ (fun q : Nat => s.heap.size ≤ q) a := fun a h => Nat.not_le.mpr h
  have hw : ∀ w ∈ SW, w.before #[Value.ref b] s = true := fun w h => hts w (SW_tbl w h)
  have htr : l.stackTraces = false := by
    show (!l.flags.contains noTraceFlag) = false
    rw [hflags]
    decide +kernel
  obtain ⟨t1, ev1, T1⟩ := va_Tof (s := s) (tm := .static RX2 "LOWEST" "[I") (ty := .int) (N := 6) (f := fun j => .int (nI (zLo j))) (A := fun q => s.heap.size ≤ q) (by decide) (hs _ (by decide +kernel)) (va_eqt (hs _ (by decide +kernel))) (fun j hj => va_eqt (hs _ (sp_lo j hj))) hA
  obtain ⟨t2, ev2, T2⟩ := va_Tof (s := s) (tm := .static RX2 "HIGHEST" "[I") (ty := .int) (N := 6) (f := fun j => .int (nI (zHi j))) (A := fun q => s.heap.size ≤ q) (by decide) (hs _ (by decide +kernel)) (va_eqt (hs _ (by decide +kernel))) (fun j hj => va_eqt (hs _ (sp_hi j hj))) hA
  obtain ⟨t3, ev3, T3⟩ := va_Tof (s := s) (tm := .static RX5 "HIGHEST_SETTING" "[I") (ty := .int) (N := 5) (f := fun j => .int (nI (zSt j))) (A := fun q => s.heap.size ≤ q) (by decide) (hs _ (by decide +kernel)) (va_eqt (hs _ (by decide +kernel))) (fun j hj => va_eqt (hs _ (sp_st j hj))) hA
  have Z1 := va_Zof (C := RX2) (n := "LOWEST") (d := "[I") (A := fun q => s.heap.size ≤ q) (hts _ (List.mem_of_getElem? (i := 310) (by decide +kernel))) (hw _ q73) ev1 hA
  have Z2 := va_Zof (C := RX2) (n := "HIGHEST") (d := "[I") (A := fun q => s.heap.size ≤ q) (hts _ (List.mem_of_getElem? (i := 312) (by decide +kernel))) (hw _ q73) ev2 hA
  have Z3 := va_Zof (C := RX5) (n := "HIGHEST_SETTING") (d := "[I") (A := fun q => s.heap.size ≤ q) (hts _ (List.mem_of_getElem? (i := 774) (by decide +kernel))) (hw _ q69) ev3 hA
  have V1 := vx_Zqof (C := Bundle.tN) (n := "UNASSIGNED_STACK") (d := Bundle.steD) (A := fun q => s.heap.size ≤ q) (hts _ (List.mem_of_getElem? (i := 456) (by decide +kernel))) (hw _ q76) (hs _ (by decide +kernel)) hA
  have V2 := vx_Zqof (C := Bundle.tN) (n := "SUPPRESSED_SENTINEL") (d := Bundle.listD) (A := fun q => s.heap.size ≤ q) (hts _ (List.mem_of_getElem? (i := 458) (by decide +kernel))) (hw _ q76) (hs _ (by decide +kernel)) hA
  have ZC := va_Zof (C := "java/lang/String") (n := "COMPACT_STRINGS") (d := "Z") (A := fun q => s.heap.size ≤ q) (hts _ (List.mem_of_getElem? (i := 326) (by decide +kernel))) (hw _ q85) (va_eqt (z := 1) (hs _ (by decide +kernel))) hA
  have ZS := va_Zqof (C := "jdk/internal/util/Preconditions") (n := "SIOOBE_FORMATTER") (d := "Ljava/util/function/BiFunction;") (A := fun q => s.heap.size ≤ q) (hts _ (List.mem_of_getElem? (i := 334) (by decide +kernel))) (hw _ q87) (hs _ (by decide +kernel)) hA
  obtain ⟨aK, aV, K1, K2⟩ := vk_Sof (s := s) (N := 1) (tm := fun _ => .string RX2 44) (len := [6]) (byt := [[58, 44, 45, 42, 64, 59]]) (A := fun q => s.heap.size ≤ q) (by decide) (fun i hi => hs _ (by decide +kernel)) (fun i hi => hs _ (by decide +kernel)) (fun i hi => hs _ (by decide +kernel)) (fun i hi => by
    obtain rfl : i = 0 := by omega
    exact hs _ (by decide +kernel)) (fun i hi j hj => by
    obtain rfl : i = 0 := by omega
    exact hs _ (sp_by j hj)) (fun i j hi hj hn => absurd (show i = j by omega) hn) hA
  obtain ⟨t6, Z6⟩ : ∃ t6 : Nat, va_Z "jdk/internal/util/Preconditions" "SIOOBE_FORMATTER" "Ljava/util/function/BiFunction;" .null (fun q => s.heap.size ≤ q) s s.heap ∨ va_Z "jdk/internal/util/Preconditions" "SIOOBE_FORMATTER" "Ljava/util/function/BiFunction;" (.ref t6) (fun q => s.heap.size ≤ q) s s.heap := by
    rcases ZS with h | ⟨t, h⟩
    · exact ⟨0, Or.inl h⟩
    · exact ⟨t, Or.inr h⟩
  have hKn : ∀ k : Nat, ∃ q : ClassId × (Nat → Nat), ∀ r, vwCl[k]? = some r → u_Kn s r.1 r.2.1 r.2.2 q.1 q.2 := by
    intro k
    cases hk : vwCl[k]? with
    | none => exact ⟨(0, fun _ => 0), fun r h => by cases h⟩
    | some r =>
      obtain ⟨cC, iS, hq⟩ := u_known (C := r.1) (T := r.2.1) (N := r.2.2) (n := r.2.2) hw (z_cls hk).1 (by
        match k, hk with
        | 0, hk => cases hk; exact hw _ q239
        | 1, hk => cases hk; exact hw _ q113
        | 2, hk => cases hk; exact hw _ q214
        | 3, hk => cases hk; exact hw _ q106
        | 4, hk => cases hk; exact hw _ q100
        | 5, hk => cases hk; exact hw _ q92
        | 6, hk => cases hk; exact hw _ q888
        | k + 7, hk => simp [vwCl] at hk)
      exact ⟨(cC, iS), fun r' h => by cases h; exact hq⟩
  obtain ⟨ad, had⟩ := Classical.axiomOfChoice hKn
  obtain ⟨c0, A0, B0⟩ := sp_prim (hw _ q211)
  obtain ⟨c1, A1, B1⟩ := sp_prim (hw _ q1289)
  obtain ⟨c2, A2, B2⟩ := sp_prim (hw _ q1290)
  obtain ⟨c3, A3, B3⟩ := sp_over (C := RX1) (hts _ (List.mem_of_getElem? (i := 112) (by decide +kernel)))
  obtain ⟨c4, A4, B4⟩ := sp_over (C := RX4) (hts _ (List.mem_of_getElem? (i := 212) (by decide +kernel)))
  generalize hrho : (fun v : Nat => if v = 0 then b else if v = 1 then t1 else if v = 2 then t2 else if v = 3 then t3 else if v = 4 then aK 0 else if v = 5 then aV 0 else if v = 6 then t6 else s.heap.size + v - 8) = rho
  have r0 : rho 0 = b := by rw [← hrho]; rfl
  have r1 : rho 1 = t1 := by rw [← hrho]; rfl
  have r2 : rho 2 = t2 := by rw [← hrho]; rfl
  have r3 : rho 3 = t3 := by rw [← hrho]; rfl
  have r4 : rho 4 = aK 0 := by rw [← hrho]; rfl
  have r5 : rho 5 = aV 0 := by rw [← hrho]; rfl
  have r6 : rho 6 = t6 := by rw [← hrho]; rfl
  have r8 : ∀ v, 8 ≤ v → rho v = s.heap.size + v - 8 := fun v hv => by
    rw [← hrho]
    dsimp only
    rw [if_neg (by omega), if_neg (by omega), if_neg (by omega), if_neg (by omega), if_neg (by omega), if_neg (by omega), if_neg (by omega)]
  generalize htid : (fun t : Nat => if t = 0 then c0 else if t = 1 then c1 else if t = 2 then c2 else if t = 3 then c3 else c4) = tid
  have i0 : tid 0 = c0 := by rw [← htid]; rfl
  have i1 : tid 1 = c1 := by rw [← htid]; rfl
  have i2 : tid 2 = c2 := by rw [← htid]; rfl
  have i3 : tid 3 = c3 := by rw [← htid]; rfl
  have i4 : tid 4 = c4 := by rw [← htid]; rfl
  have hZS : z_S (rho, (fun k => (ad k).1, fun k => (ad k).2), tid, s.heap.size) s := by
    refine ⟨⟨fun k r hk => had k r hk, fun k q hk => ?_⟩, ⟨⟨?_, ?_, ?_⟩, ?_, ?_, ?_⟩, ⟨V1, V2⟩, fun q hq => ?_, ⟨⟨?_, ZC, ?_⟩, ?_⟩, fun q hq => va_Nw.of rfl (hts _ (sp_ne q hq)), ⟨⟨fun q hq => va_Nw.of rfl (hts _ (sp_ca q hq)), fun q hq => va_Nw.of rfl (hts _ (sp_de q hq))⟩, fun q hq q' hq' hn => va_Nc.of (hs _ (sp_nc q hq q' hq' hn))⟩, ⟨va_AO.of (hts (.arrayOver (.object RX1)) (List.mem_of_getElem? (i := 112) (by decide +kernel))), va_AO.of (hts (.arrayOver (.object RX4)) (List.mem_of_getElem? (i := 212) (by decide +kernel)))⟩, Nat.le_refl _⟩
    · match k, hk with
      | 0, hk => cases hk; show ArrOfT s (tid 0) .int ∧ va_RA s (tid 0) .int; rw [i0]; exact ⟨A0, B0⟩
      | 1, hk => cases hk; show ArrOfT s (tid 1) .long ∧ va_RA s (tid 1) .long; rw [i1]; exact ⟨A1, B1⟩
      | 2, hk => cases hk; show ArrOfT s (tid 2) .double ∧ va_RA s (tid 2) .double; rw [i2]; exact ⟨A2, B2⟩
      | 3, hk => cases hk; show ArrOfT s (tid 3) (.object RX1) ∧ va_RA s (tid 3) (.object RX1); rw [i3]; exact ⟨A3, B3⟩
      | 4, hk => cases hk; show ArrOfT s (tid 4) (.object RX4) ∧ va_RA s (tid 4) (.object RX4); rw [i4]; exact ⟨A4, B4⟩
      | k + 5, hk => simp at hk
    · show va_Z RX2 "LOWEST" "[I" (.ref (rho 1)) _ s s.heap
      rw [r1]; exact Z1
    · show va_Z RX2 "HIGHEST" "[I" (.ref (rho 2)) _ s s.heap
      rw [r2]; exact Z2
    · show va_Z RX5 "HIGHEST_SETTING" "[I" (.ref (rho 3)) _ s s.heap
      rw [r3]; exact Z3
    · show va_T .int (rho 1) 6 _ _ s s.heap
      rw [r1]; exact T1
    · show va_T .int (rho 2) 6 _ _ s s.heap
      rw [r2]; exact T2
    · show va_T .int (rho 3) 5 _ _ s s.heap
      rw [r3]; exact T3
    · obtain ⟨a, ha⟩ := sp_exact (hs _ (sp_ex q hq))
      exact ⟨a, vk_R.of (hts _ (sp_sr q hq)) ha⟩
    · show vk_S 1 [6] [[58, 44, 45, 42, 64, 59]] (fun _ => rho 4) (fun _ => rho 5) _ s s.heap
      rw [r4, r5]
      refine ⟨fun i hi => ?_, fun i j hi hj _ => by omega⟩
      obtain rfl : i = 0 := by omega
      exact K1.1 0 (by omega)
    · show _ ∨ va_Z _ _ _ (.ref (rho 6)) _ s s.heap
      rw [r6]; exact Z6
    · show vk_R RX2 44 ":,-*@;" (rho 4) s
      rw [r4]
      exact vk_R.of (hts _ (List.mem_of_getElem? (i := 316) (by decide +kernel))) (K2 0 (by omega))
  have hC : z_C (mLaw L xs) 11 (rho, (fun k => (ad k).1, fun k => (ad k).2), tid, s.heap.size) l p room_1 s m #[Value.ref b] meth c 601024 7293034 := by
    refine ⟨hx, hb, hml, hr, hlocks, fun h => (by cases h), hown, hw, ⟨fun h => (by cases h), fun q hq => ?_⟩, hZS, fun v hv => ?_, Nat.le_of_ble_eq_true rfl, Nat.le_of_ble_eq_true rfl, Nat.le_of_ble_eq_true rfl, Nat.le_of_ble_eq_true rfl, htr⟩
    · cases hq
      show va_X (rho 0) L xs s s.heap ∧ rho 0 < s.heap.size ∧ ¬ s.heap.size ≤ rho 0
      rw [r0]
      exact ⟨hX, hbl, Nat.not_le.mpr hbl⟩
    · show s.heap.size ≤ rho v
      rw [r8 v hv]
      omega
  have hl := lv_entry ([.ref b]) (n := 10) (Nat.le_of_ble_eq_true rfl)
  rw [lg_entry_eq]
  generalize (lg_sl ([.ref b]) ++ List.replicate (10 - (lg_sl ([.ref b])).length) Slot.unset).toArray = ls at hl ⊢
  have hl : lv_has ls 10 [(0, .ref b)] := hl
  have hH : z_H (mLaw L xs) 601024 7293034 (some 8) [(0, .ref 0)] (fun _ => none) (rho, (fun k => (ad k).1, fun k => (ad k).2), tid, s.heap.size) s s.heap [] 0 0 ls 601024 7293034 := by
    refine ⟨⟨fun v e h => (by cases h), fun v w h => absurd rfl h⟩, fun n hn => ?_, va_S.rf, ?_, Nat.le_of_ble_eq_true rfl, Nat.le_of_ble_eq_true rfl⟩
    · cases hn
      refine ⟨Nat.le_refl _, fun v hv => ⟨?_, rfl⟩⟩
      show rho v + 8 = s.heap.size + v
      rw [r8 v hv]
      omega
    · show lv_has ls 10 [(0, .ref (rho 0))]
      rw [r0]
      exact hl
  have hG := law0 (xs := xs) hL (zi (nI 1) (fun _ => True)) (fun M' _ => ⟨rfl, rfl, trivial⟩) l p e room_1 s m #[Value.ref b] below meth c _ 601024 7293034 hC s.heap [] 0 0 ls hH
  intro T hT X
  obtain ⟨t, a1, o, b1, b2, b3⟩ := hG T hT X
  refine ⟨t, a1, o, b1, b2, ?_⟩
  rcases b3 with ⟨⟨⟨M1, nx1, v, d1, ⟨-, d2, -⟩, -⟩, -⟩, Ls, ⟨-, d3, d4⟩, d5⟩ | ⟨q, -, E, ce, Ls, ⟨⟨M1, ⟨-, d2, -⟩, -⟩, -⟩, -⟩
  · cases d2
    refine ⟨d1, ?_⟩
    subst d1
    exact lw_closed (d0 := s.drawn) (Drawn.sameBut.refl s.drawn lw_cs) ⟨_, rfl⟩ d3 (sp_drop d4 d5)
  · cases d2
