/-! THE LAW, FROM ITS ENTRY -/
def rfX : Nat → Nat := uN (uN (uN (uN (uN (uN (uN (fun _ => 0) 0 1) 1 20) 2 50) 4 11) 5 1000) 6 1500) 7 2500
theorem ty_X5 : ∃ ty : Nat → FieldType, (∀ k, k < rX5.2.2 → parseFieldDescriptor (rX5.2.1 k).2.2.1 = some (ty k)) ∧ ∀ j, j < rX5.2.2 → defaultValue (ty j) = vp_V d5 j := ⟨tyX5, tyX5_ok, by decide +kernel⟩
theorem Y0_in {b j : Nat} (hb : ∃ k, k < 6 ∧ b = 71 + 27 * k) (hj : j < 27) : Y0 (b + j) = s0 b j := by
  obtain ⟨k, hk, rfl⟩ := hb
  unfold Y0
  rw [if_neg (by omega), if_neg (by omega), if_pos (by omega), show (71 + 27 * k + j - 71) / 27 = k by omega, show (71 + 27 * k + j - 71) % 27 = j by omega]
theorem Y0_9 {j : Nat} (hj : j < 27) : Y0 (9 + j) = s0 9 j := by
  unfold Y0
  rw [if_neg (by omega), if_pos (by omega), show (9 + j - 9) / 27 = 0 by omega, show (9 + j - 9) % 27 = j by omega]
theorem Y0_36 {j : Nat} (hj : j < 27) : Y0 (36 + j) = s0 36 j := by
  unfold Y0
  rw [if_neg (by omega), if_pos (by omega), show (36 + j - 9) / 27 = 1 by omega, show (36 + j - 9) % 27 = j by omega]
theorem rP_0 {Y : Nat → Nat → Nat} {b : Nat} (h : ∀ j, j < 27 → Y (b + j) = s0 b j) : rP Y (b + 1) 8 ∧ rP Y (b + 11) 12 := by
  have e1 : Y (b + 1 + 1) = fun i => b + 3 + i := h 2 (by omega)
  have e2 : Y (b + 11 + 1) = fun i => b + 13 + i := h 12 (by omega)
  unfold rP
  rw [e1, e2]
  exact ⟨⟨fun i hi => by dsimp only; omega, fun i j hi hj q => by dsimp only at q; omega⟩, fun i hi => by dsimp only; omega, fun i j hi hj q => by dsimp only at q; omega⟩
theorem XG_0 : XG rfX := by
  have e : ∀ j, rfX j = (if j = 7 then 2500 else if j = 6 then 1500 else if j = 5 then 1000 else if j = 4 then 11 else if j = 2 then 50 else if j = 1 then 20 else if j = 0 then 1 else 0) := fun j => rfl
  have e11 : rfX 11 = 0 := rfl
  have e92 : rfX 92 = 0 := rfl
  refine ⟨⟨fun j _ _ _ _ => ?_, by rw [e11]; omega, by rw [e92]; omega⟩, by unfold wf1; decide, ⟨fun i hi => by rw [e11] at hi; omega, fun i hi => by rw [e92] at hi; omega⟩, fun d hd => ?_⟩
  · rw [e]
    repeat' split
    all_goals omega
  · rw [lk, e11, e92]
    exact List.Pairwise.nil
theorem Inv_0 : Inv Y0 rfX (fun _ _ => 0) (fun _ => 0) 0 0 := by
  have h9 := rP_0 (Y := Y0) (b := 9) (fun j hj => Y0_9 hj)
  have h36 := rP_0 (Y := Y0) (b := 36) (fun j hj => Y0_36 hj)
  refine ⟨Sd_of h9.1 h9.2 ⟨?_, ?_, ⟨rfl, rfl, rfl⟩, ⟨rfl, rfl⟩, fun i hi => absurd hi (by show ¬ i < 0; omega), fun i hi => absurd hi (by show ¬ i < 0; omega)⟩ XG_0, ⟨⟨fun i hi => ⟨i, hi, rfl⟩, fun i j hi hj q => ?_, fun k hk => rP_0 (fun j hj => Y0_in ⟨k, hk, rfl⟩ hj)⟩, rfl, by omega, fun i hi => by omega⟩, ⟨h36.1, h36.2, rfl, Or.inl rfl, fun q => by cases q⟩, ⟨fun j hj => ?_, ?_⟩⟩
  · decide
  · decide
  · have q : 71 + 27 * i = 71 + 27 * j := q
    omega
  · show (0 : Nat) < 1048576
    omega
  · show (0 : Nat) < 4096
    omega
theorem bt_0 : ∀ n, btN rfX n = (-1, 0)
  | 0 => rfl
  | n + 1 => by
    have e : oT rfX (nI n) 2 = 0 := rfl
    rw [btN, bt_0 n, e]
    rfl
theorem J_0 : J Y0 rfX rfX (fun _ => 0) (fun _ => 0) := by
  refine ⟨⟨_, _, _, _, Inv_0⟩, ⟨fun j _ => rfl, ⟨rfl, rfl⟩, ⟨by show 0 ≤ 4; omega, by show 0 ≤ 8; omega⟩, fun i hi => absurd hi (by show ¬ i < 0; omega), fun i hi => absurd hi (by show ¬ i < 0; omega)⟩, ?_⟩
  show rfX 8 = rfX 9 + oT rfX (-1) 2
  rfl
section BEGIN
variable {L : Nat} {xs : Nat → Int32}
theorem law0 (hL : L ≤ 260) : G (mLaw L xs) 11 74691 1728863 (some 8) 0 [(0, .ref 0)] [] M00 (zqI (nI 1) (fun _ => True)) := by
  refine g_new (ci := 5) (r := rX5) (fs := d5) (kc1 := 74690) (ks1 := 1728855) rfl q33 q34 q18 dL_law_0 ty_X5 (fun g => rfl) rfl rfl ?_
  refine g_dup dL_law_3 rfl ?_
  refine g_callI (kc1 := 74466) (ks1 := 1726829) (kX5_init (M := M00)) oX5_init pX5_init lL_134 dL_law_4 (S := [.ref 8]) (As := []) rfl rfl (Nat.le_of_ble_eq_true rfl) (Nat.le_of_ble_eq_true rfl) (by decide) (Nat.le_of_ble_eq_true rfl) (Nat.le_of_ble_eq_true rfl) ?_ ?_
  · rintro M1 nx1 E ⟨-, h, -⟩
    cases h
  rintro M1 nx1 v ⟨rfl, h, rfl⟩
  cases h
  show G _ _ _ _ _ _ _ [.ref 8] _ _
  refine g_astore_n dL_law_7 (show 1 < 13 by decide) ?_
  refine g_bipush (v := nI 13) dL_law_8 (by decide) ?_
  refine g_newi (kc1 := 74465) (ks1 := 1726816) dL_law_10 (by decide) rfl rfl ?_
  refine g_astore_n dL_law_12 (show 2 < 13 by decide) ?_
  refine g_bipush (v := nI 44) dL_law_13 (by decide) ?_
  refine g_newi (kc1 := 74464) (ks1 := 1726772) dL_law_15 (by decide) rfl rfl ?_
  refine g_astore_n dL_law_17 (show 3 < 13 by decide) ?_
  refine g_bipush (v := nI 56) dL_law_18 (by decide) ?_
  refine g_newi (kc1 := 74463) (ks1 := 1726716) dL_law_20 (by decide) rfl rfl ?_
  have hM : zu (zu (zu (cM M00 Y0) 233 (iA 13 (fun _ => 0))) 234 (iA 44 (fun _ => 0))) 235 (iA 56 (fun _ => 0)) = cM (lM M00 (fun _ => 0) (fun _ => 0) (fun _ => 0)) Y0 := by
    rw [zu_hi (by omega), zu_hi (by omega), zu_hi (by omega)]
    congr 1
    funext q
    by_cases h5 : q = 235
    · subst h5; rfl
    · rw [zu_n _ _ h5]
      by_cases h4 : q = 234
      · subst h4; rfl
      · rw [zu_n _ _ h4]
        by_cases h3 : q = 233
        · subst h3; rfl
        · rw [zu_n _ _ h3]
          unfold lM
          rw [beq_f h3, beq_f h4, beq_f h5]
          rfl
  refine g_m hM ?_
  refine g_astore dL_law_22 (show 4 < 13 by decide) ?_
  refine g_aload_n dL_law_24 rfl ?_
  refine g_iconst (v := nI 0) dL_law_25 (by decide) ?_
  refine g_iconst (v := nI 1) dL_law_26 (by decide) ?_
  refine g_sN dL_law_27 (by omega) ?_
  refine g_aload_n dL_law_28 rfl ?_
  refine g_iconst (v := nI 1) dL_law_29 (by decide) ?_
  refine g_bipush (v := nI 20) dL_law_30 (by decide) ?_
  refine g_sN dL_law_32 (by omega) ?_
  refine g_aload_n dL_law_33 rfl ?_
  refine g_iconst (v := nI 2) dL_law_34 (by decide) ?_
  refine g_bipush (v := nI 50) dL_law_35 (by decide) ?_
  refine g_sN dL_law_37 (by omega) ?_
  refine g_aload_n dL_law_38 rfl ?_
  refine g_iconst (v := nI 4) dL_law_39 (by decide) ?_
  refine g_bipush (v := nI 11) dL_law_40 (by decide) ?_
  refine g_sN dL_law_42 (by omega) ?_
  refine g_aload_n dL_law_43 rfl ?_
  refine g_iconst (v := nI 5) dL_law_44 (by decide) ?_
  refine g_sipush (v := nI 1000) dL_law_45 (by decide) ?_
  refine g_sN dL_law_48 (by omega) ?_
  refine g_aload_n dL_law_49 rfl ?_
  refine g_bipush (v := nI 6) dL_law_50 (by decide) ?_
  refine g_sipush (v := nI 1500) dL_law_52 (by decide) ?_
  refine g_sN dL_law_55 (by omega) ?_
  refine g_aload_n dL_law_56 rfl ?_
  refine g_bipush (v := nI 7) dL_law_57 (by decide) ?_
  refine g_sipush (v := nI 2500) dL_law_59 (by decide) ?_
  refine g_sN dL_law_62 (by omega) ?_
  refine g_m (M' := cM (lM M00 rfX (fun _ => 0) (fun _ => 0)) Y0) rfl ?_
  obtain ⟨hI, hLw, hb⟩ := J_0
  refine g_aload_n dL_law_63 rfl ?_
  refine g_aload_n dL_law_64 rfl ?_
  refine g_aload_n dL_law_65 rfl ?_
  refine g_aload dL_law_66 rfl ?_
  refine g_callSn_i (kc1 := 74460) (ks1 := 1726656) (kL_areBills hI hLw hb (show 236 ≤ 236 by omega)) oL_areBills pL_areBills lL_135 dL_law_68 rfl rfl (Nat.le_of_ble_eq_true rfl) (Nat.le_of_ble_eq_true rfl) (by first | decide | omega) (by omega) (by omega) (fun _ e => nf_e e) (fun M1 n1 hn1 e => ?_)
  subst e
  refine g_if_eq_n (tgt := 86) dL_law_71 (by decide) (by omega) (fun g => ?_) (fun g => ?_)
  · exact absurd g (by decide)
  have hbe := a_best (M0 := lM M00 rfX (fun _ => 0) (fun _ => 0)) hI
  rw [bt_0] at hbe
  refine g_aload_n dL_law_74 rfl ?_
  refine g_callVn_i (hbe) oX5_best pX5_best lL_88 dL_law_75 rfl (cM_H rfl) rfl rfl rfl (Nat.le_of_ble_eq_true rfl) (Nat.le_of_ble_eq_true rfl) (by first | decide | omega) (fun _ e => nf_e e) (fun M1 n2 hn2 e => ?_)
  subst e
  refine g_iconst (v := (-1)) dL_law_78 (by decide) ?_
  refine g_icmp_ne (tgt := 86) dL_law_79 (by decide) (fun h => absurd rfl h) (fun _ => ?_)
  refine g_iconst (v := nI 1) dL_law_82 (by decide) ?_
  refine g_goto (tgt := 87) dL_law_83 (by decide) ?_
  refine g_istore dL_law_87 (show 5 < 13 by decide) ?_
  refine g_iconst (v := nI 0) dL_law_89 (by decide) ?_
  refine g_istore dL_law_90 (show 6 < 13 by decide) ?_
  exact G.up (g_loc (by rfl) (lawT hL 34 0 n2 _ (by omega) (by omega) ⟨rfX, rfX, _, _, Y0, rfl, J_0⟩)) (Nat.le_refl _) (Nat.le_of_ble_eq_true rfl) (Nat.le_of_ble_eq_true rfl)
end BEGIN
theorem sp_exact {args : Array Value} {s : State} {own : String} {k : Nat} (h : (Cond.exactly (.string own k) "java/lang/String").before args s = true) : ∃ a : Nat, (Term.string own k).eval args s none [] s = some (.ref a) := by
  obtain ⟨a, c, cA, kA, q1, -⟩ := Cond.exactly_spec (args := args) (first := s) (o := none) (s := s) (idx := []) (t := .string own k) (cls := "java/lang/String") h
  exact ⟨a, q1⟩
theorem sp_prim {args : Array Value} {s : State} {ty : FieldType} (h : (Cond.arrayClass ty).before args s = true) : ∃ c : ClassId, ArrOfT s c ty ∧ s.vm.findClass ("[" ++ ty.toString) = some c := by
  obtain ⟨c, k, comp, f1, f2, f3⟩ := Cond.arrayClass_spec (args := args) (first := s) (o := none) (s := s) (idx := []) h
  exact ⟨c, fun n z => ⟨fun k h => (by cases h), k, f2, comp, f3⟩, f1⟩
theorem sp_over {args : Array Value} {s : State} {C : String} (h : (Cond.arrayOver (.object C)).before args s = true) : ∃ c : ClassId, ArrOfT s c (.object C) ∧ va_RA s c (.object C) := by
  obtain ⟨comp, c, k, f1, f2, f3, f4, f5⟩ := Cond.arrayOver_spec (args := args) (first := s) (o := none) (s := s) (idx := []) h
  exact ⟨c, fun n z => ⟨fun k h => (by cases h), k, f3, comp, f4⟩, k, comp, f3, f4, f1, f5⟩
theorem sp_drop {s t : State} {Ls : List Loc} {k n : Nat} (h : s.sameButNew t Ls k n) (hL : ∀ z ∈ Ls, s.heap.size ≤ z.base) : s.sameButNew t [] k n := by
  obtain ⟨h1, h2, h3, h4, h5, h6⟩ := h
  refine ⟨h1, h2, h3, h4, h5, fun a c hc => ?_⟩
  obtain ⟨c', e1, e2, e3, e4⟩ := h6 a c hc
  refine ⟨c', e1, e2, e3, fun i _ => e4 i (fun hm => ?_)⟩
  have h7 := hL _ hm
  have h8 := (Array.getElem?_eq_some_iff.mp hc).1
  exact absurd h8 (Nat.not_lt.mpr h7)
theorem sp_st : ∀ j, j < 5 → Cond.eq (.elem (.static RX5 "HIGHEST_SETTING" "[I") (.int (Int32.ofNat j))) (.int (nI (zSt j))) ∈ flatC (Jvm.Cond.and given_1 narrow_1) := by decide +kernel
theorem sp_ex : ∀ q ∈ z_texts, Cond.exactly (.string RX5 q.1) "java/lang/String" ∈ flatC (Jvm.Cond.and given_1 narrow_1) := by decide +kernel
theorem sp_sr : ∀ q ∈ z_texts, Cond.stringRef RX5 q.1 q.2 ∈ lw_tbl := by
  refine List.forall_mem_cons.mpr ⟨List.mem_of_getElem? (i := 681) (by decide +kernel), ?_⟩
  refine List.forall_mem_cons.mpr ⟨List.mem_of_getElem? (i := 628) (by decide +kernel), ?_⟩
  refine List.forall_mem_cons.mpr ⟨List.mem_of_getElem? (i := 588) (by decide +kernel), ?_⟩
  refine List.forall_mem_cons.mpr ⟨List.mem_of_getElem? (i := 612) (by decide +kernel), ?_⟩
  refine List.forall_mem_cons.mpr ⟨List.mem_of_getElem? (i := 468) (by decide +kernel), ?_⟩
  refine List.forall_mem_cons.mpr ⟨List.mem_of_getElem? (i := 313) (by decide +kernel), ?_⟩
  refine List.forall_mem_cons.mpr ⟨List.mem_of_getElem? (i := 271) (by decide +kernel), ?_⟩
  refine List.forall_mem_cons.mpr ⟨List.mem_of_getElem? (i := 445) (by decide +kernel), ?_⟩
  refine List.forall_mem_cons.mpr ⟨List.mem_of_getElem? (i := 643) (by decide +kernel), ?_⟩
  refine List.forall_mem_cons.mpr ⟨List.mem_of_getElem? (i := 648) (by decide +kernel), ?_⟩
  exact fun q h => by cases h
theorem sp_ne : ∀ q ∈ z_nests, Cond.methodLinkNest q.1 q.2.1 q.2.2.1 q.2.2.2 ∈ lw_tbl := by
  refine List.forall_mem_cons.mpr ⟨List.mem_of_getElem? (i := 43) (by decide +kernel), ?_⟩
  refine List.forall_mem_cons.mpr ⟨List.mem_of_getElem? (i := 157) (by decide +kernel), ?_⟩
  refine List.forall_mem_cons.mpr ⟨List.mem_of_getElem? (i := 176) (by decide +kernel), ?_⟩
  refine List.forall_mem_cons.mpr ⟨List.mem_of_getElem? (i := 195) (by decide +kernel), ?_⟩
  refine List.forall_mem_cons.mpr ⟨List.mem_of_getElem? (i := 56) (by decide +kernel), ?_⟩
  refine List.forall_mem_cons.mpr ⟨List.mem_of_getElem? (i := 499) (by decide +kernel), ?_⟩
  refine List.forall_mem_cons.mpr ⟨List.mem_of_getElem? (i := 574) (by decide +kernel), ?_⟩
  exact fun q h => by cases h
theorem sp_ca : ∀ q ∈ z_xs, Cond.castable q q ∈ lw_tbl := by
  refine List.forall_mem_cons.mpr ⟨List.mem_of_getElem? (i := 306) (by decide +kernel), ?_⟩
  refine List.forall_mem_cons.mpr ⟨List.mem_of_getElem? (i := 232) (by decide +kernel), ?_⟩
  refine List.forall_mem_cons.mpr ⟨List.mem_of_getElem? (i := 605) (by decide +kernel), ?_⟩
  exact fun q h => by cases h
theorem sp_de : ∀ q ∈ z_decl, Cond.declares ⟨q, "<init>", "(Ljava/lang/String;)V"⟩ ∈ lw_tbl := by
  refine List.forall_mem_cons.mpr ⟨List.mem_of_getElem? (i := 234) (by decide +kernel), ?_⟩
  refine List.forall_mem_cons.mpr ⟨List.mem_of_getElem? (i := 236) (by decide +kernel), ?_⟩
  refine List.forall_mem_cons.mpr ⟨List.mem_of_getElem? (i := 238) (by decide +kernel), ?_⟩
  exact fun q h => by cases h
theorem whole_start {p : Program} {e : Env} {s : State} {m : MethodId} {below : List Frame} {meth : Method} {c : Code} (l : Launch) (hflags : l.flags = flags0) {b L : Nat} {xs : Nat → Int32} (hL : L ≤ 260) (C0 : lw_At p s m meth c b L xs) : W p l e room_1 s m #[Value.ref b] below meth c s.heap [] 0 0 (lw_Z below #[Value.ref b] s) (entryFrame m ([Value.ref b] : List Value).toArray 13) := by
  obtain ⟨hx, hb, hr, hml, hown, hts, hX, hbl, hlocks, hgv⟩ := id C0
  have hs := flat_of_before _ hgv
  have hA : ∀ a : Nat, a < s.heap.size → ¬ (fun q : Nat => s.heap.size ≤ q) a := fun a h => Nat.not_le.mpr h
  have hw : ∀ w ∈ SW, w.before #[Value.ref b] s = true := fun w h => hts w (SW_tbl w h)
  have htr : l.stackTraces = false := by
    show (!l.flags.contains noTraceFlag) = false
    rw [hflags]
    decide +kernel
  obtain ⟨t3, ev3, T3⟩ := va_Tof (s := s) (tm := .static RX5 "HIGHEST_SETTING" "[I") (ty := .int) (N := 5) (f := fun j => .int (nI (zSt j))) (A := fun q => s.heap.size ≤ q) (by decide) (hs _ (by decide +kernel)) (va_eqt (hs _ (by decide +kernel))) (fun j hj => va_eqt (hs _ (sp_st j hj))) hA
  have Z3 := va_Zof (C := RX5) (n := "HIGHEST_SETTING") (d := "[I") (A := fun q => s.heap.size ≤ q) (hts _ (List.mem_of_getElem? (i := 590) (by decide +kernel))) (hw _ q18) ev3 hA
  have V1 := vx_Zqof (C := Bundle.tN) (n := "UNASSIGNED_STACK") (d := Bundle.steD) (A := fun q => s.heap.size ≤ q) (hts _ (List.mem_of_getElem? (i := 257) (by decide +kernel))) (hw _ q24) (hs _ (by decide +kernel)) hA
  have V2 := vx_Zqof (C := Bundle.tN) (n := "SUPPRESSED_SENTINEL") (d := Bundle.listD) (A := fun q => s.heap.size ≤ q) (hts _ (List.mem_of_getElem? (i := 259) (by decide +kernel))) (hw _ q24) (hs _ (by decide +kernel)) hA
  have hKn : ∀ k : Nat, ∃ q : ClassId × (Nat → Nat), ∀ r, vwCl[k]? = some r → u_Kn s r.1 r.2.1 r.2.2 q.1 q.2 := by
    intro k
    cases hk : vwCl[k]? with
    | none => exact ⟨(0, fun _ => 0), fun r h => by cases h⟩
    | some r =>
      obtain ⟨cC, iS, hq⟩ := u_known (C := r.1) (T := r.2.1) (N := r.2.2) (n := r.2.2) hw (z_cls hk).1 (by
        match k, hk with
        | 0, hk => cases hk; exact hw _ q175
        | 1, hk => cases hk; exact hw _ q55
        | 2, hk => cases hk; exact hw _ q156
        | 3, hk => cases hk; exact hw _ q48
        | 4, hk => cases hk; exact hw _ q42
        | 5, hk => cases hk; exact hw _ q34
        | k + 6, hk => simp [vwCl] at hk)
      exact ⟨(cC, iS), fun r' h => by cases h; exact hq⟩
  obtain ⟨ad, had⟩ := Classical.axiomOfChoice hKn
  obtain ⟨c0, A0, B0⟩ := sp_prim (hw _ q153)
  obtain ⟨c3, A3, B3⟩ := sp_over (C := RX1) (hts _ (List.mem_of_getElem? (i := 54) (by decide +kernel)))
  obtain ⟨c4, A4, B4⟩ := sp_over (C := RX4) (hts _ (List.mem_of_getElem? (i := 154) (by decide +kernel)))
  generalize hrho : (fun v : Nat => if v = 0 then b else if v = 3 then t3 else s.heap.size + v - 8) = rho
  have r0 : rho 0 = b := by rw [← hrho]; rfl
  have r3 : rho 3 = t3 := by rw [← hrho]; rfl
  have r8 : ∀ v, 8 ≤ v → rho v = s.heap.size + v - 8 := fun v hv => by
    rw [← hrho]
    dsimp only
    rw [if_neg (by omega), if_neg (by omega)]
  generalize htid : (fun t : Nat => if t = 3 then c3 else if t = 4 then c4 else c0) = tid
  have i0 : tid 0 = c0 := by rw [← htid]; rfl
  have i1 : tid 1 = c0 := by rw [← htid]; rfl
  have i2 : tid 2 = c0 := by rw [← htid]; rfl
  have i3 : tid 3 = c3 := by rw [← htid]; rfl
  have i4 : tid 4 = c4 := by rw [← htid]; rfl
  have hZS : z_S (rho, (fun k => (ad k).1, fun k => (ad k).2), tid, s.heap.size) s := by
    refine ⟨⟨fun k r hk => had k r hk, fun k q hk => ?_⟩, ⟨⟨trivial, trivial, ?_⟩, trivial, trivial, ?_⟩, ⟨V1, V2⟩, fun q hq => ?_, trivial, fun q hq => va_Nw.of rfl (hts _ (sp_ne q hq)), ⟨⟨fun q hq => va_Nw.of rfl (hts _ (sp_ca q hq)), fun q hq => va_Nw.of rfl (hts _ (sp_de q hq))⟩, trivial⟩, ⟨va_AO.of (hts (.arrayOver (.object RX1)) (List.mem_of_getElem? (i := 54) (by decide +kernel))), va_AO.of (hts (.arrayOver (.object RX4)) (List.mem_of_getElem? (i := 154) (by decide +kernel)))⟩, Nat.le_refl _⟩
    · match k, hk with
      | 0, hk => cases hk; show ArrOfT s (tid 0) .int ∧ va_RA s (tid 0) .int; rw [i0]; exact ⟨A0, B0⟩
      | 1, hk => cases hk; show ArrOfT s (tid 1) .int ∧ va_RA s (tid 1) .int; rw [i1]; exact ⟨A0, B0⟩
      | 2, hk => cases hk; show ArrOfT s (tid 2) .int ∧ va_RA s (tid 2) .int; rw [i2]; exact ⟨A0, B0⟩
      | 3, hk => cases hk; show ArrOfT s (tid 3) (.object RX1) ∧ va_RA s (tid 3) (.object RX1); rw [i3]; exact ⟨A3, B3⟩
      | 4, hk => cases hk; show ArrOfT s (tid 4) (.object RX4) ∧ va_RA s (tid 4) (.object RX4); rw [i4]; exact ⟨A4, B4⟩
      | k + 5, hk => simp at hk
    · show va_Z RX5 "HIGHEST_SETTING" "[I" (.ref (rho 3)) _ s s.heap
      rw [r3]; exact Z3
    · show va_T .int (rho 3) 5 _ _ s s.heap
      rw [r3]; exact T3
    · obtain ⟨a, ha⟩ := sp_exact (hs _ (sp_ex q hq))
      exact ⟨a, vk_R.of (hts _ (sp_sr q hq)) ha⟩
  have hC : z_C (mLaw L xs) 11 (rho, (fun k => (ad k).1, fun k => (ad k).2), tid, s.heap.size) l p room_1 s m #[Value.ref b] meth c 600074 7301550 := by
    refine ⟨hx, hb, hml, hr, hlocks, fun h => (by cases h), hown, hw, ⟨fun h => (by cases h), fun q hq => ?_⟩, hZS, fun v hv => ?_, Nat.le_of_ble_eq_true rfl, Nat.le_of_ble_eq_true rfl, Nat.le_of_ble_eq_true rfl, Nat.le_of_ble_eq_true rfl, htr⟩
    · cases hq
      show va_X (rho 0) L xs s s.heap ∧ rho 0 < s.heap.size ∧ ¬ s.heap.size ≤ rho 0
      rw [r0]
      exact ⟨hX, hbl, Nat.not_le.mpr hbl⟩
    · show s.heap.size ≤ rho v
      rw [r8 v hv]
      omega
  have hl := lv_entry ([.ref b]) (n := 13) (Nat.le_of_ble_eq_true rfl)
  rw [lg_entry_eq]
  generalize (lg_sl ([.ref b]) ++ List.replicate (13 - (lg_sl ([.ref b])).length) Slot.unset).toArray = ls at hl ⊢
  have hl : lv_has ls 13 [(0, .ref b)] := hl
  have hH : z_H (mLaw L xs) 74691 1728863 (some 8) [(0, .ref 0)] M00 (rho, (fun k => (ad k).1, fun k => (ad k).2), tid, s.heap.size) s s.heap [] 0 0 ls 600074 7301550 := by
    refine ⟨⟨fun v e h => (by cases h), fun v w h => absurd rfl h⟩, fun n hn => ?_, va_S.rf, ?_, Nat.le_of_ble_eq_true rfl, Nat.le_of_ble_eq_true rfl⟩
    · cases hn
      refine ⟨Nat.le_refl _, fun v hv => ⟨?_, rfl⟩⟩
      show rho v + 8 = s.heap.size + v
      rw [r8 v hv]
      omega
    · show lv_has ls 13 [(0, .ref (rho 0))]
      rw [r0]
      exact hl
  have hG := law0 (xs := xs) hL l p e room_1 s m #[Value.ref b] below meth c _ 600074 7301550 hC s.heap [] 0 0 ls hH
  intro T hT X
  obtain ⟨t, a1, o, b1, b2, b3⟩ := hG T hT X
  refine ⟨t, a1, o, b1, b2, ?_⟩
  rcases b3 with ⟨⟨⟨M1, nx1, v, d1, ⟨d2, -⟩, -⟩, -⟩, Ls, ⟨-, d3, d4⟩, d5⟩ | ⟨q, -, E, ce, Ls, ⟨⟨M1, ⟨d2, -⟩, -⟩, -⟩, -⟩
  · cases d2
    refine ⟨d1, ?_⟩
    subst d1
    exact lw_closed (d0 := s.drawn) (Drawn.sameBut.refl s.drawn lw_cs) ⟨_, rfl⟩ d3 (sp_drop d4 d5)
  · cases d2
