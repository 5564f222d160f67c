/-! G: members of classes that have entries; bits of floating numbers -/
def zokF (mi : zI) (n : Nat) : Prop := plainFor mi.1 = true ∧ mi.2.1 = mi.1.cls ∧ (mi.1.cls ≠ "java/lang/invoke/MethodHandle" ∧ mi.1.cls ≠ "java/lang/invoke/VarHandle") ∧ (parseMethodDescriptor mi.1.desc).map (fun d => d.parameters.length) = some n ∧ mi.2.2.2.1 ≤ 13 ∧ Cond.initialized mi.1.cls ∈ SW
theorem zx_ofW {l : Launch} {y : MethodName} {ws ws' : List Cond} {rm : Room} {Pc : Array Value → State → Prop} {Qc : Array Value → State → Outcome → State → Prop} {XC : String → State → State → Prop} {mc ms : Nat} {free : Addr → Prop} {cc : ByteArray} {maxL : Nat} {ret : Option FieldType}
    (hy : plainFor y = true) (hw : ws = Cond.code y cc maxL ret :: ws')
    (body : ∀ p e s m args below meth c s₁, BodyLoose p l y (headSpec ws rm) cc maxL ret e s m args below meth c s₁ → c.maxLocals = maxL → c.exceptionTable.toList = [] → Pc args s →
      W p l e (headSpec ws rm).room s m args below meth c s.heap [] 0 0 (vx_MQ below Qc XC args s mc ms free) (entryFrame m args maxL)) : vx_Met l y ws rm Pc Qc XC mc ms free := by
  refine MetFree.of_bodySF (code := cc) (maxLocals := maxL) (ret := ret) hy ?_ ?_
  · intro args s m h hn
    obtain ⟨meth, c, h1, h2, h3, h4, h5, h6, -, -⟩ := Cond.code_spec hn (atoms_spec (ws := ws) h _ (by rw [hw]; exact List.mem_cons_self))
    exact ⟨meth, c, h1, h2, h3, h4, h5, h6⟩
  · intro p e s m args below meth c s₁ B hml hP _
    have hh0 : s₁.heap = s.heap := by rw [B.state]; rfl
    have ht : c.exceptionTable.toList = [] := by
      obtain ⟨meth9, c9, h1, h2, -, -, -, -, h7, -⟩ := Cond.code_spec B.named (atoms_spec (ws := ws) B.pre _ (by rw [hw]; exact List.mem_cons_self))
      cases Option.some.inj (h1.symm.trans B.method)
      cases Option.some.inj (h2.symm.trans (Stand.of_body B).code)
      rw [Array.isEmpty_iff.mp h7]
    obtain ⟨t, a1, o, b1, b2, b3⟩ := body p e s m args below meth c s₁ B hml ht hP s₁ hh0 (Stand.of_body B)
    exact ⟨t, o, a1, b1, b2, b3⟩
theorem Cn.metF {mi : zI} {d kc ks : Nat} {nx : Option Nat} {As : List Value} {M : zM} {F : zP} (h : Cn mi d kc ks nx As M F) (hno : ∀ M nx E, ¬ F M nx (.inr E)) {l : Launch} (hl : l.stackTraces = false) {g : zG} (hg : ∀ v, 8 ≤ v → g.2.2.2 ≤ g.1 v) (hn : (lg_sl As).length ≤ mi.2.2.2.1) {n : Nat} (ho : zokF mi n) (hc : zoc mi) :
    Met l mi.1 (Cond.code mi.1 mi.2.2.1 mi.2.2.2.1 mi.2.2.2.2.1 :: SW) { frames := d, cells := kc, slots := ks, locals := 32 * d } (z_Pc g nx As M) (z_Q g F) kc ks (z_A g) := by
  have h1 : vx_Met l mi.1 (Cond.code mi.1 mi.2.2.1 mi.2.2.2.1 mi.2.2.2.2.1 :: SW) { frames := d, cells := kc, slots := ks, locals := 32 * d } (z_Pc g nx As M) (z_Q g F) (z_X g F) kc ks (z_A g) := by
    refine zx_ofW (cc := mi.2.2.1) (maxL := mi.2.2.2.1) (ret := mi.2.2.2.2.1) ho.1 rfl ?_
    intro p e s m args below meth c s₁ B hml ht hP
    have ht2 : c.exceptionTable.toList = tableOf mi.2.2.2.2.2.1 := by
      rw [hc.1]
      exact ht
    exact h.body hl hg hn ho.2.1 (by rw [hc.1]) (fun w hw => List.mem_cons_of_mem _ hw) B hml ht2 hP
  intro p e ha hcs hk s m args below hf hfit hP hK
  obtain ⟨n, o, a1, a2, a3, a4⟩ := h1 p e ha hcs hk s m args below hf hfit hP hK
  refine ⟨n, o, a1, a2, a3, ?_⟩
  rcases a4 with a4 | ⟨q, -, E, ce, Ls, ⟨⟨M1, b1, -⟩, -⟩, -⟩
  · exact a4
  · exact (hno _ _ _ b1).elim
section GN
variable {mi : zI} {d kc ks : Nat} {nx : Option Nat} {pc : Nat} {L : List (Nat × Value)} {S0 S : List Value} {M : zM} {F : zP}
variable {mi' : zI} {d' kc' ks' kc1 ks1 idx n b : Nat} {As : List Value} {F' : zP}
theorem z_cbF {g : zG} {l : Launch} {p : Program} {R : Room} {s : State} {m : MethodId} {args : Array Value} {meth : Method} {c : Code} {mc ms : Nat} (C : z_C mi d g l p R s m args meth c mc ms) (ho : zokF mi' n) (hc : zoc mi') (hl : Cond.methodLink mi.2.1 idx mi'.1 ∈ SW) (h1 : d' + 1 ≤ d) :
    CallB R s args mi.2.1 idx mi'.1 mi'.2.2.1 mi'.2.2.2.1 mi'.2.2.2.2.1 (Cond.code mi'.1 mi'.2.2.1 mi'.2.2.2.1 mi'.2.2.2.2.1 :: SW) { frames := d', cells := kc', slots := ks', locals := 32 * d' } kc' ks' n := by
  obtain ⟨o1, o2, o3, o4, o5, o6⟩ := ho
  have hts := C.2.2.2.2.2.2.2.1
  have r1 := C.2.2.2.2.2.2.2.2.2.2.2.1
  have r2 := C.2.2.2.2.2.2.2.2.2.2.2.2.1
  refine ⟨rfl, rfl, by show d' + 1 ≤ R.frames; omega, by show 8 + (mi'.2.2.2.1 + 11) + 32 * d' ≤ R.locals; omega, z_all hts hc.2, List.mem_cons_self, hts _ hc.2, hts _ o6, o3, fun sig h => ?_, hts _ hl⟩
  rw [h] at o4
  exact (Option.some.inj o4).symm
theorem g_callSF (hc : Cn mi' d' kc' ks' nx As M F') (ho : zokF mi' n) (hoc : zoc mi') (hl : zLS mi.2.1 idx mi') (hd : decode mi.2.2.1 pc = .ok (.invokestatic idx, 3)) (hs : S0 = As.reverse ++ S) (hA : As.length = n) (hg : (lg_sl As).length ≤ mi'.2.2.2.1) (hS : (S.map fun v => v.category).sum ≤ 8) (h1 : d' + 1 ≤ d) (h2 : kc1 + kc' ≤ kc) (h3 : ks1 + ks' ≤ ks) (hno : ∀ M nx E, ¬ F' M nx (.inr E))
    (k : ∀ M1 nx1 v, F' M1 nx1 (.inl v) → G mi d kc1 ks1 nx1 (pc + 3) L (zp v S) M1 F) : G mi d kc ks nx pc L S0 M F := by
  intro l p e R s m args below meth c g mc ms C H locs cells slots ls X
  have hCn := hc.metF hno C.2.2.2.2.2.2.2.2.2.2.2.2.2.2.2 (g := g) C.2.2.2.2.2.2.2.2.2.2.1 hg ho hoc
  have hts := C.2.2.2.2.2.2.2.1
  have r3 := C.2.2.2.2.2.2.2.2.2.2.2.2.2.1
  have r4 := C.2.2.2.2.2.2.2.2.2.2.2.2.2.2.1
  have x5 := X.2.2.2.2.1
  have x6 := X.2.2.2.2.2
  refine z_run C X (va_runS (As := As.map (z_v g.1)) (rest := S.map (z_v g.1)) (index := idx) ⟨C.1, C.2.1, C.2.2.1, C.2.2.2.2.2.2.1, hts⟩ hCn ⟨z_cbF C ho hoc hl.1 h1, hts _ hl.2⟩ ⟨z_blind _ _ _ _, z_pre C.2.2.2.2.2.2.2.2.2.1 X.1 X.2.1 X.2.2.1⟩ rfl (by rw [List.length_map]; exact hA) X.2.2.2.1.1 (by rw [hs, List.map_append, List.map_reverse]) (lv_room (z_room g.1 hS)) hd ⟨by omega, by omega⟩) h2 h3 k
theorem g_callSF_i {r : Int32} {P : zM → Prop} (hc : Cn mi' d' 0 0 none As M (zi r P)) (ho : zokF mi' n) (hoc : zoc mi') (hl : zLS mi.2.1 idx mi') (hd : decode mi.2.2.1 pc = .ok (.invokestatic idx, 3)) (hs : S0 = As.reverse ++ S) (hA : As.length = n) (hg : (lg_sl As).length ≤ mi'.2.2.2.1) (hS : (S.map fun v => v.category).sum ≤ 8) (h1 : d' + 1 ≤ d) (k : ∀ M1, P M1 → G mi d kc ks none (pc + 3) L (.int r :: S) M1 F) : G mi d kc ks none pc L S0 M F := by
  refine g_callSF hc ho hoc hl hd hs hA hg hS h1 (Nat.le_refl _) (Nat.le_refl _) ?_ ?_
  · rintro M1 nx1 E ⟨-, h, -⟩
    cases h
  · rintro M1 nx1 v ⟨rfl, h, hP⟩
    cases h
    exact k M1 hP
/-- bits of a double number, raw -/
theorem g_d2raw {x : UInt64} (hl : Cond.methodLink mi.2.1 idx ⟨"java/lang/Double", "doubleToRawLongBits", "(D)J"⟩ ∈ SW ∧ Cond.native ⟨"java/lang/Double", "doubleToRawLongBits", "(D)J"⟩ ∈ SW ∧ Cond.static ⟨"java/lang/Double", "doubleToRawLongBits", "(D)J"⟩ ∈ SW ∧ Cond.initialized "java/lang/Double" ∈ SW) (hd : decode mi.2.2.1 pc = .ok (.invokestatic idx, 3)) (h1 : 1 ≤ d) (hS : (S.map fun v => v.category).sum ≤ 8) (k : G mi d kc ks nx (pc + 3) L (.long x.toInt64 :: S) M F) : G mi d kc ks nx pc L (.double x :: S) M F := by
  intro l p e R s m args below meth c g mc ms C H locs cells slots ls X
  have hts := C.2.2.2.2.2.2.2.1
  have r1 := C.2.2.2.2.2.2.2.2.2.2.2.1
  have r2 := C.2.2.2.2.2.2.2.2.2.2.2.2.1
  have hr := z_room g.1 hS
  exact vn_d2l C.1 C.2.1 (C.2.2.1.trans X.2.2.2.1.1.symm) C.2.2.2.2.2.2.1 (hts _ hl.1) (hts _ hl.2.1) (hts _ hl.2.2.1) (hts _ hl.2.2.2) (by omega) (by omega) hd (k l p e R s m args below meth c g mc ms C H locs cells slots ls X)
theorem g_f2raw {x : UInt32} (hl : Cond.methodLink mi.2.1 idx ⟨"java/lang/Float", "floatToRawIntBits", "(F)I"⟩ ∈ SW ∧ Cond.native ⟨"java/lang/Float", "floatToRawIntBits", "(F)I"⟩ ∈ SW ∧ Cond.static ⟨"java/lang/Float", "floatToRawIntBits", "(F)I"⟩ ∈ SW ∧ Cond.initialized "java/lang/Float" ∈ SW) (hd : decode mi.2.2.1 pc = .ok (.invokestatic idx, 3)) (h1 : 1 ≤ d) (hS : (S.map fun v => v.category).sum ≤ 8) (k : G mi d kc ks nx (pc + 3) L (.int x.toInt32 :: S) M F) : G mi d kc ks nx pc L (.float x :: S) M F := by
  intro l p e R s m args below meth c g mc ms C H locs cells slots ls X
  have hts := C.2.2.2.2.2.2.2.1
  have r1 := C.2.2.2.2.2.2.2.2.2.2.2.1
  have r2 := C.2.2.2.2.2.2.2.2.2.2.2.2.1
  have hr := z_room g.1 hS
  exact vn_f2i C.1 C.2.1 (C.2.2.1.trans X.2.2.2.1.1.symm) C.2.2.2.2.2.2.1 (hts _ hl.1) (hts _ hl.2.1) (hts _ hl.2.2.1) (hts _ hl.2.2.2) (by omega) (by omega) hd (k l p e R s m args below meth c g mc ms C H locs cells slots ls X)
theorem g_fcmp {x y : UInt32} {op : CmpOp} (hd : decode mi.2.2.1 pc = .ok (.fcmp op, 1)) (k : G mi d kc ks nx (pc + 1) L (.int (Op.cmpValue (FP.fcmp x y) op) :: S) M F) : G mi d kc ks nx pc L (.float y :: .float x :: S) M F := by
  intro l p e R s m args below meth c g mc ms C H locs cells slots ls X
  exact lv_fcmp C.1 C.2.1 hd (k l p e R s m args below meth c g mc ms C H locs cells slots ls X)
abbrev mJxf58ca_isNaN_12338 : zI := (yJxf58ca_isNaN_12338, RJxf58ca, cJxf58ca_isNaN_12338, 1, (some .boolean), [], none)
theorem oJxf58ca_isNaN_12338 : zokF mJxf58ca_isNaN_12338 1 := ⟨by decide +kernel, rfl, ⟨by decide +kernel, by decide +kernel⟩, by decide +kernel, by decide, q90⟩
theorem pJxf58ca_isNaN_12338 : zoc mJxf58ca_isNaN_12338 := ⟨rfl, q1284⟩
abbrev mJxf58ca_floatToIntBits_5c35a : zI := (yJxf58ca_floatToIntBits_5c35a, RJxf58ca, cJxf58ca_floatToIntBits_5c35a, 1, (some .int), [], none)
theorem oJxf58ca_floatToIntBits_5c35a : zokF mJxf58ca_floatToIntBits_5c35a 1 := ⟨by decide +kernel, rfl, ⟨by decide +kernel, by decide +kernel⟩, by decide +kernel, by decide, q90⟩
theorem pJxf58ca_floatToIntBits_5c35a : zoc mJxf58ca_floatToIntBits_5c35a := ⟨rfl, q1281⟩
theorem lX6_260 : zLS RX6 260 mJxf58ca_floatToIntBits_5c35a := ⟨q1279, q1280⟩
theorem lJxf58ca_59 : zLS RJxf58ca 59 mJxf58ca_isNaN_12338 := ⟨q1282, q1283⟩
/-- a number: not a NaN -/
theorem vf_of64 {x : UInt64} (h : FP.dIsNaN x = false) : vf_n64 x := by
  have h2 : ¬ 9218868437227405312 < x.toNat % 2 ^ 63 := fun q => by
    have h3 : FP.dIsNaN x = true := (FP.Core.isNaN_bits x).mpr q
    rw [h3] at h; cases h
  unfold vf_n64
  rw [UInt64.le_iff_toNat_le, UInt64.toNat_and, show (0x7fffffffffffffff : UInt64).toNat = 2 ^ 63 - 1 by decide, Nat.and_two_pow_sub_one_eq_mod, show (0x7ff0000000000000 : UInt64).toNat = 9218868437227405312 by decide]
  omega
theorem vf_of32 {x : UInt32} (h : FP.fIsNaN x = false) : vf_n32 x := by
  have h2 : ¬ 2139095040 < x.toNat % 2 ^ 31 := fun q => by
    have h3 : FP.fIsNaN x = true := (FP.Core.isNaN_bits32 x).mpr q
    rw [h3] at h; cases h
  unfold vf_n32
  rw [UInt32.le_iff_toNat_le, UInt32.toNat_and, show (0x7fffffff : UInt32).toNat = 2 ^ 31 - 1 by decide, Nat.and_two_pow_sub_one_eq_mod, show (0x7f800000 : UInt32).toNat = 2139095040 by decide]
  omega
theorem dself {x : UInt64} (h : FP.dIsNaN x = false) : FP.dcmp x x = some .eq := FP.Core.dcmp_self ((FP.Core.notNaN_iff x).mp h)
theorem fself {x : UInt32} (h : FP.fIsNaN x = false) : FP.fcmp x x = some .eq := FP.Core.fcmp_self ((FP.Core.notNaN_iff32 x).mp h)
theorem kJd_isNaN {x : UInt64} (h : FP.dIsNaN x = false) : Cn mJxe99ae_isNaN_b9ae7 0 0 0 none [.double x] M (zi (nI 0) (fun M' => M' = M)) := by
  refine g_dload_n dJxe99ae_isNaN_b9ae7_0 rfl ?_
  refine g_dload_n dJxe99ae_isNaN_b9ae7_1 rfl ?_
  refine g_dcmp dJxe99ae_isNaN_b9ae7_2 ?_
  rw [dself h]
  refine g_if_eq_n (a := 0) (tgt := 10) dJxe99ae_isNaN_b9ae7_3 (by decide) (by omega) (fun h1 => ?_) (fun h1 => absurd rfl h1)
  refine g_iconst (v := nI 0) dJxe99ae_isNaN_b9ae7_10 (by decide) ?_
  exact g_ireturn dJxe99ae_isNaN_b9ae7_11 rfl rfl ⟨rfl, rfl, rfl⟩
theorem kJd_bits {x : UInt64} (h : FP.dIsNaN x = false) : Cn mJxe99ae_doubleToLongBits_ccdee 1 0 0 none [.double x] M (zj x.toInt64 (fun M' => M' = M)) := by
  refine g_dload_n dJxe99ae_doubleToLongBits_ccdee_0 rfl ?_
  refine g_callS_i (kJd_isNaN h) oJxe99ae_isNaN_b9ae7 pJxe99ae_isNaN_b9ae7 lJxe99ae_122 dJxe99ae_doubleToLongBits_ccdee_1 rfl rfl (Nat.le_of_ble_eq_true rfl) (Nat.le_of_ble_eq_true rfl) (by decide) (fun M' h' => ?_)
  subst h'
  refine g_if_ne_n (a := 0) (tgt := 12) dJxe99ae_doubleToLongBits_ccdee_4 (by decide) (by omega) (fun h1 => absurd rfl h1) (fun h1 => ?_)
  refine g_dload_n dJxe99ae_doubleToLongBits_ccdee_7 rfl ?_
  refine g_d2raw ⟨q1275, q1277, q1276, q89⟩ dJxe99ae_doubleToLongBits_ccdee_8 (by decide) (by decide) ?_
  exact g_lreturn dJxe99ae_doubleToLongBits_ccdee_11 rfl ⟨rfl, rfl, rfl⟩
theorem kJf_isNaN {x : UInt32} (h : FP.fIsNaN x = false) : Cn mJxf58ca_isNaN_12338 0 0 0 none [.float x] M (zi (nI 0) (fun M' => M' = M)) := by
  refine g_fload_n dJxf58ca_isNaN_12338_0 rfl ?_
  refine g_fload_n dJxf58ca_isNaN_12338_1 rfl ?_
  refine g_fcmp dJxf58ca_isNaN_12338_2 ?_
  rw [fself h]
  refine g_if_eq_n (a := 0) (tgt := 10) dJxf58ca_isNaN_12338_3 (by decide) (by omega) (fun h1 => ?_) (fun h1 => absurd rfl h1)
  refine g_iconst (v := nI 0) dJxf58ca_isNaN_12338_10 (by decide) ?_
  exact g_ireturn dJxf58ca_isNaN_12338_11 rfl rfl ⟨rfl, rfl, rfl⟩
theorem kJf_bits {x : UInt32} (h : FP.fIsNaN x = false) : Cn mJxf58ca_floatToIntBits_5c35a 1 0 0 none [.float x] M (zi x.toInt32 (fun M' => M' = M)) := by
  refine g_fload_n dJxf58ca_floatToIntBits_5c35a_0 rfl ?_
  refine g_callSF_i (kJf_isNaN h) oJxf58ca_isNaN_12338 pJxf58ca_isNaN_12338 lJxf58ca_59 dJxf58ca_floatToIntBits_5c35a_1 rfl rfl (Nat.le_of_ble_eq_true rfl) (Nat.le_of_ble_eq_true rfl) (by decide) (fun M' h' => ?_)
  subst h'
  refine g_if_ne_n (a := 0) (tgt := 12) dJxf58ca_floatToIntBits_5c35a_4 (by decide) (by omega) (fun h1 => absurd rfl h1) (fun h1 => ?_)
  refine g_fload_n dJxf58ca_floatToIntBits_5c35a_7 rfl ?_
  refine g_f2raw ⟨q1285, q1287, q1286, q90⟩ dJxf58ca_floatToIntBits_5c35a_8 (by decide) (by decide) ?_
  exact g_ireturn dJxf58ca_floatToIntBits_5c35a_11 rfl rfl ⟨rfl, rfl, rfl⟩
/-- quotients of numbers -/
theorem z2016 (v : Int32) : FP.dIsNaN (FP.ddiv (FP.i2d v) 4656581277212737536) = false :=
  FP.Core.ddiv_out (FP.Core.i2d_fin v).notNaN ((FP.Core.fin_bits _).mpr (by decide)) (by
    rintro ⟨s, q, h⟩
    revert h
    rw [show FP.Core.val64 4656581277212737536 = .fin false 8866461766385664 (-42) by decide +kernel]
    intro h
    injection h with h1 h2 h3
    revert h2
    decide)
theorem z84 (v : Int32) : FP.fIsNaN (FP.fdiv (FP.i2f v) 1118306304) = false :=
  FP.Core.fdiv_out (FP.Core.i2f_fin v).notNaN ((FP.Core.fin_bits32 _).mpr (by decide)) (by
    rintro ⟨s, q, h⟩
    revert h
    rw [show FP.Core.val32 1118306304 = .fin false 11010048 (-17) by decide +kernel]
    intro h
    injection h with h1 h2 h3
    revert h2
    decide)
end GN
