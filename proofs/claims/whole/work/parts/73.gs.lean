/-! G: statics, the text of signs, the script -/
def zSg (j : Nat) : Nat := [58, 44, 45, 42, 64, 59].getD j 0
section GS
variable {mi : zI} {d kc ks : Nat} {nx : Option Nat} {pc : Nat} {L : List (Nat × Value)} {S0 S : List Value} {M : zM} {F : zP}
variable {mi' : zI} {d' kc' ks' kc1 ks1 idx n b : Nat} {As : List Value} {F' : zP}
theorem g_gets {C n d0 : String} {v : Value} {idx : Nat} (hz : ∀ (g : zG) (U : State), z_S g U → va_Z C n d0 (z_v g.1 v) (z_A g) U U.heap) (hl : Cond.fieldLink mi.2.1 idx C n d0 ∈ SW) (hd : decode mi.2.2.1 pc = .ok (.getstatic idx, 3)) (k : G mi d kc ks nx (pc + 3) L (v :: S) M F) : G mi d kc ks nx pc L S M F := by
  intro l p e R s m args below meth c g mc ms C H locs cells slots ls X
  have hts := C.2.2.2.2.2.2.2.1
  exact va_gets C.1 C.2.1 (hz g s C.2.2.2.2.2.2.2.2.2.1) X.2.2.1 C.2.2.2.2.2.2.1 (hts _ hl) (fun x hx => hx) hd (k l p e R s m args below meth c g mc ms C H locs cells slots ls X)
theorem g_gets2 {C n d0 : String} {v w : Value} {idx : Nat} (hz : ∀ (g : zG) (U : State), z_S g U → va_Z C n d0 (z_v g.1 v) (z_A g) U U.heap ∨ va_Z C n d0 (z_v g.1 w) (z_A g) U U.heap) (hl : Cond.fieldLink mi.2.1 idx C n d0 ∈ SW) (hd : decode mi.2.2.1 pc = .ok (.getstatic idx, 3)) (k : G mi d kc ks nx (pc + 3) L (v :: S) M F) (k2 : G mi d kc ks nx (pc + 3) L (w :: S) M F) : G mi d kc ks nx pc L S M F := by
  intro l p e R s m args below meth c g mc ms C H locs cells slots ls X
  have hts := C.2.2.2.2.2.2.2.1
  rcases hz g s C.2.2.2.2.2.2.2.2.2.1 with h | h
  · exact va_gets C.1 C.2.1 h X.2.2.1 C.2.2.2.2.2.2.1 (hts _ hl) (fun x hx => hx) hd (k l p e R s m args below meth c g mc ms C H locs cells slots ls X)
  · exact va_gets C.1 C.2.1 h X.2.2.1 C.2.2.2.2.2.2.1 (hts _ hl) (fun x hx => hx) hd (k2 l p e R s m args below meth c g mc ms C H locs cells slots ls X)
theorem g_tld {n i : Nat} {f : Nat → Nat} (hz : ∀ (g : zG) (U : State), z_S g U → va_T .int (g.1 b) n (fun j => .int (nI (f j))) (z_A g) U U.heap) (hd : decode mi.2.2.1 pc = .ok (.iaload, 1)) (hi : i < n) (hn : n < 2 ^ 31) (k : G mi d kc ks nx (pc + 1) L (.int (nI (f i)) :: S) M F) : G mi d kc ks nx pc L (.int (nI i) :: .ref b :: S) M F := by
  intro l p e R s m args below meth c g mc ms C H locs cells slots ls X
  exact va_ti C.1 C.2.1 (hz g s C.2.2.2.2.2.2.2.2.2.1) X.2.2.1 (vp_in_nI hi hn) (v := .int (nI (f i))) (by rw [nI_clamp (Nat.lt_trans hi hn)]) hd (k l p e R s m args below meth c g mc ms C H locs cells slots ls X)
theorem g_tlen {n : Nat} {ty : FieldType} {f : Nat → Value} (hz : ∀ (g : zG) (U : State), z_S g U → va_T ty (g.1 b) n f (z_A g) U U.heap) (hd : decode mi.2.2.1 pc = .ok (.arraylength, 1)) (k : G mi d kc ks nx (pc + 1) L (.int (nI n) :: S) M F) : G mi d kc ks nx pc L (.ref b :: S) M F := by
  intro l p e R s m args below meth c g mc ms C H locs cells slots ls X
  exact va_tlen C.1 C.2.1 (hz g s C.2.2.2.2.2.2.2.2.2.1) X.2.2.1 rfl hd (k l p e R s m args below meth c g mc ms C H locs cells slots ls X)
theorem g_tbl {n i : Nat} {f : Nat → Int32} (hz : ∀ (g : zG) (U : State), z_S g U → va_T .byte (g.1 b) n (fun j => .int (f j)) (z_A g) U U.heap) (hd : decode mi.2.2.1 pc = .ok (.baload, 1)) (hi : i < n) (hn : n < 2 ^ 31) (k : G mi d kc ks nx (pc + 1) L (.int (f i) :: S) M F) : G mi d kc ks nx pc L (.int (nI i) :: .ref b :: S) M F := by
  intro l p e R s m args below meth c g mc ms C H locs cells slots ls X
  exact va_tb C.1 C.2.1 (hz g s C.2.2.2.2.2.2.2.2.2.1) X.2.2.1 (vp_in_nI hi hn) (v := .int (f i)) (by rw [nI_clamp (Nat.lt_trans hi hn)]) hd (k l p e R s m args below meth c g mc ms C H locs cells slots ls X)
/-- the script -/
theorem g_sld {i N : Nat} {xs : Nat → Int32} (hm : mi.2.2.2.2.2.2 = some (N, xs)) (hd : decode mi.2.2.1 pc = .ok (.iaload, 1)) (hi : i < N) (hn : N < 2 ^ 31) (k : G mi d kc ks nx (pc + 1) L (.int (xs i) :: S) M F) : G mi d kc ks nx pc L (.int (nI i) :: .ref 0 :: S) M F := by
  intro l p e R s m args below meth c g mc ms C H locs cells slots ls X
  obtain ⟨h1, h2, h3⟩ := C.2.2.2.2.2.2.2.2.1.2 _ hm
  exact va_sld (rest := S.map (z_v g.1)) C.1 C.2.1 h1 h2 h3 X.2.2.1 (vp_in_nI hi hn) hd (by
    rw [nI_clamp (Nat.lt_trans hi hn)]
    exact k l p e R s m args below meth c g mc ms C H locs cells slots ls X)
theorem g_slen {N : Nat} {xs : Nat → Int32} (hm : mi.2.2.2.2.2.2 = some (N, xs)) (hd : decode mi.2.2.1 pc = .ok (.arraylength, 1)) (k : G mi d kc ks nx (pc + 1) L (.int (nI N) :: S) M F) : G mi d kc ks nx pc L (.ref 0 :: S) M F := by
  intro l p e R s m args below meth c g mc ms C H locs cells slots ls X
  obtain ⟨h1, h2, h3⟩ := C.2.2.2.2.2.2.2.2.1.2 _ hm
  exact va_slen C.1 C.2.1 h1 h2 h3 X.2.2.1 hd (k l p e R s m args below meth c g mc ms C H locs cells slots ls X)
/-- a field of a String that lies outside -/
theorem g_getX {o n d0 : String} {v : Value} {idx : Nat} (hz : ∀ (g : zG) (U : State), z_S g U → va_OF o n d0 (z_v g.1 v) (g.1 b) (z_A g) U U.heap) (hl : Cond.fieldLink mi.2.1 idx o n d0 ∈ SW) (hd : decode mi.2.2.1 pc = .ok (.getfield idx, 3)) (k : G mi d kc ks nx (pc + 3) L (v :: S) M F) : G mi d kc ks nx pc L (.ref b :: S) M F := by
  intro l p e R s m args below meth c g mc ms C H locs cells slots ls X
  have hts := C.2.2.2.2.2.2.2.1
  exact vk_getf C.1 C.2.1 (hz g s C.2.2.2.2.2.2.2.2.2.1) X.2.2.1 C.2.2.2.2.2.2.1 (hts _ hl) (fun x hx => hx) hd (k l p e R s m args below meth c g mc ms C H locs cells slots ls X)
theorem g_callVs (hc : Cn mi' d' kc' ks' nx (.ref 4 :: As) M F') (ho : zok mi' n) (hoc : zoc mi') (hl : zLV mi.2.1 idx mi') (hd : decode mi.2.2.1 pc = .ok (.invokevirtual idx, 3)) (hs : S0 = As.reverse ++ .ref 4 :: S) (hr : mi'.1.cls = "java/lang/String") (hA : As.length = n) (hg : (lg_sl (.ref 4 :: As)).length ≤ mi'.2.2.2.1) (hS : (S.map fun v => v.category).sum ≤ 8) (h1 : d' + 1 ≤ d) (h2 : kc1 + kc' ≤ kc) (h3 : ks1 + ks' ≤ ks) (hno : ∀ M nx E, ¬ F' M nx (.inr E))
    (k : ∀ M1 nx1 v, F' M1 nx1 (.inl v) → G mi d kc1 ks1 nx1 (pc + 3) L (zp v S) M1 F) : G mi d kc ks nx pc L S0 M F := by
  intro l p e R s m args below meth c g mc ms C H locs cells slots ls X
  have hCn := hc.met hno C.2.2.2.2.2.2.2.2.2.2.2.2.2.2.2 (g := g) C.2.2.2.2.2.2.2.2.2.2.1 hg ho hoc
  have hts := C.2.2.2.2.2.2.2.1
  have r3 := C.2.2.2.2.2.2.2.2.2.2.2.2.2.1
  have r4 := C.2.2.2.2.2.2.2.2.2.2.2.2.2.2.1
  have x5 := X.2.2.2.2.1
  have x6 := X.2.2.2.2.2
  have hSs := C.2.2.2.2.2.2.2.2.2.1
  refine z_run C X (va_runV (C := mi'.1.cls) (As := As.map (z_v g.1)) (b := g.1 4) (rest := S.map (z_v g.1)) (index := idx) ⟨C.1, C.2.1, C.2.2.1, C.2.2.2.2.2.2.1, hts⟩ hCn ⟨z_cb C ho hoc hl.1 h1, hts _ hl.2.1, hts _ hl.2.2⟩ ⟨z_blind _ _ _ _, by rw [hr]; exact vk_recv (i := 0) hSs.2.2.2.2.1.1.1 (by decide) X.2.2.1, z_pre C.2.2.2.2.2.2.2.2.2.1 X.1 X.2.1 X.2.2.1⟩ rfl (by rw [List.length_map]; exact hA) X.2.2.2.1.1 (by rw [hs, List.map_append, List.map_reverse]; rfl) (lv_room (z_room g.1 hS)) hd ⟨by omega, by omega⟩) h2 h3 k
theorem g_callVs_i {r : Int32} {P : zM → Prop} (hc : Cn mi' d' 0 0 none (.ref 4 :: As) M (zi r P)) (ho : zok mi' n) (hoc : zoc mi') (hl : zLV mi.2.1 idx mi') (hd : decode mi.2.2.1 pc = .ok (.invokevirtual idx, 3)) (hs : S0 = As.reverse ++ .ref 4 :: S) (hr : mi'.1.cls = "java/lang/String") (hA : As.length = n) (hg : (lg_sl (.ref 4 :: As)).length ≤ mi'.2.2.2.1) (hS : (S.map fun v => v.category).sum ≤ 8) (h1 : d' + 1 ≤ d) (k : ∀ M1, P M1 → G mi d kc ks none (pc + 3) L (.int r :: S) M1 F) : G mi d kc ks none pc L S0 M F := by
  refine g_callVs hc ho hoc hl hd hs hr hA hg hS h1 (Nat.le_refl _) (Nat.le_refl _) ?_ ?_
  · rintro M1 nx1 E ⟨-, h, -⟩
    cases h
  · rintro M1 nx1 v ⟨rfl, h, hP⟩
    cases h
    exact k M1 hP
theorem g_i2c {x v : Int32} (hd : decode mi.2.2.1 pc = .ok (.i2c, 1)) (hv : (x.toUInt32 % 65536).toInt32 = v) (k : G mi d kc ks nx (pc + 1) L (.int v :: S) M F) : G mi d kc ks nx pc L (.int x :: S) M F := by
  intro l p e R s m args below meth c g mc ms C H locs cells slots ls X
  exact lv_i2c C.1 C.2.1 hd hv (k l p e R s m args below meth c g mc ms C H locs cells slots ls X)
theorem g_ldcS (hm : mi.2.1 = RX2) (hd : decode mi.2.2.1 pc = .ok (.ldc 44, 2)) (k : G mi d kc ks nx (pc + 2) L (.ref 4 :: S) M F) : G mi d kc ks nx pc L S M F := by
  intro l p e R s m args below meth c g mc ms C H locs cells slots ls X
  exact va_ldcS C.1 C.2.1 C.2.2.2.2.2.2.1 (by rw [hm]; exact C.2.2.2.2.2.2.2.2.2.1.2.2.2.2.1.2) hd (k l p e R s m args below meth c g mc ms C H locs cells slots ls X)
/-- signs by their places -/
theorem kJ3_check {i n : Nat} {v : Value} (hi : i < n) (hn : n < 2 ^ 31) : Cn mJ3_checkIndex_8e157 0 0 0 none [.int (nI i), .int (nI n), v] M (zi (nI i) (fun M' => M' = M)) := by
  refine g_iload_n dJ3_checkIndex_8e157_0 rfl ?_
  refine g_if_lt_n (tgt := 9) dJ3_checkIndex_8e157_1 (by decide) (by omega) (fun h => by omega) (fun h => ?_)
  refine g_iload_n dJ3_checkIndex_8e157_4 rfl ?_
  refine g_iload_n dJ3_checkIndex_8e157_5 rfl ?_
  refine g_icmp_lt_n (tgt := 16) dJ3_checkIndex_8e157_6 (by decide) (by omega) (by omega) (fun h => ?_) (fun h => by omega)
  refine g_iload_n dJ3_checkIndex_8e157_16 rfl ?_
  exact g_ireturn dJ3_checkIndex_8e157_17 rfl rfl ⟨rfl, rfl, rfl⟩
theorem kJ0_check {i n : Nat} (hi : i < n) (hn : n < 2 ^ 31) : Cn mJ0_checkIndex_df160 1 0 0 none [.int (nI i), .int (nI n)] M (zv (fun M' => M' = M)) := by
  refine g_iload_n dJ0_checkIndex_df160_0 rfl ?_
  refine g_iload_n dJ0_checkIndex_df160_1 rfl ?_
  refine g_gets2 (v := .null) (w := .ref 6) (fun g U h => h.2.2.2.2.1.1.2.2) q333 dJ0_checkIndex_df160_2 ?_ ?_
  · refine g_callS_i (kJ3_check (v := .null) hi hn) oJ3_checkIndex_8e157 pJ3_checkIndex_8e157 lJ0_1059 dJ0_checkIndex_df160_5 rfl rfl (Nat.le_of_ble_eq_true rfl) (Nat.le_of_ble_eq_true rfl) (by decide) (fun M' h' => ?_)
    subst h'
    refine g_pop dJ0_checkIndex_df160_8 rfl ?_
    exact g_return dJ0_checkIndex_df160_9 rfl ⟨rfl, rfl, rfl⟩
  · refine g_callS_i (kJ3_check (v := .ref 6) hi hn) oJ3_checkIndex_8e157 pJ3_checkIndex_8e157 lJ0_1059 dJ0_checkIndex_df160_5 rfl rfl (Nat.le_of_ble_eq_true rfl) (Nat.le_of_ble_eq_true rfl) (by decide) (fun M' h' => ?_)
    subst h'
    refine g_pop dJ0_checkIndex_df160_8 rfl ?_
    exact g_return dJ0_checkIndex_df160_9 rfl ⟨rfl, rfl, rfl⟩
theorem zb_and : ∀ i, i < 6 → ((([[58, 44, 45, 42, 64, 59]] : List (List Int32)).getD 0 []).getD i 0 &&& nI 255) = nI (zSg i) ∧ ((nI (zSg i)).toUInt32 % 65536).toInt32 = nI (zSg i) ∧ narrow .char (.int (nI (zSg i))) = .int (nI (zSg i)) := by decide +kernel
theorem kJ1_charAt {i : Nat} (hi : i < 6) : Cn mJ1_charAt_3b067 2 0 0 none [.ref 5, .int (nI i)] M (zi (nI (zSg i)) (fun M' => M' = M)) := by
  obtain ⟨b1, b2, b3⟩ := zb_and i hi
  refine g_iload_n dJ1_charAt_3b067_0 rfl ?_
  refine g_aload_n dJ1_charAt_3b067_1 rfl ?_
  refine g_tlen (fun g U h => (h.2.2.2.2.1.1.1.1 0 (by decide)).2.2.2) dJ1_charAt_3b067_2 ?_
  refine g_callS_v (kJ0_check (n := 6) hi (by decide)) oJ0_checkIndex_df160 pJ0_checkIndex_df160 lJ1_9 dJ1_charAt_3b067_3 rfl rfl (Nat.le_of_ble_eq_true rfl) (Nat.le_of_ble_eq_true rfl) (by decide) (fun M' h' => ?_)
  subst h'
  refine g_aload_n dJ1_charAt_3b067_6 rfl ?_
  refine g_iload_n dJ1_charAt_3b067_7 rfl ?_
  refine g_tbl (n := 6) (f := fun j => (([[58, 44, 45, 42, 64, 59]] : List (List Int32)).getD 0 []).getD j 0) (fun g U h => (h.2.2.2.2.1.1.1.1 0 (by decide)).2.2.2) dJ1_charAt_3b067_8 hi (by decide) ?_
  refine g_sipush (v := nI 255) dJ1_charAt_3b067_9 (by decide) ?_
  refine g_iand dJ1_charAt_3b067_12 ?_
  rw [b1]
  refine g_i2c dJ1_charAt_3b067_13 b2 ?_
  exact g_ireturn dJ1_charAt_3b067_14 rfl b3 ⟨rfl, rfl, rfl⟩
theorem kJ0_isLatin1 : Cn mJ0_isLatin1_aae02 0 0 0 none [.ref 4] M (zi (nI 1) (fun M' => M' = M)) := by
  refine g_gets (v := .int 1) (fun g U h => h.2.2.2.2.1.1.2.1) q325 dJ0_isLatin1_aae02_0 ?_
  refine g_if_eq_n (a := 1) (tgt := 17) dJ0_isLatin1_aae02_3 (by decide) (by omega) (fun h1 => by omega) (fun h1 => ?_)
  refine g_aload_n dJ0_isLatin1_aae02_6 rfl ?_
  refine g_getX (v := .int 0) (fun g U h => (h.2.2.2.2.1.1.1.1 0 (by decide)).2.1) q1292 dJ0_isLatin1_aae02_7 ?_
  refine g_if_ne_n (a := 0) (tgt := 17) dJ0_isLatin1_aae02_10 (by decide) (by omega) (fun h1 => absurd rfl h1) (fun h1 => ?_)
  refine g_iconst (v := nI 1) dJ0_isLatin1_aae02_13 (by decide) ?_
  refine g_goto (tgt := 18) dJ0_isLatin1_aae02_14 (by decide) ?_
  exact g_ireturn dJ0_isLatin1_aae02_18 rfl rfl ⟨rfl, rfl, rfl⟩
theorem kJ0_charAt {i : Nat} (hi : i < 6) : Cn mJ0_charAt_5068e 3 0 0 none [.ref 4, .int (nI i)] M (zi (nI (zSg i)) (fun M' => M' = M)) := by
  refine g_aload_n dJ0_charAt_5068e_0 rfl ?_
  refine g_callVs_i kJ0_isLatin1 oJ0_isLatin1_aae02 pJ0_isLatin1_aae02 lJ0_492 dJ0_charAt_5068e_1 rfl rfl rfl (Nat.le_of_ble_eq_true rfl) (Nat.le_of_ble_eq_true rfl) (by decide) (fun M' h' => ?_)
  subst h'
  refine g_if_eq_n (a := 1) (tgt := 16) dJ0_charAt_5068e_4 (by decide) (by omega) (fun h1 => by omega) (fun h1 => ?_)
  refine g_aload_n dJ0_charAt_5068e_7 rfl ?_
  refine g_getX (v := .ref 5) (fun g U h => (h.2.2.2.2.1.1.1.1 0 (by decide)).2.2.1) q1293 dJ0_charAt_5068e_8 ?_
  refine g_iload_n dJ0_charAt_5068e_11 rfl ?_
  refine g_callS_i (kJ1_charAt hi) oJ1_charAt_3b067 pJ1_charAt_3b067 lJ0_495 dJ0_charAt_5068e_12 rfl rfl (Nat.le_of_ble_eq_true rfl) (Nat.le_of_ble_eq_true rfl) (by decide) (fun M' h' => ?_)
  subst h'
  exact g_ireturn dJ0_charAt_5068e_15 rfl (zb_and i hi).2.2 ⟨rfl, rfl, rfl⟩
end GS
