/-! G: System.arraycopy from the front of one array of ints to the front of another -/
section GCP
variable {p : Program} {l : Launch} {e : Env} {R : Room} {s : State} {m : MethodId} {args : Array Value} {below : List Frame} {meth : Method} {c : Code} {H : Heap} {locs : List Loc} {cells slots : Nat} {Q : State → Prop}
variable {cc : ByteArray} {pc : Nat} {ls : Array Slot} {rest : List Value} {A : Nat → Prop} {a : Nat} {H0 : Heap}
theorem zz_copy (hexec : p.tables.exec = Jvm.exec) (hb : c.code = cc) (hml : c.maxLocals = ls.size) {own : String} {index : Nat} (hown : s.vm.findClass own = some m.cls) (hw : (Cond.methodLink own index arraycopyName).before args s = true ∧ (Cond.native arraycopyName).before args s = true ∧ (Cond.static arraycopyName).before args s = true ∧ (Cond.initialized "java/lang/System").before args s = true)
    (hS : va_S A H0 H locs) (hAa : A a) {a0 : Nat} {cA : ClassId} {n0 n1 : Nat} {f g : Nat → Int32} (ht : ArrOfT s cA .int) (hc0 : H[a0]? = some (vp_cell cA (n0, .inl f))) (hc1 : H[a]? = some (vp_cell cA (n1, .inl g)))
    {n : Int32} {N : Nat} (hn : ¬ n < 0) (hnI : n.toInt = (N : Int)) (hN : n.toNatClampNeg = N) (h4 : N ≤ n0) (h5 : N ≤ n1) (hframes : 1 ≤ R.frames) (hlocals : (rest.map fun v => v.category).sum + (nativeFrameWords "java/lang/System" "arraycopy" 5 + 11) ≤ R.locals) (hdg : decode cc pc = .ok (.invokestatic index, 3))
    (kk : ∀ (H1 : Heap) (locs1 : List Loc), H1[a]? = some (vp_cell cA (n1, .inl (va_cpy f g 0 0 N))) → H1.size = H.size → (∀ q : Nat, q ≠ a → H1[q]? = H[q]?) → va_S A H0 H1 locs1 → W p l e R s m args below meth c H1 locs1 cells slots Q (F0 m (pc + 3) ls rest)) : W p l e R s m args below meth c H locs cells slots Q (F0 m pc ls (.int n :: .int 0 :: .ref a :: .int 0 :: .ref a0 :: rest)) := by
  obtain ⟨w1, w2, w3, w4⟩ := hw
  intro T hT X
  obtain ⟨-, k0, hk0, cm0, hkk0⟩ := ht n0 (fun j => .int (f j))
  have hz : ¬ (0 : Int32) < 0 := by decide
  have z0 : (0 : Int32).toNatClampNeg = 0 := rfl
  have rd : ∀ i, i < N → (vp_cell cA (n0, .inl f)).slots.getD ((0 : Int32).toNatClampNeg + i) .null = .int (f i) := fun i hi => by
    rw [z0, Nat.zero_add, vp_cell_i, Array.getD_eq_getD_getElem?, arrV_read _ _ (by omega)]
    rfl
  obtain ⟨vm', X', step⟩ := X.arraycopy hexec hown w1 w2 w3 w4 (cs := vp_cell cA (n0, .inl f)) (cd := vp_cell cA (n1, .inl g)) (srcPos := 0) (destPos := 0) (n := n) (by rw [hT]; exact hc0) (by rw [hT]; exact hc1)
    (fun _ h => by cases h) (fun _ h => by cases h) (fun h => by cases h) (fun h => by cases h) hk0 hk0 hkk0 hkk0 rfl hz hz hn
    (by rw [hnI, vp_cell_i, arrV_size]; show ¬ (0 : Int) + N > n0; omega)
    (by rw [hnI, vp_cell_i, arrV_size]; show ¬ (0 : Int) + N > n1; omega)
    (fun vm₁ _ i hi => by
      rw [rd i (by rw [hN] at hi; exact hi)]
      exact ⟨rfl, trivial⟩)
    (g := F0 m pc ls (.int n :: .int 0 :: .ref a :: .int 0 :: .ref a0 :: rest)) rfl (by rw [hml]) (rest := rest) rfl (by rw [hb]; exact hdg) hframes (by show 2 * 0 + _ + _ ≤ _; omega)
  have e1 : copied (vp_cell cA (n0, .inl f)) (vp_cell cA (n1, .inl g)) 0 0 n = vp_cell cA (n1, .inl (va_cpy f g 0 0 N)) := by
    have := va_copied (n1 := n1) (dp := 0) (fun z => Value.int z) cA cA f g (show 0 + N ≤ n0 by omega)
    rw [← hN] at this ⊢
    exact this
  rw [e1] at X' step
  have hl : a < H.size := (Array.getElem?_eq_some_iff.mp hc1).1
  have oq : ∀ q : Nat, q ≠ a → (H.setIfInBounds a (vp_cell cA (n1, .inl (va_cpy f g 0 0 N))))[q]? = H[q]? := fun q hq => by simp [Array.getElem?_setIfInBounds, Ne.symm hq]
  obtain ⟨t, a1, b1⟩ := kk (H.setIfInBounds a (vp_cell cA (n1, .inl (va_cpy f g 0 0 N)))) _ (by simp [Array.getElem?_setIfInBounds, hl]) (by simp) oq
    ⟨by simp; exact hS.1, fun q g1 g2 => by
      rw [oq q (fun e => g2 (by rw [e]; exact hAa))]
      exact hS.2.1 q g1 g2, fun q hq => by
      rcases List.mem_append.mp hq with h | h
      · exact hS.2.2 q h
      · obtain ⟨z, -, hz⟩ := List.mem_map.mp h
        rw [← hz]
        exact hAa⟩ _ (by rw [← hT]; rfl) X'
  exact ⟨t, step t a1, b1⟩
end GCP
section GCQ
variable {mi : zI} {d kc ks : Nat} {nx : Option Nat} {pc : Nat} {L : List (Nat × Value)} {S : List Value} {M : zM} {F : zP}
theorem g_copy {idx b b0 n n0 n1 : Nat} {f g : Nat → Nat} (hl : Cond.methodLink mi.2.1 idx arraycopyName ∈ SW ∧ Cond.native arraycopyName ∈ SW ∧ Cond.static arraycopyName ∈ SW ∧ Cond.initialized "java/lang/System" ∈ SW) (hd : decode mi.2.2.1 pc = .ok (.invokestatic idx, 3)) (h1 : 1 ≤ d) (hS : (S.map fun v => v.category).sum ≤ 8) (hM0 : M b0 = some (iA n0 f)) (hM1 : M b = some (iA n1 g)) (h4 : n ≤ n0) (h5 : n ≤ n1) (hn : n < 2 ^ 31) (hb : 8 ≤ b) (kk : G mi d kc ks nx (pc + 3) L S (zu M b (iA n1 (fun j => if j < n then f j else g j))) F) : G mi d kc ks nx pc L (.int (nI n) :: .int (nI 0) :: .ref b :: .int (nI 0) :: .ref b0 :: S) M F := by
  intro l p e R s m args below meth c gg mc ms C H locs cells slots ls X
  have hts := C.2.2.2.2.2.2.2.1
  have r1 := C.2.2.2.2.2.2.2.2.2.2.2.1
  have r2 := C.2.2.2.2.2.2.2.2.2.2.2.2.1
  have hr := z_room gg.1 hS
  have hMn : M b ≠ none := by rw [hM1]; exact fun z => by cases z
  have hw : nativeFrameWords "java/lang/System" "arraycopy" 5 ≤ 13 := by decide
  refine zz_copy (A := z_A gg) C.1 C.2.1 (C.2.2.1.trans X.2.2.2.1.1.symm) C.2.2.2.2.2.2.1 ⟨hts _ hl.1, hts _ hl.2.1, hts _ hl.2.2.1, hts _ hl.2.2.2⟩ X.2.2.1 (C.2.2.2.2.2.2.2.2.2.2.1 b hb) (C.2.2.2.2.2.2.2.2.2.1.1.2 0 _ rfl).1 (X.1.1 _ _ hM0) (X.1.1 _ _ hM1) (Int32.not_lt.mpr (nI_pos' hn)) (nI_toInt hn) (nI_clamp hn) h4 h5 (by omega) (by omega) hd (fun H1 locs1 a1 z1 o1 s1 => ?_)
  have ee : (va_cpy (fun j => nI (f j)) (fun j => nI (g j)) 0 0 n) = fun j => nI (if j < n then f j else g j) := by
    funext j
    by_cases h : j < n <;> simp [va_cpy, h]
  rw [ee] at a1
  exact kk l p e R s m args below meth c gg mc ms C H1 locs1 cells slots ls ⟨X.1.upd hMn a1 o1, X.2.1.upd hMn z1, s1, X.2.2.2.1, X.2.2.2.2⟩
end GCQ
theorem lX4_34 : Cond.methodLink RX4 34 arraycopyName ∈ SW ∧ Cond.native arraycopyName ∈ SW ∧ Cond.static arraycopyName ∈ SW ∧ Cond.initialized "java/lang/System" ∈ SW := ⟨q562, q564, q563, q31⟩
