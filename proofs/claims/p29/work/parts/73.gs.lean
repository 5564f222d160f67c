/-! G: statics, the text of signs, the script -/
def zSg (j : Nat) : Nat := [58, 44, 45, 42, 64, 59].getD j 0
section GS
variable {mi : zI} {d kc ks : Nat} {nx : Option Nat} {pc : Nat} {L : List (Nat × Value)} {S0 S : List Value} {M : zM} {F : zP}
variable {mi' : zI} {d' kc' ks' kc1 ks1 idx n b : Nat} {As : List Value} {F' : zP}
theorem g_gets {C n d0 : String} {v : Value} {idx : Nat} (hz : ∀ (g : zG) (U : State), z_S g U → va_Z C n d0 (z_v g.1 v) (z_A g) U U.heap) (hl : Cond.fieldLink mi.2.1 idx C n d0 ∈ SW) (hd : decode mi.2.2.1 pc = .ok (.getstatic idx, 3)) (k : G mi d kc ks nx (pc + 3) L (v :: S) M F) : G mi d kc ks nx pc L S M F := by
  intro l p e R s m args below meth c g mc ms C H locs cells slots ls X
  have hts := C.2.2.2.2.2.2.2.1
  exact va_gets C.1 C.2.1 (hz g s C.2.2.2.2.2.2.2.2.2.1) X.2.2.1 C.2.2.2.2.2.2.1 (hts _ hl) (fun x hx => hx) hd (k l p e R s m args below meth c g mc ms C H locs cells slots ls X)
theorem g_gets2 {C n d0 : String} {v w : Value} {idx : Nat} (hz : ∀ (g : zG) (U : State), z_S g U → va_Z C n d0 (z_v g.1 v) (z_A g) U U.heap ∨ va_Z C n d0 (z_v g.1 w) (z_A g) U U.heap) (hl : Cond.fieldLink mi.2.1 idx C n d0 ∈ SW) (hd : decode mi.2.2.1 pc = .ok (.getstatic idx, 3)) (k : G mi d kc ks nx (pc + 3) L (v :: S) M F) (k2 : G mi d kc ks nx (pc + 3) L (w :: S) M F) : G mi d kc ks nx pc L S M F := by
  intro l p e R s m args below meth c g mc ms C H locs cells slots ls X
  have hts := C.2.2.2.2.2.2.2.1
  rcases hz g s C.2.2.2.2.2.2.2.2.2.1 with h | h
  · exact va_gets C.1 C.2.1 h X.2.2.1 C.2.2.2.2.2.2.1 (hts _ hl) (fun x hx => hx) hd (k l p e R s m args below meth c g mc ms C H locs cells slots ls X)
  · exact va_gets C.1 C.2.1 h X.2.2.1 C.2.2.2.2.2.2.1 (hts _ hl) (fun x hx => hx) hd (k2 l p e R s m args below meth c g mc ms C H locs cells slots ls X)
theorem g_tld {n i : Nat} {f : Nat → Nat} (hz : ∀ (g : zG) (U : State), z_S g U → va_T .int (g.1 b) n (fun j => .int (nI (f j))) (z_A g) U U.heap) (hd : decode mi.2.2.1 pc = .ok (.iaload, 1)) (hi : i < n) (hn : n < 2 ^ 31) (k : G mi d kc ks nx (pc + 1) L (.int (nI (f i)) :: S) M F) : G mi d kc ks nx pc L (.int (nI i) :: .ref b :: S) M F := by
  intro l p e R s m args below meth c g mc ms C H locs cells slots ls X
  exact va_ti C.1 C.2.1 (hz g s C.2.2.2.2.2.2.2.2.2.1) X.2.2.1 (vp_in_nI hi hn) (v := .int (nI (f i))) (by rw [nI_clamp (Nat.lt_trans hi hn)]) hd (k l p e R s m args below meth c g mc ms C H locs cells slots ls X)
theorem g_tlen {n : Nat} {ty : FieldType} {f : Nat → Value} (hz : ∀ (g : zG) (U : State), z_S g U → va_T ty (g.1 b) n f (z_A g) U U.heap) (hd : decode mi.2.2.1 pc = .ok (.arraylength, 1)) (k : G mi d kc ks nx (pc + 1) L (.int (nI n) :: S) M F) : G mi d kc ks nx pc L (.ref b :: S) M F := by
  intro l p e R s m args below meth c g mc ms C H locs cells slots ls X
  exact va_tlen C.1 C.2.1 (hz g s C.2.2.2.2.2.2.2.2.2.1) X.2.2.1 rfl hd (k l p e R s m args below meth c g mc ms C H locs cells slots ls X)
theorem g_tbl {n i : Nat} {f : Nat → Int32} (hz : ∀ (g : zG) (U : State), z_S g U → va_T .byte (g.1 b) n (fun j => .int (f j)) (z_A g) U U.heap) (hd : decode mi.2.2.1 pc = .ok (.baload, 1)) (hi : i < n) (hn : n < 2 ^ 31) (k : G mi d kc ks nx (pc + 1) L (.int (f i) :: S) M F) : G mi d kc ks nx pc L (.int (nI i) :: .ref b :: S) M F := by
  intro l p e R s m args below meth c g mc ms C H locs cells slots ls X
  exact va_tb C.1 C.2.1 (hz g s C.2.2.2.2.2.2.2.2.2.1) X.2.2.1 (vp_in_nI hi hn) (v := .int (f i)) (by rw [nI_clamp (Nat.lt_trans hi hn)]) hd (k l p e R s m args below meth c g mc ms C H locs cells slots ls X)
/-- the script -/
theorem g_sld {i N : Nat} {xs : Nat → Int32} (hm : mi.2.2.2.2.2.2 = some (N, xs)) (hd : decode mi.2.2.1 pc = .ok (.iaload, 1)) (hi : i < N) (hn : N < 2 ^ 31) (k : G mi d kc ks nx (pc + 1) L (.int (xs i) :: S) M F) : G mi d kc ks nx pc L (.int (nI i) :: .ref 0 :: S) M F := by
  intro l p e R s m args below meth c g mc ms C H locs cells slots ls X
  obtain ⟨h1, h2, h3⟩ := C.2.2.2.2.2.2.2.2.1.2 _ hm
  exact va_sld (rest := S.map (z_v g.1)) C.1 C.2.1 h1 h2 h3 X.2.2.1 (vp_in_nI hi hn) hd (by
    rw [nI_clamp (Nat.lt_trans hi hn)]
    exact k l p e R s m args below meth c g mc ms C H locs cells slots ls X)
theorem g_slen {N : Nat} {xs : Nat → Int32} (hm : mi.2.2.2.2.2.2 = some (N, xs)) (hd : decode mi.2.2.1 pc = .ok (.arraylength, 1)) (k : G mi d kc ks nx (pc + 1) L (.int (nI N) :: S) M F) : G mi d kc ks nx pc L (.ref 0 :: S) M F := by
  intro l p e R s m args below meth c g mc ms C H locs cells slots ls X
  obtain ⟨h1, h2, h3⟩ := C.2.2.2.2.2.2.2.2.1.2 _ hm
  exact va_slen C.1 C.2.1 h1 h2 h3 X.2.2.1 hd (k l p e R s m args below meth c g mc ms C H locs cells slots ls X)
end GS
