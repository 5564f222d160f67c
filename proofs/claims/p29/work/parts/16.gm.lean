theorem beq_f {a b : Nat} (h : a ≠ b) : Nat.beq a b = false := by
  cases hb : Nat.beq a b
  · rfl
  · exact absurd (Nat.eq_of_beq_eq_true hb) h
theorem g_arr {mi : zI} {d kc ks : Nat} {nx : Option Nat} {pc : Nat} {L : List (Nat × Value)} {S : List Value} {M : zM} {F : zP} {b n : Nat} {X X' : Nat → Nat} (hM : M b = some (iA n X)) (h : ∀ j, j < n → X j = X' j) (k : G mi d kc ks nx pc L S (zu M b (iA n X')) F) : G mi d kc ks nx pc L S M F := by
  intro l p e R s m args below meth c g mc ms C H locs cells slots ls Y
  obtain ⟨x1, x2, x3⟩ := Y
  have hMn : M b ≠ none := by rw [hM]; exact fun z => by cases z
  have hv : vp_cell (g.2.2.1 0) (n, .inl fun j => nI (X j)) = vp_cell (g.2.2.1 0) (n, .inl fun j => nI (X' j)) := by
    rw [vp_cell_i, vp_cell_i]
    unfold arrV
    congr 1
    exact congrArg Array.ofFn (funext fun j => congrArg (fun x => Value.int (nI x)) (h j.val j.isLt))
  exact k l p e R s m args below meth c g mc ms C H locs cells slots ls ⟨x1.upd hMn (by show H[g.1 b]? = some (vp_cell _ _); exact (x1.1 _ _ hM).trans (congrArg some hv)) (fun _ _ => rfl), x2.upd hMn rfl, x3⟩
