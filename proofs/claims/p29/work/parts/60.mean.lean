/-! a wide constant of float; the mean rent by the class -/
section LDW
variable {p : Program} {l : Launch} {e : Env} {R : Room} {s : State} {m : MethodId} {args : Array Value} {below : List Frame} {meth : Method} {c : Code} {H : Heap} {locs : List Loc} {cells slots : Nat} {Q : State → Prop}
variable {cc : ByteArray} {pc : Nat} {ls : Array Slot} {rest : List Value}
theorem zz_ldcwF {T : State} (X : Stand p l e R s m args below meth c T locs cells slots) (hexec : p.tables.exec = Jvm.exec) {own : String} {index : Nat} {v : UInt32} (hown : s.vm.findClass own = some m.cls) (hconst : (Cond.constantFloat own index v).before args s = true) {g : JFrame} (hg : g.method = m) (hdg : decode c.code g.pc = .ok (.ldc_w index, 3)) :
    ∀ target, Steps p.tables e below (T.setTop { g with pc := g.pc + 3, stack := .float v :: g.stack }) target → Steps p.tables e below (T.setTop g) target := by
  obtain ⟨k1, cf, hk, hcf, hcp⟩ := Cond.constantFloat_spec hown hconst
  obtain ⟨k2, hk2, he⟩ := X.warmed.alike.2.2 _ _ hk
  intro target hrest
  subst hg
  jvm_step X.here [hexec, hdg, ldc_w.wp_float (s := T) (f := g) X.here.top hk2 (by rw [he]; exact hcf) hcp]
  exact hrest
theorem zz_ldcwf (hexec : p.tables.exec = Jvm.exec) (hb : c.code = cc) {own : String} {index : Nat} {v : UInt32} (hown : s.vm.findClass own = some m.cls) (hconst : (Cond.constantFloat own index v).before args s = true) (hdg : decode cc pc = .ok (.ldc_w index, 3)) (k : W p l e R s m args below meth c H locs cells slots Q (F0 m (pc + 3) ls (.float v :: rest))) : W p l e R s m args below meth c H locs cells slots Q (F0 m pc ls rest) := by
  intro T hT X
  obtain ⟨t, a, b⟩ := k T hT X
  exact ⟨t, zz_ldcwF X hexec hown hconst (g := F0 m pc ls rest) rfl (by rw [hb]; exact hdg) t a, b⟩
end LDW
theorem g_ldcwf {mi : zI} {d kc ks : Nat} {nx : Option Nat} {pc : Nat} {L : List (Nat × Value)} {S : List Value} {M : zM} {F : zP} {i : Nat} {v : UInt32} (hd : decode mi.2.2.1 pc = .ok (.ldc_w i, 3)) (hw : Cond.constantFloat mi.2.1 i v ∈ SW) (k : G mi d kc ks nx (pc + 3) L (.float v :: S) M F) : G mi d kc ks nx pc L S M F := by
  intro l p e R s m args below meth c g mc ms C H locs cells slots ls X
  exact zz_ldcwf C.1 C.2.1 C.2.2.2.2.2.2.1 (C.2.2.2.2.2.2.2.1 _ hw) hd (k l p e R s m args below meth c g mc ms C H locs cells slots ls X)
section MEAN
variable {M M0 : zM} {Y : Nat → Nat → Nat}
theorem kX5_meanRent (hw : wS Y 9) : Cn mX5_meanRent 8 0 0 none [.ref 8] (cM M0 Y) (zg (FP.fdiv (FP.i2f (nI (sfT Y (-1) 2))) 1118306304) (fun M' => M' = cM M0 Y)) := by
  refine g_aload_n dX5_meanRent_0 rfl ?_
  refine g_get fX5_10 dX5_meanRent_1 (cM_H rfl) rfl ?_
  refine g_iconst (v := (-1)) dX5_meanRent_4 (by decide) ?_
  refine g_iconst (v := nI 2) dX5_meanRent_5 (by decide) ?_
  refine g_callV_i (kX4_sumFor (te := -1) (w := 2) sb9 hw (by omega)) oX4_sumFor pX4_sumFor lX5_249 dX5_meanRent_6 rfl (cM_S rfl) rfl rfl rfl (Nat.le_of_ble_eq_true rfl) (Nat.le_of_ble_eq_true rfl) (by decide) (fun M' h' => ?_)
  subst h'
  refine g_i2f dX5_meanRent_9 ?_
  refine g_ldcwf dX5_meanRent_10 q477 ?_
  refine g_fdiv dX5_meanRent_13 (vf_of32 (z84 _)) ?_
  exact g_freturn dX5_meanRent_14 rfl ⟨rfl, rfl, rfl⟩
end MEAN
