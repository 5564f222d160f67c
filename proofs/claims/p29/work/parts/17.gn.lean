section GN
variable {mi : zI} {d kc ks : Nat} {nx : Option Nat} {pc : Nat} {L : List (Nat × Value)} {S : List Value} {M : zM} {F : zP}
theorem g_fcmp {x y : UInt32} {op : CmpOp} (hd : decode mi.2.2.1 pc = .ok (.fcmp op, 1)) (k : G mi d kc ks nx (pc + 1) L (.int (Op.cmpValue (FP.fcmp x y) op) :: S) M F) : G mi d kc ks nx pc L (.float y :: .float x :: S) M F := by
  intro l p e R s m args below meth c g mc ms C H locs cells slots ls X
  exact lv_fcmp C.1 C.2.1 hd (k l p e R s m args below meth c g mc ms C H locs cells slots ls X)
end GN
theorem vf_of64 {x : UInt64} (h : FP.dIsNaN x = false) : vf_n64 x := by
  have h2 : ¬ 9218868437227405312 < x.toNat % 2 ^ 63 := fun q => by
    have h3 : FP.dIsNaN x = true := (FP.Core.isNaN_bits x).mpr q
    rw [h3] at h; cases h
  unfold vf_n64
  rw [UInt64.le_iff_toNat_le, UInt64.toNat_and, show (0x7fffffffffffffff : UInt64).toNat = 2 ^ 63 - 1 by decide, Nat.and_two_pow_sub_one_eq_mod, show (0x7ff0000000000000 : UInt64).toNat = 9218868437227405312 by decide]
  omega
theorem vf_of32 {x : UInt32} (h : FP.fIsNaN x = false) : vf_n32 x := by
  have h2 : ¬ 2139095040 < x.toNat % 2 ^ 31 := fun q => by
    have h3 : FP.fIsNaN x = true := (FP.Core.isNaN_bits32 x).mpr q
    rw [h3] at h; cases h
  unfold vf_n32
  rw [UInt32.le_iff_toNat_le, UInt32.toNat_and, show (0x7fffffff : UInt32).toNat = 2 ^ 31 - 1 by decide, Nat.and_two_pow_sub_one_eq_mod, show (0x7f800000 : UInt32).toNat = 2139095040 by decide]
  omega
theorem dself {x : UInt64} (h : FP.dIsNaN x = false) : FP.dcmp x x = some .eq := FP.Core.dcmp_self ((FP.Core.notNaN_iff x).mp h)
theorem fself {x : UInt32} (h : FP.fIsNaN x = false) : FP.fcmp x x = some .eq := FP.Core.fcmp_self ((FP.Core.notNaN_iff32 x).mp h)
theorem z2016 (v : Int32) : FP.dIsNaN (FP.ddiv (FP.i2d v) 4656581277212737536) = false :=
  FP.Core.ddiv_out (FP.Core.i2d_fin v).notNaN ((FP.Core.fin_bits _).mpr (by decide)) (by
    rintro ⟨s, q, h⟩
    revert h
    rw [show FP.Core.val64 4656581277212737536 = .fin false 8866461766385664 (-42) by decide +kernel]
    intro h
    injection h with h1 h2 h3
    revert h2
    decide)
theorem z84 (v : Int32) : FP.fIsNaN (FP.fdiv (FP.i2f v) 1118306304) = false :=
  FP.Core.fdiv_out (FP.Core.i2f_fin v).notNaN ((FP.Core.fin_bits32 _).mpr (by decide)) (by
    rintro ⟨s, q, h⟩
    revert h
    rw [show FP.Core.val32 1118306304 = .fin false 11010048 (-17) by decide +kernel]
    intro h
    injection h with h1 h2 h3
    revert h2
    decide)
