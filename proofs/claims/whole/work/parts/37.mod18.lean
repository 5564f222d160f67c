/-! the reference: made -/
def rfX : Nat → Nat := uN (uN (uN (uN (uN (uN (uN (fun _ => 0) 0 1) 1 20) 2 50) 4 11) 5 1000) 6 1500) 7 2500
section MOD18
variable {mi : zI} {d kc ks : Nat} {pc : Nat} {L : List (Nat × Value)} {S : List Value} {M M0 : zM} {F : zP}
theorem g_newi {n N kc1 ks1 : Nat} (hd : decode mi.2.2.1 pc = .ok (.newarray .int, 2)) (hN : N < 1000000) (hkc : kc = kc1 + 1) (hks : ks = ks1 + N) (kk : G mi d kc1 ks1 (some (n + 1)) (pc + 2) L (.ref n :: S) (zu M n (iA N (fun _ => 0))) F) : G mi d kc ks (some n) pc L (.int (nI N) :: S) M F := by
  refine g_newa (t := 0) (N := N) (ty := .int) (x := (N, .inl (fun _ => nI 0))) hd rfl q211 (fun g => rfl) (fun U cA h => h) (fun cA r => rfl) (fun h => ?_) ?_ ?_ hkc hks kk
  · have := Int32.lt_iff_toInt_lt.mp h
    rw [nI_toInt (by omega)] at this
    have h0 : (0 : Int32).toInt = 0 := rfl
    omega
  · show (nI N).toInt.toNat = N
    rw [nI_toInt (by omega)]
    omega
  · show N * 4 ≤ 536870912
    omega
abbrev X6_def : List Value := [.null, .null, .int (nI 0), .null, .int (nI 0), .int (nI 0), .null, .int (nI 0), .null, .null, .null, .int (nI 0), .null, .int (nI 0), .int (nI 0), .int (nI 0), .int (nI 0), .null, .long 0]
theorem kX6_init (h0 : M0 233 = none) : Cn mX6_init 1 9 1632 (some 234) [.ref 233] (zu M0 233 (.inr (6, X6_def))) (zn 243 (fun M' => M' = mM M0 rfX (fun _ => 0) (fun _ => 0) (fun _ => 0) (fun _ => 0) (fun _ => 0) (fun _ => 0) (fun _ => 0) (fun _ => 0) 0 0 0 0 0 0 0 0 0 0)) := by
  refine g_aload_n dX6_init_0 rfl ?_
  refine g_objInit lO_X6_1 dX6_init_1 (by decide) (by decide) ?_
  refine g_aload_n dX6_init_4 rfl ?_
  refine g_sipush (v := nI 177) dX6_init_5 (by decide) ?_
  refine g_newi (kc1 := 8) (ks1 := 1455) dX6_init_8 (by decide) rfl rfl ?_
  refine g_putF fX6_7 ⟨rfl, rfl⟩ dX6_init_10 rfl (by decide) rfl rfl (by omega) ?_
  refine g_aload_n dX6_init_13 rfl ?_
  refine g_sipush (v := nI 1062) dX6_init_14 (by decide) ?_
  refine g_newi (kc1 := 7) (ks1 := 393) dX6_init_17 (by decide) rfl rfl ?_
  refine g_putF fX6_13 ⟨rfl, rfl⟩ dX6_init_19 rfl (by decide) rfl rfl (by omega) ?_
  refine g_aload_n dX6_init_22 rfl ?_
  refine g_sipush (v := nI 177) dX6_init_23 (by decide) ?_
  refine g_newi (kc1 := 6) (ks1 := 216) dX6_init_26 (by decide) rfl rfl ?_
  refine g_putF fX6_16 ⟨rfl, rfl⟩ dX6_init_28 rfl (by decide) rfl rfl (by omega) ?_
  refine g_aload_n dX6_init_31 rfl ?_
  refine g_bipush (v := nI 24) dX6_init_32 (by decide) ?_
  refine g_newi (kc1 := 5) (ks1 := 192) dX6_init_34 (by decide) rfl rfl ?_
  refine g_putF fX6_19 ⟨rfl, rfl⟩ dX6_init_36 rfl (by decide) rfl rfl (by omega) ?_
  refine g_aload_n dX6_init_39 rfl ?_
  refine g_bipush (v := nI 24) dX6_init_40 (by decide) ?_
  refine g_newi (kc1 := 4) (ks1 := 168) dX6_init_42 (by decide) rfl rfl ?_
  refine g_putF fX6_22 ⟨rfl, rfl⟩ dX6_init_44 rfl (by decide) rfl rfl (by omega) ?_
  refine g_aload_n dX6_init_47 rfl ?_
  refine g_bipush (v := nI 24) dX6_init_48 (by decide) ?_
  refine g_newi (kc1 := 3) (ks1 := 144) dX6_init_50 (by decide) rfl rfl ?_
  refine g_putF fX6_25 ⟨rfl, rfl⟩ dX6_init_52 rfl (by decide) rfl rfl (by omega) ?_
  refine g_aload_n dX6_init_55 rfl ?_
  refine g_bipush (v := nI 24) dX6_init_56 (by decide) ?_
  refine g_newi (kc1 := 2) (ks1 := 120) dX6_init_58 (by decide) rfl rfl ?_
  refine g_putF fX6_28 ⟨rfl, rfl⟩ dX6_init_60 rfl (by decide) rfl rfl (by omega) ?_
  refine g_aload_n dX6_init_63 rfl ?_
  refine g_bipush (v := nI 60) dX6_init_64 (by decide) ?_
  refine g_newi (kc1 := 1) (ks1 := 60) dX6_init_66 (by decide) rfl rfl ?_
  refine g_putF fX6_31 ⟨rfl, rfl⟩ dX6_init_68 rfl (by decide) rfl rfl (by omega) ?_
  refine g_aload_n dX6_init_71 rfl ?_
  refine g_bipush (v := nI 60) dX6_init_72 (by decide) ?_
  refine g_newi (kc1 := 0) (ks1 := 0) dX6_init_74 (by decide) rfl rfl ?_
  refine g_putF fX6_34 ⟨rfl, rfl⟩ dX6_init_76 rfl (by decide) rfl rfl (by omega) ?_
  refine g_m (M' := mM M0 (fun _ => 0) (fun _ => 0) (fun _ => 0) (fun _ => 0) (fun _ => 0) (fun _ => 0) (fun _ => 0) (fun _ => 0) (fun _ => 0) 0 0 0 0 0 0 0 0 0 0) ?_ ?_
  · funext q
    by_cases h233 : q = 233
    · subst h233; rfl
    by_cases h234 : q = 234
    · subst h234; rfl
    by_cases h235 : q = 235
    · subst h235; rfl
    by_cases h236 : q = 236
    · subst h236; rfl
    by_cases h237 : q = 237
    · subst h237; rfl
    by_cases h238 : q = 238
    · subst h238; rfl
    by_cases h239 : q = 239
    · subst h239; rfl
    by_cases h240 : q = 240
    · subst h240; rfl
    by_cases h241 : q = 241
    · subst h241; rfl
    by_cases h242 : q = 242
    · subst h242; rfl
    simp only [zu, mM, beq_f h233, beq_f h234, beq_f h235, beq_f h236, beq_f h237, beq_f h238, beq_f h239, beq_f h240, beq_f h241, beq_f h242, cond_false]
  refine g_aload_n dX6_init_79 rfl ?_
  refine g_get fX6_7 dX6_init_80 rfl rfl ?_
  refine g_iconst (v := nI 0) dX6_init_83 (by decide) ?_
  refine g_iconst (v := nI 1) dX6_init_84 (by decide) ?_
  refine g_mst_row dX6_init_85 (by omega) ?_
  refine g_aload_n dX6_init_86 rfl ?_
  refine g_get fX6_7 dX6_init_87 rfl rfl ?_
  refine g_iconst (v := nI 1) dX6_init_90 (by decide) ?_
  refine g_bipush (v := nI 20) dX6_init_91 (by decide) ?_
  refine g_mst_row dX6_init_93 (by omega) ?_
  refine g_aload_n dX6_init_94 rfl ?_
  refine g_get fX6_7 dX6_init_95 rfl rfl ?_
  refine g_iconst (v := nI 2) dX6_init_98 (by decide) ?_
  refine g_bipush (v := nI 50) dX6_init_99 (by decide) ?_
  refine g_mst_row dX6_init_101 (by omega) ?_
  refine g_aload_n dX6_init_102 rfl ?_
  refine g_get fX6_7 dX6_init_103 rfl rfl ?_
  refine g_iconst (v := nI 4) dX6_init_106 (by decide) ?_
  refine g_bipush (v := nI 11) dX6_init_107 (by decide) ?_
  refine g_mst_row dX6_init_109 (by omega) ?_
  refine g_aload_n dX6_init_110 rfl ?_
  refine g_get fX6_7 dX6_init_111 rfl rfl ?_
  refine g_iconst (v := nI 5) dX6_init_114 (by decide) ?_
  refine g_sipush (v := nI 1000) dX6_init_115 (by decide) ?_
  refine g_mst_row dX6_init_118 (by omega) ?_
  refine g_aload_n dX6_init_119 rfl ?_
  refine g_get fX6_7 dX6_init_120 rfl rfl ?_
  refine g_bipush (v := nI 6) dX6_init_123 (by decide) ?_
  refine g_sipush (v := nI 1500) dX6_init_125 (by decide) ?_
  refine g_mst_row dX6_init_128 (by omega) ?_
  refine g_aload_n dX6_init_129 rfl ?_
  refine g_get fX6_7 dX6_init_130 rfl rfl ?_
  refine g_bipush (v := nI 7) dX6_init_133 (by decide) ?_
  refine g_sipush (v := nI 2500) dX6_init_135 (by decide) ?_
  refine g_mst_row dX6_init_138 (by omega) ?_
  exact g_return dX6_init_139 rfl ⟨rfl, rfl, rfl⟩
end MOD18
