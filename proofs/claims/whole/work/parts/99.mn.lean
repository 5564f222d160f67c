/-! the law: its loop -/
theorem G_more {mi : zI} {d kc ks kc' ks' : Nat} {nx : Option Nat} {pc : Nat} {L : List (Nat × Value)} {S : List Value} {M : zM} {F : zP} (h : G mi d kc ks nx pc L S M F) (h1 : kc ≤ kc') (h2 : ks ≤ ks') : G mi d kc' ks' nx pc L S M F := fun l p e R s m args below meth c g mc ms C H locs cells slots ls X => h l p e R s m args below meth c g mc ms C H locs cells slots ls ⟨X.1, X.2.1, X.2.2.1, X.2.2.2.1, by have := X.2.2.2.2.1; omega, by have := X.2.2.2.2.2; omega⟩
theorem G_none {mi : zI} {d kc ks : Nat} {nx : Option Nat} {pc : Nat} {L : List (Nat × Value)} {S : List Value} {M : zM} {F : zP} (h : G mi d kc ks none pc L S M F) : G mi d kc ks nx pc L S M F := fun l p e R s m args below meth c g mc ms C H locs cells slots ls X => h l p e R s m args below meth c g mc ms C H locs cells slots ls ⟨X.1, (show z_N g none M H from fun n q => by cases q), X.2.2⟩
theorem nI_bv (x : Int32) : x = nI x.toBitVec.toNat := by
  apply Int32.toBitVec_inj.mp
  show x.toBitVec = BitVec.ofNat 32 x.toBitVec.toNat
  simp
theorem and31 (x : Int32) : ∃ n, n < 32 ∧ x &&& nI 31 = nI n := by
  refine ⟨x.toBitVec.toNat &&& 31, Nat.lt_succ_of_le Nat.and_le_right, ?_⟩
  rw [← nI_and, ← nI_bv]
section LOOP
variable {L : Nat} {xs : Nat → Int32}
theorem law1 (hL : L < 2 ^ 31) (h7 : 7 ≤ L) (F : zP) (hF : ∀ M', LI M' → F M' none (.inl (some (.int (nI 1))))) : ∀ u i M, i ≤ L → L < i + 7 * (u + 1) → LI M → G (mLaw L xs) 11 u (6 * u) none 28 (lwl i) [] M F := by
  intro u
  induction u with
  | zero =>
    intro i M hi hu hM
    refine g_iload dL_law_28 rfl ?_
    refine g_aload_n dL_law_30 rfl ?_
    refine g_slen rfl dL_law_31 ?_
    refine g_bipush (v := nI 7) dL_law_32 (by decide) ?_
    refine g_isub_n dL_law_34 (by omega) ?_
    refine g_icmp_gt_n (tgt := 1764) dL_law_35 (by decide) (by omega) (by omega) (fun h1 => ?_) (fun h2 => ?_)
    · refine g_iconst (v := nI 1) dL_law_1764 (by decide) ?_
      exact g_ireturn dL_law_1765 rfl rfl (hF M hM)
    · omega
  | succ u ih =>
    intro i M hi hu hM
    refine g_iload dL_law_28 rfl ?_
    refine g_aload_n dL_law_30 rfl ?_
    refine g_slen rfl dL_law_31 ?_
    refine g_bipush (v := nI 7) dL_law_32 (by decide) ?_
    refine g_isub_n dL_law_34 (by omega) ?_
    refine g_icmp_gt_n (tgt := 1764) dL_law_35 (by decide) (by omega) (by omega) (fun h1 => ?_) (fun h2 => ?_)
    · refine g_iconst (v := nI 1) dL_law_1764 (by decide) ?_
      exact g_ireturn dL_law_1765 rfl rfl (hF M hM)
    have hi7 : i + 7 ≤ L := by omega
    have ih' : ∀ M', LI M' → G (mLaw L xs) 11 u (6 * u) none 28 (lwl (i + 7)) [] M' F := fun M' h' => ih (i + 7) M' hi7 (by omega) h'
    have ih2 : ∀ M', LI M' → G (mLaw L xs) 11 (u + 1) (6 * (u + 1)) none 28 (lwl (i + 7)) [] M' F := fun M' h' => G_more (ih' M' h') (by omega) (by omega)
    refine g_aload_n dL_law_38 rfl ?_
    refine g_iload dL_law_39 rfl ?_
    refine g_sld rfl dL_law_41 (by omega) hL ?_
    refine g_bipush (v := nI 31) dL_law_42 (by decide) ?_
    refine g_iand dL_law_44 ?_
    obtain ⟨n, hn, e⟩ := and31 (xs i)
    rw [e]
    obtain ⟨f, f2, Y, X, SS, SN, AT, CH, CF, CT, BU, PT, sm, ik, th, mn, cl, ln, sp, nu, pa, hs, rfl, hI, hT⟩ := hM
    rcases (show n = 0 ∨ n = 1 ∨ n = 2 ∨ n = 3 ∨ n = 4 ∨ n = 5 ∨ n = 6 ∨ n = 7 ∨ n = 8 ∨ n = 9 ∨ n = 10 ∨ n = 11 ∨ n = 12 ∨ n = 13 ∨ n = 14 ∨ n = 15 ∨ n = 16 ∨ n = 17 ∨ n = 18 ∨ n = 19 ∨ n = 20 ∨ n = 21 ∨ n = 22 ∨ n = 23 ∨ n = 24 ∨ n = 25 ∨ 26 ≤ n by omega) with rfl | rfl | rfl | rfl | rfl | rfl | rfl | rfl | rfl | rfl | rfl | rfl | rfl | rfl | rfl | rfl | rfl | rfl | rfl | rfl | rfl | rfl | rfl | rfl | rfl | rfl | h26
    · refine g_tabIn (x := nI 0) (off := 119) (tgt := 164) dL_law_45 (by decide) (by decide) (by decide) (by decide) ?_
      exact op_regular hL hi7 hI hT ih'
    · refine g_tabIn (x := nI 1) (off := 237) (tgt := 282) dL_law_45 (by decide) (by decide) (by decide) (by decide) ?_
      exact op_single hL hi7 hI hT ih'
    · refine g_tabIn (x := nI 2) (off := 355) (tgt := 400) dL_law_45 (by decide) (by decide) (by decide) (by decide) ?_
      exact op_cancel hL hi7 hI hT ih'
    · refine g_tabIn (x := nI 3) (off := 439) (tgt := 484) dL_law_45 (by decide) (by decide) (by decide) (by decide) ?_
      exact op_off hL hi7 hI hT ih'
    · refine g_tabIn (x := nI 4) (off := 507) (tgt := 552) dL_law_45 (by decide) (by decide) (by decide) (by decide) ?_
      exact op_rate hL hi7 hI hT ih'
    · refine g_tabIn (x := nI 5) (off := 575) (tgt := 620) dL_law_45 (by decide) (by decide) (by decide) (by decide) ?_
      exact op_set hL hi7 hI hT ih'
    · refine g_tabIn (x := nI 6) (off := 643) (tgt := 688) dL_law_45 (by decide) (by decide) (by decide) (by decide) ?_
      exact op_append hL hi7 hI hT ih'
    · refine g_tabIn (x := nI 7) (off := 699) (tgt := 744) dL_law_45 (by decide) (by decide) (by decide) (by decide) ?_
      exact op_clearBuffer hL hi7 hI hT ih2
    · refine g_tabIn (x := nI 8) (off := 712) (tgt := 757) dL_law_45 (by decide) (by decide) (by decide) (by decide) ?_
      exact op_firstError hL hi7 hI hT ih2
    · refine g_tabIn (x := nI 9) (off := 725) (tgt := 770) dL_law_45 (by decide) (by decide) (by decide) (by decide) ?_
      exact op_lets hL hi7 hI hT ih'
    · refine g_tabIn (x := nI 10) (off := 769) (tgt := 814) dL_law_45 (by decide) (by decide) (by decide) (by decide) ?_
      exact op_undo hL hi7 hI hT ih'
    · refine g_tabIn (x := nI 11) (off := 813) (tgt := 858) dL_law_45 (by decide) (by decide) (by decide) (by decide) ?_
      exact op_keep hL hi7 hI hT ih2
    · refine g_tabIn (x := nI 12) (off := 826) (tgt := 871) dL_law_45 (by decide) (by decide) (by decide) (by decide) ?_
      exact op_restore hL hi7 hI hT ih'
    · refine g_tabIn (x := nI 13) (off := 870) (tgt := 915) dL_law_45 (by decide) (by decide) (by decide) (by decide) ?_
      exact op_regularOf hL hi7 hI hT ih'
    · refine g_tabIn (x := nI 14) (off := 938) (tgt := 983) dL_law_45 (by decide) (by decide) (by decide) (by decide) ?_
      exact op_singleOf hL hi7 hI hT ih'
    · refine g_tabIn (x := nI 15) (off := 1006) (tgt := 1051) dL_law_45 (by decide) (by decide) (by decide) (by decide) ?_
      exact op_who hL hi7 hI hT ih'
    · refine g_tabIn (x := nI 16) (off := 1086) (tgt := 1131) dL_law_45 (by decide) (by decide) (by decide) (by decide) ?_
      exact op_hallOf hL hi7 hI hT ih'
    · refine g_tabIn (x := nI 17) (off := 1166) (tgt := 1211) dL_law_45 (by decide) (by decide) (by decide) (by decide) ?_
      exact op_tenant hL hi7 hI hT ih'
    · refine g_tabIn (x := nI 18) (off := 1234) (tgt := 1279) dL_law_45 (by decide) (by decide) (by decide) (by decide) ?_
      exact op_count hL hi7 hI hT ih'
    · refine g_tabIn (x := nI 19) (off := 1290) (tgt := 1335) dL_law_45 (by decide) (by decide) (by decide) (by decide) ?_
      exact op_refusal hL hi7 hI hT ih'
    · refine g_tabIn (x := nI 20) (off := 1394) (tgt := 1439) dL_law_45 (by decide) (by decide) (by decide) (by decide) ?_
      exact op_price hL hi7 hI hT ih'
    · refine g_tabIn (x := nI 21) (off := 1486) (tgt := 1531) dL_law_45 (by decide) (by decide) (by decide) (by decide) ?_
      exact op_nextFree hL hi7 hI hT ih'
    · refine g_tabIn (x := nI 22) (off := 1566) (tgt := 1611) dL_law_45 (by decide) (by decide) (by decide) (by decide) ?_
      exact op_best hL hi7 hI hT ih2
    · refine g_tabIn (x := nI 23) (off := 1579) (tgt := 1624) dL_law_45 (by decide) (by decide) (by decide) (by decide) ?_
      exact op_fullness hL hi7 hI hT ih'
    · refine g_tabIn (x := nI 24) (off := 1656) (tgt := 1701) dL_law_45 (by decide) (by decide) (by decide) (by decide) ?_
      exact op_meanRent hL hi7 hI hT ih2
    · refine g_tabIn (x := nI 25) (off := 1699) (tgt := 1744) dL_law_45 (by decide) (by decide) (by decide) (by decide) ?_
      exact op_digest hL hi7 hI hT ih2
    · refine g_tabOut (x := nI n) (tgt := 1758) dL_law_45 (Or.inr ?_) (by decide) ?_
      · rw [nI_toInt (by omega)]
        omega
      · exact law_nx rfl (ih2 _ ⟨f, f2, Y, X, SS, SN, AT, CH, CF, CT, BU, PT, sm, ik, th, mn, cl, ln, sp, nu, pa, hs, rfl, hI, hT⟩)
end LOOP
