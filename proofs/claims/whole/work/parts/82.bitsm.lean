/-! the class: bitsOf -/
section BITS
variable {mi : zI} {d kc ks : Nat} {nx : Option Nat} {pc : Nat} {L : List (Nat × Value)} {S : List Value} {M : zM} {F : zP}
theorem g_dconst0 (hd : decode mi.2.2.1 pc = .ok (.dconst 0, 1)) (k : G mi d kc ks nx (pc + 1) L (.double 0 :: S) M F) : G mi d kc ks nx pc L S M F := by
  intro l p e R s m args below meth c g mc ms C H locs cells slots ls X
  exact lv_dconst0 C.1 C.2.1 hd (k l p e R s m args below meth c g mc ms C H locs cells slots ls X)
theorem g_dconst1 (hd : decode mi.2.2.1 pc = .ok (.dconst 1, 1)) (k : G mi d kc ks nx (pc + 1) L (.double 4607182418800017408 :: S) M F) : G mi d kc ks nx pc L S M F := by
  intro l p e R s m args below meth c g mc ms C H locs cells slots ls X
  exact lv_dconst1 C.1 C.2.1 hd (k l p e R s m args below meth c g mc ms C H locs cells slots ls X)
end BITS
theorem shl_52 : ∀ a, a < 32 → ∀ b, b < 64 → Int64.ofNat (64 * a + b) <<< ((nI 52).toInt64 &&& 63) = Int64.ofNat ((64 * a + b) * 2 ^ 52) := by decide +kernel
theorem shl_23 : ∀ a, a < 32 → ∀ b, b < 64 → Int64.ofNat (64 * a + b) <<< ((nI 23).toInt64 &&& 63) = Int64.ofNat ((64 * a + b) * 2 ^ 23) := by decide +kernel
def plOk (pl : Nat) : Prop := pl ≤ 52 ∧ (∀ e, e < 2048 → Int64.ofNat e <<< ((nI pl).toInt64 &&& 63) = Int64.ofNat (e * 2 ^ pl)) ∧ (1 : Int64) <<< ((nI pl).toInt64 &&& 63) = Int64.ofNat (2 ^ pl) ∧ FP.Core.val64 (FP.l2d (Int64.ofNat (2 ^ pl))) = .fin false 4503599627370496 ((pl : Int) - 52)
theorem plOk_52 : plOk 52 := ⟨by decide, fun e he => by
  have := shl_52 (e / 64) (by omega) (e % 64) (by omega)
  rwa [show 64 * (e / 64) + e % 64 = e by omega] at this, by decide +kernel, by decide +kernel⟩
theorem plOk_23 : plOk 23 := ⟨by decide, fun e he => by
  have := shl_23 (e / 64) (by omega) (e % 64) (by omega)
  rwa [show 64 * (e / 64) + e % 64 = e by omega] at this, by decide +kernel, by decide +kernel⟩
theorem cv_lt (op : CmpOp) : Op.cmpValue (some .lt) op = -1 := by cases op <;> rfl
theorem cv_gt (op : CmpOp) : Op.cmpValue (some .gt) op = 1 := by cases op <;> rfl
theorem cv_nlt {o : Ordering} (op : CmpOp) (h : o ≠ .lt) : 0 ≤ Op.cmpValue (some o) op := by
  cases o
  · exact absurd rfl h
  · cases op <;> decide
  · cases op <;> decide
theorem i64_sub1 (e : Nat) : Int64.ofNat (e + 1) - 1 = Int64.ofNat e := by
  rw [Int64.ofNat_add]
  show Int64.ofNat e + 1 - 1 = Int64.ofNat e
  exact Int64.add_sub_cancel ..
section BITM
variable {M : zM}
theorem btw3 {c pl e : Nat} {x x0 : UInt64} {bias : Nat} (hp : plOk pl) (hx : nrm c (-52) x) (he : e < 2048) (F : zP) (hF : F M none (.inl (some (.long (Int64.ofNat (e * 2 ^ pl) + Int64.ofNat ((c - 4503599627370496) / 2 ^ (52 - pl))))))) : G mX5_bitsOf 0 0 0 none 89 [(3, .int (nI pl)), (4, .double x), (6, .long (Int64.ofNat e))] [] M F := by
  obtain ⟨p1, p2, p3, p4⟩ := hp
  obtain ⟨m1, m2, m3⟩ := mant hx p1 p4
  refine g_lload dX5_bitsOf_89 rfl ?_
  refine g_iload_n dX5_bitsOf_91 rfl ?_
  refine g_lshl dX5_bitsOf_92 (p2 e he) ?_
  refine g_dload dX5_bitsOf_93 rfl ?_
  refine g_dconst1 dX5_bitsOf_95 ?_
  refine g_dsub dX5_bitsOf_96 (vf_of64 m1) ?_
  refine g_lconst (v := 1) dX5_bitsOf_97 rfl ?_
  refine g_iload_n dX5_bitsOf_98 rfl ?_
  refine g_lshl dX5_bitsOf_99 p3 ?_
  refine g_l2d dX5_bitsOf_100 ?_
  refine g_dmul dX5_bitsOf_101 (vf_of64 m2) ?_
  refine g_d2l dX5_bitsOf_102 ?_
  rw [m3]
  refine g_ladd dX5_bitsOf_103 ?_
  exact g_lreturn dX5_bitsOf_104 rfl hF
theorem btw2 {c pl : Nat} {k0 : Int} {bias : Nat} (hb : 127 ≤ bias) (hb2 : bias < 1100) (hk0 : -120 ≤ k0) (hk1 : k0 ≤ 20) (F : zP) (hF : ∀ x (e : Nat), nrm c (-52) x → (e : Int) = bias + k0 + 52 → G mX5_bitsOf 0 0 0 none 89 [(3, .int (nI pl)), (4, .double x), (6, .long (Int64.ofNat e))] [] M F) : ∀ u i (e : Nat) x (k : Int), i + u = bias → nrm c k x → (e : Int) = bias + k0 - k → -52 ≤ k → (i : Int) + (k + 52) ≤ 72 → G mX5_bitsOf 0 0 0 none 54 [(2, .int (nI bias)), (3, .int (nI pl)), (4, .double x), (6, .long (Int64.ofNat e)), (8, .int (nI i))] [] M F := by
  intro u
  induction u with
  | zero =>
    intro i e x k hi hx he hk hik
    omega
  | succ u ih =>
    intro i e x k hi hx he hk hik
    refine g_iload dX5_bitsOf_54 rfl ?_
    refine g_iload_n dX5_bitsOf_56 rfl ?_
    refine g_icmp_ge_n (tgt := 89) dX5_bitsOf_57 (by decide) (by omega) (by omega) (fun h1 => ?_) (fun h1 => ?_)
    · omega
    refine g_dload dX5_bitsOf_60 rfl ?_
    refine g_ldcd dX5_bitsOf_62 q653 ?_
    refine g_dcmp dX5_bitsOf_65 ?_
    by_cases hk2 : k < -51
    · have ek : k = -52 := by omega
      subst ek
      rw [nrm_lt hx v64_2 (by omega), cv_lt]
      refine g_if_lt (tgt := 89) dX5_bitsOf_66 (by decide) (fun _ => ?_) (fun q => absurd (by decide) q)
      exact g_loc rfl (hF x e hx (by omega))
    · obtain ⟨o, ho, hne⟩ := nrm_ge hx v64_2 (by omega)
      rw [ho]
      refine g_if_lt (tgt := 89) dX5_bitsOf_66 (by decide) (fun q => ?_) (fun _ => ?_)
      · exact absurd q (Int32.not_lt.mpr (cv_nlt _ hne))
      refine g_dload dX5_bitsOf_69 rfl ?_
      refine g_ldcd dX5_bitsOf_71 q653 ?_
      have hx2 := nrm_div2 hx (by omega) (by omega)
      refine g_ddiv dX5_bitsOf_74 (vf_of64 (nrm_nan hx2)) ?_
      refine g_dstore dX5_bitsOf_75 (by decide) ?_
      refine g_lload dX5_bitsOf_77 rfl ?_
      refine g_lconst (v := 1) dX5_bitsOf_79 rfl ?_
      refine g_ladd dX5_bitsOf_80 ?_
      rw [show Int64.ofNat e + 1 = Int64.ofNat (e + 1) from (Int64.ofNat_add e 1).symm]
      refine g_lstore dX5_bitsOf_81 (by decide) ?_
      refine g_iinc_n (c := 1) dX5_bitsOf_83 rfl (by decide) (by decide) ?_
      refine g_goto (tgt := 54) dX5_bitsOf_86 (by decide) ?_
      exact g_loc rfl (ih (i + 1) (e + 1) _ (k - 1) (by omega) hx2 (by omega) (by omega) (by omega))
theorem btw1 {c pl : Nat} {k0 : Int} {bias : Nat} (hb : 127 ≤ bias) (hb2 : bias < 1100) (hk0 : -120 ≤ k0) (hk1 : k0 ≤ 20) (F : zP) (hF : ∀ x (e : Nat), nrm c (-52) x → (e : Int) = bias + k0 + 52 → G mX5_bitsOf 0 0 0 none 89 [(3, .int (nI pl)), (4, .double x), (6, .long (Int64.ofNat e))] [] M F) : ∀ u i (e : Nat) x (k : Int), i + u = bias → nrm c k x → (e : Int) = bias + k0 - k → -120 ≤ k → k ≤ 20 → (k < -52 → (i : Int) + (-52 - k) ≤ 68) → (-52 < k → k = k0) → G mX5_bitsOf 0 0 0 none 18 [(2, .int (nI bias)), (3, .int (nI pl)), (4, .double x), (6, .long (Int64.ofNat e)), (8, .int (nI i))] [] M F := by
  intro u
  have out : ∀ i (e : Nat) x (k : Int), nrm c k x → (e : Int) = bias + k0 - k → -52 ≤ k → k ≤ 20 → G mX5_bitsOf 0 0 0 none 51 [(2, .int (nI bias)), (3, .int (nI pl)), (4, .double x), (6, .long (Int64.ofNat e)), (8, .int (nI i))] [] M F := fun i e x k hx he hk hk2 => by
    refine g_iconst (v := nI 0) dX5_bitsOf_51 (by decide) ?_
    refine g_istore dX5_bitsOf_52 (by decide) ?_
    exact g_loc rfl (btw2 hb hb2 hk0 hk1 F hF bias 0 e x k (by omega) hx he hk (by omega))
  induction u with
  | zero =>
    intro i e x k hi hx he h1 h2 h3 h4
    have hk : -52 ≤ k := by
      refine Int.not_lt.mp (fun q => ?_)
      have := h3 q
      omega
    refine g_iload dX5_bitsOf_18 rfl ?_
    refine g_iload_n dX5_bitsOf_20 rfl ?_
    refine g_icmp_ge_n (tgt := 51) dX5_bitsOf_21 (by decide) (by omega) (by omega) (fun h5 => ?_) (fun h5 => ?_)
    · exact g_loc rfl (out i e x k hx he hk h2)
    · omega
  | succ u ih =>
    intro i e x k hi hx he h1 h2 h3 h4
    refine g_iload dX5_bitsOf_18 rfl ?_
    refine g_iload_n dX5_bitsOf_20 rfl ?_
    refine g_icmp_ge_n (tgt := 51) dX5_bitsOf_21 (by decide) (by omega) (by omega) (fun h5 => ?_) (fun h5 => ?_)
    · omega
    refine g_dload dX5_bitsOf_24 rfl ?_
    refine g_dconst1 dX5_bitsOf_26 ?_
    refine g_dcmp dX5_bitsOf_27 ?_
    by_cases hk : k < -52
    · rw [nrm_lt hx v64_1 hk, cv_lt]
      refine g_if_ge (tgt := 51) dX5_bitsOf_28 (by decide) (fun q => absurd q (by decide)) (fun _ => ?_)
      refine g_dload dX5_bitsOf_31 rfl ?_
      refine g_ldcd dX5_bitsOf_33 q653 ?_
      have hx2 := nrm_mul2 hx (by omega) (by omega)
      refine g_dmul dX5_bitsOf_36 (vf_of64 (nrm_nan hx2)) ?_
      obtain ⟨e', rfl⟩ : ∃ e', e = e' + 1 := ⟨e - 1, by omega⟩
      refine g_dstore dX5_bitsOf_37 (by decide) ?_
      refine g_lload dX5_bitsOf_39 rfl ?_
      refine g_lconst (v := 1) dX5_bitsOf_41 rfl ?_
      refine g_lsub dX5_bitsOf_42 ?_
      rw [i64_sub1]
      refine g_lstore dX5_bitsOf_43 (by decide) ?_
      refine g_iinc_n (c := 1) dX5_bitsOf_45 rfl (by decide) (by decide) ?_
      refine g_goto (tgt := 18) dX5_bitsOf_48 (by decide) ?_
      have h3' := h3 hk
      exact g_loc rfl (ih (i + 1) e' _ (k + 1) (by omega) hx2 (by omega) (by omega) (by omega) (fun _ => by omega) (fun q => by omega))
    · obtain ⟨o, ho, hne⟩ := nrm_ge hx v64_1 (by omega)
      rw [ho]
      refine g_if_ge (tgt := 51) dX5_bitsOf_28 (by decide) (fun _ => ?_) (fun q => absurd (cv_nlt _ hne) q)
      exact g_loc rfl (out i e x k hx he (by omega) h2)
theorem kX5_bitsOf {c pl bias e : Nat} {k : Int} {x : UInt64} (hp : plOk pl) (hb : 127 ≤ bias) (hb2 : bias < 1100) (hx : nrm c k x) (hk0 : -120 ≤ k) (hk1 : k ≤ 20) (he : (e : Int) = bias + k + 52) : Cn mX5_bitsOf 0 0 0 none [.double x, .int (nI bias), .int (nI pl)] M (zj (Int64.ofNat (e * 2 ^ pl + (c - 4503599627370496) / 2 ^ (52 - pl))) (fun M' => M' = M)) := by
  refine g_dload_n dX5_bitsOf_0 rfl ?_
  refine g_dconst0 dX5_bitsOf_1 ?_
  refine g_dcmp dX5_bitsOf_2 ?_
  rw [nrm_pos hx, cv_gt]
  refine g_if_gt (tgt := 8) dX5_bitsOf_3 (by decide) (fun _ => ?_) (fun q => absurd (by decide) q)
  refine g_dload_n dX5_bitsOf_8 rfl ?_
  refine g_dstore dX5_bitsOf_9 (by decide) ?_
  refine g_iload_n dX5_bitsOf_11 rfl ?_
  refine g_i2l dX5_bitsOf_12 ?_
  rw [nI_64 (show bias < 2 ^ 31 by omega)]
  refine g_lstore dX5_bitsOf_13 (by decide) ?_
  refine g_iconst (v := nI 0) dX5_bitsOf_15 (by decide) ?_
  refine g_istore dX5_bitsOf_16 (by decide) ?_
  refine g_loc rfl (btw1 hb hb2 hk0 hk1 _ (fun x' e' hx' he' => ?_) bias 0 bias x k (by omega) hx (by omega) hk0 hk1 (fun _ => by omega) (fun _ => rfl))
  have : e' = e := by omega
  subst this
  refine btw3 (x0 := x) (bias := bias) hp hx' (by omega) _ ⟨rfl, ?_, rfl⟩
  rw [← Int64.ofNat_add]
theorem kX5_bits0 {a b : Int32} : Cn mX5_bitsOf 0 0 0 none [.double 0, .int a, .int b] M (zj 0 (fun M' => M' = M)) := by
  refine g_dload_n dX5_bitsOf_0 rfl ?_
  refine g_dconst0 dX5_bitsOf_1 ?_
  refine g_dcmp dX5_bitsOf_2 ?_
  rw [show FP.dcmp 0 0 = some .eq by decide +kernel]
  refine g_if_gt (tgt := 8) dX5_bitsOf_3 (by decide) (fun q => absurd q (by decide)) (fun _ => ?_)
  refine g_lconst dX5_bitsOf_6 rfl ?_
  exact g_lreturn dX5_bitsOf_7 rfl ⟨rfl, rfl, rfl⟩
/-- the bits of the fullness, and of the mean -/
theorem kX5_bitsD {n : Nat} (h : n < 2 ^ 31) : Cn mX5_bitsOf 0 0 0 none [.double (FP.ddiv (FP.i2d (nI n)) 4656581277212737536), .int (nI 1023), .int (nI 52)] M (zj (FP.ddiv (FP.i2d (nI n)) 4656581277212737536).toInt64 (fun M' => M' = M)) := by
  by_cases h0 : n = 0
  · subst h0
    rw [show FP.ddiv (FP.i2d (nI 0)) 4656581277212737536 = 0 by decide +kernel]
    exact kX5_bits0
  · obtain ⟨c, k, h1, h2, h3⟩ := full_n (Nat.pos_of_ne_zero h0) h
    rw [bits64 h1 (by omega)]
    have := kX5_bitsOf (M := M) (e := (k + 1075).toNat) (bias := 1023) plOk_52 (by omega) (by omega) h1 (by omega) (by omega) (by omega)
    rw [show 52 - 52 = 0 from rfl, Nat.pow_zero, Nat.div_one] at this
    exact this
theorem kX5_bitsF {n : Nat} (h : n < 2 ^ 31) : Cn mX5_bitsOf 0 0 0 none [.double (FP.f2d (FP.fdiv (FP.i2f (nI n)) 1118306304)), .int (nI 127), .int (nI 23)] M (zj (FP.fdiv (FP.i2f (nI n)) 1118306304).toInt32.toInt64 (fun M' => M' = M)) := by
  by_cases h0 : n = 0
  · subst h0
    rw [show FP.fdiv (FP.i2f (nI 0)) 1118306304 = 0 by decide +kernel, show FP.f2d 0 = 0 by decide +kernel]
    exact kX5_bits0
  · obtain ⟨c, k, h1, h2, h3⟩ := mean_n (Nat.pos_of_ne_zero h0) h
    rw [bits32 h1 (by omega) (by omega)]
    have h4 := nrf_d h1 (by omega) (by omega)
    obtain ⟨-, h5, h6⟩ := h1
    have := kX5_bitsOf (M := M) (e := (k + 150).toNat) (bias := 127) plOk_23 (by omega) (by omega) h4 (by omega) (by omega) (by omega)
    rw [show (c * 536870912 - 4503599627370496) / 2 ^ (52 - 23) = c - 8388608 by show (c * 536870912 - 4503599627370496) / 536870912 = c - 8388608; omega] at this
    exact this
end BITM
