/-! the class: bits of numbers that are not negative -/
theorem bq_min : FP.Core.b64.qmin = -1074 := by decide
theorem bq_max : FP.Core.b64.qmax = 971 := by decide
theorem fq_min : FP.Core.b32.qmin = -149 := by decide
theorem fq_max : FP.Core.b32.qmax = 104 := by decide
/-- a normal positive double, by its value -/
def nrm (c : Nat) (k : Int) (x : UInt64) : Prop := FP.Core.val64 x = .fin false c k ∧ 4503599627370496 ≤ c ∧ c < 9007199254740992
theorem nrm_fits {c : Nat} {k : Int} (h1 : 4503599627370496 ≤ c) (h2 : c < 9007199254740992) (hk : -1074 ≤ k) (hk2 : k ≤ 971) : FP.Core.fits FP.Core.b64 (.fin false c k) := by
  refine ⟨?_, ?_, ?_, Or.inr ?_⟩
  · exact h2
  · rw [bq_min]; exact hk
  · rw [bq_max]; exact hk2
  · exact h1
theorem nrm_nan {c : Nat} {k : Int} {x : UInt64} (h : nrm c k x) : FP.dIsNaN x = false := (FP.Core.notNaN_iff x).mpr (by rw [h.1]; exact fun e => by cases e)
theorem v64_2 : FP.Core.val64 4611686018427387904 = .fin false 4503599627370496 (-51) := by decide +kernel
theorem v64_1 : FP.Core.val64 4607182418800017408 = .fin false 4503599627370496 (-52) := by decide +kernel
theorem v64_0 : FP.Core.val64 0 = .fin false 0 (-1074) := by decide +kernel
theorem quo_fin (f : FP.Core.Fmt) {c d : Nat} {q r : Int} (hd : ¬ d = 0) : FP.Core.quotient f (.fin false c q) (.fin false d r) = FP.Core.roundRatio f false c d (q - r) := if_neg hd
theorem nrm_mul2 {c : Nat} {k : Int} {x : UInt64} (h : nrm c k x) (hk : -1074 ≤ k) (hk2 : k < 971) : nrm c (k + 1) (FP.dmul x 4611686018427387904) := by
  obtain ⟨h0, h1, h2⟩ := h
  refine ⟨?_, h1, h2⟩
  rw [FP.dmul_core, FP.Core.val64_dmul, h0, v64_2]
  show FP.Core.roundRatio FP.Core.b64 false (c * 4503599627370496) 1 (k + -51) = _
  refine FP.Core.roundRatio_exact FP.Core.good_b64 (by decide) (nrm_fits h1 h2 (by omega) (by omega)) ?_
  rw [show (k + -51 - (k + 1)).toNat = 0 by omega, show (k + 1 - (k + -51)).toNat = 52 by omega]
  omega
theorem nrm_div2 {c : Nat} {k : Int} {x : UInt64} (h : nrm c k x) (hk : -1074 < k) (hk2 : k ≤ 971) : nrm c (k - 1) (FP.ddiv x 4611686018427387904) := by
  obtain ⟨h0, h1, h2⟩ := h
  refine ⟨?_, h1, h2⟩
  rw [FP.ddiv_core, FP.Core.val64_ddiv, h0, v64_2, quo_fin _ (by decide)]
  refine FP.Core.roundRatio_exact FP.Core.good_b64 (by decide) (nrm_fits h1 h2 (by omega) (by omega)) ?_
  rw [show (k - -51 - (k - 1)).toNat = 52 by omega, show (k - 1 - (k - -51)).toNat = 0 by omega]
  omega
theorem cmp_lt {a b : Int} (h : a < b) : compare a b = .lt := by
  show (if a < b then Ordering.lt else if a = b then .eq else .gt) = .lt
  rw [if_pos h]
theorem cmp_nlt {a b : Int} (h : ¬ a < b) : compare a b ≠ .lt := by
  show (if a < b then Ordering.lt else if a = b then .eq else .gt) ≠ .lt
  rw [if_neg h]
  split <;> exact fun e => by cases e
theorem cmp_gt {a b : Int} (h : b < a) : compare a b = .gt := by
  show (if a < b then Ordering.lt else if a = b then .eq else .gt) = .gt
  rw [if_neg (by omega), if_neg (by omega)]
theorem nrm_lt {c : Nat} {k q0 : Int} {x y : UInt64} (h : nrm c k x) (hy : FP.Core.val64 y = .fin false 4503599627370496 q0) (hk : k < q0) : FP.dcmp x y = some .lt := by
  obtain ⟨h0, h1, h2⟩ := h
  show FP.Core.order (FP.Core.val64 x) (FP.Core.val64 y) = some .lt
  rw [h0, hy]
  show some (compare ((FP.Core.inUnits c k (min k q0) : Nat) : Int) ((FP.Core.inUnits 4503599627370496 q0 (min k q0) : Nat) : Int)) = some .lt
  rw [show min k q0 = k by omega]
  unfold FP.Core.inUnits
  obtain ⟨t, ht⟩ : ∃ t, (q0 - k).toNat = t + 1 := ⟨(q0 - k).toNat - 1, by omega⟩
  have hp := Nat.two_pow_pos t
  rw [show (k - k).toNat = 0 by omega, ht, Nat.pow_succ]
  refine congrArg some (cmp_lt ?_)
  have : c * 2 ^ 0 < 4503599627370496 * (2 ^ t * 2) := by
    have h3 : 4503599627370496 * 2 * 1 ≤ 4503599627370496 * 2 * 2 ^ t := Nat.mul_le_mul_left _ hp
    have h4 : 4503599627370496 * (2 ^ t * 2) = 4503599627370496 * 2 * 2 ^ t := by rw [Nat.mul_assoc, Nat.mul_comm (2 ^ t) 2]
    omega
  exact Int.ofNat_lt.mpr this
theorem nrm_ge {c : Nat} {k q0 : Int} {x y : UInt64} (h : nrm c k x) (hy : FP.Core.val64 y = .fin false 4503599627370496 q0) (hk : q0 ≤ k) : ∃ o, FP.dcmp x y = some o ∧ o ≠ .lt := by
  obtain ⟨h0, h1, h2⟩ := h
  refine ⟨compare ((FP.Core.inUnits c k (min k q0) : Nat) : Int) ((FP.Core.inUnits 4503599627370496 q0 (min k q0) : Nat) : Int), ?_, ?_⟩
  · show FP.Core.order (FP.Core.val64 x) (FP.Core.val64 y) = _
    rw [h0, hy]
    rfl
  · refine cmp_nlt (fun h3 => ?_)
    rw [show min k q0 = q0 by omega] at h3
    unfold FP.Core.inUnits at h3
    have h4 := Int.ofNat_lt.mp h3
    rw [show (q0 - q0).toNat = 0 by omega] at h4
    have hp : c * 1 ≤ c * 2 ^ (k - q0).toNat := Nat.mul_le_mul_left _ (Nat.two_pow_pos _)
    omega
theorem nrm_pos {c : Nat} {k : Int} {x : UInt64} (h : nrm c k x) : FP.dcmp x 0 = some .gt := by
  obtain ⟨h0, h1, h2⟩ := h
  show FP.Core.order (FP.Core.val64 x) (FP.Core.val64 0) = some .gt
  rw [h0, v64_0]
  show some (compare ((FP.Core.inUnits c k (min k (-1074)) : Nat) : Int) ((FP.Core.inUnits 0 (-1074) (min k (-1074)) : Nat) : Int)) = some .gt
  unfold FP.Core.inUnits
  refine congrArg some (cmp_gt ?_)
  rw [Nat.zero_mul]
  have hp := Nat.two_pow_pos (k - min k (-1074)).toNat
  exact Int.ofNat_lt.mpr (Nat.mul_pos (by omega) hp)
/-- a whole number with its leading digit in place -/
theorem norm_j {m : Nat} (h0 : 0 < m) (h : m < 9007199254740992) : ∃ j, j ≤ 52 ∧ 4503599627370496 ≤ m * 2 ^ j ∧ m * 2 ^ j < 9007199254740992 := by
  have a1 : 2 ^ m.log2 ≤ m := Nat.log2_self_le (by omega)
  have a2 : m < 2 ^ (m.log2 + 1) := Nat.lt_log2_self
  have hl : m.log2 ≤ 52 := by
    refine Nat.not_lt.mp (fun q => ?_)
    have : 2 ^ 53 ≤ 2 ^ m.log2 := Nat.pow_le_pow_right (by decide) q
    omega
  refine ⟨52 - m.log2, by omega, ?_, ?_⟩
  · have : 2 ^ m.log2 * 2 ^ (52 - m.log2) ≤ m * 2 ^ (52 - m.log2) := Nat.mul_le_mul_right _ a1
    rw [← Nat.pow_add, show m.log2 + (52 - m.log2) = 52 by omega] at this
    omega
  · have : m * 2 ^ (52 - m.log2) < 2 ^ (m.log2 + 1) * 2 ^ (52 - m.log2) := Nat.mul_lt_mul_of_pos_right a2 (Nat.two_pow_pos _)
    rw [← Nat.pow_add, show m.log2 + 1 + (52 - m.log2) = 53 by omega] at this
    omega
theorem rr_whole {m : Nat} {e : Int} (h0 : 0 < m) (h : m < 9007199254740992) (he : -1000 ≤ e) (he2 : e ≤ 900) : ∃ j : Nat, j ≤ 52 ∧ 4503599627370496 ≤ m * 2 ^ j ∧ m * 2 ^ j < 9007199254740992 ∧ FP.Core.roundRatio FP.Core.b64 false m 1 e = .fin false (m * 2 ^ j) (e - j) := by
  obtain ⟨j, j1, j2, j3⟩ := norm_j h0 h
  refine ⟨j, j1, j2, j3, FP.Core.roundRatio_exact FP.Core.good_b64 (by decide) (nrm_fits j2 j3 (by omega) (by omega)) ?_⟩
  rw [show (e - (e - (j : Int))).toNat = j by omega, show (e - (j : Int) - e).toNat = 0 by omega]
  simp
theorem sub_one {c : Nat} {x : UInt64} (h : nrm c (-52) x) : FP.Core.val64 (FP.dsub x 4607182418800017408) = FP.Core.roundRatio FP.Core.b64 false (c - 4503599627370496) 1 (-52) := by
  obtain ⟨h0, h1, h2⟩ := h
  rw [FP.dsub_core, FP.Core.val64_dsub, h0, v64_1]
  show FP.Core.roundRatio FP.Core.b64 (FP.Core.sumSign false true (FP.Core.sumUnits false c (-52) true 4503599627370496 (-52) (-52))) (FP.Core.sumUnits false c (-52) true 4503599627370496 (-52) (-52)).natAbs 1 (-52) = _
  have e : FP.Core.sumUnits false c (-52) true 4503599627370496 (-52) (-52) = ((c - 4503599627370496 : Nat) : Int) := by
    show ((c * 2 ^ 0 : Nat) : Int) + -((4503599627370496 * 2 ^ 0 : Nat) : Int) = _
    omega
  have e2 : FP.Core.sumSign false true (FP.Core.sumUnits false c (-52) true 4503599627370496 (-52) (-52)) = false := by
    rw [e]
    show (if ((c - 4503599627370496 : Nat) : Int) = 0 then (false && true) else decide (((c - 4503599627370496 : Nat) : Int) < 0)) = false
    split
    · rfl
    · exact decide_eq_false (by omega)
  rw [e2, e, Int.natAbs_natCast]
theorem i64_nat (v : Nat) : Int64.ofInt (v : Int) = Int64.ofNat v := Int64.ofInt_eq_ofNat
theorem toL_fin {C : Nat} {Q : Int} {v : Nat} (hv : C * 2 ^ Q.toNat / 2 ^ (-Q).toNat = v) (h : v < 2 ^ 62) : FP.Core.toL (.fin false C Q) = Int64.ofNat v := by
  show Int64.ofInt (max (-2 ^ 63) (min (2 ^ 63 - 1) ((C * 2 ^ Q.toNat / 2 ^ (-Q).toNat : Nat) : Int))) = _
  rw [hv, ← i64_nat]
  congr 1
  omega
theorem mant {c pl : Nat} {x P : UInt64} (h : nrm c (-52) x) (hpl : pl ≤ 52) (hP : FP.Core.val64 P = .fin false 4503599627370496 ((pl : Int) - 52)) : FP.dIsNaN (FP.dsub x 4607182418800017408) = false ∧ FP.dIsNaN (FP.dmul (FP.dsub x 4607182418800017408) P) = false ∧ FP.d2l (FP.dmul (FP.dsub x 4607182418800017408) P) = Int64.ofNat ((c - 4503599627370496) / 2 ^ (52 - pl)) := by
  have hs := sub_one h
  obtain ⟨h0, h1, h2⟩ := h
  by_cases hm : c - 4503599627370496 = 0
  · have e1 : FP.Core.val64 (FP.dsub x 4607182418800017408) = .fin false 0 (-1074) := by
      rw [hs, hm, ← bq_min]
      exact if_pos rfl
    have e2 : FP.Core.val64 (FP.dmul (FP.dsub x 4607182418800017408) P) = .fin false 0 (-1074) := by
      rw [FP.dmul_core, FP.Core.val64_dmul, e1, hP, ← bq_min]
      show FP.Core.roundRatio FP.Core.b64 false (0 * 4503599627370496) 1 _ = _
      rw [Nat.zero_mul]
      exact if_pos rfl
    refine ⟨(FP.Core.notNaN_iff _).mpr (by rw [e1]; exact fun e => by cases e), (FP.Core.notNaN_iff _).mpr (by rw [e2]; exact fun e => by cases e), ?_⟩
    show FP.Core.toL (FP.Core.val64 _) = _
    rw [e2, hm, Nat.zero_div]
    exact toL_fin (by rw [Nat.zero_mul, Nat.zero_div]) (by decide)
  · obtain ⟨j, j1, j2, j3, j4⟩ := rr_whole (e := -52) (Nat.pos_of_ne_zero hm) (show c - 4503599627370496 < 9007199254740992 by omega) (by omega) (by omega)
    have e1 : FP.Core.val64 (FP.dsub x 4607182418800017408) = .fin false ((c - 4503599627370496) * 2 ^ j) (-52 - j) := hs.trans j4
    have e2 : FP.Core.val64 (FP.dmul (FP.dsub x 4607182418800017408) P) = .fin false ((c - 4503599627370496) * 2 ^ j) ((pl : Int) - 52 - j) := by
      rw [FP.dmul_core, FP.Core.val64_dmul, e1, hP]
      show FP.Core.roundRatio FP.Core.b64 false ((c - 4503599627370496) * 2 ^ j * 4503599627370496) 1 (-52 - (j : Int) + ((pl : Int) - 52)) = _
      refine FP.Core.roundRatio_exact FP.Core.good_b64 (by decide) (nrm_fits j2 j3 (by omega) (by omega)) ?_
      rw [show (-52 - (j : Int) + ((pl : Int) - 52) - ((pl : Int) - 52 - j)).toNat = 0 by omega, show ((pl : Int) - 52 - j - (-52 - (j : Int) + ((pl : Int) - 52))).toNat = 52 by omega]
      omega
    refine ⟨(FP.Core.notNaN_iff _).mpr (by rw [e1]; exact fun e => by cases e), (FP.Core.notNaN_iff _).mpr (by rw [e2]; exact fun e => by cases e), ?_⟩
    show FP.Core.toL (FP.Core.val64 _) = _
    rw [e2]
    refine toL_fin ?_ ?_
    · rw [show ((pl : Int) - 52 - j).toNat = 0 by omega, show (-((pl : Int) - 52 - j)).toNat = (52 - pl) + j by omega, Nat.pow_zero, Nat.mul_one, Nat.pow_add]
      exact Nat.mul_div_mul_right _ _ (Nat.two_pow_pos j)
    · have := Nat.div_le_self (c - 4503599627370496) (2 ^ (52 - pl))
      omega
/-- bits by fields -/
theorem bits64 {c : Nat} {k : Int} {x : UInt64} (h : nrm c k x) (hk : -1074 ≤ k) : x.toInt64 = Int64.ofNat ((k + 1075).toNat * 4503599627370496 + (c - 4503599627370496)) := by
  obtain ⟨h0, h1, h2⟩ := h
  have e : x = FP.Core.of64 (.fin false c k) := by
    rw [← h0]
    exact (FP.Core.of64_val64 (by rw [h0]; exact fun e => by cases e)).symm
  rw [e]
  show Int64.ofNat (if c < 4503599627370496 then _ else FP.Core.assemble FP.Core.b64 false ((k - FP.Core.b64.qmin).toNat + 1) (c - 4503599627370496)) = _
  rw [if_neg (by omega), bq_min]
  show Int64.ofNat ((0 * 2048 + ((k - -1074).toNat + 1)) * 4503599627370496 + (c - 4503599627370496)) = _
  rw [show 0 * 2048 + ((k - -1074).toNat + 1) = (k + 1075).toNat by omega]
def nrf (c : Nat) (k : Int) (y : UInt32) : Prop := FP.Core.val32 y = .fin false c k ∧ 8388608 ≤ c ∧ c < 16777216
theorem nI_64 {n : Nat} (h : n < 2 ^ 31) : (nI n).toInt64 = Int64.ofNat n := by
  apply Int64.toInt_inj.mp
  rw [Int32.toInt_toInt64, Int64.toInt_ofNat_of_lt (by omega)]
  show (Int32.ofNat n).toInt = n
  exact Int32.toInt_ofNat_of_lt h
theorem bits32 {c : Nat} {k : Int} {y : UInt32} (h : nrf c k y) (hk : -149 ≤ k) (hk2 : k ≤ 20) : y.toInt32.toInt64 = Int64.ofNat ((k + 150).toNat * 8388608 + (c - 8388608)) := by
  obtain ⟨h0, h1, h2⟩ := h
  have e : y = FP.Core.of32 (.fin false c k) := by
    rw [← h0]
    exact (FP.Core.of32_val32 (by rw [h0]; exact fun e => by cases e)).symm
  rw [e]
  show (nI (if c < 8388608 then _ else FP.Core.assemble FP.Core.b32 false ((k - FP.Core.b32.qmin).toNat + 1) (c - 8388608))).toInt64 = _
  rw [if_neg (by omega), fq_min]
  show (nI ((0 * 256 + ((k - -149).toNat + 1)) * 8388608 + (c - 8388608))).toInt64 = _
  rw [show 0 * 256 + ((k - -149).toNat + 1) = (k + 150).toNat by omega, nI_64 (by omega)]
theorem nrf_d {c : Nat} {k : Int} {y : UInt32} (h : nrf c k y) (hk : -149 ≤ k) (hk2 : k ≤ 20) : nrm (c * 536870912) (k - 29) (FP.f2d y) := by
  obtain ⟨h0, h1, h2⟩ := h
  have hn : FP.fIsNaN y = false := (FP.Core.notNaN_iff32 y).mpr (by rw [h0]; exact fun e => by cases e)
  refine ⟨?_, by omega, by omega⟩
  rw [FP.f2d_core hn, FP.Core.val64_f2d, h0]
  show FP.Core.roundRatio FP.Core.b64 false c 1 k = _
  refine FP.Core.roundRatio_exact FP.Core.good_b64 (by decide) (nrm_fits (by omega) (by omega) (by omega) (by omega)) ?_
  rw [show (k - (k - 29)).toNat = 29 by omega, show (k - 29 - k).toNat = 0 by omega]
  omega
/-- quotients -/
theorem rr_norm {f : FP.Core.Fmt} (hf : FP.Core.Good f) {A B : Nat} {e : Int} (hA : 0 < A) (hB : 0 < B) (h1 : f.qmin < FP.Core.quantum f A B e) (h2 : FP.Core.quantum f A B e + 1 ≤ f.qmax) : ∃ c k, FP.Core.roundRatio f false A B e = .fin false c k ∧ f.tails ≤ c ∧ c < 2 ^ f.p ∧ FP.Core.quantum f A B e ≤ k ∧ k ≤ FP.Core.quantum f A B e + 1 := by
  have t1 := FP.Core.two_tails hf
  have t2 := FP.Core.tails_two hf
  have hge : f.tails ≤ FP.Core.nearest (FP.Core.unitsNum A e (FP.Core.quantum f A B e)) (FP.Core.unitsDen B e (FP.Core.quantum f A B e)) := by
    rcases FP.Core.quantum_not_below (f := f) hA hB e with h | h
    · omega
    · refine FP.Core.nearest_ge (FP.Core.unitsDen_pos hB ..) ?_
      rw [show (f.p : Int) - 1 = ((f.p - 1 : Nat) : Int) by have := hf.2; omega, ← FP.Core.units_below] at h
      exact Nat.le_of_not_lt h
  unfold FP.Core.roundRatio FP.Core.roundAt FP.Core.settle FP.Core.bound
  rw [if_neg (by omega)]
  split
  · rename_i hlt
    rw [if_pos (by omega)]
    exact ⟨_, _, rfl, hge, hlt, Int.le_refl _, by omega⟩
  · exact ⟨_, _, rfl, Nat.le_refl _, by omega, by omega, Int.le_refl _⟩
theorem lead_b {A B : Nat} {b : Nat} (hb : 0 < b) (hA : b ≤ A) (hA2 : A < 2 * b) (hB : b ≤ B) (hB2 : B < 2 * b) : -1 ≤ FP.Core.leading A B ∧ FP.Core.leading A B ≤ 0 := by
  obtain ⟨l1, l2⟩ := FP.Core.leading_spec (A := A) (B := B) (by omega) (by omega)
  constructor
  · have : ¬ FP.Core.Below A B (-1) := by
      show ¬ A * 2 ^ 1 < B * 2 ^ 0
      omega
    have := FP.Core.lt_of_below this l2
    omega
  · have : FP.Core.Below A B 1 := by
      show A * 2 ^ 0 < B * 2 ^ 1
      omega
    have := FP.Core.lt_of_below l1 this
    omega
theorem i2d_n {n : Nat} (h0 : 0 < n) (h : n < 2 ^ 31) : ∃ j : Nat, j ≤ 52 ∧ 4503599627370496 ≤ n * 2 ^ j ∧ n * 2 ^ j < 9007199254740992 ∧ FP.Core.val64 (FP.i2d (nI n)) = .fin false (n * 2 ^ j) (-(j : Int)) := by
  obtain ⟨j, j1, j2, j3, j4⟩ := rr_whole (e := 0) h0 (by omega) (by omega) (by omega)
  refine ⟨j, j1, j2, j3, ?_⟩
  rw [FP.i2d_core, FP.Core.val64_i2d, show (nI n).toInt = (n : Int) from Int32.toInt_ofNat_of_lt h]
  show FP.Core.roundRatio FP.Core.b64 (decide ((n : Int) < 0)) (n : Int).natAbs 1 0 = _
  rw [decide_eq_false (by omega), Int.natAbs_natCast, j4, Int.zero_sub]
theorem full_n {n : Nat} (h0 : 0 < n) (h : n < 2 ^ 31) : ∃ c k, nrm c k (FP.ddiv (FP.i2d (nI n)) 4656581277212737536) ∧ -64 ≤ k ∧ k ≤ 0 := by
  obtain ⟨j, j1, j2, j3, j4⟩ := i2d_n h0 h
  obtain ⟨l1, l2⟩ := lead_b (b := 4503599627370496) (A := n * 2 ^ j) (B := 8866461766385664) (by decide) j2 (by omega) (by decide) (by decide)
  have hq : FP.Core.quantum FP.Core.b64 (n * 2 ^ j) 8866461766385664 (-(j : Int) - -42) = FP.Core.leading (n * 2 ^ j) 8866461766385664 + (-(j : Int) - -42) - 52 := by
    show max FP.Core.b64.qmin (FP.Core.leading (n * 2 ^ j) 8866461766385664 + (-(j : Int) - -42) - 52) = _
    rw [bq_min]
    omega
  obtain ⟨c, k, c1, c2, c3, c4, c5⟩ := rr_norm FP.Core.good_b64 (A := n * 2 ^ j) (B := 8866461766385664) (e := -(j : Int) - -42) (by omega) (by decide) (by rw [hq, bq_min]; omega) (by rw [hq, bq_max]; omega)
  rw [hq] at c4 c5
  refine ⟨c, k, ⟨?_, c2, c3⟩, by omega, by omega⟩
  rw [FP.ddiv_core, FP.Core.val64_ddiv, j4, show FP.Core.val64 4656581277212737536 = .fin false 8866461766385664 (-42) by decide +kernel]
  rw [quo_fin _ (by decide), c1]
theorem i2f_n {n : Nat} (h0 : 0 < n) (h : n < 2 ^ 31) : ∃ c k, FP.Core.val32 (FP.i2f (nI n)) = .fin false c k ∧ 8388608 ≤ c ∧ c < 16777216 ∧ -23 ≤ k ∧ k ≤ 9 := by
  obtain ⟨l1, l2⟩ := FP.Core.leading_spec (A := n) (B := 1) h0 (by decide)
  have b1 : 0 ≤ FP.Core.leading n 1 := by
    have : ¬ FP.Core.Below n 1 0 := by
      show ¬ n * 2 ^ 0 < 1 * 2 ^ 0
      omega
    have := FP.Core.lt_of_below this l2
    omega
  have b2 : FP.Core.leading n 1 < 31 := by
    have : FP.Core.Below n 1 31 := by
      show n * 2 ^ 0 < 1 * 2 ^ 31
      omega
    exact FP.Core.lt_of_below l1 this
  have hq : FP.Core.quantum FP.Core.b32 n 1 0 = FP.Core.leading n 1 + 0 - 23 := by
    show max FP.Core.b32.qmin (FP.Core.leading n 1 + 0 - 23) = _
    rw [fq_min]
    omega
  obtain ⟨c, k, c1, c2, c3, c4, c5⟩ := rr_norm FP.Core.good_b32 (A := n) (B := 1) (e := 0) h0 (by decide) (by rw [hq, fq_min]; omega) (by rw [hq, fq_max]; omega)
  rw [hq] at c4 c5
  refine ⟨c, k, ?_, c2, c3, by omega, by omega⟩
  rw [FP.i2f_core, FP.Core.val32_i2f, show (nI n).toInt = (n : Int) from Int32.toInt_ofNat_of_lt h]
  show FP.Core.roundRatio FP.Core.b32 (decide ((n : Int) < 0)) (n : Int).natAbs 1 0 = _
  rw [decide_eq_false (by omega), Int.natAbs_natCast, c1]
theorem mean_n {n : Nat} (h0 : 0 < n) (h : n < 2 ^ 31) : ∃ c k, nrf c k (FP.fdiv (FP.i2f (nI n)) 1118306304) ∧ -31 ≤ k ∧ k ≤ 9 := by
  obtain ⟨c0, k0, j4, j2, j3, j5, j6⟩ := i2f_n h0 h
  obtain ⟨l1, l2⟩ := lead_b (b := 8388608) (A := c0) (B := 11010048) (by decide) j2 (by omega) (by decide) (by decide)
  have hq : FP.Core.quantum FP.Core.b32 c0 11010048 (k0 - -17) = FP.Core.leading c0 11010048 + (k0 - -17) - 23 := by
    show max FP.Core.b32.qmin (FP.Core.leading c0 11010048 + (k0 - -17) - 23) = _
    rw [fq_min]
    omega
  obtain ⟨c, k, c1, c2, c3, c4, c5⟩ := rr_norm FP.Core.good_b32 (A := c0) (B := 11010048) (e := k0 - -17) (by omega) (by decide) (by rw [hq, fq_min]; omega) (by rw [hq, fq_max]; omega)
  rw [hq] at c4 c5
  refine ⟨c, k, ⟨?_, c2, c3⟩, by omega, by omega⟩
  rw [FP.fdiv_core, FP.Core.val32_fdiv, j4, show FP.Core.val32 1118306304 = .fin false 11010048 (-17) by decide +kernel]
  rw [quo_fin _ (by decide), c1]
