/-! the law's own diary in memory: n at 233, r at 234, d at 235 -/
def lM (M0 : zM) (N R D : Nat → Nat) : zM := fun q => bif Nat.beq q 233 then some (iA 13 N) else bif Nat.beq q 234 then some (iA 44 R) else bif Nat.beq q 235 then some (iA 56 D) else M0 q
theorem kq_hi {q : Nat} (h : 233 ≤ q) : kq q = 99 := by
  unfold kq
  rw [show Nat.ble 233 q = true from Nat.ble_eq_true_of_le h]
  rfl
section LM
variable {M0 : zM} {N R D N' R' D' : Nat → Nat} {Y Y' : Nat → Nat → Nat}
theorem lM_N : cM (lM M0 N R D) Y 233 = some (iA 13 N) := by rw [cM_o (kq_hi (by omega))]; rfl
theorem lM_R : cM (lM M0 N R D) Y 234 = some (iA 44 R) := by rw [cM_o (kq_hi (by omega))]; rfl
theorem lM_D : cM (lM M0 N R D) Y 235 = some (iA 56 D) := by rw [cM_o (kq_hi (by omega))]; rfl
theorem lM_o {q : Nat} (h : 236 ≤ q) : cM (lM M0 N R D) Y q = M0 q := by
  rw [cM_o (kq_hi (by omega))]
  unfold lM
  rw [beq_f (show q ≠ 233 by omega), beq_f (show q ≠ 234 by omega), beq_f (show q ≠ 235 by omega)]
  rfl
theorem cM_hi {q : Nat} (h : 233 ≤ q) : cM M0 Y q = M0 q := cM_o (kq_hi h)
theorem zu_hi {q : Nat} {e : zE} (h : 233 ≤ q) : zu (cM M0 Y) q e = cM (zu M0 q e) Y := by
  funext a
  by_cases ha : a = q
  · subst ha
    rw [zu_s, cM_hi h, zu_s]
  · rw [zu_n _ _ ha]
    simp only [cM, zu_n _ _ ha]
theorem zu_lN : zu (cM (lM M0 N R D) Y) 233 (iA 13 N') = cM (lM M0 N' R D) Y := by
  rw [zu_hi (by omega)]
  congr 1
  funext a
  by_cases ha : a = 233
  · subst ha; rw [zu_s]; rfl
  · rw [zu_n _ _ ha]; unfold lM; rw [beq_f ha]; rfl
theorem zu_lR : zu (cM (lM M0 N R D) Y) 234 (iA 44 R') = cM (lM M0 N R' D) Y := by
  rw [zu_hi (by omega)]
  congr 1
  funext a
  by_cases ha : a = 234
  · subst ha; rw [zu_s]; rfl
  · rw [zu_n _ _ ha]; unfold lM; rw [beq_f ha]; rfl
theorem zu_lD : zu (cM (lM M0 N R D) Y) 235 (iA 56 D') = cM (lM M0 N R D') Y := by
  rw [zu_hi (by omega)]
  congr 1
  funext a
  by_cases ha : a = 235
  · subst ha; rw [zu_s]; rfl
  · rw [zu_n _ _ ha]; unfold lM; rw [beq_f ha]; rfl
theorem zu_lT {t : Nat} {e : zE} (ht : 236 ≤ t) : zu (cM (lM M0 N R D) Y) t e = cM (lM (zu M0 t e) N R D) Y := by
  rw [zu_hi (by omega)]
  congr 1
  funext a
  by_cases ha : a = t
  · subst ha
    rw [zu_s]
    unfold lM
    rw [beq_f (show a ≠ 233 by omega), beq_f (show a ≠ 234 by omega), beq_f (show a ≠ 235 by omega), zu_s]
    rfl
  · rw [zu_n _ _ ha]; unfold lM; rw [zu_n _ _ ha]
theorem nf_l {n : Nat} (hn : 236 ≤ n) : nf n (cM (lM M0 N R D) Y) (cM (lM M0 N' R' D') Y') := fun q hq h => by
  rw [lM_o (by omega)] at h ⊢
  exact h
theorem nf_e {n : Nat} {M M1 : zM} (h : M1 = M) : nf n M M1 := h ▸ nf_r n M
/-- arrays that nobody needs any more -/
theorem lM_drop {t : Nat} {e : zE} (ht : 236 ≤ t) (h0 : M0 t = none) : ∀ v f, cM (lM M0 N R D) Y v = some f → cM (lM (zu M0 t e) N R D) Y v = some f := fun v f h => by
  rw [← zu_lT ht]
  rw [zu_n]
  · exact h
  · rintro rfl
    rw [lM_o ht, h0] at h
    cases h
variable {mi : zI} {d kc ks : Nat} {nx : Option Nat} {pc : Nat} {L : List (Nat × Value)} {S : List Value} {F : zP} {i v : Nat}
theorem g_lN (hd : decode mi.2.2.1 pc = .ok (.iaload, 1)) (hi : i < 13) (kk : G mi d kc ks nx (pc + 1) L (.int (nI (N i)) :: S) (cM (lM M0 N R D) Y) F) : G mi d kc ks nx pc L (.int (nI i) :: .ref 233 :: S) (cM (lM M0 N R D) Y) F := g_iald_n hd lM_N hi (by decide) kk
theorem g_lR (hd : decode mi.2.2.1 pc = .ok (.iaload, 1)) (hi : i < 44) (kk : G mi d kc ks nx (pc + 1) L (.int (nI (R i)) :: S) (cM (lM M0 N R D) Y) F) : G mi d kc ks nx pc L (.int (nI i) :: .ref 234 :: S) (cM (lM M0 N R D) Y) F := g_iald_n hd lM_R hi (by decide) kk
theorem g_lD (hd : decode mi.2.2.1 pc = .ok (.iaload, 1)) (hi : i < 56) (kk : G mi d kc ks nx (pc + 1) L (.int (nI (D i)) :: S) (cM (lM M0 N R D) Y) F) : G mi d kc ks nx pc L (.int (nI i) :: .ref 235 :: S) (cM (lM M0 N R D) Y) F := g_iald_n hd lM_D hi (by decide) kk
theorem g_sN (hd : decode mi.2.2.1 pc = .ok (.iastore, 1)) (hi : i < 13) (kk : G mi d kc ks nx (pc + 1) L S (cM (lM M0 (uN N i v) R D) Y) F) : G mi d kc ks nx pc L (.int (nI v) :: .int (nI i) :: .ref 233 :: S) (cM (lM M0 N R D) Y) F := g_iast_n hd lM_N hi (by decide) (by decide) (g_m zu_lN kk)
theorem g_sR (hd : decode mi.2.2.1 pc = .ok (.iastore, 1)) (hi : i < 44) (kk : G mi d kc ks nx (pc + 1) L S (cM (lM M0 N (uN R i v) D) Y) F) : G mi d kc ks nx pc L (.int (nI v) :: .int (nI i) :: .ref 234 :: S) (cM (lM M0 N R D) Y) F := g_iast_n hd lM_R hi (by decide) (by decide) (g_m zu_lR kk)
theorem g_sD (hd : decode mi.2.2.1 pc = .ok (.iastore, 1)) (hi : i < 56) (kk : G mi d kc ks nx (pc + 1) L S (cM (lM M0 N R (uN D i v)) Y) F) : G mi d kc ks nx pc L (.int (nI v) :: .int (nI i) :: .ref 235 :: S) (cM (lM M0 N R D) Y) F := g_iast_n hd lM_D hi (by decide) (by decide) (g_m zu_lD kk)
end LM
/-! the smallest of the law's methods -/
def lo31 (x : Int32) : Nat := (x.toBitVec &&& 2147483647#32).toNat
def lo (x : Int32) (n : Nat) : Nat := lo31 x % n
theorem lo31_e (x : Int32) : x &&& 2147483647 = nI (lo31 x) := by
  apply Int32.toBitVec_inj.mp
  show x.toBitVec &&& 2147483647#32 = BitVec.ofNat 32 (lo31 x)
  simp [lo31]
theorem lo31_lt (x : Int32) : lo31 x < 2 ^ 31 := by
  unfold lo31
  rw [BitVec.toNat_and]
  exact Nat.lt_of_le_of_lt Nat.and_le_right (by decide)
theorem lo_lt (x : Int32) {n : Nat} (hn : 0 < n) : lo x n < n := Nat.mod_lt _ hn
abbrev mLc (L : Nat) (xs : Nat → Int32) : zI := (yL_cell, RL, cL_cell, 2, some .int, [], some (L, xs))
theorem oLc (L : Nat) (xs : Nat → Int32) : zok (mLc L xs) 2 := oL_cell
theorem pLc (L : Nat) (xs : Nat → Int32) : zocS (mLc L xs) := ⟨rfl, pL_cell.2⟩
def cel (L : Nat) (xs : Nat → Int32) (k : Nat) : Int32 := if k < L then xs k else 2051824481 * nI (k + 1)
section LH
variable {M : zM} {n0 : Nat}
theorem kL_cell {L : Nat} {xs : Nat → Int32} {k : Nat} (hL : L ≤ 260) (hk : k < 1000) : Cn (mLc L xs) 0 0 0 (some n0) [.ref 0, .int (nI k)] M (zqI (cel L xs k) (fun M' => M' = M)) := by
  refine g_iload_n dL_cell_0 rfl ?_
  refine g_aload_n dL_cell_1 rfl ?_
  refine g_slen (N := L) (xs := xs) rfl dL_cell_2 ?_
  refine g_icmp_ge_n (tgt := 12) dL_cell_3 (by decide) (by omega) (by omega) (fun h => ?_) (fun h => ?_)
  · refine g_ldci (v := 2051824481) dL_cell_12 q412 ?_
    refine g_iload_n dL_cell_14 rfl ?_
    refine g_iconst (v := nI 1) dL_cell_15 (by decide) ?_
    refine g_iadd_n dL_cell_16 ?_
    refine g_imul dL_cell_17 ?_
    refine g_ireturn dL_cell_18 rfl rfl ⟨?_, rfl⟩
    unfold cel
    rw [if_neg (by omega)]
  · refine g_aload_n dL_cell_6 rfl ?_
    refine g_iload_n dL_cell_7 rfl ?_
    refine g_sld (N := L) (xs := xs) rfl dL_cell_8 h (by omega) ?_
    refine g_goto (tgt := 18) dL_cell_9 (by decide) ?_
    refine g_ireturn dL_cell_18 rfl rfl ⟨?_, rfl⟩
    unfold cel
    rw [if_pos h]
theorem kL_low {x : Int32} {n : Nat} (h0 : 0 < n) (hn : n < 2 ^ 31) : Cn mL_low 0 0 0 (some n0) [.int x, .int (nI n)] M (zqI (nI (lo x n)) (fun M' => M' = M)) := by
  have hx := lo31_lt x
  refine g_iload_n dL_low_0 rfl ?_
  refine g_ldci (v := 2147483647) dL_low_1 q416 ?_
  refine g_iand dL_low_3 ?_
  rw [lo31_e]
  refine g_iload_n dL_low_4 rfl ?_
  refine g_irem_n dL_low_5 (by omega) (by omega) (by omega) ?_
  exact g_ireturn dL_low_6 rfl rfl ⟨rfl, rfl⟩
theorem kL_bits {f t : Nat} (hf : f ≤ t) (ht : t < 31) : Cn mL_bits 0 0 0 (some n0) [.int (nI f), .int (nI t)] M (zqI (nI (2 ^ t - 2 ^ f)) (fun M' => M' = M)) := by
  have h1 : 2 ^ f ≤ 2 ^ t := Nat.pow_le_pow_right (by decide) hf
  refine g_iconst (v := nI 1) dL_bits_0 (by decide) ?_
  refine g_iload_n dL_bits_1 rfl ?_
  refine g_ishl_n dL_bits_2 (by omega) ?_
  refine g_iconst (v := nI 1) dL_bits_3 (by decide) ?_
  refine g_iload_n dL_bits_4 rfl ?_
  refine g_ishl_n dL_bits_5 (by omega) ?_
  refine g_isub_n dL_bits_6 h1 ?_
  exact g_ireturn dL_bits_7 rfl rfl ⟨rfl, rfl⟩
def clB (f t f2 t2 c : Nat) : Bool := if f < f2 then decide (f2 < t + c) else decide (f < t2 + c)
theorem kL_clash {f t f2 t2 c : Nat} (hf : f < 1048576) (ht : t < 1048576) (hf2 : f2 < 1048576) (ht2 : t2 < 1048576) (hc : c < 1048576) : Cn mL_clash 0 0 0 (some n0) [.int (nI f), .int (nI t), .int (nI f2), .int (nI t2), .int (nI c)] M (zqI (nI (clB f t f2 t2 c).toNat) (fun M' => M' = M)) := by
  refine g_iload_n dL_clash_0 rfl ?_
  refine g_iload_n dL_clash_1 rfl ?_
  refine g_icmp_ge_n (tgt := 21) dL_clash_2 (by decide) (by omega) (by omega) (fun h => ?_) (fun h => ?_)
  · refine g_iload_n dL_clash_21 rfl ?_
    refine g_iload dL_clash_22 rfl ?_
    refine g_iadd_n dL_clash_24 ?_
    refine g_iload_n dL_clash_25 rfl ?_
    refine g_icmp_le_n (tgt := 33) dL_clash_26 (by decide) (by omega) (by omega) (fun h2 => ?_) (fun h2 => ?_)
    · refine g_iconst (v := nI 0) dL_clash_33 (by decide) ?_
      refine g_ireturn_b (b := false) dL_clash_34 rfl ⟨?_, rfl⟩
      simp [clB, show ¬ f < f2 by omega, show ¬ f < t2 + c by omega]
    · refine g_iconst (v := nI 1) dL_clash_29 (by decide) ?_
      refine g_goto (tgt := 34) dL_clash_30 (by decide) ?_
      refine g_ireturn_b (b := true) dL_clash_34 rfl ⟨?_, rfl⟩
      simp [clB, show ¬ f < f2 by omega, show f < t2 + c by omega]
  · refine g_iload_n dL_clash_5 rfl ?_
    refine g_iload dL_clash_6 rfl ?_
    refine g_iadd_n dL_clash_8 ?_
    refine g_iload_n dL_clash_9 rfl ?_
    refine g_icmp_le_n (tgt := 17) dL_clash_10 (by decide) (by omega) (by omega) (fun h2 => ?_) (fun h2 => ?_)
    · refine g_iconst (v := nI 0) dL_clash_17 (by decide) ?_
      refine g_goto (tgt := 34) dL_clash_18 (by decide) ?_
      refine g_ireturn_b (b := false) dL_clash_34 rfl ⟨?_, rfl⟩
      simp [clB, h, show ¬ f2 < t + c by omega]
    · refine g_iconst (v := nI 1) dL_clash_13 (by decide) ?_
      refine g_goto (tgt := 34) dL_clash_14 (by decide) ?_
      refine g_ireturn_b (b := true) dL_clash_34 rfl ⟨?_, rfl⟩
      simp [clB, h, show f2 < t + c by omega]
def stB (R : Nat → Nat) (i day : Nat) : Bool := decide (R (11 * i + 1) = day % 7) && decide (R (11 * i + 9) / 2 ^ (day / 7) % 2 = 1)
theorem kL_stands {M0 : zM} {N R D : Nat → Nat} {Y : Nat → Nat → Nat} {i day : Nat} (hi : i < 4) (hd : day < 84) (h1 : R (11 * i + 1) < 1048576) (h9 : R (11 * i + 9) < 1048576) : Cn mL_stands 0 0 0 (some n0) [.ref 234, .int (nI i), .int (nI day)] (cM (lM M0 N R D) Y) (zqI (nI (stB R i day).toNat) (fun M' => M' = cM (lM M0 N R D) Y)) := by
  refine g_aload_n dL_stands_0 rfl ?_
  refine g_bipush (v := nI 11) dL_stands_1 (by decide) ?_
  refine g_iload_n dL_stands_3 rfl ?_
  refine g_imul_n dL_stands_4 ?_
  refine g_iconst (v := nI 1) dL_stands_5 (by decide) ?_
  refine g_iadd_n dL_stands_6 ?_
  refine g_lR dL_stands_7 (by omega) ?_
  refine g_iload_n dL_stands_8 rfl ?_
  refine g_bipush (v := nI 7) dL_stands_9 (by decide) ?_
  refine g_irem_n dL_stands_11 (by omega) (by omega) (by omega) ?_
  refine g_icmp_ne_n (tgt := 39) dL_stands_12 (by decide) (by omega) (by omega) (fun h => ?_) (fun h => ?_)
  · refine g_iconst (v := nI 0) dL_stands_39 (by decide) ?_
    refine g_ireturn_b (b := false) dL_stands_40 rfl ⟨?_, rfl⟩
    simp [stB, h]
  · refine g_aload_n dL_stands_15 rfl ?_
    refine g_bipush (v := nI 11) dL_stands_16 (by decide) ?_
    refine g_iload_n dL_stands_18 rfl ?_
    refine g_imul_n dL_stands_19 ?_
    refine g_bipush (v := nI 9) dL_stands_20 (by decide) ?_
    refine g_iadd_n dL_stands_22 ?_
    refine g_lR dL_stands_23 (by omega) ?_
    refine g_iload_n dL_stands_24 rfl ?_
    refine g_bipush (v := nI 7) dL_stands_25 (by decide) ?_
    refine g_idiv_n dL_stands_27 (by omega) (by omega) (by omega) ?_
    refine g_ishr_n dL_stands_28 (by omega) (by omega) ?_
    refine g_iconst (v := nI 1) dL_stands_29 (by decide) ?_
    refine g_iand1_n dL_stands_30 ?_
    refine g_iconst (v := nI 1) dL_stands_31 (by decide) ?_
    refine g_icmp_ne_n (tgt := 39) dL_stands_32 (by decide) (by omega) (by omega) (fun h2 => ?_) (fun h2 => ?_)
    · refine g_iconst (v := nI 0) dL_stands_39 (by decide) ?_
      refine g_ireturn_b (b := false) dL_stands_40 rfl ⟨?_, rfl⟩
      simp [stB, h2]
    · refine g_iconst (v := nI 1) dL_stands_35 (by decide) ?_
      refine g_goto (tgt := 40) dL_stands_36 (by decide) ?_
      refine g_ireturn_b (b := true) dL_stands_40 rfl ⟨?_, rfl⟩
      simp [stB, h, h2]
theorem kL_rent {M0 : zM} {N R D : Nat → Nat} {Y : Nat → Nat → Nat} {h wd hrs sh : Nat} (hh : h ≤ 2) (hN : N (5 + h) ≤ 5000) (h2 : N 2 ≤ 100) (hw : wd < 7) (hr : hrs ≤ 24) (hs : sh ≤ 100) : Cn mL_rent 0 0 0 (some n0) [.ref 233, .int (nI h), .int (nI wd), .int (nI hrs), .int (nI sh)] (cM (lM M0 N R D) Y) (zqI (nI (rentF N h wd hrs sh)) (fun M' => M' = cM (lM M0 N R D) Y)) := by
  have b1 : N (5 + h) * hrs ≤ 120000 := Nat.le_trans (Nat.mul_le_mul hN hr) (by decide)
  have b2 : N (5 + h) * hrs * sh ≤ 12000000 := Nat.le_trans (Nat.mul_le_mul b1 hs) (by decide)
  have b3 : N (5 + h) * hrs * sh / 100 ≤ 120000 := by omega
  have b4 : N (5 + h) * hrs * sh / 100 * (100 + N 2) ≤ 24000000 := Nat.le_trans (Nat.mul_le_mul b3 (show 100 + N 2 ≤ 200 by omega)) (by decide)
  refine g_aload_n dL_rent_0 rfl ?_
  refine g_iconst (v := nI 5) dL_rent_1 (by decide) ?_
  refine g_iload_n dL_rent_2 rfl ?_
  refine g_iadd_n dL_rent_3 ?_
  refine g_lN dL_rent_4 (by omega) ?_
  refine g_iload_n dL_rent_5 rfl ?_
  refine g_imul_n dL_rent_6 ?_
  refine g_iload dL_rent_7 rfl ?_
  refine g_imul_n dL_rent_9 ?_
  refine g_bipush (v := nI 100) dL_rent_10 (by decide) ?_
  refine g_idiv_n dL_rent_12 (by omega) (by omega) (by omega) ?_
  refine g_istore dL_rent_13 (by decide) ?_
  refine g_iload_n dL_rent_15 rfl ?_
  refine g_iconst (v := nI 5) dL_rent_16 (by decide) ?_
  refine g_icmp_ge_n (tgt := 25) dL_rent_17 (by decide) (by omega) (by omega) (fun h => ?_) (fun h => ?_)
  · refine g_iload dL_rent_25 rfl ?_
    refine g_bipush (v := nI 100) dL_rent_27 (by decide) ?_
    refine g_aload_n dL_rent_29 rfl ?_
    refine g_iconst (v := nI 2) dL_rent_30 (by decide) ?_
    refine g_lN dL_rent_31 (by omega) ?_
    refine g_iadd_n dL_rent_32 ?_
    refine g_imul_n dL_rent_33 ?_
    refine g_bipush (v := nI 100) dL_rent_34 (by decide) ?_
    refine g_idiv_n dL_rent_36 (by omega) (by omega) (by omega) ?_
    refine g_ireturn dL_rent_37 rfl rfl ⟨?_, rfl⟩
    unfold rentF
    rw [if_pos (by omega), Nat.mul_comm hrs]
  · refine g_iload dL_rent_20 rfl ?_
    refine g_goto (tgt := 37) dL_rent_22 (by decide) ?_
    refine g_ireturn dL_rent_37 rfl rfl ⟨?_, rfl⟩
    unfold rentF
    rw [if_neg (by omega), Nat.mul_comm hrs]
theorem on1 {w : Nat} (hw : w < 2 ^ 31) : ∀ u k, k + u = 12 → G mL_ones 0 0 0 (some n0) 4 [(0, .int (nI w)), (1, .int (nI (bsum w k))), (2, .int (nI k))] [] M (zqI (nI (bsum w 12)) (fun M' => M' = M)) := by
  intro u
  induction u with
  | zero =>
    intro k hk
    refine g_iload_n dL_ones_4 rfl ?_
    refine g_bipush (v := nI 12) dL_ones_5 (by decide) ?_
    refine g_icmp_ge_n (tgt := 24) dL_ones_7 (by decide) (by omega) (by omega) (fun h => ?_) (fun h => ?_)
    · refine g_iload_n dL_ones_24 rfl ?_
      refine g_ireturn dL_ones_25 rfl rfl ⟨?_, rfl⟩
      rw [show k = 12 by omega]
    · exact absurd h (by omega)
  | succ u ih =>
    intro k hk
    refine g_iload_n dL_ones_4 rfl ?_
    refine g_bipush (v := nI 12) dL_ones_5 (by decide) ?_
    refine g_icmp_ge_n (tgt := 24) dL_ones_7 (by decide) (by omega) (by omega) (fun h => ?_) (fun h => ?_)
    · exact absurd h (by omega)
    · refine g_iload_n dL_ones_10 rfl ?_
      refine g_iload_n dL_ones_11 rfl ?_
      refine g_iload_n dL_ones_12 rfl ?_
      refine g_ishr_n dL_ones_13 (by omega) (by omega) ?_
      refine g_iconst (v := nI 1) dL_ones_14 (by decide) ?_
      refine g_iand1_n dL_ones_15 ?_
      refine g_iadd_n dL_ones_16 ?_
      refine g_istore_n dL_ones_17 (by decide) ?_
      refine g_iinc_n (c := 1) dL_ones_18 rfl (by decide) (by decide) ?_
      refine g_goto (tgt := 4) dL_ones_21 (by decide) (g_loc (by rfl) (ih (k + 1) (by omega)))
theorem kL_ones {w : Nat} (hw : w < 2 ^ 31) : Cn mL_ones 0 0 0 (some n0) [.int (nI w)] M (zqI (nI (bsum w 12)) (fun M' => M' = M)) := by
  refine g_iconst (v := nI 0) dL_ones_0 (by decide) ?_
  refine g_istore_n dL_ones_1 (by decide) ?_
  refine g_iconst (v := nI 0) dL_ones_2 (by decide) ?_
  refine g_istore_n dL_ones_3 (by decide) ?_
  exact g_loc (by rfl) (on1 hw 12 0 (by omega))
end LH
