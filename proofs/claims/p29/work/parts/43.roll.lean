/-! the class: rolls -/
/-- a roll's place: the roll, its rows, its pool of lets -/
def rl (r n : Nat) : Prop := kq r = 3 ∧ kW (r + 1) n ∧ ∀ q, r + 2 ≤ q → q < r + 2 + n → kq q = 1
/-- its rows: of its pool, each once -/
def rP (Y : Nat → Nat → Nat) (r n : Nat) : Prop := (∀ i, i < n → r + 2 ≤ Y (r + 1) i ∧ Y (r + 1) i < r + 2 + n) ∧ (∀ i j, i < n → j < n → Y (r + 1) i = Y (r + 1) j → i = j)
/-- its lets -/
def rV (Y : Nat → Nat → Nat) (r i : Nat) : Nat → Nat := Y (Y (r + 1) i)
def wR (Y : Nat → Nat → Nat) (r n : Nat) : Prop := rP Y r n ∧ Y r 1 ≤ n ∧ ∀ i, i < Y r 1 → vB (rV Y r i)
def sfV (V : Nat → Nat → Nat) (te : Int32) (w : Nat) : Nat → Nat
  | 0 => 0
  | k + 1 => bif tqB te (V k 5) then sfV V te w k + vSh (V k) w * (if w = 0 then 1 else bc12 (V k 9)) else sfV V te w k
def hiV (V : Nat → Nat → Nat) (h : Nat) : Nat → Nat
  | 0 => 0
  | k + 1 => if V k 0 = h then hiV V h k + (V k 3 - V k 2) * bc12 (V k 9) else hiV V h k
/-- rows behind one that goes move up -/
def shA (A : Nat → Nat) (n i : Nat) : Nat → Nat := fun j => if n ≤ j ∧ j + 1 < i then A (j + 1) else A j
theorem shA_step (A : Nat → Nat) {n i : Nat} (h : n < i) : uN (shA A n i) (i - 1) (shA A n i i) = shA A n (i + 1) := by
  funext j
  by_cases hj : j = i - 1
  · subst hj
    rw [uN_s, shA, shA, if_neg (by omega), if_pos (by omega)]
    congr 1
    omega
  · rw [uN_n _ _ hj]
    simp only [shA]
    by_cases h2 : n ≤ j ∧ j + 1 < i
    · rw [if_pos h2, if_pos (by omega)]
    · rw [if_neg h2, if_neg (by omega)]
theorem shA_0 (A : Nat → Nat) (n : Nat) : shA A n (n + 1) = A := by
  funext j
  rw [shA, if_neg (by omega)]
def rmA (A : Nat → Nat) (n s : Nat) : Nat → Nat := uN (shA A n s) (s - 1) (A n)
def bcY (Y : Nat → Nat → Nat) (r o : Nat) : Nat → Nat → Nat → Nat
  | 0 => Y
  | k + 1 => uA (bcY Y r o k) (Y (r + 1) k) (Y (Y (o + 1) k))
theorem bcY_n (Y : Nat → Nat → Nat) (r o : Nat) {a : Nat} : ∀ k, (∀ i, i < k → a ≠ Y (r + 1) i) → bcY Y r o k a = Y a
  | 0, _ => rfl
  | k + 1, h => by
    rw [bcY, uA_n _ _ (h k (by omega))]
    exact bcY_n Y r o k (fun i hi => h i (by omega))
theorem bcY_s (Y : Nat → Nat → Nat) (r o : Nat) {n : Nat} (hinj : ∀ i j, i < n → j < n → Y (r + 1) i = Y (r + 1) j → i = j) {i : Nat} : ∀ k, k ≤ n → i < k → bcY Y r o k (Y (r + 1) i) = Y (Y (o + 1) i)
  | 0, _, h => by omega
  | k + 1, hk, h => by
    rw [bcY]
    by_cases e : i = k
    · subst e; rw [uA_s]
    · rw [uA_n _ _ (fun q => e (hinj i k (by omega) (by omega) q))]
      exact bcY_s Y r o hinj k (by omega) (by omega)
theorem lX3_34 : Cond.methodLink RX3 34 Lib.Math.min.name ∈ SW ∧ Cond.static Lib.Math.min.name ∈ SW ∧ Cond.initialized "java/lang/Math" ∈ SW ∧ Cond.code Lib.Math.min.name Lib.Math.min.code 2 (some .int) ∈ SW := ⟨q554, q555, q30, q556⟩
section ROLL
variable {M M0 : zM} {Y : Nat → Nat → Nat}
theorem kX5_isIn (v lo hi : Int32) : Cn mX5_isIn 0 0 0 none [.int v, .int lo, .int hi] M (zi (nI (zin v lo hi).toNat) (fun M' => M' = M)) := by
  refine g_iload_n dX5_isIn_0 rfl ?_
  refine g_iload_n dX5_isIn_1 rfl ?_
  refine g_icmp_lt (tgt := 14) dX5_isIn_2 (by decide) (fun h => ?_) (fun h => ?_)
  · refine g_iconst (v := nI 0) dX5_isIn_14 (by decide) ?_
    refine g_ireturn dX5_isIn_15 rfl rfl ⟨rfl, ?_, rfl⟩
    rw [show zin v lo hi = false by simp [zin, Int32.not_le.mpr h]]
    rfl
  refine g_iload_n dX5_isIn_5 rfl ?_
  refine g_iload_n dX5_isIn_6 rfl ?_
  refine g_icmp_gt (tgt := 14) dX5_isIn_7 (by decide) (fun h2 => ?_) (fun h2 => ?_)
  · refine g_iconst (v := nI 0) dX5_isIn_14 (by decide) ?_
    refine g_ireturn dX5_isIn_15 rfl rfl ⟨rfl, ?_, rfl⟩
    rw [show zin v lo hi = false by simp [zin, Int32.not_le.mpr h2]]
    rfl
  refine g_iconst (v := nI 1) dX5_isIn_10 (by decide) ?_
  refine g_goto (tgt := 15) dX5_isIn_11 (by decide) ?_
  refine g_ireturn dX5_isIn_15 rfl rfl ⟨rfl, ?_, rfl⟩
  rw [show zin v lo hi = true by simp [zin, Int32.not_lt.mp h, Int32.not_lt.mp h2]]
  rfl
theorem g_minn {mi : zI} {d kc ks : Nat} {nx : Option Nat} {pc idx : Nat} {L : List (Nat × Value)} {S : List Value} {F : zP} {x y : Nat} (hl : Cond.methodLink mi.2.1 idx Lib.Math.min.name ∈ SW ∧ Cond.static Lib.Math.min.name ∈ SW ∧ Cond.initialized "java/lang/Math" ∈ SW ∧ Cond.code Lib.Math.min.name Lib.Math.min.code 2 (some .int) ∈ SW) (hd : decode mi.2.2.1 pc = .ok (.invokestatic idx, 3)) (h1 : 1 ≤ d) (hS : (S.map fun v => v.category).sum ≤ 8) (hx : x < 2 ^ 31) (hy : y < 2 ^ 31) (k : G mi d kc ks nx (pc + 3) L (.int (nI (min x y)) :: S) M F) : G mi d kc ks nx pc L (.int (nI y) :: .int (nI x) :: S) M F := by
  refine g_min hl hd h1 hS ?_
  have e : (if nI y < nI x then nI y else nI x) = nI (min x y) := by
    by_cases h : y < x
    · rw [if_pos ((nI_ltI hy hx).mpr h), Nat.min_eq_right (by omega)]
    · rw [if_neg (fun q => h ((nI_ltI hy hx).mp q)), Nat.min_eq_left (by omega)]
  rw [e]
  exact k
theorem rl_k {r n : Nat} (h : rl r n) (hp : rP Y r n) {i : Nat} (hi : i < n) : kq (Y (r + 1) i) = 1 := h.2.2 _ (hp.1 i hi).1 (hp.1 i hi).2
theorem rl_n {r n : Nat} (h : rl r n) : n ≤ 12 := (kW_b h.2.1).2
theorem kX3_isFull {r n : Nat} (hr : rl r n) (hs : Y r 1 ≤ n) : Cn mX3_isFull 0 0 0 none [.ref r] (cM M0 Y) (zi (nI (decide (n ≤ Y r 1)).toNat) (fun M' => M' = cM M0 Y)) := by
  have hn := rl_n hr
  refine g_aload_n dX3_isFull_0 rfl ?_
  refine g_get fX3_18 dX3_isFull_1 (cM_R hr.1) rfl ?_
  refine g_aload_n dX3_isFull_4 rfl ?_
  refine g_get fX3_11 dX3_isFull_5 (cM_R hr.1) rfl ?_
  refine g_cwn dX3_isFull_8 hr.2.1 ?_
  refine g_icmp_lt_n (tgt := 16) dX3_isFull_9 (by decide) (by omega) (by omega) (fun h1 => ?_) (fun h1 => ?_)
  · refine g_iconst (v := nI 0) dX3_isFull_16 (by decide) ?_
    refine g_ireturn dX3_isFull_17 rfl rfl ⟨rfl, ?_, rfl⟩
    rw [show decide (n ≤ Y r 1) = false by simp; omega]
    rfl
  · refine g_iconst (v := nI 1) dX3_isFull_12 (by decide) ?_
    refine g_goto (tgt := 17) dX3_isFull_13 (by decide) ?_
    refine g_ireturn dX3_isFull_17 rfl rfl ⟨rfl, ?_, rfl⟩
    rw [show decide (n ≤ Y r 1) = true by simp; omega]
    rfl
theorem sf1 {r n w : Nat} {te : Int32} (hr : rl r n) (hw : wR Y r n) (hw2 : w ≤ 2) : ∀ u k, k + u = Y r 1 → G mX3_sumFor 3 0 0 none 5 [(0, .ref r), (1, .int te), (2, .int (nI w)), (3, .int (nI (sfV (rV Y r) te w k))), (4, .int (nI k))] [] (cM M0 Y) (zi (nI (sfV (rV Y r) te w (Y r 1))) (fun M' => M' = cM M0 Y)) := by
  have hn := rl_n hr
  obtain ⟨hP, hsz, hV⟩ := hw
  intro u
  induction u with
  | zero =>
    intro k hk
    have : k = Y r 1 := by omega
    subst this
    refine g_iload dX3_sumFor_5 rfl ?_
    refine g_aload_n dX3_sumFor_7 rfl ?_
    refine g_get fX3_18 dX3_sumFor_8 (cM_R hr.1) rfl ?_
    refine g_icmp_ge_n (tgt := 76) dX3_sumFor_11 (by decide) (by omega) (by omega) (fun h1 => ?_) (fun h1 => ?_)
    · refine g_iload_n dX3_sumFor_76 rfl ?_
      exact g_ireturn dX3_sumFor_77 rfl rfl ⟨rfl, rfl, rfl⟩
    · omega
  | succ u ih =>
    intro k hk
    have hk1 : kq (Y (r + 1) k) = 1 := rl_k hr hP (by omega)
    have hvk := hV k (by omega)
    have h5 := hvk.1 5 (by omega)
    have skip : tqB te (rV Y r k 5) = false → G mX3_sumFor 3 0 0 none 70 [(0, .ref r), (1, .int te), (2, .int (nI w)), (3, .int (nI (sfV (rV Y r) te w k))), (4, .int (nI k))] [] (cM M0 Y) (zi (nI (sfV (rV Y r) te w (Y r 1))) (fun M' => M' = cM M0 Y)) := fun hq => by
      refine g_iinc_n (c := 1) dX3_sumFor_70 rfl (by decide) (by decide) ?_
      refine g_goto (tgt := 5) dX3_sumFor_73 (by decide) ?_
      have := ih (k + 1) (by omega)
      rw [sfV, hq, cond_false] at this
      exact g_loc rfl this
    have add : tqB te (rV Y r k 5) = true → G mX3_sumFor 3 0 0 none 33 [(0, .ref r), (1, .int te), (2, .int (nI w)), (3, .int (nI (sfV (rV Y r) te w k))), (4, .int (nI k))] [] (cM M0 Y) (zi (nI (sfV (rV Y r) te w (Y r 1))) (fun M' => M' = cM M0 Y)) := fun hq => by
      have fin : ∀ dd, dd = (if w = 0 then 1 else bc12 (rV Y r k 9)) → G mX3_sumFor 3 0 0 none 51 [(0, .ref r), (1, .int te), (2, .int (nI w)), (3, .int (nI (sfV (rV Y r) te w k))), (4, .int (nI k))] [.int (nI dd)] (cM M0 Y) (zi (nI (sfV (rV Y r) te w (Y r 1))) (fun M' => M' = cM M0 Y)) := fun dd hdd => by
        refine g_istore dX3_sumFor_51 (by decide) ?_
        refine g_iload_n dX3_sumFor_53 rfl ?_
        refine g_aload_n dX3_sumFor_54 rfl ?_
        refine g_get fX3_11 dX3_sumFor_55 (cM_R hr.1) rfl ?_
        refine g_iload dX3_sumFor_58 rfl ?_
        refine g_cwl dX3_sumFor_60 hr.2.1 (by omega) ?_
        refine g_iload_n dX3_sumFor_61 rfl ?_
        refine g_callV_i (kX1_shareOfDay hk1 hvk (by omega)) oX1_shareOfDay pX1_shareOfDay lX3_47 dX3_sumFor_62 rfl (cM_L hk1) rfl rfl rfl (Nat.le_of_ble_eq_true rfl) (Nat.le_of_ble_eq_true rfl) (by decide) (fun M' h' => ?_)
        subst h'
        refine g_iload dX3_sumFor_65 rfl ?_
        refine g_imul_n dX3_sumFor_67 ?_
        refine g_iadd_n dX3_sumFor_68 ?_
        refine g_istore_n dX3_sumFor_69 (by decide) ?_
        refine g_iinc_n (c := 1) dX3_sumFor_70 rfl (by decide) (by decide) ?_
        refine g_goto (tgt := 5) dX3_sumFor_73 (by decide) ?_
        have := ih (k + 1) (by omega)
        rw [sfV, hq, cond_true, ← hdd] at this
        exact g_loc rfl this
      refine g_iload_n dX3_sumFor_33 rfl ?_
      refine g_if_ne_n (tgt := 41) dX3_sumFor_34 (by decide) (by omega) (fun h2 => ?_) (fun h2 => ?_)
      · refine g_aload_n dX3_sumFor_41 rfl ?_
        refine g_get fX3_11 dX3_sumFor_42 (cM_R hr.1) rfl ?_
        refine g_iload dX3_sumFor_45 rfl ?_
        refine g_cwl dX3_sumFor_47 hr.2.1 (by omega) ?_
        refine g_callV_i (kX1_daysStanding hk1 hvk) oX1_daysStanding pX1_daysStanding lX3_43 dX3_sumFor_48 rfl (cM_L hk1) rfl rfl rfl (Nat.le_of_ble_eq_true rfl) (Nat.le_of_ble_eq_true rfl) (by decide) (fun M' h' => ?_)
        subst h'
        exact fin _ (by rw [if_neg h2]; rfl)
      · refine g_iconst (v := nI 1) dX3_sumFor_37 (by decide) ?_
        refine g_goto (tgt := 51) dX3_sumFor_38 (by decide) ?_
        exact fin 1 (by rw [if_pos h2])
    refine g_iload dX3_sumFor_5 rfl ?_
    refine g_aload_n dX3_sumFor_7 rfl ?_
    refine g_get fX3_18 dX3_sumFor_8 (cM_R hr.1) rfl ?_
    refine g_icmp_ge_n (tgt := 76) dX3_sumFor_11 (by decide) (by omega) (by omega) (fun h1 => ?_) (fun h1 => ?_)
    · omega
    refine g_iload_n dX3_sumFor_14 rfl ?_
    refine g_iconst (v := (-1)) dX3_sumFor_15 (by decide) ?_
    refine g_icmp_eq (tgt := 33) dX3_sumFor_16 (by decide) (fun h2 => ?_) (fun h2 => ?_)
    · exact add (by rw [h2]; simp [tqB])
    refine g_aload_n dX3_sumFor_19 rfl ?_
    refine g_get fX3_11 dX3_sumFor_20 (cM_R hr.1) rfl ?_
    refine g_iload dX3_sumFor_23 rfl ?_
    refine g_cwl dX3_sumFor_25 hr.2.1 (by omega) ?_
    refine g_get fX3_40 dX3_sumFor_26 (cM_L hk1) rfl ?_
    refine g_iload_n dX3_sumFor_29 rfl ?_
    refine g_icmp_ne (tgt := 70) dX3_sumFor_30 (by decide) (fun h3 => ?_) (fun h3 => ?_)
    · exact skip (by simp only [tqB, Bool.or_eq_false_iff, decide_eq_false_iff_not]; exact ⟨h2, h3⟩)
    · exact add (by simp only [tqB, Bool.or_eq_true, decide_eq_true_eq]; exact Or.inr h3)
theorem kX3_sumFor {r n w : Nat} {te : Int32} (hr : rl r n) (hw : wR Y r n) (hw2 : w ≤ 2) : Cn mX3_sumFor 3 0 0 none [.ref r, .int te, .int (nI w)] (cM M0 Y) (zi (nI (sfV (rV Y r) te w (Y r 1))) (fun M' => M' = cM M0 Y)) := by
  refine g_iconst (v := nI 0) dX3_sumFor_0 (by decide) ?_
  refine g_istore_n dX3_sumFor_1 (by decide) ?_
  refine g_iconst (v := nI 0) dX3_sumFor_2 (by decide) ?_
  refine g_istore dX3_sumFor_3 (by decide) ?_
  exact g_loc rfl (sf1 hr hw hw2 (Y r 1) 0 (by omega))
theorem hi1 {r n h : Nat} (hh : h < 1048576) (hr : rl r n) (hw : wR Y r n) : ∀ u k, k + u = Y r 1 → G mX3_hoursIn 3 0 0 none 4 [(0, .ref r), (1, .int (nI h)), (2, .int (nI (hiV (rV Y r) h k))), (3, .int (nI k))] [] (cM M0 Y) (zi (nI (hiV (rV Y r) h (Y r 1))) (fun M' => M' = cM M0 Y)) := by
  have hn := rl_n hr
  obtain ⟨hP, hsz, hV⟩ := hw
  intro u
  induction u with
  | zero =>
    intro k hk
    have : k = Y r 1 := by omega
    subst this
    refine g_iload_n dX3_hoursIn_4 rfl ?_
    refine g_aload_n dX3_hoursIn_5 rfl ?_
    refine g_get fX3_18 dX3_hoursIn_6 (cM_R hr.1) rfl ?_
    refine g_icmp_ge_n (tgt := 54) dX3_hoursIn_9 (by decide) (by omega) (by omega) (fun h1 => ?_) (fun h1 => ?_)
    · refine g_iload_n dX3_hoursIn_54 rfl ?_
      exact g_ireturn dX3_hoursIn_55 rfl rfl ⟨rfl, rfl, rfl⟩
    · omega
  | succ u ih =>
    intro k hk
    have hk1 : kq (Y (r + 1) k) = 1 := rl_k hr hP (by omega)
    have hvk := hV k (by omega)
    have h0 : Y (Y (r + 1) k) 0 < 1048576 := hvk.1 0 (by omega)
    refine g_iload_n dX3_hoursIn_4 rfl ?_
    refine g_aload_n dX3_hoursIn_5 rfl ?_
    refine g_get fX3_18 dX3_hoursIn_6 (cM_R hr.1) rfl ?_
    refine g_icmp_ge_n (tgt := 54) dX3_hoursIn_9 (by decide) (by omega) (by omega) (fun h1 => ?_) (fun h1 => ?_)
    · omega
    refine g_aload_n dX3_hoursIn_12 rfl ?_
    refine g_get fX3_11 dX3_hoursIn_13 (cM_R hr.1) rfl ?_
    refine g_iload_n dX3_hoursIn_16 rfl ?_
    refine g_cwl dX3_hoursIn_17 hr.2.1 (by omega) ?_
    refine g_get fX3_51 dX3_hoursIn_18 (cM_L hk1) rfl ?_
    refine g_iload_n dX3_hoursIn_21 rfl ?_
    refine g_icmp_ne_n (tgt := 48) dX3_hoursIn_22 (by decide) (by omega) (by omega) (fun h2 => ?_) (fun h2 => ?_)
    · refine g_iinc_n (c := 1) dX3_hoursIn_48 rfl (by decide) (by decide) ?_
      refine g_goto (tgt := 4) dX3_hoursIn_51 (by decide) ?_
      have := ih (k + 1) (by omega)
      rw [hiV, if_neg (show ¬ rV Y r k 0 = h from h2)] at this
      exact g_loc rfl this
    · refine g_iload_n dX3_hoursIn_25 rfl ?_
      refine g_aload_n dX3_hoursIn_26 rfl ?_
      refine g_get fX3_11 dX3_hoursIn_27 (cM_R hr.1) rfl ?_
      refine g_iload_n dX3_hoursIn_30 rfl ?_
      refine g_cwl dX3_hoursIn_31 hr.2.1 (by omega) ?_
      refine g_iconst (v := nI 3) dX3_hoursIn_32 (by decide) ?_
      refine g_callV_i (kX1_shareOfDay hk1 hvk (w := 3) (by omega)) oX1_shareOfDay pX1_shareOfDay lX3_47 dX3_hoursIn_33 rfl (cM_L hk1) rfl rfl rfl (Nat.le_of_ble_eq_true rfl) (Nat.le_of_ble_eq_true rfl) (by decide) (fun M' h' => ?_)
      subst h'
      refine g_aload_n dX3_hoursIn_36 rfl ?_
      refine g_get fX3_11 dX3_hoursIn_37 (cM_R hr.1) rfl ?_
      refine g_iload_n dX3_hoursIn_40 rfl ?_
      refine g_cwl dX3_hoursIn_41 hr.2.1 (by omega) ?_
      refine g_callV_i (kX1_daysStanding hk1 hvk) oX1_daysStanding pX1_daysStanding lX3_43 dX3_hoursIn_42 rfl (cM_L hk1) rfl rfl rfl (Nat.le_of_ble_eq_true rfl) (Nat.le_of_ble_eq_true rfl) (by decide) (fun M' h' => ?_)
      subst h'
      refine g_imul_n dX3_hoursIn_45 ?_
      refine g_iadd_n dX3_hoursIn_46 ?_
      refine g_istore_n dX3_hoursIn_47 (by decide) ?_
      refine g_iinc_n (c := 1) dX3_hoursIn_48 rfl (by decide) (by decide) ?_
      refine g_goto (tgt := 4) dX3_hoursIn_51 (by decide) ?_
      have := ih (k + 1) (by omega)
      rw [hiV, if_pos (show rV Y r k 0 = h from h2)] at this
      exact g_loc rfl this
theorem kX3_hoursIn {r n h : Nat} (hh : h < 1048576) (hr : rl r n) (hw : wR Y r n) : Cn mX3_hoursIn 3 0 0 none [.ref r, .int (nI h)] (cM M0 Y) (zi (nI (hiV (rV Y r) h (Y r 1))) (fun M' => M' = cM M0 Y)) := by
  refine g_iconst (v := nI 0) dX3_hoursIn_0 (by decide) ?_
  refine g_istore_n dX3_hoursIn_1 (by decide) ?_
  refine g_iconst (v := nI 0) dX3_hoursIn_2 (by decide) ?_
  refine g_istore_n dX3_hoursIn_3 (by decide) ?_
  exact g_loc rfl (hi1 hh hr hw (Y r 1) 0 (by omega))
theorem kX3_add {r n o : Nat} (hr : rl r n) (hP : rP Y r n) (hs : Y r 1 < n) (ho : kq o = 1) : Cn mX3_add 2 0 0 none [.ref r, .ref o] (cM M0 Y) (zv (fun M' => M' = cM M0 (uA (uA Y (Y (r + 1) (Y r 1)) (Y o)) r (uN (Y r) 1 (Y r 1 + 1))))) := by
  have hn := rl_n hr
  have hk1 : kq (Y (r + 1) (Y r 1)) = 1 := rl_k hr hP hs
  have hne : r ≠ Y (r + 1) (Y r 1) := fun e => by rw [← e, hr.1] at hk1; cases hk1
  refine g_aload_n dX3_add_0 rfl ?_
  refine g_callV_i (kX3_isFull hr (by omega)) oX3_isFull pX3_isFull lX3_22 dX3_add_1 rfl (cM_R hr.1) rfl rfl rfl (Nat.le_of_ble_eq_true rfl) (Nat.le_of_ble_eq_true rfl) (by decide) (fun M' h' => ?_)
  subst h'
  rw [show decide (n ≤ Y r 1) = false by simp; omega]
  refine g_if_ne_b (tgt := 30) dX3_add_4 (by decide) (fun h1 => ?_) (fun h1 => ?_)
  · cases h1
  refine g_aload_n dX3_add_7 rfl ?_
  refine g_get fX3_11 dX3_add_8 (cM_R hr.1) rfl ?_
  refine g_aload_n dX3_add_11 rfl ?_
  refine g_get fX3_18 dX3_add_12 (cM_R hr.1) rfl ?_
  refine g_cwl dX3_add_15 hr.2.1 (by omega) ?_
  refine g_aload_n dX3_add_16 rfl ?_
  refine g_callV_v (kX1_become hk1 ho) oX1_become pX1_become lX3_26 dX3_add_17 rfl (cM_L hk1) rfl rfl rfl (Nat.le_of_ble_eq_true rfl) (Nat.le_of_ble_eq_true rfl) (by decide) (fun M' h' => ?_)
  subst h'
  refine g_aload_n dX3_add_20 rfl ?_
  refine g_dup dX3_add_21 rfl ?_
  refine g_get fX3_18 dX3_add_22 (cM_R hr.1) rfl ?_
  refine g_iconst (v := nI 1) dX3_add_25 (by decide) ?_
  refine g_iadd_n dX3_add_26 ?_
  refine g_cpR fX3_18 dX3_add_27 hr.1 ?_
  refine g_return dX3_add_30 rfl ⟨rfl, rfl, ?_⟩
  rw [uA_n _ _ hne]
theorem rb1 {r o n s : Nat} (hr : rl r n) (ho : rl o n) (hP : rP Y r n) (hO : rP Y o n) (hdis : r + n + 2 ≤ o ∨ o + n + 2 ≤ r) (hs : s ≤ n) : ∀ u k, k + u = s → G mX3_become 2 0 0 none 15 [(0, .ref r), (1, .ref o), (2, .int (nI s)), (3, .int (nI k))] [] (cM M0 (bcY Y r o k)) (zv (fun M' => M' = cM M0 (uA (bcY Y r o s) r (uN (Y r) 1 s)))) := by
  have hn := rl_n hr
  have far : ∀ a k, k ≤ n → (a < r + 2 ∨ r + 2 + n ≤ a) → bcY Y r o k a = Y a := fun a k hk ha => bcY_n Y r o k (fun i hi e => by
    have := hP.1 i (by omega)
    omega)
  intro u
  induction u with
  | zero =>
    intro k hk
    have : k = s := by omega
    subst this
    refine g_iload_n dX3_become_15 rfl ?_
    refine g_iload_n dX3_become_16 rfl ?_
    refine g_icmp_ge_n (tgt := 41) dX3_become_17 (by decide) (by omega) (by omega) (fun h1 => ?_) (fun h1 => ?_)
    · refine g_aload_n dX3_become_41 rfl ?_
      refine g_iload_n dX3_become_42 rfl ?_
      refine g_cpR fX3_18 dX3_become_43 hr.1 ?_
      refine g_return dX3_become_46 rfl ⟨rfl, rfl, ?_⟩
      rw [far r k hs (by omega)]
    · omega
  | succ u ih =>
    intro k hk
    have e1 : bcY Y r o k (r + 1) = Y (r + 1) := far _ k (by omega) (by omega)
    have e2 : bcY Y r o k (o + 1) = Y (o + 1) := far _ k (by omega) (by omega)
    have hpo := hO.1 k (by omega)
    have e3 : bcY Y r o k (Y (o + 1) k) = Y (Y (o + 1) k) := far _ k (by omega) (by omega)
    have k1 : kq (bcY Y r o k (r + 1) k) = 1 := by rw [e1]; exact rl_k hr hP (by omega)
    have k2 : kq (bcY Y r o k (o + 1) k) = 1 := by rw [e2]; exact rl_k ho hO (by omega)
    refine g_iload_n dX3_become_15 rfl ?_
    refine g_iload_n dX3_become_16 rfl ?_
    refine g_icmp_ge_n (tgt := 41) dX3_become_17 (by decide) (by omega) (by omega) (fun h1 => ?_) (fun h1 => ?_)
    · omega
    refine g_aload_n dX3_become_20 rfl ?_
    refine g_get fX3_11 dX3_become_21 (cM_R hr.1) rfl ?_
    refine g_iload_n dX3_become_24 rfl ?_
    refine g_cwl dX3_become_25 hr.2.1 (by omega) ?_
    refine g_aload_n dX3_become_26 rfl ?_
    refine g_get fX3_11 dX3_become_27 (cM_R ho.1) rfl ?_
    refine g_iload_n dX3_become_30 rfl ?_
    refine g_cwl dX3_become_31 ho.2.1 (by omega) ?_
    refine g_callV_v (kX1_become k1 k2) oX1_become pX1_become lX3_26 dX3_become_32 rfl (cM_L k1) rfl rfl rfl (Nat.le_of_ble_eq_true rfl) (Nat.le_of_ble_eq_true rfl) (by decide) (fun M' h' => ?_)
    subst h'
    refine g_iinc_n (c := 1) dX3_become_35 rfl (by decide) (by decide) ?_
    refine g_goto (tgt := 15) dX3_become_38 (by decide) ?_
    have := ih (k + 1) (by omega)
    rw [bcY] at this
    rw [e1, e2, e3]
    exact g_loc rfl this
theorem kX3_become {r o n : Nat} (hr : rl r n) (ho : rl o n) (hP : rP Y r n) (hO : rP Y o n) (hdis : r + n + 2 ≤ o ∨ o + n + 2 ≤ r) (hs : Y o 1 ≤ n) : Cn mX3_become 2 0 0 none [.ref r, .ref o] (cM M0 Y) (zv (fun M' => M' = cM M0 (uA (bcY Y r o (Y o 1)) r (uN (Y r) 1 (Y o 1))))) := by
  have hn := rl_n hr
  refine g_aload_n dX3_become_0 rfl ?_
  refine g_get fX3_11 dX3_become_1 (cM_R hr.1) rfl ?_
  refine g_cwn dX3_become_4 hr.2.1 ?_
  refine g_aload_n dX3_become_5 rfl ?_
  refine g_get fX3_18 dX3_become_6 (cM_R ho.1) rfl ?_
  refine g_minn lX3_34 dX3_become_9 (by decide) (by decide) (by omega) (by omega) ?_
  rw [Nat.min_eq_right hs]
  refine g_istore_n dX3_become_12 (by decide) ?_
  refine g_iconst (v := nI 0) dX3_become_13 (by decide) ?_
  refine g_istore_n dX3_become_14 (by decide) ?_
  exact g_loc rfl (rb1 hr ho hP hO hdis hs (Y o 1) 0 (by omega))
theorem rr1 {r n i : Nat} (hr : rl r n) (hP : rP Y r n) (hs : Y r 1 ≤ n) (hi : i < Y r 1) : ∀ u k, k + u = Y r 1 → i < k → G mX3_remove 1 0 0 none 26 [(0, .ref r), (1, .int (nI i)), (2, .ref (Y (r + 1) i)), (3, .int (nI k))] [] (cM M0 (uA Y (r + 1) (shA (Y (r + 1)) i k))) (zv (fun M' => M' = cM M0 (uA (uA Y (r + 1) (rmA (Y (r + 1)) i (Y r 1))) r (uN (Y r) 1 (Y r 1 - 1))))) := by
  have hn := rl_n hr
  have hki : kq (Y (r + 1) i) = 1 := rl_k hr hP (by omega)
  intro u
  induction u with
  | zero =>
    intro k hk hik
    have : k = Y r 1 := by omega
    subst this
    have hne : r ≠ r + 1 := by omega
    have e0 : uA Y (r + 1) (shA (Y (r + 1)) i (Y r 1)) r = Y r := uA_n _ _ hne
    refine g_iload_n dX3_remove_26 rfl ?_
    refine g_aload_n dX3_remove_27 rfl ?_
    refine g_get fX3_18 dX3_remove_28 (cM_R hr.1) rfl ?_
    rw [e0]
    refine g_icmp_ge_n (tgt := 54) dX3_remove_31 (by decide) (by omega) (by omega) (fun h1 => ?_) (fun h1 => ?_)
    rotate_left
    · omega
    refine g_aload_n dX3_remove_54 rfl ?_
    refine g_get fX3_11 dX3_remove_55 (cM_R hr.1) rfl ?_
    refine g_aload_n dX3_remove_58 rfl ?_
    refine g_get fX3_18 dX3_remove_59 (cM_R hr.1) rfl ?_
    rw [e0]
    refine g_iconst (v := nI 1) dX3_remove_62 (by decide) ?_
    refine g_isub_n dX3_remove_63 (by omega) ?_
    refine g_aload_n dX3_remove_64 rfl ?_
    refine g_cws dX3_remove_65 hr.2.1 hki (by omega) ?_
    rw [uA_u, uA_s]
    have e1 : ∀ f, uA Y (r + 1) f r = Y r := fun f => uA_n _ _ hne
    refine g_aload_n dX3_remove_66 rfl ?_
    refine g_dup dX3_remove_67 rfl ?_
    refine g_get fX3_18 dX3_remove_68 (cM_R hr.1) rfl ?_
    rw [e1]
    refine g_iconst (v := nI 1) dX3_remove_71 (by decide) ?_
    refine g_isub_n dX3_remove_72 (by omega) ?_
    refine g_cpR fX3_18 dX3_remove_73 hr.1 ?_
    refine g_return dX3_remove_76 rfl ⟨rfl, rfl, ?_⟩
    rw [e1]
    rfl
  | succ u ih =>
    intro k hk hik
    have hne : r ≠ r + 1 := by omega
    have e0 : uA Y (r + 1) (shA (Y (r + 1)) i k) r = Y r := uA_n _ _ hne
    have hkk : kq (shA (Y (r + 1)) i k k) = 1 := by
      rw [shA, if_neg (by omega)]; exact rl_k hr hP (by omega)
    refine g_iload_n dX3_remove_26 rfl ?_
    refine g_aload_n dX3_remove_27 rfl ?_
    refine g_get fX3_18 dX3_remove_28 (cM_R hr.1) rfl ?_
    rw [e0]
    refine g_icmp_ge_n (tgt := 54) dX3_remove_31 (by decide) (by omega) (by omega) (fun h1 => ?_) (fun h1 => ?_)
    · omega
    refine g_aload_n dX3_remove_34 rfl ?_
    refine g_get fX3_11 dX3_remove_35 (cM_R hr.1) rfl ?_
    refine g_iload_n dX3_remove_38 rfl ?_
    refine g_iconst (v := nI 1) dX3_remove_39 (by decide) ?_
    refine g_isub_n dX3_remove_40 (by omega) ?_
    refine g_aload_n dX3_remove_41 rfl ?_
    refine g_get fX3_11 dX3_remove_42 (cM_R hr.1) rfl ?_
    refine g_iload_n dX3_remove_45 rfl ?_
    refine g_cwl dX3_remove_46 hr.2.1 (by omega) ?_
    rw [uA_s]
    refine g_cws dX3_remove_47 hr.2.1 hkk (by omega) ?_
    rw [uA_u, uA_s, shA_step _ hik]
    refine g_iinc_n (c := 1) dX3_remove_48 rfl (by decide) (by decide) ?_
    refine g_goto (tgt := 26) dX3_remove_51 (by decide) ?_
    exact g_loc rfl (ih (k + 1) (by omega) (by omega))
theorem kX3_remove {r n i : Nat} (hr : rl r n) (hP : rP Y r n) (hs : Y r 1 ≤ n) (hi : i < Y r 1) : Cn mX3_remove 1 0 0 none [.ref r, .int (nI i)] (cM M0 Y) (zv (fun M' => M' = cM M0 (uA (uA Y (r + 1) (rmA (Y (r + 1)) i (Y r 1))) r (uN (Y r) 1 (Y r 1 - 1))))) := by
  have hn := rl_n hr
  refine g_iload_n dX3_remove_0 rfl ?_
  refine g_iconst (v := nI 0) dX3_remove_1 (by decide) ?_
  refine g_aload_n dX3_remove_2 rfl ?_
  refine g_get fX3_18 dX3_remove_3 (cM_R hr.1) rfl ?_
  refine g_iconst (v := nI 1) dX3_remove_6 (by decide) ?_
  refine g_isub_n dX3_remove_7 (by omega) ?_
  refine g_callSN_i (kX5_isIn (nI i) (nI 0) (nI (Y r 1 - 1))) oX5_isIn pX5_isIn lX3_30 dX3_remove_8 rfl rfl (Nat.le_of_ble_eq_true rfl) (Nat.le_of_ble_eq_true rfl) (by decide) (fun M' h' => ?_)
  subst h'
  rw [zin_t (by omega) (by omega) (by omega)]
  refine g_if_ne_b (tgt := 15) dX3_remove_11 (by decide) (fun h1 => ?_) (fun h1 => ?_)
  rotate_left
  · cases h1
  refine g_aload_n dX3_remove_15 rfl ?_
  refine g_get fX3_11 dX3_remove_16 (cM_R hr.1) rfl ?_
  refine g_iload_n dX3_remove_19 rfl ?_
  refine g_cwl dX3_remove_20 hr.2.1 (by omega) ?_
  refine g_astore_n dX3_remove_21 (by decide) ?_
  refine g_iload_n dX3_remove_22 rfl ?_
  refine g_iconst (v := nI 1) dX3_remove_23 (by decide) ?_
  refine g_iadd_n dX3_remove_24 ?_
  refine g_istore_n dX3_remove_25 (by decide) ?_
  have e : Y = uA Y (r + 1) (shA (Y (r + 1)) i (i + 1)) := by
    rw [shA_0]
    funext a
    by_cases h : a = r + 1
    · subst h; rw [uA_s]
    · rw [uA_n _ _ h]
  have := rr1 (M0 := M0) hr hP hs hi (Y r 1 - (i + 1)) (i + 1) (by omega) (by omega)
  rw [← e] at this
  exact g_loc rfl this
end ROLL
