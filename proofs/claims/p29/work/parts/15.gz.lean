/-! G: rules by numbers: every int is nI of a number, arrays of ints are functions of numbers -/abbrev iA (n : Nat) (X : Nat → Nat) : zE := .inl (0, n, .inl (fun j => nI (X j)))
def uN (X : Nat → Nat) (k v : Nat) : Nat → Nat := fun j => if j = k then v else X j
theorem uN_s (X : Nat → Nat) (k v : Nat) : uN X k v k = v := by simp [uN]
theorem uN_n (X : Nat → Nat) {k j : Nat} (v : Nat) (h : j ≠ k) : uN X k v j = X j := by simp [uN, h]
theorem upd_nI (X : Nat → Nat) (k v : Nat) : upd (fun j => nI (X j)) k (nI v) = fun j => nI (uN X k v j) := by
  funext j
  by_cases h : j = k <;> simp [upd, uN, h]
theorem nI_shl (k : Nat) : ∀ w, w < 31 → (nI 1 <<< (nI w &&& 31)) = nI (2 ^ w) := by decide +kernel
theorem nI_s31 : ∀ w, w < 31 → ((nI w &&& 31).toBitVec.smod 32).toNat = w := by decide +kernel
theorem nI_shr {n w : Nat} (hn : n < 2 ^ 31) (hw : w < 31) : nI n >>> (nI w &&& 31) = nI (n / 2 ^ w) := pk_shrN hn _ w (nI_s31 w hw)
theorem nI_or (a b : Nat) : nI a ||| nI b = nI (a ||| b) := by
  apply Int32.toBitVec_inj.mp
  show BitVec.ofNat 32 a ||| BitVec.ofNat 32 b = BitVec.ofNat 32 (a ||| b)
  exact (BitVec.ofNat_or ..).symm
theorem nI_and (a b : Nat) : nI a &&& nI b = nI (a &&& b) := by
  apply Int32.toBitVec_inj.mp
  show BitVec.ofNat 32 a &&& BitVec.ofNat 32 b = BitVec.ofNat 32 (a &&& b)
  exact (BitVec.ofNat_and ..).symm
theorem nI_and1 (n : Nat) : nI n &&& nI 1 = nI (n % 2) := by rw [nI_and, Nat.and_one_is_mod]
theorem nar_b (b : Bool) : narrow .boolean (.int (nI b.toNat)) = .int (nI b.toNat) := by cases b <;> rfl
section GZ
variable {mi : zI} {d kc ks : Nat} {nx : Option Nat} {pc : Nat} {L : List (Nat × Value)} {S : List Value} {M : zM} {F : zP}
theorem g_iadd_n {a b : Nat} (hd : decode mi.2.2.1 pc = .ok (.iadd, 1)) (k : G mi d kc ks nx (pc + 1) L (.int (nI (a + b)) :: S) M F) : G mi d kc ks nx pc L (.int (nI b) :: .int (nI a) :: S) M F := g_iadd hd (by rw [nI_add]; exact k)
theorem g_isub_n {a b : Nat} (hd : decode mi.2.2.1 pc = .ok (.isub, 1)) (h : b ≤ a) (k : G mi d kc ks nx (pc + 1) L (.int (nI (a - b)) :: S) M F) : G mi d kc ks nx pc L (.int (nI b) :: .int (nI a) :: S) M F := g_isub hd (by rw [pk_sub h]; exact k)
theorem g_imul_n {a b : Nat} (hd : decode mi.2.2.1 pc = .ok (.imul, 1)) (k : G mi d kc ks nx (pc + 1) L (.int (nI (a * b)) :: S) M F) : G mi d kc ks nx pc L (.int (nI b) :: .int (nI a) :: S) M F := g_imul hd (by rw [pk_mul]; exact k)
theorem g_idiv_n {a b : Nat} (hd : decode mi.2.2.1 pc = .ok (.idiv, 1)) (ha : a < 2 ^ 31) (h0 : 0 < b) (hb : b < 2 ^ 31) (k : G mi d kc ks nx (pc + 1) L (.int (nI (a / b)) :: S) M F) : G mi d kc ks nx pc L (.int (nI b) :: .int (nI a) :: S) M F := g_idiv hd (nI_ne0 h0 hb) (by rw [pk_div ha h0 hb]; exact k)
theorem g_irem_n {a b : Nat} (hd : decode mi.2.2.1 pc = .ok (.irem, 1)) (ha : a < 2 ^ 31) (h0 : 0 < b) (hb : b < 2 ^ 31) (k : G mi d kc ks nx (pc + 1) L (.int (nI (a % b)) :: S) M F) : G mi d kc ks nx pc L (.int (nI b) :: .int (nI a) :: S) M F := g_irem hd (nI_ne0 h0 hb) (by rw [pk_rem ha h0 hb]; exact k)
theorem g_iinc_n {q c a : Nat} {n : Int} (hd : decode mi.2.2.1 pc = .ok (.iinc q n, 3)) (hl : zl L q = some (.int (nI a))) (hc : Int32.ofInt n = nI c) (hn : q < mi.2.2.2.1) (k : G mi d kc ks nx (pc + 3) ((q, .int (nI (a + c))) :: zf1 q L) S M F) : G mi d kc ks nx pc L S M F := g_iinc hd hl (by rw [hc, nI_add]) hn k
theorem g_iinc_m {q a : Nat} (hd : decode mi.2.2.1 pc = .ok (.iinc q (-1), 3)) (hl : zl L q = some (.int (nI (a + 1)))) (hn : q < mi.2.2.2.1) (k : G mi d kc ks nx (pc + 3) ((q, .int (nI a)) :: zf1 q L) S M F) : G mi d kc ks nx pc L S M F := g_iinc hd hl (pk_m1 a) hn k
theorem g_ishl_n {w : Nat} (hd : decode mi.2.2.1 pc = .ok (.ishl, 1)) (hw : w < 31) (k : G mi d kc ks nx (pc + 1) L (.int (nI (2 ^ w)) :: S) M F) : G mi d kc ks nx pc L (.int (nI w) :: .int (nI 1) :: S) M F := g_ishl hd (by rw [nI_shl 0 w hw]; exact k)
theorem g_ishr_n {a w : Nat} (hd : decode mi.2.2.1 pc = .ok (.ishr, 1)) (ha : a < 2 ^ 31) (hw : w < 31) (k : G mi d kc ks nx (pc + 1) L (.int (nI (a / 2 ^ w)) :: S) M F) : G mi d kc ks nx pc L (.int (nI w) :: .int (nI a) :: S) M F := g_ishr hd (by rw [nI_shr ha hw]; exact k)
theorem g_iand1_n {a : Nat} (hd : decode mi.2.2.1 pc = .ok (.iand, 1)) (k : G mi d kc ks nx (pc + 1) L (.int (nI (a % 2)) :: S) M F) : G mi d kc ks nx pc L (.int (nI 1) :: .int (nI a) :: S) M F := g_iand hd (by rw [nI_and1]; exact k)
theorem g_ior_n {a b : Nat} (hd : decode mi.2.2.1 pc = .ok (.ior, 1)) (k : G mi d kc ks nx (pc + 1) L (.int (nI (a ||| b)) :: S) M F) : G mi d kc ks nx pc L (.int (nI b) :: .int (nI a) :: S) M F := g_ior hd (by rw [nI_or]; exact k)
theorem g_iald_n {b n i : Nat} {X : Nat → Nat} (hd : decode mi.2.2.1 pc = .ok (.iaload, 1)) (hM : M b = some (iA n X)) (hi : i < n) (hn : n < 2 ^ 31) (kk : G mi d kc ks nx (pc + 1) L (.int (nI (X i)) :: S) M F) : G mi d kc ks nx pc L (.int (nI i) :: .ref b :: S) M F := g_iald hd hM (vp_in_nI hi hn) (by rw [nI_clamp (Nat.lt_trans hi hn)]; exact kk)
theorem g_iast_n {b n i v : Nat} {X : Nat → Nat} (hd : decode mi.2.2.1 pc = .ok (.iastore, 1)) (hM : M b = some (iA n X)) (hi : i < n) (hn : n < 2 ^ 31) (hb : 8 ≤ b) (kk : G mi d kc ks nx (pc + 1) L S (zu M b (iA n (uN X i v))) F) : G mi d kc ks nx pc L (.int (nI v) :: .int (nI i) :: .ref b :: S) M F := g_iast hd hM (vp_in_nI hi hn) hb (by rw [nI_clamp (Nat.lt_trans hi hn), upd_nI]; exact kk)
theorem g_ireturn_b {b : Bool} (hd : decode mi.2.2.1 pc = .ok (.ireturn, 1)) (hr : mi.2.2.2.2.1 = some .boolean) (h : F M nx (.inl (some (.int (nI b.toNat))))) : G mi d kc ks nx pc L [.int (nI b.toNat)] M F := g_ireturn hd hr (nar_b b) h
theorem g_icmp_eq_n {a b : Nat} {off : Int} {tgt : Nat} (hd : decode mi.2.2.1 pc = .ok (.if_icmp .eq off, 3)) (ht : (pc : Int) + off = (tgt : Int)) (ha : a < 2 ^ 31) (hb : b < 2 ^ 31) (kt : a = b → G mi d kc ks nx tgt L S M F) (kf : ¬ a = b → G mi d kc ks nx (pc + 3) L S M F) : G mi d kc ks nx pc L (.int (nI b) :: .int (nI a) :: S) M F := by
  have e1 := nI_eq ha hb
  have e2 := nI_ltI ha hb
  have e3 := nI_leI hb ha
  have e4 := nI_ltI hb ha
  have e5 := nI_leI ha hb
  refine g_icmp_eq hd ht (fun h => kt ?_) (fun h => kf ?_)
  all_goals (simp only [e1, e2, e3, e4, e5] at h; omega)
theorem g_if_eq_n {a : Nat} {off : Int} {tgt : Nat} (hd : decode mi.2.2.1 pc = .ok (.ifCond .eq off, 3)) (ht : (pc : Int) + off = (tgt : Int)) (ha : a < 2 ^ 31) (kt : a = 0 → G mi d kc ks nx tgt L S M F) (kf : ¬ a = 0 → G mi d kc ks nx (pc + 3) L S M F) : G mi d kc ks nx pc L (.int (nI a) :: S) M F := by
  have hb : 0 < 2 ^ 31 := by decide
  have e1 := nI_eq ha hb
  have e2 := nI_ltI ha hb
  have e3 := nI_leI hb ha
  have e4 := nI_ltI hb ha
  have e5 := nI_leI ha hb
  rw [nI_0] at e1 e2 e3 e4 e5
  refine g_if_eq hd ht (fun h => kt ?_) (fun h => kf ?_)
  all_goals (simp only [e1, e2, e3, e4, e5] at h; omega)
theorem g_icmp_ne_n {a b : Nat} {off : Int} {tgt : Nat} (hd : decode mi.2.2.1 pc = .ok (.if_icmp .ne off, 3)) (ht : (pc : Int) + off = (tgt : Int)) (ha : a < 2 ^ 31) (hb : b < 2 ^ 31) (kt : ¬ a = b → G mi d kc ks nx tgt L S M F) (kf : a = b → G mi d kc ks nx (pc + 3) L S M F) : G mi d kc ks nx pc L (.int (nI b) :: .int (nI a) :: S) M F := by
  have e1 := nI_eq ha hb
  have e2 := nI_ltI ha hb
  have e3 := nI_leI hb ha
  have e4 := nI_ltI hb ha
  have e5 := nI_leI ha hb
  refine g_icmp_ne hd ht (fun h => kt ?_) (fun h => kf ?_)
  all_goals (simp only [e1, e2, e3, e4, e5] at h; omega)
theorem g_if_ne_n {a : Nat} {off : Int} {tgt : Nat} (hd : decode mi.2.2.1 pc = .ok (.ifCond .ne off, 3)) (ht : (pc : Int) + off = (tgt : Int)) (ha : a < 2 ^ 31) (kt : ¬ a = 0 → G mi d kc ks nx tgt L S M F) (kf : a = 0 → G mi d kc ks nx (pc + 3) L S M F) : G mi d kc ks nx pc L (.int (nI a) :: S) M F := by
  have hb : 0 < 2 ^ 31 := by decide
  have e1 := nI_eq ha hb
  have e2 := nI_ltI ha hb
  have e3 := nI_leI hb ha
  have e4 := nI_ltI hb ha
  have e5 := nI_leI ha hb
  rw [nI_0] at e1 e2 e3 e4 e5
  refine g_if_ne hd ht (fun h => kt ?_) (fun h => kf ?_)
  all_goals (simp only [e1, e2, e3, e4, e5] at h; omega)
theorem g_icmp_lt_n {a b : Nat} {off : Int} {tgt : Nat} (hd : decode mi.2.2.1 pc = .ok (.if_icmp .lt off, 3)) (ht : (pc : Int) + off = (tgt : Int)) (ha : a < 2 ^ 31) (hb : b < 2 ^ 31) (kt : a < b → G mi d kc ks nx tgt L S M F) (kf : b ≤ a → G mi d kc ks nx (pc + 3) L S M F) : G mi d kc ks nx pc L (.int (nI b) :: .int (nI a) :: S) M F := by
  have e1 := nI_eq ha hb
  have e2 := nI_ltI ha hb
  have e3 := nI_leI hb ha
  have e4 := nI_ltI hb ha
  have e5 := nI_leI ha hb
  refine g_icmp_lt hd ht (fun h => kt ?_) (fun h => kf ?_)
  all_goals (simp only [e1, e2, e3, e4, e5] at h; omega)
theorem g_if_lt_n {a : Nat} {off : Int} {tgt : Nat} (hd : decode mi.2.2.1 pc = .ok (.ifCond .lt off, 3)) (ht : (pc : Int) + off = (tgt : Int)) (ha : a < 2 ^ 31) (kt : a < 0 → G mi d kc ks nx tgt L S M F) (kf : 0 ≤ a → G mi d kc ks nx (pc + 3) L S M F) : G mi d kc ks nx pc L (.int (nI a) :: S) M F := by
  have hb : 0 < 2 ^ 31 := by decide
  have e1 := nI_eq ha hb
  have e2 := nI_ltI ha hb
  have e3 := nI_leI hb ha
  have e4 := nI_ltI hb ha
  have e5 := nI_leI ha hb
  rw [nI_0] at e1 e2 e3 e4 e5
  refine g_if_lt hd ht (fun h => kt ?_) (fun h => kf ?_)
  all_goals (simp only [e1, e2, e3, e4, e5] at h; omega)
theorem g_icmp_ge_n {a b : Nat} {off : Int} {tgt : Nat} (hd : decode mi.2.2.1 pc = .ok (.if_icmp .ge off, 3)) (ht : (pc : Int) + off = (tgt : Int)) (ha : a < 2 ^ 31) (hb : b < 2 ^ 31) (kt : b ≤ a → G mi d kc ks nx tgt L S M F) (kf : a < b → G mi d kc ks nx (pc + 3) L S M F) : G mi d kc ks nx pc L (.int (nI b) :: .int (nI a) :: S) M F := by
  have e1 := nI_eq ha hb
  have e2 := nI_ltI ha hb
  have e3 := nI_leI hb ha
  have e4 := nI_ltI hb ha
  have e5 := nI_leI ha hb
  refine g_icmp_ge hd ht (fun h => kt ?_) (fun h => kf ?_)
  all_goals (simp only [e1, e2, e3, e4, e5] at h; omega)
theorem g_if_ge_n {a : Nat} {off : Int} {tgt : Nat} (hd : decode mi.2.2.1 pc = .ok (.ifCond .ge off, 3)) (ht : (pc : Int) + off = (tgt : Int)) (ha : a < 2 ^ 31) (kt : 0 ≤ a → G mi d kc ks nx tgt L S M F) (kf : a < 0 → G mi d kc ks nx (pc + 3) L S M F) : G mi d kc ks nx pc L (.int (nI a) :: S) M F := by
  have hb : 0 < 2 ^ 31 := by decide
  have e1 := nI_eq ha hb
  have e2 := nI_ltI ha hb
  have e3 := nI_leI hb ha
  have e4 := nI_ltI hb ha
  have e5 := nI_leI ha hb
  rw [nI_0] at e1 e2 e3 e4 e5
  refine g_if_ge hd ht (fun h => kt ?_) (fun h => kf ?_)
  all_goals (simp only [e1, e2, e3, e4, e5] at h; omega)
theorem g_icmp_gt_n {a b : Nat} {off : Int} {tgt : Nat} (hd : decode mi.2.2.1 pc = .ok (.if_icmp .gt off, 3)) (ht : (pc : Int) + off = (tgt : Int)) (ha : a < 2 ^ 31) (hb : b < 2 ^ 31) (kt : b < a → G mi d kc ks nx tgt L S M F) (kf : a ≤ b → G mi d kc ks nx (pc + 3) L S M F) : G mi d kc ks nx pc L (.int (nI b) :: .int (nI a) :: S) M F := by
  have e1 := nI_eq ha hb
  have e2 := nI_ltI ha hb
  have e3 := nI_leI hb ha
  have e4 := nI_ltI hb ha
  have e5 := nI_leI ha hb
  refine g_icmp_gt hd ht (fun h => kt ?_) (fun h => kf ?_)
  all_goals (simp only [e1, e2, e3, e4, e5] at h; omega)
theorem g_if_gt_n {a : Nat} {off : Int} {tgt : Nat} (hd : decode mi.2.2.1 pc = .ok (.ifCond .gt off, 3)) (ht : (pc : Int) + off = (tgt : Int)) (ha : a < 2 ^ 31) (kt : 0 < a → G mi d kc ks nx tgt L S M F) (kf : a ≤ 0 → G mi d kc ks nx (pc + 3) L S M F) : G mi d kc ks nx pc L (.int (nI a) :: S) M F := by
  have hb : 0 < 2 ^ 31 := by decide
  have e1 := nI_eq ha hb
  have e2 := nI_ltI ha hb
  have e3 := nI_leI hb ha
  have e4 := nI_ltI hb ha
  have e5 := nI_leI ha hb
  rw [nI_0] at e1 e2 e3 e4 e5
  refine g_if_gt hd ht (fun h => kt ?_) (fun h => kf ?_)
  all_goals (simp only [e1, e2, e3, e4, e5] at h; omega)
theorem g_icmp_le_n {a b : Nat} {off : Int} {tgt : Nat} (hd : decode mi.2.2.1 pc = .ok (.if_icmp .le off, 3)) (ht : (pc : Int) + off = (tgt : Int)) (ha : a < 2 ^ 31) (hb : b < 2 ^ 31) (kt : a ≤ b → G mi d kc ks nx tgt L S M F) (kf : b < a → G mi d kc ks nx (pc + 3) L S M F) : G mi d kc ks nx pc L (.int (nI b) :: .int (nI a) :: S) M F := by
  have e1 := nI_eq ha hb
  have e2 := nI_ltI ha hb
  have e3 := nI_leI hb ha
  have e4 := nI_ltI hb ha
  have e5 := nI_leI ha hb
  refine g_icmp_le hd ht (fun h => kt ?_) (fun h => kf ?_)
  all_goals (simp only [e1, e2, e3, e4, e5] at h; omega)
theorem g_if_le_n {a : Nat} {off : Int} {tgt : Nat} (hd : decode mi.2.2.1 pc = .ok (.ifCond .le off, 3)) (ht : (pc : Int) + off = (tgt : Int)) (ha : a < 2 ^ 31) (kt : a ≤ 0 → G mi d kc ks nx tgt L S M F) (kf : 0 < a → G mi d kc ks nx (pc + 3) L S M F) : G mi d kc ks nx pc L (.int (nI a) :: S) M F := by
  have hb : 0 < 2 ^ 31 := by decide
  have e1 := nI_eq ha hb
  have e2 := nI_ltI ha hb
  have e3 := nI_leI hb ha
  have e4 := nI_ltI hb ha
  have e5 := nI_leI ha hb
  rw [nI_0] at e1 e2 e3 e4 e5
  refine g_if_le hd ht (fun h => kt ?_) (fun h => kf ?_)
  all_goals (simp only [e1, e2, e3, e4, e5] at h; omega)
theorem g_if_eq_b {b : Bool} {off : Int} {tgt : Nat} (hd : decode mi.2.2.1 pc = .ok (.ifCond .eq off, 3)) (ht : (pc : Int) + off = (tgt : Int)) (kt : b = false → G mi d kc ks nx tgt L S M F) (kf : b = true → G mi d kc ks nx (pc + 3) L S M F) : G mi d kc ks nx pc L (.int (nI b.toNat) :: S) M F := by
  refine g_if_eq_n hd ht (by cases b <;> decide) (fun h => kt ?_) (fun h => kf ?_)
  all_goals (cases b <;> simp_all)
theorem g_if_ne_b {b : Bool} {off : Int} {tgt : Nat} (hd : decode mi.2.2.1 pc = .ok (.ifCond .ne off, 3)) (ht : (pc : Int) + off = (tgt : Int)) (kt : b = true → G mi d kc ks nx tgt L S M F) (kf : b = false → G mi d kc ks nx (pc + 3) L S M F) : G mi d kc ks nx pc L (.int (nI b.toNat) :: S) M F := by
  refine g_if_ne_n hd ht (by cases b <;> decide) (fun h => kt ?_) (fun h => kf ?_)
  all_goals (cases b <;> simp_all)
end GZ
section GV
variable {mi : zI} {d : Nat} {kc ks pc : Nat} {L : List (Nat × Value)} {S0 S : List Value} {M : zM} {F : zP}
variable {mi' : zI} {d' idx n b : Nat} {As : List Value} {P : zM → Prop}
theorem g_callV_i {r : Int32} {ci : Nat} {fs : List Value} {rr : vw_C} (hc : Cn mi' d' 0 0 none (.ref b :: As) M (zi r P)) (ho : zok mi' n) (hoc : zoc mi') (hl : zLV mi.2.1 idx mi') (hd : decode mi.2.2.1 pc = .ok (.invokevirtual idx, 3)) (hs : S0 = As.reverse ++ .ref b :: S) (hM : M b = some (.inr (ci, fs))) (hci : vwCl[ci]? = some rr) (hr : rr.1 = mi'.1.cls) (hA : As.length = n) (hg : (lg_sl (.ref b :: As)).length ≤ mi'.2.2.2.1) (hS : (S.map fun v => v.category).sum ≤ 8) (h1 : d' + 1 ≤ d) (k : ∀ M1, P M1 → G mi d kc ks none (pc + 3) L (.int r :: S) M1 F) : G mi d kc ks none pc L S0 M F := by
  refine g_callV hc ho hoc hl hd hs hM hci hr hA hg hS h1 (Nat.le_refl _) (Nat.le_refl _) ?_ ?_
  · rintro M1 nx1 E ⟨-, h, -⟩
    cases h
  · rintro M1 nx1 v ⟨rfl, h, hP⟩
    cases h
    exact k M1 hP
theorem g_callV_j {r : Int64} {ci : Nat} {fs : List Value} {rr : vw_C} (hc : Cn mi' d' 0 0 none (.ref b :: As) M (zj r P)) (ho : zok mi' n) (hoc : zoc mi') (hl : zLV mi.2.1 idx mi') (hd : decode mi.2.2.1 pc = .ok (.invokevirtual idx, 3)) (hs : S0 = As.reverse ++ .ref b :: S) (hM : M b = some (.inr (ci, fs))) (hci : vwCl[ci]? = some rr) (hr : rr.1 = mi'.1.cls) (hA : As.length = n) (hg : (lg_sl (.ref b :: As)).length ≤ mi'.2.2.2.1) (hS : (S.map fun v => v.category).sum ≤ 8) (h1 : d' + 1 ≤ d) (k : ∀ M1, P M1 → G mi d kc ks none (pc + 3) L (.long r :: S) M1 F) : G mi d kc ks none pc L S0 M F := by
  refine g_callV hc ho hoc hl hd hs hM hci hr hA hg hS h1 (Nat.le_refl _) (Nat.le_refl _) ?_ ?_
  · rintro M1 nx1 E ⟨-, h, -⟩
    cases h
  · rintro M1 nx1 v ⟨rfl, h, hP⟩
    cases h
    exact k M1 hP
theorem g_callV_d {r : UInt64} {ci : Nat} {fs : List Value} {rr : vw_C} (hc : Cn mi' d' 0 0 none (.ref b :: As) M (zd r P)) (ho : zok mi' n) (hoc : zoc mi') (hl : zLV mi.2.1 idx mi') (hd : decode mi.2.2.1 pc = .ok (.invokevirtual idx, 3)) (hs : S0 = As.reverse ++ .ref b :: S) (hM : M b = some (.inr (ci, fs))) (hci : vwCl[ci]? = some rr) (hr : rr.1 = mi'.1.cls) (hA : As.length = n) (hg : (lg_sl (.ref b :: As)).length ≤ mi'.2.2.2.1) (hS : (S.map fun v => v.category).sum ≤ 8) (h1 : d' + 1 ≤ d) (k : ∀ M1, P M1 → G mi d kc ks none (pc + 3) L (.double r :: S) M1 F) : G mi d kc ks none pc L S0 M F := by
  refine g_callV hc ho hoc hl hd hs hM hci hr hA hg hS h1 (Nat.le_refl _) (Nat.le_refl _) ?_ ?_
  · rintro M1 nx1 E ⟨-, h, -⟩
    cases h
  · rintro M1 nx1 v ⟨rfl, h, hP⟩
    cases h
    exact k M1 hP
theorem g_callV_g {r : UInt32} {ci : Nat} {fs : List Value} {rr : vw_C} (hc : Cn mi' d' 0 0 none (.ref b :: As) M (zg r P)) (ho : zok mi' n) (hoc : zoc mi') (hl : zLV mi.2.1 idx mi') (hd : decode mi.2.2.1 pc = .ok (.invokevirtual idx, 3)) (hs : S0 = As.reverse ++ .ref b :: S) (hM : M b = some (.inr (ci, fs))) (hci : vwCl[ci]? = some rr) (hr : rr.1 = mi'.1.cls) (hA : As.length = n) (hg : (lg_sl (.ref b :: As)).length ≤ mi'.2.2.2.1) (hS : (S.map fun v => v.category).sum ≤ 8) (h1 : d' + 1 ≤ d) (k : ∀ M1, P M1 → G mi d kc ks none (pc + 3) L (.float r :: S) M1 F) : G mi d kc ks none pc L S0 M F := by
  refine g_callV hc ho hoc hl hd hs hM hci hr hA hg hS h1 (Nat.le_refl _) (Nat.le_refl _) ?_ ?_
  · rintro M1 nx1 E ⟨-, h, -⟩
    cases h
  · rintro M1 nx1 v ⟨rfl, h, hP⟩
    cases h
    exact k M1 hP
theorem g_callV_v {ci : Nat} {fs : List Value} {rr : vw_C} (hc : Cn mi' d' 0 0 none (.ref b :: As) M (zv P)) (ho : zok mi' n) (hoc : zoc mi') (hl : zLV mi.2.1 idx mi') (hd : decode mi.2.2.1 pc = .ok (.invokevirtual idx, 3)) (hs : S0 = As.reverse ++ .ref b :: S) (hM : M b = some (.inr (ci, fs))) (hci : vwCl[ci]? = some rr) (hr : rr.1 = mi'.1.cls) (hA : As.length = n) (hg : (lg_sl (.ref b :: As)).length ≤ mi'.2.2.2.1) (hS : (S.map fun v => v.category).sum ≤ 8) (h1 : d' + 1 ≤ d) (k : ∀ M1, P M1 → G mi d kc ks none (pc + 3) L (S) M1 F) : G mi d kc ks none pc L S0 M F := by
  refine g_callV hc ho hoc hl hd hs hM hci hr hA hg hS h1 (Nat.le_refl _) (Nat.le_refl _) ?_ ?_
  · rintro M1 nx1 E ⟨-, h, -⟩
    cases h
  · rintro M1 nx1 v ⟨rfl, h, hP⟩
    cases h
    exact k M1 hP
theorem g_callS_i {r : Int32} (hc : Cn mi' d' 0 0 none As M (zi r P)) (ho : zok mi' n) (hoc : zoc mi') (hl : zLS mi.2.1 idx mi') (hd : decode mi.2.2.1 pc = .ok (.invokestatic idx, 3)) (hs : S0 = As.reverse ++ S) (hA : As.length = n) (hg : (lg_sl As).length ≤ mi'.2.2.2.1) (hS : (S.map fun v => v.category).sum ≤ 8) (h1 : d' + 1 ≤ d) (k : ∀ M1, P M1 → G mi d kc ks none (pc + 3) L (.int r :: S) M1 F) : G mi d kc ks none pc L S0 M F := by
  refine g_callS hc ho hoc hl hd hs hA hg hS h1 (Nat.le_refl _) (Nat.le_refl _) ?_ ?_
  · rintro M1 nx1 E ⟨-, h, -⟩
    cases h
  · rintro M1 nx1 v ⟨rfl, h, hP⟩
    cases h
    exact k M1 hP
theorem g_callS_j {r : Int64} (hc : Cn mi' d' 0 0 none As M (zj r P)) (ho : zok mi' n) (hoc : zoc mi') (hl : zLS mi.2.1 idx mi') (hd : decode mi.2.2.1 pc = .ok (.invokestatic idx, 3)) (hs : S0 = As.reverse ++ S) (hA : As.length = n) (hg : (lg_sl As).length ≤ mi'.2.2.2.1) (hS : (S.map fun v => v.category).sum ≤ 8) (h1 : d' + 1 ≤ d) (k : ∀ M1, P M1 → G mi d kc ks none (pc + 3) L (.long r :: S) M1 F) : G mi d kc ks none pc L S0 M F := by
  refine g_callS hc ho hoc hl hd hs hA hg hS h1 (Nat.le_refl _) (Nat.le_refl _) ?_ ?_
  · rintro M1 nx1 E ⟨-, h, -⟩
    cases h
  · rintro M1 nx1 v ⟨rfl, h, hP⟩
    cases h
    exact k M1 hP
theorem g_callS_d {r : UInt64} (hc : Cn mi' d' 0 0 none As M (zd r P)) (ho : zok mi' n) (hoc : zoc mi') (hl : zLS mi.2.1 idx mi') (hd : decode mi.2.2.1 pc = .ok (.invokestatic idx, 3)) (hs : S0 = As.reverse ++ S) (hA : As.length = n) (hg : (lg_sl As).length ≤ mi'.2.2.2.1) (hS : (S.map fun v => v.category).sum ≤ 8) (h1 : d' + 1 ≤ d) (k : ∀ M1, P M1 → G mi d kc ks none (pc + 3) L (.double r :: S) M1 F) : G mi d kc ks none pc L S0 M F := by
  refine g_callS hc ho hoc hl hd hs hA hg hS h1 (Nat.le_refl _) (Nat.le_refl _) ?_ ?_
  · rintro M1 nx1 E ⟨-, h, -⟩
    cases h
  · rintro M1 nx1 v ⟨rfl, h, hP⟩
    cases h
    exact k M1 hP
theorem g_callS_g {r : UInt32} (hc : Cn mi' d' 0 0 none As M (zg r P)) (ho : zok mi' n) (hoc : zoc mi') (hl : zLS mi.2.1 idx mi') (hd : decode mi.2.2.1 pc = .ok (.invokestatic idx, 3)) (hs : S0 = As.reverse ++ S) (hA : As.length = n) (hg : (lg_sl As).length ≤ mi'.2.2.2.1) (hS : (S.map fun v => v.category).sum ≤ 8) (h1 : d' + 1 ≤ d) (k : ∀ M1, P M1 → G mi d kc ks none (pc + 3) L (.float r :: S) M1 F) : G mi d kc ks none pc L S0 M F := by
  refine g_callS hc ho hoc hl hd hs hA hg hS h1 (Nat.le_refl _) (Nat.le_refl _) ?_ ?_
  · rintro M1 nx1 E ⟨-, h, -⟩
    cases h
  · rintro M1 nx1 v ⟨rfl, h, hP⟩
    cases h
    exact k M1 hP
theorem g_callS_v (hc : Cn mi' d' 0 0 none As M (zv P)) (ho : zok mi' n) (hoc : zoc mi') (hl : zLS mi.2.1 idx mi') (hd : decode mi.2.2.1 pc = .ok (.invokestatic idx, 3)) (hs : S0 = As.reverse ++ S) (hA : As.length = n) (hg : (lg_sl As).length ≤ mi'.2.2.2.1) (hS : (S.map fun v => v.category).sum ≤ 8) (h1 : d' + 1 ≤ d) (k : ∀ M1, P M1 → G mi d kc ks none (pc + 3) L (S) M1 F) : G mi d kc ks none pc L S0 M F := by
  refine g_callS hc ho hoc hl hd hs hA hg hS h1 (Nat.le_refl _) (Nat.le_refl _) ?_ ?_
  · rintro M1 nx1 E ⟨-, h, -⟩
    cases h
  · rintro M1 nx1 v ⟨rfl, h, hP⟩
    cases h
    exact k M1 hP
theorem g_callSN_i {r : Int32} {host : String} (hc : Cn mi' d' 0 0 none As M (zi r P)) (ho : zok mi' n) (hoc : zoc mi') (hl : zLNS mi.2.1 idx mi' host) (hd : decode mi.2.2.1 pc = .ok (.invokestatic idx, 3)) (hs : S0 = As.reverse ++ S) (hA : As.length = n) (hg : (lg_sl As).length ≤ mi'.2.2.2.1) (hS : (S.map fun v => v.category).sum ≤ 8) (h1 : d' + 1 ≤ d) (k : ∀ M1, P M1 → G mi d kc ks none (pc + 3) L (.int r :: S) M1 F) : G mi d kc ks none pc L S0 M F := by
  refine g_callSN hc ho hoc hl hd hs hA hg hS h1 (Nat.le_refl _) (Nat.le_refl _) ?_ ?_
  · rintro M1 nx1 E ⟨-, h, -⟩
    cases h
  · rintro M1 nx1 v ⟨rfl, h, hP⟩
    cases h
    exact k M1 hP
theorem g_callSN_j {r : Int64} {host : String} (hc : Cn mi' d' 0 0 none As M (zj r P)) (ho : zok mi' n) (hoc : zoc mi') (hl : zLNS mi.2.1 idx mi' host) (hd : decode mi.2.2.1 pc = .ok (.invokestatic idx, 3)) (hs : S0 = As.reverse ++ S) (hA : As.length = n) (hg : (lg_sl As).length ≤ mi'.2.2.2.1) (hS : (S.map fun v => v.category).sum ≤ 8) (h1 : d' + 1 ≤ d) (k : ∀ M1, P M1 → G mi d kc ks none (pc + 3) L (.long r :: S) M1 F) : G mi d kc ks none pc L S0 M F := by
  refine g_callSN hc ho hoc hl hd hs hA hg hS h1 (Nat.le_refl _) (Nat.le_refl _) ?_ ?_
  · rintro M1 nx1 E ⟨-, h, -⟩
    cases h
  · rintro M1 nx1 v ⟨rfl, h, hP⟩
    cases h
    exact k M1 hP
theorem g_callSN_d {r : UInt64} {host : String} (hc : Cn mi' d' 0 0 none As M (zd r P)) (ho : zok mi' n) (hoc : zoc mi') (hl : zLNS mi.2.1 idx mi' host) (hd : decode mi.2.2.1 pc = .ok (.invokestatic idx, 3)) (hs : S0 = As.reverse ++ S) (hA : As.length = n) (hg : (lg_sl As).length ≤ mi'.2.2.2.1) (hS : (S.map fun v => v.category).sum ≤ 8) (h1 : d' + 1 ≤ d) (k : ∀ M1, P M1 → G mi d kc ks none (pc + 3) L (.double r :: S) M1 F) : G mi d kc ks none pc L S0 M F := by
  refine g_callSN hc ho hoc hl hd hs hA hg hS h1 (Nat.le_refl _) (Nat.le_refl _) ?_ ?_
  · rintro M1 nx1 E ⟨-, h, -⟩
    cases h
  · rintro M1 nx1 v ⟨rfl, h, hP⟩
    cases h
    exact k M1 hP
theorem g_callSN_g {r : UInt32} {host : String} (hc : Cn mi' d' 0 0 none As M (zg r P)) (ho : zok mi' n) (hoc : zoc mi') (hl : zLNS mi.2.1 idx mi' host) (hd : decode mi.2.2.1 pc = .ok (.invokestatic idx, 3)) (hs : S0 = As.reverse ++ S) (hA : As.length = n) (hg : (lg_sl As).length ≤ mi'.2.2.2.1) (hS : (S.map fun v => v.category).sum ≤ 8) (h1 : d' + 1 ≤ d) (k : ∀ M1, P M1 → G mi d kc ks none (pc + 3) L (.float r :: S) M1 F) : G mi d kc ks none pc L S0 M F := by
  refine g_callSN hc ho hoc hl hd hs hA hg hS h1 (Nat.le_refl _) (Nat.le_refl _) ?_ ?_
  · rintro M1 nx1 E ⟨-, h, -⟩
    cases h
  · rintro M1 nx1 v ⟨rfl, h, hP⟩
    cases h
    exact k M1 hP
theorem g_callSN_v {host : String} (hc : Cn mi' d' 0 0 none As M (zv P)) (ho : zok mi' n) (hoc : zoc mi') (hl : zLNS mi.2.1 idx mi' host) (hd : decode mi.2.2.1 pc = .ok (.invokestatic idx, 3)) (hs : S0 = As.reverse ++ S) (hA : As.length = n) (hg : (lg_sl As).length ≤ mi'.2.2.2.1) (hS : (S.map fun v => v.category).sum ≤ 8) (h1 : d' + 1 ≤ d) (k : ∀ M1, P M1 → G mi d kc ks none (pc + 3) L (S) M1 F) : G mi d kc ks none pc L S0 M F := by
  refine g_callSN hc ho hoc hl hd hs hA hg hS h1 (Nat.le_refl _) (Nat.le_refl _) ?_ ?_
  · rintro M1 nx1 E ⟨-, h, -⟩
    cases h
  · rintro M1 nx1 v ⟨rfl, h, hP⟩
    cases h
    exact k M1 hP
end GV
