/-! the class in memory: every object of it as a row of numbers -/
def ko (o : Nat) : Nat := bif Nat.beq o 0 then 4 else bif Nat.beq o 1 then 3 else bif Nat.beq o 2 then 25 else bif Nat.ble o 10 then 1 else bif Nat.beq o 11 then 3 else bif Nat.beq o 12 then 26 else bif Nat.ble o 24 then 1 else bif Nat.beq o 25 then 27 else 28
/-- the kind of an address: 0 to 5 objects of a class, 20 to 28 arrays, 99 none of the class's -/
def kq (q : Nat) : Nat := bif Nat.ble 233 q then 99 else bif Nat.ble 71 q then ko ((q - 71) % 27) else bif Nat.ble q 7 then 99 else bif Nat.beq q 8 then 5 else bif Nat.ble q 62 then ko ((q - 9) % 27) else bif Nat.beq q 63 then 20 else bif Nat.beq q 64 then 2 else bif Nat.beq q 65 then 21 else bif Nat.beq q 66 then 22 else bif Nat.beq q 67 then 0 else bif Nat.beq q 68 then 23 else bif Nat.beq q 69 then 24 else 1
abbrev lF (f : Nat → Nat) : List Value := [.int (nI (f 0)), .int (nI (f 1)), .int (nI (f 2)), .int (nI (f 3)), .int (nI (f 4)), .int (nI (f 5)), .int (nI (f 6)), .int (nI (f 7)), .int (nI (f 8)), .int (nI (f 9))]
abbrev aR (t n : Nat) (g : Nat → Option Nat) : zE := .inl (t, n, .inr (.inr (.inr (.inr g))))
def oN (n : Nat) : Option Nat := bif Nat.beq n 0 then none else some n
def shp (k q : Nat) (f : Nat → Nat) : zE :=
  bif Nat.beq k 1 then .inr (1, lF f) else bif Nat.beq k 3 then .inr (3, [.ref (q + 1), .int (nI (f 1))]) else bif Nat.beq k 4 then .inr (4, [.ref (q + 1), .ref (q + 11), .ref (q + 25), .ref (q + 26), .int (nI (f 4)), .int (nI (f 5)), .int (nI (f 6))]) else bif Nat.beq k 25 then aR 3 8 (fun j => some (f j)) else bif Nat.beq k 26 then aR 3 12 (fun j => some (f j)) else bif Nat.beq k 27 then iA 3 f else bif Nat.beq k 28 then iA 5 f else bif Nat.beq k 20 then aR 4 6 (fun j => some (f j)) else bif Nat.beq k 21 then iA 60 f else bif Nat.beq k 22 then iA 6 f else bif Nat.beq k 23 then aR 3 20 (fun j => oN (f j)) else bif Nat.beq k 24 then iA 3 f else bif Nat.beq k 0 then .inr (0, [.ref 68, .int (nI (f 1)), .ref 69, .int (nI (f 3))]) else bif Nat.beq k 2 then .inr (2, [.ref 65, .int (nI (f 1)), .ref 66, .int (nI (f 3)), .int (nI (f 4))]) else .inr (5, [.ref 9, .ref 36, .int (nI (f 2)), .ref 63, .int (nI (f 4)), .ref 64, .ref 67, .ref 70])
def cM (M0 : zM) (Y : Nat → Nat → Nat) : zM := fun q => bif Nat.beq (kq q) 99 then M0 q else some (shp (kq q) q (Y q))
def uA (Y : Nat → Nat → Nat) (q : Nat) (f : Nat → Nat) : Nat → Nat → Nat := fun a => if a = q then f else Y a
theorem uA_s (Y : Nat → Nat → Nat) (q : Nat) (f : Nat → Nat) : uA Y q f q = f := by simp [uA]
theorem uA_n (Y : Nat → Nat → Nat) {q a : Nat} (f : Nat → Nat) (h : a ≠ q) : uA Y q f a = Y a := by simp [uA, h]
theorem cM_k {M0 : zM} {Y : Nat → Nat → Nat} {q k : Nat} (h : kq q = k) (hk : k ≠ 99) : cM M0 Y q = some (shp k q (Y q)) := by
  subst h
  simp only [cM, beq_f hk, cond_false]
theorem cM_o {M0 : zM} {Y : Nat → Nat → Nat} {q : Nat} (h : kq q = 99) : cM M0 Y q = M0 q := by
  simp only [cM, h]
  rfl
theorem zu_cM {M0 : zM} {Y : Nat → Nat → Nat} {q k : Nat} (h : kq q = k) (hk : k ≠ 99) (f : Nat → Nat) : zu (cM M0 Y) q (shp k q f) = cM M0 (uA Y q f) := by
  funext a
  by_cases ha : a = q
  · subst ha
    rw [zu_s, cM_k h hk, uA_s]
  · rw [zu_n _ _ ha]
    simp only [cM, uA_n _ _ ha]
theorem kq_8 {q k : Nat} (h : kq q = k) (hk : k ≠ 99) : 8 ≤ q := by
  refine Nat.not_lt.mp fun hq => hk ?_
  rw [← h]
  rcases (show q = 0 ∨ q = 1 ∨ q = 2 ∨ q = 3 ∨ q = 4 ∨ q = 5 ∨ q = 6 ∨ q = 7 by omega) with rfl | rfl | rfl | rfl | rfl | rfl | rfl | rfl <;> rfl
theorem cM_L {M0 : zM} {Y : Nat → Nat → Nat} {q : Nat} (h : kq q = 1) : cM M0 Y q = some (.inr (1, lF (Y q))) := cM_k h (by decide)
theorem cM_R {M0 : zM} {Y : Nat → Nat → Nat} {q : Nat} (h : kq q = 3) : cM M0 Y q = some (.inr (3, [.ref (q + 1), .int (nI (Y q 1))])) := cM_k h (by decide)
theorem cM_S {M0 : zM} {Y : Nat → Nat → Nat} {q : Nat} (h : kq q = 4) : cM M0 Y q = some (.inr (4, [.ref (q + 1), .ref (q + 11), .ref (q + 25), .ref (q + 26), .int (nI (Y q 4)), .int (nI (Y q 5)), .int (nI (Y q 6))])) := cM_k h (by decide)
theorem cM_P {M0 : zM} {Y : Nat → Nat → Nat} {q : Nat} (h : kq q = 0) : cM M0 Y q = some (.inr (0, [.ref 68, .int (nI (Y q 1)), .ref 69, .int (nI (Y q 3))])) := cM_k h (by decide)
theorem cM_T {M0 : zM} {Y : Nat → Nat → Nat} {q : Nat} (h : kq q = 2) : cM M0 Y q = some (.inr (2, [.ref 65, .int (nI (Y q 1)), .ref 66, .int (nI (Y q 3)), .int (nI (Y q 4))])) := cM_k h (by decide)
theorem cM_H {M0 : zM} {Y : Nat → Nat → Nat} {q : Nat} (h : kq q = 5) : cM M0 Y q = some (.inr (5, [.ref 9, .ref 36, .int (nI (Y q 2)), .ref 63, .int (nI (Y q 4)), .ref 64, .ref 67, .ref 70])) := cM_k h (by decide)
/-- an array of ints -/
def kI (q n : Nat) : Prop := (kq q = 27 ∧ n = 3) ∨ (kq q = 28 ∧ n = 5) ∨ (kq q = 21 ∧ n = 60) ∨ (kq q = 22 ∧ n = 6) ∨ (kq q = 24 ∧ n = 3)
theorem cM_I {M0 : zM} {Y : Nat → Nat → Nat} {q n : Nat} (h : kI q n) : cM M0 Y q = some (iA n (Y q)) := by
  rcases h with ⟨h, rfl⟩ | ⟨h, rfl⟩ | ⟨h, rfl⟩ | ⟨h, rfl⟩ | ⟨h, rfl⟩
  · exact cM_k h (by decide)
  · exact cM_k h (by decide)
  · exact cM_k h (by decide)
  · exact cM_k h (by decide)
  · exact cM_k h (by decide)
theorem zu_I {M0 : zM} {Y : Nat → Nat → Nat} {q n : Nat} (h : kI q n) (f : Nat → Nat) : zu (cM M0 Y) q (iA n f) = cM M0 (uA Y q f) := by
  rcases h with ⟨h, rfl⟩ | ⟨h, rfl⟩ | ⟨h, rfl⟩ | ⟨h, rfl⟩ | ⟨h, rfl⟩
  · exact zu_cM h (by decide) f
  · exact zu_cM h (by decide) f
  · exact zu_cM h (by decide) f
  · exact zu_cM h (by decide) f
  · exact zu_cM h (by decide) f
theorem kI_b {q n : Nat} (h : kI q n) : 8 ≤ q ∧ n ≤ 60 := by
  rcases h with ⟨h, rfl⟩ | ⟨h, rfl⟩ | ⟨h, rfl⟩ | ⟨h, rfl⟩ | ⟨h, rfl⟩ <;> exact ⟨kq_8 h (by decide), by decide⟩
/-- rows of lets -/
def kW (q n : Nat) : Prop := (kq q = 25 ∧ n = 8) ∨ (kq q = 26 ∧ n = 12)
theorem cM_W {M0 : zM} {Y : Nat → Nat → Nat} {q n : Nat} (h : kW q n) : cM M0 Y q = some (aR 3 n (fun j => some (Y q j))) := by
  rcases h with ⟨h, rfl⟩ | ⟨h, rfl⟩
  · exact cM_k h (by decide)
  · exact cM_k h (by decide)
theorem zu_W {M0 : zM} {Y : Nat → Nat → Nat} {q n : Nat} (h : kW q n) (f : Nat → Nat) : zu (cM M0 Y) q (aR 3 n (fun j => some (f j))) = cM M0 (uA Y q f) := by
  rcases h with ⟨h, rfl⟩ | ⟨h, rfl⟩
  · exact zu_cM h (by decide) f
  · exact zu_cM h (by decide) f
theorem kW_b {q n : Nat} (h : kW q n) : 8 ≤ q ∧ n ≤ 12 := by
  rcases h with ⟨h, rfl⟩ | ⟨h, rfl⟩ <;> exact ⟨kq_8 h (by decide), by decide⟩
theorem up_some (f : Nat → Nat) (i v : Nat) : va_up (fun j => some (f j)) i (some v) = fun j => some (uN f i v j) := by
  funext j
  by_cases h : j = i <;> simp [va_up, uN, h]
theorem up_oN (f : Nat → Nat) {i v : Nat} (hv : v ≠ 0) : va_up (fun j => oN (f j)) i (some v) = fun j => oN (uN f i v j) := by
  funext j
  by_cases h : j = i
  · subst h
    simp [va_up, uN, oN, beq_f hv]
  · simp [va_up, uN, h]
section CM
variable {mi : zI} {d kc ks : Nat} {nx : Option Nat} {pc : Nat} {L : List (Nat × Value)} {S : List Value} {M0 : zM} {F : zP} {Y : Nat → Nat → Nat}
theorem g_cpL {idx k q v : Nat} {r : vw_C} (hf : zLF mi.2.1 idx 1 k .int false r) (hd : decode mi.2.2.1 pc = .ok (.putfield idx, 3)) (hq : kq q = 1) (hk : k < 10) (kk : G mi d kc ks nx (pc + 3) L S (cM M0 (uA Y q (uN (Y q) k v))) F) : G mi d kc ks nx pc L (.int (nI v) :: .ref q :: S) (cM M0 Y) F := by
  refine g_put hf hd (cM_L hq) hk rfl rfl (kq_8 hq (by decide)) (g_m ?_ kk)
  rw [← zu_cM hq (by decide)]
  rcases (show k = 0 ∨ k = 1 ∨ k = 2 ∨ k = 3 ∨ k = 4 ∨ k = 5 ∨ k = 6 ∨ k = 7 ∨ k = 8 ∨ k = 9 by omega) with rfl | rfl | rfl | rfl | rfl | rfl | rfl | rfl | rfl | rfl <;> rfl
theorem g_cpR {idx q v : Nat} {r : vw_C} (hf : zLF mi.2.1 idx 3 1 .int false r) (hd : decode mi.2.2.1 pc = .ok (.putfield idx, 3)) (hq : kq q = 3) (kk : G mi d kc ks nx (pc + 3) L S (cM M0 (uA Y q (uN (Y q) 1 v))) F) : G mi d kc ks nx pc L (.int (nI v) :: .ref q :: S) (cM M0 Y) F := by
  refine g_put hf hd (cM_R hq) (show 1 < 2 by decide) rfl rfl (kq_8 hq (by decide)) (g_m ?_ kk)
  rw [← zu_cM hq (by decide)]
  rfl
theorem g_cpS {idx k q v : Nat} {r : vw_C} (hf : zLF mi.2.1 idx 4 k .int false r) (hd : decode mi.2.2.1 pc = .ok (.putfield idx, 3)) (hq : kq q = 4) (hk : 4 ≤ k ∧ k ≤ 6) (kk : G mi d kc ks nx (pc + 3) L S (cM M0 (uA Y q (uN (Y q) k v))) F) : G mi d kc ks nx pc L (.int (nI v) :: .ref q :: S) (cM M0 Y) F := by
  refine g_put hf hd (cM_S hq) (show k < 7 by omega) rfl rfl (kq_8 hq (by decide)) (g_m ?_ kk)
  rw [← zu_cM hq (by decide)]
  rcases (show k = 4 ∨ k = 5 ∨ k = 6 by omega) with rfl | rfl | rfl <;> rfl
theorem g_cpP {idx k q v : Nat} {r : vw_C} (hf : zLF mi.2.1 idx 0 k .int false r) (hd : decode mi.2.2.1 pc = .ok (.putfield idx, 3)) (hq : kq q = 0) (hk : k = 1 ∨ k = 3) (kk : G mi d kc ks nx (pc + 3) L S (cM M0 (uA Y q (uN (Y q) k v))) F) : G mi d kc ks nx pc L (.int (nI v) :: .ref q :: S) (cM M0 Y) F := by
  refine g_put hf hd (cM_P hq) (show k < 4 by omega) rfl rfl (kq_8 hq (by decide)) (g_m ?_ kk)
  rw [← zu_cM hq (by decide)]
  rcases hk with rfl | rfl <;> rfl
theorem g_cpT {idx k q v : Nat} {r : vw_C} (hf : zLF mi.2.1 idx 2 k .int false r) (hd : decode mi.2.2.1 pc = .ok (.putfield idx, 3)) (hq : kq q = 2) (hk : k = 1 ∨ k = 3 ∨ k = 4) (kk : G mi d kc ks nx (pc + 3) L S (cM M0 (uA Y q (uN (Y q) k v))) F) : G mi d kc ks nx pc L (.int (nI v) :: .ref q :: S) (cM M0 Y) F := by
  refine g_put hf hd (cM_T hq) (show k < 5 by omega) rfl rfl (kq_8 hq (by decide)) (g_m ?_ kk)
  rw [← zu_cM hq (by decide)]
  rcases hk with rfl | rfl | rfl <;> rfl
theorem g_cpH {idx q v : Nat} {r : vw_C} (hf : zLF mi.2.1 idx 5 4 .int false r) (hd : decode mi.2.2.1 pc = .ok (.putfield idx, 3)) (hq : kq q = 5) (kk : G mi d kc ks nx (pc + 3) L S (cM M0 (uA Y q (uN (Y q) 4 v))) F) : G mi d kc ks nx pc L (.int (nI v) :: .ref q :: S) (cM M0 Y) F := by
  refine g_put hf hd (cM_H hq) (show 4 < 8 by decide) rfl rfl (kq_8 hq (by decide)) (g_m ?_ kk)
  rw [← zu_cM hq (by decide)]
  rfl
theorem g_cpHb {idx q v : Nat} {r : vw_C} (hf : zLF mi.2.1 idx 5 2 .boolean false r) (hd : decode mi.2.2.1 pc = .ok (.putfield idx, 3)) (hq : kq q = 5) (hv : v ≤ 1) (kk : G mi d kc ks nx (pc + 3) L S (cM M0 (uA Y q (uN (Y q) 2 v))) F) : G mi d kc ks nx pc L (.int (nI v) :: .ref q :: S) (cM M0 Y) F := by
  have hn : narrow .boolean (.int (nI v)) = .int (nI v) := by rcases (show v = 0 ∨ v = 1 by omega) with rfl | rfl <;> rfl
  have hfi : fits .boolean (.int (nI v)) = true := by rcases (show v = 0 ∨ v = 1 by omega) with rfl | rfl <;> rfl
  refine g_put hf hd (cM_H hq) (show 2 < 8 by decide) hn hfi (kq_8 hq (by decide)) (g_m ?_ kk)
  rw [← zu_cM hq (by decide)]
  rfl
theorem g_cia {q n i v : Nat} (hd : decode mi.2.2.1 pc = .ok (.iastore, 1)) (hq : kI q n) (hi : i < n) (kk : G mi d kc ks nx (pc + 1) L S (cM M0 (uA Y q (uN (Y q) i v))) F) : G mi d kc ks nx pc L (.int (nI v) :: .int (nI i) :: .ref q :: S) (cM M0 Y) F := by
  have hb := kI_b hq
  exact g_iast_n hd (cM_I hq) hi (by omega) hb.1 (g_m (zu_I hq _) kk)
theorem g_cil {q n i : Nat} (hd : decode mi.2.2.1 pc = .ok (.iaload, 1)) (hq : kI q n) (hi : i < n) (kk : G mi d kc ks nx (pc + 1) L (.int (nI (Y q i)) :: S) (cM M0 Y) F) : G mi d kc ks nx pc L (.int (nI i) :: .ref q :: S) (cM M0 Y) F := by
  have hb := kI_b hq
  exact g_iald_n hd (cM_I hq) hi (by omega) kk
theorem g_cwl {q n i : Nat} (hd : decode mi.2.2.1 pc = .ok (.aaload, 1)) (hq : kW q n) (hi : i < n) (kk : G mi d kc ks nx (pc + 1) L (.ref (Y q i) :: S) (cM M0 Y) F) : G mi d kc ks nx pc L (.int (nI i) :: .ref q :: S) (cM M0 Y) F := by
  have hb := kW_b hq
  exact g_aald (t := 3) hd (fun g => rfl) (cM_W hq) (vp_in_nI hi (by omega)) (by rw [nI_clamp (by omega)]) kk
theorem g_cws {q n i v : Nat} (hd : decode mi.2.2.1 pc = .ok (.aastore, 1)) (hq : kW q n) (hv : kq v = 1) (hi : i < n) (kk : G mi d kc ks nx (pc + 1) L S (cM M0 (uA Y q (uN (Y q) i v))) F) : G mi d kc ks nx pc L (.ref v :: .int (nI i) :: .ref q :: S) (cM M0 Y) F := by
  have hb := kW_b hq
  refine g_aast (t := 3) (ci := 1) (r := rX1) hd (fun g => rfl) (cM_W hq) (cM_L hv) rfl (vp_in_nI hi (by omega)) hb.1 (g_m ?_ kk)
  rw [nI_clamp (by omega), up_some, zu_W hq]
theorem g_cwn {q n : Nat} (hd : decode mi.2.2.1 pc = .ok (.arraylength, 1)) (hq : kW q n) (kk : G mi d kc ks nx (pc + 1) L (.int (nI n) :: S) (cM M0 Y) F) : G mi d kc ks nx pc L (.ref q :: S) (cM M0 Y) F :=
  g_alen (t := 3) (ty := .object RX1) hd (fun g => rfl) (cM_W hq) rfl kk
/-- the lets of the plan -/
theorem g_cpl {i : Nat} (hd : decode mi.2.2.1 pc = .ok (.aaload, 1)) (hi : i < 20) (hv : Y 68 i ≠ 0) (kk : G mi d kc ks nx (pc + 1) L (.ref (Y 68 i) :: S) (cM M0 Y) F) : G mi d kc ks nx pc L (.int (nI i) :: .ref 68 :: S) (cM M0 Y) F :=
  g_aald (t := 3) hd (fun g => rfl) (cM_k (k := 23) rfl (by decide)) (vp_in_nI hi (by omega)) (by rw [nI_clamp (by omega)]; simp [oN, beq_f hv]) kk
theorem g_cps {i v : Nat} (hd : decode mi.2.2.1 pc = .ok (.aastore, 1)) (hv : kq v = 1) (hi : i < 20) (kk : G mi d kc ks nx (pc + 1) L S (cM M0 (uA Y 68 (uN (Y 68) i v))) F) : G mi d kc ks nx pc L (.ref v :: .int (nI i) :: .ref 68 :: S) (cM M0 Y) F := by
  have h8 := kq_8 hv (by decide)
  refine g_aast (t := 3) (ci := 1) (r := rX1) hd (fun g => rfl) (cM_k (k := 23) rfl (by decide)) (cM_L hv) rfl (vp_in_nI hi (by omega)) (by omega) (g_m ?_ kk)
  rw [nI_clamp (by omega), up_oN _ (by omega), ← zu_cM (k := 23) rfl (by decide)]
  rfl
theorem g_cpn (hd : decode mi.2.2.1 pc = .ok (.arraylength, 1)) (kk : G mi d kc ks nx (pc + 1) L (.int (nI 20) :: S) (cM M0 Y) F) : G mi d kc ks nx pc L (.ref 68 :: S) (cM M0 Y) F :=
  g_alen (t := 3) (ty := .object RX1) hd (fun g => rfl) (cM_k (k := 23) rfl (by decide)) rfl kk
/-- the saved states -/
theorem g_csl {i : Nat} (hd : decode mi.2.2.1 pc = .ok (.aaload, 1)) (hi : i < 6) (kk : G mi d kc ks nx (pc + 1) L (.ref (Y 63 i) :: S) (cM M0 Y) F) : G mi d kc ks nx pc L (.int (nI i) :: .ref 63 :: S) (cM M0 Y) F :=
  g_aald (t := 4) hd (fun g => rfl) (cM_k (k := 20) rfl (by decide)) (vp_in_nI hi (by omega)) (by rw [nI_clamp (by omega)]) kk
theorem g_css {i v : Nat} (hd : decode mi.2.2.1 pc = .ok (.aastore, 1)) (hv : kq v = 4) (hi : i < 6) (kk : G mi d kc ks nx (pc + 1) L S (cM M0 (uA Y 63 (uN (Y 63) i v))) F) : G mi d kc ks nx pc L (.ref v :: .int (nI i) :: .ref 63 :: S) (cM M0 Y) F := by
  refine g_aast (t := 4) (ci := 4) (r := rX4) hd (fun g => rfl) (cM_k (k := 20) rfl (by decide)) (cM_S hv) rfl (vp_in_nI hi (by omega)) (by omega) (g_m ?_ kk)
  rw [nI_clamp (by omega), up_some, ← zu_cM (k := 20) rfl (by decide)]
  rfl
end CM
