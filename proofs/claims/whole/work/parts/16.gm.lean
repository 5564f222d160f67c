/-! the reference in memory -/
abbrev mF (sm ik th mn cl ln sp nu pa : Nat) (hs : Int64) : List Value := [.ref 234, .ref 235, .int (nI sm), .ref 236, .int (nI ik), .int (nI th), .ref 237, .int (nI mn), .ref 238, .ref 239, .ref 240, .int (nI cl), .ref 241, .int (nI ln), .int (nI sp), .int (nI nu), .int (nI pa), .ref 242, .long hs]
def mM (M0 : zM) (X SV SN AT CH CF CT BU PT : Nat → Nat) (sm ik th mn cl ln sp nu pa : Nat) (hs : Int64) : zM := fun q => bif Nat.beq q 233 then some (.inr (6, mF sm ik th mn cl ln sp nu pa hs)) else bif Nat.beq q 234 then some (iA 177 X) else bif Nat.beq q 235 then some (iA 1062 SV) else bif Nat.beq q 236 then some (iA 177 SN) else bif Nat.beq q 237 then some (iA 24 AT) else bif Nat.beq q 238 then some (iA 24 CH) else bif Nat.beq q 239 then some (iA 24 CF) else bif Nat.beq q 240 then some (iA 24 CT) else bif Nat.beq q 241 then some (iA 60 BU) else bif Nat.beq q 242 then some (iA 60 PT) else M0 q
theorem beq_f {a b : Nat} (h : a ≠ b) : Nat.beq a b = false := by
  cases hb : Nat.beq a b
  · rfl
  · exact absurd (Nat.eq_of_beq_eq_true hb) h
theorem mM_row {M0 : zM} {X SV SN AT CH CF CT BU PT : Nat → Nat} {sm ik th mn cl ln sp nu pa : Nat} {hs : Int64} {Y : Nat → Nat} : zu (mM M0 X SV SN AT CH CF CT BU PT sm ik th mn cl ln sp nu pa hs) 234 (iA 177 Y) = mM M0 Y SV SN AT CH CF CT BU PT sm ik th mn cl ln sp nu pa hs := by
  funext q
  by_cases h : q = 234
  · subst h; rfl
  · rw [zu_n _ _ h]
    simp only [mM, beq_f h, cond_false]
theorem mM_saved {M0 : zM} {X SV SN AT CH CF CT BU PT : Nat → Nat} {sm ik th mn cl ln sp nu pa : Nat} {hs : Int64} {Y : Nat → Nat} : zu (mM M0 X SV SN AT CH CF CT BU PT sm ik th mn cl ln sp nu pa hs) 235 (iA 1062 Y) = mM M0 X Y SN AT CH CF CT BU PT sm ik th mn cl ln sp nu pa hs := by
  funext q
  by_cases h : q = 235
  · subst h; rfl
  · rw [zu_n _ _ h]
    simp only [mM, beq_f h, cond_false]
theorem mM_snapshot {M0 : zM} {X SV SN AT CH CF CT BU PT : Nat → Nat} {sm ik th mn cl ln sp nu pa : Nat} {hs : Int64} {Y : Nat → Nat} : zu (mM M0 X SV SN AT CH CF CT BU PT sm ik th mn cl ln sp nu pa hs) 236 (iA 177 Y) = mM M0 X SV Y AT CH CF CT BU PT sm ik th mn cl ln sp nu pa hs := by
  funext q
  by_cases h : q = 236
  · subst h; rfl
  · rw [zu_n _ _ h]
    simp only [mM, beq_f h, cond_false]
theorem mM_at {M0 : zM} {X SV SN AT CH CF CT BU PT : Nat → Nat} {sm ik th mn cl ln sp nu pa : Nat} {hs : Int64} {Y : Nat → Nat} : zu (mM M0 X SV SN AT CH CF CT BU PT sm ik th mn cl ln sp nu pa hs) 237 (iA 24 Y) = mM M0 X SV SN Y CH CF CT BU PT sm ik th mn cl ln sp nu pa hs := by
  funext q
  by_cases h : q = 237
  · subst h; rfl
  · rw [zu_n _ _ h]
    simp only [mM, beq_f h, cond_false]
theorem mM_cleanHall {M0 : zM} {X SV SN AT CH CF CT BU PT : Nat → Nat} {sm ik th mn cl ln sp nu pa : Nat} {hs : Int64} {Y : Nat → Nat} : zu (mM M0 X SV SN AT CH CF CT BU PT sm ik th mn cl ln sp nu pa hs) 238 (iA 24 Y) = mM M0 X SV SN AT Y CF CT BU PT sm ik th mn cl ln sp nu pa hs := by
  funext q
  by_cases h : q = 238
  · subst h; rfl
  · rw [zu_n _ _ h]
    simp only [mM, beq_f h, cond_false]
theorem mM_cleanFrom {M0 : zM} {X SV SN AT CH CF CT BU PT : Nat → Nat} {sm ik th mn cl ln sp nu pa : Nat} {hs : Int64} {Y : Nat → Nat} : zu (mM M0 X SV SN AT CH CF CT BU PT sm ik th mn cl ln sp nu pa hs) 239 (iA 24 Y) = mM M0 X SV SN AT CH Y CT BU PT sm ik th mn cl ln sp nu pa hs := by
  funext q
  by_cases h : q = 239
  · subst h; rfl
  · rw [zu_n _ _ h]
    simp only [mM, beq_f h, cond_false]
theorem mM_cleanTo {M0 : zM} {X SV SN AT CH CF CT BU PT : Nat → Nat} {sm ik th mn cl ln sp nu pa : Nat} {hs : Int64} {Y : Nat → Nat} : zu (mM M0 X SV SN AT CH CF CT BU PT sm ik th mn cl ln sp nu pa hs) 240 (iA 24 Y) = mM M0 X SV SN AT CH CF Y BU PT sm ik th mn cl ln sp nu pa hs := by
  funext q
  by_cases h : q = 240
  · subst h; rfl
  · rw [zu_n _ _ h]
    simp only [mM, beq_f h, cond_false]
theorem mM_buffer {M0 : zM} {X SV SN AT CH CF CT BU PT : Nat → Nat} {sm ik th mn cl ln sp nu pa : Nat} {hs : Int64} {Y : Nat → Nat} : zu (mM M0 X SV SN AT CH CF CT BU PT sm ik th mn cl ln sp nu pa hs) 241 (iA 60 Y) = mM M0 X SV SN AT CH CF CT Y PT sm ik th mn cl ln sp nu pa hs := by
  funext q
  by_cases h : q = 241
  · subst h; rfl
  · rw [zu_n _ _ h]
    simp only [mM, beq_f h, cond_false]
theorem mM_part {M0 : zM} {X SV SN AT CH CF CT BU PT : Nat → Nat} {sm ik th mn cl ln sp nu pa : Nat} {hs : Int64} {Y : Nat → Nat} : zu (mM M0 X SV SN AT CH CF CT BU PT sm ik th mn cl ln sp nu pa hs) 242 (iA 60 Y) = mM M0 X SV SN AT CH CF CT BU Y sm ik th mn cl ln sp nu pa hs := by
  funext q
  by_cases h : q = 242
  · subst h; rfl
  · rw [zu_n _ _ h]
    simp only [mM, beq_f h, cond_false]
theorem mM_obj {M0 : zM} {X SV SN AT CH CF CT BU PT : Nat → Nat} {sm ik th mn cl ln sp nu pa : Nat} {hs : Int64} {sm' ik' th' mn' cl' ln' sp' nu' pa' : Nat} {hs' : Int64} : zu (mM M0 X SV SN AT CH CF CT BU PT sm ik th mn cl ln sp nu pa hs) 233 (.inr (6, mF sm' ik' th' mn' cl' ln' sp' nu' pa' hs')) = mM M0 X SV SN AT CH CF CT BU PT sm' ik' th' mn' cl' ln' sp' nu' pa' hs' := by
  funext q
  by_cases h : q = 233
  · subst h; rfl
  · rw [zu_n _ _ h]
    simp only [mM, beq_f h, cond_false]
theorem g_arr {mi : zI} {d kc ks : Nat} {nx : Option Nat} {pc : Nat} {L : List (Nat × Value)} {S : List Value} {M : zM} {F : zP} {b n : Nat} {X X' : Nat → Nat} (hM : M b = some (iA n X)) (h : ∀ j, j < n → X j = X' j) (k : G mi d kc ks nx pc L S (zu M b (iA n X')) F) : G mi d kc ks nx pc L S M F := by
  intro l p e R s m args below meth c g mc ms C H locs cells slots ls Y
  obtain ⟨x1, x2, x3⟩ := Y
  have hMn : M b ≠ none := by rw [hM]; exact fun z => by cases z
  have hv : vp_cell (g.2.2.1 0) (n, .inl fun j => nI (X j)) = vp_cell (g.2.2.1 0) (n, .inl fun j => nI (X' j)) := by
    rw [vp_cell_i, vp_cell_i]
    unfold arrV
    congr 1
    exact congrArg Array.ofFn (funext fun j => congrArg (fun x => Value.int (nI x)) (h j.val j.isLt))
  exact k l p e R s m args below meth c g mc ms C H locs cells slots ls ⟨x1.upd hMn (by show H[g.1 b]? = some (vp_cell _ _); exact (x1.1 _ _ hM).trans (congrArg some hv)) (fun _ _ => rfl), x2.upd hMn rfl, x3⟩
section GMM
variable {mi : zI} {d kc ks : Nat} {nx : Option Nat} {pc : Nat} {L : List (Nat × Value)} {S : List Value} {F : zP}
variable {M0 : zM} {X SV SN AT CH CF CT BU PT : Nat → Nat} {sm ik th mn cl ln sp nu pa : Nat} {hs : Int64}
theorem g_mst_row {i v : Nat} (hd : decode mi.2.2.1 pc = .ok (.iastore, 1)) (hi : i < 177) (kk : G mi d kc ks nx (pc + 1) L S (mM M0 (uN X i v) SV SN AT CH CF CT BU PT sm ik th mn cl ln sp nu pa hs) F) : G mi d kc ks nx pc L (.int (nI v) :: .int (nI i) :: .ref 234 :: S) (mM M0 X SV SN AT CH CF CT BU PT sm ik th mn cl ln sp nu pa hs) F := g_iast_n hd (n := 177) (X := X) rfl hi (by decide) (by decide) (g_m mM_row kk)
theorem g_mst_saved {i v : Nat} (hd : decode mi.2.2.1 pc = .ok (.iastore, 1)) (hi : i < 1062) (kk : G mi d kc ks nx (pc + 1) L S (mM M0 X (uN SV i v) SN AT CH CF CT BU PT sm ik th mn cl ln sp nu pa hs) F) : G mi d kc ks nx pc L (.int (nI v) :: .int (nI i) :: .ref 235 :: S) (mM M0 X SV SN AT CH CF CT BU PT sm ik th mn cl ln sp nu pa hs) F := g_iast_n hd (n := 1062) (X := SV) rfl hi (by decide) (by decide) (g_m mM_saved kk)
theorem g_mst_snapshot {i v : Nat} (hd : decode mi.2.2.1 pc = .ok (.iastore, 1)) (hi : i < 177) (kk : G mi d kc ks nx (pc + 1) L S (mM M0 X SV (uN SN i v) AT CH CF CT BU PT sm ik th mn cl ln sp nu pa hs) F) : G mi d kc ks nx pc L (.int (nI v) :: .int (nI i) :: .ref 236 :: S) (mM M0 X SV SN AT CH CF CT BU PT sm ik th mn cl ln sp nu pa hs) F := g_iast_n hd (n := 177) (X := SN) rfl hi (by decide) (by decide) (g_m mM_snapshot kk)
theorem g_mst_at {i v : Nat} (hd : decode mi.2.2.1 pc = .ok (.iastore, 1)) (hi : i < 24) (kk : G mi d kc ks nx (pc + 1) L S (mM M0 X SV SN (uN AT i v) CH CF CT BU PT sm ik th mn cl ln sp nu pa hs) F) : G mi d kc ks nx pc L (.int (nI v) :: .int (nI i) :: .ref 237 :: S) (mM M0 X SV SN AT CH CF CT BU PT sm ik th mn cl ln sp nu pa hs) F := g_iast_n hd (n := 24) (X := AT) rfl hi (by decide) (by decide) (g_m mM_at kk)
theorem g_mst_cleanHall {i v : Nat} (hd : decode mi.2.2.1 pc = .ok (.iastore, 1)) (hi : i < 24) (kk : G mi d kc ks nx (pc + 1) L S (mM M0 X SV SN AT (uN CH i v) CF CT BU PT sm ik th mn cl ln sp nu pa hs) F) : G mi d kc ks nx pc L (.int (nI v) :: .int (nI i) :: .ref 238 :: S) (mM M0 X SV SN AT CH CF CT BU PT sm ik th mn cl ln sp nu pa hs) F := g_iast_n hd (n := 24) (X := CH) rfl hi (by decide) (by decide) (g_m mM_cleanHall kk)
theorem g_mst_cleanFrom {i v : Nat} (hd : decode mi.2.2.1 pc = .ok (.iastore, 1)) (hi : i < 24) (kk : G mi d kc ks nx (pc + 1) L S (mM M0 X SV SN AT CH (uN CF i v) CT BU PT sm ik th mn cl ln sp nu pa hs) F) : G mi d kc ks nx pc L (.int (nI v) :: .int (nI i) :: .ref 239 :: S) (mM M0 X SV SN AT CH CF CT BU PT sm ik th mn cl ln sp nu pa hs) F := g_iast_n hd (n := 24) (X := CF) rfl hi (by decide) (by decide) (g_m mM_cleanFrom kk)
theorem g_mst_cleanTo {i v : Nat} (hd : decode mi.2.2.1 pc = .ok (.iastore, 1)) (hi : i < 24) (kk : G mi d kc ks nx (pc + 1) L S (mM M0 X SV SN AT CH CF (uN CT i v) BU PT sm ik th mn cl ln sp nu pa hs) F) : G mi d kc ks nx pc L (.int (nI v) :: .int (nI i) :: .ref 240 :: S) (mM M0 X SV SN AT CH CF CT BU PT sm ik th mn cl ln sp nu pa hs) F := g_iast_n hd (n := 24) (X := CT) rfl hi (by decide) (by decide) (g_m mM_cleanTo kk)
theorem g_mst_buffer {i v : Nat} (hd : decode mi.2.2.1 pc = .ok (.iastore, 1)) (hi : i < 60) (kk : G mi d kc ks nx (pc + 1) L S (mM M0 X SV SN AT CH CF CT (uN BU i v) PT sm ik th mn cl ln sp nu pa hs) F) : G mi d kc ks nx pc L (.int (nI v) :: .int (nI i) :: .ref 241 :: S) (mM M0 X SV SN AT CH CF CT BU PT sm ik th mn cl ln sp nu pa hs) F := g_iast_n hd (n := 60) (X := BU) rfl hi (by decide) (by decide) (g_m mM_buffer kk)
theorem g_mst_part {i v : Nat} (hd : decode mi.2.2.1 pc = .ok (.iastore, 1)) (hi : i < 60) (kk : G mi d kc ks nx (pc + 1) L S (mM M0 X SV SN AT CH CF CT BU (uN PT i v) sm ik th mn cl ln sp nu pa hs) F) : G mi d kc ks nx pc L (.int (nI v) :: .int (nI i) :: .ref 242 :: S) (mM M0 X SV SN AT CH CF CT BU PT sm ik th mn cl ln sp nu pa hs) F := g_iast_n hd (n := 60) (X := PT) rfl hi (by decide) (by decide) (g_m mM_part kk)
theorem g_mset_row {Y : Nat → Nat} (h : ∀ j, j < 177 → X j = Y j) (kk : G mi d kc ks nx pc L S (mM M0 Y SV SN AT CH CF CT BU PT sm ik th mn cl ln sp nu pa hs) F) : G mi d kc ks nx pc L S (mM M0 X SV SN AT CH CF CT BU PT sm ik th mn cl ln sp nu pa hs) F := g_arr (b := 234) (n := 177) (X := X) rfl h (g_m mM_row kk)
theorem g_mset_saved {Y : Nat → Nat} (h : ∀ j, j < 1062 → SV j = Y j) (kk : G mi d kc ks nx pc L S (mM M0 X Y SN AT CH CF CT BU PT sm ik th mn cl ln sp nu pa hs) F) : G mi d kc ks nx pc L S (mM M0 X SV SN AT CH CF CT BU PT sm ik th mn cl ln sp nu pa hs) F := g_arr (b := 235) (n := 1062) (X := SV) rfl h (g_m mM_saved kk)
theorem g_mset_snapshot {Y : Nat → Nat} (h : ∀ j, j < 177 → SN j = Y j) (kk : G mi d kc ks nx pc L S (mM M0 X SV Y AT CH CF CT BU PT sm ik th mn cl ln sp nu pa hs) F) : G mi d kc ks nx pc L S (mM M0 X SV SN AT CH CF CT BU PT sm ik th mn cl ln sp nu pa hs) F := g_arr (b := 236) (n := 177) (X := SN) rfl h (g_m mM_snapshot kk)
theorem g_mset_at {Y : Nat → Nat} (h : ∀ j, j < 24 → AT j = Y j) (kk : G mi d kc ks nx pc L S (mM M0 X SV SN Y CH CF CT BU PT sm ik th mn cl ln sp nu pa hs) F) : G mi d kc ks nx pc L S (mM M0 X SV SN AT CH CF CT BU PT sm ik th mn cl ln sp nu pa hs) F := g_arr (b := 237) (n := 24) (X := AT) rfl h (g_m mM_at kk)
theorem g_mset_cleanHall {Y : Nat → Nat} (h : ∀ j, j < 24 → CH j = Y j) (kk : G mi d kc ks nx pc L S (mM M0 X SV SN AT Y CF CT BU PT sm ik th mn cl ln sp nu pa hs) F) : G mi d kc ks nx pc L S (mM M0 X SV SN AT CH CF CT BU PT sm ik th mn cl ln sp nu pa hs) F := g_arr (b := 238) (n := 24) (X := CH) rfl h (g_m mM_cleanHall kk)
theorem g_mset_cleanFrom {Y : Nat → Nat} (h : ∀ j, j < 24 → CF j = Y j) (kk : G mi d kc ks nx pc L S (mM M0 X SV SN AT CH Y CT BU PT sm ik th mn cl ln sp nu pa hs) F) : G mi d kc ks nx pc L S (mM M0 X SV SN AT CH CF CT BU PT sm ik th mn cl ln sp nu pa hs) F := g_arr (b := 239) (n := 24) (X := CF) rfl h (g_m mM_cleanFrom kk)
theorem g_mset_cleanTo {Y : Nat → Nat} (h : ∀ j, j < 24 → CT j = Y j) (kk : G mi d kc ks nx pc L S (mM M0 X SV SN AT CH CF Y BU PT sm ik th mn cl ln sp nu pa hs) F) : G mi d kc ks nx pc L S (mM M0 X SV SN AT CH CF CT BU PT sm ik th mn cl ln sp nu pa hs) F := g_arr (b := 240) (n := 24) (X := CT) rfl h (g_m mM_cleanTo kk)
theorem g_mset_buffer {Y : Nat → Nat} (h : ∀ j, j < 60 → BU j = Y j) (kk : G mi d kc ks nx pc L S (mM M0 X SV SN AT CH CF CT Y PT sm ik th mn cl ln sp nu pa hs) F) : G mi d kc ks nx pc L S (mM M0 X SV SN AT CH CF CT BU PT sm ik th mn cl ln sp nu pa hs) F := g_arr (b := 241) (n := 60) (X := BU) rfl h (g_m mM_buffer kk)
theorem g_mset_part {Y : Nat → Nat} (h : ∀ j, j < 60 → PT j = Y j) (kk : G mi d kc ks nx pc L S (mM M0 X SV SN AT CH CF CT BU Y sm ik th mn cl ln sp nu pa hs) F) : G mi d kc ks nx pc L S (mM M0 X SV SN AT CH CF CT BU PT sm ik th mn cl ln sp nu pa hs) F := g_arr (b := 242) (n := 60) (X := PT) rfl h (g_m mM_part kk)
theorem g_mput_savedMany {idx v : Nat} (hf : zLF mi.2.1 idx 6 2 .int false rX6) (hd : decode mi.2.2.1 pc = .ok (.putfield idx, 3)) (kk : G mi d kc ks nx (pc + 3) L S (mM M0 X SV SN AT CH CF CT BU PT v ik th mn cl ln sp nu pa hs) F) : G mi d kc ks nx pc L (.int (nI v) :: .ref 233 :: S) (mM M0 X SV SN AT CH CF CT BU PT sm ik th mn cl ln sp nu pa hs) F := g_put hf hd (fs := mF sm ik th mn cl ln sp nu pa hs) rfl (show 2 < 19 by decide) rfl rfl (by decide) (g_m mM_obj kk)
theorem g_mput_isKept {idx v : Nat} (hf : zLF mi.2.1 idx 6 4 .boolean false rX6) (hd : decode mi.2.2.1 pc = .ok (.putfield idx, 3)) (hv : v < 2) (kk : G mi d kc ks nx (pc + 3) L S (mM M0 X SV SN AT CH CF CT BU PT sm v th mn cl ln sp nu pa hs) F) : G mi d kc ks nx pc L (.int (nI v) :: .ref 233 :: S) (mM M0 X SV SN AT CH CF CT BU PT sm ik th mn cl ln sp nu pa hs) F := g_put hf hd (fs := mF sm ik th mn cl ln sp nu pa hs) rfl (show 4 < 19 by decide) (by rcases (show v = 0 ∨ v = 1 by omega) with rfl | rfl <;> rfl) (by rcases (show v = 0 ∨ v = 1 by omega) with rfl | rfl <;> rfl) (by decide) (g_m mM_obj kk)
theorem g_mput_thrown {idx v : Nat} (hf : zLF mi.2.1 idx 6 5 .int false rX6) (hd : decode mi.2.2.1 pc = .ok (.putfield idx, 3)) (kk : G mi d kc ks nx (pc + 3) L S (mM M0 X SV SN AT CH CF CT BU PT sm ik v mn cl ln sp nu pa hs) F) : G mi d kc ks nx pc L (.int (nI v) :: .ref 233 :: S) (mM M0 X SV SN AT CH CF CT BU PT sm ik th mn cl ln sp nu pa hs) F := g_put hf hd (fs := mF sm ik th mn cl ln sp nu pa hs) rfl (show 5 < 19 by decide) rfl rfl (by decide) (g_m mM_obj kk)
theorem g_mput_many {idx v : Nat} (hf : zLF mi.2.1 idx 6 7 .int false rX6) (hd : decode mi.2.2.1 pc = .ok (.putfield idx, 3)) (kk : G mi d kc ks nx (pc + 3) L S (mM M0 X SV SN AT CH CF CT BU PT sm ik th v cl ln sp nu pa hs) F) : G mi d kc ks nx pc L (.int (nI v) :: .ref 233 :: S) (mM M0 X SV SN AT CH CF CT BU PT sm ik th mn cl ln sp nu pa hs) F := g_put hf hd (fs := mF sm ik th mn cl ln sp nu pa hs) rfl (show 7 < 19 by decide) rfl rfl (by decide) (g_m mM_obj kk)
theorem g_mput_cleans {idx v : Nat} (hf : zLF mi.2.1 idx 6 11 .int false rX6) (hd : decode mi.2.2.1 pc = .ok (.putfield idx, 3)) (kk : G mi d kc ks nx (pc + 3) L S (mM M0 X SV SN AT CH CF CT BU PT sm ik th mn v ln sp nu pa hs) F) : G mi d kc ks nx pc L (.int (nI v) :: .ref 233 :: S) (mM M0 X SV SN AT CH CF CT BU PT sm ik th mn cl ln sp nu pa hs) F := g_put hf hd (fs := mF sm ik th mn cl ln sp nu pa hs) rfl (show 11 < 19 by decide) rfl rfl (by decide) (g_m mM_obj kk)
theorem g_mput_length {idx v : Nat} (hf : zLF mi.2.1 idx 6 13 .int false rX6) (hd : decode mi.2.2.1 pc = .ok (.putfield idx, 3)) (kk : G mi d kc ks nx (pc + 3) L S (mM M0 X SV SN AT CH CF CT BU PT sm ik th mn cl v sp nu pa hs) F) : G mi d kc ks nx pc L (.int (nI v) :: .ref 233 :: S) (mM M0 X SV SN AT CH CF CT BU PT sm ik th mn cl ln sp nu pa hs) F := g_put hf hd (fs := mF sm ik th mn cl ln sp nu pa hs) rfl (show 13 < 19 by decide) rfl rfl (by decide) (g_m mM_obj kk)
theorem g_mput_spot {idx v : Nat} (hf : zLF mi.2.1 idx 6 14 .int false rX6) (hd : decode mi.2.2.1 pc = .ok (.putfield idx, 3)) (kk : G mi d kc ks nx (pc + 3) L S (mM M0 X SV SN AT CH CF CT BU PT sm ik th mn cl ln v nu pa hs) F) : G mi d kc ks nx pc L (.int (nI v) :: .ref 233 :: S) (mM M0 X SV SN AT CH CF CT BU PT sm ik th mn cl ln sp nu pa hs) F := g_put hf hd (fs := mF sm ik th mn cl ln sp nu pa hs) rfl (show 14 < 19 by decide) rfl rfl (by decide) (g_m mM_obj kk)
theorem g_mput_number {idx v : Nat} (hf : zLF mi.2.1 idx 6 15 .int false rX6) (hd : decode mi.2.2.1 pc = .ok (.putfield idx, 3)) (kk : G mi d kc ks nx (pc + 3) L S (mM M0 X SV SN AT CH CF CT BU PT sm ik th mn cl ln sp v pa hs) F) : G mi d kc ks nx pc L (.int (nI v) :: .ref 233 :: S) (mM M0 X SV SN AT CH CF CT BU PT sm ik th mn cl ln sp nu pa hs) F := g_put hf hd (fs := mF sm ik th mn cl ln sp nu pa hs) rfl (show 15 < 19 by decide) rfl rfl (by decide) (g_m mM_obj kk)
theorem g_mput_parts {idx v : Nat} (hf : zLF mi.2.1 idx 6 16 .int false rX6) (hd : decode mi.2.2.1 pc = .ok (.putfield idx, 3)) (kk : G mi d kc ks nx (pc + 3) L S (mM M0 X SV SN AT CH CF CT BU PT sm ik th mn cl ln sp nu v hs) F) : G mi d kc ks nx pc L (.int (nI v) :: .ref 233 :: S) (mM M0 X SV SN AT CH CF CT BU PT sm ik th mn cl ln sp nu pa hs) F := g_put hf hd (fs := mF sm ik th mn cl ln sp nu pa hs) rfl (show 16 < 19 by decide) rfl rfl (by decide) (g_m mM_obj kk)
theorem g_mput_hash {idx : Nat} {v : Int64} (hf : zLF mi.2.1 idx 6 18 .long false rX6) (hd : decode mi.2.2.1 pc = .ok (.putfield idx, 3)) (kk : G mi d kc ks nx (pc + 3) L S (mM M0 X SV SN AT CH CF CT BU PT sm ik th mn cl ln sp nu pa v) F) : G mi d kc ks nx pc L (.long v :: .ref 233 :: S) (mM M0 X SV SN AT CH CF CT BU PT sm ik th mn cl ln sp nu pa hs) F := g_put hf hd (fs := mF sm ik th mn cl ln sp nu pa hs) rfl (show 18 < 19 by decide) rfl rfl (by decide) (g_m mM_obj kk)
end GMM
