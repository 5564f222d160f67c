/-! the reference: rents, saved states, removing -/
def rentF (X : Nat → Nat) (h wd hrs sh : Nat) : Nat := if 4 < wd then hrs * X (5 + h) * sh / 100 * (100 + X 2) / 100 else hrs * X (5 + h) * sh / 100
def sRent (X : Nat → Nat) (h day f t : Nat) : Nat := rentF X h (day % 7) (t - f) 100
def rRent (X : Nat → Nat) (h wd f t : Nat) : Nat := rentF X h wd (t - f) (100 - X 1)
/-- rates and settings in range -/
def wf1 (X : Nat → Nat) : Prop := X 0 ≤ 4 ∧ X 1 ≤ 50 ∧ X 2 ≤ 100 ∧ X 3 ≤ X 4 ∧ X 4 ≤ 11 ∧ (100 ≤ X 5 ∧ X 5 ≤ 5000) ∧ (100 ≤ X 6 ∧ X 6 ≤ 5000) ∧ (100 ≤ X 7 ∧ X 7 ≤ 5000)
theorem wf1_rate {X : Nat → Nat} (h : wf1 X) {a : Nat} (ha : a ≤ 2) : 100 ≤ X (5 + a) ∧ X (5 + a) ≤ 5000 := by
  obtain ⟨-, -, -, -, -, h5, h6, h7⟩ := h
  rcases (show a = 0 ∨ a = 1 ∨ a = 2 by omega) with rfl | rfl | rfl <;> assumption
theorem rent_b {X : Nat → Nat} (h : wf1 X) {a hrs sh : Nat} (ha : a ≤ 2) (hh : hrs ≤ 24) (hs : sh ≤ 100) : hrs * X (5 + a) ≤ 120000 ∧ hrs * X (5 + a) * sh ≤ 12000000 ∧ hrs * X (5 + a) * sh / 100 ≤ 120000 ∧ hrs * X (5 + a) * sh / 100 * (100 + X 2) ≤ 24000000 ∧ hrs * X (5 + a) * sh / 100 * (100 + X 2) / 100 ≤ 240000 := by
  have h1 : hrs * X (5 + a) ≤ 24 * 5000 := Nat.mul_le_mul hh (wf1_rate h ha).2
  have h2 : hrs * X (5 + a) * sh ≤ 24 * 5000 * 100 := Nat.mul_le_mul h1 hs
  have h3 : hrs * X (5 + a) * sh / 100 ≤ 120000 := by omega
  have h4 : hrs * X (5 + a) * sh / 100 * (100 + X 2) ≤ 120000 * 200 := Nat.mul_le_mul h3 (by have := h.2.2.1; omega)
  exact ⟨by omega, by omega, h3, by omega, by omega⟩
theorem rentF_le {X : Nat → Nat} (h : wf1 X) {a wd hrs sh : Nat} (ha : a ≤ 2) (hh : hrs ≤ 24) (hs : sh ≤ 100) : rentF X a wd hrs sh ≤ 240000 := by
  obtain ⟨h1, h2, h3, h4, h5⟩ := rent_b h ha hh hs
  unfold rentF
  split <;> omega
def SVf (SS : Nat → Nat → Nat) : Nat → Nat := fun j => SS (j / 177) (j % 177)
def svS (SS : Nat → Nat → Nat) (sm : Nat) (X : Nat → Nat) : Nat → Nat → Nat := fun k => if sm = 6 then (if k < 5 then SS (k + 1) else X) else if k = sm then X else SS k
def svN (sm : Nat) : Nat := if sm = 6 then 6 else sm + 1
theorem SVf_at (SS : Nat → Nat → Nat) {s j : Nat} (h : j < 177) : SVf SS (177 * s + j) = SS s j := by
  unfold SVf
  rw [show (177 * s + j) / 177 = s by omega, show (177 * s + j) % 177 = j by omega]
/-- a run of places filled from elsewhere -/
def fil (A B : Nat → Nat) (o k : Nat) : Nat → Nat := fun j => if o ≤ j ∧ j < o + k then A j else B j
theorem fil_0 (A B : Nat → Nat) (o : Nat) : fil A B o 0 = B := by
  funext j
  unfold fil
  rw [if_neg (by omega)]
theorem fil_s (A B : Nat → Nat) (o k : Nat) : uN (fil A B o k) (o + k) (A (o + k)) = fil A B o (k + 1) := by
  funext j
  unfold uN fil
  by_cases h : j = o + k
  · subst h; rw [if_pos rfl, if_pos (by omega)]
  · rw [if_neg h]
    by_cases h2 : o ≤ j ∧ j < o + k
    · rw [if_pos h2, if_pos (by omega)]
    · rw [if_neg h2, if_neg (by omega)]
theorem fil_in {A B : Nat → Nat} {o k j : Nat} (h : o ≤ j) (h2 : j < o + k) : fil A B o k j = A j := by unfold fil; rw [if_pos ⟨h, h2⟩]
theorem fil_out {A B : Nat → Nat} {o k j : Nat} (h : j < o ∨ o + k ≤ j) : fil A B o k j = B j := by unfold fil; rw [if_neg (by omega)]
def rmS (X : Nat → Nat) (n : Nat) : Nat → Nat := fun j => if j = 92 then X 92 - 1 else if 93 + 7 * n ≤ j ∧ j < 93 + 7 * (X 92 - 1) then X (j + 7) else if 93 + 7 * (X 92 - 1) ≤ j ∧ j < 93 + 7 * X 92 then 0 else X j
def rmR (X : Nat → Nat) (n : Nat) : Nat → Nat := fun j => if j = 11 then X 11 - 1 else if 12 + 10 * n ≤ j ∧ j < 12 + 10 * (X 11 - 1) then X (j + 10) else if 12 + 10 * (X 11 - 1) ≤ j ∧ j < 12 + 10 * X 11 then 0 else X j
section MOD5
variable {M0 : zM} {X SV SN AT CH CF CT BU PT : Nat → Nat} {sm ik th mn cl ln sp nu pa : Nat} {hs : Int64}
theorem kX6_rent (hX : wf1 X) {h wd hrs sh : Nat} (hh : h ≤ 2) (hw : wd ≤ 6) (h3 : hrs ≤ 24) (h4 : sh ≤ 100) : Cn mX6_rent 0 0 0 none [.ref 233, .int (nI h), .int (nI wd), .int (nI hrs), .int (nI sh)] (mM M0 X SV SN AT CH CF CT BU PT sm ik th mn cl ln sp nu pa hs) (zpi (mM M0 X SV SN AT CH CF CT BU PT sm ik th mn cl ln sp nu pa hs) (nI (rentF X h wd hrs sh))) := by
  obtain ⟨r1, r2, r3, r4, r5⟩ := rent_b hX hh h3 h4
  refine g_iload_n dX6_rent_0 rfl ?_
  refine g_aload_n dX6_rent_1 rfl ?_
  refine g_get fX6_7 dX6_rent_2 rfl rfl ?_
  refine g_iconst (v := nI 5) dX6_rent_5 (by decide) ?_
  refine g_iload_n dX6_rent_6 rfl ?_
  refine g_iadd_n dX6_rent_7 ?_
  refine g_iald_n dX6_rent_8 rfl (by omega) (by decide) ?_
  refine g_imul_n dX6_rent_9 ?_
  refine g_iload dX6_rent_10 rfl ?_
  refine g_imul_n dX6_rent_12 ?_
  refine g_bipush (v := nI 100) dX6_rent_13 (by decide) ?_
  refine g_idiv_n dX6_rent_15 (by omega) (by omega) (by omega) ?_
  refine g_istore dX6_rent_16 (by decide) ?_
  refine g_iload_n dX6_rent_18 rfl ?_
  refine g_iconst (v := nI 4) dX6_rent_19 (by decide) ?_
  refine g_icmp_le_n (tgt := 41) dX6_rent_20 (by decide) (by omega) (by omega) (fun h1 => ?_) (fun h1 => ?_)
  · refine g_iload dX6_rent_41 rfl ?_
    refine g_ireturn dX6_rent_43 rfl rfl ⟨rfl, ?_, rfl⟩
    rw [rentF, if_neg (by omega)]
  refine g_iload dX6_rent_23 rfl ?_
  refine g_bipush (v := nI 100) dX6_rent_25 (by decide) ?_
  refine g_aload_n dX6_rent_27 rfl ?_
  refine g_get fX6_7 dX6_rent_28 rfl rfl ?_
  refine g_iconst (v := nI 2) dX6_rent_31 (by decide) ?_
  refine g_iald_n dX6_rent_32 rfl (by omega) (by decide) ?_
  refine g_iadd_n dX6_rent_33 ?_
  refine g_imul_n dX6_rent_34 ?_
  refine g_bipush (v := nI 100) dX6_rent_35 (by decide) ?_
  refine g_idiv_n dX6_rent_37 (by omega) (by omega) (by omega) ?_
  refine g_goto (tgt := 43) dX6_rent_38 (by decide) ?_
  refine g_ireturn dX6_rent_43 rfl rfl ⟨rfl, ?_, rfl⟩
  rw [rentF, if_pos (by omega)]
theorem kX6_singleRent (hX : wf1 X) {h day f t : Nat} (hh : h ≤ 2) (hd : day < 84) (hf : f ≤ t) (ht : t ≤ 24) : Cn mX6_singleRent 1 0 0 none [.ref 233, .int (nI h), .int (nI day), .int (nI f), .int (nI t)] (mM M0 X SV SN AT CH CF CT BU PT sm ik th mn cl ln sp nu pa hs) (zpi (mM M0 X SV SN AT CH CF CT BU PT sm ik th mn cl ln sp nu pa hs) (nI (sRent X h day f t))) := by
  refine g_aload_n dX6_singleRent_0 rfl ?_
  refine g_iload_n dX6_singleRent_1 rfl ?_
  refine g_iload_n dX6_singleRent_2 rfl ?_
  refine g_bipush (v := nI 7) dX6_singleRent_3 (by decide) ?_
  refine g_irem_n dX6_singleRent_5 (by omega) (by omega) (by omega) ?_
  refine g_iload dX6_singleRent_6 rfl ?_
  refine g_iload_n dX6_singleRent_8 rfl ?_
  refine g_isub_n dX6_singleRent_9 (by omega) ?_
  refine g_bipush (v := nI 100) dX6_singleRent_10 (by decide) ?_
  refine g_callV_i (kX6_rent hX (h := h) (wd := day % 7) (hrs := t - f) (sh := 100) hh (by omega) (by omega) (by omega)) oX6_rent pX6_rent lX6_100 dX6_singleRent_12 rfl rfl rfl rfl rfl (Nat.le_of_ble_eq_true rfl) (Nat.le_of_ble_eq_true rfl) (by decide) (fun M' h' => ?_)
  subst h'
  exact g_ireturn dX6_singleRent_15 rfl rfl ⟨rfl, rfl, rfl⟩
theorem kX6_regularRent (hX : wf1 X) {h wd f t : Nat} (hh : h ≤ 2) (hw : wd ≤ 6) (hf : f ≤ t) (ht : t ≤ 24) : Cn mX6_regularRent 1 0 0 none [.ref 233, .int (nI h), .int (nI wd), .int (nI f), .int (nI t)] (mM M0 X SV SN AT CH CF CT BU PT sm ik th mn cl ln sp nu pa hs) (zpi (mM M0 X SV SN AT CH CF CT BU PT sm ik th mn cl ln sp nu pa hs) (nI (rRent X h wd f t))) := by
  have h1 := hX.2.1
  refine g_aload_n dX6_regularRent_0 rfl ?_
  refine g_iload_n dX6_regularRent_1 rfl ?_
  refine g_iload_n dX6_regularRent_2 rfl ?_
  refine g_iload dX6_regularRent_3 rfl ?_
  refine g_iload_n dX6_regularRent_5 rfl ?_
  refine g_isub_n dX6_regularRent_6 (by omega) ?_
  refine g_bipush (v := nI 100) dX6_regularRent_7 (by decide) ?_
  refine g_aload_n dX6_regularRent_9 rfl ?_
  refine g_get fX6_7 dX6_regularRent_10 rfl rfl ?_
  refine g_iconst (v := nI 1) dX6_regularRent_13 (by decide) ?_
  refine g_iald_n dX6_regularRent_14 rfl (by omega) (by decide) ?_
  refine g_isub_n dX6_regularRent_15 (by omega) ?_
  refine g_callV_i (kX6_rent hX (h := h) (wd := wd) (hrs := t - f) (sh := 100 - X 1) hh hw (by omega) (by omega)) oX6_rent pX6_rent lX6_100 dX6_regularRent_16 rfl rfl rfl rfl rfl (Nat.le_of_ble_eq_true rfl) (Nat.le_of_ble_eq_true rfl) (by decide) (fun M' h' => ?_)
  subst h'
  exact g_ireturn dX6_regularRent_19 rfl rfl ⟨rfl, rfl, rfl⟩
theorem save2 {B : Nat → Nat} (hs6 : sm < 6) (F : zP) (hk : G mX6_save 0 0 0 none 86 [(0, .ref 233)] [] (mM M0 X (fil (fun j => X (j - 177 * sm)) B (177 * sm) 177) SN AT CH CF CT BU PT sm ik th mn cl ln sp nu pa hs) F) : ∀ n k, k + n = 177 → G mX6_save 0 0 0 none 52 [(0, .ref 233), (1, .int (nI k))] [] (mM M0 X (fil (fun j => X (j - 177 * sm)) B (177 * sm) k) SN AT CH CF CT BU PT sm ik th mn cl ln sp nu pa hs) F := by
  intro n
  induction n with
  | zero =>
    intro k hkn
    have : k = 177 := by omega
    subst this
    refine g_iload_n dX6_save_52 rfl ?_
    refine g_sipush (v := nI 177) dX6_save_53 (by decide) ?_
    refine g_icmp_ge_n (tgt := 86) dX6_save_56 (by decide) (by omega) (by omega) (fun h1 => ?_) (fun h1 => ?_)
    · exact g_loc rfl hk
    · omega
  | succ n ih =>
    intro k hkn
    refine g_iload_n dX6_save_52 rfl ?_
    refine g_sipush (v := nI 177) dX6_save_53 (by decide) ?_
    refine g_icmp_ge_n (tgt := 86) dX6_save_56 (by decide) (by omega) (by omega) (fun h1 => ?_) (fun h1 => ?_)
    · omega
    refine g_aload_n dX6_save_59 rfl ?_
    refine g_get fX6_13 dX6_save_60 rfl rfl ?_
    refine g_sipush (v := nI 177) dX6_save_63 (by decide) ?_
    refine g_aload_n dX6_save_66 rfl ?_
    refine g_get fX6_45 dX6_save_67 rfl rfl ?_
    refine g_imul_n dX6_save_70 ?_
    refine g_iload_n dX6_save_71 rfl ?_
    refine g_iadd_n dX6_save_72 ?_
    refine g_aload_n dX6_save_73 rfl ?_
    refine g_get fX6_7 dX6_save_74 rfl rfl ?_
    refine g_iload_n dX6_save_77 rfl ?_
    refine g_iald_n dX6_save_78 rfl (by omega) (by decide) ?_
    refine g_mst_saved dX6_save_79 (by omega) ?_
    refine g_iinc_n (c := 1) dX6_save_80 rfl (by decide) (by decide) ?_
    refine g_goto (tgt := 52) dX6_save_83 (by decide) ?_
    have := ih (k + 1) (by omega)
    rw [← fil_s, show 177 * sm + k - 177 * sm = k by omega] at this
    exact g_loc rfl this
theorem save1 (F : zP) {A : Nat → Nat} (hk : G mX6_save 0 0 0 none 40 [(0, .ref 233)] [] (mM M0 X (fil (fun j => A (j + 177)) A 0 885) SN AT CH CF CT BU PT sm ik th mn cl ln sp nu pa hs) F) : ∀ n k, k + n = 885 → G mX6_save 0 0 0 none 11 [(0, .ref 233), (1, .int (nI k))] [] (mM M0 X (fil (fun j => A (j + 177)) A 0 k) SN AT CH CF CT BU PT sm ik th mn cl ln sp nu pa hs) F := by
  intro n
  induction n with
  | zero =>
    intro k hkn
    have : k = 885 := by omega
    subst this
    refine g_iload_n dX6_save_11 rfl ?_
    refine g_sipush (v := nI 885) dX6_save_12 (by decide) ?_
    refine g_icmp_ge_n (tgt := 40) dX6_save_15 (by decide) (by omega) (by omega) (fun h1 => ?_) (fun h1 => ?_)
    · exact g_loc rfl hk
    · omega
  | succ n ih =>
    intro k hkn
    refine g_iload_n dX6_save_11 rfl ?_
    refine g_sipush (v := nI 885) dX6_save_12 (by decide) ?_
    refine g_icmp_ge_n (tgt := 40) dX6_save_15 (by decide) (by omega) (by omega) (fun h1 => ?_) (fun h1 => ?_)
    · omega
    refine g_aload_n dX6_save_18 rfl ?_
    refine g_get fX6_13 dX6_save_19 rfl rfl ?_
    refine g_iload_n dX6_save_22 rfl ?_
    refine g_aload_n dX6_save_23 rfl ?_
    refine g_get fX6_13 dX6_save_24 rfl rfl ?_
    refine g_iload_n dX6_save_27 rfl ?_
    refine g_sipush (v := nI 177) dX6_save_28 (by decide) ?_
    refine g_iadd_n dX6_save_31 ?_
    refine g_iald_n dX6_save_32 rfl (by omega) (by decide) ?_
    refine g_mst_saved dX6_save_33 (by omega) ?_
    refine g_iinc_n (c := 1) dX6_save_34 rfl (by decide) (by decide) ?_
    refine g_goto (tgt := 11) dX6_save_37 (by decide) ?_
    have := ih (k + 1) (by omega)
    rw [← fil_s, Nat.zero_add] at this
    rw [fil_out (j := k + 177) (by omega)]
    exact g_loc rfl this
theorem kX6_save {SS : Nat → Nat → Nat} (hs6 : sm ≤ 6) : Cn mX6_save 0 0 0 none [.ref 233] (mM M0 X (SVf SS) SN AT CH CF CT BU PT sm ik th mn cl ln sp nu pa hs) (zv (fun M' => M' = mM M0 X (SVf (svS SS sm X)) SN AT CH CF CT BU PT (svN sm) ik th mn cl ln sp nu pa hs)) := by
  refine g_aload_n dX6_save_0 rfl ?_
  refine g_get fX6_45 dX6_save_1 rfl rfl ?_
  refine g_bipush (v := nI 6) dX6_save_4 (by decide) ?_
  refine g_icmp_ne_n (tgt := 50) dX6_save_6 (by decide) (by omega) (by omega) (fun h1 => ?_) (fun h1 => ?_)
  · refine g_iconst (v := nI 0) dX6_save_50 (by decide) ?_
    refine g_istore_n dX6_save_51 (by decide) ?_
    have hsm : sm < 6 := by omega
    refine g_mset_saved (Y := fil (fun j => X (j - 177 * sm)) (SVf SS) (177 * sm) 0) (fun j hj => by rw [fil_0]) ?_
    refine g_loc rfl (save2 hsm _ ?_ 177 0 (by omega))
    refine g_mset_saved (Y := SVf (svS SS sm X)) (fun j hj => ?_) ?_
    · unfold fil SVf svS
      rw [if_neg h1]
      by_cases h2 : 177 * sm ≤ j ∧ j < 177 * sm + 177
      · rw [if_pos h2, if_pos (by omega)]
        dsimp only
        rw [show j - 177 * sm = j % 177 by omega]
      · rw [if_neg h2, if_neg (by omega)]
    · refine g_aload_n dX6_save_86 rfl ?_
      refine g_dup dX6_save_87 rfl ?_
      refine g_get fX6_45 dX6_save_88 rfl rfl ?_
      refine g_iconst (v := nI 1) dX6_save_91 (by decide) ?_
      refine g_iadd_n dX6_save_92 ?_
      refine g_mput_savedMany fX6_45 dX6_save_93 ?_
      refine g_return dX6_save_96 rfl ⟨rfl, rfl, ?_⟩
      simp [svN, h1]
  · subst h1
    refine g_iconst (v := nI 0) dX6_save_9 (by decide) ?_
    refine g_istore_n dX6_save_10 (by decide) ?_
    refine g_mset_saved (Y := fil (fun j => SVf SS (j + 177)) (SVf SS) 0 0) (fun j hj => by rw [fil_0]) ?_
    refine g_loc rfl (save1 _ ?_ 885 0 (by omega))
    refine g_aload_n dX6_save_40 rfl ?_
    refine g_dup dX6_save_41 rfl ?_
    refine g_get fX6_45 dX6_save_42 rfl rfl ?_
    refine g_iconst (v := nI 1) dX6_save_45 (by decide) ?_
    refine g_isub_n dX6_save_46 (by omega) ?_
    refine g_mput_savedMany fX6_45 dX6_save_47 ?_
    refine g_iconst (v := nI 0) dX6_save_50 (by decide) ?_
    refine g_istore_n dX6_save_51 (by decide) ?_
    refine g_mset_saved (Y := fil (fun j => X (j - 177 * 5)) (fil (fun j => SVf SS (j + 177)) (SVf SS) 0 885) (177 * 5) 0) (fun j hj => by rw [fil_0]) ?_
    refine g_loc rfl (save2 (by omega) _ ?_ 177 0 (by omega))
    refine g_mset_saved (Y := SVf (svS SS 6 X)) (fun j hj => ?_) ?_
    · unfold fil SVf svS
      rw [if_pos rfl]
      by_cases h2 : 177 * 5 ≤ j ∧ j < 177 * 5 + 177
      · rw [if_pos h2, if_neg (by omega)]
        dsimp only
        rw [show j - 177 * 5 = j % 177 by omega]
      · rw [if_neg h2, if_pos (by omega), if_pos (by omega)]
        dsimp only
        rw [show (j + 177) / 177 = j / 177 + 1 by omega, show (j + 177) % 177 = j % 177 by omega]
    · refine g_aload_n dX6_save_86 rfl ?_
      refine g_dup dX6_save_87 rfl ?_
      refine g_get fX6_45 dX6_save_88 rfl rfl ?_
      refine g_iconst (v := nI 1) dX6_save_91 (by decide) ?_
      refine g_iadd_n dX6_save_92 ?_
      refine g_mput_savedMany fX6_45 dX6_save_93 ?_
      exact g_return dX6_save_96 rfl ⟨rfl, rfl, rfl⟩
theorem undo1 {SS : Nat → Nat → Nat} (hs6 : sm < 6) (F : zP) (hk : G mX6_undo 1 0 0 none 64 [(0, .ref 233)] [] (mM M0 (fil (fun j => SVf SS (177 * sm + j)) X 0 177) (SVf SS) SN AT CH CF CT BU PT sm ik th mn cl ln sp nu pa hs) F) : ∀ n k, k + n = 177 → G mX6_undo 1 0 0 none 30 [(0, .ref 233), (1, .int (nI k))] [] (mM M0 (fil (fun j => SVf SS (177 * sm + j)) X 0 k) (SVf SS) SN AT CH CF CT BU PT sm ik th mn cl ln sp nu pa hs) F := by
  intro n
  induction n with
  | zero =>
    intro k hkn
    have : k = 177 := by omega
    subst this
    refine g_iload_n dX6_undo_30 rfl ?_
    refine g_sipush (v := nI 177) dX6_undo_31 (by decide) ?_
    refine g_icmp_ge_n (tgt := 64) dX6_undo_34 (by decide) (by omega) (by omega) (fun h1 => ?_) (fun h1 => ?_)
    · exact g_loc rfl hk
    · omega
  | succ n ih =>
    intro k hkn
    refine g_iload_n dX6_undo_30 rfl ?_
    refine g_sipush (v := nI 177) dX6_undo_31 (by decide) ?_
    refine g_icmp_ge_n (tgt := 64) dX6_undo_34 (by decide) (by omega) (by omega) (fun h1 => ?_) (fun h1 => ?_)
    · omega
    refine g_aload_n dX6_undo_37 rfl ?_
    refine g_get fX6_7 dX6_undo_38 rfl rfl ?_
    refine g_iload_n dX6_undo_41 rfl ?_
    refine g_aload_n dX6_undo_42 rfl ?_
    refine g_get fX6_13 dX6_undo_43 rfl rfl ?_
    refine g_sipush (v := nI 177) dX6_undo_46 (by decide) ?_
    refine g_aload_n dX6_undo_49 rfl ?_
    refine g_get fX6_45 dX6_undo_50 rfl rfl ?_
    refine g_imul_n dX6_undo_53 ?_
    refine g_iload_n dX6_undo_54 rfl ?_
    refine g_iadd_n dX6_undo_55 ?_
    refine g_iald_n dX6_undo_56 rfl (by omega) (by decide) ?_
    refine g_mst_row dX6_undo_57 (by omega) ?_
    refine g_iinc_n (c := 1) dX6_undo_58 rfl (by decide) (by decide) ?_
    refine g_goto (tgt := 30) dX6_undo_61 (by decide) ?_
    have := ih (k + 1) (by omega)
    rw [← fil_s, Nat.zero_add] at this
    exact g_loc rfl this
theorem kX6_undo0 : Cn mX6_undo 1 0 0 none [.ref 233] (mM M0 X SV SN AT CH CF CT BU PT 0 ik th mn cl ln sp nu pa hs) (zi (nI 0) (fun M' => M' = mM M0 X SV SN AT CH CF CT BU PT 0 ik 1 mn cl ln sp nu pa hs)) := by
  refine g_aload_n dX6_undo_0 rfl ?_
  refine g_iconst (v := nI 0) dX6_undo_1 (by decide) ?_
  refine g_mput_thrown fX6_37 dX6_undo_2 ?_
  refine g_aload_n dX6_undo_5 rfl ?_
  refine g_get fX6_45 dX6_undo_6 rfl rfl ?_
  refine g_if_ne_n (tgt := 18) dX6_undo_9 (by decide) (by omega) (fun h1 => ?_) (fun h1 => ?_)
  · exact absurd rfl h1
  refine g_aload_n dX6_undo_12 rfl ?_
  refine g_iconst (v := nI 1) dX6_undo_13 (by decide) ?_
  refine g_callV_i (kX6_fails 1) oX6_fails pX6_fails lX6_48 dX6_undo_14 rfl rfl rfl rfl rfl (Nat.le_of_ble_eq_true rfl) (Nat.le_of_ble_eq_true rfl) (by decide) (fun M' h' => ?_)
  subst h'
  exact g_ireturn dX6_undo_17 rfl rfl ⟨rfl, rfl, rfl⟩
theorem kX6_undo {SS : Nat → Nat → Nat} (hs6 : sm < 6) : Cn mX6_undo 1 0 0 none [.ref 233] (mM M0 X (SVf SS) SN AT CH CF CT BU PT (sm+1) ik th mn cl ln sp nu pa hs) (zi (nI sm) (fun M' => M' = mM M0 (SS sm) (SVf SS) SN AT CH CF CT BU PT sm ik 0 mn cl ln sp nu pa hs)) := by
  refine g_aload_n dX6_undo_0 rfl ?_
  refine g_iconst (v := nI 0) dX6_undo_1 (by decide) ?_
  refine g_mput_thrown fX6_37 dX6_undo_2 ?_
  refine g_aload_n dX6_undo_5 rfl ?_
  refine g_get fX6_45 dX6_undo_6 rfl rfl ?_
  refine g_if_ne_n (tgt := 18) dX6_undo_9 (by decide) (by omega) (fun h1 => ?_) (fun h1 => ?_)
  · refine g_aload_n dX6_undo_18 rfl ?_
    refine g_dup dX6_undo_19 rfl ?_
    refine g_get fX6_45 dX6_undo_20 rfl rfl ?_
    refine g_iconst (v := nI 1) dX6_undo_23 (by decide) ?_
    refine g_isub_n dX6_undo_24 (by omega) ?_
    refine g_mput_savedMany fX6_45 dX6_undo_25 ?_
    refine g_iconst (v := nI 0) dX6_undo_28 (by decide) ?_
    refine g_istore_n dX6_undo_29 (by decide) ?_
    simp only [Nat.add_sub_cancel]
    refine g_mset_row (Y := fil (fun j => SVf SS (177 * sm + j)) X 0 0) (fun j hj => by rw [fil_0]) ?_
    refine g_loc rfl (undo1 hs6 _ ?_ 177 0 (by omega))
    refine g_mset_row (Y := SS sm) (fun j hj => ?_) ?_
    · rw [fil_in (by omega) (by omega), SVf_at SS hj]
    · refine g_aload_n dX6_undo_64 rfl ?_
      refine g_get fX6_45 dX6_undo_65 rfl rfl ?_
      exact g_ireturn dX6_undo_68 rfl rfl ⟨rfl, rfl, rfl⟩
  · omega
theorem keep1 (F : zP) (hk : G mX6_keep 1 0 0 none 32 [(0, .ref 233)] [] (mM M0 X SV (fil X SN 0 177) AT CH CF CT BU PT sm ik th mn cl ln sp nu pa hs) F) : ∀ n k, k + n = 177 → G mX6_keep 1 0 0 none 7 [(0, .ref 233), (1, .int (nI k))] [] (mM M0 X SV (fil X SN 0 k) AT CH CF CT BU PT sm ik th mn cl ln sp nu pa hs) F := by
  intro n
  induction n with
  | zero =>
    intro k hkn
    have : k = 177 := by omega
    subst this
    refine g_iload_n dX6_keep_7 rfl ?_
    refine g_sipush (v := nI 177) dX6_keep_8 (by decide) ?_
    refine g_icmp_ge_n (tgt := 32) dX6_keep_11 (by decide) (by omega) (by omega) (fun h1 => ?_) (fun h1 => ?_)
    · exact g_loc rfl hk
    · omega
  | succ n ih =>
    intro k hkn
    refine g_iload_n dX6_keep_7 rfl ?_
    refine g_sipush (v := nI 177) dX6_keep_8 (by decide) ?_
    refine g_icmp_ge_n (tgt := 32) dX6_keep_11 (by decide) (by omega) (by omega) (fun h1 => ?_) (fun h1 => ?_)
    · omega
    refine g_aload_n dX6_keep_14 rfl ?_
    refine g_get fX6_16 dX6_keep_15 rfl rfl ?_
    refine g_iload_n dX6_keep_18 rfl ?_
    refine g_aload_n dX6_keep_19 rfl ?_
    refine g_get fX6_7 dX6_keep_20 rfl rfl ?_
    refine g_iload_n dX6_keep_23 rfl ?_
    refine g_iald_n dX6_keep_24 rfl (by omega) (by decide) ?_
    refine g_mst_snapshot dX6_keep_25 (by omega) ?_
    refine g_iinc_n (c := 1) dX6_keep_26 rfl (by decide) (by decide) ?_
    refine g_goto (tgt := 7) dX6_keep_29 (by decide) ?_
    have := ih (k + 1) (by omega)
    rw [← fil_s, Nat.zero_add] at this
    exact g_loc rfl this
theorem kX6_keep : Cn mX6_keep 1 0 0 none [.ref 233] (mM M0 X SV SN AT CH CF CT BU PT sm ik th mn cl ln sp nu pa hs) (zi (nI (X 11 + X 92)) (fun M' => M' = mM M0 X SV X AT CH CF CT BU PT sm 1 0 mn cl ln sp nu pa hs)) := by
  refine g_aload_n dX6_keep_0 rfl ?_
  refine g_iconst (v := nI 0) dX6_keep_1 (by decide) ?_
  refine g_mput_thrown fX6_37 dX6_keep_2 ?_
  refine g_iconst (v := nI 0) dX6_keep_5 (by decide) ?_
  refine g_istore_n dX6_keep_6 (by decide) ?_
  refine g_mset_snapshot (Y := fil X SN 0 0) (fun j hj => by rw [fil_0]) ?_
  refine g_loc rfl (keep1 _ ?_ 177 0 (by omega))
  refine g_mset_snapshot (Y := X) (fun j hj => fil_in (by omega) (by omega)) ?_
  refine g_aload_n dX6_keep_32 rfl ?_
  refine g_iconst (v := nI 1) dX6_keep_33 (by decide) ?_
  refine g_mput_isKept fX6_52 dX6_keep_34 (by omega) ?_
  refine g_aload_n dX6_keep_37 rfl ?_
  refine g_callV_i (kX6_allLets) oX6_allLets pX6_allLets lX6_56 dX6_keep_38 rfl rfl rfl rfl rfl (Nat.le_of_ble_eq_true rfl) (Nat.le_of_ble_eq_true rfl) (by decide) (fun M' h' => ?_)
  subst h'
  exact g_ireturn dX6_keep_41 rfl rfl ⟨rfl, rfl, rfl⟩
theorem restore1 (F : zP) (hk : G mX6_restore 1 0 0 none 49 [(0, .ref 233)] [] (mM M0 (fil SN X 0 177) SV SN AT CH CF CT BU PT sm ik th mn cl ln sp nu pa hs) F) : ∀ n k, k + n = 177 → G mX6_restore 1 0 0 none 24 [(0, .ref 233), (1, .int (nI k))] [] (mM M0 (fil SN X 0 k) SV SN AT CH CF CT BU PT sm ik th mn cl ln sp nu pa hs) F := by
  intro n
  induction n with
  | zero =>
    intro k hkn
    have : k = 177 := by omega
    subst this
    refine g_iload_n dX6_restore_24 rfl ?_
    refine g_sipush (v := nI 177) dX6_restore_25 (by decide) ?_
    refine g_icmp_ge_n (tgt := 49) dX6_restore_28 (by decide) (by omega) (by omega) (fun h1 => ?_) (fun h1 => ?_)
    · exact g_loc rfl hk
    · omega
  | succ n ih =>
    intro k hkn
    refine g_iload_n dX6_restore_24 rfl ?_
    refine g_sipush (v := nI 177) dX6_restore_25 (by decide) ?_
    refine g_icmp_ge_n (tgt := 49) dX6_restore_28 (by decide) (by omega) (by omega) (fun h1 => ?_) (fun h1 => ?_)
    · omega
    refine g_aload_n dX6_restore_31 rfl ?_
    refine g_get fX6_7 dX6_restore_32 rfl rfl ?_
    refine g_iload_n dX6_restore_35 rfl ?_
    refine g_aload_n dX6_restore_36 rfl ?_
    refine g_get fX6_16 dX6_restore_37 rfl rfl ?_
    refine g_iload_n dX6_restore_40 rfl ?_
    refine g_iald_n dX6_restore_41 rfl (by omega) (by decide) ?_
    refine g_mst_row dX6_restore_42 (by omega) ?_
    refine g_iinc_n (c := 1) dX6_restore_43 rfl (by decide) (by decide) ?_
    refine g_goto (tgt := 24) dX6_restore_46 (by decide) ?_
    have := ih (k + 1) (by omega)
    rw [← fil_s, Nat.zero_add] at this
    exact g_loc rfl this
theorem kX6_restore0 : Cn mX6_restore 1 0 0 none [.ref 233] (mM M0 X SV SN AT CH CF CT BU PT sm 0 th mn cl ln sp nu pa hs) (zi (nI 0) (fun M' => M' = mM M0 X SV SN AT CH CF CT BU PT sm 0 1 mn cl ln sp nu pa hs)) := by
  refine g_aload_n dX6_restore_0 rfl ?_
  refine g_iconst (v := nI 0) dX6_restore_1 (by decide) ?_
  refine g_mput_thrown fX6_37 dX6_restore_2 ?_
  refine g_aload_n dX6_restore_5 rfl ?_
  refine g_get fX6_52 dX6_restore_6 rfl rfl ?_
  refine g_if_ne_n (tgt := 18) dX6_restore_9 (by decide) (by omega) (fun h1 => ?_) (fun h1 => ?_)
  · exact absurd rfl h1
  refine g_aload_n dX6_restore_12 rfl ?_
  refine g_iconst (v := nI 1) dX6_restore_13 (by decide) ?_
  refine g_callV_i (kX6_fails 1) oX6_fails pX6_fails lX6_48 dX6_restore_14 rfl rfl rfl rfl rfl (Nat.le_of_ble_eq_true rfl) (Nat.le_of_ble_eq_true rfl) (by decide) (fun M' h' => ?_)
  subst h'
  exact g_ireturn dX6_restore_17 rfl rfl ⟨rfl, rfl, rfl⟩
theorem kX6_restore {SS : Nat → Nat → Nat} (hs6 : sm ≤ 6) : Cn mX6_restore 1 0 0 none [.ref 233] (mM M0 X (SVf SS) SN AT CH CF CT BU PT sm 1 th mn cl ln sp nu pa hs) (zi (nI (SN 11 + SN 92)) (fun M' => M' = mM M0 SN (SVf (svS SS sm X)) SN AT CH CF CT BU PT (svN sm) 1 0 mn cl ln sp nu pa hs)) := by
  refine g_aload_n dX6_restore_0 rfl ?_
  refine g_iconst (v := nI 0) dX6_restore_1 (by decide) ?_
  refine g_mput_thrown fX6_37 dX6_restore_2 ?_
  refine g_aload_n dX6_restore_5 rfl ?_
  refine g_get fX6_52 dX6_restore_6 rfl rfl ?_
  refine g_if_ne_n (tgt := 18) dX6_restore_9 (by decide) (by omega) (fun h1 => ?_) (fun h1 => ?_)
  · refine g_aload_n dX6_restore_18 rfl ?_
    refine g_callV_v (kX6_save hs6) oX6_save pX6_save lX6_60 dX6_restore_19 rfl rfl rfl rfl rfl (Nat.le_of_ble_eq_true rfl) (Nat.le_of_ble_eq_true rfl) (by decide) (fun M' h' => ?_)
    subst h'
    refine g_iconst (v := nI 0) dX6_restore_22 (by decide) ?_
    refine g_istore_n dX6_restore_23 (by decide) ?_
    refine g_mset_row (Y := fil SN X 0 0) (fun j hj => by rw [fil_0]) ?_
    refine g_loc rfl (restore1 _ ?_ 177 0 (by omega))
    refine g_mset_row (Y := SN) (fun j hj => fil_in (by omega) (by omega)) ?_
    refine g_aload_n dX6_restore_49 rfl ?_
    refine g_callV_i (kX6_allLets) oX6_allLets pX6_allLets lX6_56 dX6_restore_50 rfl rfl rfl rfl rfl (Nat.le_of_ble_eq_true rfl) (Nat.le_of_ble_eq_true rfl) (by decide) (fun M' h' => ?_)
    subst h'
    exact g_ireturn dX6_restore_53 rfl rfl ⟨rfl, rfl, rfl⟩
  · omega
theorem rmS1 {B : Nat → Nat} {n E : Nat} (hE : n ≤ E) (hE2 : E ≤ 11) (F : zP) (hk : G mX6_removeSingle 0 0 0 none 59 [(0, .ref 233), (2, .int (nI (93 + 7 * E)))] [] (mM M0 (fil (fun j => B (j + 7)) B (93 + 7 * n) (7 * (E - n))) SV SN AT CH CF CT BU PT sm ik th mn cl ln sp nu pa hs) F) : ∀ u k, k + u = 7 * (E - n) → G mX6_removeSingle 0 0 0 none 33 [(0, .ref 233), (2, .int (nI (93 + 7 * E))), (3, .int (nI (93 + 7 * n + k)))] [] (mM M0 (fil (fun j => B (j + 7)) B (93 + 7 * n) k) SV SN AT CH CF CT BU PT sm ik th mn cl ln sp nu pa hs) F := by
  intro u
  induction u with
  | zero =>
    intro k hkn
    have : k = 7 * (E - n) := by omega
    subst this
    refine g_iload_n dX6_removeSingle_33 rfl ?_
    refine g_iload_n dX6_removeSingle_34 rfl ?_
    refine g_icmp_ge_n (tgt := 59) dX6_removeSingle_35 (by decide) (by omega) (by omega) (fun h1 => ?_) (fun h1 => ?_)
    · exact g_loc rfl hk
    · omega
  | succ u ih =>
    intro k hkn
    refine g_iload_n dX6_removeSingle_33 rfl ?_
    refine g_iload_n dX6_removeSingle_34 rfl ?_
    refine g_icmp_ge_n (tgt := 59) dX6_removeSingle_35 (by decide) (by omega) (by omega) (fun h1 => ?_) (fun h1 => ?_)
    · omega
    refine g_aload_n dX6_removeSingle_38 rfl ?_
    refine g_get fX6_7 dX6_removeSingle_39 rfl rfl ?_
    refine g_iload_n dX6_removeSingle_42 rfl ?_
    refine g_aload_n dX6_removeSingle_43 rfl ?_
    refine g_get fX6_7 dX6_removeSingle_44 rfl rfl ?_
    refine g_iload_n dX6_removeSingle_47 rfl ?_
    refine g_bipush (v := nI 7) dX6_removeSingle_48 (by decide) ?_
    refine g_iadd_n dX6_removeSingle_50 ?_
    refine g_iald_n dX6_removeSingle_51 rfl (by omega) (by decide) ?_
    refine g_mst_row dX6_removeSingle_52 (by omega) ?_
    refine g_iinc_n (c := 1) dX6_removeSingle_53 rfl (by decide) (by decide) ?_
    refine g_goto (tgt := 33) dX6_removeSingle_56 (by decide) ?_
    have := ih (k + 1) (by omega)
    rw [← fil_s] at this
    rw [fil_out (j := 93 + 7 * n + k + 7) (by omega)]
    exact g_loc rfl this
theorem rmS2 {B : Nat → Nat} {E : Nat} (hE2 : E ≤ 11) (F : zP) (hk : F (mM M0 (fil (fun _ => 0) B (93 + 7 * E) 7) SV SN AT CH CF CT BU PT sm ik th mn cl ln sp nu pa hs) none (.inl none)) : ∀ u k, k + u = 7 → G mX6_removeSingle 0 0 0 none 61 [(0, .ref 233), (2, .int (nI (93 + 7 * E))), (3, .int (nI (93 + 7 * E + k)))] [] (mM M0 (fil (fun _ => 0) B (93 + 7 * E) k) SV SN AT CH CF CT BU PT sm ik th mn cl ln sp nu pa hs) F := by
  intro u
  induction u with
  | zero =>
    intro k hkn
    have : k = 7 := by omega
    subst this
    refine g_iload_n dX6_removeSingle_61 rfl ?_
    refine g_iload_n dX6_removeSingle_62 rfl ?_
    refine g_bipush (v := nI 7) dX6_removeSingle_63 (by decide) ?_
    refine g_iadd_n dX6_removeSingle_65 ?_
    refine g_icmp_ge_n (tgt := 82) dX6_removeSingle_66 (by decide) (by omega) (by omega) (fun h1 => ?_) (fun h1 => ?_)
    · exact g_return dX6_removeSingle_82 rfl hk
    · omega
  | succ u ih =>
    intro k hkn
    refine g_iload_n dX6_removeSingle_61 rfl ?_
    refine g_iload_n dX6_removeSingle_62 rfl ?_
    refine g_bipush (v := nI 7) dX6_removeSingle_63 (by decide) ?_
    refine g_iadd_n dX6_removeSingle_65 ?_
    refine g_icmp_ge_n (tgt := 82) dX6_removeSingle_66 (by decide) (by omega) (by omega) (fun h1 => ?_) (fun h1 => ?_)
    · omega
    refine g_aload_n dX6_removeSingle_69 rfl ?_
    refine g_get fX6_7 dX6_removeSingle_70 rfl rfl ?_
    refine g_iload_n dX6_removeSingle_73 rfl ?_
    refine g_iconst (v := nI 0) dX6_removeSingle_74 (by decide) ?_
    refine g_mst_row dX6_removeSingle_75 (by omega) ?_
    refine g_iinc_n (c := 1) dX6_removeSingle_76 rfl (by decide) (by decide) ?_
    refine g_goto (tgt := 61) dX6_removeSingle_79 (by decide) ?_
    have := ih (k + 1) (by omega)
    rw [← fil_s] at this
    exact g_loc rfl this
theorem kX6_removeSingle {n : Nat} (hn : n < X 92) (h12 : X 92 ≤ 12) : Cn mX6_removeSingle 0 0 0 none [.ref 233, .int (nI n)] (mM M0 X SV SN AT CH CF CT BU PT sm ik th mn cl ln sp nu pa hs) (zv (fun M' => M' = mM M0 (rmS X n) SV SN AT CH CF CT BU PT sm ik th mn cl ln sp nu pa hs)) := by
  refine g_aload_n dX6_removeSingle_0 rfl ?_
  refine g_get fX6_7 dX6_removeSingle_1 rfl rfl ?_
  refine g_bipush (v := nI 92) dX6_removeSingle_4 (by decide) ?_
  refine g_dup2 dX6_removeSingle_6 rfl rfl ?_
  refine g_iald_n dX6_removeSingle_7 rfl (by omega) (by decide) ?_
  refine g_iconst (v := nI 1) dX6_removeSingle_8 (by decide) ?_
  refine g_isub_n dX6_removeSingle_9 (by omega) ?_
  refine g_mst_row dX6_removeSingle_10 (by omega) ?_
  refine g_bipush (v := nI 93) dX6_removeSingle_11 (by decide) ?_
  refine g_bipush (v := nI 7) dX6_removeSingle_13 (by decide) ?_
  refine g_aload_n dX6_removeSingle_15 rfl ?_
  refine g_get fX6_7 dX6_removeSingle_16 rfl rfl ?_
  refine g_bipush (v := nI 92) dX6_removeSingle_19 (by decide) ?_
  refine g_iald_n dX6_removeSingle_21 rfl (by omega) (by decide) ?_
  refine g_imul_n dX6_removeSingle_22 ?_
  refine g_iadd_n dX6_removeSingle_23 ?_
  refine g_istore_n dX6_removeSingle_24 (by decide) ?_
  refine g_bipush (v := nI 93) dX6_removeSingle_25 (by decide) ?_
  refine g_bipush (v := nI 7) dX6_removeSingle_27 (by decide) ?_
  refine g_iload_n dX6_removeSingle_29 rfl ?_
  refine g_imul_n dX6_removeSingle_30 ?_
  refine g_iadd_n dX6_removeSingle_31 ?_
  refine g_istore_n dX6_removeSingle_32 (by decide) ?_
  rw [uN_s]
  refine g_mset_row (Y := fil (fun j => uN X 92 (X 92 - 1) (j + 7)) (uN X 92 (X 92 - 1)) (93 + 7 * n) 0) (fun j hj => by rw [fil_0]) ?_
  refine g_loc rfl (rmS1 (E := X 92 - 1) (by omega) (by omega) _ ?_ (7 * (X 92 - 1 - n)) 0 (by omega))
  refine g_iload_n dX6_removeSingle_59 rfl ?_
  refine g_istore_n dX6_removeSingle_60 (by decide) ?_
  refine g_mset_row (Y := fil (fun _ => 0) (fil (fun j => uN X 92 (X 92 - 1) (j + 7)) (uN X 92 (X 92 - 1)) (93 + 7 * n) (7 * (X 92 - 1 - n))) (93 + 7 * (X 92 - 1)) 0) (fun j hj => by rw [fil_0]) ?_
  refine g_loc rfl (rmS2 (E := X 92 - 1) (by omega) _ ⟨rfl, rfl, ?_⟩ 7 0 (by omega))
  congr 1
  funext j
  unfold fil rmS
  by_cases h92 : j = 92
  · subst h92
    rw [if_neg (by omega), if_neg (by omega), uN_s, if_pos rfl]
  rw [if_neg h92]
  by_cases h1 : 93 + 7 * (X 92 - 1) ≤ j ∧ j < 93 + 7 * (X 92 - 1) + 7
  · rw [if_pos h1, if_neg (by omega), if_pos (by omega)]
  rw [if_neg h1]
  by_cases h2 : 93 + 7 * n ≤ j ∧ j < 93 + 7 * n + 7 * (X 92 - 1 - n)
  · rw [if_pos h2, if_pos (by omega)]
    exact uN_n _ _ (by omega)
  · rw [if_neg h2, if_neg (by omega), if_neg (by omega), uN_n _ _ h92]
theorem rmR1 {B : Nat → Nat} {n E : Nat} (hE : n ≤ E) (hE2 : E ≤ 7) (F : zP) (hk : G mX6_removeRegular 0 0 0 none 59 [(0, .ref 233), (2, .int (nI (12 + 10 * E)))] [] (mM M0 (fil (fun j => B (j + 10)) B (12 + 10 * n) (10 * (E - n))) SV SN AT CH CF CT BU PT sm ik th mn cl ln sp nu pa hs) F) : ∀ u k, k + u = 10 * (E - n) → G mX6_removeRegular 0 0 0 none 33 [(0, .ref 233), (2, .int (nI (12 + 10 * E))), (3, .int (nI (12 + 10 * n + k)))] [] (mM M0 (fil (fun j => B (j + 10)) B (12 + 10 * n) k) SV SN AT CH CF CT BU PT sm ik th mn cl ln sp nu pa hs) F := by
  intro u
  induction u with
  | zero =>
    intro k hkn
    have : k = 10 * (E - n) := by omega
    subst this
    refine g_iload_n dX6_removeRegular_33 rfl ?_
    refine g_iload_n dX6_removeRegular_34 rfl ?_
    refine g_icmp_ge_n (tgt := 59) dX6_removeRegular_35 (by decide) (by omega) (by omega) (fun h1 => ?_) (fun h1 => ?_)
    · exact g_loc rfl hk
    · omega
  | succ u ih =>
    intro k hkn
    refine g_iload_n dX6_removeRegular_33 rfl ?_
    refine g_iload_n dX6_removeRegular_34 rfl ?_
    refine g_icmp_ge_n (tgt := 59) dX6_removeRegular_35 (by decide) (by omega) (by omega) (fun h1 => ?_) (fun h1 => ?_)
    · omega
    refine g_aload_n dX6_removeRegular_38 rfl ?_
    refine g_get fX6_7 dX6_removeRegular_39 rfl rfl ?_
    refine g_iload_n dX6_removeRegular_42 rfl ?_
    refine g_aload_n dX6_removeRegular_43 rfl ?_
    refine g_get fX6_7 dX6_removeRegular_44 rfl rfl ?_
    refine g_iload_n dX6_removeRegular_47 rfl ?_
    refine g_bipush (v := nI 10) dX6_removeRegular_48 (by decide) ?_
    refine g_iadd_n dX6_removeRegular_50 ?_
    refine g_iald_n dX6_removeRegular_51 rfl (by omega) (by decide) ?_
    refine g_mst_row dX6_removeRegular_52 (by omega) ?_
    refine g_iinc_n (c := 1) dX6_removeRegular_53 rfl (by decide) (by decide) ?_
    refine g_goto (tgt := 33) dX6_removeRegular_56 (by decide) ?_
    have := ih (k + 1) (by omega)
    rw [← fil_s] at this
    rw [fil_out (j := 12 + 10 * n + k + 10) (by omega)]
    exact g_loc rfl this
theorem rmR2 {B : Nat → Nat} {E : Nat} (hE2 : E ≤ 7) (F : zP) (hk : F (mM M0 (fil (fun _ => 0) B (12 + 10 * E) 10) SV SN AT CH CF CT BU PT sm ik th mn cl ln sp nu pa hs) none (.inl none)) : ∀ u k, k + u = 10 → G mX6_removeRegular 0 0 0 none 61 [(0, .ref 233), (2, .int (nI (12 + 10 * E))), (3, .int (nI (12 + 10 * E + k)))] [] (mM M0 (fil (fun _ => 0) B (12 + 10 * E) k) SV SN AT CH CF CT BU PT sm ik th mn cl ln sp nu pa hs) F := by
  intro u
  induction u with
  | zero =>
    intro k hkn
    have : k = 10 := by omega
    subst this
    refine g_iload_n dX6_removeRegular_61 rfl ?_
    refine g_iload_n dX6_removeRegular_62 rfl ?_
    refine g_bipush (v := nI 10) dX6_removeRegular_63 (by decide) ?_
    refine g_iadd_n dX6_removeRegular_65 ?_
    refine g_icmp_ge_n (tgt := 82) dX6_removeRegular_66 (by decide) (by omega) (by omega) (fun h1 => ?_) (fun h1 => ?_)
    · exact g_return dX6_removeRegular_82 rfl hk
    · omega
  | succ u ih =>
    intro k hkn
    refine g_iload_n dX6_removeRegular_61 rfl ?_
    refine g_iload_n dX6_removeRegular_62 rfl ?_
    refine g_bipush (v := nI 10) dX6_removeRegular_63 (by decide) ?_
    refine g_iadd_n dX6_removeRegular_65 ?_
    refine g_icmp_ge_n (tgt := 82) dX6_removeRegular_66 (by decide) (by omega) (by omega) (fun h1 => ?_) (fun h1 => ?_)
    · omega
    refine g_aload_n dX6_removeRegular_69 rfl ?_
    refine g_get fX6_7 dX6_removeRegular_70 rfl rfl ?_
    refine g_iload_n dX6_removeRegular_73 rfl ?_
    refine g_iconst (v := nI 0) dX6_removeRegular_74 (by decide) ?_
    refine g_mst_row dX6_removeRegular_75 (by omega) ?_
    refine g_iinc_n (c := 1) dX6_removeRegular_76 rfl (by decide) (by decide) ?_
    refine g_goto (tgt := 61) dX6_removeRegular_79 (by decide) ?_
    have := ih (k + 1) (by omega)
    rw [← fil_s] at this
    exact g_loc rfl this
theorem kX6_removeRegular {n : Nat} (hn : n < X 11) (h12 : X 11 ≤ 8) : Cn mX6_removeRegular 0 0 0 none [.ref 233, .int (nI n)] (mM M0 X SV SN AT CH CF CT BU PT sm ik th mn cl ln sp nu pa hs) (zv (fun M' => M' = mM M0 (rmR X n) SV SN AT CH CF CT BU PT sm ik th mn cl ln sp nu pa hs)) := by
  refine g_aload_n dX6_removeRegular_0 rfl ?_
  refine g_get fX6_7 dX6_removeRegular_1 rfl rfl ?_
  refine g_bipush (v := nI 11) dX6_removeRegular_4 (by decide) ?_
  refine g_dup2 dX6_removeRegular_6 rfl rfl ?_
  refine g_iald_n dX6_removeRegular_7 rfl (by omega) (by decide) ?_
  refine g_iconst (v := nI 1) dX6_removeRegular_8 (by decide) ?_
  refine g_isub_n dX6_removeRegular_9 (by omega) ?_
  refine g_mst_row dX6_removeRegular_10 (by omega) ?_
  refine g_bipush (v := nI 12) dX6_removeRegular_11 (by decide) ?_
  refine g_bipush (v := nI 10) dX6_removeRegular_13 (by decide) ?_
  refine g_aload_n dX6_removeRegular_15 rfl ?_
  refine g_get fX6_7 dX6_removeRegular_16 rfl rfl ?_
  refine g_bipush (v := nI 11) dX6_removeRegular_19 (by decide) ?_
  refine g_iald_n dX6_removeRegular_21 rfl (by omega) (by decide) ?_
  refine g_imul_n dX6_removeRegular_22 ?_
  refine g_iadd_n dX6_removeRegular_23 ?_
  refine g_istore_n dX6_removeRegular_24 (by decide) ?_
  refine g_bipush (v := nI 12) dX6_removeRegular_25 (by decide) ?_
  refine g_bipush (v := nI 10) dX6_removeRegular_27 (by decide) ?_
  refine g_iload_n dX6_removeRegular_29 rfl ?_
  refine g_imul_n dX6_removeRegular_30 ?_
  refine g_iadd_n dX6_removeRegular_31 ?_
  refine g_istore_n dX6_removeRegular_32 (by decide) ?_
  rw [uN_s]
  refine g_mset_row (Y := fil (fun j => uN X 11 (X 11 - 1) (j + 10)) (uN X 11 (X 11 - 1)) (12 + 10 * n) 0) (fun j hj => by rw [fil_0]) ?_
  refine g_loc rfl (rmR1 (E := X 11 - 1) (by omega) (by omega) _ ?_ (10 * (X 11 - 1 - n)) 0 (by omega))
  refine g_iload_n dX6_removeRegular_59 rfl ?_
  refine g_istore_n dX6_removeRegular_60 (by decide) ?_
  refine g_mset_row (Y := fil (fun _ => 0) (fil (fun j => uN X 11 (X 11 - 1) (j + 10)) (uN X 11 (X 11 - 1)) (12 + 10 * n) (10 * (X 11 - 1 - n))) (12 + 10 * (X 11 - 1)) 0) (fun j hj => by rw [fil_0]) ?_
  refine g_loc rfl (rmR2 (E := X 11 - 1) (by omega) _ ⟨rfl, rfl, ?_⟩ 10 0 (by omega))
  congr 1
  funext j
  unfold fil rmR
  by_cases h92 : j = 11
  · subst h92
    rw [if_neg (by omega), if_neg (by omega), uN_s, if_pos rfl]
  rw [if_neg h92]
  by_cases h1 : 12 + 10 * (X 11 - 1) ≤ j ∧ j < 12 + 10 * (X 11 - 1) + 10
  · rw [if_pos h1, if_neg (by omega), if_pos (by omega)]
  rw [if_neg h1]
  by_cases h2 : 12 + 10 * n ≤ j ∧ j < 12 + 10 * n + 10 * (X 11 - 1 - n)
  · rw [if_pos h2, if_pos (by omega)]
    exact uN_n _ _ (by omega)
  · rw [if_neg h2, if_neg (by omega), if_neg (by omega), uN_n _ _ h92]
end MOD5
