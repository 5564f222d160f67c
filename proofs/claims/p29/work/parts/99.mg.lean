/-! mathematics: bounds -/
section DG
variable {Y : Nat → Nat → Nat} {X : Nat → Nat} {SS : Nat → Nat → Nat} {SN BU : Nat → Nat} {sm ik ln : Nat}
theorem ab_ref12 (hI : Inv Y X SS SN sm ik) (v : Nat → Nat) {day : Nat} (hd : day < 84) : (if Y 20 1 = 12 then 1 else rsO (uA Y 70 v) day) = rfs X (v 0) day (v 2) (v 3) (v 4) := ab_rf hI.1.2.1 hI.1.1 hd v
/-! how big sums get -/
theorem dcnt_84 (X : Nat → Nat) (i : Nat) : dcnt X i 84 ≤ 84 := dcnt_le X i 84
theorem ownR_b (hX : XG X) {w : Nat} (hw : w ≤ 2) {n : Nat} (hn : n < X 11) : ownR X w n ≤ 20160000 := by
  have h6 : X (12 + 10 * n + 6) ≤ 240000 := (hX.2.2.1.1 n hn).1.2.2.2.2.2.2
  have h84 := dcnt_84 X n
  unfold ownR
  split
  · omega
  · split
    · omega
    · exact Nat.le_trans (Nat.mul_le_mul h84 h6) (by decide)
theorem ownS_b (hX : XG X) {w : Nat} (hw : w ≤ 2) {n : Nat} (hn : n < X 92) : ownS X w n ≤ 240000 := by
  have h6 : X (93 + 7 * n + 6) ≤ 240000 := (hX.2.2.1.2 n hn).1.2.2.2.2.2.2
  unfold ownS
  split
  · omega
  · exact h6
theorem otR_b {B N : Nat} (te : Int32) {w : Nat} (ho : ∀ n, n < N → ownR X w n ≤ B) : ∀ n, n ≤ N → otR X te w n ≤ n * B
  | 0, _ => Nat.zero_le _
  | n + 1, hn => by
    have ih := otR_b te ho n (by omega)
    have hb := ho n (by omega)
    rw [otR, Nat.succ_mul n B]
    refine Nat.add_le_add ih ?_
    cases tqB te (X (12 + 10 * n + 5))
    · exact Nat.zero_le _
    · exact hb
theorem otS_b {B N : Nat} (te : Int32) {w : Nat} (ho : ∀ n, n < N → ownS X w n ≤ B) : ∀ n, n ≤ N → otS X te w n ≤ n * B
  | 0, _ => Nat.zero_le _
  | n + 1, hn => by
    have ih := otS_b te ho n (by omega)
    have hb := ho n (by omega)
    rw [otS, Nat.succ_mul n B]
    refine Nat.add_le_add ih ?_
    cases tqB te (X (93 + 7 * n + 5))
    · exact Nat.zero_le _
    · exact hb
theorem oT_b (hX : XG X) (te : Int32) {w : Nat} (hw : w ≤ 2) : oT X te w < 2 ^ 31 := by
  have h1 := otR_b te (fun n hn => ownR_b hX hw hn) (X 11) (Nat.le_refl _)
  have h2 := otS_b te (fun n hn => ownS_b hX hw hn) (X 92) (Nat.le_refl _)
  have h3 : X 11 * 20160000 ≤ 8 * 20160000 := Nat.mul_le_mul_right _ hX.1.2.1
  have h4 : X 92 * 240000 ≤ 12 * 240000 := Nat.mul_le_mul_right _ hX.1.2.2
  unfold oT
  exact Nat.lt_of_le_of_lt (Nat.add_le_add (Nat.le_trans h1 h3) (Nat.le_trans h2 h4)) (by decide)
theorem ownH_b (hX : XG X) {n : Nat} (hn : n < X 11) : ownH X 1 (12 + 10 * n) * dcnt X n 84 ≤ 2016 := by
  have h3 : X (12 + 10 * n + 3) ≤ 24 := (hX.2.2.1.1 n hn).1.2.2.1
  have h84 := dcnt_84 X n
  unfold ownH
  rw [if_neg (by omega), if_pos rfl]
  exact Nat.le_trans (Nat.mul_le_mul (show X (12 + 10 * n + 3) - X (12 + 10 * n + 2) ≤ 24 by omega) h84) (by decide)
theorem ownK_b (hX : XG X) {n : Nat} (hn : n < X 92) : ownH X 1 (93 + 7 * n) * (if X (93 + 7 * n + 1) < 84 then 1 else 0) ≤ 24 := by
  have h3 : X (93 + 7 * n + 3) ≤ 24 := (hX.2.2.1.2 n hn).1.2.2.1
  unfold ownH
  rw [if_neg (by omega), if_pos rfl]
  split <;> omega
theorem aRs_b {B N : Nat} (a : Nat) (ho : ∀ n, n < N → ownH X 1 (12 + 10 * n) * dcnt X n 84 ≤ B) : ∀ n, n ≤ N → aRs X a 84 n ≤ n * B
  | 0, _ => Nat.zero_le _
  | n + 1, hn => by
    have ih := aRs_b a ho n (by omega)
    have hb := ho n (by omega)
    rw [aRs, Nat.succ_mul n B]
    refine Nat.add_le_add ih ?_
    split
    · exact hb
    · exact Nat.zero_le _
theorem aSs_b {B N : Nat} (a : Nat) (ho : ∀ n, n < N → ownH X 1 (93 + 7 * n) * (if X (93 + 7 * n + 1) < 84 then 1 else 0) ≤ B) : ∀ n, n ≤ N → aSs X a 84 n ≤ n * B
  | 0, _ => Nat.zero_le _
  | n + 1, hn => by
    have ih := aSs_b a ho n (by omega)
    have hb := ho n (by omega)
    rw [aSs, Nat.succ_mul n B]
    refine Nat.add_le_add ih ?_
    split
    · exact hb
    · exact Nat.zero_le _
theorem shN_b (hX : XG X) (a : Nat) : shN X a 84 < 2 ^ 31 := by
  have h1 := aRs_b a (fun n hn => ownH_b hX hn) (X 11) (Nat.le_refl _)
  have h2 := aSs_b a (fun n hn => ownK_b hX hn) (X 92) (Nat.le_refl _)
  have h3 : X 11 * 2016 ≤ 8 * 2016 := Nat.mul_le_mul_right _ hX.1.2.1
  have h4 : X 92 * 24 ≤ 12 * 24 := Nat.mul_le_mul_right _ hX.1.2.2
  rw [shN_rows]
  exact Nat.lt_of_le_of_lt (Nat.add_le_add (Nat.le_trans h1 h3) (Nat.le_trans h2 h4)) (by decide)
theorem inv_hi (hI : Inv Y X SS SN sm ik) (a : Nat) : hiT Y a < 2 ^ 31 := by
  rw [ab_hi hI.1.2.1]
  exact shN_b hI.1.2.2 a
theorem inv_sf (hI : Inv Y X SS SN sm ik) (te : Int32) {w : Nat} (hw : w ≤ 2) : sfT Y te w < 2 ^ 31 := by
  rw [ab_sfT hI.1.2.1 hw]
  exact oT_b hI.1.2.2 te hw
end DG
