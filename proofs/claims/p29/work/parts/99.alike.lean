set_option maxRecDepth 16384
/-! how many are alike on a day -/
theorem t_7 : (7 : Int32).toInt = 7 := by decide
/-- what fits is the same up to the count of rules; beyond it nothing fits -/
def FtE (F G : Nat → Int32) (q : Int32) : Prop := (0 ≤ q.toInt ∧ q.toInt ≤ 6) ∧ (∀ k : Nat, (k : Int) ≤ q.toInt → F k = G k) ∧ ∀ k : Nat, q.toInt < (k : Int) → k < 7 → F k = 0
theorem alTail {W F G : Nat → Int32} {q a d : Int32} (hF : FtE F G q) : ∀ (n : Nat) (i acc : Int32), q.toInt < i.toInt → i.toInt ≤ 7 → 7 - i.toInt < (n : Int) → (dX2_mostAlike_l16 W F a d n i acc).2 = acc
  | 0, i, acc, h0, h1, hn => by omega
  | n + 1, i, acc, h0, h1, hn => by
    have hq := hF.1
    rw [dX2_mostAlike_l16_s]
    by_cases z : (7 : Int32) ≤ i
    · rw [if_pos z]
    · have hi : i.toInt < 7 := by rw [i32_leq, t_7] at z; omega
      have en : (i + 1).toInt = i.toInt + 1 := by rw [ix_k rfl t_1 (by omega)]
      have ih := alTail (W := W) (a := a) (d := d) hF n (i + 1) acc (by omega) (by omega) (by omega)
      rw [if_neg z]
      by_cases y : F a.toNatClampNeg = 0
      · rw [if_pos y]; exact ih
      · rw [if_neg y, if_pos (show F i.toNatClampNeg = 0 from hF.2.2 i.toInt.toNat (by omega) (by omega))]; exact ih
theorem alZero {W F : Nat → Int32} {a d : Int32} (hA : F a.toNatClampNeg = 0) : ∀ (n : Nat) (i acc : Int32), 0 ≤ i.toInt → i.toInt ≤ 7 → 7 - i.toInt < (n : Int) → (dX2_mostAlike_l16 W F a d n i acc).2 = acc
  | 0, i, acc, h0, h1, hn => by omega
  | n + 1, i, acc, h0, h1, hn => by
    rw [dX2_mostAlike_l16_s]
    by_cases z : (7 : Int32) ≤ i
    · rw [if_pos z]
    · have hi : i.toInt < 7 := by rw [i32_leq, t_7] at z; omega
      have en : (i + 1).toInt = i.toInt + 1 := by rw [ix_k rfl t_1 (by omega)]
      rw [if_neg z, if_pos hA]
      exact alZero hA n (i + 1) acc (by omega) (by omega) (by omega)
theorem alIn {W V F G : Nat → Int32} {q a d : Int32} (hF : FtE F G q) (hT : TbE W V (61 * q.toInt.toNat + 61)) (ha : 0 ≤ a.toInt ∧ a.toInt ≤ q.toInt) (hd : 0 ≤ d.toInt ∧ d.toInt ≤ 60) (hA : ¬ G a.toNatClampNeg = 0) : ∀ (n m : Nat) (i acc : Int32), 0 ≤ i.toInt → i.toInt ≤ q.toInt + 1 → 7 - i.toInt < (n : Int) → 7 - i.toInt < (m : Int) → (dX2_mostAlike_l16 W F a d n i acc).2 = (dX12_alikeAt_l18 G V q a d m i acc).2
  | 0, m, i, acc, h0, h1, hn, hm => by have := hF.1; omega
  | n + 1, 0, i, acc, h0, h1, hn, hm => by have := hF.1; omega
  | n + 1, m + 1, i, acc, h0, h1, hn, hm => by
    have hq := hF.1
    rw [dX12_alikeAt_l18_s]
    by_cases z : q < i
    · rw [if_pos z]
      rw [i32_lt] at z
      exact alTail hF (n + 1) i acc z (by omega) hn
    · have hi : i.toInt ≤ q.toInt := by rw [i32_lt] at z; omega
      have en : (i + 1).toInt = i.toInt + 1 := by rw [ix_k rfl t_1 (by omega)]
      have z7 : ¬ (7 : Int32) ≤ i := by rw [i32_leq, t_7]; omega
      have fa : F a.toNatClampNeg = G a.toNatClampNeg := hF.2.1 a.toInt.toNat (by omega)
      have fi : F i.toNatClampNeg = G i.toNatClampNeg := hF.2.1 i.toInt.toNat (by omega)
      have ih := fun acc => alIn hF hT ha hd hA n m (i + 1) acc (by omega) (by omega) (by omega) (by omega)
      rw [if_neg z, dX2_mostAlike_l16_s, if_neg z7, fa, fi, if_neg hA, if_neg hA]
      by_cases y : G i.toNatClampNeg = 0
      · rw [if_pos y, if_pos y, Int32.add_zero]; exact ih acc
      · rw [if_neg y, if_neg y, who_is (r := a) (by omega) hd, who_is (r := i) (by omega) hd, spot_is (r := a) (by omega) hd, spot_is (r := i) (by omega) hd, hT _ (by omega), hT _ (by omega)]
        by_cases x : V (61 * a.toInt.toNat + d.toInt.toNat) = V (61 * i.toInt.toNat + d.toInt.toNat)
        · rw [if_pos x, if_pos x]; exact ih (acc + 1)
        · rw [if_neg x, if_neg x, Int32.add_zero]; exact ih acc
