set_option maxRecDepth 16384
/-! the most that are alike on a day -/
section MOST
variable {W V F G : Nat → Int32} {q d : Int32}
theorem cn_eq (hF : FtE F G q) (hT : TbE W V (61 * q.toInt.toNat + 61)) (hd : 0 ≤ d.toInt ∧ d.toInt ≤ 60) {a : Int32} (ha : 0 ≤ a.toInt ∧ a.toInt ≤ q.toInt) : (dX2_mostAlike_l16 W F a d ((7 - (0 : Int32).toInt).toNat + 1) 0 0).2 = (dX12_alikeAt_l18 G V q a d ((7 - (0 : Int32).toInt).toNat + 1) 0 0).2 := by
  have hq := hF.1
  by_cases y : G a.toNatClampNeg = 0
  · have fa : F a.toNatClampNeg = 0 := (hF.2.1 a.toInt.toNat (by omega)).trans y
    rw [alZero fa _ 0 0 (by decide) (by decide) (by decide), dX12_alikeAt_l18_s, if_neg (show ¬ q < 0 by rw [i32_lt, t_0]; omega), if_pos y]
  · exact alIn hF hT ha hd y _ _ 0 0 (by decide) (by rw [t_0]; omega) (by decide) (by decide)
theorem moTail (hF : FtE F G q) : ∀ (n : Nat) (a acc : Int32), q.toInt < a.toInt → a.toInt ≤ 7 → 7 - a.toInt < (n : Int) → 0 ≤ acc.toInt → (dX2_mostAlike_l4 W F d n a acc).2 = acc
  | 0, a, acc, h0, h1, hn, hp => by omega
  | n + 1, a, acc, h0, h1, hn, hp => by
    have hq := hF.1
    rw [dX2_mostAlike_l4_s]
    by_cases z : (7 : Int32) ≤ a
    · rw [if_pos z]
    · have hi : a.toInt < 7 := by rw [i32_leq, t_7] at z; omega
      have en : (a + 1).toInt = a.toInt + 1 := by rw [ix_k rfl t_1 (by omega)]
      have fa : F a.toNatClampNeg = 0 := hF.2.2 a.toInt.toNat (by omega) (by omega)
      rw [if_neg z, alZero fa _ 0 0 (by decide) (by decide) (by decide), if_neg (show ¬ acc < 0 by rw [i32_lt, t_0]; omega)]
      exact moTail hF n (a + 1) acc (by omega) (by omega) (by omega) hp
theorem moL (hF : FtE F G q) (hT : TbE W V (61 * q.toInt.toNat + 61)) (hd : 0 ≤ d.toInt ∧ d.toInt ≤ 60) : ∀ (n m : Nat) (a acc : Int32), 0 ≤ a.toInt → a.toInt ≤ q.toInt + 1 → 7 - a.toInt < (n : Int) → 7 - a.toInt < (m : Int) → 0 ≤ acc.toInt → (dX2_mostAlike_l4 W F d n a acc).2 = (dX12_alikeAt_l4 G V q d m a acc).2
  | 0, m, a, acc, h0, h1, hn, hm, hp => by have := hF.1; omega
  | n + 1, 0, a, acc, h0, h1, hn, hm, hp => by have := hF.1; omega
  | n + 1, m + 1, a, acc, h0, h1, hn, hm, hp => by
    have hq := hF.1
    rw [dX12_alikeAt_l4_s]
    by_cases z : q < a
    · rw [if_pos z]
      rw [i32_lt] at z
      exact moTail hF (n + 1) a acc z (by omega) hn hp
    · have hi : a.toInt ≤ q.toInt := by rw [i32_lt] at z; omega
      have en : (a + 1).toInt = a.toInt + 1 := by rw [ix_k rfl t_1 (by omega)]
      have z7 : ¬ (7 : Int32) ≤ a := by rw [i32_leq, t_7]; omega
      rw [if_neg z, dX2_mostAlike_l4_s, if_neg z7, cn_eq hF hT hd ⟨h0, hi⟩]
      generalize (dX12_alikeAt_l18 G V q a d ((7 - (0 : Int32).toInt).toNat + 1) 0 0).2 = x
      by_cases y : x ≤ acc
      · rw [if_pos y, if_neg (Int32.not_lt.mpr y)]
        exact moL hF hT hd n m (a + 1) acc (by omega) (by omega) (by omega) (by omega) hp
      · have y2 : acc < x := Int32.not_le.mp y
        have y3 : acc.toInt < x.toInt := by rw [i32_lt] at y2; exact y2
        rw [if_neg y, if_pos y2]
        exact moL hF hT hd n m (a + 1) x (by omega) (by omega) (by omega) (by omega) (by omega)
theorem most_is (hF : FtE F G q) (hT : TbE W V (61 * q.toInt.toNat + 61)) (hd : 0 ≤ d.toInt ∧ d.toInt ≤ 60) : dX2_mostAlike W F d = dX12_alikeAt G V q d := by
  have hq := hF.1
  unfold dX2_mostAlike dX12_alikeAt
  exact moL hF hT hd _ _ 0 0 (by decide) (by rw [t_0]; omega) (by decide) (by decide) (by decide)
end MOST
