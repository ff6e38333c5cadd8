set_option maxRecDepth 16384
/-! the notes: agrees and areNotesSo -/
theorem cl_l125 : (125 : Int32).toNatClampNeg = 125 := by decide
theorem t_3 : (3 : Int32).toInt = 3 := by decide
theorem t_95 : (95 : Int32).toInt = 95 := by decide
theorem t_427 : (427 : Int32).toInt = 427 := by decide
theorem who_is {W : Nat → Int32} {r d : Int32} (hr : 0 ≤ r.toInt ∧ r.toInt ≤ 6) (hd : 0 ≤ d.toInt ∧ d.toInt ≤ 60) : dX2_whoOn W r d = W (61 * r.toInt.toNat + d.toInt.toNat) := by
  have e1 : (r * (61 : Int32)).toInt = r.toInt * 61 := by rw [mul_toInt (by rw [t_61]; omega) (by rw [t_61]; omega), t_61]
  have e2 : (r * (61 : Int32) + d).toInt = r.toInt * 61 + d.toInt := ix_k e1 rfl (by omega)
  unfold dX2_whoOn
  rw [if_neg (show ¬ r * (61 : Int32) + d < 0 by rw [i32_lt, t_0, e2]; omega), if_neg (show ¬ (427 : Int32) ≤ r * (61 : Int32) + d by rw [i32_leq, t_427, e2]; omega), i61 hr hd]
/-- the notes below the count are the same -/
def NtE (n1 n2 n3 : Nat → Int32) (n0 : Int32) (s : Nat → Int32) : Prop := n0 = s 125 ∧ (0 ≤ (s 125).toInt ∧ (s 125).toInt ≤ 10) ∧ ∀ k : Nat, (k : Int) < (s 125).toInt → n1 k = s (95 + 3 * k) ∧ n2 k = s (96 + 3 * k) ∧ n3 k = s (97 + 3 * k) ∧ 0 ≤ (s (95 + 3 * k)).toInt ∧ (s (95 + 3 * k)).toInt ≤ 60
theorem agL {n1 n2 n3 s W V : Nat → Int32} {n0 r : Int32} (hN : NtE n1 n2 n3 n0 s) (hr : 0 ≤ r.toInt ∧ r.toInt ≤ 6) (hT : TbE W V (61 * r.toInt.toNat + 61)) : ∀ (n m : Nat) (i j : Int32), 0 ≤ i.toInt → i.toInt ≤ (s 125).toInt → j.toInt = 3 * i.toInt → (s 125).toInt - i.toInt < (n : Int) → (s 125).toInt - i.toInt < (m : Int) → (dX2_agrees_l2 n1 n2 n3 n0 W r n i).1 = (dX12_areNotesSo_l2 s V r m j).1 ∧ (dX2_agrees_l2 n1 n2 n3 n0 W r n i).2.1 = (dX12_areNotesSo_l2 s V r m j).2.1
  | 0, m, i, j, h0, h1, hj, hn, hm => by omega
  | n + 1, 0, i, j, h0, h1, hj, hn, hm => by omega
  | n + 1, m + 1, i, j, h0, h1, hj, hn, hm => by
    have hc := hN.2.1
    have e3 : ((3 : Int32) * s 125).toInt = 3 * (s 125).toInt := by rw [mul_toInt (by rw [t_3]; omega) (by rw [t_3]; omega), t_3]
    rw [dX2_agrees_l2_s, dX12_areNotesSo_l2_s, cl_l125, hN.1]
    by_cases z : s 125 ≤ i
    · have z2 : (3 : Int32) * s 125 ≤ j := by rw [i32_leq] at z; rw [i32_leq, e3]; omega
      rw [if_pos z, if_pos z2]
      exact ⟨rfl, rfl⟩
    · have hi : i.toInt < (s 125).toInt := by rw [i32_leq] at z; omega
      have z2 : ¬ (3 : Int32) * s 125 ≤ j := by rw [i32_leq, e3]; omega
      have z10 : ¬ (10 : Int32) ≤ i := by rw [i32_leq, t_10]; omega
      have e95 : ((95 : Int32) + j).toInt = 95 + 3 * i.toInt := by rw [ix_k t_95 hj (by omega)]
      have i1 : ((95 : Int32) + j).toNatClampNeg = 95 + 3 * i.toInt.toNat := cl_eq (by rw [e95]; omega)
      have i2 : ((95 : Int32) + j + (1 : Int32)).toNatClampNeg = 96 + 3 * i.toInt.toNat := cl_eq (by rw [ix_k e95 t_1 (by omega)]; omega)
      have i3 : ((95 : Int32) + j + (2 : Int32)).toNatClampNeg = 97 + 3 * i.toInt.toNat := cl_eq (by rw [ix_k e95 t_2 (by omega)]; omega)
      obtain ⟨q1, q2, q3, q4, q5⟩ := hN.2.2 i.toInt.toNat (by omega)
      rw [if_neg z, if_neg z10, if_neg z2, i1, i2, i3, cl_b (b := i), q1, q2, q3, who_is hr ⟨q4, q5⟩, spot_is hr ⟨q4, q5⟩, hT _ (by omega)]
      have en : (i + 1).toInt = i.toInt + 1 := by rw [ix_k rfl t_1 (by omega)]
      have ej : (j + 3).toInt = j.toInt + 3 := by rw [ix_k rfl t_3 (by omega)]
      have ih := agL hN hr hT n m (i + 1) (j + 3) (by omega) (by omega) (by omega) (by omega) (by omega)
      rw [hN.1] at ih
      by_cases y : ((V (61 * r.toInt.toNat + (s (95 + 3 * i.toInt.toNat)).toInt.toNat) >>> (s (96 + 3 * i.toInt.toNat) &&& 31)) &&& (1 : Int32)) = s (97 + 3 * i.toInt.toNat)
      · rw [if_pos y, if_pos y]
        exact ih
      · rw [if_neg y, if_neg y]
        exact ⟨rfl, rfl⟩
theorem agree_is {n1 n2 n3 s W V : Nat → Int32} {n0 r : Int32} (hN : NtE n1 n2 n3 n0 s) (hr : 0 ≤ r.toInt ∧ r.toInt ≤ 6) (hT : TbE W V (61 * r.toInt.toNat + 61)) : dX2_agrees n1 n2 n3 n0 W r = dX12_areNotesSo s V r := by
  have hc := hN.2.1
  have h := agL hN hr hT ((10 - (0 : Int32).toInt).toNat + 1) (((33 - (0 : Int32).toInt) / 3).toNat + 1) 0 0 (by decide) (by rw [t_0]; omega) (by decide) (by rw [t_0]; omega) (by rw [t_0]; omega)
  unfold dX2_agrees dX12_areNotesSo
  rw [h.1, h.2]
