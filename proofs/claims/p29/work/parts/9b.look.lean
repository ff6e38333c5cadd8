set_option maxRecDepth 16384
/-! the day to look at -/
theorem t_8 : (8 : Int32).toInt = 8 := by decide
theorem cn_rg {W F : Nat → Int32} {a d : Int32} : ∀ (n : Nat) (i acc : Int32), 0 ≤ i.toInt → i.toInt ≤ 7 → 0 ≤ acc.toInt → acc.toInt ≤ i.toInt → 0 ≤ (dX2_mostAlike_l16 W F a d n i acc).2.toInt ∧ (dX2_mostAlike_l16 W F a d n i acc).2.toInt ≤ 7
  | 0, i, acc, h0, h1, h2, h3 => by
    show 0 ≤ (0 : Int32).toInt ∧ (0 : Int32).toInt ≤ 7
    rw [t_0]; omega
  | n + 1, i, acc, h0, h1, h2, h3 => by
    rw [dX2_mostAlike_l16_s]
    by_cases z : (7 : Int32) ≤ i
    · rw [if_pos z]
      show 0 ≤ acc.toInt ∧ acc.toInt ≤ 7
      omega
    · have hi : i.toInt < 7 := by rw [i32_leq, t_7] at z; omega
      have en : (i + 1).toInt = i.toInt + 1 := by rw [ix_k rfl t_1 (by omega)]
      have ea : (acc + 1).toInt = acc.toInt + 1 := by rw [ix_k rfl t_1 (by omega)]
      have ih := cn_rg (W := W) (F := F) (a := a) (d := d) n (i + 1) acc (by omega) (by omega) h2 (by omega)
      have ih1 := cn_rg (W := W) (F := F) (a := a) (d := d) n (i + 1) (acc + 1) (by omega) (by omega) (by omega) (by omega)
      rw [if_neg z]
      by_cases y : F a.toNatClampNeg = 0
      · rw [if_pos y]; exact ih
      · rw [if_neg y]
        by_cases x : F i.toNatClampNeg = 0
        · rw [if_pos x]; exact ih
        · rw [if_neg x]
          by_cases w : dX2_whoOn W a d = dX2_whoOn W i d
          · rw [if_pos w]; exact ih1
          · rw [if_neg w]; exact ih
theorem mo_rg {W F : Nat → Int32} {d : Int32} : ∀ (n : Nat) (a acc : Int32), 0 ≤ acc.toInt → acc.toInt ≤ 7 → 0 ≤ (dX2_mostAlike_l4 W F d n a acc).2.toInt ∧ (dX2_mostAlike_l4 W F d n a acc).2.toInt ≤ 7
  | 0, a, acc, h0, h1 => by
    show 0 ≤ (0 : Int32).toInt ∧ (0 : Int32).toInt ≤ 7
    rw [t_0]; omega
  | n + 1, a, acc, h0, h1 => by
    rw [dX2_mostAlike_l4_s]
    by_cases z : (7 : Int32) ≤ a
    · rw [if_pos z]; exact ⟨h0, h1⟩
    · rw [if_neg z]
      have hc := cn_rg (W := W) (F := F) (a := a) (d := d) ((7 - (0 : Int32).toInt).toNat + 1) 0 0 (by decide) (by decide) (by decide) (by decide)
      generalize (dX2_mostAlike_l16 W F a d ((7 - (0 : Int32).toInt).toNat + 1) 0 0).2 = x at hc ⊢
      by_cases y : acc < x
      · rw [if_pos y]; exact mo_rg n (a + 1) x hc.1 hc.2
      · rw [if_neg y]; exact mo_rg n (a + 1) acc h0 h1
theorem most_rg {W F : Nat → Int32} {d : Int32} : 0 ≤ (dX2_mostAlike W F d).toInt ∧ (dX2_mostAlike W F d).toInt ≤ 7 := by
  unfold dX2_mostAlike
  exact mo_rg _ 0 0 (by decide) (by decide)
section LOOK
variable {g2 g4 g5 s kp ft wh W V F G : Nat → Int32} {g8 g9 : Nat → Int64} {q tp fo gd : Int32}
theorem lkL (hF : FtE F G q) (hT : TbE W V (61 * q.toInt.toNat + 61)) (eG : (dX12_fillsFits g2 g4 g5 s kp ft wh g8 g9 q tp fo gd).2.2.2.2.2.1 = G) (eV : (dX12_fillsFits g2 g4 g5 s kp ft wh g8 g9 q tp fo gd).2.2.2.2.2.2 = V) : ∀ (n m : Nat) (d at_ : Int32), 0 ≤ d.toInt → d.toInt ≤ 61 → 0 ≤ at_.toInt → at_.toInt ≤ 60 → 61 - d.toInt < (n : Int) → 61 - d.toInt < (m : Int) → ∃ z, (0 ≤ z.toInt ∧ z.toInt ≤ 60) ∧ (dX12_look_l27 g2 g4 g5 s kp ft wh g8 g9 q tp fo gd m d at_).2 = z ∧ (dX2_dayToLook_l18 W F n d (dX12_alikeAt G V q at_) at_).2 = (dX12_alikeAt G V q z, z)
  | 0, m, d, a, h0, h1, h2, h3, hn, hm => by omega
  | n + 1, 0, d, a, h0, h1, h2, h3, hn, hm => by omega
  | n + 1, m + 1, d, a, h0, h1, h2, h3, hn, hm => by
    rw [dX2_dayToLook_l18_s, dX12_look_l27_s, eG, eV]
    by_cases z : (61 : Int32) ≤ d
    · have z2 : (60 : Int32) < d := by rw [i32_leq, t_61] at z; rw [i32_lt, t_60]; omega
      rw [if_pos z, if_pos z2]
      exact ⟨a, ⟨h2, h3⟩, rfl, rfl⟩
    · have hd : d.toInt ≤ 60 := by rw [i32_leq, t_61] at z; omega
      have z2 : ¬ (60 : Int32) < d := by rw [i32_lt, t_60]; omega
      have en := wk_nx h0 hd
      rw [if_neg z, if_neg z2, most_is hF hT ⟨h0, hd⟩]
      by_cases y : dX12_alikeAt G V q a ≤ dX12_alikeAt G V q d
      · rw [if_pos y, if_pos y]
        exact lkL hF hT eG eV n m (d + 1) a (by omega) (by omega) h2 h3 (by omega) (by omega)
      · rw [if_neg y, if_neg y]
        exact lkL hF hT eG eV n m (d + 1) d (by omega) (by omega) h0 hd (by omega) (by omega)
theorem look_loop (hF : FtE F G q) (hT : TbE W V (61 * q.toInt.toNat + 61)) (eG : (dX12_fillsFits g2 g4 g5 s kp ft wh g8 g9 q tp fo gd).2.2.2.2.2.1 = G) (eV : (dX12_fillsFits g2 g4 g5 s kp ft wh g8 g9 q tp fo gd).2.2.2.2.2.2 = V) : ∃ z, (0 ≤ z.toInt ∧ z.toInt ≤ 60) ∧ (dX12_look_l27 g2 g4 g5 s kp ft wh g8 g9 q tp fo gd ((61 - (1 : Int32).toInt).toNat + 1) 1 0).2 = z ∧ (dX2_dayToLook_l18 W F ((61 - (0 : Int32).toInt).toNat + 1) 0 8 0).2 = (dX12_alikeAt G V q z, z) := by
  obtain ⟨z, hz, e1, e2⟩ := lkL hF hT eG eV ((61 - (0 : Int32).toInt).toNat) ((61 - (1 : Int32).toInt).toNat + 1) 1 0 (by decide) (by decide) (by decide) (by decide) (by decide) (by decide)
  refine ⟨z, hz, e1, ?_⟩
  have h8 : ¬ (8 : Int32) ≤ dX2_mostAlike W F 0 := by
    have := most_rg (W := W) (F := F) (d := 0)
    rw [i32_leq, t_8]; omega
  rw [dX2_dayToLook_l18_s, if_neg (show ¬ (61 : Int32) ≤ 0 by decide), if_neg h8, most_is hF hT ⟨by decide, by decide⟩, show (0 : Int32) + 1 = 1 by decide]
  exact e2
end LOOK
