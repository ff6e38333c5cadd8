set_option maxRecDepth 16384
theorem in01 {x : Int32} : (dX11_isWithin x (0 : Int32) (1 : Int32) = 0 ∧ dX12_in x.toInt64 (0 : Int64) (1 : Int64) = 0) ∨ (dX11_isWithin x (0 : Int32) (1 : Int32) = 1 ∧ dX12_in x.toInt64 (0 : Int64) (1 : Int64) = 1) := by
  have e0 : (0 : Int64).toInt = 0 := by decide
  have e1 : (1 : Int64).toInt = 1 := by decide
  have ex : x.toInt64.toInt = x.toInt := Int32.toInt_toInt64 x
  unfold dX11_isWithin dX12_in
  by_cases z : x < (0 : Int32)
  · have z1 : lg_cmp x.toInt64 (0 : Int64) < (0 : Int32) := (lg_cmp_lt _ _).mpr (Int64.lt_iff_toInt_lt.mpr (by rw [i32_lt, t_0] at z; rw [ex, e0]; exact z))
    rw [if_pos z, if_pos z1]
    exact Or.inl ⟨rfl, rfl⟩
  · have z1 : ¬ lg_cmp x.toInt64 (0 : Int64) < (0 : Int32) := fun h => z (by have h1 := Int64.lt_iff_toInt_lt.mp ((lg_cmp_lt _ _).mp h); rw [ex, e0] at h1; rw [i32_lt, t_0]; exact h1)
    rw [if_neg z, if_neg z1]
    by_cases y : (1 : Int32) < x
    · have y1 : (0 : Int32) < lg_cmp x.toInt64 (1 : Int64) := (lg_cmp_gt _ _).mpr (Int64.lt_iff_toInt_lt.mpr (by rw [i32_lt, t_1] at y; rw [ex, e1]; exact y))
      rw [if_pos y, if_pos y1]
      exact Or.inl ⟨rfl, rfl⟩
    · have y1 : ¬ (0 : Int32) < lg_cmp x.toInt64 (1 : Int64) := fun h => y (by have h1 := Int64.lt_iff_toInt_lt.mp ((lg_cmp_gt _ _).mp h); rw [ex, e1] at h1; rw [i32_lt, t_1]; exact h1)
      rw [if_neg y, if_neg y1]
      exact Or.inr ⟨rfl, rfl⟩
theorem ff_G {g2 g4 g5 s kp ft wh : Nat → Int32} {g8 g9 : Nat → Int64} {q tp fo gd : Int32} : (dX12_fillsFits g2 g4 g5 s kp ft wh g8 g9 q tp fo gd).2.2.2.2.2.1 = (dX12_fillsFits_l11 g2 g4 g5 q gd ((7 - (0 : Int32).toInt).toNat + 1) (0 : Int32) g8 g9 ft wh tp fo s).2.2.2.1 := by
  unfold dX12_fillsFits
  rfl
theorem ff_V {g2 g4 g5 s kp ft wh : Nat → Int32} {g8 g9 : Nat → Int64} {q tp fo gd : Int32} : (dX12_fillsFits g2 g4 g5 s kp ft wh g8 g9 q tp fo gd).2.2.2.2.2.2 = (dX12_fillsFits_l11 g2 g4 g5 q gd ((7 - (0 : Int32).toInt).toNat + 1) (0 : Int32) g8 g9 ft wh tp fo s).2.2.2.2.1 := by
  unfold dX12_fillsFits
  rfl
theorem told_i {v : Int32} (h : 0 < v.toInt) : (if v ≤ (0 : Int32) then (0 : Int32) else (1 : Int32)) = 1 := if_neg (by rw [i32_leq, t_0]; omega)
theorem told_o {v : Int32} (h : v.toInt ≤ 0) : (if v ≤ (0 : Int32) then (0 : Int32) else (1 : Int32)) = 0 := if_pos (by rw [i32_leq, t_0]; omega)
theorem WgI.nil {W F V G s : Nat → Int32} : WgI 0 W F V G s s 0 := ⟨fun k hk => by omega, fun k hk => by omega, rfl, fun _ _ => rfl⟩
theorem ruled_0 {Av_2 : Int32} {Bf_1 : Nat → Int32} {Bf_2 : Nat → Int32} {Bf_3 : Nat → Int32} {Bf_4 : Nat → Int32} {Bf_5 : Nat → Int32} {Bf_6 : Nat → Int32} {Bf_7 : Nat → Int32} {Bf_8 : Nat → Int32} {Bv_0 : Int32} {Bv_1 : Int32} {Bv_2 : Int32} {Bv_3 : Int32} {Bv_4 : Int32} {Bv_5 : Int32} {Jf_1 : Nat → Int32} {Jf_2 : Nat → Int32} {Jf_3 : Nat → Int32} {Jf_4 : Nat → Int32} {Jf_5 : Nat → Int32} {Jf_6 : Nat → Int32} {Jf_7 : Nat → Int32} {Jf_8 : Nat → Int32} {Jv_0 : Int32} {Jv_1 : Int32} {Jv_2 : Int32} {Jv_3 : Int32} {Jv_4 : Int32} {Jv_5 : Int32} {Nf_1 : Nat → Int32} {Nf_2 : Nat → Int32} {Nf_3 : Nat → Int32} {Nv_0 : Int32} {Yf_2 : Nat → Int32} {Yf_3 : Nat → Int32} {Yv_0 : Int32} {x1 : Int32} {g2 g4 g5 s kp ft wh : Nat → Int32} {g8 g9 : Nat → Int64} {tp fo : Int32} (hA : s 0 = 1 → 0 < Av_2.toInt ∧ BgC Bv_0 Bv_1 Bv_2 Bv_3 Bv_4 Bv_5 Bf_1 Bf_2 Bf_3 Bf_4 Bf_5 Bf_6 Bf_7 Bf_8 s ∧ GsB s ∧ NtE Nf_1 Nf_2 Nf_3 Nv_0 s) (hA0 : ¬ s 0 = 1 → Av_2.toInt ≤ 0) : (dX11_ruln0 Av_2 Bf_1 Bf_2 Bf_3 Bf_4 Bf_5 Bf_6 Bf_7 Bf_8 Bv_0 Bv_1 Bv_2 Bv_3 Bv_4 Bv_5 Jf_1 Jf_2 Jf_3 Jf_4 Jf_5 Jf_6 Jf_7 Jf_8 Jv_0 Jv_1 Jv_2 Jv_3 Jv_4 Jv_5 Nf_1 Nf_2 Nf_3 Nv_0 Yf_2 Yf_3 Yv_0 x1).1 = (dX12_ruled g2 g4 g5 s kp ft wh g8 g9 (0 : Int32) tp fo 0 x1).1 := by
  unfold dX11_ruln0 dX12_ruled dX9_isTold dX12_isBook
  rw [cl_l0]
  by_cases z : s 0 = 1
  · obtain ⟨hv, hC, hG, hN⟩ := hA z
    rw [told_i hv, if_pos z, if_neg (show ¬ (1 : Int32) = 0 by decide), if_neg (show ¬ (1 : Int32) = 0 by decide)]
    rcases in01 (x := x1) with ⟨i1, i2⟩ | ⟨i1, i2⟩
    · rw [i1, i2, if_pos rfl, if_pos rfl]
    · rw [i1, i2, if_neg (show ¬ (1 : Int32) = 0 by decide), if_neg (show ¬ (1 : Int32) = 0 by decide)]
      have hQ := wgP_0_0 (g2 := g2) (g4 := g4) (g5 := g5) hC hG hN Yf_2 Yf_3 Jv_0 Jv_1 Jv_2 Jv_3 Jv_4 Jv_5 Jf_1 Jf_2 Jf_3 Jf_4 Jf_5 Jf_6 Jf_7 Jf_8 (0 : Int32) wh ft s g8 g9 tp fo ((7 - (0 : Int32).toInt).toNat + 1) (by decide) (WgI.nil (W := Yf_2) (F := Yf_3))
      have hr := ruled_loop (g2 := g2) (g4 := g4) (g5 := g5) (s := s) (kp := kp) (ft := ft) (wh := wh) (g8 := g8) (g9 := g9) (q := (0 : Int32)) (tp := tp) (fo := fo) (gd := 0) (G := (dX12_fillsFits_l11 g2 g4 g5 (0 : Int32) 0 ((7 - (0 : Int32).toInt).toNat + 1) (0 : Int32) g8 g9 ft wh tp fo s).2.2.2.1) (by decide) ff_G
      rw [show ((0 : Int32).toInt.toNat + 1) = 0 + 1 by decide] at hr
      have h1 : (dX2_wgh0 Bf_1 Bf_2 Bf_3 Bf_4 Bf_5 Bf_6 Bf_7 Bf_8 Bv_0 Bv_1 Bv_2 Bv_3 Bv_4 Bv_5 Nf_1 Nf_2 Nf_3 Nv_0 Jf_1 Jf_2 Jf_3 Jf_4 Jf_5 Jf_6 Jf_7 Jf_8 Jv_0 Jv_1 Jv_2 Jv_3 Jv_4 Jv_5 Yf_2 Yf_3).1 = cntG (dX12_fillsFits_l11 g2 g4 g5 (0 : Int32) 0 ((7 - (0 : Int32).toInt).toNat + 1) (0 : Int32) g8 g9 ft wh tp fo s).2.2.2.1 (0 + 1) := hQ.2.2.2.1
      have h2 : FtE (dX2_wgh0 Bf_1 Bf_2 Bf_3 Bf_4 Bf_5 Bf_6 Bf_7 Bf_8 Bv_0 Bv_1 Bv_2 Bv_3 Bv_4 Bv_5 Nf_1 Nf_2 Nf_3 Nv_0 Jf_1 Jf_2 Jf_3 Jf_4 Jf_5 Jf_6 Jf_7 Jf_8 Jv_0 Jv_1 Jv_2 Jv_3 Jv_4 Jv_5 Yf_2 Yf_3).2.2.1 (dX12_fillsFits_l11 g2 g4 g5 (0 : Int32) 0 ((7 - (0 : Int32).toInt).toNat + 1) (0 : Int32) g8 g9 ft wh tp fo s).2.2.2.1 (0 : Int32) := ⟨by decide, fun k hk => hQ.2.1 k (by rw [show (0 : Int32).toInt = 0 by decide] at hk; omega), fun k a b => hQ.2.2.1 k (by rw [show (0 : Int32).toInt = 0 by decide] at a; omega) b⟩
      by_cases y : x1 = (0 : Int32)
      · rw [if_pos y, if_pos y]
        exact h1.trans (congrArg Prod.snd hr).symm
      · rw [if_neg y, if_neg y]
        have h3 := h2.first (f := -2)
        rw [show ((0 : Int32).toInt.toNat + 1) = 0 + 1 by decide] at h3
        exact (first_is.trans h3).trans (congrArg Prod.fst hr).symm
  · rw [told_o (hA0 z), if_neg z, if_pos rfl, if_pos rfl]
theorem ruled_1 {Av_2 : Int32} {Bf_1 : Nat → Int32} {Bf_2 : Nat → Int32} {Bf_3 : Nat → Int32} {Bf_4 : Nat → Int32} {Bf_5 : Nat → Int32} {Bf_6 : Nat → Int32} {Bf_7 : Nat → Int32} {Bf_8 : Nat → Int32} {Bv_0 : Int32} {Bv_1 : Int32} {Bv_2 : Int32} {Bv_3 : Int32} {Bv_4 : Int32} {Bv_5 : Int32} {Jf_1 : Nat → Int32} {Jf_2 : Nat → Int32} {Jf_3 : Nat → Int32} {Jf_4 : Nat → Int32} {Jf_5 : Nat → Int32} {Jf_6 : Nat → Int32} {Jf_7 : Nat → Int32} {Jf_8 : Nat → Int32} {Jv_0 : Int32} {Jv_1 : Int32} {Jv_2 : Int32} {Jv_3 : Int32} {Jv_4 : Int32} {Jv_5 : Int32} {Nf_1 : Nat → Int32} {Nf_2 : Nat → Int32} {Nf_3 : Nat → Int32} {Nv_0 : Int32} {R0f_1 : Nat → Int32} {R0g_2 : Nat → Int64} {Yf_2 : Nat → Int32} {Yf_3 : Nat → Int32} {Yv_0 : Int32} {x1 : Int32} {R0n : Nat} {Q0 : RuA} {g2 g4 g5 s kp ft wh : Nat → Int32} {g8 g9 : Nat → Int64} {tp fo : Int32} (hA : s 0 = 1 → 0 < Av_2.toInt ∧ BgC Bv_0 Bv_1 Bv_2 Bv_3 Bv_4 Bv_5 Bf_1 Bf_2 Bf_3 Bf_4 Bf_5 Bf_6 Bf_7 Bf_8 s ∧ GsB s ∧ NtE Nf_1 Nf_2 Nf_3 Nv_0 s) (hA0 : ¬ s 0 = 1 → Av_2.toInt ≤ 0) (hL0 : CdE R0f_1 (ru_fl Q0) ∧ (ru_fl Q0).length = R0n ∧ R0n ≤ 400 ∧ RwR g2 g4 g5 0 Q0 ∧ ru_ok Q0) : (dX11_ruln1 Av_2 Bf_1 Bf_2 Bf_3 Bf_4 Bf_5 Bf_6 Bf_7 Bf_8 Bv_0 Bv_1 Bv_2 Bv_3 Bv_4 Bv_5 Jf_1 Jf_2 Jf_3 Jf_4 Jf_5 Jf_6 Jf_7 Jf_8 Jv_0 Jv_1 Jv_2 Jv_3 Jv_4 Jv_5 Nf_1 Nf_2 Nf_3 Nv_0 R0f_1 R0g_2 Yf_2 Yf_3 Yv_0 x1 R0n).1 = (dX12_ruled g2 g4 g5 s kp ft wh g8 g9 (1 : Int32) tp fo 0 x1).1 := by
  unfold dX11_ruln1 dX12_ruled dX9_isTold dX12_isBook
  rw [cl_l0]
  by_cases z : s 0 = 1
  · obtain ⟨hv, hC, hG, hN⟩ := hA z
    rw [told_i hv, if_pos z, if_neg (show ¬ (1 : Int32) = 0 by decide), if_neg (show ¬ (1 : Int32) = 0 by decide)]
    rcases in01 (x := x1) with ⟨i1, i2⟩ | ⟨i1, i2⟩
    · rw [i1, i2, if_pos rfl, if_pos rfl]
    · rw [i1, i2, if_neg (show ¬ (1 : Int32) = 0 by decide), if_neg (show ¬ (1 : Int32) = 0 by decide)]
      have hQ := wgP_1_0 (g2 := g2) (g4 := g4) (g5 := g5) hC hG hN hL0 Yf_2 Yf_3 Jv_0 Jv_1 Jv_2 Jv_3 Jv_4 Jv_5 Jf_1 Jf_2 Jf_3 Jf_4 Jf_5 Jf_6 Jf_7 Jf_8 (0 : Int32) R0g_2 wh ft s g8 g9 tp fo ((7 - (0 : Int32).toInt).toNat + 1) (by decide) (WgI.nil (W := Yf_2) (F := Yf_3))
      have hr := ruled_loop (g2 := g2) (g4 := g4) (g5 := g5) (s := s) (kp := kp) (ft := ft) (wh := wh) (g8 := g8) (g9 := g9) (q := (1 : Int32)) (tp := tp) (fo := fo) (gd := 0) (G := (dX12_fillsFits_l11 g2 g4 g5 (1 : Int32) 0 ((7 - (0 : Int32).toInt).toNat + 1) (0 : Int32) g8 g9 ft wh tp fo s).2.2.2.1) (by decide) ff_G
      rw [show ((1 : Int32).toInt.toNat + 1) = 1 + 1 by decide] at hr
      have h1 : (dX2_wgh1 Bf_1 Bf_2 Bf_3 Bf_4 Bf_5 Bf_6 Bf_7 Bf_8 Bv_0 Bv_1 Bv_2 Bv_3 Bv_4 Bv_5 Nf_1 Nf_2 Nf_3 Nv_0 R0f_1 R0g_2 Jf_1 Jf_2 Jf_3 Jf_4 Jf_5 Jf_6 Jf_7 Jf_8 Jv_0 Jv_1 Jv_2 Jv_3 Jv_4 Jv_5 Yf_2 Yf_3 R0n).1 = cntG (dX12_fillsFits_l11 g2 g4 g5 (1 : Int32) 0 ((7 - (0 : Int32).toInt).toNat + 1) (0 : Int32) g8 g9 ft wh tp fo s).2.2.2.1 (1 + 1) := hQ.2.2.2.1
      have h2 : FtE (dX2_wgh1 Bf_1 Bf_2 Bf_3 Bf_4 Bf_5 Bf_6 Bf_7 Bf_8 Bv_0 Bv_1 Bv_2 Bv_3 Bv_4 Bv_5 Nf_1 Nf_2 Nf_3 Nv_0 R0f_1 R0g_2 Jf_1 Jf_2 Jf_3 Jf_4 Jf_5 Jf_6 Jf_7 Jf_8 Jv_0 Jv_1 Jv_2 Jv_3 Jv_4 Jv_5 Yf_2 Yf_3 R0n).2.2.1 (dX12_fillsFits_l11 g2 g4 g5 (1 : Int32) 0 ((7 - (0 : Int32).toInt).toNat + 1) (0 : Int32) g8 g9 ft wh tp fo s).2.2.2.1 (1 : Int32) := ⟨by decide, fun k hk => hQ.2.1 k (by rw [show (1 : Int32).toInt = 1 by decide] at hk; omega), fun k a b => hQ.2.2.1 k (by rw [show (1 : Int32).toInt = 1 by decide] at a; omega) b⟩
      by_cases y : x1 = (0 : Int32)
      · rw [if_pos y, if_pos y]
        exact h1.trans (congrArg Prod.snd hr).symm
      · rw [if_neg y, if_neg y]
        have h3 := h2.first (f := -2)
        rw [show ((1 : Int32).toInt.toNat + 1) = 1 + 1 by decide] at h3
        exact (first_is.trans h3).trans (congrArg Prod.fst hr).symm
  · rw [told_o (hA0 z), if_neg z, if_pos rfl, if_pos rfl]
theorem ruled_2 {Av_2 : Int32} {Bf_1 : Nat → Int32} {Bf_2 : Nat → Int32} {Bf_3 : Nat → Int32} {Bf_4 : Nat → Int32} {Bf_5 : Nat → Int32} {Bf_6 : Nat → Int32} {Bf_7 : Nat → Int32} {Bf_8 : Nat → Int32} {Bv_0 : Int32} {Bv_1 : Int32} {Bv_2 : Int32} {Bv_3 : Int32} {Bv_4 : Int32} {Bv_5 : Int32} {Jf_1 : Nat → Int32} {Jf_2 : Nat → Int32} {Jf_3 : Nat → Int32} {Jf_4 : Nat → Int32} {Jf_5 : Nat → Int32} {Jf_6 : Nat → Int32} {Jf_7 : Nat → Int32} {Jf_8 : Nat → Int32} {Jv_0 : Int32} {Jv_1 : Int32} {Jv_2 : Int32} {Jv_3 : Int32} {Jv_4 : Int32} {Jv_5 : Int32} {Nf_1 : Nat → Int32} {Nf_2 : Nat → Int32} {Nf_3 : Nat → Int32} {Nv_0 : Int32} {R0f_1 : Nat → Int32} {R0g_2 : Nat → Int64} {R1f_1 : Nat → Int32} {R1g_2 : Nat → Int64} {Yf_2 : Nat → Int32} {Yf_3 : Nat → Int32} {Yv_0 : Int32} {x1 : Int32} {R0n : Nat} {R1n : Nat} {Q0 Q1 : RuA} {g2 g4 g5 s kp ft wh : Nat → Int32} {g8 g9 : Nat → Int64} {tp fo : Int32} (hA : s 0 = 1 → 0 < Av_2.toInt ∧ BgC Bv_0 Bv_1 Bv_2 Bv_3 Bv_4 Bv_5 Bf_1 Bf_2 Bf_3 Bf_4 Bf_5 Bf_6 Bf_7 Bf_8 s ∧ GsB s ∧ NtE Nf_1 Nf_2 Nf_3 Nv_0 s) (hA0 : ¬ s 0 = 1 → Av_2.toInt ≤ 0) (hL0 : CdE R0f_1 (ru_fl Q0) ∧ (ru_fl Q0).length = R0n ∧ R0n ≤ 400 ∧ RwR g2 g4 g5 0 Q0 ∧ ru_ok Q0) (hL1 : CdE R1f_1 (ru_fl Q1) ∧ (ru_fl Q1).length = R1n ∧ R1n ≤ 400 ∧ RwR g2 g4 g5 1 Q1 ∧ ru_ok Q1) : (dX11_ruln2 Av_2 Bf_1 Bf_2 Bf_3 Bf_4 Bf_5 Bf_6 Bf_7 Bf_8 Bv_0 Bv_1 Bv_2 Bv_3 Bv_4 Bv_5 Jf_1 Jf_2 Jf_3 Jf_4 Jf_5 Jf_6 Jf_7 Jf_8 Jv_0 Jv_1 Jv_2 Jv_3 Jv_4 Jv_5 Nf_1 Nf_2 Nf_3 Nv_0 R0f_1 R0g_2 R1f_1 R1g_2 Yf_2 Yf_3 Yv_0 x1 R0n R1n).1 = (dX12_ruled g2 g4 g5 s kp ft wh g8 g9 (2 : Int32) tp fo 0 x1).1 := by
  unfold dX11_ruln2 dX12_ruled dX9_isTold dX12_isBook
  rw [cl_l0]
  by_cases z : s 0 = 1
  · obtain ⟨hv, hC, hG, hN⟩ := hA z
    rw [told_i hv, if_pos z, if_neg (show ¬ (1 : Int32) = 0 by decide), if_neg (show ¬ (1 : Int32) = 0 by decide)]
    rcases in01 (x := x1) with ⟨i1, i2⟩ | ⟨i1, i2⟩
    · rw [i1, i2, if_pos rfl, if_pos rfl]
    · rw [i1, i2, if_neg (show ¬ (1 : Int32) = 0 by decide), if_neg (show ¬ (1 : Int32) = 0 by decide)]
      have hQ := wgP_2_0 (g2 := g2) (g4 := g4) (g5 := g5) hC hG hN hL0 hL1 Yf_2 Yf_3 Jv_0 Jv_1 Jv_2 Jv_3 Jv_4 Jv_5 Jf_1 Jf_2 Jf_3 Jf_4 Jf_5 Jf_6 Jf_7 Jf_8 (0 : Int32) R0g_2 R1g_2 wh ft s g8 g9 tp fo ((7 - (0 : Int32).toInt).toNat + 1) (by decide) (WgI.nil (W := Yf_2) (F := Yf_3))
      have hr := ruled_loop (g2 := g2) (g4 := g4) (g5 := g5) (s := s) (kp := kp) (ft := ft) (wh := wh) (g8 := g8) (g9 := g9) (q := (2 : Int32)) (tp := tp) (fo := fo) (gd := 0) (G := (dX12_fillsFits_l11 g2 g4 g5 (2 : Int32) 0 ((7 - (0 : Int32).toInt).toNat + 1) (0 : Int32) g8 g9 ft wh tp fo s).2.2.2.1) (by decide) ff_G
      rw [show ((2 : Int32).toInt.toNat + 1) = 2 + 1 by decide] at hr
      have h1 : (dX2_wgh2 Bf_1 Bf_2 Bf_3 Bf_4 Bf_5 Bf_6 Bf_7 Bf_8 Bv_0 Bv_1 Bv_2 Bv_3 Bv_4 Bv_5 Nf_1 Nf_2 Nf_3 Nv_0 R0f_1 R0g_2 R1f_1 R1g_2 Jf_1 Jf_2 Jf_3 Jf_4 Jf_5 Jf_6 Jf_7 Jf_8 Jv_0 Jv_1 Jv_2 Jv_3 Jv_4 Jv_5 Yf_2 Yf_3 R0n R1n).1 = cntG (dX12_fillsFits_l11 g2 g4 g5 (2 : Int32) 0 ((7 - (0 : Int32).toInt).toNat + 1) (0 : Int32) g8 g9 ft wh tp fo s).2.2.2.1 (2 + 1) := hQ.2.2.2.1
      have h2 : FtE (dX2_wgh2 Bf_1 Bf_2 Bf_3 Bf_4 Bf_5 Bf_6 Bf_7 Bf_8 Bv_0 Bv_1 Bv_2 Bv_3 Bv_4 Bv_5 Nf_1 Nf_2 Nf_3 Nv_0 R0f_1 R0g_2 R1f_1 R1g_2 Jf_1 Jf_2 Jf_3 Jf_4 Jf_5 Jf_6 Jf_7 Jf_8 Jv_0 Jv_1 Jv_2 Jv_3 Jv_4 Jv_5 Yf_2 Yf_3 R0n R1n).2.2.1 (dX12_fillsFits_l11 g2 g4 g5 (2 : Int32) 0 ((7 - (0 : Int32).toInt).toNat + 1) (0 : Int32) g8 g9 ft wh tp fo s).2.2.2.1 (2 : Int32) := ⟨by decide, fun k hk => hQ.2.1 k (by rw [show (2 : Int32).toInt = 2 by decide] at hk; omega), fun k a b => hQ.2.2.1 k (by rw [show (2 : Int32).toInt = 2 by decide] at a; omega) b⟩
      by_cases y : x1 = (0 : Int32)
      · rw [if_pos y, if_pos y]
        exact h1.trans (congrArg Prod.snd hr).symm
      · rw [if_neg y, if_neg y]
        have h3 := h2.first (f := -2)
        rw [show ((2 : Int32).toInt.toNat + 1) = 2 + 1 by decide] at h3
        exact (first_is.trans h3).trans (congrArg Prod.fst hr).symm
  · rw [told_o (hA0 z), if_neg z, if_pos rfl, if_pos rfl]
theorem ruled_3 {Av_2 : Int32} {Bf_1 : Nat → Int32} {Bf_2 : Nat → Int32} {Bf_3 : Nat → Int32} {Bf_4 : Nat → Int32} {Bf_5 : Nat → Int32} {Bf_6 : Nat → Int32} {Bf_7 : Nat → Int32} {Bf_8 : Nat → Int32} {Bv_0 : Int32} {Bv_1 : Int32} {Bv_2 : Int32} {Bv_3 : Int32} {Bv_4 : Int32} {Bv_5 : Int32} {Jf_1 : Nat → Int32} {Jf_2 : Nat → Int32} {Jf_3 : Nat → Int32} {Jf_4 : Nat → Int32} {Jf_5 : Nat → Int32} {Jf_6 : Nat → Int32} {Jf_7 : Nat → Int32} {Jf_8 : Nat → Int32} {Jv_0 : Int32} {Jv_1 : Int32} {Jv_2 : Int32} {Jv_3 : Int32} {Jv_4 : Int32} {Jv_5 : Int32} {Nf_1 : Nat → Int32} {Nf_2 : Nat → Int32} {Nf_3 : Nat → Int32} {Nv_0 : Int32} {R0f_1 : Nat → Int32} {R0g_2 : Nat → Int64} {R1f_1 : Nat → Int32} {R1g_2 : Nat → Int64} {R2f_1 : Nat → Int32} {R2g_2 : Nat → Int64} {Yf_2 : Nat → Int32} {Yf_3 : Nat → Int32} {Yv_0 : Int32} {x1 : Int32} {R0n : Nat} {R1n : Nat} {R2n : Nat} {Q0 Q1 Q2 : RuA} {g2 g4 g5 s kp ft wh : Nat → Int32} {g8 g9 : Nat → Int64} {tp fo : Int32} (hA : s 0 = 1 → 0 < Av_2.toInt ∧ BgC Bv_0 Bv_1 Bv_2 Bv_3 Bv_4 Bv_5 Bf_1 Bf_2 Bf_3 Bf_4 Bf_5 Bf_6 Bf_7 Bf_8 s ∧ GsB s ∧ NtE Nf_1 Nf_2 Nf_3 Nv_0 s) (hA0 : ¬ s 0 = 1 → Av_2.toInt ≤ 0) (hL0 : CdE R0f_1 (ru_fl Q0) ∧ (ru_fl Q0).length = R0n ∧ R0n ≤ 400 ∧ RwR g2 g4 g5 0 Q0 ∧ ru_ok Q0) (hL1 : CdE R1f_1 (ru_fl Q1) ∧ (ru_fl Q1).length = R1n ∧ R1n ≤ 400 ∧ RwR g2 g4 g5 1 Q1 ∧ ru_ok Q1) (hL2 : CdE R2f_1 (ru_fl Q2) ∧ (ru_fl Q2).length = R2n ∧ R2n ≤ 400 ∧ RwR g2 g4 g5 2 Q2 ∧ ru_ok Q2) : (dX11_ruln3 Av_2 Bf_1 Bf_2 Bf_3 Bf_4 Bf_5 Bf_6 Bf_7 Bf_8 Bv_0 Bv_1 Bv_2 Bv_3 Bv_4 Bv_5 Jf_1 Jf_2 Jf_3 Jf_4 Jf_5 Jf_6 Jf_7 Jf_8 Jv_0 Jv_1 Jv_2 Jv_3 Jv_4 Jv_5 Nf_1 Nf_2 Nf_3 Nv_0 R0f_1 R0g_2 R1f_1 R1g_2 R2f_1 R2g_2 Yf_2 Yf_3 Yv_0 x1 R0n R1n R2n).1 = (dX12_ruled g2 g4 g5 s kp ft wh g8 g9 (3 : Int32) tp fo 0 x1).1 := by
  unfold dX11_ruln3 dX12_ruled dX9_isTold dX12_isBook
  rw [cl_l0]
  by_cases z : s 0 = 1
  · obtain ⟨hv, hC, hG, hN⟩ := hA z
    rw [told_i hv, if_pos z, if_neg (show ¬ (1 : Int32) = 0 by decide), if_neg (show ¬ (1 : Int32) = 0 by decide)]
    rcases in01 (x := x1) with ⟨i1, i2⟩ | ⟨i1, i2⟩
    · rw [i1, i2, if_pos rfl, if_pos rfl]
    · rw [i1, i2, if_neg (show ¬ (1 : Int32) = 0 by decide), if_neg (show ¬ (1 : Int32) = 0 by decide)]
      have hQ := wgP_3_0 (g2 := g2) (g4 := g4) (g5 := g5) hC hG hN hL0 hL1 hL2 Yf_2 Yf_3 Jv_0 Jv_1 Jv_2 Jv_3 Jv_4 Jv_5 Jf_1 Jf_2 Jf_3 Jf_4 Jf_5 Jf_6 Jf_7 Jf_8 (0 : Int32) R0g_2 R1g_2 R2g_2 wh ft s g8 g9 tp fo ((7 - (0 : Int32).toInt).toNat + 1) (by decide) (WgI.nil (W := Yf_2) (F := Yf_3))
      have hr := ruled_loop (g2 := g2) (g4 := g4) (g5 := g5) (s := s) (kp := kp) (ft := ft) (wh := wh) (g8 := g8) (g9 := g9) (q := (3 : Int32)) (tp := tp) (fo := fo) (gd := 0) (G := (dX12_fillsFits_l11 g2 g4 g5 (3 : Int32) 0 ((7 - (0 : Int32).toInt).toNat + 1) (0 : Int32) g8 g9 ft wh tp fo s).2.2.2.1) (by decide) ff_G
      rw [show ((3 : Int32).toInt.toNat + 1) = 3 + 1 by decide] at hr
      have h1 : (dX2_wgh3 Bf_1 Bf_2 Bf_3 Bf_4 Bf_5 Bf_6 Bf_7 Bf_8 Bv_0 Bv_1 Bv_2 Bv_3 Bv_4 Bv_5 Nf_1 Nf_2 Nf_3 Nv_0 R0f_1 R0g_2 R1f_1 R1g_2 R2f_1 R2g_2 Jf_1 Jf_2 Jf_3 Jf_4 Jf_5 Jf_6 Jf_7 Jf_8 Jv_0 Jv_1 Jv_2 Jv_3 Jv_4 Jv_5 Yf_2 Yf_3 R0n R1n R2n).1 = cntG (dX12_fillsFits_l11 g2 g4 g5 (3 : Int32) 0 ((7 - (0 : Int32).toInt).toNat + 1) (0 : Int32) g8 g9 ft wh tp fo s).2.2.2.1 (3 + 1) := hQ.2.2.2.1
      have h2 : FtE (dX2_wgh3 Bf_1 Bf_2 Bf_3 Bf_4 Bf_5 Bf_6 Bf_7 Bf_8 Bv_0 Bv_1 Bv_2 Bv_3 Bv_4 Bv_5 Nf_1 Nf_2 Nf_3 Nv_0 R0f_1 R0g_2 R1f_1 R1g_2 R2f_1 R2g_2 Jf_1 Jf_2 Jf_3 Jf_4 Jf_5 Jf_6 Jf_7 Jf_8 Jv_0 Jv_1 Jv_2 Jv_3 Jv_4 Jv_5 Yf_2 Yf_3 R0n R1n R2n).2.2.1 (dX12_fillsFits_l11 g2 g4 g5 (3 : Int32) 0 ((7 - (0 : Int32).toInt).toNat + 1) (0 : Int32) g8 g9 ft wh tp fo s).2.2.2.1 (3 : Int32) := ⟨by decide, fun k hk => hQ.2.1 k (by rw [show (3 : Int32).toInt = 3 by decide] at hk; omega), fun k a b => hQ.2.2.1 k (by rw [show (3 : Int32).toInt = 3 by decide] at a; omega) b⟩
      by_cases y : x1 = (0 : Int32)
      · rw [if_pos y, if_pos y]
        exact h1.trans (congrArg Prod.snd hr).symm
      · rw [if_neg y, if_neg y]
        have h3 := h2.first (f := -2)
        rw [show ((3 : Int32).toInt.toNat + 1) = 3 + 1 by decide] at h3
        exact (first_is.trans h3).trans (congrArg Prod.fst hr).symm
  · rw [told_o (hA0 z), if_neg z, if_pos rfl, if_pos rfl]
theorem ruled_4 {Av_2 : Int32} {Bf_1 : Nat → Int32} {Bf_2 : Nat → Int32} {Bf_3 : Nat → Int32} {Bf_4 : Nat → Int32} {Bf_5 : Nat → Int32} {Bf_6 : Nat → Int32} {Bf_7 : Nat → Int32} {Bf_8 : Nat → Int32} {Bv_0 : Int32} {Bv_1 : Int32} {Bv_2 : Int32} {Bv_3 : Int32} {Bv_4 : Int32} {Bv_5 : Int32} {Jf_1 : Nat → Int32} {Jf_2 : Nat → Int32} {Jf_3 : Nat → Int32} {Jf_4 : Nat → Int32} {Jf_5 : Nat → Int32} {Jf_6 : Nat → Int32} {Jf_7 : Nat → Int32} {Jf_8 : Nat → Int32} {Jv_0 : Int32} {Jv_1 : Int32} {Jv_2 : Int32} {Jv_3 : Int32} {Jv_4 : Int32} {Jv_5 : Int32} {Nf_1 : Nat → Int32} {Nf_2 : Nat → Int32} {Nf_3 : Nat → Int32} {Nv_0 : Int32} {R0f_1 : Nat → Int32} {R0g_2 : Nat → Int64} {R1f_1 : Nat → Int32} {R1g_2 : Nat → Int64} {R2f_1 : Nat → Int32} {R2g_2 : Nat → Int64} {R3f_1 : Nat → Int32} {R3g_2 : Nat → Int64} {Yf_2 : Nat → Int32} {Yf_3 : Nat → Int32} {Yv_0 : Int32} {x1 : Int32} {R0n : Nat} {R1n : Nat} {R2n : Nat} {R3n : Nat} {Q0 Q1 Q2 Q3 : RuA} {g2 g4 g5 s kp ft wh : Nat → Int32} {g8 g9 : Nat → Int64} {tp fo : Int32} (hA : s 0 = 1 → 0 < Av_2.toInt ∧ BgC Bv_0 Bv_1 Bv_2 Bv_3 Bv_4 Bv_5 Bf_1 Bf_2 Bf_3 Bf_4 Bf_5 Bf_6 Bf_7 Bf_8 s ∧ GsB s ∧ NtE Nf_1 Nf_2 Nf_3 Nv_0 s) (hA0 : ¬ s 0 = 1 → Av_2.toInt ≤ 0) (hL0 : CdE R0f_1 (ru_fl Q0) ∧ (ru_fl Q0).length = R0n ∧ R0n ≤ 400 ∧ RwR g2 g4 g5 0 Q0 ∧ ru_ok Q0) (hL1 : CdE R1f_1 (ru_fl Q1) ∧ (ru_fl Q1).length = R1n ∧ R1n ≤ 400 ∧ RwR g2 g4 g5 1 Q1 ∧ ru_ok Q1) (hL2 : CdE R2f_1 (ru_fl Q2) ∧ (ru_fl Q2).length = R2n ∧ R2n ≤ 400 ∧ RwR g2 g4 g5 2 Q2 ∧ ru_ok Q2) (hL3 : CdE R3f_1 (ru_fl Q3) ∧ (ru_fl Q3).length = R3n ∧ R3n ≤ 400 ∧ RwR g2 g4 g5 3 Q3 ∧ ru_ok Q3) : (dX11_ruln4 Av_2 Bf_1 Bf_2 Bf_3 Bf_4 Bf_5 Bf_6 Bf_7 Bf_8 Bv_0 Bv_1 Bv_2 Bv_3 Bv_4 Bv_5 Jf_1 Jf_2 Jf_3 Jf_4 Jf_5 Jf_6 Jf_7 Jf_8 Jv_0 Jv_1 Jv_2 Jv_3 Jv_4 Jv_5 Nf_1 Nf_2 Nf_3 Nv_0 R0f_1 R0g_2 R1f_1 R1g_2 R2f_1 R2g_2 R3f_1 R3g_2 Yf_2 Yf_3 Yv_0 x1 R0n R1n R2n R3n).1 = (dX12_ruled g2 g4 g5 s kp ft wh g8 g9 (4 : Int32) tp fo 0 x1).1 := by
  unfold dX11_ruln4 dX12_ruled dX9_isTold dX12_isBook
  rw [cl_l0]
  by_cases z : s 0 = 1
  · obtain ⟨hv, hC, hG, hN⟩ := hA z
    rw [told_i hv, if_pos z, if_neg (show ¬ (1 : Int32) = 0 by decide), if_neg (show ¬ (1 : Int32) = 0 by decide)]
    rcases in01 (x := x1) with ⟨i1, i2⟩ | ⟨i1, i2⟩
    · rw [i1, i2, if_pos rfl, if_pos rfl]
    · rw [i1, i2, if_neg (show ¬ (1 : Int32) = 0 by decide), if_neg (show ¬ (1 : Int32) = 0 by decide)]
      have hQ := wgP_4_0 (g2 := g2) (g4 := g4) (g5 := g5) hC hG hN hL0 hL1 hL2 hL3 Yf_2 Yf_3 Jv_0 Jv_1 Jv_2 Jv_3 Jv_4 Jv_5 Jf_1 Jf_2 Jf_3 Jf_4 Jf_5 Jf_6 Jf_7 Jf_8 (0 : Int32) R0g_2 R1g_2 R2g_2 R3g_2 wh ft s g8 g9 tp fo ((7 - (0 : Int32).toInt).toNat + 1) (by decide) (WgI.nil (W := Yf_2) (F := Yf_3))
      have hr := ruled_loop (g2 := g2) (g4 := g4) (g5 := g5) (s := s) (kp := kp) (ft := ft) (wh := wh) (g8 := g8) (g9 := g9) (q := (4 : Int32)) (tp := tp) (fo := fo) (gd := 0) (G := (dX12_fillsFits_l11 g2 g4 g5 (4 : Int32) 0 ((7 - (0 : Int32).toInt).toNat + 1) (0 : Int32) g8 g9 ft wh tp fo s).2.2.2.1) (by decide) ff_G
      rw [show ((4 : Int32).toInt.toNat + 1) = 4 + 1 by decide] at hr
      have h1 : (dX2_wgh4 Bf_1 Bf_2 Bf_3 Bf_4 Bf_5 Bf_6 Bf_7 Bf_8 Bv_0 Bv_1 Bv_2 Bv_3 Bv_4 Bv_5 Nf_1 Nf_2 Nf_3 Nv_0 R0f_1 R0g_2 R1f_1 R1g_2 R2f_1 R2g_2 R3f_1 R3g_2 Jf_1 Jf_2 Jf_3 Jf_4 Jf_5 Jf_6 Jf_7 Jf_8 Jv_0 Jv_1 Jv_2 Jv_3 Jv_4 Jv_5 Yf_2 Yf_3 R0n R1n R2n R3n).1 = cntG (dX12_fillsFits_l11 g2 g4 g5 (4 : Int32) 0 ((7 - (0 : Int32).toInt).toNat + 1) (0 : Int32) g8 g9 ft wh tp fo s).2.2.2.1 (4 + 1) := hQ.2.2.2.1
      have h2 : FtE (dX2_wgh4 Bf_1 Bf_2 Bf_3 Bf_4 Bf_5 Bf_6 Bf_7 Bf_8 Bv_0 Bv_1 Bv_2 Bv_3 Bv_4 Bv_5 Nf_1 Nf_2 Nf_3 Nv_0 R0f_1 R0g_2 R1f_1 R1g_2 R2f_1 R2g_2 R3f_1 R3g_2 Jf_1 Jf_2 Jf_3 Jf_4 Jf_5 Jf_6 Jf_7 Jf_8 Jv_0 Jv_1 Jv_2 Jv_3 Jv_4 Jv_5 Yf_2 Yf_3 R0n R1n R2n R3n).2.2.1 (dX12_fillsFits_l11 g2 g4 g5 (4 : Int32) 0 ((7 - (0 : Int32).toInt).toNat + 1) (0 : Int32) g8 g9 ft wh tp fo s).2.2.2.1 (4 : Int32) := ⟨by decide, fun k hk => hQ.2.1 k (by rw [show (4 : Int32).toInt = 4 by decide] at hk; omega), fun k a b => hQ.2.2.1 k (by rw [show (4 : Int32).toInt = 4 by decide] at a; omega) b⟩
      by_cases y : x1 = (0 : Int32)
      · rw [if_pos y, if_pos y]
        exact h1.trans (congrArg Prod.snd hr).symm
      · rw [if_neg y, if_neg y]
        have h3 := h2.first (f := -2)
        rw [show ((4 : Int32).toInt.toNat + 1) = 4 + 1 by decide] at h3
        exact (first_is.trans h3).trans (congrArg Prod.fst hr).symm
  · rw [told_o (hA0 z), if_neg z, if_pos rfl, if_pos rfl]
theorem ruled_5 {Av_2 : Int32} {Bf_1 : Nat → Int32} {Bf_2 : Nat → Int32} {Bf_3 : Nat → Int32} {Bf_4 : Nat → Int32} {Bf_5 : Nat → Int32} {Bf_6 : Nat → Int32} {Bf_7 : Nat → Int32} {Bf_8 : Nat → Int32} {Bv_0 : Int32} {Bv_1 : Int32} {Bv_2 : Int32} {Bv_3 : Int32} {Bv_4 : Int32} {Bv_5 : Int32} {Jf_1 : Nat → Int32} {Jf_2 : Nat → Int32} {Jf_3 : Nat → Int32} {Jf_4 : Nat → Int32} {Jf_5 : Nat → Int32} {Jf_6 : Nat → Int32} {Jf_7 : Nat → Int32} {Jf_8 : Nat → Int32} {Jv_0 : Int32} {Jv_1 : Int32} {Jv_2 : Int32} {Jv_3 : Int32} {Jv_4 : Int32} {Jv_5 : Int32} {Nf_1 : Nat → Int32} {Nf_2 : Nat → Int32} {Nf_3 : Nat → Int32} {Nv_0 : Int32} {R0f_1 : Nat → Int32} {R0g_2 : Nat → Int64} {R1f_1 : Nat → Int32} {R1g_2 : Nat → Int64} {R2f_1 : Nat → Int32} {R2g_2 : Nat → Int64} {R3f_1 : Nat → Int32} {R3g_2 : Nat → Int64} {R4f_1 : Nat → Int32} {R4g_2 : Nat → Int64} {Yf_2 : Nat → Int32} {Yf_3 : Nat → Int32} {Yv_0 : Int32} {x1 : Int32} {R0n : Nat} {R1n : Nat} {R2n : Nat} {R3n : Nat} {R4n : Nat} {Q0 Q1 Q2 Q3 Q4 : RuA} {g2 g4 g5 s kp ft wh : Nat → Int32} {g8 g9 : Nat → Int64} {tp fo : Int32} (hA : s 0 = 1 → 0 < Av_2.toInt ∧ BgC Bv_0 Bv_1 Bv_2 Bv_3 Bv_4 Bv_5 Bf_1 Bf_2 Bf_3 Bf_4 Bf_5 Bf_6 Bf_7 Bf_8 s ∧ GsB s ∧ NtE Nf_1 Nf_2 Nf_3 Nv_0 s) (hA0 : ¬ s 0 = 1 → Av_2.toInt ≤ 0) (hL0 : CdE R0f_1 (ru_fl Q0) ∧ (ru_fl Q0).length = R0n ∧ R0n ≤ 400 ∧ RwR g2 g4 g5 0 Q0 ∧ ru_ok Q0) (hL1 : CdE R1f_1 (ru_fl Q1) ∧ (ru_fl Q1).length = R1n ∧ R1n ≤ 400 ∧ RwR g2 g4 g5 1 Q1 ∧ ru_ok Q1) (hL2 : CdE R2f_1 (ru_fl Q2) ∧ (ru_fl Q2).length = R2n ∧ R2n ≤ 400 ∧ RwR g2 g4 g5 2 Q2 ∧ ru_ok Q2) (hL3 : CdE R3f_1 (ru_fl Q3) ∧ (ru_fl Q3).length = R3n ∧ R3n ≤ 400 ∧ RwR g2 g4 g5 3 Q3 ∧ ru_ok Q3) (hL4 : CdE R4f_1 (ru_fl Q4) ∧ (ru_fl Q4).length = R4n ∧ R4n ≤ 400 ∧ RwR g2 g4 g5 4 Q4 ∧ ru_ok Q4) : (dX11_ruln5 Av_2 Bf_1 Bf_2 Bf_3 Bf_4 Bf_5 Bf_6 Bf_7 Bf_8 Bv_0 Bv_1 Bv_2 Bv_3 Bv_4 Bv_5 Jf_1 Jf_2 Jf_3 Jf_4 Jf_5 Jf_6 Jf_7 Jf_8 Jv_0 Jv_1 Jv_2 Jv_3 Jv_4 Jv_5 Nf_1 Nf_2 Nf_3 Nv_0 R0f_1 R0g_2 R1f_1 R1g_2 R2f_1 R2g_2 R3f_1 R3g_2 R4f_1 R4g_2 Yf_2 Yf_3 Yv_0 x1 R0n R1n R2n R3n R4n).1 = (dX12_ruled g2 g4 g5 s kp ft wh g8 g9 (5 : Int32) tp fo 0 x1).1 := by
  unfold dX11_ruln5 dX12_ruled dX9_isTold dX12_isBook
  rw [cl_l0]
  by_cases z : s 0 = 1
  · obtain ⟨hv, hC, hG, hN⟩ := hA z
    rw [told_i hv, if_pos z, if_neg (show ¬ (1 : Int32) = 0 by decide), if_neg (show ¬ (1 : Int32) = 0 by decide)]
    rcases in01 (x := x1) with ⟨i1, i2⟩ | ⟨i1, i2⟩
    · rw [i1, i2, if_pos rfl, if_pos rfl]
    · rw [i1, i2, if_neg (show ¬ (1 : Int32) = 0 by decide), if_neg (show ¬ (1 : Int32) = 0 by decide)]
      have hQ := wgP_5_0 (g2 := g2) (g4 := g4) (g5 := g5) hC hG hN hL0 hL1 hL2 hL3 hL4 Yf_2 Yf_3 Jv_0 Jv_1 Jv_2 Jv_3 Jv_4 Jv_5 Jf_1 Jf_2 Jf_3 Jf_4 Jf_5 Jf_6 Jf_7 Jf_8 (0 : Int32) R0g_2 R1g_2 R2g_2 R3g_2 R4g_2 wh ft s g8 g9 tp fo ((7 - (0 : Int32).toInt).toNat + 1) (by decide) (WgI.nil (W := Yf_2) (F := Yf_3))
      have hr := ruled_loop (g2 := g2) (g4 := g4) (g5 := g5) (s := s) (kp := kp) (ft := ft) (wh := wh) (g8 := g8) (g9 := g9) (q := (5 : Int32)) (tp := tp) (fo := fo) (gd := 0) (G := (dX12_fillsFits_l11 g2 g4 g5 (5 : Int32) 0 ((7 - (0 : Int32).toInt).toNat + 1) (0 : Int32) g8 g9 ft wh tp fo s).2.2.2.1) (by decide) ff_G
      rw [show ((5 : Int32).toInt.toNat + 1) = 5 + 1 by decide] at hr
      have h1 : (dX2_wgh5 Bf_1 Bf_2 Bf_3 Bf_4 Bf_5 Bf_6 Bf_7 Bf_8 Bv_0 Bv_1 Bv_2 Bv_3 Bv_4 Bv_5 Nf_1 Nf_2 Nf_3 Nv_0 R0f_1 R0g_2 R1f_1 R1g_2 R2f_1 R2g_2 R3f_1 R3g_2 R4f_1 R4g_2 Jf_1 Jf_2 Jf_3 Jf_4 Jf_5 Jf_6 Jf_7 Jf_8 Jv_0 Jv_1 Jv_2 Jv_3 Jv_4 Jv_5 Yf_2 Yf_3 R0n R1n R2n R3n R4n).1 = cntG (dX12_fillsFits_l11 g2 g4 g5 (5 : Int32) 0 ((7 - (0 : Int32).toInt).toNat + 1) (0 : Int32) g8 g9 ft wh tp fo s).2.2.2.1 (5 + 1) := hQ.2.2.2.1
      have h2 : FtE (dX2_wgh5 Bf_1 Bf_2 Bf_3 Bf_4 Bf_5 Bf_6 Bf_7 Bf_8 Bv_0 Bv_1 Bv_2 Bv_3 Bv_4 Bv_5 Nf_1 Nf_2 Nf_3 Nv_0 R0f_1 R0g_2 R1f_1 R1g_2 R2f_1 R2g_2 R3f_1 R3g_2 R4f_1 R4g_2 Jf_1 Jf_2 Jf_3 Jf_4 Jf_5 Jf_6 Jf_7 Jf_8 Jv_0 Jv_1 Jv_2 Jv_3 Jv_4 Jv_5 Yf_2 Yf_3 R0n R1n R2n R3n R4n).2.2.1 (dX12_fillsFits_l11 g2 g4 g5 (5 : Int32) 0 ((7 - (0 : Int32).toInt).toNat + 1) (0 : Int32) g8 g9 ft wh tp fo s).2.2.2.1 (5 : Int32) := ⟨by decide, fun k hk => hQ.2.1 k (by rw [show (5 : Int32).toInt = 5 by decide] at hk; omega), fun k a b => hQ.2.2.1 k (by rw [show (5 : Int32).toInt = 5 by decide] at a; omega) b⟩
      by_cases y : x1 = (0 : Int32)
      · rw [if_pos y, if_pos y]
        exact h1.trans (congrArg Prod.snd hr).symm
      · rw [if_neg y, if_neg y]
        have h3 := h2.first (f := -2)
        rw [show ((5 : Int32).toInt.toNat + 1) = 5 + 1 by decide] at h3
        exact (first_is.trans h3).trans (congrArg Prod.fst hr).symm
  · rw [told_o (hA0 z), if_neg z, if_pos rfl, if_pos rfl]
theorem ruled_6 {Av_2 : Int32} {Bf_1 : Nat → Int32} {Bf_2 : Nat → Int32} {Bf_3 : Nat → Int32} {Bf_4 : Nat → Int32} {Bf_5 : Nat → Int32} {Bf_6 : Nat → Int32} {Bf_7 : Nat → Int32} {Bf_8 : Nat → Int32} {Bv_0 : Int32} {Bv_1 : Int32} {Bv_2 : Int32} {Bv_3 : Int32} {Bv_4 : Int32} {Bv_5 : Int32} {Jf_1 : Nat → Int32} {Jf_2 : Nat → Int32} {Jf_3 : Nat → Int32} {Jf_4 : Nat → Int32} {Jf_5 : Nat → Int32} {Jf_6 : Nat → Int32} {Jf_7 : Nat → Int32} {Jf_8 : Nat → Int32} {Jv_0 : Int32} {Jv_1 : Int32} {Jv_2 : Int32} {Jv_3 : Int32} {Jv_4 : Int32} {Jv_5 : Int32} {Nf_1 : Nat → Int32} {Nf_2 : Nat → Int32} {Nf_3 : Nat → Int32} {Nv_0 : Int32} {R0f_1 : Nat → Int32} {R0g_2 : Nat → Int64} {R1f_1 : Nat → Int32} {R1g_2 : Nat → Int64} {R2f_1 : Nat → Int32} {R2g_2 : Nat → Int64} {R3f_1 : Nat → Int32} {R3g_2 : Nat → Int64} {R4f_1 : Nat → Int32} {R4g_2 : Nat → Int64} {R5f_1 : Nat → Int32} {R5g_2 : Nat → Int64} {Yf_2 : Nat → Int32} {Yf_3 : Nat → Int32} {Yv_0 : Int32} {x1 : Int32} {R0n : Nat} {R1n : Nat} {R2n : Nat} {R3n : Nat} {R4n : Nat} {R5n : Nat} {Q0 Q1 Q2 Q3 Q4 Q5 : RuA} {g2 g4 g5 s kp ft wh : Nat → Int32} {g8 g9 : Nat → Int64} {tp fo : Int32} (hA : s 0 = 1 → 0 < Av_2.toInt ∧ BgC Bv_0 Bv_1 Bv_2 Bv_3 Bv_4 Bv_5 Bf_1 Bf_2 Bf_3 Bf_4 Bf_5 Bf_6 Bf_7 Bf_8 s ∧ GsB s ∧ NtE Nf_1 Nf_2 Nf_3 Nv_0 s) (hA0 : ¬ s 0 = 1 → Av_2.toInt ≤ 0) (hL0 : CdE R0f_1 (ru_fl Q0) ∧ (ru_fl Q0).length = R0n ∧ R0n ≤ 400 ∧ RwR g2 g4 g5 0 Q0 ∧ ru_ok Q0) (hL1 : CdE R1f_1 (ru_fl Q1) ∧ (ru_fl Q1).length = R1n ∧ R1n ≤ 400 ∧ RwR g2 g4 g5 1 Q1 ∧ ru_ok Q1) (hL2 : CdE R2f_1 (ru_fl Q2) ∧ (ru_fl Q2).length = R2n ∧ R2n ≤ 400 ∧ RwR g2 g4 g5 2 Q2 ∧ ru_ok Q2) (hL3 : CdE R3f_1 (ru_fl Q3) ∧ (ru_fl Q3).length = R3n ∧ R3n ≤ 400 ∧ RwR g2 g4 g5 3 Q3 ∧ ru_ok Q3) (hL4 : CdE R4f_1 (ru_fl Q4) ∧ (ru_fl Q4).length = R4n ∧ R4n ≤ 400 ∧ RwR g2 g4 g5 4 Q4 ∧ ru_ok Q4) (hL5 : CdE R5f_1 (ru_fl Q5) ∧ (ru_fl Q5).length = R5n ∧ R5n ≤ 400 ∧ RwR g2 g4 g5 5 Q5 ∧ ru_ok Q5) : (dX11_ruln6 Av_2 Bf_1 Bf_2 Bf_3 Bf_4 Bf_5 Bf_6 Bf_7 Bf_8 Bv_0 Bv_1 Bv_2 Bv_3 Bv_4 Bv_5 Jf_1 Jf_2 Jf_3 Jf_4 Jf_5 Jf_6 Jf_7 Jf_8 Jv_0 Jv_1 Jv_2 Jv_3 Jv_4 Jv_5 Nf_1 Nf_2 Nf_3 Nv_0 R0f_1 R0g_2 R1f_1 R1g_2 R2f_1 R2g_2 R3f_1 R3g_2 R4f_1 R4g_2 R5f_1 R5g_2 Yf_2 Yf_3 Yv_0 x1 R0n R1n R2n R3n R4n R5n).1 = (dX12_ruled g2 g4 g5 s kp ft wh g8 g9 (6 : Int32) tp fo 0 x1).1 := by
  unfold dX11_ruln6 dX12_ruled dX9_isTold dX12_isBook
  rw [cl_l0]
  by_cases z : s 0 = 1
  · obtain ⟨hv, hC, hG, hN⟩ := hA z
    rw [told_i hv, if_pos z, if_neg (show ¬ (1 : Int32) = 0 by decide), if_neg (show ¬ (1 : Int32) = 0 by decide)]
    rcases in01 (x := x1) with ⟨i1, i2⟩ | ⟨i1, i2⟩
    · rw [i1, i2, if_pos rfl, if_pos rfl]
    · rw [i1, i2, if_neg (show ¬ (1 : Int32) = 0 by decide), if_neg (show ¬ (1 : Int32) = 0 by decide)]
      have hQ := wgP_6_0 (g2 := g2) (g4 := g4) (g5 := g5) hC hG hN hL0 hL1 hL2 hL3 hL4 hL5 Yf_2 Yf_3 Jv_0 Jv_1 Jv_2 Jv_3 Jv_4 Jv_5 Jf_1 Jf_2 Jf_3 Jf_4 Jf_5 Jf_6 Jf_7 Jf_8 (0 : Int32) R0g_2 R1g_2 R2g_2 R3g_2 R4g_2 R5g_2 wh ft s g8 g9 tp fo ((7 - (0 : Int32).toInt).toNat + 1) (by decide) (WgI.nil (W := Yf_2) (F := Yf_3))
      have hr := ruled_loop (g2 := g2) (g4 := g4) (g5 := g5) (s := s) (kp := kp) (ft := ft) (wh := wh) (g8 := g8) (g9 := g9) (q := (6 : Int32)) (tp := tp) (fo := fo) (gd := 0) (G := (dX12_fillsFits_l11 g2 g4 g5 (6 : Int32) 0 ((7 - (0 : Int32).toInt).toNat + 1) (0 : Int32) g8 g9 ft wh tp fo s).2.2.2.1) (by decide) ff_G
      rw [show ((6 : Int32).toInt.toNat + 1) = 6 + 1 by decide] at hr
      have h1 : (dX2_wgh6 Bf_1 Bf_2 Bf_3 Bf_4 Bf_5 Bf_6 Bf_7 Bf_8 Bv_0 Bv_1 Bv_2 Bv_3 Bv_4 Bv_5 Nf_1 Nf_2 Nf_3 Nv_0 R0f_1 R0g_2 R1f_1 R1g_2 R2f_1 R2g_2 R3f_1 R3g_2 R4f_1 R4g_2 R5f_1 R5g_2 Jf_1 Jf_2 Jf_3 Jf_4 Jf_5 Jf_6 Jf_7 Jf_8 Jv_0 Jv_1 Jv_2 Jv_3 Jv_4 Jv_5 Yf_2 Yf_3 R0n R1n R2n R3n R4n R5n).1 = cntG (dX12_fillsFits_l11 g2 g4 g5 (6 : Int32) 0 ((7 - (0 : Int32).toInt).toNat + 1) (0 : Int32) g8 g9 ft wh tp fo s).2.2.2.1 (6 + 1) := hQ.2.2.2.1
      have h2 : FtE (dX2_wgh6 Bf_1 Bf_2 Bf_3 Bf_4 Bf_5 Bf_6 Bf_7 Bf_8 Bv_0 Bv_1 Bv_2 Bv_3 Bv_4 Bv_5 Nf_1 Nf_2 Nf_3 Nv_0 R0f_1 R0g_2 R1f_1 R1g_2 R2f_1 R2g_2 R3f_1 R3g_2 R4f_1 R4g_2 R5f_1 R5g_2 Jf_1 Jf_2 Jf_3 Jf_4 Jf_5 Jf_6 Jf_7 Jf_8 Jv_0 Jv_1 Jv_2 Jv_3 Jv_4 Jv_5 Yf_2 Yf_3 R0n R1n R2n R3n R4n R5n).2.2.1 (dX12_fillsFits_l11 g2 g4 g5 (6 : Int32) 0 ((7 - (0 : Int32).toInt).toNat + 1) (0 : Int32) g8 g9 ft wh tp fo s).2.2.2.1 (6 : Int32) := ⟨by decide, fun k hk => hQ.2.1 k (by rw [show (6 : Int32).toInt = 6 by decide] at hk; omega), fun k a b => hQ.2.2.1 k (by rw [show (6 : Int32).toInt = 6 by decide] at a; omega) b⟩
      by_cases y : x1 = (0 : Int32)
      · rw [if_pos y, if_pos y]
        exact h1.trans (congrArg Prod.snd hr).symm
      · rw [if_neg y, if_neg y]
        have h3 := h2.first (f := -2)
        rw [show ((6 : Int32).toInt.toNat + 1) = 6 + 1 by decide] at h3
        exact (first_is.trans h3).trans (congrArg Prod.fst hr).symm
  · rw [told_o (hA0 z), if_neg z, if_pos rfl, if_pos rfl]
