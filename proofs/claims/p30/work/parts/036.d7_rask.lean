set_option maxRecDepth 16384
def dX12_in (w1 : Int64) (w2 : Int64) (w3 : Int64) : Int32 := (if (lg_cmp w1 w2) < (0 : Int32) then (0 : Int32) else (if (0 : Int32) < (lg_cmp w1 w3) then (0 : Int32) else (1 : Int32)))
set_option maxHeartbeats 4000000 in
set_option maxRecDepth 100000 in
theorem ct_dX12_in (l : Launch) (D : va_G) (tc : Nat → ClassId) (sk : (Nat → Nat) × (Nat → Nat)) (w1 : Int64) (w2 : Int64) (w3 : Int64)  : Ct l yX12_in cX12_in 6 (some .boolean) { frames := 0, cells := 0, slots := 0, locals := 0 } D tc sk [.long w1, .long w2, .long w3] [] (fun (v : Option Value) (_ : Unit) => ∃ r : Int32, v = some (.int r) ∧ (((r.toInt = 0 ∨ (r.toInt = 1 ∧ w2.toInt ≤ w1.toInt ∧ w1.toInt ≤ w3.toInt))) ∧ r = (dX12_in w1 w2 w3))) (fun (_ : Unit) => []) 0 0 := by
  refine Ct.start (by decide) (Nat.le_of_ble_eq_true rfl) (fun p e s m below meth c A ls hx hb hr hlk hin hml hown hts hK hX hP hD hA hl hS => ?_)
  have hl : lv_has ls 6 [(0, .long w1), (2, .long w2), (4, .long w3)] := hl
  refine lv_lload_n hx hb dX12_in_0 rfl (lv_at hl 0 rfl) ?_
  refine lv_lload_n hx hb dX12_in_1 rfl (lv_at hl 1 rfl) ?_
  refine W.lcmp hx hb dX12_in_2 ?_
  refine lv_topi (fun x_1 ex_1 => ?_)
  refine lv_if_lt (tgt := 17) hx hb dX12_in_3 (by decide) (fun c_2 => ?_) (fun c_2 => ?_)
  · skip
    have lz_3 : (w1 : Int64).toInt < (w2 : Int64).toInt := by have hc := c_2; rw [ex_1] at hc; exact Int64.lt_iff_toInt_lt.mp ((lg_cmp_lt _ _).mp hc)
    refine lv_iconst (v := 0) hx hb dX12_in_17 (by decide) ?_
    have hp_4 : ((0 : Int32).toInt = 0 ∨ ((0 : Int32).toInt = 1 ∧ w2.toInt ≤ w1.toInt ∧ w1.toInt ≤ w3.toInt)) := by
      have z_1 := Int32.lt_iff_toInt_lt.mp c_2
      have y_0 : (0 : Int32).toInt = 0 := by decide
      omega
    have hF_5 : (0 : Int32) = (dX12_in w1 w2 w3) := by
      clear hP hD hS hl
      replace ex_1 := ex_1.symm; subst ex_1
      unfold dX12_in
      rw [if_pos c_2]
      try rfl
    exact retI (v := 0) hx hb hr hlk (rfl) hP hD hS () ⟨_, rfl, ⟨hp_4, hF_5⟩⟩ [] rfl rfl dX12_in_18 (Nat.le_of_ble_eq_true rfl) (Nat.le_of_ble_eq_true rfl) rfl
  · skip
    have lz_6 : (w2 : Int64).toInt ≤ (w1 : Int64).toInt := by have hc := c_2; rw [ex_1] at hc; exact Int64.le_iff_toInt_le.mp (Int64.not_lt.mp (fun z => hc ((lg_cmp_lt _ _).mpr z)))
    refine lv_lload_n hx hb dX12_in_6 rfl (lv_at hl 0 rfl) ?_
    refine lv_lload hx hb dX12_in_7 (lv_at hl 2 rfl) ?_
    refine W.lcmp hx hb dX12_in_9 ?_
    refine lv_topi (fun x_7 ex_7 => ?_)
    refine lv_if_gt (tgt := 17) hx hb dX12_in_10 (by decide) (fun c_8 => ?_) (fun c_8 => ?_)
    · skip
      have lz_9 : (w3 : Int64).toInt < (w1 : Int64).toInt := by have hc := c_8; rw [ex_7] at hc; exact Int64.lt_iff_toInt_lt.mp ((lg_cmp_gt _ _).mp hc)
      refine lv_iconst (v := 0) hx hb dX12_in_17 (by decide) ?_
      have hp_10 : ((0 : Int32).toInt = 0 ∨ ((0 : Int32).toInt = 1 ∧ w2.toInt ≤ w1.toInt ∧ w1.toInt ≤ w3.toInt)) := by
        have z_1 := Int32.le_iff_toInt_le.mp (Int32.not_lt.mp c_2)
        have z_2 := Int32.lt_iff_toInt_lt.mp c_8
        have y_0 : (0 : Int32).toInt = 0 := by decide
        omega
      have hF_11 : (0 : Int32) = (dX12_in w1 w2 w3) := by
        clear hP hD hS hl
        replace ex_1 := ex_1.symm; subst ex_1
        replace ex_7 := ex_7.symm; subst ex_7
        unfold dX12_in
        rw [if_neg c_2, if_pos c_8]
        try rfl
      exact retI (v := 0) hx hb hr hlk (rfl) hP hD hS () ⟨_, rfl, ⟨hp_10, hF_11⟩⟩ [] rfl rfl dX12_in_18 (Nat.le_of_ble_eq_true rfl) (Nat.le_of_ble_eq_true rfl) rfl
    · skip
      have lz_12 : (w1 : Int64).toInt ≤ (w3 : Int64).toInt := by have hc := c_8; rw [ex_7] at hc; exact Int64.le_iff_toInt_le.mp (Int64.not_lt.mp (fun z => hc ((lg_cmp_gt _ _).mpr z)))
      refine lv_iconst (v := 1) hx hb dX12_in_13 (by decide) ?_
      refine lv_goto (tgt := 18) hx hb dX12_in_14 (by decide) ?_
      have hp_13 : ((1 : Int32).toInt = 0 ∨ ((1 : Int32).toInt = 1 ∧ w2.toInt ≤ w1.toInt ∧ w1.toInt ≤ w3.toInt)) := by
        have z_1 := Int32.le_iff_toInt_le.mp (Int32.not_lt.mp c_2)
        have z_2 := Int32.le_iff_toInt_le.mp (Int32.not_lt.mp c_8)
        have y_0 : (0 : Int32).toInt = 0 := by decide
        have y_1 : (1 : Int32).toInt = 1 := by decide
        have yr : (1 : Int32).toInt = 1 := by decide
        omega
      have hF_14 : (1 : Int32) = (dX12_in w1 w2 w3) := by
        clear hP hD hS hl
        replace ex_1 := ex_1.symm; subst ex_1
        replace ex_7 := ex_7.symm; subst ex_7
        unfold dX12_in
        rw [if_neg c_2, if_neg c_8]
        try rfl
      exact retI (v := 1) hx hb hr hlk (rfl) hP hD hS () ⟨_, rfl, ⟨hp_13, hF_14⟩⟩ [] rfl rfl dX12_in_18 (Nat.le_of_ble_eq_true rfl) (Nat.le_of_ble_eq_true rfl) rfl
def dX12_keeps_l2 (Mf_10 : Nat → Int32) : Nat → Int32 → (Nat → Int32) → Int32 × (Nat → Int32)
  | 0, _, _ => (0, (fun _ => 0))
  | n + 1, yy_300, yy_301 => (if (46 : Int32) ≤ yy_300 then (yy_300, yy_301) else dX12_keeps_l2 Mf_10 n (yy_300 + 1) (upd yy_301 (yy_300).toNatClampNeg (Mf_10 (((10 : Int32) + yy_300)).toNatClampNeg)))
theorem dX12_keeps_l2_s {Mf_10 : Nat → Int32} {n : Nat} {yy_300 : Int32} {yy_301 : Nat → Int32} : dX12_keeps_l2 Mf_10 (n + 1) yy_300 yy_301 = (if (46 : Int32) ≤ yy_300 then (yy_300, yy_301) else dX12_keeps_l2 Mf_10 n (yy_300 + 1) (upd yy_301 (yy_300).toNatClampNeg (Mf_10 (((10 : Int32) + yy_300)).toNatClampNeg))) := rfl
def dX12_keeps (Mf_10 : Nat → Int32) (Mf_12 : Nat → Int32) : (Nat → Int32) := ((dX12_keeps_l2 Mf_10 ((46 - (0 : Int32).toInt).toNat + 1) (0 : Int32) Mf_12).2)
set_option maxHeartbeats 4000000 in
set_option maxRecDepth 100000 in
theorem ct_dX12_keeps {T : Nat → Option Int32} (l : Launch) (D : va_G) (tc : Nat → ClassId) (sk : (Nat → Nat) × (Nat → Nat)) (Ma : Nat → Nat) (Mv : Nat → Int32) (Mf : Nat → Nat → Int32) (Mj : Nat → Int64) (h_said : SaidD T (Mf 10) 999) : Ct l yX12_keeps cX12_keeps 2 none { frames := 0, cells := 0, slots := 0, locals := 0 } D tc sk [.ref (Ma 0)] [((Ma 0), .inr (12, [.ref (Ma 1), .int (Mv 0), .int (Mv 1), .ref (Ma 2), .ref (Ma 3), .ref (Ma 4), .ref (Ma 5), .ref (Ma 6), .int (Mv 2), .int (Mv 3), .int (Mv 4), .int (Mv 5), .int (Mv 6), .int (Mv 7), .int (Mv 8), .ref (Ma 7), .int (Mv 9), .ref (Ma 8), .int (Mv 10), .ref (Ma 9), .ref (Ma 10), .int (Mv 11), .int (Mv 12), .int (Mv 13), .ref (Ma 11), .int (Mv 14), .ref (Ma 12), .ref (Ma 13), .ref (Ma 14), .ref (Ma 15), .ref (Ma 16), .long (Mj 0), .ref (Ma 17), .ref (Ma 18), .ref (Ma 19), .ref (Ma 20)])), ((Ma 10), .inl (tc 0, 126, .inl (Mf 10))), ((Ma 12), .inl (tc 0, 46, .inl (Mf 12)))] (fun (v : Option Value) (oo0x1 : Nat → Int32) => v = none ∧ (KeptD oo0x1) ∧ (DEq (oo0x1) (dX12_keeps (Mf 10) (Mf 12)))) (fun (oo0x1 : Nat → Int32) => [((Ma 0), .inr (12, [.ref (Ma 1), .int (Mv 0), .int (Mv 1), .ref (Ma 2), .ref (Ma 3), .ref (Ma 4), .ref (Ma 5), .ref (Ma 6), .int (Mv 2), .int (Mv 3), .int (Mv 4), .int (Mv 5), .int (Mv 6), .int (Mv 7), .int (Mv 8), .ref (Ma 7), .int (Mv 9), .ref (Ma 8), .int (Mv 10), .ref (Ma 9), .ref (Ma 10), .int (Mv 11), .int (Mv 12), .int (Mv 13), .ref (Ma 11), .int (Mv 14), .ref (Ma 12), .ref (Ma 13), .ref (Ma 14), .ref (Ma 15), .ref (Ma 16), .long (Mj 0), .ref (Ma 17), .ref (Ma 18), .ref (Ma 19), .ref (Ma 20)])), ((Ma 10), .inl (tc 0, 126, .inl (Mf 10))), ((Ma 12), .inl (tc 0, 46, .inl oo0x1))]) 0 0 := by
  refine Ct.start (by decide) (Nat.le_of_ble_eq_true rfl) (fun p e s m below meth c A ls hx hb hr hlk hin hml hown hts hK hX hP hD hA hl hS => ?_)
  have hl : lv_has ls 2 [(0, .ref (Ma 0))] := hl
  have ar_h_said := SaidD.ar h_said
  refine lv_iconst (v := 0) hx hb dX12_keeps_0 (by decide) ?_
  refine lv_istore_n (lv' := [(1, .int 0), (0, .ref (Ma 0))]) hx hb dX12_keeps_1 rfl hl (by decide) rfl (fun ls hl₀ => ?_)
  replace hl := hl₀
  clear hl₀
  have loop_3 : ∀ (n_1 : Nat) (yy_300 : Int32) (yy_301 : Nat → Int32) (H : Heap) (locs : List Loc) (ls : Array Slot), (46 - (yy_300 : Int32).toInt).toNat < n_1 → (dX12_keeps_l2 (Mf 10) ((46 - (0 : Int32).toInt).toNat + 1) (0 : Int32) (Mf 12)) = dX12_keeps_l2 (Mf 10) ((46 - (yy_300 : Int32).toInt).toNat + 1) yy_300 yy_301 → (0 ≤ (yy_300 : Int32).toInt) → (KeptK yy_301 yy_300) → va_P D classes [((Ma 0), .inr (12, [.ref (Ma 1), .int (Mv 0), .int (Mv 1), .ref (Ma 2), .ref (Ma 3), .ref (Ma 4), .ref (Ma 5), .ref (Ma 6), .int (Mv 2), .int (Mv 3), .int (Mv 4), .int (Mv 5), .int (Mv 6), .int (Mv 7), .int (Mv 8), .ref (Ma 7), .int (Mv 9), .ref (Ma 8), .int (Mv 10), .ref (Ma 9), .ref (Ma 10), .int (Mv 11), .int (Mv 12), .int (Mv 13), .ref (Ma 11), .int (Mv 14), .ref (Ma 12), .ref (Ma 13), .ref (Ma 14), .ref (Ma 15), .ref (Ma 16), .long (Mj 0), .ref (Ma 17), .ref (Ma 18), .ref (Ma 19), .ref (Ma 20)])), ((Ma 10), .inl (tc 0, 126, .inl (Mf 10))), ((Ma 12), .inl (tc 0, 46, .inl yy_301))] H → va_D A [((Ma 0), .inr (12, [.ref (Ma 1), .int (Mv 0), .int (Mv 1), .ref (Ma 2), .ref (Ma 3), .ref (Ma 4), .ref (Ma 5), .ref (Ma 6), .int (Mv 2), .int (Mv 3), .int (Mv 4), .int (Mv 5), .int (Mv 6), .int (Mv 7), .int (Mv 8), .ref (Ma 7), .int (Mv 9), .ref (Ma 8), .int (Mv 10), .ref (Ma 9), .ref (Ma 10), .int (Mv 11), .int (Mv 12), .int (Mv 13), .ref (Ma 11), .int (Mv 14), .ref (Ma 12), .ref (Ma 13), .ref (Ma 14), .ref (Ma 15), .ref (Ma 16), .long (Mj 0), .ref (Ma 17), .ref (Ma 18), .ref (Ma 19), .ref (Ma 20)])), ((Ma 10), .inl (tc 0, 126, .inl (Mf 10))), ((Ma 12), .inl (tc 0, 46, .inl yy_301))] → va_S A s.heap H locs → lv_has ls 2 [(1, .int yy_300), (0, .ref (Ma 0))] → W p l e ({ frames := 0, cells := 0, slots := 0, locals := 0 }) s m ([.ref (Ma 0)].toArray) below meth c H locs 0 0 (MQ below (QW (fun (v : Option Value) (oo0x1 : Nat → Int32) => v = none ∧ (KeptD oo0x1) ∧ (DEq (oo0x1) (dX12_keeps (Mf 10) (Mf 12)))) (BW D (fun (oo0x1 : Nat → Int32) => [((Ma 0), .inr (12, [.ref (Ma 1), .int (Mv 0), .int (Mv 1), .ref (Ma 2), .ref (Ma 3), .ref (Ma 4), .ref (Ma 5), .ref (Ma 6), .int (Mv 2), .int (Mv 3), .int (Mv 4), .int (Mv 5), .int (Mv 6), .int (Mv 7), .int (Mv 8), .ref (Ma 7), .int (Mv 9), .ref (Ma 8), .int (Mv 10), .ref (Ma 9), .ref (Ma 10), .int (Mv 11), .int (Mv 12), .int (Mv 13), .ref (Ma 11), .int (Mv 14), .ref (Ma 12), .ref (Ma 13), .ref (Ma 14), .ref (Ma 15), .ref (Ma 16), .long (Mj 0), .ref (Ma 17), .ref (Ma 18), .ref (Ma 19), .ref (Ma 20)])), ((Ma 10), .inl (tc 0, 126, .inl (Mf 10))), ((Ma 12), .inl (tc 0, 46, .inl oo0x1))]) A) A) ([.ref (Ma 0)].toArray) s 0 0 A) (F0 m 2 ls []) := by
    clear hP hD hS hl
    intro n_1
    induction n_1 with
    | zero =>
      intro yy_300 yy_301 H locs ls h1
      exact absurd h1 (Nat.not_lt_zero _)
    | succ n_1 ih_2 =>
      intro yy_300 yy_301 H locs ls hn_7 hL_6 pf_4 pf_5 hP hD hS hl
      refine lv_iload_n hx hb dX12_keeps_2 rfl (lv_at hl 0 rfl) ?_
      refine lv_bipush (v := 46) hx hb dX12_keeps_3 (by decide) ?_
      refine lv_icmp_ge (tgt := 29) hx hb dX12_keeps_5 (by decide) (fun c_8 => ?_) (fun c_8 => ?_)
      · skip
        have hb_10 : dX12_keeps_l2 (Mf 10) ((46 - (yy_300 : Int32).toInt).toNat + 1) yy_300 yy_301 = (yy_300, yy_301) := by
          clear hP hD hS hl ih_2
          rw [dX12_keeps_l2_s]
          rw [if_pos c_8]
          try rfl
        have hX_9 : (dX12_keeps_l2 (Mf 10) ((46 - (0 : Int32).toInt).toNat + 1) (0 : Int32) (Mf 12)) = (yy_300, yy_301) := hL_6.trans hb_10
        have hX_9_0 : (dX12_keeps_l2 (Mf 10) ((46 - (0 : Int32).toInt).toNat + 1) (0 : Int32) (Mf 12)).1 = yy_300 := congrArg (fun z => z.1) hX_9
        have hX_9_1 : (dX12_keeps_l2 (Mf 10) ((46 - (0 : Int32).toInt).toNat + 1) (0 : Int32) (Mf 12)).2 = yy_301 := congrArg (fun z => z.2) hX_9
        have hr_11 : 1 ≤ (yy_300 : Int32).toInt := by
          have z_1 := Int32.le_iff_toInt_le.mp c_8
          have y_46 : (46 : Int32).toInt = 46 := by decide
          omega
        have hF_12 : yy_301 = (dX12_keeps (Mf 10) (Mf 12)) := by
          clear hP hD hS hl ih_2
          unfold dX12_keeps
          try rw [hX_9_0]
          try rw [hX_9_1]
          try rfl
        exact retV hx hb hr hlk hP hD hS yy_301 ⟨rfl, (pf_5 hr_11), hF_12⟩ [0, 1, 2] rfl rfl dX12_keeps_29 (Nat.le_of_ble_eq_true rfl) (Nat.le_of_ble_eq_true rfl) rfl
      · skip
        refine lv_aload_n hx hb dX12_keeps_8 rfl (lv_at hl 1 rfl) ?_
        refine gf_X12_49 hx hb hts hown hK hP 0 rfl rfl dX12_keeps_9 ?_
        refine lv_iload_n hx hb dX12_keeps_12 rfl (lv_at hl 0 rfl) ?_
        refine lv_aload_n hx hb dX12_keeps_13 rfl (lv_at hl 1 rfl) ?_
        refine gf_X12_39 hx hb hts hown hK hP 0 rfl rfl dX12_keeps_14 ?_
        refine lv_bipush (v := 10) hx hb dX12_keeps_17 (by decide) ?_
        refine lv_iload_n hx hb dX12_keeps_19 rfl (lv_at hl 0 rfl) ?_
        refine lv_iadd hx hb dX12_keeps_20 ?_
        refine lv_topi (fun x_13 ex_13 => ?_)
        have hi_14 : vp_in x_13 126 := by
          have z_1 := Int32.lt_iff_toInt_lt.mp (Int32.not_le.mp c_8)
          have y_46 : (46 : Int32).toInt = 46 := by decide
          have y_10 : (10 : Int32).toInt = 10 := by decide
          have t_x_13 : x_13.toInt = (10 : Int32).toInt + (yy_300 : Int32).toInt := by rw [ex_13]; exact add_toInt (by omega) (by omega)
          refine vp_in_iff.mpr ⟨?_, ?_⟩ <;> omega
        refine va_iald hx hb hK hP 1 0 rfl rfl hi_14 dX12_keeps_21 ?_
        refine lv_topi (fun x_15 ex_15 => ?_)
        have hi_16 : vp_in yy_300 46 := by
          have z_1 := Int32.lt_iff_toInt_lt.mp (Int32.not_le.mp c_8)
          have y_46 : (46 : Int32).toInt = 46 := by decide
          refine vp_in_iff.mpr ⟨?_, ?_⟩ <;> omega
        refine st_int hx hb hK hP hD hS 2 0 rfl rfl hi_16 dX12_keeps_22 (fun g_17 H locs eg_17 hP₀ hD₀ hS₀ => ?_)
        replace hP : va_P D classes [((Ma 0), .inr (12, [.ref (Ma 1), .int (Mv 0), .int (Mv 1), .ref (Ma 2), .ref (Ma 3), .ref (Ma 4), .ref (Ma 5), .ref (Ma 6), .int (Mv 2), .int (Mv 3), .int (Mv 4), .int (Mv 5), .int (Mv 6), .int (Mv 7), .int (Mv 8), .ref (Ma 7), .int (Mv 9), .ref (Ma 8), .int (Mv 10), .ref (Ma 9), .ref (Ma 10), .int (Mv 11), .int (Mv 12), .int (Mv 13), .ref (Ma 11), .int (Mv 14), .ref (Ma 12), .ref (Ma 13), .ref (Ma 14), .ref (Ma 15), .ref (Ma 16), .long (Mj 0), .ref (Ma 17), .ref (Ma 18), .ref (Ma 19), .ref (Ma 20)])), ((Ma 10), .inl (tc 0, 126, .inl (Mf 10))), ((Ma 12), .inl (tc 0, 46, .inl g_17))] H := hP₀
        replace hD : va_D A [((Ma 0), .inr (12, [.ref (Ma 1), .int (Mv 0), .int (Mv 1), .ref (Ma 2), .ref (Ma 3), .ref (Ma 4), .ref (Ma 5), .ref (Ma 6), .int (Mv 2), .int (Mv 3), .int (Mv 4), .int (Mv 5), .int (Mv 6), .int (Mv 7), .int (Mv 8), .ref (Ma 7), .int (Mv 9), .ref (Ma 8), .int (Mv 10), .ref (Ma 9), .ref (Ma 10), .int (Mv 11), .int (Mv 12), .int (Mv 13), .ref (Ma 11), .int (Mv 14), .ref (Ma 12), .ref (Ma 13), .ref (Ma 14), .ref (Ma 15), .ref (Ma 16), .long (Mj 0), .ref (Ma 17), .ref (Ma 18), .ref (Ma 19), .ref (Ma 20)])), ((Ma 10), .inl (tc 0, 126, .inl (Mf 10))), ((Ma 12), .inl (tc 0, 46, .inl g_17))] := hD₀
        replace hS := hS₀
        clear hP₀ hD₀ hS₀
        obtain ⟨x_18, ex_18⟩ : ∃ y : Int32, y = yy_300 + 1 := ⟨_, rfl⟩
        refine lv_iinc (v := x_18) (lv' := [(1, .int x_18), (0, .ref (Ma 0))]) hx hb dX12_keeps_23 hl (k := 0) rfl (by rw [ex_18]; rfl) (by decide) rfl (fun ls hl₀ => ?_)
        replace hl := hl₀
        clear hl₀
        refine lv_goto (tgt := 2) hx hb dX12_keeps_26 (by decide) ?_
        have hb_19 : 46 - (x_18 : Int32).toInt < 46 - (yy_300 : Int32).toInt ∧ 1 ≤ 46 - (yy_300 : Int32).toInt := by
          have z_1 := Int32.lt_iff_toInt_lt.mp (Int32.not_le.mp c_8)
          have y_46 : (46 : Int32).toInt = 46 := by decide
          have y_1 : (1 : Int32).toInt = 1 := by decide
          have t_x_18 : x_18.toInt = (yy_300 : Int32).toInt + (1 : Int32).toInt := by rw [ex_18]; exact add_toInt (by omega) (by omega)
          omega
        have hm_20 : (46 - (yy_300 : Int32).toInt).toNat = (46 - (x_18 : Int32).toInt).toNat + 1 := by
          have z_1 := Int32.lt_iff_toInt_lt.mp (Int32.not_le.mp c_8)
          have y_46 : (46 : Int32).toInt = 46 := by decide
          have y_1 : (1 : Int32).toInt = 1 := by decide
          have t_x_18 : x_18.toInt = (yy_300 : Int32).toInt + (1 : Int32).toInt := by rw [ex_18]; exact add_toInt (by omega) (by omega)
          omega
        have hb_21 : dX12_keeps_l2 (Mf 10) ((46 - (yy_300 : Int32).toInt).toNat + 1) yy_300 yy_301 = dX12_keeps_l2 (Mf 10) ((46 - (yy_300 : Int32).toInt).toNat) x_18 g_17 := by
          clear hP hD hS hl ih_2
          replace ex_13 := ex_13.symm; subst ex_13
          replace ex_15 := ex_15.symm; subst ex_15
          replace eg_17 := eg_17.symm; subst eg_17
          replace ex_18 := ex_18.symm; subst ex_18
          rw [dX12_keeps_l2_s]
          rw [if_neg c_8]
          try rfl
        have hL_22 : (dX12_keeps_l2 (Mf 10) ((46 - (0 : Int32).toInt).toNat + 1) (0 : Int32) (Mf 12)) = dX12_keeps_l2 (Mf 10) ((46 - (x_18 : Int32).toInt).toNat + 1) x_18 g_17 := by
          rw [hL_6, hb_21, hm_20]
        have ha_23 : 0 ≤ (x_18 : Int32).toInt := by
          have z_1 := Int32.lt_iff_toInt_lt.mp (Int32.not_le.mp c_8)
          have y_46 : (46 : Int32).toInt = 46 := by decide
          have y_1 : (1 : Int32).toInt = 1 := by decide
          have t_x_18 : x_18.toInt = (yy_300 : Int32).toInt + (1 : Int32).toInt := by rw [ex_18]; exact add_toInt (by omega) (by omega)
          omega
        have hi_25 : (x_13 : Int32).toInt = 10 + (yy_300 : Int32).toInt := by
          have z_1 := Int32.lt_iff_toInt_lt.mp (Int32.not_le.mp c_8)
          have y_46 : (46 : Int32).toInt = 46 := by decide
          have y_10 : (10 : Int32).toInt = 10 := by decide
          have t_x_13 : x_13.toInt = (10 : Int32).toInt + (yy_300 : Int32).toInt := by rw [ex_13]; exact add_toInt (by omega) (by omega)
          omega
        have hr_26 : 0 ≤ (yy_300 : Int32).toInt := by
          have z_1 := Int32.lt_iff_toInt_lt.mp (Int32.not_le.mp c_8)
          have y_46 : (46 : Int32).toInt = 46 := by decide
          omega
        have ha_24 : KeptK g_17 x_18 := KeptK.step pf_5 h_said eg_17 ex_15 hi_25 hr_26
        exact ih_2 x_18 g_17 _ _ _ (by omega) hL_22 ha_23 ha_24 (hP.sub [0, 1, 2] rfl) (hD.sub [0, 1, 2] rfl rfl) hS (lv_sub hl [0, 1] rfl)
  have ha_27 : 0 ≤ (0 : Int32).toInt := by
    have y_0 : (0 : Int32).toInt = 0 := by decide
    omega
  have ha_28 : KeptK (Mf 12) 0 := fun z => absurd z (by decide)
  exact loop_3 _ 0 (Mf 12) _ _ _ (Nat.lt_succ_self _) rfl ha_27 ha_28 hP hD hS hl
set_option maxRecDepth 100000 in
theorem cu_dX12_keeps {T : Nat → Option Int32} (l : Launch) (D : va_G) (tc : Nat → ClassId) (sk : (Nat → Nat) × (Nat → Nat)) (Ma_0 : Nat) (Ma_1 : Nat) (Ma_2 : Nat) (Ma_3 : Nat) (Ma_4 : Nat) (Ma_5 : Nat) (Ma_6 : Nat) (Ma_7 : Nat) (Ma_8 : Nat) (Ma_9 : Nat) (Ma_10 : Nat) (Ma_11 : Nat) (Ma_12 : Nat) (Ma_13 : Nat) (Ma_14 : Nat) (Ma_15 : Nat) (Ma_16 : Nat) (Ma_17 : Nat) (Ma_18 : Nat) (Ma_19 : Nat) (Ma_20 : Nat) (Mv_0 : Int32) (Mv_1 : Int32) (Mv_2 : Int32) (Mv_3 : Int32) (Mv_4 : Int32) (Mv_5 : Int32) (Mv_6 : Int32) (Mv_7 : Int32) (Mv_8 : Int32) (Mv_9 : Int32) (Mv_10 : Int32) (Mv_11 : Int32) (Mv_12 : Int32) (Mv_13 : Int32) (Mv_14 : Int32) (Mf_10 : Nat → Int32) (Mf_12 : Nat → Int32) (Mj_0 : Int64) (h_said : SaidD T Mf_10 999) : Ct l yX12_keeps cX12_keeps 2 none { frames := 0, cells := 0, slots := 0, locals := 0 } D tc sk [.ref Ma_0] [(Ma_0, .inr (12, [.ref Ma_1, .int Mv_0, .int Mv_1, .ref Ma_2, .ref Ma_3, .ref Ma_4, .ref Ma_5, .ref Ma_6, .int Mv_2, .int Mv_3, .int Mv_4, .int Mv_5, .int Mv_6, .int Mv_7, .int Mv_8, .ref Ma_7, .int Mv_9, .ref Ma_8, .int Mv_10, .ref Ma_9, .ref Ma_10, .int Mv_11, .int Mv_12, .int Mv_13, .ref Ma_11, .int Mv_14, .ref Ma_12, .ref Ma_13, .ref Ma_14, .ref Ma_15, .ref Ma_16, .long Mj_0, .ref Ma_17, .ref Ma_18, .ref Ma_19, .ref Ma_20])), (Ma_10, .inl (tc 0, 126, .inl Mf_10)), (Ma_12, .inl (tc 0, 46, .inl Mf_12))] (fun (v : Option Value) (oo0x1 : Nat → Int32) => v = none ∧ (KeptD oo0x1) ∧ (DEq (oo0x1) (dX12_keeps Mf_10 Mf_12))) (fun (oo0x1 : Nat → Int32) => [(Ma_0, .inr (12, [.ref Ma_1, .int Mv_0, .int Mv_1, .ref Ma_2, .ref Ma_3, .ref Ma_4, .ref Ma_5, .ref Ma_6, .int Mv_2, .int Mv_3, .int Mv_4, .int Mv_5, .int Mv_6, .int Mv_7, .int Mv_8, .ref Ma_7, .int Mv_9, .ref Ma_8, .int Mv_10, .ref Ma_9, .ref Ma_10, .int Mv_11, .int Mv_12, .int Mv_13, .ref Ma_11, .int Mv_14, .ref Ma_12, .ref Ma_13, .ref Ma_14, .ref Ma_15, .ref Ma_16, .long Mj_0, .ref Ma_17, .ref Ma_18, .ref Ma_19, .ref Ma_20])), (Ma_10, .inl (tc 0, 126, .inl Mf_10)), (Ma_12, .inl (tc 0, 46, .inl oo0x1))]) 0 0 :=
  ct_dX12_keeps l D tc sk (fun k => ([Ma_0, Ma_1, Ma_2, Ma_3, Ma_4, Ma_5, Ma_6, Ma_7, Ma_8, Ma_9, Ma_10, Ma_11, Ma_12, Ma_13, Ma_14, Ma_15, Ma_16, Ma_17, Ma_18, Ma_19, Ma_20] : List (Nat)).getD k 0) (fun k => ([Mv_0, Mv_1, Mv_2, Mv_3, Mv_4, Mv_5, Mv_6, Mv_7, Mv_8, Mv_9, Mv_10, Mv_11, Mv_12, Mv_13, Mv_14] : List (Int32)).getD k 0) (fun k => ([(fun _ => 0), (fun _ => 0), (fun _ => 0), (fun _ => 0), (fun _ => 0), (fun _ => 0), (fun _ => 0), (fun _ => 0), (fun _ => 0), (fun _ => 0), Mf_10, (fun _ => 0), Mf_12] : List (Nat → Int32)).getD k (fun _ => 0)) (fun k => ([Mj_0] : List (Int64)).getD k 0) h_said
def dX12_laysBack_l2 (Mf_12 : Nat → Int32) : Nat → Int32 → (Nat → Int32) → Int32 × (Nat → Int32)
  | 0, _, _ => (0, (fun _ => 0))
  | n + 1, yy_300, yy_301 => (if (46 : Int32) ≤ yy_300 then (yy_300, yy_301) else dX12_laysBack_l2 Mf_12 n (yy_300 + 1) (upd yy_301 (((10 : Int32) + yy_300)).toNatClampNeg (Mf_12 (yy_300).toNatClampNeg)))
theorem dX12_laysBack_l2_s {Mf_12 : Nat → Int32} {n : Nat} {yy_300 : Int32} {yy_301 : Nat → Int32} : dX12_laysBack_l2 Mf_12 (n + 1) yy_300 yy_301 = (if (46 : Int32) ≤ yy_300 then (yy_300, yy_301) else dX12_laysBack_l2 Mf_12 n (yy_300 + 1) (upd yy_301 (((10 : Int32) + yy_300)).toNatClampNeg (Mf_12 (yy_300).toNatClampNeg))) := rfl
def dX12_laysBack (Mf_10 : Nat → Int32) (Mf_12 : Nat → Int32) : (Nat → Int32) := ((dX12_laysBack_l2 Mf_12 ((46 - (0 : Int32).toInt).toNat + 1) (0 : Int32) Mf_10).2)
set_option maxHeartbeats 4000000 in
set_option maxRecDepth 100000 in
theorem ct_dX12_laysBack {T : Nat → Option Int32} (l : Launch) (D : va_G) (tc : Nat → ClassId) (sk : (Nat → Nat) × (Nat → Nat)) (Ma : Nat → Nat) (Mv : Nat → Int32) (Mf : Nat → Nat → Int32) (Mj : Nat → Int64) (h_said : SaidB T (Mf 10)) (h_kept : KeptD (Mf 12)) : Ct l yX12_laysBack cX12_laysBack 2 none { frames := 0, cells := 0, slots := 0, locals := 0 } D tc sk [.ref (Ma 0)] [((Ma 0), .inr (12, [.ref (Ma 1), .int (Mv 0), .int (Mv 1), .ref (Ma 2), .ref (Ma 3), .ref (Ma 4), .ref (Ma 5), .ref (Ma 6), .int (Mv 2), .int (Mv 3), .int (Mv 4), .int (Mv 5), .int (Mv 6), .int (Mv 7), .int (Mv 8), .ref (Ma 7), .int (Mv 9), .ref (Ma 8), .int (Mv 10), .ref (Ma 9), .ref (Ma 10), .int (Mv 11), .int (Mv 12), .int (Mv 13), .ref (Ma 11), .int (Mv 14), .ref (Ma 12), .ref (Ma 13), .ref (Ma 14), .ref (Ma 15), .ref (Ma 16), .long (Mj 0), .ref (Ma 17), .ref (Ma 18), .ref (Ma 19), .ref (Ma 20)])), ((Ma 10), .inl (tc 0, 126, .inl (Mf 10))), ((Ma 12), .inl (tc 0, 46, .inl (Mf 12)))] (fun (v : Option Value) (oo0x1 : Nat → Int32) => v = none ∧ (SaidD T oo0x1 999) ∧ (DEq (oo0x1) (dX12_laysBack (Mf 10) (Mf 12)))) (fun (oo0x1 : Nat → Int32) => [((Ma 0), .inr (12, [.ref (Ma 1), .int (Mv 0), .int (Mv 1), .ref (Ma 2), .ref (Ma 3), .ref (Ma 4), .ref (Ma 5), .ref (Ma 6), .int (Mv 2), .int (Mv 3), .int (Mv 4), .int (Mv 5), .int (Mv 6), .int (Mv 7), .int (Mv 8), .ref (Ma 7), .int (Mv 9), .ref (Ma 8), .int (Mv 10), .ref (Ma 9), .ref (Ma 10), .int (Mv 11), .int (Mv 12), .int (Mv 13), .ref (Ma 11), .int (Mv 14), .ref (Ma 12), .ref (Ma 13), .ref (Ma 14), .ref (Ma 15), .ref (Ma 16), .long (Mj 0), .ref (Ma 17), .ref (Ma 18), .ref (Ma 19), .ref (Ma 20)])), ((Ma 10), .inl (tc 0, 126, .inl oo0x1)), ((Ma 12), .inl (tc 0, 46, .inl (Mf 12)))]) 0 0 := by
  refine Ct.start (by decide) (Nat.le_of_ble_eq_true rfl) (fun p e s m below meth c A ls hx hb hr hlk hin hml hown hts hK hX hP hD hA hl hS => ?_)
  have hl : lv_has ls 2 [(0, .ref (Ma 0))] := hl
  have ar_h_said := SaidB.ar h_said
  refine lv_iconst (v := 0) hx hb dX12_laysBack_0 (by decide) ?_
  refine lv_istore_n (lv' := [(1, .int 0), (0, .ref (Ma 0))]) hx hb dX12_laysBack_1 rfl hl (by decide) rfl (fun ls hl₀ => ?_)
  replace hl := hl₀
  clear hl₀
  have loop_3 : ∀ (n_1 : Nat) (yy_300 : Int32) (yy_301 : Nat → Int32) (H : Heap) (locs : List Loc) (ls : Array Slot), (46 - (yy_300 : Int32).toInt).toNat < n_1 → (dX12_laysBack_l2 (Mf 12) ((46 - (0 : Int32).toInt).toNat + 1) (0 : Int32) (Mf 10)) = dX12_laysBack_l2 (Mf 12) ((46 - (yy_300 : Int32).toInt).toNat + 1) yy_300 yy_301 → (0 ≤ (yy_300 : Int32).toInt) → (LayK T yy_301 yy_300) → va_P D classes [((Ma 0), .inr (12, [.ref (Ma 1), .int (Mv 0), .int (Mv 1), .ref (Ma 2), .ref (Ma 3), .ref (Ma 4), .ref (Ma 5), .ref (Ma 6), .int (Mv 2), .int (Mv 3), .int (Mv 4), .int (Mv 5), .int (Mv 6), .int (Mv 7), .int (Mv 8), .ref (Ma 7), .int (Mv 9), .ref (Ma 8), .int (Mv 10), .ref (Ma 9), .ref (Ma 10), .int (Mv 11), .int (Mv 12), .int (Mv 13), .ref (Ma 11), .int (Mv 14), .ref (Ma 12), .ref (Ma 13), .ref (Ma 14), .ref (Ma 15), .ref (Ma 16), .long (Mj 0), .ref (Ma 17), .ref (Ma 18), .ref (Ma 19), .ref (Ma 20)])), ((Ma 10), .inl (tc 0, 126, .inl yy_301)), ((Ma 12), .inl (tc 0, 46, .inl (Mf 12)))] H → va_D A [((Ma 0), .inr (12, [.ref (Ma 1), .int (Mv 0), .int (Mv 1), .ref (Ma 2), .ref (Ma 3), .ref (Ma 4), .ref (Ma 5), .ref (Ma 6), .int (Mv 2), .int (Mv 3), .int (Mv 4), .int (Mv 5), .int (Mv 6), .int (Mv 7), .int (Mv 8), .ref (Ma 7), .int (Mv 9), .ref (Ma 8), .int (Mv 10), .ref (Ma 9), .ref (Ma 10), .int (Mv 11), .int (Mv 12), .int (Mv 13), .ref (Ma 11), .int (Mv 14), .ref (Ma 12), .ref (Ma 13), .ref (Ma 14), .ref (Ma 15), .ref (Ma 16), .long (Mj 0), .ref (Ma 17), .ref (Ma 18), .ref (Ma 19), .ref (Ma 20)])), ((Ma 10), .inl (tc 0, 126, .inl yy_301)), ((Ma 12), .inl (tc 0, 46, .inl (Mf 12)))] → va_S A s.heap H locs → lv_has ls 2 [(1, .int yy_300), (0, .ref (Ma 0))] → W p l e ({ frames := 0, cells := 0, slots := 0, locals := 0 }) s m ([.ref (Ma 0)].toArray) below meth c H locs 0 0 (MQ below (QW (fun (v : Option Value) (oo0x1 : Nat → Int32) => v = none ∧ (SaidD T oo0x1 999) ∧ (DEq (oo0x1) (dX12_laysBack (Mf 10) (Mf 12)))) (BW D (fun (oo0x1 : Nat → Int32) => [((Ma 0), .inr (12, [.ref (Ma 1), .int (Mv 0), .int (Mv 1), .ref (Ma 2), .ref (Ma 3), .ref (Ma 4), .ref (Ma 5), .ref (Ma 6), .int (Mv 2), .int (Mv 3), .int (Mv 4), .int (Mv 5), .int (Mv 6), .int (Mv 7), .int (Mv 8), .ref (Ma 7), .int (Mv 9), .ref (Ma 8), .int (Mv 10), .ref (Ma 9), .ref (Ma 10), .int (Mv 11), .int (Mv 12), .int (Mv 13), .ref (Ma 11), .int (Mv 14), .ref (Ma 12), .ref (Ma 13), .ref (Ma 14), .ref (Ma 15), .ref (Ma 16), .long (Mj 0), .ref (Ma 17), .ref (Ma 18), .ref (Ma 19), .ref (Ma 20)])), ((Ma 10), .inl (tc 0, 126, .inl oo0x1)), ((Ma 12), .inl (tc 0, 46, .inl (Mf 12)))]) A) A) ([.ref (Ma 0)].toArray) s 0 0 A) (F0 m 2 ls []) := by
    clear hP hD hS hl
    intro n_1
    induction n_1 with
    | zero =>
      intro yy_300 yy_301 H locs ls h1
      exact absurd h1 (Nat.not_lt_zero _)
    | succ n_1 ih_2 =>
      intro yy_300 yy_301 H locs ls hn_7 hL_6 pf_4 pf_5 hP hD hS hl
      refine lv_iload_n hx hb dX12_laysBack_2 rfl (lv_at hl 0 rfl) ?_
      refine lv_bipush (v := 46) hx hb dX12_laysBack_3 (by decide) ?_
      refine lv_icmp_ge (tgt := 29) hx hb dX12_laysBack_5 (by decide) (fun c_8 => ?_) (fun c_8 => ?_)
      · skip
        have hb_10 : dX12_laysBack_l2 (Mf 12) ((46 - (yy_300 : Int32).toInt).toNat + 1) yy_300 yy_301 = (yy_300, yy_301) := by
          clear hP hD hS hl ih_2
          rw [dX12_laysBack_l2_s]
          rw [if_pos c_8]
          try rfl
        have hX_9 : (dX12_laysBack_l2 (Mf 12) ((46 - (0 : Int32).toInt).toNat + 1) (0 : Int32) (Mf 10)) = (yy_300, yy_301) := hL_6.trans hb_10
        have hX_9_0 : (dX12_laysBack_l2 (Mf 12) ((46 - (0 : Int32).toInt).toNat + 1) (0 : Int32) (Mf 10)).1 = yy_300 := congrArg (fun z => z.1) hX_9
        have hX_9_1 : (dX12_laysBack_l2 (Mf 12) ((46 - (0 : Int32).toInt).toNat + 1) (0 : Int32) (Mf 10)).2 = yy_301 := congrArg (fun z => z.2) hX_9
        have hr_11 : 1 ≤ (yy_300 : Int32).toInt := by
          have z_1 := Int32.le_iff_toInt_le.mp c_8
          have y_46 : (46 : Int32).toInt = 46 := by decide
          omega
        have hF_12 : yy_301 = (dX12_laysBack (Mf 10) (Mf 12)) := by
          clear hP hD hS hl ih_2
          unfold dX12_laysBack
          try rw [hX_9_0]
          try rw [hX_9_1]
          try rfl
        exact retV hx hb hr hlk hP hD hS yy_301 ⟨rfl, (LayK.done pf_5 hr_11), hF_12⟩ [0, 1, 2] rfl rfl dX12_laysBack_29 (Nat.le_of_ble_eq_true rfl) (Nat.le_of_ble_eq_true rfl) rfl
      · skip
        refine lv_aload_n hx hb dX12_laysBack_8 rfl (lv_at hl 1 rfl) ?_
        refine gf_X12_39 hx hb hts hown hK hP 0 rfl rfl dX12_laysBack_9 ?_
        refine lv_bipush (v := 10) hx hb dX12_laysBack_12 (by decide) ?_
        refine lv_iload_n hx hb dX12_laysBack_14 rfl (lv_at hl 0 rfl) ?_
        refine lv_iadd hx hb dX12_laysBack_15 ?_
        refine lv_topi (fun x_13 ex_13 => ?_)
        refine lv_aload_n hx hb dX12_laysBack_16 rfl (lv_at hl 1 rfl) ?_
        refine gf_X12_49 hx hb hts hown hK hP 0 rfl rfl dX12_laysBack_17 ?_
        refine lv_iload_n hx hb dX12_laysBack_20 rfl (lv_at hl 0 rfl) ?_
        have hi_14 : vp_in yy_300 46 := by
          have z_1 := Int32.lt_iff_toInt_lt.mp (Int32.not_le.mp c_8)
          have y_46 : (46 : Int32).toInt = 46 := by decide
          refine vp_in_iff.mpr ⟨?_, ?_⟩ <;> omega
        refine va_iald hx hb hK hP 2 0 rfl rfl hi_14 dX12_laysBack_21 ?_
        refine lv_topi (fun x_15 ex_15 => ?_)
        have hi_16 : vp_in x_13 126 := by
          have z_1 := Int32.lt_iff_toInt_lt.mp (Int32.not_le.mp c_8)
          have y_46 : (46 : Int32).toInt = 46 := by decide
          have y_10 : (10 : Int32).toInt = 10 := by decide
          have t_x_13 : x_13.toInt = (10 : Int32).toInt + (yy_300 : Int32).toInt := by rw [ex_13]; exact add_toInt (by omega) (by omega)
          refine vp_in_iff.mpr ⟨?_, ?_⟩ <;> omega
        refine st_int hx hb hK hP hD hS 1 0 rfl rfl hi_16 dX12_laysBack_22 (fun g_17 H locs eg_17 hP₀ hD₀ hS₀ => ?_)
        replace hP : va_P D classes [((Ma 0), .inr (12, [.ref (Ma 1), .int (Mv 0), .int (Mv 1), .ref (Ma 2), .ref (Ma 3), .ref (Ma 4), .ref (Ma 5), .ref (Ma 6), .int (Mv 2), .int (Mv 3), .int (Mv 4), .int (Mv 5), .int (Mv 6), .int (Mv 7), .int (Mv 8), .ref (Ma 7), .int (Mv 9), .ref (Ma 8), .int (Mv 10), .ref (Ma 9), .ref (Ma 10), .int (Mv 11), .int (Mv 12), .int (Mv 13), .ref (Ma 11), .int (Mv 14), .ref (Ma 12), .ref (Ma 13), .ref (Ma 14), .ref (Ma 15), .ref (Ma 16), .long (Mj 0), .ref (Ma 17), .ref (Ma 18), .ref (Ma 19), .ref (Ma 20)])), ((Ma 10), .inl (tc 0, 126, .inl g_17)), ((Ma 12), .inl (tc 0, 46, .inl (Mf 12)))] H := hP₀
        replace hD : va_D A [((Ma 0), .inr (12, [.ref (Ma 1), .int (Mv 0), .int (Mv 1), .ref (Ma 2), .ref (Ma 3), .ref (Ma 4), .ref (Ma 5), .ref (Ma 6), .int (Mv 2), .int (Mv 3), .int (Mv 4), .int (Mv 5), .int (Mv 6), .int (Mv 7), .int (Mv 8), .ref (Ma 7), .int (Mv 9), .ref (Ma 8), .int (Mv 10), .ref (Ma 9), .ref (Ma 10), .int (Mv 11), .int (Mv 12), .int (Mv 13), .ref (Ma 11), .int (Mv 14), .ref (Ma 12), .ref (Ma 13), .ref (Ma 14), .ref (Ma 15), .ref (Ma 16), .long (Mj 0), .ref (Ma 17), .ref (Ma 18), .ref (Ma 19), .ref (Ma 20)])), ((Ma 10), .inl (tc 0, 126, .inl g_17)), ((Ma 12), .inl (tc 0, 46, .inl (Mf 12)))] := hD₀
        replace hS := hS₀
        clear hP₀ hD₀ hS₀
        obtain ⟨x_18, ex_18⟩ : ∃ y : Int32, y = yy_300 + 1 := ⟨_, rfl⟩
        refine lv_iinc (v := x_18) (lv' := [(1, .int x_18), (0, .ref (Ma 0))]) hx hb dX12_laysBack_23 hl (k := 0) rfl (by rw [ex_18]; rfl) (by decide) rfl (fun ls hl₀ => ?_)
        replace hl := hl₀
        clear hl₀
        refine lv_goto (tgt := 2) hx hb dX12_laysBack_26 (by decide) ?_
        have hb_19 : 46 - (x_18 : Int32).toInt < 46 - (yy_300 : Int32).toInt ∧ 1 ≤ 46 - (yy_300 : Int32).toInt := by
          have z_1 := Int32.lt_iff_toInt_lt.mp (Int32.not_le.mp c_8)
          have y_46 : (46 : Int32).toInt = 46 := by decide
          have y_1 : (1 : Int32).toInt = 1 := by decide
          have t_x_18 : x_18.toInt = (yy_300 : Int32).toInt + (1 : Int32).toInt := by rw [ex_18]; exact add_toInt (by omega) (by omega)
          omega
        have hm_20 : (46 - (yy_300 : Int32).toInt).toNat = (46 - (x_18 : Int32).toInt).toNat + 1 := by
          have z_1 := Int32.lt_iff_toInt_lt.mp (Int32.not_le.mp c_8)
          have y_46 : (46 : Int32).toInt = 46 := by decide
          have y_1 : (1 : Int32).toInt = 1 := by decide
          have t_x_18 : x_18.toInt = (yy_300 : Int32).toInt + (1 : Int32).toInt := by rw [ex_18]; exact add_toInt (by omega) (by omega)
          omega
        have hb_21 : dX12_laysBack_l2 (Mf 12) ((46 - (yy_300 : Int32).toInt).toNat + 1) yy_300 yy_301 = dX12_laysBack_l2 (Mf 12) ((46 - (yy_300 : Int32).toInt).toNat) x_18 g_17 := by
          clear hP hD hS hl ih_2
          replace ex_13 := ex_13.symm; subst ex_13
          replace ex_15 := ex_15.symm; subst ex_15
          replace eg_17 := eg_17.symm; subst eg_17
          replace ex_18 := ex_18.symm; subst ex_18
          rw [dX12_laysBack_l2_s]
          rw [if_neg c_8]
          try rfl
        have hL_22 : (dX12_laysBack_l2 (Mf 12) ((46 - (0 : Int32).toInt).toNat + 1) (0 : Int32) (Mf 10)) = dX12_laysBack_l2 (Mf 12) ((46 - (x_18 : Int32).toInt).toNat + 1) x_18 g_17 := by
          rw [hL_6, hb_21, hm_20]
        have ha_23 : 0 ≤ (x_18 : Int32).toInt := by
          have z_1 := Int32.lt_iff_toInt_lt.mp (Int32.not_le.mp c_8)
          have y_46 : (46 : Int32).toInt = 46 := by decide
          have y_1 : (1 : Int32).toInt = 1 := by decide
          have t_x_18 : x_18.toInt = (yy_300 : Int32).toInt + (1 : Int32).toInt := by rw [ex_18]; exact add_toInt (by omega) (by omega)
          omega
        have hi_25 : (x_13 : Int32).toInt = 10 + (yy_300 : Int32).toInt := by
          have z_1 := Int32.lt_iff_toInt_lt.mp (Int32.not_le.mp c_8)
          have y_46 : (46 : Int32).toInt = 46 := by decide
          have y_10 : (10 : Int32).toInt = 10 := by decide
          have t_x_13 : x_13.toInt = (10 : Int32).toInt + (yy_300 : Int32).toInt := by rw [ex_13]; exact add_toInt (by omega) (by omega)
          omega
        have hr_26 : 0 ≤ (yy_300 : Int32).toInt ∧ (yy_300 : Int32).toInt < 46 := by
          have z_1 := Int32.lt_iff_toInt_lt.mp (Int32.not_le.mp c_8)
          have y_46 : (46 : Int32).toInt = 46 := by decide
          omega
        have ha_24 : LayK T g_17 x_18 := LayK.step (f := fun _ => 0) pf_5 (KeptD.x h_kept ex_15) eg_17 hi_25 hr_26
        exact ih_2 x_18 g_17 _ _ _ (by omega) hL_22 ha_23 ha_24 (hP.sub [0, 1, 2] rfl) (hD.sub [0, 1, 2] rfl rfl) hS (lv_sub hl [0, 1] rfl)
  have ha_27 : 0 ≤ (0 : Int32).toInt := by
    have y_0 : (0 : Int32).toInt = 0 := by decide
    omega
  have ha_28 : LayK T (Mf 10) 0 := ⟨h_said, fun z => absurd z (by decide)⟩
  exact loop_3 _ 0 (Mf 10) _ _ _ (Nat.lt_succ_self _) rfl ha_27 ha_28 hP hD hS hl
set_option maxRecDepth 100000 in
theorem cu_dX12_laysBack {T : Nat → Option Int32} (l : Launch) (D : va_G) (tc : Nat → ClassId) (sk : (Nat → Nat) × (Nat → Nat)) (Ma_0 : Nat) (Ma_1 : Nat) (Ma_2 : Nat) (Ma_3 : Nat) (Ma_4 : Nat) (Ma_5 : Nat) (Ma_6 : Nat) (Ma_7 : Nat) (Ma_8 : Nat) (Ma_9 : Nat) (Ma_10 : Nat) (Ma_11 : Nat) (Ma_12 : Nat) (Ma_13 : Nat) (Ma_14 : Nat) (Ma_15 : Nat) (Ma_16 : Nat) (Ma_17 : Nat) (Ma_18 : Nat) (Ma_19 : Nat) (Ma_20 : Nat) (Mv_0 : Int32) (Mv_1 : Int32) (Mv_2 : Int32) (Mv_3 : Int32) (Mv_4 : Int32) (Mv_5 : Int32) (Mv_6 : Int32) (Mv_7 : Int32) (Mv_8 : Int32) (Mv_9 : Int32) (Mv_10 : Int32) (Mv_11 : Int32) (Mv_12 : Int32) (Mv_13 : Int32) (Mv_14 : Int32) (Mf_10 : Nat → Int32) (Mf_12 : Nat → Int32) (Mj_0 : Int64) (h_said : SaidB T Mf_10) (h_kept : KeptD Mf_12) : Ct l yX12_laysBack cX12_laysBack 2 none { frames := 0, cells := 0, slots := 0, locals := 0 } D tc sk [.ref Ma_0] [(Ma_0, .inr (12, [.ref Ma_1, .int Mv_0, .int Mv_1, .ref Ma_2, .ref Ma_3, .ref Ma_4, .ref Ma_5, .ref Ma_6, .int Mv_2, .int Mv_3, .int Mv_4, .int Mv_5, .int Mv_6, .int Mv_7, .int Mv_8, .ref Ma_7, .int Mv_9, .ref Ma_8, .int Mv_10, .ref Ma_9, .ref Ma_10, .int Mv_11, .int Mv_12, .int Mv_13, .ref Ma_11, .int Mv_14, .ref Ma_12, .ref Ma_13, .ref Ma_14, .ref Ma_15, .ref Ma_16, .long Mj_0, .ref Ma_17, .ref Ma_18, .ref Ma_19, .ref Ma_20])), (Ma_10, .inl (tc 0, 126, .inl Mf_10)), (Ma_12, .inl (tc 0, 46, .inl Mf_12))] (fun (v : Option Value) (oo0x1 : Nat → Int32) => v = none ∧ (SaidD T oo0x1 999) ∧ (DEq (oo0x1) (dX12_laysBack Mf_10 Mf_12))) (fun (oo0x1 : Nat → Int32) => [(Ma_0, .inr (12, [.ref Ma_1, .int Mv_0, .int Mv_1, .ref Ma_2, .ref Ma_3, .ref Ma_4, .ref Ma_5, .ref Ma_6, .int Mv_2, .int Mv_3, .int Mv_4, .int Mv_5, .int Mv_6, .int Mv_7, .int Mv_8, .ref Ma_7, .int Mv_9, .ref Ma_8, .int Mv_10, .ref Ma_9, .ref Ma_10, .int Mv_11, .int Mv_12, .int Mv_13, .ref Ma_11, .int Mv_14, .ref Ma_12, .ref Ma_13, .ref Ma_14, .ref Ma_15, .ref Ma_16, .long Mj_0, .ref Ma_17, .ref Ma_18, .ref Ma_19, .ref Ma_20])), (Ma_10, .inl (tc 0, 126, .inl oo0x1)), (Ma_12, .inl (tc 0, 46, .inl Mf_12))]) 0 0 :=
  ct_dX12_laysBack l D tc sk (fun k => ([Ma_0, Ma_1, Ma_2, Ma_3, Ma_4, Ma_5, Ma_6, Ma_7, Ma_8, Ma_9, Ma_10, Ma_11, Ma_12, Ma_13, Ma_14, Ma_15, Ma_16, Ma_17, Ma_18, Ma_19, Ma_20] : List (Nat)).getD k 0) (fun k => ([Mv_0, Mv_1, Mv_2, Mv_3, Mv_4, Mv_5, Mv_6, Mv_7, Mv_8, Mv_9, Mv_10, Mv_11, Mv_12, Mv_13, Mv_14] : List (Int32)).getD k 0) (fun k => ([(fun _ => 0), (fun _ => 0), (fun _ => 0), (fun _ => 0), (fun _ => 0), (fun _ => 0), (fun _ => 0), (fun _ => 0), (fun _ => 0), (fun _ => 0), Mf_10, (fun _ => 0), Mf_12] : List (Nat → Int32)).getD k (fun _ => 0)) (fun k => ([Mj_0] : List (Int64)).getD k 0) h_said h_kept
def dX12_spot (x1 : Int32) (x2 : Int32) : Int32 := (((61 : Int32) * x1) + x2)
set_option maxHeartbeats 4000000 in
set_option maxRecDepth 100000 in
theorem ct_dX12_spot (l : Launch) (D : va_G) (tc : Nat → ClassId) (sk : (Nat → Nat) × (Nat → Nat)) (x1 : Int32) (x2 : Int32) (h_s : 0 ≤ x1.toInt ∧ x1.toInt ≤ 100 ∧ 0 ≤ x2.toInt ∧ x2.toInt ≤ 100) : Ct l yX12_spot cX12_spot 2 (some .int) { frames := 0, cells := 0, slots := 0, locals := 0 } D tc sk [.int x1, .int x2] [] (fun (v : Option Value) (_ : Unit) => ∃ r : Int32, v = some (.int r) ∧ (((r.toInt = 61 * x1.toInt + x2.toInt)) ∧ r = (dX12_spot x1 x2))) (fun (_ : Unit) => []) 0 0 := by
  refine Ct.start (by decide) (Nat.le_of_ble_eq_true rfl) (fun p e s m below meth c A ls hx hb hr hlk hin hml hown hts hK hX hP hD hA hl hS => ?_)
  have hl : lv_has ls 2 [(0, .int x1), (1, .int x2)] := hl
  refine lv_bipush (v := 61) hx hb dX12_spot_0 (by decide) ?_
  refine lv_iload_n hx hb dX12_spot_2 rfl (lv_at hl 0 rfl) ?_
  refine lv_imul hx hb dX12_spot_3 ?_
  refine lv_topi (fun x_1 ex_1 => ?_)
  refine lv_iload_n hx hb dX12_spot_4 rfl (lv_at hl 1 rfl) ?_
  refine lv_iadd hx hb dX12_spot_5 ?_
  refine lv_topi (fun x_2 ex_2 => ?_)
  have hp_3 : ((x_2 : Int32).toInt = 61 * x1.toInt + x2.toInt) := by
    have y_61 : (61 : Int32).toInt = 61 := by decide
    have t_x_1 : x_1.toInt = (61 : Int32).toInt * (x1 : Int32).toInt := by rw [ex_1]; exact mul_toInt (by first | omega | (rw [y_61]; omega)) (by first | omega | (rw [y_61]; omega))
    rw [y_61] at t_x_1
    have t_x_2 : x_2.toInt = (x_1 : Int32).toInt + (x2 : Int32).toInt := by rw [ex_2]; exact add_toInt (by omega) (by omega)
    omega
  have hF_4 : x_2 = (dX12_spot x1 x2) := by
    clear hP hD hS hl
    replace ex_1 := ex_1.symm; subst ex_1
    replace ex_2 := ex_2.symm; subst ex_2
    unfold dX12_spot
    try rfl
  exact retI (v := x_2) hx hb hr hlk (rfl) hP hD hS () ⟨_, rfl, ⟨hp_3, hF_4⟩⟩ [] rfl rfl dX12_spot_6 (Nat.le_of_ble_eq_true rfl) (Nat.le_of_ble_eq_true rfl) rfl
def dX12_areNotesSo_l2 (Mf_10 : Nat → Int32) (Mf_16 : Nat → Int32) (zz_301 : Int32) : Nat → Int32 → Int32 × Int32 × Int32
  | 0, _ => (0, 0, 0)
  | n + 1, yy_300 => (if ((3 : Int32) * (Mf_10 ((125 : Int32)).toNatClampNeg)) ≤ yy_300 then ((0 : Int32), (0 : Int32), yy_300) else (if (((Mf_16 ((dX12_spot zz_301 (Mf_10 (((95 : Int32) + yy_300)).toNatClampNeg))).toNatClampNeg) >>> ((Mf_10 ((((95 : Int32) + yy_300) + (1 : Int32))).toNatClampNeg) &&& 31)) &&& (1 : Int32)) = (Mf_10 ((((95 : Int32) + yy_300) + (2 : Int32))).toNatClampNeg) then dX12_areNotesSo_l2 Mf_10 Mf_16 zz_301 n (yy_300 + 3) else ((1 : Int32), (0 : Int32), yy_300)))
theorem dX12_areNotesSo_l2_s {Mf_10 : Nat → Int32} {Mf_16 : Nat → Int32} {zz_301 : Int32} {n : Nat} {yy_300 : Int32} : dX12_areNotesSo_l2 Mf_10 Mf_16 zz_301 (n + 1) yy_300 = (if ((3 : Int32) * (Mf_10 ((125 : Int32)).toNatClampNeg)) ≤ yy_300 then ((0 : Int32), (0 : Int32), yy_300) else (if (((Mf_16 ((dX12_spot zz_301 (Mf_10 (((95 : Int32) + yy_300)).toNatClampNeg))).toNatClampNeg) >>> ((Mf_10 ((((95 : Int32) + yy_300) + (1 : Int32))).toNatClampNeg) &&& 31)) &&& (1 : Int32)) = (Mf_10 ((((95 : Int32) + yy_300) + (2 : Int32))).toNatClampNeg) then dX12_areNotesSo_l2 Mf_10 Mf_16 zz_301 n (yy_300 + 3) else ((1 : Int32), (0 : Int32), yy_300))) := rfl
def dX12_areNotesSo (Mf_10 : Nat → Int32) (Mf_16 : Nat → Int32) (x1 : Int32) : Int32 := (if (dX12_areNotesSo_l2 Mf_10 Mf_16 x1 (((33 - (0 : Int32).toInt) / 3).toNat + 1) (0 : Int32)).1 = (1 : Int32) then (dX12_areNotesSo_l2 Mf_10 Mf_16 x1 (((33 - (0 : Int32).toInt) / 3).toNat + 1) (0 : Int32)).2.1 else (1 : Int32))
set_option maxHeartbeats 4000000 in
set_option maxRecDepth 100000 in
theorem ct_dX12_areNotesSo {T : Nat → Option Int32} (l : Launch) (D : va_G) (tc : Nat → ClassId) (sk : (Nat → Nat) × (Nat → Nat)) (Ma : Nat → Nat) (Mv : Nat → Int32) (Mf : Nat → Nat → Int32) (Mj : Nat → Int64) (x1 : Int32) (h_said : SaidB T (Mf 10)) (h_r : 0 ≤ x1.toInt ∧ x1.toInt ≤ 6) : Ct l yX12_areNotesSo cX12_areNotesSo 3 (some .boolean) { frames := 1, cells := 0, slots := 0, locals := 21 } D tc sk [.ref (Ma 0), .int x1] [((Ma 0), .inr (12, [.ref (Ma 1), .int (Mv 0), .int (Mv 1), .ref (Ma 2), .ref (Ma 3), .ref (Ma 4), .ref (Ma 5), .ref (Ma 6), .int (Mv 2), .int (Mv 3), .int (Mv 4), .int (Mv 5), .int (Mv 6), .int (Mv 7), .int (Mv 8), .ref (Ma 7), .int (Mv 9), .ref (Ma 8), .int (Mv 10), .ref (Ma 9), .ref (Ma 10), .int (Mv 11), .int (Mv 12), .int (Mv 13), .ref (Ma 11), .int (Mv 14), .ref (Ma 12), .ref (Ma 13), .ref (Ma 14), .ref (Ma 15), .ref (Ma 16), .long (Mj 0), .ref (Ma 17), .ref (Ma 18), .ref (Ma 19), .ref (Ma 20)])), ((Ma 10), .inl (tc 0, 126, .inl (Mf 10))), ((Ma 16), .inl (tc 0, 427, .inl (Mf 16)))] (fun (v : Option Value) (_ : Unit) => ∃ r : Int32, v = some (.int r) ∧ (((r.toInt = 0 ∨ r.toInt = 1)) ∧ r = (dX12_areNotesSo (Mf 10) (Mf 16) x1))) (fun (_ : Unit) => [((Ma 0), .inr (12, [.ref (Ma 1), .int (Mv 0), .int (Mv 1), .ref (Ma 2), .ref (Ma 3), .ref (Ma 4), .ref (Ma 5), .ref (Ma 6), .int (Mv 2), .int (Mv 3), .int (Mv 4), .int (Mv 5), .int (Mv 6), .int (Mv 7), .int (Mv 8), .ref (Ma 7), .int (Mv 9), .ref (Ma 8), .int (Mv 10), .ref (Ma 9), .ref (Ma 10), .int (Mv 11), .int (Mv 12), .int (Mv 13), .ref (Ma 11), .int (Mv 14), .ref (Ma 12), .ref (Ma 13), .ref (Ma 14), .ref (Ma 15), .ref (Ma 16), .long (Mj 0), .ref (Ma 17), .ref (Ma 18), .ref (Ma 19), .ref (Ma 20)])), ((Ma 10), .inl (tc 0, 126, .inl (Mf 10))), ((Ma 16), .inl (tc 0, 427, .inl (Mf 16)))]) 0 0 := by
  refine Ct.start (by decide) (Nat.le_of_ble_eq_true rfl) (fun p e s m below meth c A ls hx hb hr hlk hin hml hown hts hK hX hP hD hA hl hS => ?_)
  have hl : lv_has ls 3 [(0, .ref (Ma 0)), (1, .int x1)] := hl
  have ar_h_said := SaidB.ar h_said
  refine lv_iconst (v := 0) hx hb dX12_areNotesSo_0 (by decide) ?_
  refine lv_istore_n (lv' := [(2, .int 0), (0, .ref (Ma 0)), (1, .int x1)]) hx hb dX12_areNotesSo_1 rfl hl (by decide) rfl (fun ls hl₀ => ?_)
  replace hl := hl₀
  clear hl₀
  have loop_3 : ∀ (n_1 : Nat) (yy_300 : Int32) (H : Heap) (locs : List Loc) (ls : Array Slot), ((33 - (yy_300 : Int32).toInt) / 3).toNat < n_1 → (dX12_areNotesSo_l2 (Mf 10) (Mf 16) x1 (((33 - (0 : Int32).toInt) / 3).toNat + 1) (0 : Int32)) = dX12_areNotesSo_l2 (Mf 10) (Mf 16) x1 (((33 - (yy_300 : Int32).toInt) / 3).toNat + 1) yy_300 → (0 ≤ (yy_300 : Int32).toInt ∧ (yy_300 : Int32).toInt % 3 = 0) → va_P D classes [((Ma 0), .inr (12, [.ref (Ma 1), .int (Mv 0), .int (Mv 1), .ref (Ma 2), .ref (Ma 3), .ref (Ma 4), .ref (Ma 5), .ref (Ma 6), .int (Mv 2), .int (Mv 3), .int (Mv 4), .int (Mv 5), .int (Mv 6), .int (Mv 7), .int (Mv 8), .ref (Ma 7), .int (Mv 9), .ref (Ma 8), .int (Mv 10), .ref (Ma 9), .ref (Ma 10), .int (Mv 11), .int (Mv 12), .int (Mv 13), .ref (Ma 11), .int (Mv 14), .ref (Ma 12), .ref (Ma 13), .ref (Ma 14), .ref (Ma 15), .ref (Ma 16), .long (Mj 0), .ref (Ma 17), .ref (Ma 18), .ref (Ma 19), .ref (Ma 20)])), ((Ma 10), .inl (tc 0, 126, .inl (Mf 10))), ((Ma 16), .inl (tc 0, 427, .inl (Mf 16)))] H → va_D A [((Ma 0), .inr (12, [.ref (Ma 1), .int (Mv 0), .int (Mv 1), .ref (Ma 2), .ref (Ma 3), .ref (Ma 4), .ref (Ma 5), .ref (Ma 6), .int (Mv 2), .int (Mv 3), .int (Mv 4), .int (Mv 5), .int (Mv 6), .int (Mv 7), .int (Mv 8), .ref (Ma 7), .int (Mv 9), .ref (Ma 8), .int (Mv 10), .ref (Ma 9), .ref (Ma 10), .int (Mv 11), .int (Mv 12), .int (Mv 13), .ref (Ma 11), .int (Mv 14), .ref (Ma 12), .ref (Ma 13), .ref (Ma 14), .ref (Ma 15), .ref (Ma 16), .long (Mj 0), .ref (Ma 17), .ref (Ma 18), .ref (Ma 19), .ref (Ma 20)])), ((Ma 10), .inl (tc 0, 126, .inl (Mf 10))), ((Ma 16), .inl (tc 0, 427, .inl (Mf 16)))] → va_S A s.heap H locs → lv_has ls 3 [(2, .int yy_300), (0, .ref (Ma 0)), (1, .int x1)] → W p l e ({ frames := 1, cells := 0, slots := 0, locals := 21 }) s m ([.ref (Ma 0), .int x1].toArray) below meth c H locs 0 0 (MQ below (QW (fun (v : Option Value) (_ : Unit) => ∃ r : Int32, v = some (.int r) ∧ (((r.toInt = 0 ∨ r.toInt = 1)) ∧ r = (dX12_areNotesSo (Mf 10) (Mf 16) x1))) (BW D (fun (_ : Unit) => [((Ma 0), .inr (12, [.ref (Ma 1), .int (Mv 0), .int (Mv 1), .ref (Ma 2), .ref (Ma 3), .ref (Ma 4), .ref (Ma 5), .ref (Ma 6), .int (Mv 2), .int (Mv 3), .int (Mv 4), .int (Mv 5), .int (Mv 6), .int (Mv 7), .int (Mv 8), .ref (Ma 7), .int (Mv 9), .ref (Ma 8), .int (Mv 10), .ref (Ma 9), .ref (Ma 10), .int (Mv 11), .int (Mv 12), .int (Mv 13), .ref (Ma 11), .int (Mv 14), .ref (Ma 12), .ref (Ma 13), .ref (Ma 14), .ref (Ma 15), .ref (Ma 16), .long (Mj 0), .ref (Ma 17), .ref (Ma 18), .ref (Ma 19), .ref (Ma 20)])), ((Ma 10), .inl (tc 0, 126, .inl (Mf 10))), ((Ma 16), .inl (tc 0, 427, .inl (Mf 16)))]) A) A) ([.ref (Ma 0), .int x1].toArray) s 0 0 A) (F0 m 2 ls []) := by
    clear hP hD hS hl
    intro n_1
    induction n_1 with
    | zero =>
      intro yy_300 H locs ls h1
      exact absurd h1 (Nat.not_lt_zero _)
    | succ n_1 ih_2 =>
      intro yy_300 H locs ls hn_6 hL_5 pf_4 hP hD hS hl
      refine lv_iload_n hx hb dX12_areNotesSo_2 rfl (lv_at hl 0 rfl) ?_
      refine lv_iconst (v := 3) hx hb dX12_areNotesSo_3 (by decide) ?_
      refine lv_aload_n hx hb dX12_areNotesSo_4 rfl (lv_at hl 1 rfl) ?_
      refine gf_X12_39 hx hb hts hown hK hP 0 rfl rfl dX12_areNotesSo_5 ?_
      refine lv_bipush (v := 125) hx hb dX12_areNotesSo_8 (by decide) ?_
      refine va_iald hx hb hK hP 1 0 rfl rfl (vin_dec (by decide +kernel)) dX12_areNotesSo_10 ?_
      refine lv_topi (fun x_7 ex_7 => ?_)
      have lx_7 : x_7.toInt = ((Mf 10) 125).toInt := congrArg Int32.toInt ex_7
      refine lv_imul hx hb dX12_areNotesSo_11 ?_
      refine lv_topi (fun x_8 ex_8 => ?_)
      refine lv_icmp_ge (tgt := 69) hx hb dX12_areNotesSo_12 (by decide) (fun c_9 => ?_) (fun c_9 => ?_)
      · skip
        have hb_11 : dX12_areNotesSo_l2 (Mf 10) (Mf 16) x1 (((33 - (yy_300 : Int32).toInt) / 3).toNat + 1) yy_300 = ((0 : Int32), (0 : Int32), yy_300) := by
          clear hP hD hS hl ih_2
          replace ex_7 := ex_7.symm; subst ex_7
          replace ex_8 := ex_8.symm; subst ex_8
          rw [dX12_areNotesSo_l2_s]
          rw [if_pos c_9]
          try rfl
        have hX_10 : (dX12_areNotesSo_l2 (Mf 10) (Mf 16) x1 (((33 - (0 : Int32).toInt) / 3).toNat + 1) (0 : Int32)) = ((0 : Int32), (0 : Int32), yy_300) := hL_5.trans hb_11
        have hX_10_0 : (dX12_areNotesSo_l2 (Mf 10) (Mf 16) x1 (((33 - (0 : Int32).toInt) / 3).toNat + 1) (0 : Int32)).1 = (0 : Int32) := congrArg (fun z => z.1) hX_10
        have hX_10_1 : (dX12_areNotesSo_l2 (Mf 10) (Mf 16) x1 (((33 - (0 : Int32).toInt) / 3).toNat + 1) (0 : Int32)).2.1 = (0 : Int32) := congrArg (fun z => z.2.1) hX_10
        have hX_10_2 : (dX12_areNotesSo_l2 (Mf 10) (Mf 16) x1 (((33 - (0 : Int32).toInt) / 3).toNat + 1) (0 : Int32)).2.2 = yy_300 := congrArg (fun z => z.2.2) hX_10
        refine lv_iconst (v := 1) hx hb dX12_areNotesSo_69 (by decide) ?_
        have hp_12 : ((1 : Int32).toInt = 0 ∨ (1 : Int32).toInt = 1) := by
          have z_1 := Int32.le_iff_toInt_le.mp c_9
          have y_1 : (1 : Int32).toInt = 1 := by decide
          have y_3 : (3 : Int32).toInt = 3 := by decide
          have t_x_8 : x_8.toInt = (3 : Int32).toInt * (x_7 : Int32).toInt := by rw [ex_8]; exact mul_toInt (by first | omega | (rw [y_3]; omega)) (by first | omega | (rw [y_3]; omega))
          rw [y_3] at t_x_8
          have yr : (1 : Int32).toInt = 1 := by decide
          omega
        have hF_13 : (1 : Int32) = (dX12_areNotesSo (Mf 10) (Mf 16) x1) := by
          clear hP hD hS hl ih_2
          replace ex_7 := ex_7.symm; subst ex_7
          replace ex_8 := ex_8.symm; subst ex_8
          unfold dX12_areNotesSo
          try rw [hX_10_0]
          try rw [hX_10_1]
          try rw [hX_10_2]
          rw [if_neg (show ¬ (0 : Int32) = (1 : Int32) by decide)]
          try rfl
        exact retI (v := 1) hx hb hr hlk (rfl) hP hD hS () ⟨_, rfl, ⟨hp_12, hF_13⟩⟩ [0, 1, 2] rfl rfl dX12_areNotesSo_70 (Nat.le_of_ble_eq_true rfl) (Nat.le_of_ble_eq_true rfl) rfl
      · skip
        refine lv_aload_n hx hb dX12_areNotesSo_15 rfl (lv_at hl 1 rfl) ?_
        refine gf_X12_62 hx hb hts hown hK hP 0 rfl rfl dX12_areNotesSo_16 ?_
        refine lv_iload_n hx hb dX12_areNotesSo_19 rfl (lv_at hl 2 rfl) ?_
        refine lv_aload_n hx hb dX12_areNotesSo_20 rfl (lv_at hl 1 rfl) ?_
        refine gf_X12_39 hx hb hts hown hK hP 0 rfl rfl dX12_areNotesSo_21 ?_
        refine lv_bipush (v := 95) hx hb dX12_areNotesSo_24 (by decide) ?_
        refine lv_iload_n hx hb dX12_areNotesSo_26 rfl (lv_at hl 0 rfl) ?_
        refine lv_iadd hx hb dX12_areNotesSo_27 ?_
        refine lv_topi (fun x_14 ex_14 => ?_)
        have hi_15 : vp_in x_14 126 := by
          have z_1 := Int32.lt_iff_toInt_lt.mp (Int32.not_le.mp c_9)
          have y_3 : (3 : Int32).toInt = 3 := by decide
          have y_95 : (95 : Int32).toInt = 95 := by decide
          have t_x_8 : x_8.toInt = (3 : Int32).toInt * (x_7 : Int32).toInt := by rw [ex_8]; exact mul_toInt (by first | omega | (rw [y_3]; omega)) (by first | omega | (rw [y_3]; omega))
          rw [y_3] at t_x_8
          have t_x_14 : x_14.toInt = (95 : Int32).toInt + (yy_300 : Int32).toInt := by rw [ex_14]; exact add_toInt (by omega) (by omega)
          refine vp_in_iff.mpr ⟨?_, ?_⟩ <;> omega
        refine va_iald hx hb hK hP 1 0 rfl rfl hi_15 dX12_areNotesSo_28 ?_
        refine lv_topi (fun x_16 ex_16 => ?_)
        have hr_17 : 95 ≤ (x_14 : Int32).toInt ∧ (x_14 : Int32).toInt < 125 ∧ (x_14 : Int32).toInt % 3 = 2 := by
          have z_1 := Int32.lt_iff_toInt_lt.mp (Int32.not_le.mp c_9)
          have y_3 : (3 : Int32).toInt = 3 := by decide
          have y_95 : (95 : Int32).toInt = 95 := by decide
          have t_x_8 : x_8.toInt = (3 : Int32).toInt * (x_7 : Int32).toInt := by rw [ex_8]; exact mul_toInt (by first | omega | (rw [y_3]; omega)) (by first | omega | (rw [y_3]; omega))
          rw [y_3] at t_x_8
          have t_x_14 : x_14.toInt = (95 : Int32).toInt + (yy_300 : Int32).toInt := by rw [ex_14]; exact add_toInt (by omega) (by omega)
          omega
        have nbx_16 := SaidB.note h_said ex_16 hr_17
        have ha_18 : 0 ≤ x1.toInt ∧ x1.toInt ≤ 100 ∧ 0 ≤ x_16.toInt ∧ x_16.toInt ≤ 100 := by
          have z_1 := Int32.lt_iff_toInt_lt.mp (Int32.not_le.mp c_9)
          have y_3 : (3 : Int32).toInt = 3 := by decide
          have t_x_8 : x_8.toInt = (3 : Int32).toInt * (x_7 : Int32).toInt := by rw [ex_8]; exact mul_toInt (by first | omega | (rw [y_3]; omega)) (by first | omega | (rw [y_3]; omega))
          rw [y_3] at t_x_8
          omega
        refine cS (As := [.int x1, .int x_16]) (rest := [.ref (Ma 16)]) (wr := [((Ma 0), .inr (12, [.ref (Ma 1), .int (Mv 0), .int (Mv 1), .ref (Ma 2), .ref (Ma 3), .ref (Ma 4), .ref (Ma 5), .ref (Ma 6), .int (Mv 2), .int (Mv 3), .int (Mv 4), .int (Mv 5), .int (Mv 6), .int (Mv 7), .int (Mv 8), .ref (Ma 7), .int (Mv 9), .ref (Ma 8), .int (Mv 10), .ref (Ma 9), .ref (Ma 10), .int (Mv 11), .int (Mv 12), .int (Mv 13), .ref (Ma 11), .int (Mv 14), .ref (Ma 12), .ref (Ma 13), .ref (Ma 14), .ref (Ma 15), .ref (Ma 16), .long (Mj 0), .ref (Ma 17), .ref (Ma 18), .ref (Ma 19), .ref (Ma 20)])), ((Ma 10), .inl (tc 0, 126, .inl (Mf 10))), ((Ma 16), .inl (tc 0, 427, .inl (Mf 16)))]) ⟨hx, hb, hml, hown, hts⟩ hK hX hA (ct_dX12_spot l D tc sk x1 x_16 ha_18) k_1609 k_1607 k_1608 k_106 pl_X12_spot ⟨Nat.le_of_ble_eq_true rfl, Nat.le_of_ble_eq_true rfl⟩ rfl rfl  hP hD hS [] [0, 1, 2] rfl rfl rfl rfl rfl (by decide) rfl hl.1 rfl (Nat.le_of_ble_eq_true rfl) dX12_areNotesSo_29 ⟨Nat.le_of_ble_eq_true rfl, Nat.le_of_ble_eq_true rfl⟩ (fun v_19 u_20 H locs hv_21 hP₀ hD₀ hS₀ => ?_)
        obtain ⟨r_22, rfl, he_23⟩ := hv_21
        have he_23 : ((r_22.toInt = 61 * x1.toInt + x_16.toInt)) ∧ r_22 = (dX12_spot x1 x_16) := he_23
        refine W.eq (g2 := F0 m 32 ls [.int r_22, .ref (Ma 16)]) rfl ?_
        replace hP : va_P D classes [((Ma 0), .inr (12, [.ref (Ma 1), .int (Mv 0), .int (Mv 1), .ref (Ma 2), .ref (Ma 3), .ref (Ma 4), .ref (Ma 5), .ref (Ma 6), .int (Mv 2), .int (Mv 3), .int (Mv 4), .int (Mv 5), .int (Mv 6), .int (Mv 7), .int (Mv 8), .ref (Ma 7), .int (Mv 9), .ref (Ma 8), .int (Mv 10), .ref (Ma 9), .ref (Ma 10), .int (Mv 11), .int (Mv 12), .int (Mv 13), .ref (Ma 11), .int (Mv 14), .ref (Ma 12), .ref (Ma 13), .ref (Ma 14), .ref (Ma 15), .ref (Ma 16), .long (Mj 0), .ref (Ma 17), .ref (Ma 18), .ref (Ma 19), .ref (Ma 20)])), ((Ma 10), .inl (tc 0, 126, .inl (Mf 10))), ((Ma 16), .inl (tc 0, 427, .inl (Mf 16)))] H := hP₀
        replace hD : va_D A [((Ma 0), .inr (12, [.ref (Ma 1), .int (Mv 0), .int (Mv 1), .ref (Ma 2), .ref (Ma 3), .ref (Ma 4), .ref (Ma 5), .ref (Ma 6), .int (Mv 2), .int (Mv 3), .int (Mv 4), .int (Mv 5), .int (Mv 6), .int (Mv 7), .int (Mv 8), .ref (Ma 7), .int (Mv 9), .ref (Ma 8), .int (Mv 10), .ref (Ma 9), .ref (Ma 10), .int (Mv 11), .int (Mv 12), .int (Mv 13), .ref (Ma 11), .int (Mv 14), .ref (Ma 12), .ref (Ma 13), .ref (Ma 14), .ref (Ma 15), .ref (Ma 16), .long (Mj 0), .ref (Ma 17), .ref (Ma 18), .ref (Ma 19), .ref (Ma 20)])), ((Ma 10), .inl (tc 0, 126, .inl (Mf 10))), ((Ma 16), .inl (tc 0, 427, .inl (Mf 16)))] := hD₀
        replace hS := hS₀
        clear hP₀ hD₀ hS₀
        obtain ⟨he_23, hq_25⟩ := he_23
        have er_22 : r_22 = (dX12_spot x1 x_16) := hq_25
        have hi_26 : vp_in r_22 427 := by
          have z_1 := Int32.lt_iff_toInt_lt.mp (Int32.not_le.mp c_9)
          have y_3 : (3 : Int32).toInt = 3 := by decide
          have t_x_8 : x_8.toInt = (3 : Int32).toInt * (x_7 : Int32).toInt := by rw [ex_8]; exact mul_toInt (by first | omega | (rw [y_3]; omega)) (by first | omega | (rw [y_3]; omega))
          rw [y_3] at t_x_8
          refine vp_in_iff.mpr ⟨?_, ?_⟩ <;> omega
        refine va_iald hx hb hK hP 2 0 rfl rfl hi_26 dX12_areNotesSo_32 ?_
        refine lv_topi (fun x_27 ex_27 => ?_)
        refine lv_aload_n hx hb dX12_areNotesSo_33 rfl (lv_at hl 1 rfl) ?_
        refine gf_X12_39 hx hb hts hown hK hP 0 rfl rfl dX12_areNotesSo_34 ?_
        refine lv_bipush (v := 95) hx hb dX12_areNotesSo_37 (by decide) ?_
        refine lv_iload_n hx hb dX12_areNotesSo_39 rfl (lv_at hl 0 rfl) ?_
        refine lv_iadd hx hb dX12_areNotesSo_40 ?_
        refine lv_topi (fun x_28 ex_28 => ?_)
        refine lv_iconst (v := 1) hx hb dX12_areNotesSo_41 (by decide) ?_
        refine lv_iadd hx hb dX12_areNotesSo_42 ?_
        refine lv_topi (fun x_29 ex_29 => ?_)
        have hi_30 : vp_in x_29 126 := by
          have z_1 := Int32.lt_iff_toInt_lt.mp (Int32.not_le.mp c_9)
          have y_1 : (1 : Int32).toInt = 1 := by decide
          have y_3 : (3 : Int32).toInt = 3 := by decide
          have y_95 : (95 : Int32).toInt = 95 := by decide
          have t_x_8 : x_8.toInt = (3 : Int32).toInt * (x_7 : Int32).toInt := by rw [ex_8]; exact mul_toInt (by first | omega | (rw [y_3]; omega)) (by first | omega | (rw [y_3]; omega))
          rw [y_3] at t_x_8
          have t_x_28 : x_28.toInt = (95 : Int32).toInt + (yy_300 : Int32).toInt := by rw [ex_28]; exact add_toInt (by omega) (by omega)
          have t_x_29 : x_29.toInt = (x_28 : Int32).toInt + (1 : Int32).toInt := by rw [ex_29]; exact add_toInt (by omega) (by omega)
          refine vp_in_iff.mpr ⟨?_, ?_⟩ <;> omega
        refine va_iald hx hb hK hP 1 0 rfl rfl hi_30 dX12_areNotesSo_43 ?_
        refine lv_topi (fun x_31 ex_31 => ?_)
        refine lv_ishr hx hb dX12_areNotesSo_44 ?_
        refine lv_topi (fun x_32 ex_32 => ?_)
        refine lv_iconst (v := 1) hx hb dX12_areNotesSo_45 (by decide) ?_
        refine lv_iand hx hb dX12_areNotesSo_46 ?_
        refine lv_topi (fun x_33 ex_33 => ?_)
        refine lv_aload_n hx hb dX12_areNotesSo_47 rfl (lv_at hl 1 rfl) ?_
        refine gf_X12_39 hx hb hts hown hK hP 0 rfl rfl dX12_areNotesSo_48 ?_
        refine lv_bipush (v := 95) hx hb dX12_areNotesSo_51 (by decide) ?_
        refine lv_iload_n hx hb dX12_areNotesSo_53 rfl (lv_at hl 0 rfl) ?_
        refine lv_iadd hx hb dX12_areNotesSo_54 ?_
        refine lv_topi (fun x_34 ex_34 => ?_)
        refine lv_iconst (v := 2) hx hb dX12_areNotesSo_55 (by decide) ?_
        refine lv_iadd hx hb dX12_areNotesSo_56 ?_
        refine lv_topi (fun x_35 ex_35 => ?_)
        have hi_36 : vp_in x_35 126 := by
          have z_1 := Int32.lt_iff_toInt_lt.mp (Int32.not_le.mp c_9)
          have y_2 : (2 : Int32).toInt = 2 := by decide
          have y_3 : (3 : Int32).toInt = 3 := by decide
          have y_95 : (95 : Int32).toInt = 95 := by decide
          have t_x_8 : x_8.toInt = (3 : Int32).toInt * (x_7 : Int32).toInt := by rw [ex_8]; exact mul_toInt (by first | omega | (rw [y_3]; omega)) (by first | omega | (rw [y_3]; omega))
          rw [y_3] at t_x_8
          have t_x_34 : x_34.toInt = (95 : Int32).toInt + (yy_300 : Int32).toInt := by rw [ex_34]; exact add_toInt (by omega) (by omega)
          have t_x_35 : x_35.toInt = (x_34 : Int32).toInt + (2 : Int32).toInt := by rw [ex_35]; exact add_toInt (by omega) (by omega)
          refine vp_in_iff.mpr ⟨?_, ?_⟩ <;> omega
        refine va_iald hx hb hK hP 1 0 rfl rfl hi_36 dX12_areNotesSo_57 ?_
        refine lv_topi (fun x_37 ex_37 => ?_)
        refine lv_icmp_eq (tgt := 63) hx hb dX12_areNotesSo_58 (by decide) (fun c_38 => ?_) (fun c_38 => ?_)
        · skip
          obtain ⟨x_39, ex_39⟩ : ∃ y : Int32, y = yy_300 + 3 := ⟨_, rfl⟩
          refine lv_iinc (v := x_39) (lv' := [(2, .int x_39), (0, .ref (Ma 0)), (1, .int x1)]) hx hb dX12_areNotesSo_63 hl (k := 0) rfl (by rw [ex_39]; rfl) (by decide) rfl (fun ls hl₀ => ?_)
          replace hl := hl₀
          clear hl₀
          refine lv_goto (tgt := 2) hx hb dX12_areNotesSo_66 (by decide) ?_
          have hb_40 : (33 - (x_39 : Int32).toInt) / 3 < (33 - (yy_300 : Int32).toInt) / 3 ∧ 1 ≤ (33 - (yy_300 : Int32).toInt) / 3 := by
            have z_1 := Int32.lt_iff_toInt_lt.mp (Int32.not_le.mp c_9)
            have z_2 := congrArg Int32.toInt c_38
            have y_3 : (3 : Int32).toInt = 3 := by decide
            have t_x_8 : x_8.toInt = (3 : Int32).toInt * (x_7 : Int32).toInt := by rw [ex_8]; exact mul_toInt (by first | omega | (rw [y_3]; omega)) (by first | omega | (rw [y_3]; omega))
            rw [y_3] at t_x_8
            have t_x_39 : x_39.toInt = (yy_300 : Int32).toInt + (3 : Int32).toInt := by rw [ex_39]; exact add_toInt (by omega) (by omega)
            omega
          have hm_41 : ((33 - (yy_300 : Int32).toInt) / 3).toNat = ((33 - (x_39 : Int32).toInt) / 3).toNat + 1 := by
            have z_1 := Int32.lt_iff_toInt_lt.mp (Int32.not_le.mp c_9)
            have z_2 := congrArg Int32.toInt c_38
            have y_3 : (3 : Int32).toInt = 3 := by decide
            have t_x_8 : x_8.toInt = (3 : Int32).toInt * (x_7 : Int32).toInt := by rw [ex_8]; exact mul_toInt (by first | omega | (rw [y_3]; omega)) (by first | omega | (rw [y_3]; omega))
            rw [y_3] at t_x_8
            have t_x_39 : x_39.toInt = (yy_300 : Int32).toInt + (3 : Int32).toInt := by rw [ex_39]; exact add_toInt (by omega) (by omega)
            omega
          have hb_42 : dX12_areNotesSo_l2 (Mf 10) (Mf 16) x1 (((33 - (yy_300 : Int32).toInt) / 3).toNat + 1) yy_300 = dX12_areNotesSo_l2 (Mf 10) (Mf 16) x1 (((33 - (yy_300 : Int32).toInt) / 3).toNat) x_39 := by
            clear hP hD hS hl ih_2
            replace ex_7 := ex_7.symm; subst ex_7
            replace ex_8 := ex_8.symm; subst ex_8
            replace ex_14 := ex_14.symm; subst ex_14
            replace ex_16 := ex_16.symm; subst ex_16
            replace er_22 := er_22.symm; subst er_22
            replace ex_27 := ex_27.symm; subst ex_27
            replace ex_28 := ex_28.symm; subst ex_28
            replace ex_29 := ex_29.symm; subst ex_29
            replace ex_31 := ex_31.symm; subst ex_31
            replace ex_32 := ex_32.symm; subst ex_32
            replace ex_33 := ex_33.symm; subst ex_33
            replace ex_34 := ex_34.symm; subst ex_34
            replace ex_35 := ex_35.symm; subst ex_35
            replace ex_37 := ex_37.symm; subst ex_37
            replace ex_39 := ex_39.symm; subst ex_39
            rw [dX12_areNotesSo_l2_s]
            rw [if_neg c_9, if_pos c_38]
            try rfl
          have hL_43 : (dX12_areNotesSo_l2 (Mf 10) (Mf 16) x1 (((33 - (0 : Int32).toInt) / 3).toNat + 1) (0 : Int32)) = dX12_areNotesSo_l2 (Mf 10) (Mf 16) x1 (((33 - (x_39 : Int32).toInt) / 3).toNat + 1) x_39 := by
            rw [hL_5, hb_42, hm_41]
          have ha_44 : 0 ≤ (x_39 : Int32).toInt ∧ (x_39 : Int32).toInt % 3 = 0 := by
            have z_1 := Int32.lt_iff_toInt_lt.mp (Int32.not_le.mp c_9)
            have z_2 := congrArg Int32.toInt c_38
            have y_3 : (3 : Int32).toInt = 3 := by decide
            have t_x_8 : x_8.toInt = (3 : Int32).toInt * (x_7 : Int32).toInt := by rw [ex_8]; exact mul_toInt (by first | omega | (rw [y_3]; omega)) (by first | omega | (rw [y_3]; omega))
            rw [y_3] at t_x_8
            have t_x_39 : x_39.toInt = (yy_300 : Int32).toInt + (3 : Int32).toInt := by rw [ex_39]; exact add_toInt (by omega) (by omega)
            omega
          exact ih_2 x_39 _ _ _ (by omega) hL_43 ha_44 (hP.sub [0, 1, 2] rfl) (hD.sub [0, 1, 2] rfl rfl) hS (lv_sub hl [0, 1, 2] rfl)
        · skip
          refine lv_iconst (v := 0) hx hb dX12_areNotesSo_61 (by decide) ?_
          have hb_46 : dX12_areNotesSo_l2 (Mf 10) (Mf 16) x1 (((33 - (yy_300 : Int32).toInt) / 3).toNat + 1) yy_300 = ((1 : Int32), (0 : Int32), yy_300) := by
            clear hP hD hS hl ih_2
            replace ex_7 := ex_7.symm; subst ex_7
            replace ex_8 := ex_8.symm; subst ex_8
            replace ex_14 := ex_14.symm; subst ex_14
            replace ex_16 := ex_16.symm; subst ex_16
            replace er_22 := er_22.symm; subst er_22
            replace ex_27 := ex_27.symm; subst ex_27
            replace ex_28 := ex_28.symm; subst ex_28
            replace ex_29 := ex_29.symm; subst ex_29
            replace ex_31 := ex_31.symm; subst ex_31
            replace ex_32 := ex_32.symm; subst ex_32
            replace ex_33 := ex_33.symm; subst ex_33
            replace ex_34 := ex_34.symm; subst ex_34
            replace ex_35 := ex_35.symm; subst ex_35
            replace ex_37 := ex_37.symm; subst ex_37
            rw [dX12_areNotesSo_l2_s]
            rw [if_neg c_9, if_neg c_38]
            try rfl
          have hX_45 : (dX12_areNotesSo_l2 (Mf 10) (Mf 16) x1 (((33 - (0 : Int32).toInt) / 3).toNat + 1) (0 : Int32)) = ((1 : Int32), (0 : Int32), yy_300) := hL_5.trans hb_46
          have hX_45_0 : (dX12_areNotesSo_l2 (Mf 10) (Mf 16) x1 (((33 - (0 : Int32).toInt) / 3).toNat + 1) (0 : Int32)).1 = (1 : Int32) := congrArg (fun z => z.1) hX_45
          have hX_45_1 : (dX12_areNotesSo_l2 (Mf 10) (Mf 16) x1 (((33 - (0 : Int32).toInt) / 3).toNat + 1) (0 : Int32)).2.1 = (0 : Int32) := congrArg (fun z => z.2.1) hX_45
          have hX_45_2 : (dX12_areNotesSo_l2 (Mf 10) (Mf 16) x1 (((33 - (0 : Int32).toInt) / 3).toNat + 1) (0 : Int32)).2.2 = yy_300 := congrArg (fun z => z.2.2) hX_45
          have hp_47 : ((0 : Int32).toInt = 0 ∨ (0 : Int32).toInt = 1) := by
            have z_1 := Int32.lt_iff_toInt_lt.mp (Int32.not_le.mp c_9)
            have z_2 : ¬ (x_33 : Int32).toInt = (x_37 : Int32).toInt := fun z => c_38 (Int32.toInt_inj.mp z)
            have y_0 : (0 : Int32).toInt = 0 := by decide
            have y_3 : (3 : Int32).toInt = 3 := by decide
            have t_x_8 : x_8.toInt = (3 : Int32).toInt * (x_7 : Int32).toInt := by rw [ex_8]; exact mul_toInt (by first | omega | (rw [y_3]; omega)) (by first | omega | (rw [y_3]; omega))
            rw [y_3] at t_x_8
            have yr : (0 : Int32).toInt = 0 := by decide
            omega
          have hF_48 : (0 : Int32) = (dX12_areNotesSo (Mf 10) (Mf 16) x1) := by
            clear hP hD hS hl ih_2
            replace ex_7 := ex_7.symm; subst ex_7
            replace ex_8 := ex_8.symm; subst ex_8
            replace ex_14 := ex_14.symm; subst ex_14
            replace ex_16 := ex_16.symm; subst ex_16
            replace er_22 := er_22.symm; subst er_22
            replace ex_27 := ex_27.symm; subst ex_27
            replace ex_28 := ex_28.symm; subst ex_28
            replace ex_29 := ex_29.symm; subst ex_29
            replace ex_31 := ex_31.symm; subst ex_31
            replace ex_32 := ex_32.symm; subst ex_32
            replace ex_33 := ex_33.symm; subst ex_33
            replace ex_34 := ex_34.symm; subst ex_34
            replace ex_35 := ex_35.symm; subst ex_35
            replace ex_37 := ex_37.symm; subst ex_37
            unfold dX12_areNotesSo
            try rw [hX_45_0]
            try rw [hX_45_1]
            try rw [hX_45_2]
            rw [if_pos (show (1 : Int32) = (1 : Int32) from rfl)]
            try rfl
          exact retI (v := 0) hx hb hr hlk (rfl) hP hD hS () ⟨_, rfl, ⟨hp_47, hF_48⟩⟩ [0, 1, 2] rfl rfl dX12_areNotesSo_62 (Nat.le_of_ble_eq_true rfl) (Nat.le_of_ble_eq_true rfl) rfl
  have ha_49 : 0 ≤ (0 : Int32).toInt ∧ (0 : Int32).toInt % 3 = 0 := by
    have y_0 : (0 : Int32).toInt = 0 := by decide
    omega
  exact loop_3 _ 0 _ _ _ (Nat.lt_succ_self _) rfl ha_49 hP hD hS hl
set_option maxRecDepth 100000 in
theorem cu_dX12_areNotesSo {T : Nat → Option Int32} (l : Launch) (D : va_G) (tc : Nat → ClassId) (sk : (Nat → Nat) × (Nat → Nat)) (Ma_0 : Nat) (Ma_1 : Nat) (Ma_2 : Nat) (Ma_3 : Nat) (Ma_4 : Nat) (Ma_5 : Nat) (Ma_6 : Nat) (Ma_7 : Nat) (Ma_8 : Nat) (Ma_9 : Nat) (Ma_10 : Nat) (Ma_11 : Nat) (Ma_12 : Nat) (Ma_13 : Nat) (Ma_14 : Nat) (Ma_15 : Nat) (Ma_16 : Nat) (Ma_17 : Nat) (Ma_18 : Nat) (Ma_19 : Nat) (Ma_20 : Nat) (Mv_0 : Int32) (Mv_1 : Int32) (Mv_2 : Int32) (Mv_3 : Int32) (Mv_4 : Int32) (Mv_5 : Int32) (Mv_6 : Int32) (Mv_7 : Int32) (Mv_8 : Int32) (Mv_9 : Int32) (Mv_10 : Int32) (Mv_11 : Int32) (Mv_12 : Int32) (Mv_13 : Int32) (Mv_14 : Int32) (Mf_10 : Nat → Int32) (Mf_16 : Nat → Int32) (Mj_0 : Int64) (x1 : Int32) (h_said : SaidB T Mf_10) (h_r : 0 ≤ x1.toInt ∧ x1.toInt ≤ 6) : Ct l yX12_areNotesSo cX12_areNotesSo 3 (some .boolean) { frames := 1, cells := 0, slots := 0, locals := 21 } D tc sk [.ref Ma_0, .int x1] [(Ma_0, .inr (12, [.ref Ma_1, .int Mv_0, .int Mv_1, .ref Ma_2, .ref Ma_3, .ref Ma_4, .ref Ma_5, .ref Ma_6, .int Mv_2, .int Mv_3, .int Mv_4, .int Mv_5, .int Mv_6, .int Mv_7, .int Mv_8, .ref Ma_7, .int Mv_9, .ref Ma_8, .int Mv_10, .ref Ma_9, .ref Ma_10, .int Mv_11, .int Mv_12, .int Mv_13, .ref Ma_11, .int Mv_14, .ref Ma_12, .ref Ma_13, .ref Ma_14, .ref Ma_15, .ref Ma_16, .long Mj_0, .ref Ma_17, .ref Ma_18, .ref Ma_19, .ref Ma_20])), (Ma_10, .inl (tc 0, 126, .inl Mf_10)), (Ma_16, .inl (tc 0, 427, .inl Mf_16))] (fun (v : Option Value) (_ : Unit) => ∃ r : Int32, v = some (.int r) ∧ (((r.toInt = 0 ∨ r.toInt = 1)) ∧ r = (dX12_areNotesSo Mf_10 Mf_16 x1))) (fun (_ : Unit) => [(Ma_0, .inr (12, [.ref Ma_1, .int Mv_0, .int Mv_1, .ref Ma_2, .ref Ma_3, .ref Ma_4, .ref Ma_5, .ref Ma_6, .int Mv_2, .int Mv_3, .int Mv_4, .int Mv_5, .int Mv_6, .int Mv_7, .int Mv_8, .ref Ma_7, .int Mv_9, .ref Ma_8, .int Mv_10, .ref Ma_9, .ref Ma_10, .int Mv_11, .int Mv_12, .int Mv_13, .ref Ma_11, .int Mv_14, .ref Ma_12, .ref Ma_13, .ref Ma_14, .ref Ma_15, .ref Ma_16, .long Mj_0, .ref Ma_17, .ref Ma_18, .ref Ma_19, .ref Ma_20])), (Ma_10, .inl (tc 0, 126, .inl Mf_10)), (Ma_16, .inl (tc 0, 427, .inl Mf_16))]) 0 0 :=
  ct_dX12_areNotesSo l D tc sk (fun k => ([Ma_0, Ma_1, Ma_2, Ma_3, Ma_4, Ma_5, Ma_6, Ma_7, Ma_8, Ma_9, Ma_10, Ma_11, Ma_12, Ma_13, Ma_14, Ma_15, Ma_16, Ma_17, Ma_18, Ma_19, Ma_20] : List (Nat)).getD k 0) (fun k => ([Mv_0, Mv_1, Mv_2, Mv_3, Mv_4, Mv_5, Mv_6, Mv_7, Mv_8, Mv_9, Mv_10, Mv_11, Mv_12, Mv_13, Mv_14] : List (Int32)).getD k 0) (fun k => ([(fun _ => 0), (fun _ => 0), (fun _ => 0), (fun _ => 0), (fun _ => 0), (fun _ => 0), (fun _ => 0), (fun _ => 0), (fun _ => 0), (fun _ => 0), Mf_10, (fun _ => 0), (fun _ => 0), (fun _ => 0), (fun _ => 0), (fun _ => 0), Mf_16] : List (Nat → Int32)).getD k (fun _ => 0)) (fun k => ([Mj_0] : List (Int64)).getD k 0) x1 h_said h_r
def dX12_fillsFits_l32 (Mf_2 : Nat → Int32) (Mf_4 : Nat → Int32) (Mf_5 : Nat → Int32) (Mv_13 : Int32) (yy_1200 : Int32) (zz_3302 : Int32) : Nat → Int32 → (Nat → Int64) → (Nat → Int64) → (Nat → Int32) → Int32 → (Nat → Int32) → Int32 × (Nat → Int64) × (Nat → Int64) × (Nat → Int32) × Int32 × (Nat → Int32)
  | 0, _, _, _, _, _, _ => (0, (fun _ => 0), (fun _ => 0), (fun _ => 0), 0, (fun _ => 0))
  | n + 1, yy_3300, yy_3301, yy_3302, yy_3303, yy_3304, yy_3305 => (if (60 : Int32) < yy_3300 then (yy_3300, yy_3301, yy_3302, yy_3303, yy_3304, yy_3305) else dX12_fillsFits_l32 Mf_2 Mf_4 Mf_5 Mv_13 yy_1200 zz_3302 n (yy_3300 + 1) ((dX12_passes Mf_2 Mf_4 Mf_5 yy_3305 yy_3301 yy_3302 yy_3304 (yy_1200 - (1 : Int32)) Mv_13).2.2.1) ((dX12_passes Mf_2 Mf_4 Mf_5 yy_3305 yy_3301 yy_3302 yy_3304 (yy_1200 - (1 : Int32)) Mv_13).2.2.2.1) (upd yy_3303 ((dX12_spot zz_3302 yy_3300)).toNatClampNeg (dX12_passes Mf_2 Mf_4 Mf_5 yy_3305 yy_3301 yy_3302 yy_3304 (yy_1200 - (1 : Int32)) Mv_13).1) ((dX12_passes Mf_2 Mf_4 Mf_5 yy_3305 yy_3301 yy_3302 yy_3304 (yy_1200 - (1 : Int32)) Mv_13).2.1) ((dX12_passes Mf_2 Mf_4 Mf_5 yy_3305 yy_3301 yy_3302 yy_3304 (yy_1200 - (1 : Int32)) Mv_13).2.2.2.2))
theorem dX12_fillsFits_l32_s {Mf_2 : Nat → Int32} {Mf_4 : Nat → Int32} {Mf_5 : Nat → Int32} {Mv_13 : Int32} {yy_1200 : Int32} {zz_3302 : Int32} {n : Nat} {yy_3300 : Int32} {yy_3301 : Nat → Int64} {yy_3302 : Nat → Int64} {yy_3303 : Nat → Int32} {yy_3304 : Int32} {yy_3305 : Nat → Int32} : dX12_fillsFits_l32 Mf_2 Mf_4 Mf_5 Mv_13 yy_1200 zz_3302 (n + 1) yy_3300 yy_3301 yy_3302 yy_3303 yy_3304 yy_3305 = (if (60 : Int32) < yy_3300 then (yy_3300, yy_3301, yy_3302, yy_3303, yy_3304, yy_3305) else dX12_fillsFits_l32 Mf_2 Mf_4 Mf_5 Mv_13 yy_1200 zz_3302 n (yy_3300 + 1) ((dX12_passes Mf_2 Mf_4 Mf_5 yy_3305 yy_3301 yy_3302 yy_3304 (yy_1200 - (1 : Int32)) Mv_13).2.2.1) ((dX12_passes Mf_2 Mf_4 Mf_5 yy_3305 yy_3301 yy_3302 yy_3304 (yy_1200 - (1 : Int32)) Mv_13).2.2.2.1) (upd yy_3303 ((dX12_spot zz_3302 yy_3300)).toNatClampNeg (dX12_passes Mf_2 Mf_4 Mf_5 yy_3305 yy_3301 yy_3302 yy_3304 (yy_1200 - (1 : Int32)) Mv_13).1) ((dX12_passes Mf_2 Mf_4 Mf_5 yy_3305 yy_3301 yy_3302 yy_3304 (yy_1200 - (1 : Int32)) Mv_13).2.1) ((dX12_passes Mf_2 Mf_4 Mf_5 yy_3305 yy_3301 yy_3302 yy_3304 (yy_1200 - (1 : Int32)) Mv_13).2.2.2.2)) := rfl
def dX12_fillsFits_l11 (Mf_2 : Nat → Int32) (Mf_4 : Nat → Int32) (Mf_5 : Nat → Int32) (Mv_1 : Int32) (Mv_13 : Int32) : Nat → Int32 → (Nat → Int64) → (Nat → Int64) → (Nat → Int32) → (Nat → Int32) → Int32 → Int32 → (Nat → Int32) → Int32 × (Nat → Int64) × (Nat → Int64) × (Nat → Int32) × (Nat → Int32) × Int32 × Int32 × (Nat → Int32)
  | 0, _, _, _, _, _, _, _, _ => (0, (fun _ => 0), (fun _ => 0), (fun _ => 0), (fun _ => 0), 0, 0, (fun _ => 0))
  | n + 1, yy_1200, yy_1201, yy_1202, yy_1203, yy_1204, yy_1205, yy_1206, yy_1207 => (if Mv_1 < yy_1200 then (yy_1200, yy_1201, yy_1202, yy_1203, yy_1204, yy_1205, yy_1206, yy_1207) else dX12_fillsFits_l11 Mf_2 Mf_4 Mf_5 Mv_1 Mv_13 n (yy_1200 + 1) ((dX12_fillsFits_l32 Mf_2 Mf_4 Mf_5 Mv_13 yy_1200 yy_1200 ((61 - (0 : Int32).toInt).toNat + 1) (0 : Int32) yy_1201 yy_1202 yy_1204 yy_1205 (dX12_begins yy_1207)).2.1) ((dX12_fillsFits_l32 Mf_2 Mf_4 Mf_5 Mv_13 yy_1200 yy_1200 ((61 - (0 : Int32).toInt).toNat + 1) (0 : Int32) yy_1201 yy_1202 yy_1204 yy_1205 (dX12_begins yy_1207)).2.2.1) (upd yy_1203 (yy_1200).toNatClampNeg (vp_nar .boolean (dX12_areNotesSo ((dX12_fillsFits_l32 Mf_2 Mf_4 Mf_5 Mv_13 yy_1200 yy_1200 ((61 - (0 : Int32).toInt).toNat + 1) (0 : Int32) yy_1201 yy_1202 yy_1204 yy_1205 (dX12_begins yy_1207)).2.2.2.2.2) ((dX12_fillsFits_l32 Mf_2 Mf_4 Mf_5 Mv_13 yy_1200 yy_1200 ((61 - (0 : Int32).toInt).toNat + 1) (0 : Int32) yy_1201 yy_1202 yy_1204 yy_1205 (dX12_begins yy_1207)).2.2.2.1) yy_1200))) ((dX12_fillsFits_l32 Mf_2 Mf_4 Mf_5 Mv_13 yy_1200 yy_1200 ((61 - (0 : Int32).toInt).toNat + 1) (0 : Int32) yy_1201 yy_1202 yy_1204 yy_1205 (dX12_begins yy_1207)).2.2.2.1) ((dX12_fillsFits_l32 Mf_2 Mf_4 Mf_5 Mv_13 yy_1200 yy_1200 ((61 - (0 : Int32).toInt).toNat + 1) (0 : Int32) yy_1201 yy_1202 yy_1204 yy_1205 (dX12_begins yy_1207)).2.2.2.2.1) (yy_1200 - (1 : Int32)) ((dX12_fillsFits_l32 Mf_2 Mf_4 Mf_5 Mv_13 yy_1200 yy_1200 ((61 - (0 : Int32).toInt).toNat + 1) (0 : Int32) yy_1201 yy_1202 yy_1204 yy_1205 (dX12_begins yy_1207)).2.2.2.2.2))
theorem dX12_fillsFits_l11_s {Mf_2 : Nat → Int32} {Mf_4 : Nat → Int32} {Mf_5 : Nat → Int32} {Mv_1 : Int32} {Mv_13 : Int32} {n : Nat} {yy_1200 : Int32} {yy_1201 : Nat → Int64} {yy_1202 : Nat → Int64} {yy_1203 : Nat → Int32} {yy_1204 : Nat → Int32} {yy_1205 : Int32} {yy_1206 : Int32} {yy_1207 : Nat → Int32} : dX12_fillsFits_l11 Mf_2 Mf_4 Mf_5 Mv_1 Mv_13 (n + 1) yy_1200 yy_1201 yy_1202 yy_1203 yy_1204 yy_1205 yy_1206 yy_1207 = (if Mv_1 < yy_1200 then (yy_1200, yy_1201, yy_1202, yy_1203, yy_1204, yy_1205, yy_1206, yy_1207) else dX12_fillsFits_l11 Mf_2 Mf_4 Mf_5 Mv_1 Mv_13 n (yy_1200 + 1) ((dX12_fillsFits_l32 Mf_2 Mf_4 Mf_5 Mv_13 yy_1200 yy_1200 ((61 - (0 : Int32).toInt).toNat + 1) (0 : Int32) yy_1201 yy_1202 yy_1204 yy_1205 (dX12_begins yy_1207)).2.1) ((dX12_fillsFits_l32 Mf_2 Mf_4 Mf_5 Mv_13 yy_1200 yy_1200 ((61 - (0 : Int32).toInt).toNat + 1) (0 : Int32) yy_1201 yy_1202 yy_1204 yy_1205 (dX12_begins yy_1207)).2.2.1) (upd yy_1203 (yy_1200).toNatClampNeg (vp_nar .boolean (dX12_areNotesSo ((dX12_fillsFits_l32 Mf_2 Mf_4 Mf_5 Mv_13 yy_1200 yy_1200 ((61 - (0 : Int32).toInt).toNat + 1) (0 : Int32) yy_1201 yy_1202 yy_1204 yy_1205 (dX12_begins yy_1207)).2.2.2.2.2) ((dX12_fillsFits_l32 Mf_2 Mf_4 Mf_5 Mv_13 yy_1200 yy_1200 ((61 - (0 : Int32).toInt).toNat + 1) (0 : Int32) yy_1201 yy_1202 yy_1204 yy_1205 (dX12_begins yy_1207)).2.2.2.1) yy_1200))) ((dX12_fillsFits_l32 Mf_2 Mf_4 Mf_5 Mv_13 yy_1200 yy_1200 ((61 - (0 : Int32).toInt).toNat + 1) (0 : Int32) yy_1201 yy_1202 yy_1204 yy_1205 (dX12_begins yy_1207)).2.2.2.1) ((dX12_fillsFits_l32 Mf_2 Mf_4 Mf_5 Mv_13 yy_1200 yy_1200 ((61 - (0 : Int32).toInt).toNat + 1) (0 : Int32) yy_1201 yy_1202 yy_1204 yy_1205 (dX12_begins yy_1207)).2.2.2.2.1) (yy_1200 - (1 : Int32)) ((dX12_fillsFits_l32 Mf_2 Mf_4 Mf_5 Mv_13 yy_1200 yy_1200 ((61 - (0 : Int32).toInt).toNat + 1) (0 : Int32) yy_1201 yy_1202 yy_1204 yy_1205 (dX12_begins yy_1207)).2.2.2.2.2)) := rfl
def dX12_fillsFits (Mf_2 : Nat → Int32) (Mf_4 : Nat → Int32) (Mf_5 : Nat → Int32) (Mf_10 : Nat → Int32) (Mf_12 : Nat → Int32) (Mf_15 : Nat → Int32) (Mf_16 : Nat → Int32) (Mg_8 : Nat → Int64) (Mg_9 : Nat → Int64) (Mv_1 : Int32) (Mv_10 : Int32) (Mv_11 : Int32) (Mv_13 : Int32) : Int32 × (Nat → Int64) × (Nat → Int64) × (Nat → Int32) × (Nat → Int32) × (Nat → Int32) × (Nat → Int32) := ((dX12_fillsFits_l11 Mf_2 Mf_4 Mf_5 Mv_1 Mv_13 ((7 - (0 : Int32).toInt).toNat + 1) (0 : Int32) Mg_8 Mg_9 Mf_15 Mf_16 Mv_10 Mv_11 Mf_10).2.2.2.2.2.1, ((dX12_fillsFits_l11 Mf_2 Mf_4 Mf_5 Mv_1 Mv_13 ((7 - (0 : Int32).toInt).toNat + 1) (0 : Int32) Mg_8 Mg_9 Mf_15 Mf_16 Mv_10 Mv_11 Mf_10).2.1), ((dX12_fillsFits_l11 Mf_2 Mf_4 Mf_5 Mv_1 Mv_13 ((7 - (0 : Int32).toInt).toNat + 1) (0 : Int32) Mg_8 Mg_9 Mf_15 Mf_16 Mv_10 Mv_11 Mf_10).2.2.1), (dX12_laysBack ((dX12_fillsFits_l11 Mf_2 Mf_4 Mf_5 Mv_1 Mv_13 ((7 - (0 : Int32).toInt).toNat + 1) (0 : Int32) Mg_8 Mg_9 Mf_15 Mf_16 Mv_10 Mv_11 Mf_10).2.2.2.2.2.2.2) (dX12_keeps Mf_10 Mf_12)), (dX12_keeps Mf_10 Mf_12), ((dX12_fillsFits_l11 Mf_2 Mf_4 Mf_5 Mv_1 Mv_13 ((7 - (0 : Int32).toInt).toNat + 1) (0 : Int32) Mg_8 Mg_9 Mf_15 Mf_16 Mv_10 Mv_11 Mf_10).2.2.2.1), ((dX12_fillsFits_l11 Mf_2 Mf_4 Mf_5 Mv_1 Mv_13 ((7 - (0 : Int32).toInt).toNat + 1) (0 : Int32) Mg_8 Mg_9 Mf_15 Mf_16 Mv_10 Mv_11 Mf_10).2.2.2.2.1))
set_option maxHeartbeats 4000000 in
set_option maxRecDepth 100000 in
theorem ct_dX12_fillsFits {T : Nat → Option Int32} (l : Launch) (D : va_G) (tc : Nat → ClassId) (sk : (Nat → Nat) × (Nat → Nat)) (Ma : Nat → Nat) (Mv : Nat → Int32) (Mf : Nat → Nat → Int32) (Mj : Nat → Int64) (Mg : Nat → Nat → Int64) (h_said : SaidD T (Mf 10) 999) (h_rul : RulD (Mf 2) (Mf 4) (Mf 5) (Mv 1)) (h_frc : -1 ≤ (Mv 11).toInt ∧ (Mv 11).toInt < (Mv 1).toInt ∧ (Mv 1).toInt ≤ 6) : Ct l yX12_fillsFits cX12_fillsFits 4 none { frames := 5, cells := 0, slots := 0, locals := 121 } D tc sk [.ref (Ma 0)] [((Ma 0), .inr (12, [.ref (Ma 1), .int (Mv 0), .int (Mv 1), .ref (Ma 2), .ref (Ma 3), .ref (Ma 4), .ref (Ma 5), .ref (Ma 6), .int (Mv 2), .int (Mv 3), .int (Mv 4), .int (Mv 5), .int (Mv 6), .int (Mv 7), .int (Mv 8), .ref (Ma 7), .int (Mv 9), .ref (Ma 8), .int (Mv 10), .ref (Ma 9), .ref (Ma 10), .int (Mv 11), .int (Mv 12), .int (Mv 13), .ref (Ma 11), .int (Mv 14), .ref (Ma 12), .ref (Ma 13), .ref (Ma 14), .ref (Ma 15), .ref (Ma 16), .long (Mj 0), .ref (Ma 17), .ref (Ma 18), .ref (Ma 19), .ref (Ma 20)])), ((Ma 2), .inl (tc 0, 2400, .inl (Mf 2))), ((Ma 4), .inl (tc 0, 288, .inl (Mf 4))), ((Ma 5), .inl (tc 0, 6, .inl (Mf 5))), ((Ma 8), .inl (tc 1, 64, .inr (.inl (Mg 8)))), ((Ma 9), .inl (tc 1, 13, .inr (.inl (Mg 9)))), ((Ma 10), .inl (tc 0, 126, .inl (Mf 10))), ((Ma 12), .inl (tc 0, 46, .inl (Mf 12))), ((Ma 15), .inl (tc 3, 7, .inl (Mf 15))), ((Ma 16), .inl (tc 0, 427, .inl (Mf 16)))] (fun (v : Option Value) (u : (Int32) × (Nat → Int64) × (Nat → Int64) × (Nat → Int32) × (Nat → Int32) × (Nat → Int32) × (Nat → Int32)) => match u with | (oo0x1, oo0x2, oo0x3, oo0x4, oo0x5, oo0x6, oo0x7) => v = none ∧ (SaidD T oo0x4 999) ∧ (DEq ((oo0x1, oo0x2, oo0x3, oo0x4, oo0x5, oo0x6, oo0x7)) (dX12_fillsFits (Mf 2) (Mf 4) (Mf 5) (Mf 10) (Mf 12) (Mf 15) (Mf 16) (Mg 8) (Mg 9) (Mv 1) (Mv 10) (Mv 11) (Mv 13)))) (fun (u : (Int32) × (Nat → Int64) × (Nat → Int64) × (Nat → Int32) × (Nat → Int32) × (Nat → Int32) × (Nat → Int32)) => match u with | (oo0x1, oo0x2, oo0x3, oo0x4, oo0x5, oo0x6, oo0x7) => [((Ma 0), .inr (12, [.ref (Ma 1), .int (Mv 0), .int (Mv 1), .ref (Ma 2), .ref (Ma 3), .ref (Ma 4), .ref (Ma 5), .ref (Ma 6), .int (Mv 2), .int (Mv 3), .int (Mv 4), .int (Mv 5), .int (Mv 6), .int (Mv 7), .int (Mv 8), .ref (Ma 7), .int (Mv 9), .ref (Ma 8), .int oo0x1, .ref (Ma 9), .ref (Ma 10), .int (Mv 11), .int (Mv 12), .int (Mv 13), .ref (Ma 11), .int (Mv 14), .ref (Ma 12), .ref (Ma 13), .ref (Ma 14), .ref (Ma 15), .ref (Ma 16), .long (Mj 0), .ref (Ma 17), .ref (Ma 18), .ref (Ma 19), .ref (Ma 20)])), ((Ma 2), .inl (tc 0, 2400, .inl (Mf 2))), ((Ma 4), .inl (tc 0, 288, .inl (Mf 4))), ((Ma 5), .inl (tc 0, 6, .inl (Mf 5))), ((Ma 8), .inl (tc 1, 64, .inr (.inl oo0x2))), ((Ma 9), .inl (tc 1, 13, .inr (.inl oo0x3))), ((Ma 10), .inl (tc 0, 126, .inl oo0x4)), ((Ma 12), .inl (tc 0, 46, .inl oo0x5)), ((Ma 15), .inl (tc 3, 7, .inl oo0x6)), ((Ma 16), .inl (tc 0, 427, .inl oo0x7))]) 0 0 := by
  refine Ct.start (by decide) (Nat.le_of_ble_eq_true rfl) (fun p e s m below meth c A ls hx hb hr hlk hin hml hown hts hK hX hP hD hA hl hS => ?_)
  have hl : lv_has ls 4 [(0, .ref (Ma 0))] := hl
  have ar_h_said := SaidD.ar h_said
  refine lv_aload_n hx hb dX12_fillsFits_0 rfl (lv_at hl 0 rfl) ?_
  refine gf_X12_42 hx hb hts hown hK hP 0 rfl rfl dX12_fillsFits_1 ?_
  refine lv_istore_n (lv' := [(1, .int (Mv 11)), (0, .ref (Ma 0))]) hx hb dX12_fillsFits_4 rfl hl (by decide) rfl (fun ls hl₀ => ?_)
  replace hl := hl₀
  clear hl₀
  refine lv_aload_n hx hb dX12_fillsFits_5 rfl (lv_at hl 1 rfl) ?_
  refine cV (a := (Ma 0)) (As := []) (rest := []) (wr := [((Ma 2), .inl (tc 0, 2400, .inl (Mf 2))), ((Ma 4), .inl (tc 0, 288, .inl (Mf 4))), ((Ma 5), .inl (tc 0, 6, .inl (Mf 5))), ((Ma 8), .inl (tc 1, 64, .inr (.inl (Mg 8)))), ((Ma 9), .inl (tc 1, 13, .inr (.inl (Mg 9)))), ((Ma 15), .inl (tc 3, 7, .inl (Mf 15))), ((Ma 16), .inl (tc 0, 427, .inl (Mf 16)))]) ⟨hx, hb, hml, hown, hts⟩ hK hX hA (cu_dX12_keeps l D tc sk (Ma 0) (Ma 1) (Ma 2) (Ma 3) (Ma 4) (Ma 5) (Ma 6) (Ma 7) (Ma 8) (Ma 9) (Ma 10) (Ma 11) (Ma 12) (Ma 13) (Ma 14) (Ma 15) (Ma 16) (Ma 17) (Ma 18) (Ma 19) (Ma 20) (Mv 0) (Mv 1) (Mv 2) (Mv 3) (Mv 4) (Mv 5) (Mv 6) (Mv 7) (Mv 8) (Mv 9) (Mv 10) (Mv 11) (Mv 12) (Mv 13) (Mv 14) (Mf 10) (Mf 12) (Mj 0) h_said) k_1505 k_1502 k_1504 k_80 k_106 pl_X12_keeps ⟨Nat.le_of_ble_eq_true rfl, Nat.le_of_ble_eq_true rfl⟩ rfl rfl (va_recv hK hP (ci := 12) (q0 := 0) rfl rfl) hP hD hS [0, 6, 7] [1, 2, 3, 4, 5, 8, 9] rfl rfl rfl rfl rfl (by decide) rfl hl.1 rfl (Nat.le_of_ble_eq_true rfl) dX12_fillsFits_6 ⟨Nat.le_of_ble_eq_true rfl, Nat.le_of_ble_eq_true rfl⟩ (fun v_1 u_2 H locs hv_3 hP₀ hD₀ hS₀ => ?_)
  obtain ⟨sv_4, rfl⟩ : ∃ z, z = u_2 := ⟨_, rfl⟩
  obtain ⟨rfl, pf_5, pf_6⟩ := hv_3
  have pf_5 : KeptD sv_4 := pf_5
  have pf_6 : DEq (sv_4) (dX12_keeps (Mf 10) (Mf 12)) := pf_6
  refine W.eq (g2 := F0 m 9 ls []) rfl ?_
  replace hP : va_P D classes [((Ma 2), .inl (tc 0, 2400, .inl (Mf 2))), ((Ma 4), .inl (tc 0, 288, .inl (Mf 4))), ((Ma 5), .inl (tc 0, 6, .inl (Mf 5))), ((Ma 8), .inl (tc 1, 64, .inr (.inl (Mg 8)))), ((Ma 9), .inl (tc 1, 13, .inr (.inl (Mg 9)))), ((Ma 15), .inl (tc 3, 7, .inl (Mf 15))), ((Ma 16), .inl (tc 0, 427, .inl (Mf 16))), ((Ma 0), .inr (12, [.ref (Ma 1), .int (Mv 0), .int (Mv 1), .ref (Ma 2), .ref (Ma 3), .ref (Ma 4), .ref (Ma 5), .ref (Ma 6), .int (Mv 2), .int (Mv 3), .int (Mv 4), .int (Mv 5), .int (Mv 6), .int (Mv 7), .int (Mv 8), .ref (Ma 7), .int (Mv 9), .ref (Ma 8), .int (Mv 10), .ref (Ma 9), .ref (Ma 10), .int (Mv 11), .int (Mv 12), .int (Mv 13), .ref (Ma 11), .int (Mv 14), .ref (Ma 12), .ref (Ma 13), .ref (Ma 14), .ref (Ma 15), .ref (Ma 16), .long (Mj 0), .ref (Ma 17), .ref (Ma 18), .ref (Ma 19), .ref (Ma 20)])), ((Ma 10), .inl (tc 0, 126, .inl (Mf 10))), ((Ma 12), .inl (tc 0, 46, .inl sv_4))] H := hP₀
  replace hD : va_D A [((Ma 2), .inl (tc 0, 2400, .inl (Mf 2))), ((Ma 4), .inl (tc 0, 288, .inl (Mf 4))), ((Ma 5), .inl (tc 0, 6, .inl (Mf 5))), ((Ma 8), .inl (tc 1, 64, .inr (.inl (Mg 8)))), ((Ma 9), .inl (tc 1, 13, .inr (.inl (Mg 9)))), ((Ma 15), .inl (tc 3, 7, .inl (Mf 15))), ((Ma 16), .inl (tc 0, 427, .inl (Mf 16))), ((Ma 0), .inr (12, [.ref (Ma 1), .int (Mv 0), .int (Mv 1), .ref (Ma 2), .ref (Ma 3), .ref (Ma 4), .ref (Ma 5), .ref (Ma 6), .int (Mv 2), .int (Mv 3), .int (Mv 4), .int (Mv 5), .int (Mv 6), .int (Mv 7), .int (Mv 8), .ref (Ma 7), .int (Mv 9), .ref (Ma 8), .int (Mv 10), .ref (Ma 9), .ref (Ma 10), .int (Mv 11), .int (Mv 12), .int (Mv 13), .ref (Ma 11), .int (Mv 14), .ref (Ma 12), .ref (Ma 13), .ref (Ma 14), .ref (Ma 15), .ref (Ma 16), .long (Mj 0), .ref (Ma 17), .ref (Ma 18), .ref (Ma 19), .ref (Ma 20)])), ((Ma 10), .inl (tc 0, 126, .inl (Mf 10))), ((Ma 12), .inl (tc 0, 46, .inl sv_4))] := hD₀
  replace hS := hS₀
  clear hP₀ hD₀ hS₀
  have esv_4 : sv_4 = (dX12_keeps (Mf 10) (Mf 12)) := pf_6
  refine lv_iconst (v := 0) hx hb dX12_fillsFits_9 (by decide) ?_
  refine lv_istore_n (lv' := [(2, .int 0), (1, .int (Mv 11)), (0, .ref (Ma 0))]) hx hb dX12_fillsFits_10 rfl hl (by decide) rfl (fun ls hl₀ => ?_)
  replace hl := hl₀
  clear hl₀
  have loop_9 : ∀ (n_7 : Nat) (yy_1200 : Int32) (yy_1201 : Nat → Int64) (yy_1202 : Nat → Int64) (yy_1203 : Nat → Int32) (yy_1204 : Nat → Int32) (yy_1205 : Int32) (yy_1206 : Int32) (yy_1207 : Nat → Int32) (H : Heap) (locs : List Loc) (ls : Array Slot), (7 - (yy_1200 : Int32).toInt).toNat < n_7 → (dX12_fillsFits_l11 (Mf 2) (Mf 4) (Mf 5) (Mv 1) (Mv 13) ((7 - (0 : Int32).toInt).toNat + 1) (0 : Int32) (Mg 8) (Mg 9) (Mf 15) (Mf 16) (Mv 10) (Mv 11) (Mf 10)) = dX12_fillsFits_l11 (Mf 2) (Mf 4) (Mf 5) (Mv 1) (Mv 13) ((7 - (yy_1200 : Int32).toInt).toNat + 1) yy_1200 yy_1201 yy_1202 yy_1203 yy_1204 yy_1205 yy_1206 yy_1207 → (0 ≤ (yy_1200 : Int32).toInt) → (SaidB T yy_1207) → va_P D classes [((Ma 2), .inl (tc 0, 2400, .inl (Mf 2))), ((Ma 4), .inl (tc 0, 288, .inl (Mf 4))), ((Ma 5), .inl (tc 0, 6, .inl (Mf 5))), ((Ma 8), .inl (tc 1, 64, .inr (.inl yy_1201))), ((Ma 9), .inl (tc 1, 13, .inr (.inl yy_1202))), ((Ma 15), .inl (tc 3, 7, .inl yy_1203)), ((Ma 16), .inl (tc 0, 427, .inl yy_1204)), ((Ma 0), .inr (12, [.ref (Ma 1), .int (Mv 0), .int (Mv 1), .ref (Ma 2), .ref (Ma 3), .ref (Ma 4), .ref (Ma 5), .ref (Ma 6), .int (Mv 2), .int (Mv 3), .int (Mv 4), .int (Mv 5), .int (Mv 6), .int (Mv 7), .int (Mv 8), .ref (Ma 7), .int (Mv 9), .ref (Ma 8), .int yy_1205, .ref (Ma 9), .ref (Ma 10), .int yy_1206, .int (Mv 12), .int (Mv 13), .ref (Ma 11), .int (Mv 14), .ref (Ma 12), .ref (Ma 13), .ref (Ma 14), .ref (Ma 15), .ref (Ma 16), .long (Mj 0), .ref (Ma 17), .ref (Ma 18), .ref (Ma 19), .ref (Ma 20)])), ((Ma 10), .inl (tc 0, 126, .inl yy_1207)), ((Ma 12), .inl (tc 0, 46, .inl sv_4))] H → va_D A [((Ma 2), .inl (tc 0, 2400, .inl (Mf 2))), ((Ma 4), .inl (tc 0, 288, .inl (Mf 4))), ((Ma 5), .inl (tc 0, 6, .inl (Mf 5))), ((Ma 8), .inl (tc 1, 64, .inr (.inl yy_1201))), ((Ma 9), .inl (tc 1, 13, .inr (.inl yy_1202))), ((Ma 15), .inl (tc 3, 7, .inl yy_1203)), ((Ma 16), .inl (tc 0, 427, .inl yy_1204)), ((Ma 0), .inr (12, [.ref (Ma 1), .int (Mv 0), .int (Mv 1), .ref (Ma 2), .ref (Ma 3), .ref (Ma 4), .ref (Ma 5), .ref (Ma 6), .int (Mv 2), .int (Mv 3), .int (Mv 4), .int (Mv 5), .int (Mv 6), .int (Mv 7), .int (Mv 8), .ref (Ma 7), .int (Mv 9), .ref (Ma 8), .int yy_1205, .ref (Ma 9), .ref (Ma 10), .int yy_1206, .int (Mv 12), .int (Mv 13), .ref (Ma 11), .int (Mv 14), .ref (Ma 12), .ref (Ma 13), .ref (Ma 14), .ref (Ma 15), .ref (Ma 16), .long (Mj 0), .ref (Ma 17), .ref (Ma 18), .ref (Ma 19), .ref (Ma 20)])), ((Ma 10), .inl (tc 0, 126, .inl yy_1207)), ((Ma 12), .inl (tc 0, 46, .inl sv_4))] → va_S A s.heap H locs → lv_has ls 4 [(2, .int yy_1200), (1, .int (Mv 11)), (0, .ref (Ma 0))] → W p l e ({ frames := 5, cells := 0, slots := 0, locals := 121 }) s m ([.ref (Ma 0)].toArray) below meth c H locs 0 0 (MQ below (QW (fun (v : Option Value) (u : (Int32) × (Nat → Int64) × (Nat → Int64) × (Nat → Int32) × (Nat → Int32) × (Nat → Int32) × (Nat → Int32)) => match u with | (oo0x1, oo0x2, oo0x3, oo0x4, oo0x5, oo0x6, oo0x7) => v = none ∧ (SaidD T oo0x4 999) ∧ (DEq ((oo0x1, oo0x2, oo0x3, oo0x4, oo0x5, oo0x6, oo0x7)) (dX12_fillsFits (Mf 2) (Mf 4) (Mf 5) (Mf 10) (Mf 12) (Mf 15) (Mf 16) (Mg 8) (Mg 9) (Mv 1) (Mv 10) (Mv 11) (Mv 13)))) (BW D (fun (u : (Int32) × (Nat → Int64) × (Nat → Int64) × (Nat → Int32) × (Nat → Int32) × (Nat → Int32) × (Nat → Int32)) => match u with | (oo0x1, oo0x2, oo0x3, oo0x4, oo0x5, oo0x6, oo0x7) => [((Ma 0), .inr (12, [.ref (Ma 1), .int (Mv 0), .int (Mv 1), .ref (Ma 2), .ref (Ma 3), .ref (Ma 4), .ref (Ma 5), .ref (Ma 6), .int (Mv 2), .int (Mv 3), .int (Mv 4), .int (Mv 5), .int (Mv 6), .int (Mv 7), .int (Mv 8), .ref (Ma 7), .int (Mv 9), .ref (Ma 8), .int oo0x1, .ref (Ma 9), .ref (Ma 10), .int (Mv 11), .int (Mv 12), .int (Mv 13), .ref (Ma 11), .int (Mv 14), .ref (Ma 12), .ref (Ma 13), .ref (Ma 14), .ref (Ma 15), .ref (Ma 16), .long (Mj 0), .ref (Ma 17), .ref (Ma 18), .ref (Ma 19), .ref (Ma 20)])), ((Ma 2), .inl (tc 0, 2400, .inl (Mf 2))), ((Ma 4), .inl (tc 0, 288, .inl (Mf 4))), ((Ma 5), .inl (tc 0, 6, .inl (Mf 5))), ((Ma 8), .inl (tc 1, 64, .inr (.inl oo0x2))), ((Ma 9), .inl (tc 1, 13, .inr (.inl oo0x3))), ((Ma 10), .inl (tc 0, 126, .inl oo0x4)), ((Ma 12), .inl (tc 0, 46, .inl oo0x5)), ((Ma 15), .inl (tc 3, 7, .inl oo0x6)), ((Ma 16), .inl (tc 0, 427, .inl oo0x7))]) A) A) ([.ref (Ma 0)].toArray) s 0 0 A) (F0 m 11 ls []) := by
    clear hP hD hS hl
    intro n_7
    induction n_7 with
    | zero =>
      intro yy_1200 yy_1201 yy_1202 yy_1203 yy_1204 yy_1205 yy_1206 yy_1207 H locs ls h1
      exact absurd h1 (Nat.not_lt_zero _)
    | succ n_7 ih_8 =>
      intro yy_1200 yy_1201 yy_1202 yy_1203 yy_1204 yy_1205 yy_1206 yy_1207 H locs ls hn_13 hL_12 pf_10 pf_11 hP hD hS hl
      have ar_pf_11 := SaidB.ar pf_11
      refine lv_iload_n hx hb dX12_fillsFits_11 rfl (lv_at hl 0 rfl) ?_
      refine lv_aload_n hx hb dX12_fillsFits_12 rfl (lv_at hl 2 rfl) ?_
      refine gf_X12_256 hx hb hts hown hK hP 7 rfl rfl dX12_fillsFits_13 ?_
      refine lv_icmp_gt (tgt := 75) hx hb dX12_fillsFits_16 (by decide) (fun c_14 => ?_) (fun c_14 => ?_)
      · skip
        have hb_16 : dX12_fillsFits_l11 (Mf 2) (Mf 4) (Mf 5) (Mv 1) (Mv 13) ((7 - (yy_1200 : Int32).toInt).toNat + 1) yy_1200 yy_1201 yy_1202 yy_1203 yy_1204 yy_1205 yy_1206 yy_1207 = (yy_1200, yy_1201, yy_1202, yy_1203, yy_1204, yy_1205, yy_1206, yy_1207) := by
          clear hP hD hS hl ih_8
          replace esv_4 := esv_4.symm; subst esv_4
          rw [dX12_fillsFits_l11_s]
          rw [if_pos c_14]
          try rfl
        have hX_15 : (dX12_fillsFits_l11 (Mf 2) (Mf 4) (Mf 5) (Mv 1) (Mv 13) ((7 - (0 : Int32).toInt).toNat + 1) (0 : Int32) (Mg 8) (Mg 9) (Mf 15) (Mf 16) (Mv 10) (Mv 11) (Mf 10)) = (yy_1200, yy_1201, yy_1202, yy_1203, yy_1204, yy_1205, yy_1206, yy_1207) := hL_12.trans hb_16
        have hX_15_0 : (dX12_fillsFits_l11 (Mf 2) (Mf 4) (Mf 5) (Mv 1) (Mv 13) ((7 - (0 : Int32).toInt).toNat + 1) (0 : Int32) (Mg 8) (Mg 9) (Mf 15) (Mf 16) (Mv 10) (Mv 11) (Mf 10)).1 = yy_1200 := congrArg (fun z => z.1) hX_15
        have hX_15_1 : (dX12_fillsFits_l11 (Mf 2) (Mf 4) (Mf 5) (Mv 1) (Mv 13) ((7 - (0 : Int32).toInt).toNat + 1) (0 : Int32) (Mg 8) (Mg 9) (Mf 15) (Mf 16) (Mv 10) (Mv 11) (Mf 10)).2.1 = yy_1201 := congrArg (fun z => z.2.1) hX_15
        have hX_15_2 : (dX12_fillsFits_l11 (Mf 2) (Mf 4) (Mf 5) (Mv 1) (Mv 13) ((7 - (0 : Int32).toInt).toNat + 1) (0 : Int32) (Mg 8) (Mg 9) (Mf 15) (Mf 16) (Mv 10) (Mv 11) (Mf 10)).2.2.1 = yy_1202 := congrArg (fun z => z.2.2.1) hX_15
        have hX_15_3 : (dX12_fillsFits_l11 (Mf 2) (Mf 4) (Mf 5) (Mv 1) (Mv 13) ((7 - (0 : Int32).toInt).toNat + 1) (0 : Int32) (Mg 8) (Mg 9) (Mf 15) (Mf 16) (Mv 10) (Mv 11) (Mf 10)).2.2.2.1 = yy_1203 := congrArg (fun z => z.2.2.2.1) hX_15
        have hX_15_4 : (dX12_fillsFits_l11 (Mf 2) (Mf 4) (Mf 5) (Mv 1) (Mv 13) ((7 - (0 : Int32).toInt).toNat + 1) (0 : Int32) (Mg 8) (Mg 9) (Mf 15) (Mf 16) (Mv 10) (Mv 11) (Mf 10)).2.2.2.2.1 = yy_1204 := congrArg (fun z => z.2.2.2.2.1) hX_15
        have hX_15_5 : (dX12_fillsFits_l11 (Mf 2) (Mf 4) (Mf 5) (Mv 1) (Mv 13) ((7 - (0 : Int32).toInt).toNat + 1) (0 : Int32) (Mg 8) (Mg 9) (Mf 15) (Mf 16) (Mv 10) (Mv 11) (Mf 10)).2.2.2.2.2.1 = yy_1205 := congrArg (fun z => z.2.2.2.2.2.1) hX_15
        have hX_15_6 : (dX12_fillsFits_l11 (Mf 2) (Mf 4) (Mf 5) (Mv 1) (Mv 13) ((7 - (0 : Int32).toInt).toNat + 1) (0 : Int32) (Mg 8) (Mg 9) (Mf 15) (Mf 16) (Mv 10) (Mv 11) (Mf 10)).2.2.2.2.2.2.1 = yy_1206 := congrArg (fun z => z.2.2.2.2.2.2.1) hX_15
        have hX_15_7 : (dX12_fillsFits_l11 (Mf 2) (Mf 4) (Mf 5) (Mv 1) (Mv 13) ((7 - (0 : Int32).toInt).toNat + 1) (0 : Int32) (Mg 8) (Mg 9) (Mf 15) (Mf 16) (Mv 10) (Mv 11) (Mf 10)).2.2.2.2.2.2.2 = yy_1207 := congrArg (fun z => z.2.2.2.2.2.2.2) hX_15
        refine lv_aload_n hx hb dX12_fillsFits_75 rfl (lv_at hl 2 rfl) ?_
        refine lv_iload_n hx hb dX12_fillsFits_76 rfl (lv_at hl 1 rfl) ?_
        refine pf_X12_42 hx hb hts hown hK hP hD hS 7 rfl (Nat.le_of_ble_eq_true rfl) rfl rfl dX12_fillsFits_77 (fun H locs hP₀ hD₀ hS₀ => ?_)
        replace hP : va_P D classes [((Ma 2), .inl (tc 0, 2400, .inl (Mf 2))), ((Ma 4), .inl (tc 0, 288, .inl (Mf 4))), ((Ma 5), .inl (tc 0, 6, .inl (Mf 5))), ((Ma 8), .inl (tc 1, 64, .inr (.inl yy_1201))), ((Ma 9), .inl (tc 1, 13, .inr (.inl yy_1202))), ((Ma 15), .inl (tc 3, 7, .inl yy_1203)), ((Ma 16), .inl (tc 0, 427, .inl yy_1204)), ((Ma 0), .inr (12, [.ref (Ma 1), .int (Mv 0), .int (Mv 1), .ref (Ma 2), .ref (Ma 3), .ref (Ma 4), .ref (Ma 5), .ref (Ma 6), .int (Mv 2), .int (Mv 3), .int (Mv 4), .int (Mv 5), .int (Mv 6), .int (Mv 7), .int (Mv 8), .ref (Ma 7), .int (Mv 9), .ref (Ma 8), .int yy_1205, .ref (Ma 9), .ref (Ma 10), .int (Mv 11), .int (Mv 12), .int (Mv 13), .ref (Ma 11), .int (Mv 14), .ref (Ma 12), .ref (Ma 13), .ref (Ma 14), .ref (Ma 15), .ref (Ma 16), .long (Mj 0), .ref (Ma 17), .ref (Ma 18), .ref (Ma 19), .ref (Ma 20)])), ((Ma 10), .inl (tc 0, 126, .inl yy_1207)), ((Ma 12), .inl (tc 0, 46, .inl sv_4))] H := hP₀
        replace hD : va_D A [((Ma 2), .inl (tc 0, 2400, .inl (Mf 2))), ((Ma 4), .inl (tc 0, 288, .inl (Mf 4))), ((Ma 5), .inl (tc 0, 6, .inl (Mf 5))), ((Ma 8), .inl (tc 1, 64, .inr (.inl yy_1201))), ((Ma 9), .inl (tc 1, 13, .inr (.inl yy_1202))), ((Ma 15), .inl (tc 3, 7, .inl yy_1203)), ((Ma 16), .inl (tc 0, 427, .inl yy_1204)), ((Ma 0), .inr (12, [.ref (Ma 1), .int (Mv 0), .int (Mv 1), .ref (Ma 2), .ref (Ma 3), .ref (Ma 4), .ref (Ma 5), .ref (Ma 6), .int (Mv 2), .int (Mv 3), .int (Mv 4), .int (Mv 5), .int (Mv 6), .int (Mv 7), .int (Mv 8), .ref (Ma 7), .int (Mv 9), .ref (Ma 8), .int yy_1205, .ref (Ma 9), .ref (Ma 10), .int (Mv 11), .int (Mv 12), .int (Mv 13), .ref (Ma 11), .int (Mv 14), .ref (Ma 12), .ref (Ma 13), .ref (Ma 14), .ref (Ma 15), .ref (Ma 16), .long (Mj 0), .ref (Ma 17), .ref (Ma 18), .ref (Ma 19), .ref (Ma 20)])), ((Ma 10), .inl (tc 0, 126, .inl yy_1207)), ((Ma 12), .inl (tc 0, 46, .inl sv_4))] := hD₀
        replace hS := hS₀
        clear hP₀ hD₀ hS₀
        refine lv_aload_n hx hb dX12_fillsFits_80 rfl (lv_at hl 2 rfl) ?_
        refine cV (a := (Ma 0)) (As := []) (rest := []) (wr := [((Ma 2), .inl (tc 0, 2400, .inl (Mf 2))), ((Ma 4), .inl (tc 0, 288, .inl (Mf 4))), ((Ma 5), .inl (tc 0, 6, .inl (Mf 5))), ((Ma 8), .inl (tc 1, 64, .inr (.inl yy_1201))), ((Ma 9), .inl (tc 1, 13, .inr (.inl yy_1202))), ((Ma 15), .inl (tc 3, 7, .inl yy_1203)), ((Ma 16), .inl (tc 0, 427, .inl yy_1204))]) ⟨hx, hb, hml, hown, hts⟩ hK hX hA (cu_dX12_laysBack l D tc sk (Ma 0) (Ma 1) (Ma 2) (Ma 3) (Ma 4) (Ma 5) (Ma 6) (Ma 7) (Ma 8) (Ma 9) (Ma 10) (Ma 11) (Ma 12) (Ma 13) (Ma 14) (Ma 15) (Ma 16) (Ma 17) (Ma 18) (Ma 19) (Ma 20) (Mv 0) (Mv 1) (Mv 2) (Mv 3) (Mv 4) (Mv 5) (Mv 6) (Mv 7) (Mv 8) (Mv 9) yy_1205 (Mv 11) (Mv 12) (Mv 13) (Mv 14) yy_1207 sv_4 (Mj 0) pf_11 pf_5) k_1513 k_1510 k_1512 k_82 k_106 pl_X12_laysBack ⟨Nat.le_of_ble_eq_true rfl, Nat.le_of_ble_eq_true rfl⟩ rfl rfl (va_recv hK hP (ci := 12) (q0 := 7) rfl rfl) hP hD hS [7, 8, 9] [0, 1, 2, 3, 4, 5, 6] rfl rfl rfl rfl rfl (by decide) rfl hl.1 rfl (Nat.le_of_ble_eq_true rfl) dX12_fillsFits_81 ⟨Nat.le_of_ble_eq_true rfl, Nat.le_of_ble_eq_true rfl⟩ (fun v_17 u_18 H locs hv_19 hP₀ hD₀ hS₀ => ?_)
        obtain ⟨sv_20, rfl⟩ : ∃ z, z = u_18 := ⟨_, rfl⟩
        obtain ⟨rfl, pf_21, pf_22⟩ := hv_19
        have pf_21 : SaidD T sv_20 999 := pf_21
        have ar_pf_21 := SaidD.ar pf_21
        have pf_22 : DEq (sv_20) (dX12_laysBack yy_1207 sv_4) := pf_22
        refine W.eq (g2 := F0 m 84 ls []) rfl ?_
        replace hP : va_P D classes [((Ma 2), .inl (tc 0, 2400, .inl (Mf 2))), ((Ma 4), .inl (tc 0, 288, .inl (Mf 4))), ((Ma 5), .inl (tc 0, 6, .inl (Mf 5))), ((Ma 8), .inl (tc 1, 64, .inr (.inl yy_1201))), ((Ma 9), .inl (tc 1, 13, .inr (.inl yy_1202))), ((Ma 15), .inl (tc 3, 7, .inl yy_1203)), ((Ma 16), .inl (tc 0, 427, .inl yy_1204)), ((Ma 0), .inr (12, [.ref (Ma 1), .int (Mv 0), .int (Mv 1), .ref (Ma 2), .ref (Ma 3), .ref (Ma 4), .ref (Ma 5), .ref (Ma 6), .int (Mv 2), .int (Mv 3), .int (Mv 4), .int (Mv 5), .int (Mv 6), .int (Mv 7), .int (Mv 8), .ref (Ma 7), .int (Mv 9), .ref (Ma 8), .int yy_1205, .ref (Ma 9), .ref (Ma 10), .int (Mv 11), .int (Mv 12), .int (Mv 13), .ref (Ma 11), .int (Mv 14), .ref (Ma 12), .ref (Ma 13), .ref (Ma 14), .ref (Ma 15), .ref (Ma 16), .long (Mj 0), .ref (Ma 17), .ref (Ma 18), .ref (Ma 19), .ref (Ma 20)])), ((Ma 10), .inl (tc 0, 126, .inl sv_20)), ((Ma 12), .inl (tc 0, 46, .inl sv_4))] H := hP₀
        replace hD : va_D A [((Ma 2), .inl (tc 0, 2400, .inl (Mf 2))), ((Ma 4), .inl (tc 0, 288, .inl (Mf 4))), ((Ma 5), .inl (tc 0, 6, .inl (Mf 5))), ((Ma 8), .inl (tc 1, 64, .inr (.inl yy_1201))), ((Ma 9), .inl (tc 1, 13, .inr (.inl yy_1202))), ((Ma 15), .inl (tc 3, 7, .inl yy_1203)), ((Ma 16), .inl (tc 0, 427, .inl yy_1204)), ((Ma 0), .inr (12, [.ref (Ma 1), .int (Mv 0), .int (Mv 1), .ref (Ma 2), .ref (Ma 3), .ref (Ma 4), .ref (Ma 5), .ref (Ma 6), .int (Mv 2), .int (Mv 3), .int (Mv 4), .int (Mv 5), .int (Mv 6), .int (Mv 7), .int (Mv 8), .ref (Ma 7), .int (Mv 9), .ref (Ma 8), .int yy_1205, .ref (Ma 9), .ref (Ma 10), .int (Mv 11), .int (Mv 12), .int (Mv 13), .ref (Ma 11), .int (Mv 14), .ref (Ma 12), .ref (Ma 13), .ref (Ma 14), .ref (Ma 15), .ref (Ma 16), .long (Mj 0), .ref (Ma 17), .ref (Ma 18), .ref (Ma 19), .ref (Ma 20)])), ((Ma 10), .inl (tc 0, 126, .inl sv_20)), ((Ma 12), .inl (tc 0, 46, .inl sv_4))] := hD₀
        replace hS := hS₀
        clear hP₀ hD₀ hS₀
        have esv_20 : sv_20 = (dX12_laysBack yy_1207 sv_4) := pf_22
        have hF_23 : (yy_1205, yy_1201, yy_1202, sv_20, sv_4, yy_1203, yy_1204) = (dX12_fillsFits (Mf 2) (Mf 4) (Mf 5) (Mf 10) (Mf 12) (Mf 15) (Mf 16) (Mg 8) (Mg 9) (Mv 1) (Mv 10) (Mv 11) (Mv 13)) := by
          clear hP hD hS hl ih_8
          replace esv_4 := esv_4.symm; subst esv_4
          replace esv_20 := esv_20.symm; subst esv_20
          unfold dX12_fillsFits
          try rw [hX_15_0]
          try rw [hX_15_1]
          try rw [hX_15_2]
          try rw [hX_15_3]
          try rw [hX_15_4]
          try rw [hX_15_5]
          try rw [hX_15_6]
          try rw [hX_15_7]
          try rfl
        exact retV hx hb hr hlk hP hD hS (yy_1205, yy_1201, yy_1202, sv_20, sv_4, yy_1203, yy_1204) ⟨rfl, pf_21, hF_23⟩ [7, 0, 1, 2, 3, 4, 8, 9, 5, 6] rfl rfl dX12_fillsFits_84 (Nat.le_of_ble_eq_true rfl) (Nat.le_of_ble_eq_true rfl) rfl
      · skip
        refine lv_aload_n hx hb dX12_fillsFits_19 rfl (lv_at hl 2 rfl) ?_
        refine lv_iload_n hx hb dX12_fillsFits_20 rfl (lv_at hl 0 rfl) ?_
        refine lv_iconst (v := 1) hx hb dX12_fillsFits_21 (by decide) ?_
        refine lv_isub hx hb dX12_fillsFits_22 ?_
        refine lv_topi (fun x_24 ex_24 => ?_)
        refine pf_X12_42 hx hb hts hown hK hP hD hS 7 rfl (Nat.le_of_ble_eq_true rfl) rfl rfl dX12_fillsFits_23 (fun H locs hP₀ hD₀ hS₀ => ?_)
        replace hP : va_P D classes [((Ma 2), .inl (tc 0, 2400, .inl (Mf 2))), ((Ma 4), .inl (tc 0, 288, .inl (Mf 4))), ((Ma 5), .inl (tc 0, 6, .inl (Mf 5))), ((Ma 8), .inl (tc 1, 64, .inr (.inl yy_1201))), ((Ma 9), .inl (tc 1, 13, .inr (.inl yy_1202))), ((Ma 15), .inl (tc 3, 7, .inl yy_1203)), ((Ma 16), .inl (tc 0, 427, .inl yy_1204)), ((Ma 0), .inr (12, [.ref (Ma 1), .int (Mv 0), .int (Mv 1), .ref (Ma 2), .ref (Ma 3), .ref (Ma 4), .ref (Ma 5), .ref (Ma 6), .int (Mv 2), .int (Mv 3), .int (Mv 4), .int (Mv 5), .int (Mv 6), .int (Mv 7), .int (Mv 8), .ref (Ma 7), .int (Mv 9), .ref (Ma 8), .int yy_1205, .ref (Ma 9), .ref (Ma 10), .int x_24, .int (Mv 12), .int (Mv 13), .ref (Ma 11), .int (Mv 14), .ref (Ma 12), .ref (Ma 13), .ref (Ma 14), .ref (Ma 15), .ref (Ma 16), .long (Mj 0), .ref (Ma 17), .ref (Ma 18), .ref (Ma 19), .ref (Ma 20)])), ((Ma 10), .inl (tc 0, 126, .inl yy_1207)), ((Ma 12), .inl (tc 0, 46, .inl sv_4))] H := hP₀
        replace hD : va_D A [((Ma 2), .inl (tc 0, 2400, .inl (Mf 2))), ((Ma 4), .inl (tc 0, 288, .inl (Mf 4))), ((Ma 5), .inl (tc 0, 6, .inl (Mf 5))), ((Ma 8), .inl (tc 1, 64, .inr (.inl yy_1201))), ((Ma 9), .inl (tc 1, 13, .inr (.inl yy_1202))), ((Ma 15), .inl (tc 3, 7, .inl yy_1203)), ((Ma 16), .inl (tc 0, 427, .inl yy_1204)), ((Ma 0), .inr (12, [.ref (Ma 1), .int (Mv 0), .int (Mv 1), .ref (Ma 2), .ref (Ma 3), .ref (Ma 4), .ref (Ma 5), .ref (Ma 6), .int (Mv 2), .int (Mv 3), .int (Mv 4), .int (Mv 5), .int (Mv 6), .int (Mv 7), .int (Mv 8), .ref (Ma 7), .int (Mv 9), .ref (Ma 8), .int yy_1205, .ref (Ma 9), .ref (Ma 10), .int x_24, .int (Mv 12), .int (Mv 13), .ref (Ma 11), .int (Mv 14), .ref (Ma 12), .ref (Ma 13), .ref (Ma 14), .ref (Ma 15), .ref (Ma 16), .long (Mj 0), .ref (Ma 17), .ref (Ma 18), .ref (Ma 19), .ref (Ma 20)])), ((Ma 10), .inl (tc 0, 126, .inl yy_1207)), ((Ma 12), .inl (tc 0, 46, .inl sv_4))] := hD₀
        replace hS := hS₀
        clear hP₀ hD₀ hS₀
        refine lv_aload_n hx hb dX12_fillsFits_26 rfl (lv_at hl 2 rfl) ?_
        refine cV (a := (Ma 0)) (As := []) (rest := []) (wr := [((Ma 2), .inl (tc 0, 2400, .inl (Mf 2))), ((Ma 4), .inl (tc 0, 288, .inl (Mf 4))), ((Ma 5), .inl (tc 0, 6, .inl (Mf 5))), ((Ma 8), .inl (tc 1, 64, .inr (.inl yy_1201))), ((Ma 9), .inl (tc 1, 13, .inr (.inl yy_1202))), ((Ma 15), .inl (tc 3, 7, .inl yy_1203)), ((Ma 16), .inl (tc 0, 427, .inl yy_1204)), ((Ma 12), .inl (tc 0, 46, .inl sv_4))]) ⟨hx, hb, hml, hown, hts⟩ hK hX hA (cu_dX12_begins l D tc sk (Ma 0) (Ma 1) (Ma 2) (Ma 3) (Ma 4) (Ma 5) (Ma 6) (Ma 7) (Ma 8) (Ma 9) (Ma 10) (Ma 11) (Ma 12) (Ma 13) (Ma 14) (Ma 15) (Ma 16) (Ma 17) (Ma 18) (Ma 19) (Ma 20) (Mv 0) (Mv 1) (Mv 2) (Mv 3) (Mv 4) (Mv 5) (Mv 6) (Mv 7) (Mv 8) (Mv 9) yy_1205 x_24 (Mv 12) (Mv 13) (Mv 14) yy_1207 (Mj 0) pf_11) k_1359 k_1356 k_1358 k_56 k_106 pl_X12_begins ⟨Nat.le_of_ble_eq_true rfl, Nat.le_of_ble_eq_true rfl⟩ rfl rfl (va_recv hK hP (ci := 12) (q0 := 7) rfl rfl) hP hD hS [7, 8] [0, 1, 2, 3, 4, 5, 6, 9] rfl rfl rfl rfl rfl (by decide) rfl hl.1 rfl (Nat.le_of_ble_eq_true rfl) dX12_fillsFits_27 ⟨Nat.le_of_ble_eq_true rfl, Nat.le_of_ble_eq_true rfl⟩ (fun v_25 u_26 H locs hv_27 hP₀ hD₀ hS₀ => ?_)
        obtain ⟨sv_28, rfl⟩ : ∃ z, z = u_26 := ⟨_, rfl⟩
        obtain ⟨rfl, pf_29, pf_30⟩ := hv_27
        have pf_29 : SaidD T sv_28 0 := pf_29
        have ar_pf_29 := SaidD.ar pf_29
        have pf_30 : DEq (sv_28) (dX12_begins yy_1207) := pf_30
        refine W.eq (g2 := F0 m 30 ls []) rfl ?_
        replace hP : va_P D classes [((Ma 2), .inl (tc 0, 2400, .inl (Mf 2))), ((Ma 4), .inl (tc 0, 288, .inl (Mf 4))), ((Ma 5), .inl (tc 0, 6, .inl (Mf 5))), ((Ma 8), .inl (tc 1, 64, .inr (.inl yy_1201))), ((Ma 9), .inl (tc 1, 13, .inr (.inl yy_1202))), ((Ma 15), .inl (tc 3, 7, .inl yy_1203)), ((Ma 16), .inl (tc 0, 427, .inl yy_1204)), ((Ma 12), .inl (tc 0, 46, .inl sv_4)), ((Ma 0), .inr (12, [.ref (Ma 1), .int (Mv 0), .int (Mv 1), .ref (Ma 2), .ref (Ma 3), .ref (Ma 4), .ref (Ma 5), .ref (Ma 6), .int (Mv 2), .int (Mv 3), .int (Mv 4), .int (Mv 5), .int (Mv 6), .int (Mv 7), .int (Mv 8), .ref (Ma 7), .int (Mv 9), .ref (Ma 8), .int yy_1205, .ref (Ma 9), .ref (Ma 10), .int x_24, .int (Mv 12), .int (Mv 13), .ref (Ma 11), .int (Mv 14), .ref (Ma 12), .ref (Ma 13), .ref (Ma 14), .ref (Ma 15), .ref (Ma 16), .long (Mj 0), .ref (Ma 17), .ref (Ma 18), .ref (Ma 19), .ref (Ma 20)])), ((Ma 10), .inl (tc 0, 126, .inl sv_28))] H := hP₀
        replace hD : va_D A [((Ma 2), .inl (tc 0, 2400, .inl (Mf 2))), ((Ma 4), .inl (tc 0, 288, .inl (Mf 4))), ((Ma 5), .inl (tc 0, 6, .inl (Mf 5))), ((Ma 8), .inl (tc 1, 64, .inr (.inl yy_1201))), ((Ma 9), .inl (tc 1, 13, .inr (.inl yy_1202))), ((Ma 15), .inl (tc 3, 7, .inl yy_1203)), ((Ma 16), .inl (tc 0, 427, .inl yy_1204)), ((Ma 12), .inl (tc 0, 46, .inl sv_4)), ((Ma 0), .inr (12, [.ref (Ma 1), .int (Mv 0), .int (Mv 1), .ref (Ma 2), .ref (Ma 3), .ref (Ma 4), .ref (Ma 5), .ref (Ma 6), .int (Mv 2), .int (Mv 3), .int (Mv 4), .int (Mv 5), .int (Mv 6), .int (Mv 7), .int (Mv 8), .ref (Ma 7), .int (Mv 9), .ref (Ma 8), .int yy_1205, .ref (Ma 9), .ref (Ma 10), .int x_24, .int (Mv 12), .int (Mv 13), .ref (Ma 11), .int (Mv 14), .ref (Ma 12), .ref (Ma 13), .ref (Ma 14), .ref (Ma 15), .ref (Ma 16), .long (Mj 0), .ref (Ma 17), .ref (Ma 18), .ref (Ma 19), .ref (Ma 20)])), ((Ma 10), .inl (tc 0, 126, .inl sv_28))] := hD₀
        replace hS := hS₀
        clear hP₀ hD₀ hS₀
        have esv_28 : sv_28 = (dX12_begins yy_1207) := pf_30
        refine lv_iconst (v := 0) hx hb dX12_fillsFits_30 (by decide) ?_
        refine lv_istore_n (lv' := [(3, .int 0), (2, .int yy_1200), (1, .int (Mv 11)), (0, .ref (Ma 0))]) hx hb dX12_fillsFits_31 rfl hl (by decide) rfl (fun ls hl₀ => ?_)
        replace hl := hl₀
        clear hl₀
        have loop_33 : ∀ (n_31 : Nat) (yy_3300 : Int32) (yy_3301 : Nat → Int64) (yy_3302 : Nat → Int64) (yy_3303 : Nat → Int32) (yy_3304 : Int32) (yy_3305 : Nat → Int32) (H : Heap) (locs : List Loc) (ls : Array Slot), (61 - (yy_3300 : Int32).toInt).toNat < n_31 → (dX12_fillsFits_l32 (Mf 2) (Mf 4) (Mf 5) (Mv 13) yy_1200 yy_1200 ((61 - (0 : Int32).toInt).toNat + 1) (0 : Int32) yy_1201 yy_1202 yy_1204 yy_1205 sv_28) = dX12_fillsFits_l32 (Mf 2) (Mf 4) (Mf 5) (Mv 13) yy_1200 yy_1200 ((61 - (yy_3300 : Int32).toInt).toNat + 1) yy_3300 yy_3301 yy_3302 yy_3303 yy_3304 yy_3305 → (0 ≤ (yy_3300 : Int32).toInt ∧ (yy_3300 : Int32).toInt ≤ 61) → (SaidD T yy_3305 (yy_3300 : Int32).toInt) → va_P D classes [((Ma 2), .inl (tc 0, 2400, .inl (Mf 2))), ((Ma 4), .inl (tc 0, 288, .inl (Mf 4))), ((Ma 5), .inl (tc 0, 6, .inl (Mf 5))), ((Ma 8), .inl (tc 1, 64, .inr (.inl yy_3301))), ((Ma 9), .inl (tc 1, 13, .inr (.inl yy_3302))), ((Ma 15), .inl (tc 3, 7, .inl yy_1203)), ((Ma 16), .inl (tc 0, 427, .inl yy_3303)), ((Ma 12), .inl (tc 0, 46, .inl sv_4)), ((Ma 0), .inr (12, [.ref (Ma 1), .int (Mv 0), .int (Mv 1), .ref (Ma 2), .ref (Ma 3), .ref (Ma 4), .ref (Ma 5), .ref (Ma 6), .int (Mv 2), .int (Mv 3), .int (Mv 4), .int (Mv 5), .int (Mv 6), .int (Mv 7), .int (Mv 8), .ref (Ma 7), .int (Mv 9), .ref (Ma 8), .int yy_3304, .ref (Ma 9), .ref (Ma 10), .int x_24, .int (Mv 12), .int (Mv 13), .ref (Ma 11), .int (Mv 14), .ref (Ma 12), .ref (Ma 13), .ref (Ma 14), .ref (Ma 15), .ref (Ma 16), .long (Mj 0), .ref (Ma 17), .ref (Ma 18), .ref (Ma 19), .ref (Ma 20)])), ((Ma 10), .inl (tc 0, 126, .inl yy_3305))] H → va_D A [((Ma 2), .inl (tc 0, 2400, .inl (Mf 2))), ((Ma 4), .inl (tc 0, 288, .inl (Mf 4))), ((Ma 5), .inl (tc 0, 6, .inl (Mf 5))), ((Ma 8), .inl (tc 1, 64, .inr (.inl yy_3301))), ((Ma 9), .inl (tc 1, 13, .inr (.inl yy_3302))), ((Ma 15), .inl (tc 3, 7, .inl yy_1203)), ((Ma 16), .inl (tc 0, 427, .inl yy_3303)), ((Ma 12), .inl (tc 0, 46, .inl sv_4)), ((Ma 0), .inr (12, [.ref (Ma 1), .int (Mv 0), .int (Mv 1), .ref (Ma 2), .ref (Ma 3), .ref (Ma 4), .ref (Ma 5), .ref (Ma 6), .int (Mv 2), .int (Mv 3), .int (Mv 4), .int (Mv 5), .int (Mv 6), .int (Mv 7), .int (Mv 8), .ref (Ma 7), .int (Mv 9), .ref (Ma 8), .int yy_3304, .ref (Ma 9), .ref (Ma 10), .int x_24, .int (Mv 12), .int (Mv 13), .ref (Ma 11), .int (Mv 14), .ref (Ma 12), .ref (Ma 13), .ref (Ma 14), .ref (Ma 15), .ref (Ma 16), .long (Mj 0), .ref (Ma 17), .ref (Ma 18), .ref (Ma 19), .ref (Ma 20)])), ((Ma 10), .inl (tc 0, 126, .inl yy_3305))] → va_S A s.heap H locs → lv_has ls 4 [(3, .int yy_3300), (2, .int yy_1200), (1, .int (Mv 11)), (0, .ref (Ma 0))] → W p l e ({ frames := 5, cells := 0, slots := 0, locals := 121 }) s m ([.ref (Ma 0)].toArray) below meth c H locs 0 0 (MQ below (QW (fun (v : Option Value) (u : (Int32) × (Nat → Int64) × (Nat → Int64) × (Nat → Int32) × (Nat → Int32) × (Nat → Int32) × (Nat → Int32)) => match u with | (oo0x1, oo0x2, oo0x3, oo0x4, oo0x5, oo0x6, oo0x7) => v = none ∧ (SaidD T oo0x4 999) ∧ (DEq ((oo0x1, oo0x2, oo0x3, oo0x4, oo0x5, oo0x6, oo0x7)) (dX12_fillsFits (Mf 2) (Mf 4) (Mf 5) (Mf 10) (Mf 12) (Mf 15) (Mf 16) (Mg 8) (Mg 9) (Mv 1) (Mv 10) (Mv 11) (Mv 13)))) (BW D (fun (u : (Int32) × (Nat → Int64) × (Nat → Int64) × (Nat → Int32) × (Nat → Int32) × (Nat → Int32) × (Nat → Int32)) => match u with | (oo0x1, oo0x2, oo0x3, oo0x4, oo0x5, oo0x6, oo0x7) => [((Ma 0), .inr (12, [.ref (Ma 1), .int (Mv 0), .int (Mv 1), .ref (Ma 2), .ref (Ma 3), .ref (Ma 4), .ref (Ma 5), .ref (Ma 6), .int (Mv 2), .int (Mv 3), .int (Mv 4), .int (Mv 5), .int (Mv 6), .int (Mv 7), .int (Mv 8), .ref (Ma 7), .int (Mv 9), .ref (Ma 8), .int oo0x1, .ref (Ma 9), .ref (Ma 10), .int (Mv 11), .int (Mv 12), .int (Mv 13), .ref (Ma 11), .int (Mv 14), .ref (Ma 12), .ref (Ma 13), .ref (Ma 14), .ref (Ma 15), .ref (Ma 16), .long (Mj 0), .ref (Ma 17), .ref (Ma 18), .ref (Ma 19), .ref (Ma 20)])), ((Ma 2), .inl (tc 0, 2400, .inl (Mf 2))), ((Ma 4), .inl (tc 0, 288, .inl (Mf 4))), ((Ma 5), .inl (tc 0, 6, .inl (Mf 5))), ((Ma 8), .inl (tc 1, 64, .inr (.inl oo0x2))), ((Ma 9), .inl (tc 1, 13, .inr (.inl oo0x3))), ((Ma 10), .inl (tc 0, 126, .inl oo0x4)), ((Ma 12), .inl (tc 0, 46, .inl oo0x5)), ((Ma 15), .inl (tc 3, 7, .inl oo0x6)), ((Ma 16), .inl (tc 0, 427, .inl oo0x7))]) A) A) ([.ref (Ma 0)].toArray) s 0 0 A) (F0 m 32 ls []) := by
          clear hP hD hS hl
          intro n_31
          induction n_31 with
          | zero =>
            intro yy_3300 yy_3301 yy_3302 yy_3303 yy_3304 yy_3305 H locs ls h1
            exact absurd h1 (Nat.not_lt_zero _)
          | succ n_31 ih_32 =>
            intro yy_3300 yy_3301 yy_3302 yy_3303 yy_3304 yy_3305 H locs ls hn_37 hL_36 pf_34 pf_35 hP hD hS hl
            have ar_pf_35 := SaidD.ar pf_35
            refine lv_iload_n hx hb dX12_fillsFits_32 rfl (lv_at hl 0 rfl) ?_
            refine lv_bipush (v := 60) hx hb dX12_fillsFits_33 (by decide) ?_
            refine lv_icmp_gt (tgt := 58) hx hb dX12_fillsFits_35 (by decide) (fun c_38 => ?_) (fun c_38 => ?_)
            · skip
              have hb_40 : dX12_fillsFits_l32 (Mf 2) (Mf 4) (Mf 5) (Mv 13) yy_1200 yy_1200 ((61 - (yy_3300 : Int32).toInt).toNat + 1) yy_3300 yy_3301 yy_3302 yy_3303 yy_3304 yy_3305 = (yy_3300, yy_3301, yy_3302, yy_3303, yy_3304, yy_3305) := by
                clear hP hD hS hl ih_32 ih_8
                replace esv_4 := esv_4.symm; subst esv_4
                replace ex_24 := ex_24.symm; subst ex_24
                replace esv_28 := esv_28.symm; subst esv_28
                rw [dX12_fillsFits_l32_s]
                rw [if_pos c_38]
                try rfl
              have hX_39 : (dX12_fillsFits_l32 (Mf 2) (Mf 4) (Mf 5) (Mv 13) yy_1200 yy_1200 ((61 - (0 : Int32).toInt).toNat + 1) (0 : Int32) yy_1201 yy_1202 yy_1204 yy_1205 sv_28) = (yy_3300, yy_3301, yy_3302, yy_3303, yy_3304, yy_3305) := hL_36.trans hb_40
              have hX_39_0 : (dX12_fillsFits_l32 (Mf 2) (Mf 4) (Mf 5) (Mv 13) yy_1200 yy_1200 ((61 - (0 : Int32).toInt).toNat + 1) (0 : Int32) yy_1201 yy_1202 yy_1204 yy_1205 sv_28).1 = yy_3300 := congrArg (fun z => z.1) hX_39
              have hX_39_1 : (dX12_fillsFits_l32 (Mf 2) (Mf 4) (Mf 5) (Mv 13) yy_1200 yy_1200 ((61 - (0 : Int32).toInt).toNat + 1) (0 : Int32) yy_1201 yy_1202 yy_1204 yy_1205 sv_28).2.1 = yy_3301 := congrArg (fun z => z.2.1) hX_39
              have hX_39_2 : (dX12_fillsFits_l32 (Mf 2) (Mf 4) (Mf 5) (Mv 13) yy_1200 yy_1200 ((61 - (0 : Int32).toInt).toNat + 1) (0 : Int32) yy_1201 yy_1202 yy_1204 yy_1205 sv_28).2.2.1 = yy_3302 := congrArg (fun z => z.2.2.1) hX_39
              have hX_39_3 : (dX12_fillsFits_l32 (Mf 2) (Mf 4) (Mf 5) (Mv 13) yy_1200 yy_1200 ((61 - (0 : Int32).toInt).toNat + 1) (0 : Int32) yy_1201 yy_1202 yy_1204 yy_1205 sv_28).2.2.2.1 = yy_3303 := congrArg (fun z => z.2.2.2.1) hX_39
              have hX_39_4 : (dX12_fillsFits_l32 (Mf 2) (Mf 4) (Mf 5) (Mv 13) yy_1200 yy_1200 ((61 - (0 : Int32).toInt).toNat + 1) (0 : Int32) yy_1201 yy_1202 yy_1204 yy_1205 sv_28).2.2.2.2.1 = yy_3304 := congrArg (fun z => z.2.2.2.2.1) hX_39
              have hX_39_5 : (dX12_fillsFits_l32 (Mf 2) (Mf 4) (Mf 5) (Mv 13) yy_1200 yy_1200 ((61 - (0 : Int32).toInt).toNat + 1) (0 : Int32) yy_1201 yy_1202 yy_1204 yy_1205 sv_28).2.2.2.2.2 = yy_3305 := congrArg (fun z => z.2.2.2.2.2) hX_39
              refine lv_aload_n hx hb dX12_fillsFits_58 rfl (lv_at hl 3 rfl) ?_
              refine gf_X12_58 hx hb hts hown hK hP 8 rfl rfl dX12_fillsFits_59 ?_
              refine lv_iload_n hx hb dX12_fillsFits_62 rfl (lv_at hl 1 rfl) ?_
              refine lv_aload_n hx hb dX12_fillsFits_63 rfl (lv_at hl 3 rfl) ?_
              refine lv_iload_n hx hb dX12_fillsFits_64 rfl (lv_at hl 1 rfl) ?_
              have ha_41 : 0 ≤ yy_1200.toInt ∧ yy_1200.toInt ≤ 6 := by
                have z_1 := Int32.le_iff_toInt_le.mp (Int32.not_lt.mp c_14)
                have z_2 := Int32.lt_iff_toInt_lt.mp c_38
                have y_60 : (60 : Int32).toInt = 60 := by decide
                omega
              refine cV (a := (Ma 0)) (As := [.int yy_1200]) (rest := [.int yy_1200, .ref (Ma 15)]) (wr := [((Ma 2), .inl (tc 0, 2400, .inl (Mf 2))), ((Ma 4), .inl (tc 0, 288, .inl (Mf 4))), ((Ma 5), .inl (tc 0, 6, .inl (Mf 5))), ((Ma 8), .inl (tc 1, 64, .inr (.inl yy_3301))), ((Ma 9), .inl (tc 1, 13, .inr (.inl yy_3302))), ((Ma 15), .inl (tc 3, 7, .inl yy_1203)), ((Ma 12), .inl (tc 0, 46, .inl sv_4))]) ⟨hx, hb, hml, hown, hts⟩ hK hX hA (cu_dX12_areNotesSo l D tc sk (Ma 0) (Ma 1) (Ma 2) (Ma 3) (Ma 4) (Ma 5) (Ma 6) (Ma 7) (Ma 8) (Ma 9) (Ma 10) (Ma 11) (Ma 12) (Ma 13) (Ma 14) (Ma 15) (Ma 16) (Ma 17) (Ma 18) (Ma 19) (Ma 20) (Mv 0) (Mv 1) (Mv 2) (Mv 3) (Mv 4) (Mv 5) (Mv 6) (Mv 7) (Mv 8) (Mv 9) yy_3304 x_24 (Mv 12) (Mv 13) (Mv 14) yy_3305 yy_3303 (Mj 0) yy_1200 pf_35.1 ha_41) k_1613 k_1610 k_1612 k_90 k_106 pl_X12_areNotesSo ⟨Nat.le_of_ble_eq_true rfl, Nat.le_of_ble_eq_true rfl⟩ rfl rfl (va_recv hK hP (ci := 12) (q0 := 8) rfl rfl) hP hD hS [8, 9, 6] [0, 1, 2, 3, 4, 5, 7] rfl rfl rfl rfl rfl (by decide) rfl hl.1 rfl (Nat.le_of_ble_eq_true rfl) dX12_fillsFits_65 ⟨Nat.le_of_ble_eq_true rfl, Nat.le_of_ble_eq_true rfl⟩ (fun v_42 u_43 H locs hv_44 hP₀ hD₀ hS₀ => ?_)
              obtain ⟨r_45, rfl, he_46⟩ := hv_44
              have he_46 : ((r_45.toInt = 0 ∨ r_45.toInt = 1)) ∧ r_45 = (dX12_areNotesSo yy_3305 yy_3303 yy_1200) := he_46
              refine W.eq (g2 := F0 m 68 ls [.int r_45, .int yy_1200, .ref (Ma 15)]) rfl ?_
              replace hP : va_P D classes [((Ma 2), .inl (tc 0, 2400, .inl (Mf 2))), ((Ma 4), .inl (tc 0, 288, .inl (Mf 4))), ((Ma 5), .inl (tc 0, 6, .inl (Mf 5))), ((Ma 8), .inl (tc 1, 64, .inr (.inl yy_3301))), ((Ma 9), .inl (tc 1, 13, .inr (.inl yy_3302))), ((Ma 15), .inl (tc 3, 7, .inl yy_1203)), ((Ma 12), .inl (tc 0, 46, .inl sv_4)), ((Ma 0), .inr (12, [.ref (Ma 1), .int (Mv 0), .int (Mv 1), .ref (Ma 2), .ref (Ma 3), .ref (Ma 4), .ref (Ma 5), .ref (Ma 6), .int (Mv 2), .int (Mv 3), .int (Mv 4), .int (Mv 5), .int (Mv 6), .int (Mv 7), .int (Mv 8), .ref (Ma 7), .int (Mv 9), .ref (Ma 8), .int yy_3304, .ref (Ma 9), .ref (Ma 10), .int x_24, .int (Mv 12), .int (Mv 13), .ref (Ma 11), .int (Mv 14), .ref (Ma 12), .ref (Ma 13), .ref (Ma 14), .ref (Ma 15), .ref (Ma 16), .long (Mj 0), .ref (Ma 17), .ref (Ma 18), .ref (Ma 19), .ref (Ma 20)])), ((Ma 10), .inl (tc 0, 126, .inl yy_3305)), ((Ma 16), .inl (tc 0, 427, .inl yy_3303))] H := hP₀
              replace hD : va_D A [((Ma 2), .inl (tc 0, 2400, .inl (Mf 2))), ((Ma 4), .inl (tc 0, 288, .inl (Mf 4))), ((Ma 5), .inl (tc 0, 6, .inl (Mf 5))), ((Ma 8), .inl (tc 1, 64, .inr (.inl yy_3301))), ((Ma 9), .inl (tc 1, 13, .inr (.inl yy_3302))), ((Ma 15), .inl (tc 3, 7, .inl yy_1203)), ((Ma 12), .inl (tc 0, 46, .inl sv_4)), ((Ma 0), .inr (12, [.ref (Ma 1), .int (Mv 0), .int (Mv 1), .ref (Ma 2), .ref (Ma 3), .ref (Ma 4), .ref (Ma 5), .ref (Ma 6), .int (Mv 2), .int (Mv 3), .int (Mv 4), .int (Mv 5), .int (Mv 6), .int (Mv 7), .int (Mv 8), .ref (Ma 7), .int (Mv 9), .ref (Ma 8), .int yy_3304, .ref (Ma 9), .ref (Ma 10), .int x_24, .int (Mv 12), .int (Mv 13), .ref (Ma 11), .int (Mv 14), .ref (Ma 12), .ref (Ma 13), .ref (Ma 14), .ref (Ma 15), .ref (Ma 16), .long (Mj 0), .ref (Ma 17), .ref (Ma 18), .ref (Ma 19), .ref (Ma 20)])), ((Ma 10), .inl (tc 0, 126, .inl yy_3305)), ((Ma 16), .inl (tc 0, 427, .inl yy_3303))] := hD₀
              replace hS := hS₀
              clear hP₀ hD₀ hS₀
              obtain ⟨he_46, hq_48⟩ := he_46
              have er_45 : r_45 = (dX12_areNotesSo yy_3305 yy_3303 yy_1200) := hq_48
              have hi_49 : vp_in yy_1200 7 := by
                have z_1 := Int32.le_iff_toInt_le.mp (Int32.not_lt.mp c_14)
                have z_2 := Int32.lt_iff_toInt_lt.mp c_38
                have y_60 : (60 : Int32).toInt = 60 := by decide
                refine vp_in_iff.mpr ⟨?_, ?_⟩ <;> omega
              refine st_bool hx hb hK hP hD hS 5 3 rfl rfl hi_49 dX12_fillsFits_68 (fun g_50 H locs eg_50 hP₀ hD₀ hS₀ => ?_)
              replace hP : va_P D classes [((Ma 2), .inl (tc 0, 2400, .inl (Mf 2))), ((Ma 4), .inl (tc 0, 288, .inl (Mf 4))), ((Ma 5), .inl (tc 0, 6, .inl (Mf 5))), ((Ma 8), .inl (tc 1, 64, .inr (.inl yy_3301))), ((Ma 9), .inl (tc 1, 13, .inr (.inl yy_3302))), ((Ma 15), .inl (tc 3, 7, .inl g_50)), ((Ma 12), .inl (tc 0, 46, .inl sv_4)), ((Ma 0), .inr (12, [.ref (Ma 1), .int (Mv 0), .int (Mv 1), .ref (Ma 2), .ref (Ma 3), .ref (Ma 4), .ref (Ma 5), .ref (Ma 6), .int (Mv 2), .int (Mv 3), .int (Mv 4), .int (Mv 5), .int (Mv 6), .int (Mv 7), .int (Mv 8), .ref (Ma 7), .int (Mv 9), .ref (Ma 8), .int yy_3304, .ref (Ma 9), .ref (Ma 10), .int x_24, .int (Mv 12), .int (Mv 13), .ref (Ma 11), .int (Mv 14), .ref (Ma 12), .ref (Ma 13), .ref (Ma 14), .ref (Ma 15), .ref (Ma 16), .long (Mj 0), .ref (Ma 17), .ref (Ma 18), .ref (Ma 19), .ref (Ma 20)])), ((Ma 10), .inl (tc 0, 126, .inl yy_3305)), ((Ma 16), .inl (tc 0, 427, .inl yy_3303))] H := hP₀
              replace hD : va_D A [((Ma 2), .inl (tc 0, 2400, .inl (Mf 2))), ((Ma 4), .inl (tc 0, 288, .inl (Mf 4))), ((Ma 5), .inl (tc 0, 6, .inl (Mf 5))), ((Ma 8), .inl (tc 1, 64, .inr (.inl yy_3301))), ((Ma 9), .inl (tc 1, 13, .inr (.inl yy_3302))), ((Ma 15), .inl (tc 3, 7, .inl g_50)), ((Ma 12), .inl (tc 0, 46, .inl sv_4)), ((Ma 0), .inr (12, [.ref (Ma 1), .int (Mv 0), .int (Mv 1), .ref (Ma 2), .ref (Ma 3), .ref (Ma 4), .ref (Ma 5), .ref (Ma 6), .int (Mv 2), .int (Mv 3), .int (Mv 4), .int (Mv 5), .int (Mv 6), .int (Mv 7), .int (Mv 8), .ref (Ma 7), .int (Mv 9), .ref (Ma 8), .int yy_3304, .ref (Ma 9), .ref (Ma 10), .int x_24, .int (Mv 12), .int (Mv 13), .ref (Ma 11), .int (Mv 14), .ref (Ma 12), .ref (Ma 13), .ref (Ma 14), .ref (Ma 15), .ref (Ma 16), .long (Mj 0), .ref (Ma 17), .ref (Ma 18), .ref (Ma 19), .ref (Ma 20)])), ((Ma 10), .inl (tc 0, 126, .inl yy_3305)), ((Ma 16), .inl (tc 0, 427, .inl yy_3303))] := hD₀
              replace hS := hS₀
              clear hP₀ hD₀ hS₀
              obtain ⟨x_51, ex_51⟩ : ∃ y : Int32, y = yy_1200 + 1 := ⟨_, rfl⟩
              refine lv_iinc (v := x_51) (lv' := [(2, .int x_51), (3, .int yy_3300), (1, .int (Mv 11)), (0, .ref (Ma 0))]) hx hb dX12_fillsFits_69 hl (k := 1) rfl (by rw [ex_51]; rfl) (by decide) rfl (fun ls hl₀ => ?_)
              replace hl := hl₀
              clear hl₀
              refine lv_goto (tgt := 11) hx hb dX12_fillsFits_72 (by decide) ?_
              have hb_52 : 7 - (x_51 : Int32).toInt < 7 - (yy_1200 : Int32).toInt ∧ 1 ≤ 7 - (yy_1200 : Int32).toInt := by
                have z_1 := Int32.le_iff_toInt_le.mp (Int32.not_lt.mp c_14)
                have z_2 := Int32.lt_iff_toInt_lt.mp c_38
                have y_60 : (60 : Int32).toInt = 60 := by decide
                have y_1 : (1 : Int32).toInt = 1 := by decide
                have t_x_51 : x_51.toInt = (yy_1200 : Int32).toInt + (1 : Int32).toInt := by rw [ex_51]; exact add_toInt (by omega) (by omega)
                omega
              have hm_53 : (7 - (yy_1200 : Int32).toInt).toNat = (7 - (x_51 : Int32).toInt).toNat + 1 := by
                have z_1 := Int32.le_iff_toInt_le.mp (Int32.not_lt.mp c_14)
                have z_2 := Int32.lt_iff_toInt_lt.mp c_38
                have y_60 : (60 : Int32).toInt = 60 := by decide
                have y_1 : (1 : Int32).toInt = 1 := by decide
                have t_x_51 : x_51.toInt = (yy_1200 : Int32).toInt + (1 : Int32).toInt := by rw [ex_51]; exact add_toInt (by omega) (by omega)
                omega
              have hb_54 : dX12_fillsFits_l11 (Mf 2) (Mf 4) (Mf 5) (Mv 1) (Mv 13) ((7 - (yy_1200 : Int32).toInt).toNat + 1) yy_1200 yy_1201 yy_1202 yy_1203 yy_1204 yy_1205 yy_1206 yy_1207 = dX12_fillsFits_l11 (Mf 2) (Mf 4) (Mf 5) (Mv 1) (Mv 13) ((7 - (yy_1200 : Int32).toInt).toNat) x_51 yy_3301 yy_3302 g_50 yy_3303 yy_3304 x_24 yy_3305 := by
                clear hP hD hS hl ih_32 ih_8
                replace esv_4 := esv_4.symm; subst esv_4
                replace ex_24 := ex_24.symm; subst ex_24
                replace esv_28 := esv_28.symm; subst esv_28
                replace er_45 := er_45.symm; subst er_45
                replace eg_50 := eg_50.symm; subst eg_50
                replace ex_51 := ex_51.symm; subst ex_51
                rw [dX12_fillsFits_l11_s]
                try rw [hX_39_0]
                try rw [hX_39_1]
                try rw [hX_39_2]
                try rw [hX_39_3]
                try rw [hX_39_4]
                try rw [hX_39_5]
                rw [if_neg c_14]
                try rfl
              have hL_55 : (dX12_fillsFits_l11 (Mf 2) (Mf 4) (Mf 5) (Mv 1) (Mv 13) ((7 - (0 : Int32).toInt).toNat + 1) (0 : Int32) (Mg 8) (Mg 9) (Mf 15) (Mf 16) (Mv 10) (Mv 11) (Mf 10)) = dX12_fillsFits_l11 (Mf 2) (Mf 4) (Mf 5) (Mv 1) (Mv 13) ((7 - (x_51 : Int32).toInt).toNat + 1) x_51 yy_3301 yy_3302 g_50 yy_3303 yy_3304 x_24 yy_3305 := by
                rw [hL_12, hb_54, hm_53]
              have ha_56 : 0 ≤ (x_51 : Int32).toInt := by
                have z_1 := Int32.le_iff_toInt_le.mp (Int32.not_lt.mp c_14)
                have z_2 := Int32.lt_iff_toInt_lt.mp c_38
                have y_60 : (60 : Int32).toInt = 60 := by decide
                have y_1 : (1 : Int32).toInt = 1 := by decide
                have t_x_51 : x_51.toInt = (yy_1200 : Int32).toInt + (1 : Int32).toInt := by rw [ex_51]; exact add_toInt (by omega) (by omega)
                omega
              exact ih_8 x_51 yy_3301 yy_3302 g_50 yy_3303 yy_3304 x_24 yy_3305 _ _ _ (by omega) hL_55 ha_56 pf_35.1 (hP.sub [0, 1, 2, 3, 4, 5, 9, 7, 8, 6] rfl) (hD.sub [0, 1, 2, 3, 4, 5, 9, 7, 8, 6] rfl rfl) hS (lv_sub hl [0, 2, 3] rfl)
            · skip
              refine lv_aload_n hx hb dX12_fillsFits_38 rfl (lv_at hl 3 rfl) ?_
              refine gf_X12_62 hx hb hts hown hK hP 8 rfl rfl dX12_fillsFits_39 ?_
              refine lv_iload_n hx hb dX12_fillsFits_42 rfl (lv_at hl 1 rfl) ?_
              refine lv_iload_n hx hb dX12_fillsFits_43 rfl (lv_at hl 0 rfl) ?_
              have ha_57 : 0 ≤ yy_1200.toInt ∧ yy_1200.toInt ≤ 100 ∧ 0 ≤ yy_3300.toInt ∧ yy_3300.toInt ≤ 100 := by
                have z_1 := Int32.le_iff_toInt_le.mp (Int32.not_lt.mp c_14)
                have z_2 := Int32.le_iff_toInt_le.mp (Int32.not_lt.mp c_38)
                have y_60 : (60 : Int32).toInt = 60 := by decide
                omega
              refine cS (As := [.int yy_1200, .int yy_3300]) (rest := [.ref (Ma 16)]) (wr := [((Ma 2), .inl (tc 0, 2400, .inl (Mf 2))), ((Ma 4), .inl (tc 0, 288, .inl (Mf 4))), ((Ma 5), .inl (tc 0, 6, .inl (Mf 5))), ((Ma 8), .inl (tc 1, 64, .inr (.inl yy_3301))), ((Ma 9), .inl (tc 1, 13, .inr (.inl yy_3302))), ((Ma 15), .inl (tc 3, 7, .inl yy_1203)), ((Ma 16), .inl (tc 0, 427, .inl yy_3303)), ((Ma 12), .inl (tc 0, 46, .inl sv_4)), ((Ma 0), .inr (12, [.ref (Ma 1), .int (Mv 0), .int (Mv 1), .ref (Ma 2), .ref (Ma 3), .ref (Ma 4), .ref (Ma 5), .ref (Ma 6), .int (Mv 2), .int (Mv 3), .int (Mv 4), .int (Mv 5), .int (Mv 6), .int (Mv 7), .int (Mv 8), .ref (Ma 7), .int (Mv 9), .ref (Ma 8), .int yy_3304, .ref (Ma 9), .ref (Ma 10), .int x_24, .int (Mv 12), .int (Mv 13), .ref (Ma 11), .int (Mv 14), .ref (Ma 12), .ref (Ma 13), .ref (Ma 14), .ref (Ma 15), .ref (Ma 16), .long (Mj 0), .ref (Ma 17), .ref (Ma 18), .ref (Ma 19), .ref (Ma 20)])), ((Ma 10), .inl (tc 0, 126, .inl yy_3305))]) ⟨hx, hb, hml, hown, hts⟩ hK hX hA (ct_dX12_spot l D tc sk yy_1200 yy_3300 ha_57) k_1609 k_1607 k_1608 k_106 pl_X12_spot ⟨Nat.le_of_ble_eq_true rfl, Nat.le_of_ble_eq_true rfl⟩ rfl rfl  hP hD hS [] [0, 1, 2, 3, 4, 5, 6, 7, 8, 9] rfl rfl rfl rfl rfl (by decide) rfl hl.1 rfl (Nat.le_of_ble_eq_true rfl) dX12_fillsFits_44 ⟨Nat.le_of_ble_eq_true rfl, Nat.le_of_ble_eq_true rfl⟩ (fun v_58 u_59 H locs hv_60 hP₀ hD₀ hS₀ => ?_)
              obtain ⟨r_61, rfl, he_62⟩ := hv_60
              have he_62 : ((r_61.toInt = 61 * yy_1200.toInt + yy_3300.toInt)) ∧ r_61 = (dX12_spot yy_1200 yy_3300) := he_62
              refine W.eq (g2 := F0 m 47 ls [.int r_61, .ref (Ma 16)]) rfl ?_
              replace hP : va_P D classes [((Ma 2), .inl (tc 0, 2400, .inl (Mf 2))), ((Ma 4), .inl (tc 0, 288, .inl (Mf 4))), ((Ma 5), .inl (tc 0, 6, .inl (Mf 5))), ((Ma 8), .inl (tc 1, 64, .inr (.inl yy_3301))), ((Ma 9), .inl (tc 1, 13, .inr (.inl yy_3302))), ((Ma 15), .inl (tc 3, 7, .inl yy_1203)), ((Ma 16), .inl (tc 0, 427, .inl yy_3303)), ((Ma 12), .inl (tc 0, 46, .inl sv_4)), ((Ma 0), .inr (12, [.ref (Ma 1), .int (Mv 0), .int (Mv 1), .ref (Ma 2), .ref (Ma 3), .ref (Ma 4), .ref (Ma 5), .ref (Ma 6), .int (Mv 2), .int (Mv 3), .int (Mv 4), .int (Mv 5), .int (Mv 6), .int (Mv 7), .int (Mv 8), .ref (Ma 7), .int (Mv 9), .ref (Ma 8), .int yy_3304, .ref (Ma 9), .ref (Ma 10), .int x_24, .int (Mv 12), .int (Mv 13), .ref (Ma 11), .int (Mv 14), .ref (Ma 12), .ref (Ma 13), .ref (Ma 14), .ref (Ma 15), .ref (Ma 16), .long (Mj 0), .ref (Ma 17), .ref (Ma 18), .ref (Ma 19), .ref (Ma 20)])), ((Ma 10), .inl (tc 0, 126, .inl yy_3305))] H := hP₀
              replace hD : va_D A [((Ma 2), .inl (tc 0, 2400, .inl (Mf 2))), ((Ma 4), .inl (tc 0, 288, .inl (Mf 4))), ((Ma 5), .inl (tc 0, 6, .inl (Mf 5))), ((Ma 8), .inl (tc 1, 64, .inr (.inl yy_3301))), ((Ma 9), .inl (tc 1, 13, .inr (.inl yy_3302))), ((Ma 15), .inl (tc 3, 7, .inl yy_1203)), ((Ma 16), .inl (tc 0, 427, .inl yy_3303)), ((Ma 12), .inl (tc 0, 46, .inl sv_4)), ((Ma 0), .inr (12, [.ref (Ma 1), .int (Mv 0), .int (Mv 1), .ref (Ma 2), .ref (Ma 3), .ref (Ma 4), .ref (Ma 5), .ref (Ma 6), .int (Mv 2), .int (Mv 3), .int (Mv 4), .int (Mv 5), .int (Mv 6), .int (Mv 7), .int (Mv 8), .ref (Ma 7), .int (Mv 9), .ref (Ma 8), .int yy_3304, .ref (Ma 9), .ref (Ma 10), .int x_24, .int (Mv 12), .int (Mv 13), .ref (Ma 11), .int (Mv 14), .ref (Ma 12), .ref (Ma 13), .ref (Ma 14), .ref (Ma 15), .ref (Ma 16), .long (Mj 0), .ref (Ma 17), .ref (Ma 18), .ref (Ma 19), .ref (Ma 20)])), ((Ma 10), .inl (tc 0, 126, .inl yy_3305))] := hD₀
              replace hS := hS₀
              clear hP₀ hD₀ hS₀
              obtain ⟨he_62, hq_64⟩ := he_62
              have er_61 : r_61 = (dX12_spot yy_1200 yy_3300) := hq_64
              refine lv_aload_n hx hb dX12_fillsFits_47 rfl (lv_at hl 3 rfl) ?_
              have ha_65 : ((yy_3300 : Int32).toInt) ≤ 1000000 := by
                have z_1 := Int32.le_iff_toInt_le.mp (Int32.not_lt.mp c_14)
                have z_2 := Int32.le_iff_toInt_le.mp (Int32.not_lt.mp c_38)
                have y_60 : (60 : Int32).toInt = 60 := by decide
                omega
              have ha_66 : -1 ≤ x_24.toInt ∧ x_24.toInt < (Mv 1).toInt ∧ (Mv 1).toInt ≤ 6 := by
                have z_1 := Int32.le_iff_toInt_le.mp (Int32.not_lt.mp c_14)
                have z_2 := Int32.le_iff_toInt_le.mp (Int32.not_lt.mp c_38)
                have y_60 : (60 : Int32).toInt = 60 := by decide
                have y_1 : (1 : Int32).toInt = 1 := by decide
                have t_x_24 : x_24.toInt = (yy_1200 : Int32).toInt - (1 : Int32).toInt := by rw [ex_24]; exact sub_toInt (by omega) (by omega)
                omega
              refine cV (a := (Ma 0)) (As := []) (rest := [.int r_61, .ref (Ma 16)]) (wr := [((Ma 15), .inl (tc 3, 7, .inl yy_1203)), ((Ma 16), .inl (tc 0, 427, .inl yy_3303)), ((Ma 12), .inl (tc 0, 46, .inl sv_4))]) ⟨hx, hb, hml, hown, hts⟩ hK hX hA (cu_dX12_passes l D tc sk (Ma 0) (Ma 1) (Ma 2) (Ma 3) (Ma 4) (Ma 5) (Ma 6) (Ma 7) (Ma 8) (Ma 9) (Ma 10) (Ma 11) (Ma 12) (Ma 13) (Ma 14) (Ma 15) (Ma 16) (Ma 17) (Ma 18) (Ma 19) (Ma 20) (Mv 0) (Mv 1) (Mv 2) (Mv 3) (Mv 4) (Mv 5) (Mv 6) (Mv 7) (Mv 8) (Mv 9) yy_3304 x_24 (Mv 12) (Mv 13) (Mv 14) (Mf 2) (Mf 4) (Mf 5) yy_3305 (Mj 0) yy_3301 yy_3302 ((yy_3300 : Int32).toInt) pf_35 ha_65 h_rul ha_66) k_1423 k_1420 k_1422 k_67 k_106 pl_X12_passes ⟨Nat.le_of_ble_eq_true rfl, Nat.le_of_ble_eq_true rfl⟩ rfl rfl (va_recv hK hP (ci := 12) (q0 := 8) rfl rfl) hP hD hS [8, 0, 1, 2, 3, 4, 9] [5, 6, 7] rfl rfl rfl rfl rfl (by decide) rfl hl.1 rfl (Nat.le_of_ble_eq_true rfl) dX12_fillsFits_48 ⟨Nat.le_of_ble_eq_true rfl, Nat.le_of_ble_eq_true rfl⟩ (fun v_67 u_68 H locs hv_69 hP₀ hD₀ hS₀ => ?_)
              obtain ⟨sv_70, sv_71, sv_72, sv_73⟩ := u_68
              obtain ⟨r_75, rfl, he_76, pf_74⟩ := hv_69
              have he_76 : (True) ∧ (r_75, sv_70, sv_71, sv_72, sv_73) = (dX12_passes (Mf 2) (Mf 4) (Mf 5) yy_3305 yy_3301 yy_3302 yy_3304 x_24 (Mv 13)) := he_76
              have pf_74 : SaidD T sv_73 (((yy_3300 : Int32).toInt) + 1) := pf_74
              have ar_pf_74 := SaidD.ar pf_74
              refine W.eq (g2 := F0 m 51 ls [.int r_75, .int r_61, .ref (Ma 16)]) rfl ?_
              replace hP : va_P D classes [((Ma 15), .inl (tc 3, 7, .inl yy_1203)), ((Ma 16), .inl (tc 0, 427, .inl yy_3303)), ((Ma 12), .inl (tc 0, 46, .inl sv_4)), ((Ma 0), .inr (12, [.ref (Ma 1), .int (Mv 0), .int (Mv 1), .ref (Ma 2), .ref (Ma 3), .ref (Ma 4), .ref (Ma 5), .ref (Ma 6), .int (Mv 2), .int (Mv 3), .int (Mv 4), .int (Mv 5), .int (Mv 6), .int (Mv 7), .int (Mv 8), .ref (Ma 7), .int (Mv 9), .ref (Ma 8), .int sv_70, .ref (Ma 9), .ref (Ma 10), .int x_24, .int (Mv 12), .int (Mv 13), .ref (Ma 11), .int (Mv 14), .ref (Ma 12), .ref (Ma 13), .ref (Ma 14), .ref (Ma 15), .ref (Ma 16), .long (Mj 0), .ref (Ma 17), .ref (Ma 18), .ref (Ma 19), .ref (Ma 20)])), ((Ma 2), .inl (tc 0, 2400, .inl (Mf 2))), ((Ma 4), .inl (tc 0, 288, .inl (Mf 4))), ((Ma 5), .inl (tc 0, 6, .inl (Mf 5))), ((Ma 8), .inl (tc 1, 64, .inr (.inl sv_71))), ((Ma 9), .inl (tc 1, 13, .inr (.inl sv_72))), ((Ma 10), .inl (tc 0, 126, .inl sv_73))] H := hP₀
              replace hD : va_D A [((Ma 15), .inl (tc 3, 7, .inl yy_1203)), ((Ma 16), .inl (tc 0, 427, .inl yy_3303)), ((Ma 12), .inl (tc 0, 46, .inl sv_4)), ((Ma 0), .inr (12, [.ref (Ma 1), .int (Mv 0), .int (Mv 1), .ref (Ma 2), .ref (Ma 3), .ref (Ma 4), .ref (Ma 5), .ref (Ma 6), .int (Mv 2), .int (Mv 3), .int (Mv 4), .int (Mv 5), .int (Mv 6), .int (Mv 7), .int (Mv 8), .ref (Ma 7), .int (Mv 9), .ref (Ma 8), .int sv_70, .ref (Ma 9), .ref (Ma 10), .int x_24, .int (Mv 12), .int (Mv 13), .ref (Ma 11), .int (Mv 14), .ref (Ma 12), .ref (Ma 13), .ref (Ma 14), .ref (Ma 15), .ref (Ma 16), .long (Mj 0), .ref (Ma 17), .ref (Ma 18), .ref (Ma 19), .ref (Ma 20)])), ((Ma 2), .inl (tc 0, 2400, .inl (Mf 2))), ((Ma 4), .inl (tc 0, 288, .inl (Mf 4))), ((Ma 5), .inl (tc 0, 6, .inl (Mf 5))), ((Ma 8), .inl (tc 1, 64, .inr (.inl sv_71))), ((Ma 9), .inl (tc 1, 13, .inr (.inl sv_72))), ((Ma 10), .inl (tc 0, 126, .inl sv_73))] := hD₀
              replace hS := hS₀
              clear hP₀ hD₀ hS₀
              obtain ⟨he_76, hq_78⟩ := he_76
              have er_75 : r_75 = (dX12_passes (Mf 2) (Mf 4) (Mf 5) yy_3305 yy_3301 yy_3302 yy_3304 x_24 (Mv 13)).1 := congrArg (fun z => z.1) hq_78
              have esv_70 : sv_70 = (dX12_passes (Mf 2) (Mf 4) (Mf 5) yy_3305 yy_3301 yy_3302 yy_3304 x_24 (Mv 13)).2.1 := congrArg (fun z => z.2.1) hq_78
              have esv_71 : sv_71 = (dX12_passes (Mf 2) (Mf 4) (Mf 5) yy_3305 yy_3301 yy_3302 yy_3304 x_24 (Mv 13)).2.2.1 := congrArg (fun z => z.2.2.1) hq_78
              have esv_72 : sv_72 = (dX12_passes (Mf 2) (Mf 4) (Mf 5) yy_3305 yy_3301 yy_3302 yy_3304 x_24 (Mv 13)).2.2.2.1 := congrArg (fun z => z.2.2.2.1) hq_78
              have esv_73 : sv_73 = (dX12_passes (Mf 2) (Mf 4) (Mf 5) yy_3305 yy_3301 yy_3302 yy_3304 x_24 (Mv 13)).2.2.2.2 := congrArg (fun z => z.2.2.2.2) hq_78
              have hi_79 : vp_in r_61 427 := by
                have z_1 := Int32.le_iff_toInt_le.mp (Int32.not_lt.mp c_14)
                have z_2 := Int32.le_iff_toInt_le.mp (Int32.not_lt.mp c_38)
                have y_60 : (60 : Int32).toInt = 60 := by decide
                refine vp_in_iff.mpr ⟨?_, ?_⟩ <;> omega
              refine st_int hx hb hK hP hD hS 1 0 rfl rfl hi_79 dX12_fillsFits_51 (fun g_80 H locs eg_80 hP₀ hD₀ hS₀ => ?_)
              replace hP : va_P D classes [((Ma 15), .inl (tc 3, 7, .inl yy_1203)), ((Ma 16), .inl (tc 0, 427, .inl g_80)), ((Ma 12), .inl (tc 0, 46, .inl sv_4)), ((Ma 0), .inr (12, [.ref (Ma 1), .int (Mv 0), .int (Mv 1), .ref (Ma 2), .ref (Ma 3), .ref (Ma 4), .ref (Ma 5), .ref (Ma 6), .int (Mv 2), .int (Mv 3), .int (Mv 4), .int (Mv 5), .int (Mv 6), .int (Mv 7), .int (Mv 8), .ref (Ma 7), .int (Mv 9), .ref (Ma 8), .int sv_70, .ref (Ma 9), .ref (Ma 10), .int x_24, .int (Mv 12), .int (Mv 13), .ref (Ma 11), .int (Mv 14), .ref (Ma 12), .ref (Ma 13), .ref (Ma 14), .ref (Ma 15), .ref (Ma 16), .long (Mj 0), .ref (Ma 17), .ref (Ma 18), .ref (Ma 19), .ref (Ma 20)])), ((Ma 2), .inl (tc 0, 2400, .inl (Mf 2))), ((Ma 4), .inl (tc 0, 288, .inl (Mf 4))), ((Ma 5), .inl (tc 0, 6, .inl (Mf 5))), ((Ma 8), .inl (tc 1, 64, .inr (.inl sv_71))), ((Ma 9), .inl (tc 1, 13, .inr (.inl sv_72))), ((Ma 10), .inl (tc 0, 126, .inl sv_73))] H := hP₀
              replace hD : va_D A [((Ma 15), .inl (tc 3, 7, .inl yy_1203)), ((Ma 16), .inl (tc 0, 427, .inl g_80)), ((Ma 12), .inl (tc 0, 46, .inl sv_4)), ((Ma 0), .inr (12, [.ref (Ma 1), .int (Mv 0), .int (Mv 1), .ref (Ma 2), .ref (Ma 3), .ref (Ma 4), .ref (Ma 5), .ref (Ma 6), .int (Mv 2), .int (Mv 3), .int (Mv 4), .int (Mv 5), .int (Mv 6), .int (Mv 7), .int (Mv 8), .ref (Ma 7), .int (Mv 9), .ref (Ma 8), .int sv_70, .ref (Ma 9), .ref (Ma 10), .int x_24, .int (Mv 12), .int (Mv 13), .ref (Ma 11), .int (Mv 14), .ref (Ma 12), .ref (Ma 13), .ref (Ma 14), .ref (Ma 15), .ref (Ma 16), .long (Mj 0), .ref (Ma 17), .ref (Ma 18), .ref (Ma 19), .ref (Ma 20)])), ((Ma 2), .inl (tc 0, 2400, .inl (Mf 2))), ((Ma 4), .inl (tc 0, 288, .inl (Mf 4))), ((Ma 5), .inl (tc 0, 6, .inl (Mf 5))), ((Ma 8), .inl (tc 1, 64, .inr (.inl sv_71))), ((Ma 9), .inl (tc 1, 13, .inr (.inl sv_72))), ((Ma 10), .inl (tc 0, 126, .inl sv_73))] := hD₀
              replace hS := hS₀
              clear hP₀ hD₀ hS₀
              obtain ⟨x_81, ex_81⟩ : ∃ y : Int32, y = yy_3300 + 1 := ⟨_, rfl⟩
              refine lv_iinc (v := x_81) (lv' := [(3, .int x_81), (2, .int yy_1200), (1, .int (Mv 11)), (0, .ref (Ma 0))]) hx hb dX12_fillsFits_52 hl (k := 0) rfl (by rw [ex_81]; rfl) (by decide) rfl (fun ls hl₀ => ?_)
              replace hl := hl₀
              clear hl₀
              refine lv_goto (tgt := 32) hx hb dX12_fillsFits_55 (by decide) ?_
              have hb_82 : 61 - (x_81 : Int32).toInt < 61 - (yy_3300 : Int32).toInt ∧ 1 ≤ 61 - (yy_3300 : Int32).toInt := by
                have z_1 := Int32.le_iff_toInt_le.mp (Int32.not_lt.mp c_14)
                have z_2 := Int32.le_iff_toInt_le.mp (Int32.not_lt.mp c_38)
                have y_60 : (60 : Int32).toInt = 60 := by decide
                have y_1 : (1 : Int32).toInt = 1 := by decide
                have t_x_81 : x_81.toInt = (yy_3300 : Int32).toInt + (1 : Int32).toInt := by rw [ex_81]; exact add_toInt (by omega) (by omega)
                omega
              have hm_83 : (61 - (yy_3300 : Int32).toInt).toNat = (61 - (x_81 : Int32).toInt).toNat + 1 := by
                have z_1 := Int32.le_iff_toInt_le.mp (Int32.not_lt.mp c_14)
                have z_2 := Int32.le_iff_toInt_le.mp (Int32.not_lt.mp c_38)
                have y_60 : (60 : Int32).toInt = 60 := by decide
                have y_1 : (1 : Int32).toInt = 1 := by decide
                have t_x_81 : x_81.toInt = (yy_3300 : Int32).toInt + (1 : Int32).toInt := by rw [ex_81]; exact add_toInt (by omega) (by omega)
                omega
              have hb_84 : dX12_fillsFits_l32 (Mf 2) (Mf 4) (Mf 5) (Mv 13) yy_1200 yy_1200 ((61 - (yy_3300 : Int32).toInt).toNat + 1) yy_3300 yy_3301 yy_3302 yy_3303 yy_3304 yy_3305 = dX12_fillsFits_l32 (Mf 2) (Mf 4) (Mf 5) (Mv 13) yy_1200 yy_1200 ((61 - (yy_3300 : Int32).toInt).toNat) x_81 sv_71 sv_72 g_80 sv_70 sv_73 := by
                clear hP hD hS hl ih_32 ih_8
                replace esv_4 := esv_4.symm; subst esv_4
                replace ex_24 := ex_24.symm; subst ex_24
                replace esv_28 := esv_28.symm; subst esv_28
                replace er_61 := er_61.symm; subst er_61
                replace er_75 := er_75.symm; subst er_75
                replace esv_70 := esv_70.symm; subst esv_70
                replace esv_71 := esv_71.symm; subst esv_71
                replace esv_72 := esv_72.symm; subst esv_72
                replace esv_73 := esv_73.symm; subst esv_73
                replace eg_80 := eg_80.symm; subst eg_80
                replace ex_81 := ex_81.symm; subst ex_81
                rw [dX12_fillsFits_l32_s]
                rw [if_neg c_38]
                try rfl
              have hL_85 : (dX12_fillsFits_l32 (Mf 2) (Mf 4) (Mf 5) (Mv 13) yy_1200 yy_1200 ((61 - (0 : Int32).toInt).toNat + 1) (0 : Int32) yy_1201 yy_1202 yy_1204 yy_1205 sv_28) = dX12_fillsFits_l32 (Mf 2) (Mf 4) (Mf 5) (Mv 13) yy_1200 yy_1200 ((61 - (x_81 : Int32).toInt).toNat + 1) x_81 sv_71 sv_72 g_80 sv_70 sv_73 := by
                rw [hL_36, hb_84, hm_83]
              have ha_86 : 0 ≤ (x_81 : Int32).toInt ∧ (x_81 : Int32).toInt ≤ 61 := by
                have z_1 := Int32.le_iff_toInt_le.mp (Int32.not_lt.mp c_14)
                have z_2 := Int32.le_iff_toInt_le.mp (Int32.not_lt.mp c_38)
                have y_60 : (60 : Int32).toInt = 60 := by decide
                have y_1 : (1 : Int32).toInt = 1 := by decide
                have t_x_81 : x_81.toInt = (yy_3300 : Int32).toInt + (1 : Int32).toInt := by rw [ex_81]; exact add_toInt (by omega) (by omega)
                omega
              have ha_87 : (((yy_3300 : Int32).toInt) + 1) ≤ (x_81 : Int32).toInt := by
                have z_1 := Int32.le_iff_toInt_le.mp (Int32.not_lt.mp c_14)
                have z_2 := Int32.le_iff_toInt_le.mp (Int32.not_lt.mp c_38)
                have y_60 : (60 : Int32).toInt = 60 := by decide
                have y_1 : (1 : Int32).toInt = 1 := by decide
                have t_x_81 : x_81.toInt = (yy_3300 : Int32).toInt + (1 : Int32).toInt := by rw [ex_81]; exact add_toInt (by omega) (by omega)
                omega
              exact ih_32 x_81 sv_71 sv_72 g_80 sv_70 sv_73 _ _ _ (by omega) hL_85 ha_86 (SaidD.mono pf_74 ha_87) (hP.sub [4, 5, 6, 7, 8, 0, 1, 2, 3, 9] rfl) (hD.sub [4, 5, 6, 7, 8, 0, 1, 2, 3, 9] rfl rfl) hS (lv_sub hl [0, 1, 2, 3] rfl)
        have ha_88 : 0 ≤ (0 : Int32).toInt ∧ (0 : Int32).toInt ≤ 61 := by
          have z_1 := Int32.le_iff_toInt_le.mp (Int32.not_lt.mp c_14)
          have y_0 : (0 : Int32).toInt = 0 := by decide
          omega
        have ha_89 : 0 ≤ (0 : Int32).toInt := by
          have z_1 := Int32.le_iff_toInt_le.mp (Int32.not_lt.mp c_14)
          have y_0 : (0 : Int32).toInt = 0 := by decide
          omega
        exact loop_33 _ 0 yy_1201 yy_1202 yy_1204 yy_1205 sv_28 _ _ _ (Nat.lt_succ_self _) rfl ha_88 (SaidD.mono pf_29 ha_89) hP hD hS hl
  have ha_90 : 0 ≤ (0 : Int32).toInt := by
    have y_0 : (0 : Int32).toInt = 0 := by decide
    omega
  exact loop_9 _ 0 (Mg 8) (Mg 9) (Mf 15) (Mf 16) (Mv 10) (Mv 11) (Mf 10) _ _ _ (Nat.lt_succ_self _) rfl ha_90 h_said.1 hP hD hS hl
set_option maxRecDepth 100000 in
theorem cu_dX12_fillsFits {T : Nat → Option Int32} (l : Launch) (D : va_G) (tc : Nat → ClassId) (sk : (Nat → Nat) × (Nat → Nat)) (Ma_0 : Nat) (Ma_1 : Nat) (Ma_2 : Nat) (Ma_3 : Nat) (Ma_4 : Nat) (Ma_5 : Nat) (Ma_6 : Nat) (Ma_7 : Nat) (Ma_8 : Nat) (Ma_9 : Nat) (Ma_10 : Nat) (Ma_11 : Nat) (Ma_12 : Nat) (Ma_13 : Nat) (Ma_14 : Nat) (Ma_15 : Nat) (Ma_16 : Nat) (Ma_17 : Nat) (Ma_18 : Nat) (Ma_19 : Nat) (Ma_20 : Nat) (Mv_0 : Int32) (Mv_1 : Int32) (Mv_2 : Int32) (Mv_3 : Int32) (Mv_4 : Int32) (Mv_5 : Int32) (Mv_6 : Int32) (Mv_7 : Int32) (Mv_8 : Int32) (Mv_9 : Int32) (Mv_10 : Int32) (Mv_11 : Int32) (Mv_12 : Int32) (Mv_13 : Int32) (Mv_14 : Int32) (Mf_2 : Nat → Int32) (Mf_4 : Nat → Int32) (Mf_5 : Nat → Int32) (Mf_10 : Nat → Int32) (Mf_12 : Nat → Int32) (Mf_15 : Nat → Int32) (Mf_16 : Nat → Int32) (Mj_0 : Int64) (Mg_8 : Nat → Int64) (Mg_9 : Nat → Int64) (h_said : SaidD T Mf_10 999) (h_rul : RulD Mf_2 Mf_4 Mf_5 Mv_1) (h_frc : -1 ≤ Mv_11.toInt ∧ Mv_11.toInt < Mv_1.toInt ∧ Mv_1.toInt ≤ 6) : Ct l yX12_fillsFits cX12_fillsFits 4 none { frames := 5, cells := 0, slots := 0, locals := 121 } D tc sk [.ref Ma_0] [(Ma_0, .inr (12, [.ref Ma_1, .int Mv_0, .int Mv_1, .ref Ma_2, .ref Ma_3, .ref Ma_4, .ref Ma_5, .ref Ma_6, .int Mv_2, .int Mv_3, .int Mv_4, .int Mv_5, .int Mv_6, .int Mv_7, .int Mv_8, .ref Ma_7, .int Mv_9, .ref Ma_8, .int Mv_10, .ref Ma_9, .ref Ma_10, .int Mv_11, .int Mv_12, .int Mv_13, .ref Ma_11, .int Mv_14, .ref Ma_12, .ref Ma_13, .ref Ma_14, .ref Ma_15, .ref Ma_16, .long Mj_0, .ref Ma_17, .ref Ma_18, .ref Ma_19, .ref Ma_20])), (Ma_2, .inl (tc 0, 2400, .inl Mf_2)), (Ma_4, .inl (tc 0, 288, .inl Mf_4)), (Ma_5, .inl (tc 0, 6, .inl Mf_5)), (Ma_8, .inl (tc 1, 64, .inr (.inl Mg_8))), (Ma_9, .inl (tc 1, 13, .inr (.inl Mg_9))), (Ma_10, .inl (tc 0, 126, .inl Mf_10)), (Ma_12, .inl (tc 0, 46, .inl Mf_12)), (Ma_15, .inl (tc 3, 7, .inl Mf_15)), (Ma_16, .inl (tc 0, 427, .inl Mf_16))] (fun (v : Option Value) (u : (Int32) × (Nat → Int64) × (Nat → Int64) × (Nat → Int32) × (Nat → Int32) × (Nat → Int32) × (Nat → Int32)) => match u with | (oo0x1, oo0x2, oo0x3, oo0x4, oo0x5, oo0x6, oo0x7) => v = none ∧ (SaidD T oo0x4 999) ∧ (DEq ((oo0x1, oo0x2, oo0x3, oo0x4, oo0x5, oo0x6, oo0x7)) (dX12_fillsFits Mf_2 Mf_4 Mf_5 Mf_10 Mf_12 Mf_15 Mf_16 Mg_8 Mg_9 Mv_1 Mv_10 Mv_11 Mv_13))) (fun (u : (Int32) × (Nat → Int64) × (Nat → Int64) × (Nat → Int32) × (Nat → Int32) × (Nat → Int32) × (Nat → Int32)) => match u with | (oo0x1, oo0x2, oo0x3, oo0x4, oo0x5, oo0x6, oo0x7) => [(Ma_0, .inr (12, [.ref Ma_1, .int Mv_0, .int Mv_1, .ref Ma_2, .ref Ma_3, .ref Ma_4, .ref Ma_5, .ref Ma_6, .int Mv_2, .int Mv_3, .int Mv_4, .int Mv_5, .int Mv_6, .int Mv_7, .int Mv_8, .ref Ma_7, .int Mv_9, .ref Ma_8, .int oo0x1, .ref Ma_9, .ref Ma_10, .int Mv_11, .int Mv_12, .int Mv_13, .ref Ma_11, .int Mv_14, .ref Ma_12, .ref Ma_13, .ref Ma_14, .ref Ma_15, .ref Ma_16, .long Mj_0, .ref Ma_17, .ref Ma_18, .ref Ma_19, .ref Ma_20])), (Ma_2, .inl (tc 0, 2400, .inl Mf_2)), (Ma_4, .inl (tc 0, 288, .inl Mf_4)), (Ma_5, .inl (tc 0, 6, .inl Mf_5)), (Ma_8, .inl (tc 1, 64, .inr (.inl oo0x2))), (Ma_9, .inl (tc 1, 13, .inr (.inl oo0x3))), (Ma_10, .inl (tc 0, 126, .inl oo0x4)), (Ma_12, .inl (tc 0, 46, .inl oo0x5)), (Ma_15, .inl (tc 3, 7, .inl oo0x6)), (Ma_16, .inl (tc 0, 427, .inl oo0x7))]) 0 0 :=
  ct_dX12_fillsFits l D tc sk (fun k => ([Ma_0, Ma_1, Ma_2, Ma_3, Ma_4, Ma_5, Ma_6, Ma_7, Ma_8, Ma_9, Ma_10, Ma_11, Ma_12, Ma_13, Ma_14, Ma_15, Ma_16, Ma_17, Ma_18, Ma_19, Ma_20] : List (Nat)).getD k 0) (fun k => ([Mv_0, Mv_1, Mv_2, Mv_3, Mv_4, Mv_5, Mv_6, Mv_7, Mv_8, Mv_9, Mv_10, Mv_11, Mv_12, Mv_13, Mv_14] : List (Int32)).getD k 0) (fun k => ([(fun _ => 0), (fun _ => 0), Mf_2, (fun _ => 0), Mf_4, Mf_5, (fun _ => 0), (fun _ => 0), (fun _ => 0), (fun _ => 0), Mf_10, (fun _ => 0), Mf_12, (fun _ => 0), (fun _ => 0), Mf_15, Mf_16] : List (Nat → Int32)).getD k (fun _ => 0)) (fun k => ([Mj_0] : List (Int64)).getD k 0) (fun k => ([(fun _ => 0), (fun _ => 0), (fun _ => 0), (fun _ => 0), (fun _ => 0), (fun _ => 0), (fun _ => 0), (fun _ => 0), Mg_8, Mg_9] : List (Nat → Int64)).getD k (fun _ => 0)) h_said h_rul h_frc
def dX12_ruled_l35 (Mf_2 : Nat → Int32) (Mf_4 : Nat → Int32) (Mf_5 : Nat → Int32) (Mf_10 : Nat → Int32) (Mf_12 : Nat → Int32) (Mf_15 : Nat → Int32) (Mf_16 : Nat → Int32) (Mg_8 : Nat → Int64) (Mg_9 : Nat → Int64) (Mv_1 : Int32) (Mv_10 : Int32) (Mv_11 : Int32) (Mv_13 : Int32) : Nat → Int32 → Int32 → Int32 → Int32 × Int32 × Int32
  | 0, _, _, _ => (0, 0, 0)
  | n + 1, yy_3600, yy_3601, yy_3602 => (if yy_3600 < (0 : Int32) then (yy_3600, yy_3601, yy_3602) else (if (((dX12_fillsFits Mf_2 Mf_4 Mf_5 Mf_10 Mf_12 Mf_15 Mf_16 Mg_8 Mg_9 Mv_1 Mv_10 Mv_11 Mv_13).2.2.2.2.2.1) (yy_3600).toNatClampNeg) = (0 : Int32) then dX12_ruled_l35 Mf_2 Mf_4 Mf_5 Mf_10 Mf_12 Mf_15 Mf_16 Mg_8 Mg_9 Mv_1 Mv_10 Mv_11 Mv_13 n (yy_3600 + (-1)) yy_3601 yy_3602 else dX12_ruled_l35 Mf_2 Mf_4 Mf_5 Mf_10 Mf_12 Mf_15 Mf_16 Mg_8 Mg_9 Mv_1 Mv_10 Mv_11 Mv_13 n (yy_3600 + (-1)) (yy_3600 - (1 : Int32)) (yy_3602 + 1)))
theorem dX12_ruled_l35_s {Mf_2 : Nat → Int32} {Mf_4 : Nat → Int32} {Mf_5 : Nat → Int32} {Mf_10 : Nat → Int32} {Mf_12 : Nat → Int32} {Mf_15 : Nat → Int32} {Mf_16 : Nat → Int32} {Mg_8 : Nat → Int64} {Mg_9 : Nat → Int64} {Mv_1 : Int32} {Mv_10 : Int32} {Mv_11 : Int32} {Mv_13 : Int32} {n : Nat} {yy_3600 : Int32} {yy_3601 : Int32} {yy_3602 : Int32} : dX12_ruled_l35 Mf_2 Mf_4 Mf_5 Mf_10 Mf_12 Mf_15 Mf_16 Mg_8 Mg_9 Mv_1 Mv_10 Mv_11 Mv_13 (n + 1) yy_3600 yy_3601 yy_3602 = (if yy_3600 < (0 : Int32) then (yy_3600, yy_3601, yy_3602) else (if (((dX12_fillsFits Mf_2 Mf_4 Mf_5 Mf_10 Mf_12 Mf_15 Mf_16 Mg_8 Mg_9 Mv_1 Mv_10 Mv_11 Mv_13).2.2.2.2.2.1) (yy_3600).toNatClampNeg) = (0 : Int32) then dX12_ruled_l35 Mf_2 Mf_4 Mf_5 Mf_10 Mf_12 Mf_15 Mf_16 Mg_8 Mg_9 Mv_1 Mv_10 Mv_11 Mv_13 n (yy_3600 + (-1)) yy_3601 yy_3602 else dX12_ruled_l35 Mf_2 Mf_4 Mf_5 Mf_10 Mf_12 Mf_15 Mf_16 Mg_8 Mg_9 Mv_1 Mv_10 Mv_11 Mv_13 n (yy_3600 + (-1)) (yy_3600 - (1 : Int32)) (yy_3602 + 1))) := rfl
def dX12_ruled (Mf_2 : Nat → Int32) (Mf_4 : Nat → Int32) (Mf_5 : Nat → Int32) (Mf_10 : Nat → Int32) (Mf_12 : Nat → Int32) (Mf_15 : Nat → Int32) (Mf_16 : Nat → Int32) (Mg_8 : Nat → Int64) (Mg_9 : Nat → Int64) (Mv_1 : Int32) (Mv_10 : Int32) (Mv_11 : Int32) (Mv_13 : Int32) (x1 : Int32) : Int32 × Int32 × (Nat → Int64) × (Nat → Int64) × (Nat → Int32) × (Nat → Int32) × (Nat → Int32) × (Nat → Int32) := (if (dX12_isBook Mf_10) = (0 : Int32) then ((-3 : Int32), Mv_10, Mg_8, Mg_9, Mf_10, Mf_12, Mf_15, Mf_16) else (if (dX12_in (x1).toInt64 (0 : Int64) (1 : Int64)) = (0 : Int32) then ((-3 : Int32), Mv_10, Mg_8, Mg_9, Mf_10, Mf_12, Mf_15, Mf_16) else (if x1 = (0 : Int32) then ((dX12_ruled_l35 Mf_2 Mf_4 Mf_5 Mf_10 Mf_12 Mf_15 Mf_16 Mg_8 Mg_9 Mv_1 Mv_10 Mv_11 Mv_13 (((Mv_1 : Int32).toInt + 1).toNat + 1) Mv_1 (-2 : Int32) (0 : Int32)).2.2, (dX12_fillsFits Mf_2 Mf_4 Mf_5 Mf_10 Mf_12 Mf_15 Mf_16 Mg_8 Mg_9 Mv_1 Mv_10 Mv_11 Mv_13).1, ((dX12_fillsFits Mf_2 Mf_4 Mf_5 Mf_10 Mf_12 Mf_15 Mf_16 Mg_8 Mg_9 Mv_1 Mv_10 Mv_11 Mv_13).2.1), ((dX12_fillsFits Mf_2 Mf_4 Mf_5 Mf_10 Mf_12 Mf_15 Mf_16 Mg_8 Mg_9 Mv_1 Mv_10 Mv_11 Mv_13).2.2.1), ((dX12_fillsFits Mf_2 Mf_4 Mf_5 Mf_10 Mf_12 Mf_15 Mf_16 Mg_8 Mg_9 Mv_1 Mv_10 Mv_11 Mv_13).2.2.2.1), ((dX12_fillsFits Mf_2 Mf_4 Mf_5 Mf_10 Mf_12 Mf_15 Mf_16 Mg_8 Mg_9 Mv_1 Mv_10 Mv_11 Mv_13).2.2.2.2.1), ((dX12_fillsFits Mf_2 Mf_4 Mf_5 Mf_10 Mf_12 Mf_15 Mf_16 Mg_8 Mg_9 Mv_1 Mv_10 Mv_11 Mv_13).2.2.2.2.2.1), ((dX12_fillsFits Mf_2 Mf_4 Mf_5 Mf_10 Mf_12 Mf_15 Mf_16 Mg_8 Mg_9 Mv_1 Mv_10 Mv_11 Mv_13).2.2.2.2.2.2)) else ((dX12_ruled_l35 Mf_2 Mf_4 Mf_5 Mf_10 Mf_12 Mf_15 Mf_16 Mg_8 Mg_9 Mv_1 Mv_10 Mv_11 Mv_13 (((Mv_1 : Int32).toInt + 1).toNat + 1) Mv_1 (-2 : Int32) (0 : Int32)).2.1, (dX12_fillsFits Mf_2 Mf_4 Mf_5 Mf_10 Mf_12 Mf_15 Mf_16 Mg_8 Mg_9 Mv_1 Mv_10 Mv_11 Mv_13).1, ((dX12_fillsFits Mf_2 Mf_4 Mf_5 Mf_10 Mf_12 Mf_15 Mf_16 Mg_8 Mg_9 Mv_1 Mv_10 Mv_11 Mv_13).2.1), ((dX12_fillsFits Mf_2 Mf_4 Mf_5 Mf_10 Mf_12 Mf_15 Mf_16 Mg_8 Mg_9 Mv_1 Mv_10 Mv_11 Mv_13).2.2.1), ((dX12_fillsFits Mf_2 Mf_4 Mf_5 Mf_10 Mf_12 Mf_15 Mf_16 Mg_8 Mg_9 Mv_1 Mv_10 Mv_11 Mv_13).2.2.2.1), ((dX12_fillsFits Mf_2 Mf_4 Mf_5 Mf_10 Mf_12 Mf_15 Mf_16 Mg_8 Mg_9 Mv_1 Mv_10 Mv_11 Mv_13).2.2.2.2.1), ((dX12_fillsFits Mf_2 Mf_4 Mf_5 Mf_10 Mf_12 Mf_15 Mf_16 Mg_8 Mg_9 Mv_1 Mv_10 Mv_11 Mv_13).2.2.2.2.2.1), ((dX12_fillsFits Mf_2 Mf_4 Mf_5 Mf_10 Mf_12 Mf_15 Mf_16 Mg_8 Mg_9 Mv_1 Mv_10 Mv_11 Mv_13).2.2.2.2.2.2)))))
set_option maxHeartbeats 4000000 in
set_option maxRecDepth 100000 in
theorem ct_dX12_ruled {T : Nat → Option Int32} (l : Launch) (D : va_G) (tc : Nat → ClassId) (sk : (Nat → Nat) × (Nat → Nat)) (Ma : Nat → Nat) (Mv : Nat → Int32) (Mf : Nat → Nat → Int32) (Mj : Nat → Int64) (Mg : Nat → Nat → Int64) (x1 : Int32) (h_said : SaidD T (Mf 10) 999) (h_rul : RulD (Mf 2) (Mf 4) (Mf 5) (Mv 1)) (h_frc : -1 ≤ (Mv 11).toInt ∧ (Mv 11).toInt < (Mv 1).toInt ∧ (Mv 1).toInt ≤ 6) : Ct l yX12_ruled cX12_ruled 5 (some .int) { frames := 6, cells := 0, slots := 0, locals := 144 } D tc sk [.ref (Ma 0), .int x1] [((Ma 0), .inr (12, [.ref (Ma 1), .int (Mv 0), .int (Mv 1), .ref (Ma 2), .ref (Ma 3), .ref (Ma 4), .ref (Ma 5), .ref (Ma 6), .int (Mv 2), .int (Mv 3), .int (Mv 4), .int (Mv 5), .int (Mv 6), .int (Mv 7), .int (Mv 8), .ref (Ma 7), .int (Mv 9), .ref (Ma 8), .int (Mv 10), .ref (Ma 9), .ref (Ma 10), .int (Mv 11), .int (Mv 12), .int (Mv 13), .ref (Ma 11), .int (Mv 14), .ref (Ma 12), .ref (Ma 13), .ref (Ma 14), .ref (Ma 15), .ref (Ma 16), .long (Mj 0), .ref (Ma 17), .ref (Ma 18), .ref (Ma 19), .ref (Ma 20)])), ((Ma 2), .inl (tc 0, 2400, .inl (Mf 2))), ((Ma 4), .inl (tc 0, 288, .inl (Mf 4))), ((Ma 5), .inl (tc 0, 6, .inl (Mf 5))), ((Ma 8), .inl (tc 1, 64, .inr (.inl (Mg 8)))), ((Ma 9), .inl (tc 1, 13, .inr (.inl (Mg 9)))), ((Ma 10), .inl (tc 0, 126, .inl (Mf 10))), ((Ma 12), .inl (tc 0, 46, .inl (Mf 12))), ((Ma 15), .inl (tc 3, 7, .inl (Mf 15))), ((Ma 16), .inl (tc 0, 427, .inl (Mf 16)))] (fun (v : Option Value) (u : (Int32) × (Nat → Int64) × (Nat → Int64) × (Nat → Int32) × (Nat → Int32) × (Nat → Int32) × (Nat → Int32)) => match u with | (oo0x1, oo0x2, oo0x3, oo0x4, oo0x5, oo0x6, oo0x7) => ∃ r : Int32, v = some (.int r) ∧ ((True) ∧ (r, oo0x1, oo0x2, oo0x3, oo0x4, oo0x5, oo0x6, oo0x7) = (dX12_ruled (Mf 2) (Mf 4) (Mf 5) (Mf 10) (Mf 12) (Mf 15) (Mf 16) (Mg 8) (Mg 9) (Mv 1) (Mv 10) (Mv 11) (Mv 13) x1)) ∧ (SaidD T oo0x4 999)) (fun (u : (Int32) × (Nat → Int64) × (Nat → Int64) × (Nat → Int32) × (Nat → Int32) × (Nat → Int32) × (Nat → Int32)) => match u with | (oo0x1, oo0x2, oo0x3, oo0x4, oo0x5, oo0x6, oo0x7) => [((Ma 0), .inr (12, [.ref (Ma 1), .int (Mv 0), .int (Mv 1), .ref (Ma 2), .ref (Ma 3), .ref (Ma 4), .ref (Ma 5), .ref (Ma 6), .int (Mv 2), .int (Mv 3), .int (Mv 4), .int (Mv 5), .int (Mv 6), .int (Mv 7), .int (Mv 8), .ref (Ma 7), .int (Mv 9), .ref (Ma 8), .int oo0x1, .ref (Ma 9), .ref (Ma 10), .int (Mv 11), .int (Mv 12), .int (Mv 13), .ref (Ma 11), .int (Mv 14), .ref (Ma 12), .ref (Ma 13), .ref (Ma 14), .ref (Ma 15), .ref (Ma 16), .long (Mj 0), .ref (Ma 17), .ref (Ma 18), .ref (Ma 19), .ref (Ma 20)])), ((Ma 2), .inl (tc 0, 2400, .inl (Mf 2))), ((Ma 4), .inl (tc 0, 288, .inl (Mf 4))), ((Ma 5), .inl (tc 0, 6, .inl (Mf 5))), ((Ma 8), .inl (tc 1, 64, .inr (.inl oo0x2))), ((Ma 9), .inl (tc 1, 13, .inr (.inl oo0x3))), ((Ma 10), .inl (tc 0, 126, .inl oo0x4)), ((Ma 12), .inl (tc 0, 46, .inl oo0x5)), ((Ma 15), .inl (tc 3, 7, .inl oo0x6)), ((Ma 16), .inl (tc 0, 427, .inl oo0x7))]) 0 0 := by
  refine Ct.start (by decide) (Nat.le_of_ble_eq_true rfl) (fun p e s m below meth c A ls hx hb hr hlk hin hml hown hts hK hX hP hD hA hl hS => ?_)
  have hl : lv_has ls 5 [(0, .ref (Ma 0)), (1, .int x1)] := hl
  have ar_h_said := SaidD.ar h_said
  refine lv_aload_n hx hb dX12_ruled_0 rfl (lv_at hl 0 rfl) ?_
  refine cV (a := (Ma 0)) (As := []) (rest := []) (wr := [((Ma 2), .inl (tc 0, 2400, .inl (Mf 2))), ((Ma 4), .inl (tc 0, 288, .inl (Mf 4))), ((Ma 5), .inl (tc 0, 6, .inl (Mf 5))), ((Ma 8), .inl (tc 1, 64, .inr (.inl (Mg 8)))), ((Ma 9), .inl (tc 1, 13, .inr (.inl (Mg 9)))), ((Ma 12), .inl (tc 0, 46, .inl (Mf 12))), ((Ma 15), .inl (tc 3, 7, .inl (Mf 15))), ((Ma 16), .inl (tc 0, 427, .inl (Mf 16)))]) ⟨hx, hb, hml, hown, hts⟩ hK hX hA (cu_dX12_isBook l D tc sk (Ma 0) (Ma 1) (Ma 2) (Ma 3) (Ma 4) (Ma 5) (Ma 6) (Ma 7) (Ma 8) (Ma 9) (Ma 10) (Ma 11) (Ma 12) (Ma 13) (Ma 14) (Ma 15) (Ma 16) (Ma 17) (Ma 18) (Ma 19) (Ma 20) (Mv 0) (Mv 1) (Mv 2) (Mv 3) (Mv 4) (Mv 5) (Mv 6) (Mv 7) (Mv 8) (Mv 9) (Mv 10) (Mv 11) (Mv 12) (Mv 13) (Mv 14) (Mf 10) (Mj 0) h_said.1) k_1407 k_1404 k_1406 k_65 k_106 pl_X12_isBook ⟨Nat.le_of_ble_eq_true rfl, Nat.le_of_ble_eq_true rfl⟩ rfl rfl (va_recv hK hP (ci := 12) (q0 := 0) rfl rfl) hP hD hS [0, 6] [1, 2, 3, 4, 5, 7, 8, 9] rfl rfl rfl rfl rfl (by decide) rfl hl.1 rfl (Nat.le_of_ble_eq_true rfl) dX12_ruled_1 ⟨Nat.le_of_ble_eq_true rfl, Nat.le_of_ble_eq_true rfl⟩ (fun v_1 u_2 H locs hv_3 hP₀ hD₀ hS₀ => ?_)
  obtain ⟨r_4, rfl, he_5⟩ := hv_3
  have he_5 : ((r_4.toInt = 0 ∨ (r_4.toInt = 1 ∧ 1 ≤ ((Mf 10) 2).toInt ∧ ((Mf 10) 2).toInt ≤ 10))) ∧ r_4 = (dX12_isBook (Mf 10)) := he_5
  refine W.eq (g2 := F0 m 4 ls [.int r_4]) rfl ?_
  replace hP : va_P D classes [((Ma 2), .inl (tc 0, 2400, .inl (Mf 2))), ((Ma 4), .inl (tc 0, 288, .inl (Mf 4))), ((Ma 5), .inl (tc 0, 6, .inl (Mf 5))), ((Ma 8), .inl (tc 1, 64, .inr (.inl (Mg 8)))), ((Ma 9), .inl (tc 1, 13, .inr (.inl (Mg 9)))), ((Ma 12), .inl (tc 0, 46, .inl (Mf 12))), ((Ma 15), .inl (tc 3, 7, .inl (Mf 15))), ((Ma 16), .inl (tc 0, 427, .inl (Mf 16))), ((Ma 0), .inr (12, [.ref (Ma 1), .int (Mv 0), .int (Mv 1), .ref (Ma 2), .ref (Ma 3), .ref (Ma 4), .ref (Ma 5), .ref (Ma 6), .int (Mv 2), .int (Mv 3), .int (Mv 4), .int (Mv 5), .int (Mv 6), .int (Mv 7), .int (Mv 8), .ref (Ma 7), .int (Mv 9), .ref (Ma 8), .int (Mv 10), .ref (Ma 9), .ref (Ma 10), .int (Mv 11), .int (Mv 12), .int (Mv 13), .ref (Ma 11), .int (Mv 14), .ref (Ma 12), .ref (Ma 13), .ref (Ma 14), .ref (Ma 15), .ref (Ma 16), .long (Mj 0), .ref (Ma 17), .ref (Ma 18), .ref (Ma 19), .ref (Ma 20)])), ((Ma 10), .inl (tc 0, 126, .inl (Mf 10)))] H := hP₀
  replace hD : va_D A [((Ma 2), .inl (tc 0, 2400, .inl (Mf 2))), ((Ma 4), .inl (tc 0, 288, .inl (Mf 4))), ((Ma 5), .inl (tc 0, 6, .inl (Mf 5))), ((Ma 8), .inl (tc 1, 64, .inr (.inl (Mg 8)))), ((Ma 9), .inl (tc 1, 13, .inr (.inl (Mg 9)))), ((Ma 12), .inl (tc 0, 46, .inl (Mf 12))), ((Ma 15), .inl (tc 3, 7, .inl (Mf 15))), ((Ma 16), .inl (tc 0, 427, .inl (Mf 16))), ((Ma 0), .inr (12, [.ref (Ma 1), .int (Mv 0), .int (Mv 1), .ref (Ma 2), .ref (Ma 3), .ref (Ma 4), .ref (Ma 5), .ref (Ma 6), .int (Mv 2), .int (Mv 3), .int (Mv 4), .int (Mv 5), .int (Mv 6), .int (Mv 7), .int (Mv 8), .ref (Ma 7), .int (Mv 9), .ref (Ma 8), .int (Mv 10), .ref (Ma 9), .ref (Ma 10), .int (Mv 11), .int (Mv 12), .int (Mv 13), .ref (Ma 11), .int (Mv 14), .ref (Ma 12), .ref (Ma 13), .ref (Ma 14), .ref (Ma 15), .ref (Ma 16), .long (Mj 0), .ref (Ma 17), .ref (Ma 18), .ref (Ma 19), .ref (Ma 20)])), ((Ma 10), .inl (tc 0, 126, .inl (Mf 10)))] := hD₀
  replace hS := hS₀
  clear hP₀ hD₀ hS₀
  obtain ⟨he_5, hq_7⟩ := he_5
  have er_4 : r_4 = (dX12_isBook (Mf 10)) := hq_7
  refine lv_if_eq (tgt := 17) hx hb dX12_ruled_4 (by decide) (fun c_8 => ?_) (fun c_8 => ?_)
  · skip
    refine lv_bipush (v := (-3)) hx hb dX12_ruled_17 (by decide) ?_
    have hF_9 : ((-3 : Int32), (Mv 10), (Mg 8), (Mg 9), (Mf 10), (Mf 12), (Mf 15), (Mf 16)) = (dX12_ruled (Mf 2) (Mf 4) (Mf 5) (Mf 10) (Mf 12) (Mf 15) (Mf 16) (Mg 8) (Mg 9) (Mv 1) (Mv 10) (Mv 11) (Mv 13) x1) := by
      clear hP hD hS hl
      replace er_4 := er_4.symm; subst er_4
      unfold dX12_ruled
      rw [if_pos c_8]
      try rfl
    exact retI (v := (-3)) hx hb hr hlk (rfl) hP hD hS ((Mv 10), (Mg 8), (Mg 9), (Mf 10), (Mf 12), (Mf 15), (Mf 16)) ⟨_, rfl, ⟨trivial, hF_9⟩, h_said⟩ [8, 0, 1, 2, 3, 4, 9, 5, 6, 7] rfl rfl dX12_ruled_19 (Nat.le_of_ble_eq_true rfl) (Nat.le_of_ble_eq_true rfl) rfl
  · skip
    refine lv_iload_n hx hb dX12_ruled_7 rfl (lv_at hl 1 rfl) ?_
    refine lv_i2l (v := (x1).toInt64) hx hb dX12_ruled_8 rfl ?_
    refine lv_lconst (v := 0) hx hb dX12_ruled_9 (by decide) ?_
    refine lv_lconst (v := 1) hx hb dX12_ruled_10 (by decide) ?_
    refine cS (As := [.long (x1).toInt64, .long 0, .long 1]) (rest := []) (wr := [((Ma 2), .inl (tc 0, 2400, .inl (Mf 2))), ((Ma 4), .inl (tc 0, 288, .inl (Mf 4))), ((Ma 5), .inl (tc 0, 6, .inl (Mf 5))), ((Ma 8), .inl (tc 1, 64, .inr (.inl (Mg 8)))), ((Ma 9), .inl (tc 1, 13, .inr (.inl (Mg 9)))), ((Ma 12), .inl (tc 0, 46, .inl (Mf 12))), ((Ma 15), .inl (tc 3, 7, .inl (Mf 15))), ((Ma 16), .inl (tc 0, 427, .inl (Mf 16))), ((Ma 0), .inr (12, [.ref (Ma 1), .int (Mv 0), .int (Mv 1), .ref (Ma 2), .ref (Ma 3), .ref (Ma 4), .ref (Ma 5), .ref (Ma 6), .int (Mv 2), .int (Mv 3), .int (Mv 4), .int (Mv 5), .int (Mv 6), .int (Mv 7), .int (Mv 8), .ref (Ma 7), .int (Mv 9), .ref (Ma 8), .int (Mv 10), .ref (Ma 9), .ref (Ma 10), .int (Mv 11), .int (Mv 12), .int (Mv 13), .ref (Ma 11), .int (Mv 14), .ref (Ma 12), .ref (Ma 13), .ref (Ma 14), .ref (Ma 15), .ref (Ma 16), .long (Mj 0), .ref (Ma 17), .ref (Ma 18), .ref (Ma 19), .ref (Ma 20)])), ((Ma 10), .inl (tc 0, 126, .inl (Mf 10)))]) ⟨hx, hb, hml, hown, hts⟩ hK hX hA (ct_dX12_in l D tc sk ((x1).toInt64) 0 1) k_1259 k_1257 k_1258 k_106 pl_X12_in ⟨Nat.le_of_ble_eq_true rfl, Nat.le_of_ble_eq_true rfl⟩ rfl rfl  hP hD hS [] [0, 1, 2, 3, 4, 5, 6, 7, 8, 9] rfl rfl rfl rfl rfl (by decide) rfl hl.1 rfl (Nat.le_of_ble_eq_true rfl) dX12_ruled_11 ⟨Nat.le_of_ble_eq_true rfl, Nat.le_of_ble_eq_true rfl⟩ (fun v_10 u_11 H locs hv_12 hP₀ hD₀ hS₀ => ?_)
    obtain ⟨r_13, rfl, he_14⟩ := hv_12
    have he_14 : ((r_13.toInt = 0 ∨ (r_13.toInt = 1 ∧ (0 : Int64).toInt ≤ (x1).toInt64.toInt ∧ (x1).toInt64.toInt ≤ (1 : Int64).toInt))) ∧ r_13 = (dX12_in (x1).toInt64 (0 : Int64) (1 : Int64)) := he_14
    refine W.eq (g2 := F0 m 14 ls [.int r_13]) rfl ?_
    replace hP : va_P D classes [((Ma 2), .inl (tc 0, 2400, .inl (Mf 2))), ((Ma 4), .inl (tc 0, 288, .inl (Mf 4))), ((Ma 5), .inl (tc 0, 6, .inl (Mf 5))), ((Ma 8), .inl (tc 1, 64, .inr (.inl (Mg 8)))), ((Ma 9), .inl (tc 1, 13, .inr (.inl (Mg 9)))), ((Ma 12), .inl (tc 0, 46, .inl (Mf 12))), ((Ma 15), .inl (tc 3, 7, .inl (Mf 15))), ((Ma 16), .inl (tc 0, 427, .inl (Mf 16))), ((Ma 0), .inr (12, [.ref (Ma 1), .int (Mv 0), .int (Mv 1), .ref (Ma 2), .ref (Ma 3), .ref (Ma 4), .ref (Ma 5), .ref (Ma 6), .int (Mv 2), .int (Mv 3), .int (Mv 4), .int (Mv 5), .int (Mv 6), .int (Mv 7), .int (Mv 8), .ref (Ma 7), .int (Mv 9), .ref (Ma 8), .int (Mv 10), .ref (Ma 9), .ref (Ma 10), .int (Mv 11), .int (Mv 12), .int (Mv 13), .ref (Ma 11), .int (Mv 14), .ref (Ma 12), .ref (Ma 13), .ref (Ma 14), .ref (Ma 15), .ref (Ma 16), .long (Mj 0), .ref (Ma 17), .ref (Ma 18), .ref (Ma 19), .ref (Ma 20)])), ((Ma 10), .inl (tc 0, 126, .inl (Mf 10)))] H := hP₀
    replace hD : va_D A [((Ma 2), .inl (tc 0, 2400, .inl (Mf 2))), ((Ma 4), .inl (tc 0, 288, .inl (Mf 4))), ((Ma 5), .inl (tc 0, 6, .inl (Mf 5))), ((Ma 8), .inl (tc 1, 64, .inr (.inl (Mg 8)))), ((Ma 9), .inl (tc 1, 13, .inr (.inl (Mg 9)))), ((Ma 12), .inl (tc 0, 46, .inl (Mf 12))), ((Ma 15), .inl (tc 3, 7, .inl (Mf 15))), ((Ma 16), .inl (tc 0, 427, .inl (Mf 16))), ((Ma 0), .inr (12, [.ref (Ma 1), .int (Mv 0), .int (Mv 1), .ref (Ma 2), .ref (Ma 3), .ref (Ma 4), .ref (Ma 5), .ref (Ma 6), .int (Mv 2), .int (Mv 3), .int (Mv 4), .int (Mv 5), .int (Mv 6), .int (Mv 7), .int (Mv 8), .ref (Ma 7), .int (Mv 9), .ref (Ma 8), .int (Mv 10), .ref (Ma 9), .ref (Ma 10), .int (Mv 11), .int (Mv 12), .int (Mv 13), .ref (Ma 11), .int (Mv 14), .ref (Ma 12), .ref (Ma 13), .ref (Ma 14), .ref (Ma 15), .ref (Ma 16), .long (Mj 0), .ref (Ma 17), .ref (Ma 18), .ref (Ma 19), .ref (Ma 20)])), ((Ma 10), .inl (tc 0, 126, .inl (Mf 10)))] := hD₀
    replace hS := hS₀
    clear hP₀ hD₀ hS₀
    have yl_he_14_0 : (0 : Int64).toInt = 0 := by decide
    have yl_he_14_1 : (1 : Int64).toInt = 1 := by decide
    simp only [i32_64] at he_14
    obtain ⟨he_14, hq_16⟩ := he_14
    have er_13 : r_13 = (dX12_in ((x1).toInt64) (0 : Int64) (1 : Int64)) := hq_16
    refine lv_if_ne (tgt := 20) hx hb dX12_ruled_14 (by decide) (fun c_17 => ?_) (fun c_17 => ?_)
    · skip
      refine lv_aload_n hx hb dX12_ruled_20 rfl (lv_at hl 0 rfl) ?_
      refine cV (a := (Ma 0)) (As := []) (rest := []) (wr := []) ⟨hx, hb, hml, hown, hts⟩ hK hX hA (cu_dX12_fillsFits l D tc sk (Ma 0) (Ma 1) (Ma 2) (Ma 3) (Ma 4) (Ma 5) (Ma 6) (Ma 7) (Ma 8) (Ma 9) (Ma 10) (Ma 11) (Ma 12) (Ma 13) (Ma 14) (Ma 15) (Ma 16) (Ma 17) (Ma 18) (Ma 19) (Ma 20) (Mv 0) (Mv 1) (Mv 2) (Mv 3) (Mv 4) (Mv 5) (Mv 6) (Mv 7) (Mv 8) (Mv 9) (Mv 10) (Mv 11) (Mv 12) (Mv 13) (Mv 14) (Mf 2) (Mf 4) (Mf 5) (Mf 10) (Mf 12) (Mf 15) (Mf 16) (Mj 0) (Mg 8) (Mg 9) h_said h_rul h_frc) k_1606 k_1603 k_1605 k_89 k_106 pl_X12_fillsFits ⟨Nat.le_of_ble_eq_true rfl, Nat.le_of_ble_eq_true rfl⟩ rfl rfl (va_recv hK hP (ci := 12) (q0 := 8) rfl rfl) hP hD hS [8, 0, 1, 2, 3, 4, 9, 5, 6, 7] [] rfl rfl rfl rfl rfl (by decide) rfl hl.1 rfl (Nat.le_of_ble_eq_true rfl) dX12_ruled_21 ⟨Nat.le_of_ble_eq_true rfl, Nat.le_of_ble_eq_true rfl⟩ (fun v_18 u_19 H locs hv_20 hP₀ hD₀ hS₀ => ?_)
      obtain ⟨sv_21, sv_22, sv_23, sv_24, sv_25, sv_26, sv_27⟩ := u_19
      obtain ⟨rfl, pf_28, pf_29⟩ := hv_20
      have pf_28 : SaidD T sv_24 999 := pf_28
      have ar_pf_28 := SaidD.ar pf_28
      have pf_29 : DEq ((sv_21, sv_22, sv_23, sv_24, sv_25, sv_26, sv_27)) (dX12_fillsFits (Mf 2) (Mf 4) (Mf 5) (Mf 10) (Mf 12) (Mf 15) (Mf 16) (Mg 8) (Mg 9) (Mv 1) (Mv 10) (Mv 11) (Mv 13)) := pf_29
      refine W.eq (g2 := F0 m 24 ls []) rfl ?_
      replace hP : va_P D classes [((Ma 0), .inr (12, [.ref (Ma 1), .int (Mv 0), .int (Mv 1), .ref (Ma 2), .ref (Ma 3), .ref (Ma 4), .ref (Ma 5), .ref (Ma 6), .int (Mv 2), .int (Mv 3), .int (Mv 4), .int (Mv 5), .int (Mv 6), .int (Mv 7), .int (Mv 8), .ref (Ma 7), .int (Mv 9), .ref (Ma 8), .int sv_21, .ref (Ma 9), .ref (Ma 10), .int (Mv 11), .int (Mv 12), .int (Mv 13), .ref (Ma 11), .int (Mv 14), .ref (Ma 12), .ref (Ma 13), .ref (Ma 14), .ref (Ma 15), .ref (Ma 16), .long (Mj 0), .ref (Ma 17), .ref (Ma 18), .ref (Ma 19), .ref (Ma 20)])), ((Ma 2), .inl (tc 0, 2400, .inl (Mf 2))), ((Ma 4), .inl (tc 0, 288, .inl (Mf 4))), ((Ma 5), .inl (tc 0, 6, .inl (Mf 5))), ((Ma 8), .inl (tc 1, 64, .inr (.inl sv_22))), ((Ma 9), .inl (tc 1, 13, .inr (.inl sv_23))), ((Ma 10), .inl (tc 0, 126, .inl sv_24)), ((Ma 12), .inl (tc 0, 46, .inl sv_25)), ((Ma 15), .inl (tc 3, 7, .inl sv_26)), ((Ma 16), .inl (tc 0, 427, .inl sv_27))] H := hP₀
      replace hD : va_D A [((Ma 0), .inr (12, [.ref (Ma 1), .int (Mv 0), .int (Mv 1), .ref (Ma 2), .ref (Ma 3), .ref (Ma 4), .ref (Ma 5), .ref (Ma 6), .int (Mv 2), .int (Mv 3), .int (Mv 4), .int (Mv 5), .int (Mv 6), .int (Mv 7), .int (Mv 8), .ref (Ma 7), .int (Mv 9), .ref (Ma 8), .int sv_21, .ref (Ma 9), .ref (Ma 10), .int (Mv 11), .int (Mv 12), .int (Mv 13), .ref (Ma 11), .int (Mv 14), .ref (Ma 12), .ref (Ma 13), .ref (Ma 14), .ref (Ma 15), .ref (Ma 16), .long (Mj 0), .ref (Ma 17), .ref (Ma 18), .ref (Ma 19), .ref (Ma 20)])), ((Ma 2), .inl (tc 0, 2400, .inl (Mf 2))), ((Ma 4), .inl (tc 0, 288, .inl (Mf 4))), ((Ma 5), .inl (tc 0, 6, .inl (Mf 5))), ((Ma 8), .inl (tc 1, 64, .inr (.inl sv_22))), ((Ma 9), .inl (tc 1, 13, .inr (.inl sv_23))), ((Ma 10), .inl (tc 0, 126, .inl sv_24)), ((Ma 12), .inl (tc 0, 46, .inl sv_25)), ((Ma 15), .inl (tc 3, 7, .inl sv_26)), ((Ma 16), .inl (tc 0, 427, .inl sv_27))] := hD₀
      replace hS := hS₀
      clear hP₀ hD₀ hS₀
      have esv_21 : sv_21 = (dX12_fillsFits (Mf 2) (Mf 4) (Mf 5) (Mf 10) (Mf 12) (Mf 15) (Mf 16) (Mg 8) (Mg 9) (Mv 1) (Mv 10) (Mv 11) (Mv 13)).1 := congrArg (fun z => z.1) pf_29
      have esv_22 : sv_22 = (dX12_fillsFits (Mf 2) (Mf 4) (Mf 5) (Mf 10) (Mf 12) (Mf 15) (Mf 16) (Mg 8) (Mg 9) (Mv 1) (Mv 10) (Mv 11) (Mv 13)).2.1 := congrArg (fun z => z.2.1) pf_29
      have esv_23 : sv_23 = (dX12_fillsFits (Mf 2) (Mf 4) (Mf 5) (Mf 10) (Mf 12) (Mf 15) (Mf 16) (Mg 8) (Mg 9) (Mv 1) (Mv 10) (Mv 11) (Mv 13)).2.2.1 := congrArg (fun z => z.2.2.1) pf_29
      have esv_24 : sv_24 = (dX12_fillsFits (Mf 2) (Mf 4) (Mf 5) (Mf 10) (Mf 12) (Mf 15) (Mf 16) (Mg 8) (Mg 9) (Mv 1) (Mv 10) (Mv 11) (Mv 13)).2.2.2.1 := congrArg (fun z => z.2.2.2.1) pf_29
      have esv_25 : sv_25 = (dX12_fillsFits (Mf 2) (Mf 4) (Mf 5) (Mf 10) (Mf 12) (Mf 15) (Mf 16) (Mg 8) (Mg 9) (Mv 1) (Mv 10) (Mv 11) (Mv 13)).2.2.2.2.1 := congrArg (fun z => z.2.2.2.2.1) pf_29
      have esv_26 : sv_26 = (dX12_fillsFits (Mf 2) (Mf 4) (Mf 5) (Mf 10) (Mf 12) (Mf 15) (Mf 16) (Mg 8) (Mg 9) (Mv 1) (Mv 10) (Mv 11) (Mv 13)).2.2.2.2.2.1 := congrArg (fun z => z.2.2.2.2.2.1) pf_29
      have esv_27 : sv_27 = (dX12_fillsFits (Mf 2) (Mf 4) (Mf 5) (Mf 10) (Mf 12) (Mf 15) (Mf 16) (Mg 8) (Mg 9) (Mv 1) (Mv 10) (Mv 11) (Mv 13)).2.2.2.2.2.2 := congrArg (fun z => z.2.2.2.2.2.2) pf_29
      refine lv_iconst (v := 0) hx hb dX12_ruled_24 (by decide) ?_
      refine lv_istore_n (lv' := [(2, .int 0), (0, .ref (Ma 0)), (1, .int x1)]) hx hb dX12_ruled_25 rfl hl (by decide) rfl (fun ls hl₀ => ?_)
      replace hl := hl₀
      clear hl₀
      refine lv_bipush (v := (-2)) hx hb dX12_ruled_26 (by decide) ?_
      refine lv_istore_n (lv' := [(3, .int (-2)), (2, .int 0), (0, .ref (Ma 0)), (1, .int x1)]) hx hb dX12_ruled_28 rfl hl (by decide) rfl (fun ls hl₀ => ?_)
      replace hl := hl₀
      clear hl₀
      refine lv_aload_n hx hb dX12_ruled_29 rfl (lv_at hl 2 rfl) ?_
      refine gf_X12_256 hx hb hts hown hK hP 0 rfl rfl dX12_ruled_30 ?_
      refine lv_istore (lv' := [(4, .int (Mv 1)), (3, .int (-2)), (2, .int 0), (0, .ref (Ma 0)), (1, .int x1)]) hx hb dX12_ruled_33 hl (by decide) rfl (fun ls hl₀ => ?_)
      replace hl := hl₀
      clear hl₀
      have loop_32 : ∀ (n_30 : Nat) (yy_3600 : Int32) (yy_3601 : Int32) (yy_3602 : Int32) (H : Heap) (locs : List Loc) (ls : Array Slot), ((yy_3600 : Int32).toInt + 1).toNat < n_30 → (dX12_ruled_l35 (Mf 2) (Mf 4) (Mf 5) (Mf 10) (Mf 12) (Mf 15) (Mf 16) (Mg 8) (Mg 9) (Mv 1) (Mv 10) (Mv 11) (Mv 13) ((((Mv 1) : Int32).toInt + 1).toNat + 1) (Mv 1) ((-2) : Int32) (0 : Int32)) = dX12_ruled_l35 (Mf 2) (Mf 4) (Mf 5) (Mf 10) (Mf 12) (Mf 15) (Mf 16) (Mg 8) (Mg 9) (Mv 1) (Mv 10) (Mv 11) (Mv 13) (((yy_3600 : Int32).toInt + 1).toNat + 1) yy_3600 yy_3601 yy_3602 → (-1 ≤ (yy_3600 : Int32).toInt ∧ (yy_3600 : Int32).toInt ≤ 6) → va_P D classes [((Ma 0), .inr (12, [.ref (Ma 1), .int (Mv 0), .int (Mv 1), .ref (Ma 2), .ref (Ma 3), .ref (Ma 4), .ref (Ma 5), .ref (Ma 6), .int (Mv 2), .int (Mv 3), .int (Mv 4), .int (Mv 5), .int (Mv 6), .int (Mv 7), .int (Mv 8), .ref (Ma 7), .int (Mv 9), .ref (Ma 8), .int sv_21, .ref (Ma 9), .ref (Ma 10), .int (Mv 11), .int (Mv 12), .int (Mv 13), .ref (Ma 11), .int (Mv 14), .ref (Ma 12), .ref (Ma 13), .ref (Ma 14), .ref (Ma 15), .ref (Ma 16), .long (Mj 0), .ref (Ma 17), .ref (Ma 18), .ref (Ma 19), .ref (Ma 20)])), ((Ma 2), .inl (tc 0, 2400, .inl (Mf 2))), ((Ma 4), .inl (tc 0, 288, .inl (Mf 4))), ((Ma 5), .inl (tc 0, 6, .inl (Mf 5))), ((Ma 8), .inl (tc 1, 64, .inr (.inl sv_22))), ((Ma 9), .inl (tc 1, 13, .inr (.inl sv_23))), ((Ma 10), .inl (tc 0, 126, .inl sv_24)), ((Ma 12), .inl (tc 0, 46, .inl sv_25)), ((Ma 15), .inl (tc 3, 7, .inl sv_26)), ((Ma 16), .inl (tc 0, 427, .inl sv_27))] H → va_D A [((Ma 0), .inr (12, [.ref (Ma 1), .int (Mv 0), .int (Mv 1), .ref (Ma 2), .ref (Ma 3), .ref (Ma 4), .ref (Ma 5), .ref (Ma 6), .int (Mv 2), .int (Mv 3), .int (Mv 4), .int (Mv 5), .int (Mv 6), .int (Mv 7), .int (Mv 8), .ref (Ma 7), .int (Mv 9), .ref (Ma 8), .int sv_21, .ref (Ma 9), .ref (Ma 10), .int (Mv 11), .int (Mv 12), .int (Mv 13), .ref (Ma 11), .int (Mv 14), .ref (Ma 12), .ref (Ma 13), .ref (Ma 14), .ref (Ma 15), .ref (Ma 16), .long (Mj 0), .ref (Ma 17), .ref (Ma 18), .ref (Ma 19), .ref (Ma 20)])), ((Ma 2), .inl (tc 0, 2400, .inl (Mf 2))), ((Ma 4), .inl (tc 0, 288, .inl (Mf 4))), ((Ma 5), .inl (tc 0, 6, .inl (Mf 5))), ((Ma 8), .inl (tc 1, 64, .inr (.inl sv_22))), ((Ma 9), .inl (tc 1, 13, .inr (.inl sv_23))), ((Ma 10), .inl (tc 0, 126, .inl sv_24)), ((Ma 12), .inl (tc 0, 46, .inl sv_25)), ((Ma 15), .inl (tc 3, 7, .inl sv_26)), ((Ma 16), .inl (tc 0, 427, .inl sv_27))] → va_S A s.heap H locs → lv_has ls 5 [(4, .int yy_3600), (3, .int yy_3601), (2, .int yy_3602), (0, .ref (Ma 0)), (1, .int x1)] → W p l e ({ frames := 6, cells := 0, slots := 0, locals := 144 }) s m ([.ref (Ma 0), .int x1].toArray) below meth c H locs 0 0 (MQ below (QW (fun (v : Option Value) (u : (Int32) × (Nat → Int64) × (Nat → Int64) × (Nat → Int32) × (Nat → Int32) × (Nat → Int32) × (Nat → Int32)) => match u with | (oo0x1, oo0x2, oo0x3, oo0x4, oo0x5, oo0x6, oo0x7) => ∃ r : Int32, v = some (.int r) ∧ ((True) ∧ (r, oo0x1, oo0x2, oo0x3, oo0x4, oo0x5, oo0x6, oo0x7) = (dX12_ruled (Mf 2) (Mf 4) (Mf 5) (Mf 10) (Mf 12) (Mf 15) (Mf 16) (Mg 8) (Mg 9) (Mv 1) (Mv 10) (Mv 11) (Mv 13) x1)) ∧ (SaidD T oo0x4 999)) (BW D (fun (u : (Int32) × (Nat → Int64) × (Nat → Int64) × (Nat → Int32) × (Nat → Int32) × (Nat → Int32) × (Nat → Int32)) => match u with | (oo0x1, oo0x2, oo0x3, oo0x4, oo0x5, oo0x6, oo0x7) => [((Ma 0), .inr (12, [.ref (Ma 1), .int (Mv 0), .int (Mv 1), .ref (Ma 2), .ref (Ma 3), .ref (Ma 4), .ref (Ma 5), .ref (Ma 6), .int (Mv 2), .int (Mv 3), .int (Mv 4), .int (Mv 5), .int (Mv 6), .int (Mv 7), .int (Mv 8), .ref (Ma 7), .int (Mv 9), .ref (Ma 8), .int oo0x1, .ref (Ma 9), .ref (Ma 10), .int (Mv 11), .int (Mv 12), .int (Mv 13), .ref (Ma 11), .int (Mv 14), .ref (Ma 12), .ref (Ma 13), .ref (Ma 14), .ref (Ma 15), .ref (Ma 16), .long (Mj 0), .ref (Ma 17), .ref (Ma 18), .ref (Ma 19), .ref (Ma 20)])), ((Ma 2), .inl (tc 0, 2400, .inl (Mf 2))), ((Ma 4), .inl (tc 0, 288, .inl (Mf 4))), ((Ma 5), .inl (tc 0, 6, .inl (Mf 5))), ((Ma 8), .inl (tc 1, 64, .inr (.inl oo0x2))), ((Ma 9), .inl (tc 1, 13, .inr (.inl oo0x3))), ((Ma 10), .inl (tc 0, 126, .inl oo0x4)), ((Ma 12), .inl (tc 0, 46, .inl oo0x5)), ((Ma 15), .inl (tc 3, 7, .inl oo0x6)), ((Ma 16), .inl (tc 0, 427, .inl oo0x7))]) A) A) ([.ref (Ma 0), .int x1].toArray) s 0 0 A) (F0 m 35 ls []) := by
        clear hP hD hS hl
        intro n_30
        induction n_30 with
        | zero =>
          intro yy_3600 yy_3601 yy_3602 H locs ls h1
          exact absurd h1 (Nat.not_lt_zero _)
        | succ n_30 ih_31 =>
          intro yy_3600 yy_3601 yy_3602 H locs ls hn_35 hL_34 pf_33 hP hD hS hl
          refine lv_iload hx hb dX12_ruled_35 (lv_at hl 0 rfl) ?_
          refine lv_if_lt (tgt := 67) hx hb dX12_ruled_37 (by decide) (fun c_36 => ?_) (fun c_36 => ?_)
          · skip
            have hb_38 : dX12_ruled_l35 (Mf 2) (Mf 4) (Mf 5) (Mf 10) (Mf 12) (Mf 15) (Mf 16) (Mg 8) (Mg 9) (Mv 1) (Mv 10) (Mv 11) (Mv 13) (((yy_3600 : Int32).toInt + 1).toNat + 1) yy_3600 yy_3601 yy_3602 = (yy_3600, yy_3601, yy_3602) := by
              clear hP hD hS hl ih_31
              replace er_4 := er_4.symm; subst er_4
              replace er_13 := er_13.symm; subst er_13
              replace esv_21 := esv_21.symm; subst esv_21
              replace esv_22 := esv_22.symm; subst esv_22
              replace esv_23 := esv_23.symm; subst esv_23
              replace esv_24 := esv_24.symm; subst esv_24
              replace esv_25 := esv_25.symm; subst esv_25
              replace esv_26 := esv_26.symm; subst esv_26
              replace esv_27 := esv_27.symm; subst esv_27
              rw [dX12_ruled_l35_s]
              rw [if_pos c_36]
              try rfl
            have hX_37 : (dX12_ruled_l35 (Mf 2) (Mf 4) (Mf 5) (Mf 10) (Mf 12) (Mf 15) (Mf 16) (Mg 8) (Mg 9) (Mv 1) (Mv 10) (Mv 11) (Mv 13) ((((Mv 1) : Int32).toInt + 1).toNat + 1) (Mv 1) ((-2) : Int32) (0 : Int32)) = (yy_3600, yy_3601, yy_3602) := hL_34.trans hb_38
            have hX_37_0 : (dX12_ruled_l35 (Mf 2) (Mf 4) (Mf 5) (Mf 10) (Mf 12) (Mf 15) (Mf 16) (Mg 8) (Mg 9) (Mv 1) (Mv 10) (Mv 11) (Mv 13) ((((Mv 1) : Int32).toInt + 1).toNat + 1) (Mv 1) ((-2) : Int32) (0 : Int32)).1 = yy_3600 := congrArg (fun z => z.1) hX_37
            have hX_37_1 : (dX12_ruled_l35 (Mf 2) (Mf 4) (Mf 5) (Mf 10) (Mf 12) (Mf 15) (Mf 16) (Mg 8) (Mg 9) (Mv 1) (Mv 10) (Mv 11) (Mv 13) ((((Mv 1) : Int32).toInt + 1).toNat + 1) (Mv 1) ((-2) : Int32) (0 : Int32)).2.1 = yy_3601 := congrArg (fun z => z.2.1) hX_37
            have hX_37_2 : (dX12_ruled_l35 (Mf 2) (Mf 4) (Mf 5) (Mf 10) (Mf 12) (Mf 15) (Mf 16) (Mg 8) (Mg 9) (Mv 1) (Mv 10) (Mv 11) (Mv 13) ((((Mv 1) : Int32).toInt + 1).toNat + 1) (Mv 1) ((-2) : Int32) (0 : Int32)).2.2 = yy_3602 := congrArg (fun z => z.2.2) hX_37
            refine lv_iload_n hx hb dX12_ruled_67 rfl (lv_at hl 4 rfl) ?_
            refine lv_if_ne (tgt := 75) hx hb dX12_ruled_68 (by decide) (fun c_39 => ?_) (fun c_39 => ?_)
            · skip
              refine lv_iload_n hx hb dX12_ruled_75 rfl (lv_at hl 1 rfl) ?_
              have hF_40 : (yy_3601, sv_21, sv_22, sv_23, sv_24, sv_25, sv_26, sv_27) = (dX12_ruled (Mf 2) (Mf 4) (Mf 5) (Mf 10) (Mf 12) (Mf 15) (Mf 16) (Mg 8) (Mg 9) (Mv 1) (Mv 10) (Mv 11) (Mv 13) x1) := by
                clear hP hD hS hl ih_31
                replace er_4 := er_4.symm; subst er_4
                replace er_13 := er_13.symm; subst er_13
                replace esv_21 := esv_21.symm; subst esv_21
                replace esv_22 := esv_22.symm; subst esv_22
                replace esv_23 := esv_23.symm; subst esv_23
                replace esv_24 := esv_24.symm; subst esv_24
                replace esv_25 := esv_25.symm; subst esv_25
                replace esv_26 := esv_26.symm; subst esv_26
                replace esv_27 := esv_27.symm; subst esv_27
                unfold dX12_ruled
                try rw [hX_37_0]
                try rw [hX_37_1]
                try rw [hX_37_2]
                rw [if_neg c_8, if_neg c_17, if_neg c_39]
                try rfl
              exact retI (v := yy_3601) hx hb hr hlk (rfl) hP hD hS (sv_21, sv_22, sv_23, sv_24, sv_25, sv_26, sv_27) ⟨_, rfl, ⟨trivial, hF_40⟩, pf_28⟩ [0, 1, 2, 3, 4, 5, 6, 7, 8, 9] rfl rfl dX12_ruled_76 (Nat.le_of_ble_eq_true rfl) (Nat.le_of_ble_eq_true rfl) rfl
            · skip
              refine lv_iload_n hx hb dX12_ruled_71 rfl (lv_at hl 2 rfl) ?_
              refine lv_goto (tgt := 76) hx hb dX12_ruled_72 (by decide) ?_
              have hF_41 : (yy_3602, sv_21, sv_22, sv_23, sv_24, sv_25, sv_26, sv_27) = (dX12_ruled (Mf 2) (Mf 4) (Mf 5) (Mf 10) (Mf 12) (Mf 15) (Mf 16) (Mg 8) (Mg 9) (Mv 1) (Mv 10) (Mv 11) (Mv 13) x1) := by
                clear hP hD hS hl ih_31
                replace er_4 := er_4.symm; subst er_4
                replace er_13 := er_13.symm; subst er_13
                replace esv_21 := esv_21.symm; subst esv_21
                replace esv_22 := esv_22.symm; subst esv_22
                replace esv_23 := esv_23.symm; subst esv_23
                replace esv_24 := esv_24.symm; subst esv_24
                replace esv_25 := esv_25.symm; subst esv_25
                replace esv_26 := esv_26.symm; subst esv_26
                replace esv_27 := esv_27.symm; subst esv_27
                unfold dX12_ruled
                try rw [hX_37_0]
                try rw [hX_37_1]
                try rw [hX_37_2]
                rw [if_neg c_8, if_neg c_17, if_pos c_39]
                try rfl
              exact retI (v := yy_3602) hx hb hr hlk (rfl) hP hD hS (sv_21, sv_22, sv_23, sv_24, sv_25, sv_26, sv_27) ⟨_, rfl, ⟨trivial, hF_41⟩, pf_28⟩ [0, 1, 2, 3, 4, 5, 6, 7, 8, 9] rfl rfl dX12_ruled_76 (Nat.le_of_ble_eq_true rfl) (Nat.le_of_ble_eq_true rfl) rfl
          · skip
            refine lv_aload_n hx hb dX12_ruled_40 rfl (lv_at hl 3 rfl) ?_
            refine gf_X12_58 hx hb hts hown hK hP 0 rfl rfl dX12_ruled_41 ?_
            refine lv_iload hx hb dX12_ruled_44 (lv_at hl 0 rfl) ?_
            have hi_42 : vp_in yy_3600 7 := by
              have z_1 : ¬ (r_4 : Int32).toInt = (0 : Int32).toInt := fun z => c_8 (Int32.toInt_inj.mp z)
              have z_2 : ¬ (r_13 : Int32).toInt = (0 : Int32).toInt := fun z => c_17 (Int32.toInt_inj.mp z)
              have z_3 := Int32.le_iff_toInt_le.mp (Int32.not_lt.mp c_36)
              have y_0 : (0 : Int32).toInt = 0 := by decide
              refine vp_in_iff.mpr ⟨?_, ?_⟩ <;> omega
            refine va_zald hx hb hK hP 8 3 rfl rfl hi_42 dX12_ruled_46 ?_
            refine lv_topi (fun x_43 ex_43 => ?_)
            refine lv_if_ne (tgt := 53) hx hb dX12_ruled_47 (by decide) (fun c_44 => ?_) (fun c_44 => ?_)
            · skip
              refine lv_iload hx hb dX12_ruled_53 (lv_at hl 0 rfl) ?_
              refine lv_iconst (v := 1) hx hb dX12_ruled_55 (by decide) ?_
              refine lv_isub hx hb dX12_ruled_56 ?_
              refine lv_topi (fun x_45 ex_45 => ?_)
              refine lv_istore_n (lv' := [(3, .int x_45), (4, .int yy_3600), (2, .int yy_3602), (0, .ref (Ma 0)), (1, .int x1)]) hx hb dX12_ruled_57 rfl hl (by decide) rfl (fun ls hl₀ => ?_)
              replace hl := hl₀
              clear hl₀
              obtain ⟨x_46, ex_46⟩ : ∃ y : Int32, y = yy_3602 + 1 := ⟨_, rfl⟩
              refine lv_iinc (v := x_46) (lv' := [(2, .int x_46), (3, .int x_45), (4, .int yy_3600), (0, .ref (Ma 0)), (1, .int x1)]) hx hb dX12_ruled_58 hl (k := 2) rfl (by rw [ex_46]; rfl) (by decide) rfl (fun ls hl₀ => ?_)
              replace hl := hl₀
              clear hl₀
              obtain ⟨x_47, ex_47⟩ : ∃ y : Int32, y = yy_3600 + (-1) := ⟨_, rfl⟩
              refine lv_iinc (v := x_47) (lv' := [(4, .int x_47), (2, .int x_46), (3, .int x_45), (0, .ref (Ma 0)), (1, .int x1)]) hx hb dX12_ruled_61 hl (k := 2) rfl (by rw [ex_47]; rfl) (by decide) rfl (fun ls hl₀ => ?_)
              replace hl := hl₀
              clear hl₀
              refine lv_goto (tgt := 35) hx hb dX12_ruled_64 (by decide) ?_
              have hb_48 : (x_47 : Int32).toInt + 1 < (yy_3600 : Int32).toInt + 1 ∧ 1 ≤ (yy_3600 : Int32).toInt + 1 := by
                have z_1 : ¬ (r_4 : Int32).toInt = (0 : Int32).toInt := fun z => c_8 (Int32.toInt_inj.mp z)
                have z_2 : ¬ (r_13 : Int32).toInt = (0 : Int32).toInt := fun z => c_17 (Int32.toInt_inj.mp z)
                have z_3 := Int32.le_iff_toInt_le.mp (Int32.not_lt.mp c_36)
                have z_4 : ¬ (x_43 : Int32).toInt = (0 : Int32).toInt := fun z => c_44 (Int32.toInt_inj.mp z)
                have y_0 : (0 : Int32).toInt = 0 := by decide
                have y_m1 : (-1 : Int32).toInt = -1 := by decide
                have t_x_47 : x_47.toInt = (yy_3600 : Int32).toInt + ((-1) : Int32).toInt := by rw [ex_47]; exact add_toInt (by omega) (by omega)
                omega
              have hm_49 : ((yy_3600 : Int32).toInt + 1).toNat = ((x_47 : Int32).toInt + 1).toNat + 1 := by
                have z_1 : ¬ (r_4 : Int32).toInt = (0 : Int32).toInt := fun z => c_8 (Int32.toInt_inj.mp z)
                have z_2 : ¬ (r_13 : Int32).toInt = (0 : Int32).toInt := fun z => c_17 (Int32.toInt_inj.mp z)
                have z_3 := Int32.le_iff_toInt_le.mp (Int32.not_lt.mp c_36)
                have z_4 : ¬ (x_43 : Int32).toInt = (0 : Int32).toInt := fun z => c_44 (Int32.toInt_inj.mp z)
                have y_0 : (0 : Int32).toInt = 0 := by decide
                have y_m1 : (-1 : Int32).toInt = -1 := by decide
                have t_x_47 : x_47.toInt = (yy_3600 : Int32).toInt + ((-1) : Int32).toInt := by rw [ex_47]; exact add_toInt (by omega) (by omega)
                omega
              have hb_50 : dX12_ruled_l35 (Mf 2) (Mf 4) (Mf 5) (Mf 10) (Mf 12) (Mf 15) (Mf 16) (Mg 8) (Mg 9) (Mv 1) (Mv 10) (Mv 11) (Mv 13) (((yy_3600 : Int32).toInt + 1).toNat + 1) yy_3600 yy_3601 yy_3602 = dX12_ruled_l35 (Mf 2) (Mf 4) (Mf 5) (Mf 10) (Mf 12) (Mf 15) (Mf 16) (Mg 8) (Mg 9) (Mv 1) (Mv 10) (Mv 11) (Mv 13) (((yy_3600 : Int32).toInt + 1).toNat) x_47 x_45 x_46 := by
                clear hP hD hS hl ih_31
                replace er_4 := er_4.symm; subst er_4
                replace er_13 := er_13.symm; subst er_13
                replace esv_21 := esv_21.symm; subst esv_21
                replace esv_22 := esv_22.symm; subst esv_22
                replace esv_23 := esv_23.symm; subst esv_23
                replace esv_24 := esv_24.symm; subst esv_24
                replace esv_25 := esv_25.symm; subst esv_25
                replace esv_26 := esv_26.symm; subst esv_26
                replace esv_27 := esv_27.symm; subst esv_27
                replace ex_43 := ex_43.symm; subst ex_43
                replace ex_45 := ex_45.symm; subst ex_45
                replace ex_46 := ex_46.symm; subst ex_46
                replace ex_47 := ex_47.symm; subst ex_47
                rw [dX12_ruled_l35_s]
                rw [if_neg c_36, if_neg c_44]
                try rfl
              have hL_51 : (dX12_ruled_l35 (Mf 2) (Mf 4) (Mf 5) (Mf 10) (Mf 12) (Mf 15) (Mf 16) (Mg 8) (Mg 9) (Mv 1) (Mv 10) (Mv 11) (Mv 13) ((((Mv 1) : Int32).toInt + 1).toNat + 1) (Mv 1) ((-2) : Int32) (0 : Int32)) = dX12_ruled_l35 (Mf 2) (Mf 4) (Mf 5) (Mf 10) (Mf 12) (Mf 15) (Mf 16) (Mg 8) (Mg 9) (Mv 1) (Mv 10) (Mv 11) (Mv 13) (((x_47 : Int32).toInt + 1).toNat + 1) x_47 x_45 x_46 := by
                rw [hL_34, hb_50, hm_49]
              have ha_52 : -1 ≤ (x_47 : Int32).toInt ∧ (x_47 : Int32).toInt ≤ 6 := by
                have z_1 : ¬ (r_4 : Int32).toInt = (0 : Int32).toInt := fun z => c_8 (Int32.toInt_inj.mp z)
                have z_2 : ¬ (r_13 : Int32).toInt = (0 : Int32).toInt := fun z => c_17 (Int32.toInt_inj.mp z)
                have z_3 := Int32.le_iff_toInt_le.mp (Int32.not_lt.mp c_36)
                have z_4 : ¬ (x_43 : Int32).toInt = (0 : Int32).toInt := fun z => c_44 (Int32.toInt_inj.mp z)
                have y_0 : (0 : Int32).toInt = 0 := by decide
                have y_m1 : (-1 : Int32).toInt = -1 := by decide
                have t_x_47 : x_47.toInt = (yy_3600 : Int32).toInt + ((-1) : Int32).toInt := by rw [ex_47]; exact add_toInt (by omega) (by omega)
                omega
              exact ih_31 x_47 x_45 x_46 _ _ _ (by omega) hL_51 ha_52 (hP.sub [0, 1, 2, 3, 4, 5, 6, 7, 8, 9] rfl) (hD.sub [0, 1, 2, 3, 4, 5, 6, 7, 8, 9] rfl rfl) hS (lv_sub hl [0, 2, 1, 3, 4] rfl)
            · skip
              refine lv_goto (tgt := 61) hx hb dX12_ruled_50 (by decide) ?_
              obtain ⟨x_53, ex_53⟩ : ∃ y : Int32, y = yy_3600 + (-1) := ⟨_, rfl⟩
              refine lv_iinc (v := x_53) (lv' := [(4, .int x_53), (3, .int yy_3601), (2, .int yy_3602), (0, .ref (Ma 0)), (1, .int x1)]) hx hb dX12_ruled_61 hl (k := 0) rfl (by rw [ex_53]; rfl) (by decide) rfl (fun ls hl₀ => ?_)
              replace hl := hl₀
              clear hl₀
              refine lv_goto (tgt := 35) hx hb dX12_ruled_64 (by decide) ?_
              have hb_54 : (x_53 : Int32).toInt + 1 < (yy_3600 : Int32).toInt + 1 ∧ 1 ≤ (yy_3600 : Int32).toInt + 1 := by
                have z_1 : ¬ (r_4 : Int32).toInt = (0 : Int32).toInt := fun z => c_8 (Int32.toInt_inj.mp z)
                have z_2 : ¬ (r_13 : Int32).toInt = (0 : Int32).toInt := fun z => c_17 (Int32.toInt_inj.mp z)
                have z_3 := Int32.le_iff_toInt_le.mp (Int32.not_lt.mp c_36)
                have z_4 := congrArg Int32.toInt c_44
                have y_0 : (0 : Int32).toInt = 0 := by decide
                have y_m1 : (-1 : Int32).toInt = -1 := by decide
                have t_x_53 : x_53.toInt = (yy_3600 : Int32).toInt + ((-1) : Int32).toInt := by rw [ex_53]; exact add_toInt (by omega) (by omega)
                omega
              have hm_55 : ((yy_3600 : Int32).toInt + 1).toNat = ((x_53 : Int32).toInt + 1).toNat + 1 := by
                have z_1 : ¬ (r_4 : Int32).toInt = (0 : Int32).toInt := fun z => c_8 (Int32.toInt_inj.mp z)
                have z_2 : ¬ (r_13 : Int32).toInt = (0 : Int32).toInt := fun z => c_17 (Int32.toInt_inj.mp z)
                have z_3 := Int32.le_iff_toInt_le.mp (Int32.not_lt.mp c_36)
                have z_4 := congrArg Int32.toInt c_44
                have y_0 : (0 : Int32).toInt = 0 := by decide
                have y_m1 : (-1 : Int32).toInt = -1 := by decide
                have t_x_53 : x_53.toInt = (yy_3600 : Int32).toInt + ((-1) : Int32).toInt := by rw [ex_53]; exact add_toInt (by omega) (by omega)
                omega
              have hb_56 : dX12_ruled_l35 (Mf 2) (Mf 4) (Mf 5) (Mf 10) (Mf 12) (Mf 15) (Mf 16) (Mg 8) (Mg 9) (Mv 1) (Mv 10) (Mv 11) (Mv 13) (((yy_3600 : Int32).toInt + 1).toNat + 1) yy_3600 yy_3601 yy_3602 = dX12_ruled_l35 (Mf 2) (Mf 4) (Mf 5) (Mf 10) (Mf 12) (Mf 15) (Mf 16) (Mg 8) (Mg 9) (Mv 1) (Mv 10) (Mv 11) (Mv 13) (((yy_3600 : Int32).toInt + 1).toNat) x_53 yy_3601 yy_3602 := by
                clear hP hD hS hl ih_31
                replace er_4 := er_4.symm; subst er_4
                replace er_13 := er_13.symm; subst er_13
                replace esv_21 := esv_21.symm; subst esv_21
                replace esv_22 := esv_22.symm; subst esv_22
                replace esv_23 := esv_23.symm; subst esv_23
                replace esv_24 := esv_24.symm; subst esv_24
                replace esv_25 := esv_25.symm; subst esv_25
                replace esv_26 := esv_26.symm; subst esv_26
                replace esv_27 := esv_27.symm; subst esv_27
                replace ex_43 := ex_43.symm; subst ex_43
                replace ex_53 := ex_53.symm; subst ex_53
                rw [dX12_ruled_l35_s]
                rw [if_neg c_36, if_pos c_44]
                try rfl
              have hL_57 : (dX12_ruled_l35 (Mf 2) (Mf 4) (Mf 5) (Mf 10) (Mf 12) (Mf 15) (Mf 16) (Mg 8) (Mg 9) (Mv 1) (Mv 10) (Mv 11) (Mv 13) ((((Mv 1) : Int32).toInt + 1).toNat + 1) (Mv 1) ((-2) : Int32) (0 : Int32)) = dX12_ruled_l35 (Mf 2) (Mf 4) (Mf 5) (Mf 10) (Mf 12) (Mf 15) (Mf 16) (Mg 8) (Mg 9) (Mv 1) (Mv 10) (Mv 11) (Mv 13) (((x_53 : Int32).toInt + 1).toNat + 1) x_53 yy_3601 yy_3602 := by
                rw [hL_34, hb_56, hm_55]
              have ha_58 : -1 ≤ (x_53 : Int32).toInt ∧ (x_53 : Int32).toInt ≤ 6 := by
                have z_1 : ¬ (r_4 : Int32).toInt = (0 : Int32).toInt := fun z => c_8 (Int32.toInt_inj.mp z)
                have z_2 : ¬ (r_13 : Int32).toInt = (0 : Int32).toInt := fun z => c_17 (Int32.toInt_inj.mp z)
                have z_3 := Int32.le_iff_toInt_le.mp (Int32.not_lt.mp c_36)
                have z_4 := congrArg Int32.toInt c_44
                have y_0 : (0 : Int32).toInt = 0 := by decide
                have y_m1 : (-1 : Int32).toInt = -1 := by decide
                have t_x_53 : x_53.toInt = (yy_3600 : Int32).toInt + ((-1) : Int32).toInt := by rw [ex_53]; exact add_toInt (by omega) (by omega)
                omega
              exact ih_31 x_53 yy_3601 yy_3602 _ _ _ (by omega) hL_57 ha_58 (hP.sub [0, 1, 2, 3, 4, 5, 6, 7, 8, 9] rfl) (hD.sub [0, 1, 2, 3, 4, 5, 6, 7, 8, 9] rfl rfl) hS (lv_sub hl [0, 1, 2, 3, 4] rfl)
      have ha_59 : -1 ≤ ((Mv 1) : Int32).toInt ∧ ((Mv 1) : Int32).toInt ≤ 6 := by
        have z_1 : ¬ (r_4 : Int32).toInt = (0 : Int32).toInt := fun z => c_8 (Int32.toInt_inj.mp z)
        have z_2 : ¬ (r_13 : Int32).toInt = (0 : Int32).toInt := fun z => c_17 (Int32.toInt_inj.mp z)
        have y_0 : (0 : Int32).toInt = 0 := by decide
        omega
      exact loop_32 _ (Mv 1) (-2) 0 _ _ _ (Nat.lt_succ_self _) rfl ha_59 hP hD hS hl
    · skip
      refine lv_bipush (v := (-3)) hx hb dX12_ruled_17 (by decide) ?_
      have hF_60 : ((-3 : Int32), (Mv 10), (Mg 8), (Mg 9), (Mf 10), (Mf 12), (Mf 15), (Mf 16)) = (dX12_ruled (Mf 2) (Mf 4) (Mf 5) (Mf 10) (Mf 12) (Mf 15) (Mf 16) (Mg 8) (Mg 9) (Mv 1) (Mv 10) (Mv 11) (Mv 13) x1) := by
        clear hP hD hS hl
        replace er_4 := er_4.symm; subst er_4
        replace er_13 := er_13.symm; subst er_13
        unfold dX12_ruled
        rw [if_neg c_8, if_pos c_17]
        try rfl
      exact retI (v := (-3)) hx hb hr hlk (rfl) hP hD hS ((Mv 10), (Mg 8), (Mg 9), (Mf 10), (Mf 12), (Mf 15), (Mf 16)) ⟨_, rfl, ⟨trivial, hF_60⟩, h_said⟩ [8, 0, 1, 2, 3, 4, 9, 5, 6, 7] rfl rfl dX12_ruled_19 (Nat.le_of_ble_eq_true rfl) (Nat.le_of_ble_eq_true rfl) rfl
def dX12_alikeAt_l18 (Mf_15 : Nat → Int32) (Mf_16 : Nat → Int32) (Mv_1 : Int32) (zz_1903 : Int32) (zz_1901 : Int32) : Nat → Int32 → Int32 → Int32 × Int32
  | 0, _, _ => (0, 0)
  | n + 1, yy_1900, yy_1901 => (if Mv_1 < yy_1900 then (yy_1900, yy_1901) else (if (Mf_15 (zz_1903).toNatClampNeg) = (0 : Int32) then (yy_1900, yy_1901) else (if (Mf_15 (yy_1900).toNatClampNeg) = (0 : Int32) then dX12_alikeAt_l18 Mf_15 Mf_16 Mv_1 zz_1903 zz_1901 n (yy_1900 + 1) (yy_1901 + (0 : Int32)) else (if (Mf_16 ((dX12_spot zz_1903 zz_1901)).toNatClampNeg) = (Mf_16 ((dX12_spot yy_1900 zz_1901)).toNatClampNeg) then dX12_alikeAt_l18 Mf_15 Mf_16 Mv_1 zz_1903 zz_1901 n (yy_1900 + 1) (yy_1901 + (1 : Int32)) else dX12_alikeAt_l18 Mf_15 Mf_16 Mv_1 zz_1903 zz_1901 n (yy_1900 + 1) (yy_1901 + (0 : Int32))))))
theorem dX12_alikeAt_l18_s {Mf_15 : Nat → Int32} {Mf_16 : Nat → Int32} {Mv_1 : Int32} {zz_1903 : Int32} {zz_1901 : Int32} {n : Nat} {yy_1900 : Int32} {yy_1901 : Int32} : dX12_alikeAt_l18 Mf_15 Mf_16 Mv_1 zz_1903 zz_1901 (n + 1) yy_1900 yy_1901 = (if Mv_1 < yy_1900 then (yy_1900, yy_1901) else (if (Mf_15 (zz_1903).toNatClampNeg) = (0 : Int32) then (yy_1900, yy_1901) else (if (Mf_15 (yy_1900).toNatClampNeg) = (0 : Int32) then dX12_alikeAt_l18 Mf_15 Mf_16 Mv_1 zz_1903 zz_1901 n (yy_1900 + 1) (yy_1901 + (0 : Int32)) else (if (Mf_16 ((dX12_spot zz_1903 zz_1901)).toNatClampNeg) = (Mf_16 ((dX12_spot yy_1900 zz_1901)).toNatClampNeg) then dX12_alikeAt_l18 Mf_15 Mf_16 Mv_1 zz_1903 zz_1901 n (yy_1900 + 1) (yy_1901 + (1 : Int32)) else dX12_alikeAt_l18 Mf_15 Mf_16 Mv_1 zz_1903 zz_1901 n (yy_1900 + 1) (yy_1901 + (0 : Int32)))))) := rfl
def dX12_alikeAt_l4 (Mf_15 : Nat → Int32) (Mf_16 : Nat → Int32) (Mv_1 : Int32) (zz_501 : Int32) : Nat → Int32 → Int32 → Int32 × Int32
  | 0, _, _ => (0, 0)
  | n + 1, yy_500, yy_501 => (if Mv_1 < yy_500 then (yy_500, yy_501) else (if (dX12_alikeAt_l18 Mf_15 Mf_16 Mv_1 yy_500 zz_501 ((7 - (0 : Int32).toInt).toNat + 1) (0 : Int32) (0 : Int32)).2 ≤ yy_501 then dX12_alikeAt_l4 Mf_15 Mf_16 Mv_1 zz_501 n (yy_500 + 1) yy_501 else dX12_alikeAt_l4 Mf_15 Mf_16 Mv_1 zz_501 n (yy_500 + 1) ((dX12_alikeAt_l18 Mf_15 Mf_16 Mv_1 yy_500 zz_501 ((7 - (0 : Int32).toInt).toNat + 1) (0 : Int32) (0 : Int32)).2)))
theorem dX12_alikeAt_l4_s {Mf_15 : Nat → Int32} {Mf_16 : Nat → Int32} {Mv_1 : Int32} {zz_501 : Int32} {n : Nat} {yy_500 : Int32} {yy_501 : Int32} : dX12_alikeAt_l4 Mf_15 Mf_16 Mv_1 zz_501 (n + 1) yy_500 yy_501 = (if Mv_1 < yy_500 then (yy_500, yy_501) else (if (dX12_alikeAt_l18 Mf_15 Mf_16 Mv_1 yy_500 zz_501 ((7 - (0 : Int32).toInt).toNat + 1) (0 : Int32) (0 : Int32)).2 ≤ yy_501 then dX12_alikeAt_l4 Mf_15 Mf_16 Mv_1 zz_501 n (yy_500 + 1) yy_501 else dX12_alikeAt_l4 Mf_15 Mf_16 Mv_1 zz_501 n (yy_500 + 1) ((dX12_alikeAt_l18 Mf_15 Mf_16 Mv_1 yy_500 zz_501 ((7 - (0 : Int32).toInt).toNat + 1) (0 : Int32) (0 : Int32)).2))) := rfl
def dX12_alikeAt (Mf_15 : Nat → Int32) (Mf_16 : Nat → Int32) (Mv_1 : Int32) (x1 : Int32) : Int32 := (dX12_alikeAt_l4 Mf_15 Mf_16 Mv_1 x1 ((7 - (0 : Int32).toInt).toNat + 1) (0 : Int32) (0 : Int32)).2
set_option maxHeartbeats 4000000 in
set_option maxRecDepth 100000 in
theorem ct_dX12_alikeAt (l : Launch) (D : va_G) (tc : Nat → ClassId) (sk : (Nat → Nat) × (Nat → Nat)) (Ma : Nat → Nat) (Mv : Nat → Int32) (Mf : Nat → Nat → Int32) (Mj : Nat → Int64) (x1 : Int32) (h_n : 0 ≤ x1.toInt ∧ x1.toInt ≤ 60) (h_r6 : (Mv 1).toInt ≤ 6) : Ct l yX12_alikeAt cX12_alikeAt 6 (some .int) { frames := 1, cells := 0, slots := 0, locals := 21 } D tc sk [.ref (Ma 0), .int x1] [((Ma 0), .inr (12, [.ref (Ma 1), .int (Mv 0), .int (Mv 1), .ref (Ma 2), .ref (Ma 3), .ref (Ma 4), .ref (Ma 5), .ref (Ma 6), .int (Mv 2), .int (Mv 3), .int (Mv 4), .int (Mv 5), .int (Mv 6), .int (Mv 7), .int (Mv 8), .ref (Ma 7), .int (Mv 9), .ref (Ma 8), .int (Mv 10), .ref (Ma 9), .ref (Ma 10), .int (Mv 11), .int (Mv 12), .int (Mv 13), .ref (Ma 11), .int (Mv 14), .ref (Ma 12), .ref (Ma 13), .ref (Ma 14), .ref (Ma 15), .ref (Ma 16), .long (Mj 0), .ref (Ma 17), .ref (Ma 18), .ref (Ma 19), .ref (Ma 20)])), ((Ma 15), .inl (tc 3, 7, .inl (Mf 15))), ((Ma 16), .inl (tc 0, 427, .inl (Mf 16)))] (fun (v : Option Value) (_ : Unit) => ∃ r : Int32, v = some (.int r) ∧ ((True) ∧ r = (dX12_alikeAt (Mf 15) (Mf 16) (Mv 1) x1))) (fun (_ : Unit) => [((Ma 0), .inr (12, [.ref (Ma 1), .int (Mv 0), .int (Mv 1), .ref (Ma 2), .ref (Ma 3), .ref (Ma 4), .ref (Ma 5), .ref (Ma 6), .int (Mv 2), .int (Mv 3), .int (Mv 4), .int (Mv 5), .int (Mv 6), .int (Mv 7), .int (Mv 8), .ref (Ma 7), .int (Mv 9), .ref (Ma 8), .int (Mv 10), .ref (Ma 9), .ref (Ma 10), .int (Mv 11), .int (Mv 12), .int (Mv 13), .ref (Ma 11), .int (Mv 14), .ref (Ma 12), .ref (Ma 13), .ref (Ma 14), .ref (Ma 15), .ref (Ma 16), .long (Mj 0), .ref (Ma 17), .ref (Ma 18), .ref (Ma 19), .ref (Ma 20)])), ((Ma 15), .inl (tc 3, 7, .inl (Mf 15))), ((Ma 16), .inl (tc 0, 427, .inl (Mf 16)))]) 0 0 := by
  refine Ct.start (by decide) (Nat.le_of_ble_eq_true rfl) (fun p e s m below meth c A ls hx hb hr hlk hin hml hown hts hK hX hP hD hA hl hS => ?_)
  have hl : lv_has ls 6 [(0, .ref (Ma 0)), (1, .int x1)] := hl
  refine lv_iconst (v := 0) hx hb dX12_alikeAt_0 (by decide) ?_
  refine lv_istore_n (lv' := [(2, .int 0), (0, .ref (Ma 0)), (1, .int x1)]) hx hb dX12_alikeAt_1 rfl hl (by decide) rfl (fun ls hl₀ => ?_)
  replace hl := hl₀
  clear hl₀
  refine lv_iconst (v := 0) hx hb dX12_alikeAt_2 (by decide) ?_
  refine lv_istore_n (lv' := [(3, .int 0), (2, .int 0), (0, .ref (Ma 0)), (1, .int x1)]) hx hb dX12_alikeAt_3 rfl hl (by decide) rfl (fun ls hl₀ => ?_)
  replace hl := hl₀
  clear hl₀
  have loop_3 : ∀ (n_1 : Nat) (yy_500 : Int32) (yy_501 : Int32) (H : Heap) (locs : List Loc) (ls : Array Slot), (7 - (yy_500 : Int32).toInt).toNat < n_1 → (dX12_alikeAt_l4 (Mf 15) (Mf 16) (Mv 1) x1 ((7 - (0 : Int32).toInt).toNat + 1) (0 : Int32) (0 : Int32)) = dX12_alikeAt_l4 (Mf 15) (Mf 16) (Mv 1) x1 ((7 - (yy_500 : Int32).toInt).toNat + 1) yy_500 yy_501 → (0 ≤ (yy_500 : Int32).toInt) → va_P D classes [((Ma 0), .inr (12, [.ref (Ma 1), .int (Mv 0), .int (Mv 1), .ref (Ma 2), .ref (Ma 3), .ref (Ma 4), .ref (Ma 5), .ref (Ma 6), .int (Mv 2), .int (Mv 3), .int (Mv 4), .int (Mv 5), .int (Mv 6), .int (Mv 7), .int (Mv 8), .ref (Ma 7), .int (Mv 9), .ref (Ma 8), .int (Mv 10), .ref (Ma 9), .ref (Ma 10), .int (Mv 11), .int (Mv 12), .int (Mv 13), .ref (Ma 11), .int (Mv 14), .ref (Ma 12), .ref (Ma 13), .ref (Ma 14), .ref (Ma 15), .ref (Ma 16), .long (Mj 0), .ref (Ma 17), .ref (Ma 18), .ref (Ma 19), .ref (Ma 20)])), ((Ma 15), .inl (tc 3, 7, .inl (Mf 15))), ((Ma 16), .inl (tc 0, 427, .inl (Mf 16)))] H → va_D A [((Ma 0), .inr (12, [.ref (Ma 1), .int (Mv 0), .int (Mv 1), .ref (Ma 2), .ref (Ma 3), .ref (Ma 4), .ref (Ma 5), .ref (Ma 6), .int (Mv 2), .int (Mv 3), .int (Mv 4), .int (Mv 5), .int (Mv 6), .int (Mv 7), .int (Mv 8), .ref (Ma 7), .int (Mv 9), .ref (Ma 8), .int (Mv 10), .ref (Ma 9), .ref (Ma 10), .int (Mv 11), .int (Mv 12), .int (Mv 13), .ref (Ma 11), .int (Mv 14), .ref (Ma 12), .ref (Ma 13), .ref (Ma 14), .ref (Ma 15), .ref (Ma 16), .long (Mj 0), .ref (Ma 17), .ref (Ma 18), .ref (Ma 19), .ref (Ma 20)])), ((Ma 15), .inl (tc 3, 7, .inl (Mf 15))), ((Ma 16), .inl (tc 0, 427, .inl (Mf 16)))] → va_S A s.heap H locs → lv_has ls 6 [(3, .int yy_500), (2, .int yy_501), (0, .ref (Ma 0)), (1, .int x1)] → W p l e ({ frames := 1, cells := 0, slots := 0, locals := 21 }) s m ([.ref (Ma 0), .int x1].toArray) below meth c H locs 0 0 (MQ below (QW (fun (v : Option Value) (_ : Unit) => ∃ r : Int32, v = some (.int r) ∧ ((True) ∧ r = (dX12_alikeAt (Mf 15) (Mf 16) (Mv 1) x1))) (BW D (fun (_ : Unit) => [((Ma 0), .inr (12, [.ref (Ma 1), .int (Mv 0), .int (Mv 1), .ref (Ma 2), .ref (Ma 3), .ref (Ma 4), .ref (Ma 5), .ref (Ma 6), .int (Mv 2), .int (Mv 3), .int (Mv 4), .int (Mv 5), .int (Mv 6), .int (Mv 7), .int (Mv 8), .ref (Ma 7), .int (Mv 9), .ref (Ma 8), .int (Mv 10), .ref (Ma 9), .ref (Ma 10), .int (Mv 11), .int (Mv 12), .int (Mv 13), .ref (Ma 11), .int (Mv 14), .ref (Ma 12), .ref (Ma 13), .ref (Ma 14), .ref (Ma 15), .ref (Ma 16), .long (Mj 0), .ref (Ma 17), .ref (Ma 18), .ref (Ma 19), .ref (Ma 20)])), ((Ma 15), .inl (tc 3, 7, .inl (Mf 15))), ((Ma 16), .inl (tc 0, 427, .inl (Mf 16)))]) A) A) ([.ref (Ma 0), .int x1].toArray) s 0 0 A) (F0 m 4 ls []) := by
    clear hP hD hS hl
    intro n_1
    induction n_1 with
    | zero =>
      intro yy_500 yy_501 H locs ls h1
      exact absurd h1 (Nat.not_lt_zero _)
    | succ n_1 ih_2 =>
      intro yy_500 yy_501 H locs ls hn_6 hL_5 pf_4 hP hD hS hl
      refine lv_iload_n hx hb dX12_alikeAt_4 rfl (lv_at hl 0 rfl) ?_
      refine lv_aload_n hx hb dX12_alikeAt_5 rfl (lv_at hl 2 rfl) ?_
      refine gf_X12_256 hx hb hts hown hK hP 0 rfl rfl dX12_alikeAt_6 ?_
      refine lv_icmp_gt (tgt := 105) hx hb dX12_alikeAt_9 (by decide) (fun c_7 => ?_) (fun c_7 => ?_)
      · skip
        have hb_9 : dX12_alikeAt_l4 (Mf 15) (Mf 16) (Mv 1) x1 ((7 - (yy_500 : Int32).toInt).toNat + 1) yy_500 yy_501 = (yy_500, yy_501) := by
          clear hP hD hS hl ih_2
          rw [dX12_alikeAt_l4_s]
          rw [if_pos c_7]
          try rfl
        have hX_8 : (dX12_alikeAt_l4 (Mf 15) (Mf 16) (Mv 1) x1 ((7 - (0 : Int32).toInt).toNat + 1) (0 : Int32) (0 : Int32)) = (yy_500, yy_501) := hL_5.trans hb_9
        have hX_8_0 : (dX12_alikeAt_l4 (Mf 15) (Mf 16) (Mv 1) x1 ((7 - (0 : Int32).toInt).toNat + 1) (0 : Int32) (0 : Int32)).1 = yy_500 := congrArg (fun z => z.1) hX_8
        have hX_8_1 : (dX12_alikeAt_l4 (Mf 15) (Mf 16) (Mv 1) x1 ((7 - (0 : Int32).toInt).toNat + 1) (0 : Int32) (0 : Int32)).2 = yy_501 := congrArg (fun z => z.2) hX_8
        refine lv_iload_n hx hb dX12_alikeAt_105 rfl (lv_at hl 1 rfl) ?_
        have hF_10 : yy_501 = (dX12_alikeAt (Mf 15) (Mf 16) (Mv 1) x1) := by
          clear hP hD hS hl ih_2
          unfold dX12_alikeAt
          try rw [hX_8_0]
          try rw [hX_8_1]
          try rfl
        exact retI (v := yy_501) hx hb hr hlk (rfl) hP hD hS () ⟨_, rfl, ⟨trivial, hF_10⟩⟩ [0, 1, 2] rfl rfl dX12_alikeAt_106 (Nat.le_of_ble_eq_true rfl) (Nat.le_of_ble_eq_true rfl) rfl
      · skip
        refine lv_iconst (v := 0) hx hb dX12_alikeAt_12 (by decide) ?_
        refine lv_istore (lv' := [(4, .int 0), (3, .int yy_500), (2, .int yy_501), (0, .ref (Ma 0)), (1, .int x1)]) hx hb dX12_alikeAt_13 hl (by decide) rfl (fun ls hl₀ => ?_)
        replace hl := hl₀
        clear hl₀
        refine lv_iconst (v := 0) hx hb dX12_alikeAt_15 (by decide) ?_
        refine lv_istore (lv' := [(5, .int 0), (4, .int 0), (3, .int yy_500), (2, .int yy_501), (0, .ref (Ma 0)), (1, .int x1)]) hx hb dX12_alikeAt_16 hl (by decide) rfl (fun ls hl₀ => ?_)
        replace hl := hl₀
        clear hl₀
        have loop_13 : ∀ (n_11 : Nat) (yy_1900 : Int32) (yy_1901 : Int32) (H : Heap) (locs : List Loc) (ls : Array Slot), (7 - (yy_1900 : Int32).toInt).toNat < n_11 → (dX12_alikeAt_l18 (Mf 15) (Mf 16) (Mv 1) yy_500 x1 ((7 - (0 : Int32).toInt).toNat + 1) (0 : Int32) (0 : Int32)) = dX12_alikeAt_l18 (Mf 15) (Mf 16) (Mv 1) yy_500 x1 ((7 - (yy_1900 : Int32).toInt).toNat + 1) yy_1900 yy_1901 → (0 ≤ (yy_1900 : Int32).toInt) → va_P D classes [((Ma 0), .inr (12, [.ref (Ma 1), .int (Mv 0), .int (Mv 1), .ref (Ma 2), .ref (Ma 3), .ref (Ma 4), .ref (Ma 5), .ref (Ma 6), .int (Mv 2), .int (Mv 3), .int (Mv 4), .int (Mv 5), .int (Mv 6), .int (Mv 7), .int (Mv 8), .ref (Ma 7), .int (Mv 9), .ref (Ma 8), .int (Mv 10), .ref (Ma 9), .ref (Ma 10), .int (Mv 11), .int (Mv 12), .int (Mv 13), .ref (Ma 11), .int (Mv 14), .ref (Ma 12), .ref (Ma 13), .ref (Ma 14), .ref (Ma 15), .ref (Ma 16), .long (Mj 0), .ref (Ma 17), .ref (Ma 18), .ref (Ma 19), .ref (Ma 20)])), ((Ma 15), .inl (tc 3, 7, .inl (Mf 15))), ((Ma 16), .inl (tc 0, 427, .inl (Mf 16)))] H → va_D A [((Ma 0), .inr (12, [.ref (Ma 1), .int (Mv 0), .int (Mv 1), .ref (Ma 2), .ref (Ma 3), .ref (Ma 4), .ref (Ma 5), .ref (Ma 6), .int (Mv 2), .int (Mv 3), .int (Mv 4), .int (Mv 5), .int (Mv 6), .int (Mv 7), .int (Mv 8), .ref (Ma 7), .int (Mv 9), .ref (Ma 8), .int (Mv 10), .ref (Ma 9), .ref (Ma 10), .int (Mv 11), .int (Mv 12), .int (Mv 13), .ref (Ma 11), .int (Mv 14), .ref (Ma 12), .ref (Ma 13), .ref (Ma 14), .ref (Ma 15), .ref (Ma 16), .long (Mj 0), .ref (Ma 17), .ref (Ma 18), .ref (Ma 19), .ref (Ma 20)])), ((Ma 15), .inl (tc 3, 7, .inl (Mf 15))), ((Ma 16), .inl (tc 0, 427, .inl (Mf 16)))] → va_S A s.heap H locs → lv_has ls 6 [(5, .int yy_1900), (4, .int yy_1901), (3, .int yy_500), (2, .int yy_501), (0, .ref (Ma 0)), (1, .int x1)] → W p l e ({ frames := 1, cells := 0, slots := 0, locals := 21 }) s m ([.ref (Ma 0), .int x1].toArray) below meth c H locs 0 0 (MQ below (QW (fun (v : Option Value) (_ : Unit) => ∃ r : Int32, v = some (.int r) ∧ ((True) ∧ r = (dX12_alikeAt (Mf 15) (Mf 16) (Mv 1) x1))) (BW D (fun (_ : Unit) => [((Ma 0), .inr (12, [.ref (Ma 1), .int (Mv 0), .int (Mv 1), .ref (Ma 2), .ref (Ma 3), .ref (Ma 4), .ref (Ma 5), .ref (Ma 6), .int (Mv 2), .int (Mv 3), .int (Mv 4), .int (Mv 5), .int (Mv 6), .int (Mv 7), .int (Mv 8), .ref (Ma 7), .int (Mv 9), .ref (Ma 8), .int (Mv 10), .ref (Ma 9), .ref (Ma 10), .int (Mv 11), .int (Mv 12), .int (Mv 13), .ref (Ma 11), .int (Mv 14), .ref (Ma 12), .ref (Ma 13), .ref (Ma 14), .ref (Ma 15), .ref (Ma 16), .long (Mj 0), .ref (Ma 17), .ref (Ma 18), .ref (Ma 19), .ref (Ma 20)])), ((Ma 15), .inl (tc 3, 7, .inl (Mf 15))), ((Ma 16), .inl (tc 0, 427, .inl (Mf 16)))]) A) A) ([.ref (Ma 0), .int x1].toArray) s 0 0 A) (F0 m 18 ls []) := by
          clear hP hD hS hl
          intro n_11
          induction n_11 with
          | zero =>
            intro yy_1900 yy_1901 H locs ls h1
            exact absurd h1 (Nat.not_lt_zero _)
          | succ n_11 ih_12 =>
            intro yy_1900 yy_1901 H locs ls hn_16 hL_15 pf_14 hP hD hS hl
            refine lv_iload hx hb dX12_alikeAt_18 (lv_at hl 0 rfl) ?_
            refine lv_aload_n hx hb dX12_alikeAt_20 rfl (lv_at hl 4 rfl) ?_
            refine gf_X12_256 hx hb hts hown hK hP 0 rfl rfl dX12_alikeAt_21 ?_
            refine lv_icmp_gt (tgt := 86) hx hb dX12_alikeAt_24 (by decide) (fun c_17 => ?_) (fun c_17 => ?_)
            · skip
              have hb_19 : dX12_alikeAt_l18 (Mf 15) (Mf 16) (Mv 1) yy_500 x1 ((7 - (yy_1900 : Int32).toInt).toNat + 1) yy_1900 yy_1901 = (yy_1900, yy_1901) := by
                clear hP hD hS hl ih_12 ih_2
                rw [dX12_alikeAt_l18_s]
                rw [if_pos c_17]
                try rfl
              have hX_18 : (dX12_alikeAt_l18 (Mf 15) (Mf 16) (Mv 1) yy_500 x1 ((7 - (0 : Int32).toInt).toNat + 1) (0 : Int32) (0 : Int32)) = (yy_1900, yy_1901) := hL_15.trans hb_19
              have hX_18_0 : (dX12_alikeAt_l18 (Mf 15) (Mf 16) (Mv 1) yy_500 x1 ((7 - (0 : Int32).toInt).toNat + 1) (0 : Int32) (0 : Int32)).1 = yy_1900 := congrArg (fun z => z.1) hX_18
              have hX_18_1 : (dX12_alikeAt_l18 (Mf 15) (Mf 16) (Mv 1) yy_500 x1 ((7 - (0 : Int32).toInt).toNat + 1) (0 : Int32) (0 : Int32)).2 = yy_1901 := congrArg (fun z => z.2) hX_18
              refine lv_iload hx hb dX12_alikeAt_86 (lv_at hl 1 rfl) ?_
              refine lv_iload_n hx hb dX12_alikeAt_88 rfl (lv_at hl 3 rfl) ?_
              refine lv_icmp_le (tgt := 97) hx hb dX12_alikeAt_89 (by decide) (fun c_20 => ?_) (fun c_20 => ?_)
              · skip
                refine lv_iload_n hx hb dX12_alikeAt_97 rfl (lv_at hl 3 rfl) ?_
                refine lv_istore_n (lv' := [(2, .int yy_501), (5, .int yy_1900), (4, .int yy_1901), (3, .int yy_500), (0, .ref (Ma 0)), (1, .int x1)]) hx hb dX12_alikeAt_98 rfl hl (by decide) rfl (fun ls hl₀ => ?_)
                replace hl := hl₀
                clear hl₀
                obtain ⟨x_21, ex_21⟩ : ∃ y : Int32, y = yy_500 + 1 := ⟨_, rfl⟩
                refine lv_iinc (v := x_21) (lv' := [(3, .int x_21), (2, .int yy_501), (5, .int yy_1900), (4, .int yy_1901), (0, .ref (Ma 0)), (1, .int x1)]) hx hb dX12_alikeAt_99 hl (k := 3) rfl (by rw [ex_21]; rfl) (by decide) rfl (fun ls hl₀ => ?_)
                replace hl := hl₀
                clear hl₀
                refine lv_goto (tgt := 4) hx hb dX12_alikeAt_102 (by decide) ?_
                have hb_22 : 7 - (x_21 : Int32).toInt < 7 - (yy_500 : Int32).toInt ∧ 1 ≤ 7 - (yy_500 : Int32).toInt := by
                  have z_1 := Int32.le_iff_toInt_le.mp (Int32.not_lt.mp c_7)
                  have z_2 := Int32.lt_iff_toInt_lt.mp c_17
                  have z_3 := Int32.le_iff_toInt_le.mp c_20
                  have y_1 : (1 : Int32).toInt = 1 := by decide
                  have t_x_21 : x_21.toInt = (yy_500 : Int32).toInt + (1 : Int32).toInt := by rw [ex_21]; exact add_toInt (by omega) (by omega)
                  omega
                have hm_23 : (7 - (yy_500 : Int32).toInt).toNat = (7 - (x_21 : Int32).toInt).toNat + 1 := by
                  have z_1 := Int32.le_iff_toInt_le.mp (Int32.not_lt.mp c_7)
                  have z_2 := Int32.lt_iff_toInt_lt.mp c_17
                  have z_3 := Int32.le_iff_toInt_le.mp c_20
                  have y_1 : (1 : Int32).toInt = 1 := by decide
                  have t_x_21 : x_21.toInt = (yy_500 : Int32).toInt + (1 : Int32).toInt := by rw [ex_21]; exact add_toInt (by omega) (by omega)
                  omega
                have hb_24 : dX12_alikeAt_l4 (Mf 15) (Mf 16) (Mv 1) x1 ((7 - (yy_500 : Int32).toInt).toNat + 1) yy_500 yy_501 = dX12_alikeAt_l4 (Mf 15) (Mf 16) (Mv 1) x1 ((7 - (yy_500 : Int32).toInt).toNat) x_21 yy_501 := by
                  clear hP hD hS hl ih_12 ih_2
                  replace ex_21 := ex_21.symm; subst ex_21
                  rw [dX12_alikeAt_l4_s]
                  try rw [hX_18_0]
                  try rw [hX_18_1]
                  rw [if_neg c_7, if_pos c_20]
                  try rfl
                have hL_25 : (dX12_alikeAt_l4 (Mf 15) (Mf 16) (Mv 1) x1 ((7 - (0 : Int32).toInt).toNat + 1) (0 : Int32) (0 : Int32)) = dX12_alikeAt_l4 (Mf 15) (Mf 16) (Mv 1) x1 ((7 - (x_21 : Int32).toInt).toNat + 1) x_21 yy_501 := by
                  rw [hL_5, hb_24, hm_23]
                have ha_26 : 0 ≤ (x_21 : Int32).toInt := by
                  have z_1 := Int32.le_iff_toInt_le.mp (Int32.not_lt.mp c_7)
                  have z_2 := Int32.lt_iff_toInt_lt.mp c_17
                  have z_3 := Int32.le_iff_toInt_le.mp c_20
                  have y_1 : (1 : Int32).toInt = 1 := by decide
                  have t_x_21 : x_21.toInt = (yy_500 : Int32).toInt + (1 : Int32).toInt := by rw [ex_21]; exact add_toInt (by omega) (by omega)
                  omega
                exact ih_2 x_21 yy_501 _ _ _ (by omega) hL_25 ha_26 (hP.sub [0, 1, 2] rfl) (hD.sub [0, 1, 2] rfl rfl) hS (lv_sub hl [0, 1, 4, 5] rfl)
              · skip
                refine lv_iload hx hb dX12_alikeAt_92 (lv_at hl 1 rfl) ?_
                refine lv_goto (tgt := 98) hx hb dX12_alikeAt_94 (by decide) ?_
                refine lv_istore_n (lv' := [(2, .int yy_1901), (5, .int yy_1900), (4, .int yy_1901), (3, .int yy_500), (0, .ref (Ma 0)), (1, .int x1)]) hx hb dX12_alikeAt_98 rfl hl (by decide) rfl (fun ls hl₀ => ?_)
                replace hl := hl₀
                clear hl₀
                obtain ⟨x_27, ex_27⟩ : ∃ y : Int32, y = yy_500 + 1 := ⟨_, rfl⟩
                refine lv_iinc (v := x_27) (lv' := [(3, .int x_27), (2, .int yy_1901), (5, .int yy_1900), (4, .int yy_1901), (0, .ref (Ma 0)), (1, .int x1)]) hx hb dX12_alikeAt_99 hl (k := 3) rfl (by rw [ex_27]; rfl) (by decide) rfl (fun ls hl₀ => ?_)
                replace hl := hl₀
                clear hl₀
                refine lv_goto (tgt := 4) hx hb dX12_alikeAt_102 (by decide) ?_
                have hb_28 : 7 - (x_27 : Int32).toInt < 7 - (yy_500 : Int32).toInt ∧ 1 ≤ 7 - (yy_500 : Int32).toInt := by
                  have z_1 := Int32.le_iff_toInt_le.mp (Int32.not_lt.mp c_7)
                  have z_2 := Int32.lt_iff_toInt_lt.mp c_17
                  have z_3 := Int32.lt_iff_toInt_lt.mp (Int32.not_le.mp c_20)
                  have y_1 : (1 : Int32).toInt = 1 := by decide
                  have t_x_27 : x_27.toInt = (yy_500 : Int32).toInt + (1 : Int32).toInt := by rw [ex_27]; exact add_toInt (by omega) (by omega)
                  omega
                have hm_29 : (7 - (yy_500 : Int32).toInt).toNat = (7 - (x_27 : Int32).toInt).toNat + 1 := by
                  have z_1 := Int32.le_iff_toInt_le.mp (Int32.not_lt.mp c_7)
                  have z_2 := Int32.lt_iff_toInt_lt.mp c_17
                  have z_3 := Int32.lt_iff_toInt_lt.mp (Int32.not_le.mp c_20)
                  have y_1 : (1 : Int32).toInt = 1 := by decide
                  have t_x_27 : x_27.toInt = (yy_500 : Int32).toInt + (1 : Int32).toInt := by rw [ex_27]; exact add_toInt (by omega) (by omega)
                  omega
                have hb_30 : dX12_alikeAt_l4 (Mf 15) (Mf 16) (Mv 1) x1 ((7 - (yy_500 : Int32).toInt).toNat + 1) yy_500 yy_501 = dX12_alikeAt_l4 (Mf 15) (Mf 16) (Mv 1) x1 ((7 - (yy_500 : Int32).toInt).toNat) x_27 yy_1901 := by
                  clear hP hD hS hl ih_12 ih_2
                  replace ex_27 := ex_27.symm; subst ex_27
                  rw [dX12_alikeAt_l4_s]
                  try rw [hX_18_0]
                  try rw [hX_18_1]
                  rw [if_neg c_7, if_neg c_20]
                  try rfl
                have hL_31 : (dX12_alikeAt_l4 (Mf 15) (Mf 16) (Mv 1) x1 ((7 - (0 : Int32).toInt).toNat + 1) (0 : Int32) (0 : Int32)) = dX12_alikeAt_l4 (Mf 15) (Mf 16) (Mv 1) x1 ((7 - (x_27 : Int32).toInt).toNat + 1) x_27 yy_1901 := by
                  rw [hL_5, hb_30, hm_29]
                have ha_32 : 0 ≤ (x_27 : Int32).toInt := by
                  have z_1 := Int32.le_iff_toInt_le.mp (Int32.not_lt.mp c_7)
                  have z_2 := Int32.lt_iff_toInt_lt.mp c_17
                  have z_3 := Int32.lt_iff_toInt_lt.mp (Int32.not_le.mp c_20)
                  have y_1 : (1 : Int32).toInt = 1 := by decide
                  have t_x_27 : x_27.toInt = (yy_500 : Int32).toInt + (1 : Int32).toInt := by rw [ex_27]; exact add_toInt (by omega) (by omega)
                  omega
                exact ih_2 x_27 yy_1901 _ _ _ (by omega) hL_31 ha_32 (hP.sub [0, 1, 2] rfl) (hD.sub [0, 1, 2] rfl rfl) hS (lv_sub hl [0, 1, 4, 5] rfl)
            · skip
              refine lv_aload_n hx hb dX12_alikeAt_27 rfl (lv_at hl 4 rfl) ?_
              refine gf_X12_58 hx hb hts hown hK hP 0 rfl rfl dX12_alikeAt_28 ?_
              refine lv_iload_n hx hb dX12_alikeAt_31 rfl (lv_at hl 2 rfl) ?_
              have hi_33 : vp_in yy_500 7 := by
                have z_1 := Int32.le_iff_toInt_le.mp (Int32.not_lt.mp c_7)
                have z_2 := Int32.le_iff_toInt_le.mp (Int32.not_lt.mp c_17)
                refine vp_in_iff.mpr ⟨?_, ?_⟩ <;> omega
              refine va_zald hx hb hK hP 1 3 rfl rfl hi_33 dX12_alikeAt_32 ?_
              refine lv_topi (fun x_34 ex_34 => ?_)
              refine lv_if_eq (tgt := 86) hx hb dX12_alikeAt_33 (by decide) (fun c_35 => ?_) (fun c_35 => ?_)
              · skip
                have hb_37 : dX12_alikeAt_l18 (Mf 15) (Mf 16) (Mv 1) yy_500 x1 ((7 - (yy_1900 : Int32).toInt).toNat + 1) yy_1900 yy_1901 = (yy_1900, yy_1901) := by
                  clear hP hD hS hl ih_12 ih_2
                  replace ex_34 := ex_34.symm; subst ex_34
                  rw [dX12_alikeAt_l18_s]
                  rw [if_neg c_17, if_pos c_35]
                  try rfl
                have hX_36 : (dX12_alikeAt_l18 (Mf 15) (Mf 16) (Mv 1) yy_500 x1 ((7 - (0 : Int32).toInt).toNat + 1) (0 : Int32) (0 : Int32)) = (yy_1900, yy_1901) := hL_15.trans hb_37
                have hX_36_0 : (dX12_alikeAt_l18 (Mf 15) (Mf 16) (Mv 1) yy_500 x1 ((7 - (0 : Int32).toInt).toNat + 1) (0 : Int32) (0 : Int32)).1 = yy_1900 := congrArg (fun z => z.1) hX_36
                have hX_36_1 : (dX12_alikeAt_l18 (Mf 15) (Mf 16) (Mv 1) yy_500 x1 ((7 - (0 : Int32).toInt).toNat + 1) (0 : Int32) (0 : Int32)).2 = yy_1901 := congrArg (fun z => z.2) hX_36
                refine lv_iload hx hb dX12_alikeAt_86 (lv_at hl 1 rfl) ?_
                refine lv_iload_n hx hb dX12_alikeAt_88 rfl (lv_at hl 3 rfl) ?_
                refine lv_icmp_le (tgt := 97) hx hb dX12_alikeAt_89 (by decide) (fun c_38 => ?_) (fun c_38 => ?_)
                · skip
                  refine lv_iload_n hx hb dX12_alikeAt_97 rfl (lv_at hl 3 rfl) ?_
                  refine lv_istore_n (lv' := [(2, .int yy_501), (5, .int yy_1900), (4, .int yy_1901), (3, .int yy_500), (0, .ref (Ma 0)), (1, .int x1)]) hx hb dX12_alikeAt_98 rfl hl (by decide) rfl (fun ls hl₀ => ?_)
                  replace hl := hl₀
                  clear hl₀
                  obtain ⟨x_39, ex_39⟩ : ∃ y : Int32, y = yy_500 + 1 := ⟨_, rfl⟩
                  refine lv_iinc (v := x_39) (lv' := [(3, .int x_39), (2, .int yy_501), (5, .int yy_1900), (4, .int yy_1901), (0, .ref (Ma 0)), (1, .int x1)]) hx hb dX12_alikeAt_99 hl (k := 3) rfl (by rw [ex_39]; rfl) (by decide) rfl (fun ls hl₀ => ?_)
                  replace hl := hl₀
                  clear hl₀
                  refine lv_goto (tgt := 4) hx hb dX12_alikeAt_102 (by decide) ?_
                  have hb_40 : 7 - (x_39 : Int32).toInt < 7 - (yy_500 : Int32).toInt ∧ 1 ≤ 7 - (yy_500 : Int32).toInt := by
                    have z_1 := Int32.le_iff_toInt_le.mp (Int32.not_lt.mp c_7)
                    have z_2 := Int32.le_iff_toInt_le.mp (Int32.not_lt.mp c_17)
                    have z_3 := congrArg Int32.toInt c_35
                    have z_4 := Int32.le_iff_toInt_le.mp c_38
                    have y_0 : (0 : Int32).toInt = 0 := by decide
                    have y_1 : (1 : Int32).toInt = 1 := by decide
                    have t_x_39 : x_39.toInt = (yy_500 : Int32).toInt + (1 : Int32).toInt := by rw [ex_39]; exact add_toInt (by omega) (by omega)
                    omega
                  have hm_41 : (7 - (yy_500 : Int32).toInt).toNat = (7 - (x_39 : Int32).toInt).toNat + 1 := by
                    have z_1 := Int32.le_iff_toInt_le.mp (Int32.not_lt.mp c_7)
                    have z_2 := Int32.le_iff_toInt_le.mp (Int32.not_lt.mp c_17)
                    have z_3 := congrArg Int32.toInt c_35
                    have z_4 := Int32.le_iff_toInt_le.mp c_38
                    have y_0 : (0 : Int32).toInt = 0 := by decide
                    have y_1 : (1 : Int32).toInt = 1 := by decide
                    have t_x_39 : x_39.toInt = (yy_500 : Int32).toInt + (1 : Int32).toInt := by rw [ex_39]; exact add_toInt (by omega) (by omega)
                    omega
                  have hb_42 : dX12_alikeAt_l4 (Mf 15) (Mf 16) (Mv 1) x1 ((7 - (yy_500 : Int32).toInt).toNat + 1) yy_500 yy_501 = dX12_alikeAt_l4 (Mf 15) (Mf 16) (Mv 1) x1 ((7 - (yy_500 : Int32).toInt).toNat) x_39 yy_501 := by
                    clear hP hD hS hl ih_12 ih_2
                    replace ex_34 := ex_34.symm; subst ex_34
                    replace ex_39 := ex_39.symm; subst ex_39
                    rw [dX12_alikeAt_l4_s]
                    try rw [hX_36_0]
                    try rw [hX_36_1]
                    rw [if_neg c_7, if_pos c_38]
                    try rfl
                  have hL_43 : (dX12_alikeAt_l4 (Mf 15) (Mf 16) (Mv 1) x1 ((7 - (0 : Int32).toInt).toNat + 1) (0 : Int32) (0 : Int32)) = dX12_alikeAt_l4 (Mf 15) (Mf 16) (Mv 1) x1 ((7 - (x_39 : Int32).toInt).toNat + 1) x_39 yy_501 := by
                    rw [hL_5, hb_42, hm_41]
                  have ha_44 : 0 ≤ (x_39 : Int32).toInt := by
                    have z_1 := Int32.le_iff_toInt_le.mp (Int32.not_lt.mp c_7)
                    have z_2 := Int32.le_iff_toInt_le.mp (Int32.not_lt.mp c_17)
                    have z_3 := congrArg Int32.toInt c_35
                    have z_4 := Int32.le_iff_toInt_le.mp c_38
                    have y_0 : (0 : Int32).toInt = 0 := by decide
                    have y_1 : (1 : Int32).toInt = 1 := by decide
                    have t_x_39 : x_39.toInt = (yy_500 : Int32).toInt + (1 : Int32).toInt := by rw [ex_39]; exact add_toInt (by omega) (by omega)
                    omega
                  exact ih_2 x_39 yy_501 _ _ _ (by omega) hL_43 ha_44 (hP.sub [0, 1, 2] rfl) (hD.sub [0, 1, 2] rfl rfl) hS (lv_sub hl [0, 1, 4, 5] rfl)
                · skip
                  refine lv_iload hx hb dX12_alikeAt_92 (lv_at hl 1 rfl) ?_
                  refine lv_goto (tgt := 98) hx hb dX12_alikeAt_94 (by decide) ?_
                  refine lv_istore_n (lv' := [(2, .int yy_1901), (5, .int yy_1900), (4, .int yy_1901), (3, .int yy_500), (0, .ref (Ma 0)), (1, .int x1)]) hx hb dX12_alikeAt_98 rfl hl (by decide) rfl (fun ls hl₀ => ?_)
                  replace hl := hl₀
                  clear hl₀
                  obtain ⟨x_45, ex_45⟩ : ∃ y : Int32, y = yy_500 + 1 := ⟨_, rfl⟩
                  refine lv_iinc (v := x_45) (lv' := [(3, .int x_45), (2, .int yy_1901), (5, .int yy_1900), (4, .int yy_1901), (0, .ref (Ma 0)), (1, .int x1)]) hx hb dX12_alikeAt_99 hl (k := 3) rfl (by rw [ex_45]; rfl) (by decide) rfl (fun ls hl₀ => ?_)
                  replace hl := hl₀
                  clear hl₀
                  refine lv_goto (tgt := 4) hx hb dX12_alikeAt_102 (by decide) ?_
                  have hb_46 : 7 - (x_45 : Int32).toInt < 7 - (yy_500 : Int32).toInt ∧ 1 ≤ 7 - (yy_500 : Int32).toInt := by
                    have z_1 := Int32.le_iff_toInt_le.mp (Int32.not_lt.mp c_7)
                    have z_2 := Int32.le_iff_toInt_le.mp (Int32.not_lt.mp c_17)
                    have z_3 := congrArg Int32.toInt c_35
                    have z_4 := Int32.lt_iff_toInt_lt.mp (Int32.not_le.mp c_38)
                    have y_0 : (0 : Int32).toInt = 0 := by decide
                    have y_1 : (1 : Int32).toInt = 1 := by decide
                    have t_x_45 : x_45.toInt = (yy_500 : Int32).toInt + (1 : Int32).toInt := by rw [ex_45]; exact add_toInt (by omega) (by omega)
                    omega
                  have hm_47 : (7 - (yy_500 : Int32).toInt).toNat = (7 - (x_45 : Int32).toInt).toNat + 1 := by
                    have z_1 := Int32.le_iff_toInt_le.mp (Int32.not_lt.mp c_7)
                    have z_2 := Int32.le_iff_toInt_le.mp (Int32.not_lt.mp c_17)
                    have z_3 := congrArg Int32.toInt c_35
                    have z_4 := Int32.lt_iff_toInt_lt.mp (Int32.not_le.mp c_38)
                    have y_0 : (0 : Int32).toInt = 0 := by decide
                    have y_1 : (1 : Int32).toInt = 1 := by decide
                    have t_x_45 : x_45.toInt = (yy_500 : Int32).toInt + (1 : Int32).toInt := by rw [ex_45]; exact add_toInt (by omega) (by omega)
                    omega
                  have hb_48 : dX12_alikeAt_l4 (Mf 15) (Mf 16) (Mv 1) x1 ((7 - (yy_500 : Int32).toInt).toNat + 1) yy_500 yy_501 = dX12_alikeAt_l4 (Mf 15) (Mf 16) (Mv 1) x1 ((7 - (yy_500 : Int32).toInt).toNat) x_45 yy_1901 := by
                    clear hP hD hS hl ih_12 ih_2
                    replace ex_34 := ex_34.symm; subst ex_34
                    replace ex_45 := ex_45.symm; subst ex_45
                    rw [dX12_alikeAt_l4_s]
                    try rw [hX_36_0]
                    try rw [hX_36_1]
                    rw [if_neg c_7, if_neg c_38]
                    try rfl
                  have hL_49 : (dX12_alikeAt_l4 (Mf 15) (Mf 16) (Mv 1) x1 ((7 - (0 : Int32).toInt).toNat + 1) (0 : Int32) (0 : Int32)) = dX12_alikeAt_l4 (Mf 15) (Mf 16) (Mv 1) x1 ((7 - (x_45 : Int32).toInt).toNat + 1) x_45 yy_1901 := by
                    rw [hL_5, hb_48, hm_47]
                  have ha_50 : 0 ≤ (x_45 : Int32).toInt := by
                    have z_1 := Int32.le_iff_toInt_le.mp (Int32.not_lt.mp c_7)
                    have z_2 := Int32.le_iff_toInt_le.mp (Int32.not_lt.mp c_17)
                    have z_3 := congrArg Int32.toInt c_35
                    have z_4 := Int32.lt_iff_toInt_lt.mp (Int32.not_le.mp c_38)
                    have y_0 : (0 : Int32).toInt = 0 := by decide
                    have y_1 : (1 : Int32).toInt = 1 := by decide
                    have t_x_45 : x_45.toInt = (yy_500 : Int32).toInt + (1 : Int32).toInt := by rw [ex_45]; exact add_toInt (by omega) (by omega)
                    omega
                  exact ih_2 x_45 yy_1901 _ _ _ (by omega) hL_49 ha_50 (hP.sub [0, 1, 2] rfl) (hD.sub [0, 1, 2] rfl rfl) hS (lv_sub hl [0, 1, 4, 5] rfl)
              · skip
                refine lv_iload hx hb dX12_alikeAt_36 (lv_at hl 1 rfl) ?_
                refine lv_aload_n hx hb dX12_alikeAt_38 rfl (lv_at hl 4 rfl) ?_
                refine gf_X12_58 hx hb hts hown hK hP 0 rfl rfl dX12_alikeAt_39 ?_
                refine lv_iload hx hb dX12_alikeAt_42 (lv_at hl 0 rfl) ?_
                have hi_51 : vp_in yy_1900 7 := by
                  have z_1 := Int32.le_iff_toInt_le.mp (Int32.not_lt.mp c_7)
                  have z_2 := Int32.le_iff_toInt_le.mp (Int32.not_lt.mp c_17)
                  have z_3 : ¬ (x_34 : Int32).toInt = (0 : Int32).toInt := fun z => c_35 (Int32.toInt_inj.mp z)
                  have y_0 : (0 : Int32).toInt = 0 := by decide
                  refine vp_in_iff.mpr ⟨?_, ?_⟩ <;> omega
                refine va_zald hx hb hK hP 1 3 rfl rfl hi_51 dX12_alikeAt_44 ?_
                refine lv_topi (fun x_52 ex_52 => ?_)
                refine lv_if_eq (tgt := 76) hx hb dX12_alikeAt_45 (by decide) (fun c_53 => ?_) (fun c_53 => ?_)
                · skip
                  refine lv_iconst (v := 0) hx hb dX12_alikeAt_76 (by decide) ?_
                  refine lv_iadd hx hb dX12_alikeAt_77 ?_
                  refine lv_topi (fun x_54 ex_54 => ?_)
                  refine lv_istore (lv' := [(4, .int x_54), (5, .int yy_1900), (3, .int yy_500), (2, .int yy_501), (0, .ref (Ma 0)), (1, .int x1)]) hx hb dX12_alikeAt_78 hl (by decide) rfl (fun ls hl₀ => ?_)
                  replace hl := hl₀
                  clear hl₀
                  obtain ⟨x_55, ex_55⟩ : ∃ y : Int32, y = yy_1900 + 1 := ⟨_, rfl⟩
                  refine lv_iinc (v := x_55) (lv' := [(5, .int x_55), (4, .int x_54), (3, .int yy_500), (2, .int yy_501), (0, .ref (Ma 0)), (1, .int x1)]) hx hb dX12_alikeAt_80 hl (k := 1) rfl (by rw [ex_55]; rfl) (by decide) rfl (fun ls hl₀ => ?_)
                  replace hl := hl₀
                  clear hl₀
                  refine lv_goto (tgt := 18) hx hb dX12_alikeAt_83 (by decide) ?_
                  have hb_56 : 7 - (x_55 : Int32).toInt < 7 - (yy_1900 : Int32).toInt ∧ 1 ≤ 7 - (yy_1900 : Int32).toInt := by
                    have z_1 := Int32.le_iff_toInt_le.mp (Int32.not_lt.mp c_7)
                    have z_2 := Int32.le_iff_toInt_le.mp (Int32.not_lt.mp c_17)
                    have z_3 : ¬ (x_34 : Int32).toInt = (0 : Int32).toInt := fun z => c_35 (Int32.toInt_inj.mp z)
                    have z_4 := congrArg Int32.toInt c_53
                    have y_0 : (0 : Int32).toInt = 0 := by decide
                    have y_1 : (1 : Int32).toInt = 1 := by decide
                    have t_x_55 : x_55.toInt = (yy_1900 : Int32).toInt + (1 : Int32).toInt := by rw [ex_55]; exact add_toInt (by omega) (by omega)
                    omega
                  have hm_57 : (7 - (yy_1900 : Int32).toInt).toNat = (7 - (x_55 : Int32).toInt).toNat + 1 := by
                    have z_1 := Int32.le_iff_toInt_le.mp (Int32.not_lt.mp c_7)
                    have z_2 := Int32.le_iff_toInt_le.mp (Int32.not_lt.mp c_17)
                    have z_3 : ¬ (x_34 : Int32).toInt = (0 : Int32).toInt := fun z => c_35 (Int32.toInt_inj.mp z)
                    have z_4 := congrArg Int32.toInt c_53
                    have y_0 : (0 : Int32).toInt = 0 := by decide
                    have y_1 : (1 : Int32).toInt = 1 := by decide
                    have t_x_55 : x_55.toInt = (yy_1900 : Int32).toInt + (1 : Int32).toInt := by rw [ex_55]; exact add_toInt (by omega) (by omega)
                    omega
                  have hb_58 : dX12_alikeAt_l18 (Mf 15) (Mf 16) (Mv 1) yy_500 x1 ((7 - (yy_1900 : Int32).toInt).toNat + 1) yy_1900 yy_1901 = dX12_alikeAt_l18 (Mf 15) (Mf 16) (Mv 1) yy_500 x1 ((7 - (yy_1900 : Int32).toInt).toNat) x_55 x_54 := by
                    clear hP hD hS hl ih_12 ih_2
                    replace ex_34 := ex_34.symm; subst ex_34
                    replace ex_52 := ex_52.symm; subst ex_52
                    replace ex_54 := ex_54.symm; subst ex_54
                    replace ex_55 := ex_55.symm; subst ex_55
                    rw [dX12_alikeAt_l18_s]
                    rw [if_neg c_17, if_neg c_35, if_pos c_53]
                    try rfl
                  have hL_59 : (dX12_alikeAt_l18 (Mf 15) (Mf 16) (Mv 1) yy_500 x1 ((7 - (0 : Int32).toInt).toNat + 1) (0 : Int32) (0 : Int32)) = dX12_alikeAt_l18 (Mf 15) (Mf 16) (Mv 1) yy_500 x1 ((7 - (x_55 : Int32).toInt).toNat + 1) x_55 x_54 := by
                    rw [hL_15, hb_58, hm_57]
                  have ha_60 : 0 ≤ (x_55 : Int32).toInt := by
                    have z_1 := Int32.le_iff_toInt_le.mp (Int32.not_lt.mp c_7)
                    have z_2 := Int32.le_iff_toInt_le.mp (Int32.not_lt.mp c_17)
                    have z_3 : ¬ (x_34 : Int32).toInt = (0 : Int32).toInt := fun z => c_35 (Int32.toInt_inj.mp z)
                    have z_4 := congrArg Int32.toInt c_53
                    have y_0 : (0 : Int32).toInt = 0 := by decide
                    have y_1 : (1 : Int32).toInt = 1 := by decide
                    have t_x_55 : x_55.toInt = (yy_1900 : Int32).toInt + (1 : Int32).toInt := by rw [ex_55]; exact add_toInt (by omega) (by omega)
                    omega
                  exact ih_12 x_55 x_54 _ _ _ (by omega) hL_59 ha_60 (hP.sub [0, 1, 2] rfl) (hD.sub [0, 1, 2] rfl rfl) hS (lv_sub hl [0, 1, 2, 3, 4, 5] rfl)
                · skip
                  refine lv_aload_n hx hb dX12_alikeAt_48 rfl (lv_at hl 4 rfl) ?_
                  refine gf_X12_62 hx hb hts hown hK hP 0 rfl rfl dX12_alikeAt_49 ?_
                  refine lv_iload_n hx hb dX12_alikeAt_52 rfl (lv_at hl 2 rfl) ?_
                  refine lv_iload_n hx hb dX12_alikeAt_53 rfl (lv_at hl 5 rfl) ?_
                  have ha_61 : 0 ≤ yy_500.toInt ∧ yy_500.toInt ≤ 100 ∧ 0 ≤ x1.toInt ∧ x1.toInt ≤ 100 := by
                    have z_1 := Int32.le_iff_toInt_le.mp (Int32.not_lt.mp c_7)
                    have z_2 := Int32.le_iff_toInt_le.mp (Int32.not_lt.mp c_17)
                    have z_3 : ¬ (x_34 : Int32).toInt = (0 : Int32).toInt := fun z => c_35 (Int32.toInt_inj.mp z)
                    have z_4 : ¬ (x_52 : Int32).toInt = (0 : Int32).toInt := fun z => c_53 (Int32.toInt_inj.mp z)
                    have y_0 : (0 : Int32).toInt = 0 := by decide
                    omega
                  refine cS (As := [.int yy_500, .int x1]) (rest := [.ref (Ma 16), .int yy_1901]) (wr := [((Ma 0), .inr (12, [.ref (Ma 1), .int (Mv 0), .int (Mv 1), .ref (Ma 2), .ref (Ma 3), .ref (Ma 4), .ref (Ma 5), .ref (Ma 6), .int (Mv 2), .int (Mv 3), .int (Mv 4), .int (Mv 5), .int (Mv 6), .int (Mv 7), .int (Mv 8), .ref (Ma 7), .int (Mv 9), .ref (Ma 8), .int (Mv 10), .ref (Ma 9), .ref (Ma 10), .int (Mv 11), .int (Mv 12), .int (Mv 13), .ref (Ma 11), .int (Mv 14), .ref (Ma 12), .ref (Ma 13), .ref (Ma 14), .ref (Ma 15), .ref (Ma 16), .long (Mj 0), .ref (Ma 17), .ref (Ma 18), .ref (Ma 19), .ref (Ma 20)])), ((Ma 15), .inl (tc 3, 7, .inl (Mf 15))), ((Ma 16), .inl (tc 0, 427, .inl (Mf 16)))]) ⟨hx, hb, hml, hown, hts⟩ hK hX hA (ct_dX12_spot l D tc sk yy_500 x1 ha_61) k_1609 k_1607 k_1608 k_106 pl_X12_spot ⟨Nat.le_of_ble_eq_true rfl, Nat.le_of_ble_eq_true rfl⟩ rfl rfl  hP hD hS [] [0, 1, 2] rfl rfl rfl rfl rfl (by decide) rfl hl.1 rfl (Nat.le_of_ble_eq_true rfl) dX12_alikeAt_54 ⟨Nat.le_of_ble_eq_true rfl, Nat.le_of_ble_eq_true rfl⟩ (fun v_62 u_63 H locs hv_64 hP₀ hD₀ hS₀ => ?_)
                  obtain ⟨r_65, rfl, he_66⟩ := hv_64
                  have he_66 : ((r_65.toInt = 61 * yy_500.toInt + x1.toInt)) ∧ r_65 = (dX12_spot yy_500 x1) := he_66
                  refine W.eq (g2 := F0 m 57 ls [.int r_65, .ref (Ma 16), .int yy_1901]) rfl ?_
                  replace hP : va_P D classes [((Ma 0), .inr (12, [.ref (Ma 1), .int (Mv 0), .int (Mv 1), .ref (Ma 2), .ref (Ma 3), .ref (Ma 4), .ref (Ma 5), .ref (Ma 6), .int (Mv 2), .int (Mv 3), .int (Mv 4), .int (Mv 5), .int (Mv 6), .int (Mv 7), .int (Mv 8), .ref (Ma 7), .int (Mv 9), .ref (Ma 8), .int (Mv 10), .ref (Ma 9), .ref (Ma 10), .int (Mv 11), .int (Mv 12), .int (Mv 13), .ref (Ma 11), .int (Mv 14), .ref (Ma 12), .ref (Ma 13), .ref (Ma 14), .ref (Ma 15), .ref (Ma 16), .long (Mj 0), .ref (Ma 17), .ref (Ma 18), .ref (Ma 19), .ref (Ma 20)])), ((Ma 15), .inl (tc 3, 7, .inl (Mf 15))), ((Ma 16), .inl (tc 0, 427, .inl (Mf 16)))] H := hP₀
                  replace hD : va_D A [((Ma 0), .inr (12, [.ref (Ma 1), .int (Mv 0), .int (Mv 1), .ref (Ma 2), .ref (Ma 3), .ref (Ma 4), .ref (Ma 5), .ref (Ma 6), .int (Mv 2), .int (Mv 3), .int (Mv 4), .int (Mv 5), .int (Mv 6), .int (Mv 7), .int (Mv 8), .ref (Ma 7), .int (Mv 9), .ref (Ma 8), .int (Mv 10), .ref (Ma 9), .ref (Ma 10), .int (Mv 11), .int (Mv 12), .int (Mv 13), .ref (Ma 11), .int (Mv 14), .ref (Ma 12), .ref (Ma 13), .ref (Ma 14), .ref (Ma 15), .ref (Ma 16), .long (Mj 0), .ref (Ma 17), .ref (Ma 18), .ref (Ma 19), .ref (Ma 20)])), ((Ma 15), .inl (tc 3, 7, .inl (Mf 15))), ((Ma 16), .inl (tc 0, 427, .inl (Mf 16)))] := hD₀
                  replace hS := hS₀
                  clear hP₀ hD₀ hS₀
                  obtain ⟨he_66, hq_68⟩ := he_66
                  have er_65 : r_65 = (dX12_spot yy_500 x1) := hq_68
                  have hi_69 : vp_in r_65 427 := by
                    have z_1 := Int32.le_iff_toInt_le.mp (Int32.not_lt.mp c_7)
                    have z_2 := Int32.le_iff_toInt_le.mp (Int32.not_lt.mp c_17)
                    have z_3 : ¬ (x_34 : Int32).toInt = (0 : Int32).toInt := fun z => c_35 (Int32.toInt_inj.mp z)
                    have z_4 : ¬ (x_52 : Int32).toInt = (0 : Int32).toInt := fun z => c_53 (Int32.toInt_inj.mp z)
                    have y_0 : (0 : Int32).toInt = 0 := by decide
                    refine vp_in_iff.mpr ⟨?_, ?_⟩ <;> omega
                  refine va_iald hx hb hK hP 2 0 rfl rfl hi_69 dX12_alikeAt_57 ?_
                  refine lv_topi (fun x_70 ex_70 => ?_)
                  refine lv_aload_n hx hb dX12_alikeAt_58 rfl (lv_at hl 4 rfl) ?_
                  refine gf_X12_62 hx hb hts hown hK hP 0 rfl rfl dX12_alikeAt_59 ?_
                  refine lv_iload hx hb dX12_alikeAt_62 (lv_at hl 0 rfl) ?_
                  refine lv_iload_n hx hb dX12_alikeAt_64 rfl (lv_at hl 5 rfl) ?_
                  have ha_71 : 0 ≤ yy_1900.toInt ∧ yy_1900.toInt ≤ 100 ∧ 0 ≤ x1.toInt ∧ x1.toInt ≤ 100 := by
                    have z_1 := Int32.le_iff_toInt_le.mp (Int32.not_lt.mp c_7)
                    have z_2 := Int32.le_iff_toInt_le.mp (Int32.not_lt.mp c_17)
                    have z_3 : ¬ (x_34 : Int32).toInt = (0 : Int32).toInt := fun z => c_35 (Int32.toInt_inj.mp z)
                    have z_4 : ¬ (x_52 : Int32).toInt = (0 : Int32).toInt := fun z => c_53 (Int32.toInt_inj.mp z)
                    have y_0 : (0 : Int32).toInt = 0 := by decide
                    omega
                  refine cS (As := [.int yy_1900, .int x1]) (rest := [.ref (Ma 16), .int x_70, .int yy_1901]) (wr := [((Ma 0), .inr (12, [.ref (Ma 1), .int (Mv 0), .int (Mv 1), .ref (Ma 2), .ref (Ma 3), .ref (Ma 4), .ref (Ma 5), .ref (Ma 6), .int (Mv 2), .int (Mv 3), .int (Mv 4), .int (Mv 5), .int (Mv 6), .int (Mv 7), .int (Mv 8), .ref (Ma 7), .int (Mv 9), .ref (Ma 8), .int (Mv 10), .ref (Ma 9), .ref (Ma 10), .int (Mv 11), .int (Mv 12), .int (Mv 13), .ref (Ma 11), .int (Mv 14), .ref (Ma 12), .ref (Ma 13), .ref (Ma 14), .ref (Ma 15), .ref (Ma 16), .long (Mj 0), .ref (Ma 17), .ref (Ma 18), .ref (Ma 19), .ref (Ma 20)])), ((Ma 15), .inl (tc 3, 7, .inl (Mf 15))), ((Ma 16), .inl (tc 0, 427, .inl (Mf 16)))]) ⟨hx, hb, hml, hown, hts⟩ hK hX hA (ct_dX12_spot l D tc sk yy_1900 x1 ha_71) k_1609 k_1607 k_1608 k_106 pl_X12_spot ⟨Nat.le_of_ble_eq_true rfl, Nat.le_of_ble_eq_true rfl⟩ rfl rfl  hP hD hS [] [0, 1, 2] rfl rfl rfl rfl rfl (by decide) rfl hl.1 rfl (Nat.le_of_ble_eq_true rfl) dX12_alikeAt_65 ⟨Nat.le_of_ble_eq_true rfl, Nat.le_of_ble_eq_true rfl⟩ (fun v_72 u_73 H locs hv_74 hP₀ hD₀ hS₀ => ?_)
                  obtain ⟨r_75, rfl, he_76⟩ := hv_74
                  have he_76 : ((r_75.toInt = 61 * yy_1900.toInt + x1.toInt)) ∧ r_75 = (dX12_spot yy_1900 x1) := he_76
                  refine W.eq (g2 := F0 m 68 ls [.int r_75, .ref (Ma 16), .int x_70, .int yy_1901]) rfl ?_
                  replace hP : va_P D classes [((Ma 0), .inr (12, [.ref (Ma 1), .int (Mv 0), .int (Mv 1), .ref (Ma 2), .ref (Ma 3), .ref (Ma 4), .ref (Ma 5), .ref (Ma 6), .int (Mv 2), .int (Mv 3), .int (Mv 4), .int (Mv 5), .int (Mv 6), .int (Mv 7), .int (Mv 8), .ref (Ma 7), .int (Mv 9), .ref (Ma 8), .int (Mv 10), .ref (Ma 9), .ref (Ma 10), .int (Mv 11), .int (Mv 12), .int (Mv 13), .ref (Ma 11), .int (Mv 14), .ref (Ma 12), .ref (Ma 13), .ref (Ma 14), .ref (Ma 15), .ref (Ma 16), .long (Mj 0), .ref (Ma 17), .ref (Ma 18), .ref (Ma 19), .ref (Ma 20)])), ((Ma 15), .inl (tc 3, 7, .inl (Mf 15))), ((Ma 16), .inl (tc 0, 427, .inl (Mf 16)))] H := hP₀
                  replace hD : va_D A [((Ma 0), .inr (12, [.ref (Ma 1), .int (Mv 0), .int (Mv 1), .ref (Ma 2), .ref (Ma 3), .ref (Ma 4), .ref (Ma 5), .ref (Ma 6), .int (Mv 2), .int (Mv 3), .int (Mv 4), .int (Mv 5), .int (Mv 6), .int (Mv 7), .int (Mv 8), .ref (Ma 7), .int (Mv 9), .ref (Ma 8), .int (Mv 10), .ref (Ma 9), .ref (Ma 10), .int (Mv 11), .int (Mv 12), .int (Mv 13), .ref (Ma 11), .int (Mv 14), .ref (Ma 12), .ref (Ma 13), .ref (Ma 14), .ref (Ma 15), .ref (Ma 16), .long (Mj 0), .ref (Ma 17), .ref (Ma 18), .ref (Ma 19), .ref (Ma 20)])), ((Ma 15), .inl (tc 3, 7, .inl (Mf 15))), ((Ma 16), .inl (tc 0, 427, .inl (Mf 16)))] := hD₀
                  replace hS := hS₀
                  clear hP₀ hD₀ hS₀
                  obtain ⟨he_76, hq_78⟩ := he_76
                  have er_75 : r_75 = (dX12_spot yy_1900 x1) := hq_78
                  have hi_79 : vp_in r_75 427 := by
                    have z_1 := Int32.le_iff_toInt_le.mp (Int32.not_lt.mp c_7)
                    have z_2 := Int32.le_iff_toInt_le.mp (Int32.not_lt.mp c_17)
                    have z_3 : ¬ (x_34 : Int32).toInt = (0 : Int32).toInt := fun z => c_35 (Int32.toInt_inj.mp z)
                    have z_4 : ¬ (x_52 : Int32).toInt = (0 : Int32).toInt := fun z => c_53 (Int32.toInt_inj.mp z)
                    have y_0 : (0 : Int32).toInt = 0 := by decide
                    refine vp_in_iff.mpr ⟨?_, ?_⟩ <;> omega
                  refine va_iald hx hb hK hP 2 0 rfl rfl hi_79 dX12_alikeAt_68 ?_
                  refine lv_topi (fun x_80 ex_80 => ?_)
                  refine lv_icmp_ne (tgt := 76) hx hb dX12_alikeAt_69 (by decide) (fun c_81 => ?_) (fun c_81 => ?_)
                  · skip
                    refine lv_iconst (v := 0) hx hb dX12_alikeAt_76 (by decide) ?_
                    refine lv_iadd hx hb dX12_alikeAt_77 ?_
                    refine lv_topi (fun x_82 ex_82 => ?_)
                    refine lv_istore (lv' := [(4, .int x_82), (5, .int yy_1900), (3, .int yy_500), (2, .int yy_501), (0, .ref (Ma 0)), (1, .int x1)]) hx hb dX12_alikeAt_78 hl (by decide) rfl (fun ls hl₀ => ?_)
                    replace hl := hl₀
                    clear hl₀
                    obtain ⟨x_83, ex_83⟩ : ∃ y : Int32, y = yy_1900 + 1 := ⟨_, rfl⟩
                    refine lv_iinc (v := x_83) (lv' := [(5, .int x_83), (4, .int x_82), (3, .int yy_500), (2, .int yy_501), (0, .ref (Ma 0)), (1, .int x1)]) hx hb dX12_alikeAt_80 hl (k := 1) rfl (by rw [ex_83]; rfl) (by decide) rfl (fun ls hl₀ => ?_)
                    replace hl := hl₀
                    clear hl₀
                    refine lv_goto (tgt := 18) hx hb dX12_alikeAt_83 (by decide) ?_
                    have hb_84 : 7 - (x_83 : Int32).toInt < 7 - (yy_1900 : Int32).toInt ∧ 1 ≤ 7 - (yy_1900 : Int32).toInt := by
                      have z_1 := Int32.le_iff_toInt_le.mp (Int32.not_lt.mp c_7)
                      have z_2 := Int32.le_iff_toInt_le.mp (Int32.not_lt.mp c_17)
                      have z_3 : ¬ (x_34 : Int32).toInt = (0 : Int32).toInt := fun z => c_35 (Int32.toInt_inj.mp z)
                      have z_4 : ¬ (x_52 : Int32).toInt = (0 : Int32).toInt := fun z => c_53 (Int32.toInt_inj.mp z)
                      have z_5 : ¬ (x_70 : Int32).toInt = (x_80 : Int32).toInt := fun z => c_81 (Int32.toInt_inj.mp z)
                      have y_0 : (0 : Int32).toInt = 0 := by decide
                      have y_1 : (1 : Int32).toInt = 1 := by decide
                      have t_x_83 : x_83.toInt = (yy_1900 : Int32).toInt + (1 : Int32).toInt := by rw [ex_83]; exact add_toInt (by omega) (by omega)
                      omega
                    have hm_85 : (7 - (yy_1900 : Int32).toInt).toNat = (7 - (x_83 : Int32).toInt).toNat + 1 := by
                      have z_1 := Int32.le_iff_toInt_le.mp (Int32.not_lt.mp c_7)
                      have z_2 := Int32.le_iff_toInt_le.mp (Int32.not_lt.mp c_17)
                      have z_3 : ¬ (x_34 : Int32).toInt = (0 : Int32).toInt := fun z => c_35 (Int32.toInt_inj.mp z)
                      have z_4 : ¬ (x_52 : Int32).toInt = (0 : Int32).toInt := fun z => c_53 (Int32.toInt_inj.mp z)
                      have z_5 : ¬ (x_70 : Int32).toInt = (x_80 : Int32).toInt := fun z => c_81 (Int32.toInt_inj.mp z)
                      have y_0 : (0 : Int32).toInt = 0 := by decide
                      have y_1 : (1 : Int32).toInt = 1 := by decide
                      have t_x_83 : x_83.toInt = (yy_1900 : Int32).toInt + (1 : Int32).toInt := by rw [ex_83]; exact add_toInt (by omega) (by omega)
                      omega
                    have hb_86 : dX12_alikeAt_l18 (Mf 15) (Mf 16) (Mv 1) yy_500 x1 ((7 - (yy_1900 : Int32).toInt).toNat + 1) yy_1900 yy_1901 = dX12_alikeAt_l18 (Mf 15) (Mf 16) (Mv 1) yy_500 x1 ((7 - (yy_1900 : Int32).toInt).toNat) x_83 x_82 := by
                      clear hP hD hS hl ih_12 ih_2
                      replace ex_34 := ex_34.symm; subst ex_34
                      replace ex_52 := ex_52.symm; subst ex_52
                      replace er_65 := er_65.symm; subst er_65
                      replace ex_70 := ex_70.symm; subst ex_70
                      replace er_75 := er_75.symm; subst er_75
                      replace ex_80 := ex_80.symm; subst ex_80
                      replace ex_82 := ex_82.symm; subst ex_82
                      replace ex_83 := ex_83.symm; subst ex_83
                      rw [dX12_alikeAt_l18_s]
                      rw [if_neg c_17, if_neg c_35, if_neg c_53, if_neg c_81]
                      try rfl
                    have hL_87 : (dX12_alikeAt_l18 (Mf 15) (Mf 16) (Mv 1) yy_500 x1 ((7 - (0 : Int32).toInt).toNat + 1) (0 : Int32) (0 : Int32)) = dX12_alikeAt_l18 (Mf 15) (Mf 16) (Mv 1) yy_500 x1 ((7 - (x_83 : Int32).toInt).toNat + 1) x_83 x_82 := by
                      rw [hL_15, hb_86, hm_85]
                    have ha_88 : 0 ≤ (x_83 : Int32).toInt := by
                      have z_1 := Int32.le_iff_toInt_le.mp (Int32.not_lt.mp c_7)
                      have z_2 := Int32.le_iff_toInt_le.mp (Int32.not_lt.mp c_17)
                      have z_3 : ¬ (x_34 : Int32).toInt = (0 : Int32).toInt := fun z => c_35 (Int32.toInt_inj.mp z)
                      have z_4 : ¬ (x_52 : Int32).toInt = (0 : Int32).toInt := fun z => c_53 (Int32.toInt_inj.mp z)
                      have z_5 : ¬ (x_70 : Int32).toInt = (x_80 : Int32).toInt := fun z => c_81 (Int32.toInt_inj.mp z)
                      have y_0 : (0 : Int32).toInt = 0 := by decide
                      have y_1 : (1 : Int32).toInt = 1 := by decide
                      have t_x_83 : x_83.toInt = (yy_1900 : Int32).toInt + (1 : Int32).toInt := by rw [ex_83]; exact add_toInt (by omega) (by omega)
                      omega
                    exact ih_12 x_83 x_82 _ _ _ (by omega) hL_87 ha_88 (hP.sub [0, 1, 2] rfl) (hD.sub [0, 1, 2] rfl rfl) hS (lv_sub hl [0, 1, 2, 3, 4, 5] rfl)
                  · skip
                    refine lv_iconst (v := 1) hx hb dX12_alikeAt_72 (by decide) ?_
                    refine lv_goto (tgt := 77) hx hb dX12_alikeAt_73 (by decide) ?_
                    refine lv_iadd hx hb dX12_alikeAt_77 ?_
                    refine lv_topi (fun x_89 ex_89 => ?_)
                    refine lv_istore (lv' := [(4, .int x_89), (5, .int yy_1900), (3, .int yy_500), (2, .int yy_501), (0, .ref (Ma 0)), (1, .int x1)]) hx hb dX12_alikeAt_78 hl (by decide) rfl (fun ls hl₀ => ?_)
                    replace hl := hl₀
                    clear hl₀
                    obtain ⟨x_90, ex_90⟩ : ∃ y : Int32, y = yy_1900 + 1 := ⟨_, rfl⟩
                    refine lv_iinc (v := x_90) (lv' := [(5, .int x_90), (4, .int x_89), (3, .int yy_500), (2, .int yy_501), (0, .ref (Ma 0)), (1, .int x1)]) hx hb dX12_alikeAt_80 hl (k := 1) rfl (by rw [ex_90]; rfl) (by decide) rfl (fun ls hl₀ => ?_)
                    replace hl := hl₀
                    clear hl₀
                    refine lv_goto (tgt := 18) hx hb dX12_alikeAt_83 (by decide) ?_
                    have hb_91 : 7 - (x_90 : Int32).toInt < 7 - (yy_1900 : Int32).toInt ∧ 1 ≤ 7 - (yy_1900 : Int32).toInt := by
                      have z_1 := Int32.le_iff_toInt_le.mp (Int32.not_lt.mp c_7)
                      have z_2 := Int32.le_iff_toInt_le.mp (Int32.not_lt.mp c_17)
                      have z_3 : ¬ (x_34 : Int32).toInt = (0 : Int32).toInt := fun z => c_35 (Int32.toInt_inj.mp z)
                      have z_4 : ¬ (x_52 : Int32).toInt = (0 : Int32).toInt := fun z => c_53 (Int32.toInt_inj.mp z)
                      have z_5 := congrArg Int32.toInt c_81
                      have y_0 : (0 : Int32).toInt = 0 := by decide
                      have y_1 : (1 : Int32).toInt = 1 := by decide
                      have t_x_90 : x_90.toInt = (yy_1900 : Int32).toInt + (1 : Int32).toInt := by rw [ex_90]; exact add_toInt (by omega) (by omega)
                      omega
                    have hm_92 : (7 - (yy_1900 : Int32).toInt).toNat = (7 - (x_90 : Int32).toInt).toNat + 1 := by
                      have z_1 := Int32.le_iff_toInt_le.mp (Int32.not_lt.mp c_7)
                      have z_2 := Int32.le_iff_toInt_le.mp (Int32.not_lt.mp c_17)
                      have z_3 : ¬ (x_34 : Int32).toInt = (0 : Int32).toInt := fun z => c_35 (Int32.toInt_inj.mp z)
                      have z_4 : ¬ (x_52 : Int32).toInt = (0 : Int32).toInt := fun z => c_53 (Int32.toInt_inj.mp z)
                      have z_5 := congrArg Int32.toInt c_81
                      have y_0 : (0 : Int32).toInt = 0 := by decide
                      have y_1 : (1 : Int32).toInt = 1 := by decide
                      have t_x_90 : x_90.toInt = (yy_1900 : Int32).toInt + (1 : Int32).toInt := by rw [ex_90]; exact add_toInt (by omega) (by omega)
                      omega
                    have hb_93 : dX12_alikeAt_l18 (Mf 15) (Mf 16) (Mv 1) yy_500 x1 ((7 - (yy_1900 : Int32).toInt).toNat + 1) yy_1900 yy_1901 = dX12_alikeAt_l18 (Mf 15) (Mf 16) (Mv 1) yy_500 x1 ((7 - (yy_1900 : Int32).toInt).toNat) x_90 x_89 := by
                      clear hP hD hS hl ih_12 ih_2
                      replace ex_34 := ex_34.symm; subst ex_34
                      replace ex_52 := ex_52.symm; subst ex_52
                      replace er_65 := er_65.symm; subst er_65
                      replace ex_70 := ex_70.symm; subst ex_70
                      replace er_75 := er_75.symm; subst er_75
                      replace ex_80 := ex_80.symm; subst ex_80
                      replace ex_89 := ex_89.symm; subst ex_89
                      replace ex_90 := ex_90.symm; subst ex_90
                      rw [dX12_alikeAt_l18_s]
                      rw [if_neg c_17, if_neg c_35, if_neg c_53, if_pos c_81]
                      try rfl
                    have hL_94 : (dX12_alikeAt_l18 (Mf 15) (Mf 16) (Mv 1) yy_500 x1 ((7 - (0 : Int32).toInt).toNat + 1) (0 : Int32) (0 : Int32)) = dX12_alikeAt_l18 (Mf 15) (Mf 16) (Mv 1) yy_500 x1 ((7 - (x_90 : Int32).toInt).toNat + 1) x_90 x_89 := by
                      rw [hL_15, hb_93, hm_92]
                    have ha_95 : 0 ≤ (x_90 : Int32).toInt := by
                      have z_1 := Int32.le_iff_toInt_le.mp (Int32.not_lt.mp c_7)
                      have z_2 := Int32.le_iff_toInt_le.mp (Int32.not_lt.mp c_17)
                      have z_3 : ¬ (x_34 : Int32).toInt = (0 : Int32).toInt := fun z => c_35 (Int32.toInt_inj.mp z)
                      have z_4 : ¬ (x_52 : Int32).toInt = (0 : Int32).toInt := fun z => c_53 (Int32.toInt_inj.mp z)
                      have z_5 := congrArg Int32.toInt c_81
                      have y_0 : (0 : Int32).toInt = 0 := by decide
                      have y_1 : (1 : Int32).toInt = 1 := by decide
                      have t_x_90 : x_90.toInt = (yy_1900 : Int32).toInt + (1 : Int32).toInt := by rw [ex_90]; exact add_toInt (by omega) (by omega)
                      omega
                    exact ih_12 x_90 x_89 _ _ _ (by omega) hL_94 ha_95 (hP.sub [0, 1, 2] rfl) (hD.sub [0, 1, 2] rfl rfl) hS (lv_sub hl [0, 1, 2, 3, 4, 5] rfl)
        have ha_96 : 0 ≤ (0 : Int32).toInt := by
          have z_1 := Int32.le_iff_toInt_le.mp (Int32.not_lt.mp c_7)
          have y_0 : (0 : Int32).toInt = 0 := by decide
          omega
        exact loop_13 _ 0 0 _ _ _ (Nat.lt_succ_self _) rfl ha_96 hP hD hS hl
  have ha_97 : 0 ≤ (0 : Int32).toInt := by
    have y_0 : (0 : Int32).toInt = 0 := by decide
    omega
  exact loop_3 _ 0 0 _ _ _ (Nat.lt_succ_self _) rfl ha_97 hP hD hS hl
set_option maxRecDepth 100000 in
theorem cu_dX12_alikeAt (l : Launch) (D : va_G) (tc : Nat → ClassId) (sk : (Nat → Nat) × (Nat → Nat)) (Ma_0 : Nat) (Ma_1 : Nat) (Ma_2 : Nat) (Ma_3 : Nat) (Ma_4 : Nat) (Ma_5 : Nat) (Ma_6 : Nat) (Ma_7 : Nat) (Ma_8 : Nat) (Ma_9 : Nat) (Ma_10 : Nat) (Ma_11 : Nat) (Ma_12 : Nat) (Ma_13 : Nat) (Ma_14 : Nat) (Ma_15 : Nat) (Ma_16 : Nat) (Ma_17 : Nat) (Ma_18 : Nat) (Ma_19 : Nat) (Ma_20 : Nat) (Mv_0 : Int32) (Mv_1 : Int32) (Mv_2 : Int32) (Mv_3 : Int32) (Mv_4 : Int32) (Mv_5 : Int32) (Mv_6 : Int32) (Mv_7 : Int32) (Mv_8 : Int32) (Mv_9 : Int32) (Mv_10 : Int32) (Mv_11 : Int32) (Mv_12 : Int32) (Mv_13 : Int32) (Mv_14 : Int32) (Mf_15 : Nat → Int32) (Mf_16 : Nat → Int32) (Mj_0 : Int64) (x1 : Int32) (h_n : 0 ≤ x1.toInt ∧ x1.toInt ≤ 60) (h_r6 : Mv_1.toInt ≤ 6) : Ct l yX12_alikeAt cX12_alikeAt 6 (some .int) { frames := 1, cells := 0, slots := 0, locals := 21 } D tc sk [.ref Ma_0, .int x1] [(Ma_0, .inr (12, [.ref Ma_1, .int Mv_0, .int Mv_1, .ref Ma_2, .ref Ma_3, .ref Ma_4, .ref Ma_5, .ref Ma_6, .int Mv_2, .int Mv_3, .int Mv_4, .int Mv_5, .int Mv_6, .int Mv_7, .int Mv_8, .ref Ma_7, .int Mv_9, .ref Ma_8, .int Mv_10, .ref Ma_9, .ref Ma_10, .int Mv_11, .int Mv_12, .int Mv_13, .ref Ma_11, .int Mv_14, .ref Ma_12, .ref Ma_13, .ref Ma_14, .ref Ma_15, .ref Ma_16, .long Mj_0, .ref Ma_17, .ref Ma_18, .ref Ma_19, .ref Ma_20])), (Ma_15, .inl (tc 3, 7, .inl Mf_15)), (Ma_16, .inl (tc 0, 427, .inl Mf_16))] (fun (v : Option Value) (_ : Unit) => ∃ r : Int32, v = some (.int r) ∧ ((True) ∧ r = (dX12_alikeAt Mf_15 Mf_16 Mv_1 x1))) (fun (_ : Unit) => [(Ma_0, .inr (12, [.ref Ma_1, .int Mv_0, .int Mv_1, .ref Ma_2, .ref Ma_3, .ref Ma_4, .ref Ma_5, .ref Ma_6, .int Mv_2, .int Mv_3, .int Mv_4, .int Mv_5, .int Mv_6, .int Mv_7, .int Mv_8, .ref Ma_7, .int Mv_9, .ref Ma_8, .int Mv_10, .ref Ma_9, .ref Ma_10, .int Mv_11, .int Mv_12, .int Mv_13, .ref Ma_11, .int Mv_14, .ref Ma_12, .ref Ma_13, .ref Ma_14, .ref Ma_15, .ref Ma_16, .long Mj_0, .ref Ma_17, .ref Ma_18, .ref Ma_19, .ref Ma_20])), (Ma_15, .inl (tc 3, 7, .inl Mf_15)), (Ma_16, .inl (tc 0, 427, .inl Mf_16))]) 0 0 :=
  ct_dX12_alikeAt l D tc sk (fun k => ([Ma_0, Ma_1, Ma_2, Ma_3, Ma_4, Ma_5, Ma_6, Ma_7, Ma_8, Ma_9, Ma_10, Ma_11, Ma_12, Ma_13, Ma_14, Ma_15, Ma_16, Ma_17, Ma_18, Ma_19, Ma_20] : List (Nat)).getD k 0) (fun k => ([Mv_0, Mv_1, Mv_2, Mv_3, Mv_4, Mv_5, Mv_6, Mv_7, Mv_8, Mv_9, Mv_10, Mv_11, Mv_12, Mv_13, Mv_14] : List (Int32)).getD k 0) (fun k => ([(fun _ => 0), (fun _ => 0), (fun _ => 0), (fun _ => 0), (fun _ => 0), (fun _ => 0), (fun _ => 0), (fun _ => 0), (fun _ => 0), (fun _ => 0), (fun _ => 0), (fun _ => 0), (fun _ => 0), (fun _ => 0), (fun _ => 0), Mf_15, Mf_16] : List (Nat → Int32)).getD k (fun _ => 0)) (fun k => ([Mj_0] : List (Int64)).getD k 0) x1 h_n h_r6
def dX12_look_l27 (Mf_2 : Nat → Int32) (Mf_4 : Nat → Int32) (Mf_5 : Nat → Int32) (Mf_10 : Nat → Int32) (Mf_12 : Nat → Int32) (Mf_15 : Nat → Int32) (Mf_16 : Nat → Int32) (Mg_8 : Nat → Int64) (Mg_9 : Nat → Int64) (Mv_1 : Int32) (Mv_10 : Int32) (Mv_11 : Int32) (Mv_13 : Int32) : Nat → Int32 → Int32 → Int32 × Int32
  | 0, _, _ => (0, 0)
  | n + 1, yy_2800, yy_2801 => (if (60 : Int32) < yy_2800 then (yy_2800, yy_2801) else (if (dX12_alikeAt ((dX12_fillsFits Mf_2 Mf_4 Mf_5 Mf_10 Mf_12 Mf_15 Mf_16 Mg_8 Mg_9 Mv_1 Mv_10 Mv_11 Mv_13).2.2.2.2.2.1) ((dX12_fillsFits Mf_2 Mf_4 Mf_5 Mf_10 Mf_12 Mf_15 Mf_16 Mg_8 Mg_9 Mv_1 Mv_10 Mv_11 Mv_13).2.2.2.2.2.2) Mv_1 yy_2801) ≤ (dX12_alikeAt ((dX12_fillsFits Mf_2 Mf_4 Mf_5 Mf_10 Mf_12 Mf_15 Mf_16 Mg_8 Mg_9 Mv_1 Mv_10 Mv_11 Mv_13).2.2.2.2.2.1) ((dX12_fillsFits Mf_2 Mf_4 Mf_5 Mf_10 Mf_12 Mf_15 Mf_16 Mg_8 Mg_9 Mv_1 Mv_10 Mv_11 Mv_13).2.2.2.2.2.2) Mv_1 yy_2800) then dX12_look_l27 Mf_2 Mf_4 Mf_5 Mf_10 Mf_12 Mf_15 Mf_16 Mg_8 Mg_9 Mv_1 Mv_10 Mv_11 Mv_13 n (yy_2800 + 1) yy_2801 else dX12_look_l27 Mf_2 Mf_4 Mf_5 Mf_10 Mf_12 Mf_15 Mf_16 Mg_8 Mg_9 Mv_1 Mv_10 Mv_11 Mv_13 n (yy_2800 + 1) yy_2800))
theorem dX12_look_l27_s {Mf_2 : Nat → Int32} {Mf_4 : Nat → Int32} {Mf_5 : Nat → Int32} {Mf_10 : Nat → Int32} {Mf_12 : Nat → Int32} {Mf_15 : Nat → Int32} {Mf_16 : Nat → Int32} {Mg_8 : Nat → Int64} {Mg_9 : Nat → Int64} {Mv_1 : Int32} {Mv_10 : Int32} {Mv_11 : Int32} {Mv_13 : Int32} {n : Nat} {yy_2800 : Int32} {yy_2801 : Int32} : dX12_look_l27 Mf_2 Mf_4 Mf_5 Mf_10 Mf_12 Mf_15 Mf_16 Mg_8 Mg_9 Mv_1 Mv_10 Mv_11 Mv_13 (n + 1) yy_2800 yy_2801 = (if (60 : Int32) < yy_2800 then (yy_2800, yy_2801) else (if (dX12_alikeAt ((dX12_fillsFits Mf_2 Mf_4 Mf_5 Mf_10 Mf_12 Mf_15 Mf_16 Mg_8 Mg_9 Mv_1 Mv_10 Mv_11 Mv_13).2.2.2.2.2.1) ((dX12_fillsFits Mf_2 Mf_4 Mf_5 Mf_10 Mf_12 Mf_15 Mf_16 Mg_8 Mg_9 Mv_1 Mv_10 Mv_11 Mv_13).2.2.2.2.2.2) Mv_1 yy_2801) ≤ (dX12_alikeAt ((dX12_fillsFits Mf_2 Mf_4 Mf_5 Mf_10 Mf_12 Mf_15 Mf_16 Mg_8 Mg_9 Mv_1 Mv_10 Mv_11 Mv_13).2.2.2.2.2.1) ((dX12_fillsFits Mf_2 Mf_4 Mf_5 Mf_10 Mf_12 Mf_15 Mf_16 Mg_8 Mg_9 Mv_1 Mv_10 Mv_11 Mv_13).2.2.2.2.2.2) Mv_1 yy_2800) then dX12_look_l27 Mf_2 Mf_4 Mf_5 Mf_10 Mf_12 Mf_15 Mf_16 Mg_8 Mg_9 Mv_1 Mv_10 Mv_11 Mv_13 n (yy_2800 + 1) yy_2801 else dX12_look_l27 Mf_2 Mf_4 Mf_5 Mf_10 Mf_12 Mf_15 Mf_16 Mg_8 Mg_9 Mv_1 Mv_10 Mv_11 Mv_13 n (yy_2800 + 1) yy_2800)) := rfl
def dX12_look (Mf_2 : Nat → Int32) (Mf_4 : Nat → Int32) (Mf_5 : Nat → Int32) (Mf_10 : Nat → Int32) (Mf_12 : Nat → Int32) (Mf_15 : Nat → Int32) (Mf_16 : Nat → Int32) (Mg_8 : Nat → Int64) (Mg_9 : Nat → Int64) (Mv_1 : Int32) (Mv_10 : Int32) (Mv_11 : Int32) (Mv_13 : Int32) (x1 : Int32) : Int32 × Int32 × (Nat → Int64) × (Nat → Int64) × (Nat → Int32) × (Nat → Int32) × (Nat → Int32) × (Nat → Int32) := (if (dX12_isBook Mf_10) = (0 : Int32) then ((-1 : Int32), Mv_10, Mg_8, Mg_9, Mf_10, Mf_12, Mf_15, Mf_16) else (if (dX12_in (x1).toInt64 (0 : Int64) (1 : Int64)) = (0 : Int32) then ((-1 : Int32), Mv_10, Mg_8, Mg_9, Mf_10, Mf_12, Mf_15, Mf_16) else (if (dX12_alikeAt ((dX12_fillsFits Mf_2 Mf_4 Mf_5 Mf_10 Mf_12 Mf_15 Mf_16 Mg_8 Mg_9 Mv_1 Mv_10 Mv_11 Mv_13).2.2.2.2.2.1) ((dX12_fillsFits Mf_2 Mf_4 Mf_5 Mf_10 Mf_12 Mf_15 Mf_16 Mg_8 Mg_9 Mv_1 Mv_10 Mv_11 Mv_13).2.2.2.2.2.2) Mv_1 (dX12_look_l27 Mf_2 Mf_4 Mf_5 Mf_10 Mf_12 Mf_15 Mf_16 Mg_8 Mg_9 Mv_1 Mv_10 Mv_11 Mv_13 ((61 - (1 : Int32).toInt).toNat + 1) (1 : Int32) (0 : Int32)).2) = (0 : Int32) then ((-2 : Int32), (dX12_fillsFits Mf_2 Mf_4 Mf_5 Mf_10 Mf_12 Mf_15 Mf_16 Mg_8 Mg_9 Mv_1 Mv_10 Mv_11 Mv_13).1, ((dX12_fillsFits Mf_2 Mf_4 Mf_5 Mf_10 Mf_12 Mf_15 Mf_16 Mg_8 Mg_9 Mv_1 Mv_10 Mv_11 Mv_13).2.1), ((dX12_fillsFits Mf_2 Mf_4 Mf_5 Mf_10 Mf_12 Mf_15 Mf_16 Mg_8 Mg_9 Mv_1 Mv_10 Mv_11 Mv_13).2.2.1), ((dX12_fillsFits Mf_2 Mf_4 Mf_5 Mf_10 Mf_12 Mf_15 Mf_16 Mg_8 Mg_9 Mv_1 Mv_10 Mv_11 Mv_13).2.2.2.1), ((dX12_fillsFits Mf_2 Mf_4 Mf_5 Mf_10 Mf_12 Mf_15 Mf_16 Mg_8 Mg_9 Mv_1 Mv_10 Mv_11 Mv_13).2.2.2.2.1), ((dX12_fillsFits Mf_2 Mf_4 Mf_5 Mf_10 Mf_12 Mf_15 Mf_16 Mg_8 Mg_9 Mv_1 Mv_10 Mv_11 Mv_13).2.2.2.2.2.1), ((dX12_fillsFits Mf_2 Mf_4 Mf_5 Mf_10 Mf_12 Mf_15 Mf_16 Mg_8 Mg_9 Mv_1 Mv_10 Mv_11 Mv_13).2.2.2.2.2.2)) else (if x1 = (0 : Int32) then ((dX12_look_l27 Mf_2 Mf_4 Mf_5 Mf_10 Mf_12 Mf_15 Mf_16 Mg_8 Mg_9 Mv_1 Mv_10 Mv_11 Mv_13 ((61 - (1 : Int32).toInt).toNat + 1) (1 : Int32) (0 : Int32)).2, (dX12_fillsFits Mf_2 Mf_4 Mf_5 Mf_10 Mf_12 Mf_15 Mf_16 Mg_8 Mg_9 Mv_1 Mv_10 Mv_11 Mv_13).1, ((dX12_fillsFits Mf_2 Mf_4 Mf_5 Mf_10 Mf_12 Mf_15 Mf_16 Mg_8 Mg_9 Mv_1 Mv_10 Mv_11 Mv_13).2.1), ((dX12_fillsFits Mf_2 Mf_4 Mf_5 Mf_10 Mf_12 Mf_15 Mf_16 Mg_8 Mg_9 Mv_1 Mv_10 Mv_11 Mv_13).2.2.1), ((dX12_fillsFits Mf_2 Mf_4 Mf_5 Mf_10 Mf_12 Mf_15 Mf_16 Mg_8 Mg_9 Mv_1 Mv_10 Mv_11 Mv_13).2.2.2.1), ((dX12_fillsFits Mf_2 Mf_4 Mf_5 Mf_10 Mf_12 Mf_15 Mf_16 Mg_8 Mg_9 Mv_1 Mv_10 Mv_11 Mv_13).2.2.2.2.1), ((dX12_fillsFits Mf_2 Mf_4 Mf_5 Mf_10 Mf_12 Mf_15 Mf_16 Mg_8 Mg_9 Mv_1 Mv_10 Mv_11 Mv_13).2.2.2.2.2.1), ((dX12_fillsFits Mf_2 Mf_4 Mf_5 Mf_10 Mf_12 Mf_15 Mf_16 Mg_8 Mg_9 Mv_1 Mv_10 Mv_11 Mv_13).2.2.2.2.2.2)) else ((dX12_alikeAt ((dX12_fillsFits Mf_2 Mf_4 Mf_5 Mf_10 Mf_12 Mf_15 Mf_16 Mg_8 Mg_9 Mv_1 Mv_10 Mv_11 Mv_13).2.2.2.2.2.1) ((dX12_fillsFits Mf_2 Mf_4 Mf_5 Mf_10 Mf_12 Mf_15 Mf_16 Mg_8 Mg_9 Mv_1 Mv_10 Mv_11 Mv_13).2.2.2.2.2.2) Mv_1 (dX12_look_l27 Mf_2 Mf_4 Mf_5 Mf_10 Mf_12 Mf_15 Mf_16 Mg_8 Mg_9 Mv_1 Mv_10 Mv_11 Mv_13 ((61 - (1 : Int32).toInt).toNat + 1) (1 : Int32) (0 : Int32)).2), (dX12_fillsFits Mf_2 Mf_4 Mf_5 Mf_10 Mf_12 Mf_15 Mf_16 Mg_8 Mg_9 Mv_1 Mv_10 Mv_11 Mv_13).1, ((dX12_fillsFits Mf_2 Mf_4 Mf_5 Mf_10 Mf_12 Mf_15 Mf_16 Mg_8 Mg_9 Mv_1 Mv_10 Mv_11 Mv_13).2.1), ((dX12_fillsFits Mf_2 Mf_4 Mf_5 Mf_10 Mf_12 Mf_15 Mf_16 Mg_8 Mg_9 Mv_1 Mv_10 Mv_11 Mv_13).2.2.1), ((dX12_fillsFits Mf_2 Mf_4 Mf_5 Mf_10 Mf_12 Mf_15 Mf_16 Mg_8 Mg_9 Mv_1 Mv_10 Mv_11 Mv_13).2.2.2.1), ((dX12_fillsFits Mf_2 Mf_4 Mf_5 Mf_10 Mf_12 Mf_15 Mf_16 Mg_8 Mg_9 Mv_1 Mv_10 Mv_11 Mv_13).2.2.2.2.1), ((dX12_fillsFits Mf_2 Mf_4 Mf_5 Mf_10 Mf_12 Mf_15 Mf_16 Mg_8 Mg_9 Mv_1 Mv_10 Mv_11 Mv_13).2.2.2.2.2.1), ((dX12_fillsFits Mf_2 Mf_4 Mf_5 Mf_10 Mf_12 Mf_15 Mf_16 Mg_8 Mg_9 Mv_1 Mv_10 Mv_11 Mv_13).2.2.2.2.2.2))))))
set_option maxHeartbeats 4000000 in
set_option maxRecDepth 100000 in
theorem ct_dX12_look {T : Nat → Option Int32} (l : Launch) (D : va_G) (tc : Nat → ClassId) (sk : (Nat → Nat) × (Nat → Nat)) (Ma : Nat → Nat) (Mv : Nat → Int32) (Mf : Nat → Nat → Int32) (Mj : Nat → Int64) (Mg : Nat → Nat → Int64) (x1 : Int32) (h_said : SaidD T (Mf 10) 999) (h_rul : RulD (Mf 2) (Mf 4) (Mf 5) (Mv 1)) (h_frc : -1 ≤ (Mv 11).toInt ∧ (Mv 11).toInt < (Mv 1).toInt ∧ (Mv 1).toInt ≤ 6) : Ct l yX12_look cX12_look 4 (some .int) { frames := 6, cells := 0, slots := 0, locals := 144 } D tc sk [.ref (Ma 0), .int x1] [((Ma 0), .inr (12, [.ref (Ma 1), .int (Mv 0), .int (Mv 1), .ref (Ma 2), .ref (Ma 3), .ref (Ma 4), .ref (Ma 5), .ref (Ma 6), .int (Mv 2), .int (Mv 3), .int (Mv 4), .int (Mv 5), .int (Mv 6), .int (Mv 7), .int (Mv 8), .ref (Ma 7), .int (Mv 9), .ref (Ma 8), .int (Mv 10), .ref (Ma 9), .ref (Ma 10), .int (Mv 11), .int (Mv 12), .int (Mv 13), .ref (Ma 11), .int (Mv 14), .ref (Ma 12), .ref (Ma 13), .ref (Ma 14), .ref (Ma 15), .ref (Ma 16), .long (Mj 0), .ref (Ma 17), .ref (Ma 18), .ref (Ma 19), .ref (Ma 20)])), ((Ma 2), .inl (tc 0, 2400, .inl (Mf 2))), ((Ma 4), .inl (tc 0, 288, .inl (Mf 4))), ((Ma 5), .inl (tc 0, 6, .inl (Mf 5))), ((Ma 8), .inl (tc 1, 64, .inr (.inl (Mg 8)))), ((Ma 9), .inl (tc 1, 13, .inr (.inl (Mg 9)))), ((Ma 10), .inl (tc 0, 126, .inl (Mf 10))), ((Ma 12), .inl (tc 0, 46, .inl (Mf 12))), ((Ma 15), .inl (tc 3, 7, .inl (Mf 15))), ((Ma 16), .inl (tc 0, 427, .inl (Mf 16)))] (fun (v : Option Value) (u : (Int32) × (Nat → Int64) × (Nat → Int64) × (Nat → Int32) × (Nat → Int32) × (Nat → Int32) × (Nat → Int32)) => match u with | (oo0x1, oo0x2, oo0x3, oo0x4, oo0x5, oo0x6, oo0x7) => ∃ r : Int32, v = some (.int r) ∧ ((True) ∧ (r, oo0x1, oo0x2, oo0x3, oo0x4, oo0x5, oo0x6, oo0x7) = (dX12_look (Mf 2) (Mf 4) (Mf 5) (Mf 10) (Mf 12) (Mf 15) (Mf 16) (Mg 8) (Mg 9) (Mv 1) (Mv 10) (Mv 11) (Mv 13) x1)) ∧ (SaidD T oo0x4 999)) (fun (u : (Int32) × (Nat → Int64) × (Nat → Int64) × (Nat → Int32) × (Nat → Int32) × (Nat → Int32) × (Nat → Int32)) => match u with | (oo0x1, oo0x2, oo0x3, oo0x4, oo0x5, oo0x6, oo0x7) => [((Ma 0), .inr (12, [.ref (Ma 1), .int (Mv 0), .int (Mv 1), .ref (Ma 2), .ref (Ma 3), .ref (Ma 4), .ref (Ma 5), .ref (Ma 6), .int (Mv 2), .int (Mv 3), .int (Mv 4), .int (Mv 5), .int (Mv 6), .int (Mv 7), .int (Mv 8), .ref (Ma 7), .int (Mv 9), .ref (Ma 8), .int oo0x1, .ref (Ma 9), .ref (Ma 10), .int (Mv 11), .int (Mv 12), .int (Mv 13), .ref (Ma 11), .int (Mv 14), .ref (Ma 12), .ref (Ma 13), .ref (Ma 14), .ref (Ma 15), .ref (Ma 16), .long (Mj 0), .ref (Ma 17), .ref (Ma 18), .ref (Ma 19), .ref (Ma 20)])), ((Ma 2), .inl (tc 0, 2400, .inl (Mf 2))), ((Ma 4), .inl (tc 0, 288, .inl (Mf 4))), ((Ma 5), .inl (tc 0, 6, .inl (Mf 5))), ((Ma 8), .inl (tc 1, 64, .inr (.inl oo0x2))), ((Ma 9), .inl (tc 1, 13, .inr (.inl oo0x3))), ((Ma 10), .inl (tc 0, 126, .inl oo0x4)), ((Ma 12), .inl (tc 0, 46, .inl oo0x5)), ((Ma 15), .inl (tc 3, 7, .inl oo0x6)), ((Ma 16), .inl (tc 0, 427, .inl oo0x7))]) 0 0 := by
  refine Ct.start (by decide) (Nat.le_of_ble_eq_true rfl) (fun p e s m below meth c A ls hx hb hr hlk hin hml hown hts hK hX hP hD hA hl hS => ?_)
  have hl : lv_has ls 4 [(0, .ref (Ma 0)), (1, .int x1)] := hl
  have ar_h_said := SaidD.ar h_said
  refine lv_aload_n hx hb dX12_look_0 rfl (lv_at hl 0 rfl) ?_
  refine cV (a := (Ma 0)) (As := []) (rest := []) (wr := [((Ma 2), .inl (tc 0, 2400, .inl (Mf 2))), ((Ma 4), .inl (tc 0, 288, .inl (Mf 4))), ((Ma 5), .inl (tc 0, 6, .inl (Mf 5))), ((Ma 8), .inl (tc 1, 64, .inr (.inl (Mg 8)))), ((Ma 9), .inl (tc 1, 13, .inr (.inl (Mg 9)))), ((Ma 12), .inl (tc 0, 46, .inl (Mf 12))), ((Ma 15), .inl (tc 3, 7, .inl (Mf 15))), ((Ma 16), .inl (tc 0, 427, .inl (Mf 16)))]) ⟨hx, hb, hml, hown, hts⟩ hK hX hA (cu_dX12_isBook l D tc sk (Ma 0) (Ma 1) (Ma 2) (Ma 3) (Ma 4) (Ma 5) (Ma 6) (Ma 7) (Ma 8) (Ma 9) (Ma 10) (Ma 11) (Ma 12) (Ma 13) (Ma 14) (Ma 15) (Ma 16) (Ma 17) (Ma 18) (Ma 19) (Ma 20) (Mv 0) (Mv 1) (Mv 2) (Mv 3) (Mv 4) (Mv 5) (Mv 6) (Mv 7) (Mv 8) (Mv 9) (Mv 10) (Mv 11) (Mv 12) (Mv 13) (Mv 14) (Mf 10) (Mj 0) h_said.1) k_1407 k_1404 k_1406 k_65 k_106 pl_X12_isBook ⟨Nat.le_of_ble_eq_true rfl, Nat.le_of_ble_eq_true rfl⟩ rfl rfl (va_recv hK hP (ci := 12) (q0 := 0) rfl rfl) hP hD hS [0, 6] [1, 2, 3, 4, 5, 7, 8, 9] rfl rfl rfl rfl rfl (by decide) rfl hl.1 rfl (Nat.le_of_ble_eq_true rfl) dX12_look_1 ⟨Nat.le_of_ble_eq_true rfl, Nat.le_of_ble_eq_true rfl⟩ (fun v_1 u_2 H locs hv_3 hP₀ hD₀ hS₀ => ?_)
  obtain ⟨r_4, rfl, he_5⟩ := hv_3
  have he_5 : ((r_4.toInt = 0 ∨ (r_4.toInt = 1 ∧ 1 ≤ ((Mf 10) 2).toInt ∧ ((Mf 10) 2).toInt ≤ 10))) ∧ r_4 = (dX12_isBook (Mf 10)) := he_5
  refine W.eq (g2 := F0 m 4 ls [.int r_4]) rfl ?_
  replace hP : va_P D classes [((Ma 2), .inl (tc 0, 2400, .inl (Mf 2))), ((Ma 4), .inl (tc 0, 288, .inl (Mf 4))), ((Ma 5), .inl (tc 0, 6, .inl (Mf 5))), ((Ma 8), .inl (tc 1, 64, .inr (.inl (Mg 8)))), ((Ma 9), .inl (tc 1, 13, .inr (.inl (Mg 9)))), ((Ma 12), .inl (tc 0, 46, .inl (Mf 12))), ((Ma 15), .inl (tc 3, 7, .inl (Mf 15))), ((Ma 16), .inl (tc 0, 427, .inl (Mf 16))), ((Ma 0), .inr (12, [.ref (Ma 1), .int (Mv 0), .int (Mv 1), .ref (Ma 2), .ref (Ma 3), .ref (Ma 4), .ref (Ma 5), .ref (Ma 6), .int (Mv 2), .int (Mv 3), .int (Mv 4), .int (Mv 5), .int (Mv 6), .int (Mv 7), .int (Mv 8), .ref (Ma 7), .int (Mv 9), .ref (Ma 8), .int (Mv 10), .ref (Ma 9), .ref (Ma 10), .int (Mv 11), .int (Mv 12), .int (Mv 13), .ref (Ma 11), .int (Mv 14), .ref (Ma 12), .ref (Ma 13), .ref (Ma 14), .ref (Ma 15), .ref (Ma 16), .long (Mj 0), .ref (Ma 17), .ref (Ma 18), .ref (Ma 19), .ref (Ma 20)])), ((Ma 10), .inl (tc 0, 126, .inl (Mf 10)))] H := hP₀
  replace hD : va_D A [((Ma 2), .inl (tc 0, 2400, .inl (Mf 2))), ((Ma 4), .inl (tc 0, 288, .inl (Mf 4))), ((Ma 5), .inl (tc 0, 6, .inl (Mf 5))), ((Ma 8), .inl (tc 1, 64, .inr (.inl (Mg 8)))), ((Ma 9), .inl (tc 1, 13, .inr (.inl (Mg 9)))), ((Ma 12), .inl (tc 0, 46, .inl (Mf 12))), ((Ma 15), .inl (tc 3, 7, .inl (Mf 15))), ((Ma 16), .inl (tc 0, 427, .inl (Mf 16))), ((Ma 0), .inr (12, [.ref (Ma 1), .int (Mv 0), .int (Mv 1), .ref (Ma 2), .ref (Ma 3), .ref (Ma 4), .ref (Ma 5), .ref (Ma 6), .int (Mv 2), .int (Mv 3), .int (Mv 4), .int (Mv 5), .int (Mv 6), .int (Mv 7), .int (Mv 8), .ref (Ma 7), .int (Mv 9), .ref (Ma 8), .int (Mv 10), .ref (Ma 9), .ref (Ma 10), .int (Mv 11), .int (Mv 12), .int (Mv 13), .ref (Ma 11), .int (Mv 14), .ref (Ma 12), .ref (Ma 13), .ref (Ma 14), .ref (Ma 15), .ref (Ma 16), .long (Mj 0), .ref (Ma 17), .ref (Ma 18), .ref (Ma 19), .ref (Ma 20)])), ((Ma 10), .inl (tc 0, 126, .inl (Mf 10)))] := hD₀
  replace hS := hS₀
  clear hP₀ hD₀ hS₀
  obtain ⟨he_5, hq_7⟩ := he_5
  have er_4 : r_4 = (dX12_isBook (Mf 10)) := hq_7
  refine lv_if_eq (tgt := 17) hx hb dX12_look_4 (by decide) (fun c_8 => ?_) (fun c_8 => ?_)
  · skip
    refine lv_iconst (v := (-1)) hx hb dX12_look_17 (by decide) ?_
    have hF_9 : ((-1 : Int32), (Mv 10), (Mg 8), (Mg 9), (Mf 10), (Mf 12), (Mf 15), (Mf 16)) = (dX12_look (Mf 2) (Mf 4) (Mf 5) (Mf 10) (Mf 12) (Mf 15) (Mf 16) (Mg 8) (Mg 9) (Mv 1) (Mv 10) (Mv 11) (Mv 13) x1) := by
      clear hP hD hS hl
      replace er_4 := er_4.symm; subst er_4
      unfold dX12_look
      rw [if_pos c_8]
      try rfl
    exact retI (v := (-1)) hx hb hr hlk (rfl) hP hD hS ((Mv 10), (Mg 8), (Mg 9), (Mf 10), (Mf 12), (Mf 15), (Mf 16)) ⟨_, rfl, ⟨trivial, hF_9⟩, h_said⟩ [8, 0, 1, 2, 3, 4, 9, 5, 6, 7] rfl rfl dX12_look_18 (Nat.le_of_ble_eq_true rfl) (Nat.le_of_ble_eq_true rfl) rfl
  · skip
    refine lv_iload_n hx hb dX12_look_7 rfl (lv_at hl 1 rfl) ?_
    refine lv_i2l (v := (x1).toInt64) hx hb dX12_look_8 rfl ?_
    refine lv_lconst (v := 0) hx hb dX12_look_9 (by decide) ?_
    refine lv_lconst (v := 1) hx hb dX12_look_10 (by decide) ?_
    refine cS (As := [.long (x1).toInt64, .long 0, .long 1]) (rest := []) (wr := [((Ma 2), .inl (tc 0, 2400, .inl (Mf 2))), ((Ma 4), .inl (tc 0, 288, .inl (Mf 4))), ((Ma 5), .inl (tc 0, 6, .inl (Mf 5))), ((Ma 8), .inl (tc 1, 64, .inr (.inl (Mg 8)))), ((Ma 9), .inl (tc 1, 13, .inr (.inl (Mg 9)))), ((Ma 12), .inl (tc 0, 46, .inl (Mf 12))), ((Ma 15), .inl (tc 3, 7, .inl (Mf 15))), ((Ma 16), .inl (tc 0, 427, .inl (Mf 16))), ((Ma 0), .inr (12, [.ref (Ma 1), .int (Mv 0), .int (Mv 1), .ref (Ma 2), .ref (Ma 3), .ref (Ma 4), .ref (Ma 5), .ref (Ma 6), .int (Mv 2), .int (Mv 3), .int (Mv 4), .int (Mv 5), .int (Mv 6), .int (Mv 7), .int (Mv 8), .ref (Ma 7), .int (Mv 9), .ref (Ma 8), .int (Mv 10), .ref (Ma 9), .ref (Ma 10), .int (Mv 11), .int (Mv 12), .int (Mv 13), .ref (Ma 11), .int (Mv 14), .ref (Ma 12), .ref (Ma 13), .ref (Ma 14), .ref (Ma 15), .ref (Ma 16), .long (Mj 0), .ref (Ma 17), .ref (Ma 18), .ref (Ma 19), .ref (Ma 20)])), ((Ma 10), .inl (tc 0, 126, .inl (Mf 10)))]) ⟨hx, hb, hml, hown, hts⟩ hK hX hA (ct_dX12_in l D tc sk ((x1).toInt64) 0 1) k_1259 k_1257 k_1258 k_106 pl_X12_in ⟨Nat.le_of_ble_eq_true rfl, Nat.le_of_ble_eq_true rfl⟩ rfl rfl  hP hD hS [] [0, 1, 2, 3, 4, 5, 6, 7, 8, 9] rfl rfl rfl rfl rfl (by decide) rfl hl.1 rfl (Nat.le_of_ble_eq_true rfl) dX12_look_11 ⟨Nat.le_of_ble_eq_true rfl, Nat.le_of_ble_eq_true rfl⟩ (fun v_10 u_11 H locs hv_12 hP₀ hD₀ hS₀ => ?_)
    obtain ⟨r_13, rfl, he_14⟩ := hv_12
    have he_14 : ((r_13.toInt = 0 ∨ (r_13.toInt = 1 ∧ (0 : Int64).toInt ≤ (x1).toInt64.toInt ∧ (x1).toInt64.toInt ≤ (1 : Int64).toInt))) ∧ r_13 = (dX12_in (x1).toInt64 (0 : Int64) (1 : Int64)) := he_14
    refine W.eq (g2 := F0 m 14 ls [.int r_13]) rfl ?_
    replace hP : va_P D classes [((Ma 2), .inl (tc 0, 2400, .inl (Mf 2))), ((Ma 4), .inl (tc 0, 288, .inl (Mf 4))), ((Ma 5), .inl (tc 0, 6, .inl (Mf 5))), ((Ma 8), .inl (tc 1, 64, .inr (.inl (Mg 8)))), ((Ma 9), .inl (tc 1, 13, .inr (.inl (Mg 9)))), ((Ma 12), .inl (tc 0, 46, .inl (Mf 12))), ((Ma 15), .inl (tc 3, 7, .inl (Mf 15))), ((Ma 16), .inl (tc 0, 427, .inl (Mf 16))), ((Ma 0), .inr (12, [.ref (Ma 1), .int (Mv 0), .int (Mv 1), .ref (Ma 2), .ref (Ma 3), .ref (Ma 4), .ref (Ma 5), .ref (Ma 6), .int (Mv 2), .int (Mv 3), .int (Mv 4), .int (Mv 5), .int (Mv 6), .int (Mv 7), .int (Mv 8), .ref (Ma 7), .int (Mv 9), .ref (Ma 8), .int (Mv 10), .ref (Ma 9), .ref (Ma 10), .int (Mv 11), .int (Mv 12), .int (Mv 13), .ref (Ma 11), .int (Mv 14), .ref (Ma 12), .ref (Ma 13), .ref (Ma 14), .ref (Ma 15), .ref (Ma 16), .long (Mj 0), .ref (Ma 17), .ref (Ma 18), .ref (Ma 19), .ref (Ma 20)])), ((Ma 10), .inl (tc 0, 126, .inl (Mf 10)))] H := hP₀
    replace hD : va_D A [((Ma 2), .inl (tc 0, 2400, .inl (Mf 2))), ((Ma 4), .inl (tc 0, 288, .inl (Mf 4))), ((Ma 5), .inl (tc 0, 6, .inl (Mf 5))), ((Ma 8), .inl (tc 1, 64, .inr (.inl (Mg 8)))), ((Ma 9), .inl (tc 1, 13, .inr (.inl (Mg 9)))), ((Ma 12), .inl (tc 0, 46, .inl (Mf 12))), ((Ma 15), .inl (tc 3, 7, .inl (Mf 15))), ((Ma 16), .inl (tc 0, 427, .inl (Mf 16))), ((Ma 0), .inr (12, [.ref (Ma 1), .int (Mv 0), .int (Mv 1), .ref (Ma 2), .ref (Ma 3), .ref (Ma 4), .ref (Ma 5), .ref (Ma 6), .int (Mv 2), .int (Mv 3), .int (Mv 4), .int (Mv 5), .int (Mv 6), .int (Mv 7), .int (Mv 8), .ref (Ma 7), .int (Mv 9), .ref (Ma 8), .int (Mv 10), .ref (Ma 9), .ref (Ma 10), .int (Mv 11), .int (Mv 12), .int (Mv 13), .ref (Ma 11), .int (Mv 14), .ref (Ma 12), .ref (Ma 13), .ref (Ma 14), .ref (Ma 15), .ref (Ma 16), .long (Mj 0), .ref (Ma 17), .ref (Ma 18), .ref (Ma 19), .ref (Ma 20)])), ((Ma 10), .inl (tc 0, 126, .inl (Mf 10)))] := hD₀
    replace hS := hS₀
    clear hP₀ hD₀ hS₀
    have yl_he_14_0 : (0 : Int64).toInt = 0 := by decide
    have yl_he_14_1 : (1 : Int64).toInt = 1 := by decide
    simp only [i32_64] at he_14
    obtain ⟨he_14, hq_16⟩ := he_14
    have er_13 : r_13 = (dX12_in ((x1).toInt64) (0 : Int64) (1 : Int64)) := hq_16
    refine lv_if_ne (tgt := 19) hx hb dX12_look_14 (by decide) (fun c_17 => ?_) (fun c_17 => ?_)
    · skip
      refine lv_aload_n hx hb dX12_look_19 rfl (lv_at hl 0 rfl) ?_
      refine cV (a := (Ma 0)) (As := []) (rest := []) (wr := []) ⟨hx, hb, hml, hown, hts⟩ hK hX hA (cu_dX12_fillsFits l D tc sk (Ma 0) (Ma 1) (Ma 2) (Ma 3) (Ma 4) (Ma 5) (Ma 6) (Ma 7) (Ma 8) (Ma 9) (Ma 10) (Ma 11) (Ma 12) (Ma 13) (Ma 14) (Ma 15) (Ma 16) (Ma 17) (Ma 18) (Ma 19) (Ma 20) (Mv 0) (Mv 1) (Mv 2) (Mv 3) (Mv 4) (Mv 5) (Mv 6) (Mv 7) (Mv 8) (Mv 9) (Mv 10) (Mv 11) (Mv 12) (Mv 13) (Mv 14) (Mf 2) (Mf 4) (Mf 5) (Mf 10) (Mf 12) (Mf 15) (Mf 16) (Mj 0) (Mg 8) (Mg 9) h_said h_rul h_frc) k_1606 k_1603 k_1605 k_89 k_106 pl_X12_fillsFits ⟨Nat.le_of_ble_eq_true rfl, Nat.le_of_ble_eq_true rfl⟩ rfl rfl (va_recv hK hP (ci := 12) (q0 := 8) rfl rfl) hP hD hS [8, 0, 1, 2, 3, 4, 9, 5, 6, 7] [] rfl rfl rfl rfl rfl (by decide) rfl hl.1 rfl (Nat.le_of_ble_eq_true rfl) dX12_look_20 ⟨Nat.le_of_ble_eq_true rfl, Nat.le_of_ble_eq_true rfl⟩ (fun v_18 u_19 H locs hv_20 hP₀ hD₀ hS₀ => ?_)
      obtain ⟨sv_21, sv_22, sv_23, sv_24, sv_25, sv_26, sv_27⟩ := u_19
      obtain ⟨rfl, pf_28, pf_29⟩ := hv_20
      have pf_28 : SaidD T sv_24 999 := pf_28
      have ar_pf_28 := SaidD.ar pf_28
      have pf_29 : DEq ((sv_21, sv_22, sv_23, sv_24, sv_25, sv_26, sv_27)) (dX12_fillsFits (Mf 2) (Mf 4) (Mf 5) (Mf 10) (Mf 12) (Mf 15) (Mf 16) (Mg 8) (Mg 9) (Mv 1) (Mv 10) (Mv 11) (Mv 13)) := pf_29
      refine W.eq (g2 := F0 m 23 ls []) rfl ?_
      replace hP : va_P D classes [((Ma 0), .inr (12, [.ref (Ma 1), .int (Mv 0), .int (Mv 1), .ref (Ma 2), .ref (Ma 3), .ref (Ma 4), .ref (Ma 5), .ref (Ma 6), .int (Mv 2), .int (Mv 3), .int (Mv 4), .int (Mv 5), .int (Mv 6), .int (Mv 7), .int (Mv 8), .ref (Ma 7), .int (Mv 9), .ref (Ma 8), .int sv_21, .ref (Ma 9), .ref (Ma 10), .int (Mv 11), .int (Mv 12), .int (Mv 13), .ref (Ma 11), .int (Mv 14), .ref (Ma 12), .ref (Ma 13), .ref (Ma 14), .ref (Ma 15), .ref (Ma 16), .long (Mj 0), .ref (Ma 17), .ref (Ma 18), .ref (Ma 19), .ref (Ma 20)])), ((Ma 2), .inl (tc 0, 2400, .inl (Mf 2))), ((Ma 4), .inl (tc 0, 288, .inl (Mf 4))), ((Ma 5), .inl (tc 0, 6, .inl (Mf 5))), ((Ma 8), .inl (tc 1, 64, .inr (.inl sv_22))), ((Ma 9), .inl (tc 1, 13, .inr (.inl sv_23))), ((Ma 10), .inl (tc 0, 126, .inl sv_24)), ((Ma 12), .inl (tc 0, 46, .inl sv_25)), ((Ma 15), .inl (tc 3, 7, .inl sv_26)), ((Ma 16), .inl (tc 0, 427, .inl sv_27))] H := hP₀
      replace hD : va_D A [((Ma 0), .inr (12, [.ref (Ma 1), .int (Mv 0), .int (Mv 1), .ref (Ma 2), .ref (Ma 3), .ref (Ma 4), .ref (Ma 5), .ref (Ma 6), .int (Mv 2), .int (Mv 3), .int (Mv 4), .int (Mv 5), .int (Mv 6), .int (Mv 7), .int (Mv 8), .ref (Ma 7), .int (Mv 9), .ref (Ma 8), .int sv_21, .ref (Ma 9), .ref (Ma 10), .int (Mv 11), .int (Mv 12), .int (Mv 13), .ref (Ma 11), .int (Mv 14), .ref (Ma 12), .ref (Ma 13), .ref (Ma 14), .ref (Ma 15), .ref (Ma 16), .long (Mj 0), .ref (Ma 17), .ref (Ma 18), .ref (Ma 19), .ref (Ma 20)])), ((Ma 2), .inl (tc 0, 2400, .inl (Mf 2))), ((Ma 4), .inl (tc 0, 288, .inl (Mf 4))), ((Ma 5), .inl (tc 0, 6, .inl (Mf 5))), ((Ma 8), .inl (tc 1, 64, .inr (.inl sv_22))), ((Ma 9), .inl (tc 1, 13, .inr (.inl sv_23))), ((Ma 10), .inl (tc 0, 126, .inl sv_24)), ((Ma 12), .inl (tc 0, 46, .inl sv_25)), ((Ma 15), .inl (tc 3, 7, .inl sv_26)), ((Ma 16), .inl (tc 0, 427, .inl sv_27))] := hD₀
      replace hS := hS₀
      clear hP₀ hD₀ hS₀
      have esv_21 : sv_21 = (dX12_fillsFits (Mf 2) (Mf 4) (Mf 5) (Mf 10) (Mf 12) (Mf 15) (Mf 16) (Mg 8) (Mg 9) (Mv 1) (Mv 10) (Mv 11) (Mv 13)).1 := congrArg (fun z => z.1) pf_29
      have esv_22 : sv_22 = (dX12_fillsFits (Mf 2) (Mf 4) (Mf 5) (Mf 10) (Mf 12) (Mf 15) (Mf 16) (Mg 8) (Mg 9) (Mv 1) (Mv 10) (Mv 11) (Mv 13)).2.1 := congrArg (fun z => z.2.1) pf_29
      have esv_23 : sv_23 = (dX12_fillsFits (Mf 2) (Mf 4) (Mf 5) (Mf 10) (Mf 12) (Mf 15) (Mf 16) (Mg 8) (Mg 9) (Mv 1) (Mv 10) (Mv 11) (Mv 13)).2.2.1 := congrArg (fun z => z.2.2.1) pf_29
      have esv_24 : sv_24 = (dX12_fillsFits (Mf 2) (Mf 4) (Mf 5) (Mf 10) (Mf 12) (Mf 15) (Mf 16) (Mg 8) (Mg 9) (Mv 1) (Mv 10) (Mv 11) (Mv 13)).2.2.2.1 := congrArg (fun z => z.2.2.2.1) pf_29
      have esv_25 : sv_25 = (dX12_fillsFits (Mf 2) (Mf 4) (Mf 5) (Mf 10) (Mf 12) (Mf 15) (Mf 16) (Mg 8) (Mg 9) (Mv 1) (Mv 10) (Mv 11) (Mv 13)).2.2.2.2.1 := congrArg (fun z => z.2.2.2.2.1) pf_29
      have esv_26 : sv_26 = (dX12_fillsFits (Mf 2) (Mf 4) (Mf 5) (Mf 10) (Mf 12) (Mf 15) (Mf 16) (Mg 8) (Mg 9) (Mv 1) (Mv 10) (Mv 11) (Mv 13)).2.2.2.2.2.1 := congrArg (fun z => z.2.2.2.2.2.1) pf_29
      have esv_27 : sv_27 = (dX12_fillsFits (Mf 2) (Mf 4) (Mf 5) (Mf 10) (Mf 12) (Mf 15) (Mf 16) (Mg 8) (Mg 9) (Mv 1) (Mv 10) (Mv 11) (Mv 13)).2.2.2.2.2.2 := congrArg (fun z => z.2.2.2.2.2.2) pf_29
      refine lv_iconst (v := 0) hx hb dX12_look_23 (by decide) ?_
      refine lv_istore_n (lv' := [(2, .int 0), (0, .ref (Ma 0)), (1, .int x1)]) hx hb dX12_look_24 rfl hl (by decide) rfl (fun ls hl₀ => ?_)
      replace hl := hl₀
      clear hl₀
      refine lv_iconst (v := 1) hx hb dX12_look_25 (by decide) ?_
      refine lv_istore_n (lv' := [(3, .int 1), (2, .int 0), (0, .ref (Ma 0)), (1, .int x1)]) hx hb dX12_look_26 rfl hl (by decide) rfl (fun ls hl₀ => ?_)
      replace hl := hl₀
      clear hl₀
      have loop_32 : ∀ (n_30 : Nat) (yy_2800 : Int32) (yy_2801 : Int32) (H : Heap) (locs : List Loc) (ls : Array Slot), (61 - (yy_2800 : Int32).toInt).toNat < n_30 → (dX12_look_l27 (Mf 2) (Mf 4) (Mf 5) (Mf 10) (Mf 12) (Mf 15) (Mf 16) (Mg 8) (Mg 9) (Mv 1) (Mv 10) (Mv 11) (Mv 13) ((61 - (1 : Int32).toInt).toNat + 1) (1 : Int32) (0 : Int32)) = dX12_look_l27 (Mf 2) (Mf 4) (Mf 5) (Mf 10) (Mf 12) (Mf 15) (Mf 16) (Mg 8) (Mg 9) (Mv 1) (Mv 10) (Mv 11) (Mv 13) ((61 - (yy_2800 : Int32).toInt).toNat + 1) yy_2800 yy_2801 → (0 ≤ (yy_2800 : Int32).toInt) → (0 ≤ (yy_2801 : Int32).toInt ∧ (yy_2801 : Int32).toInt ≤ 60) → va_P D classes [((Ma 0), .inr (12, [.ref (Ma 1), .int (Mv 0), .int (Mv 1), .ref (Ma 2), .ref (Ma 3), .ref (Ma 4), .ref (Ma 5), .ref (Ma 6), .int (Mv 2), .int (Mv 3), .int (Mv 4), .int (Mv 5), .int (Mv 6), .int (Mv 7), .int (Mv 8), .ref (Ma 7), .int (Mv 9), .ref (Ma 8), .int sv_21, .ref (Ma 9), .ref (Ma 10), .int (Mv 11), .int (Mv 12), .int (Mv 13), .ref (Ma 11), .int (Mv 14), .ref (Ma 12), .ref (Ma 13), .ref (Ma 14), .ref (Ma 15), .ref (Ma 16), .long (Mj 0), .ref (Ma 17), .ref (Ma 18), .ref (Ma 19), .ref (Ma 20)])), ((Ma 2), .inl (tc 0, 2400, .inl (Mf 2))), ((Ma 4), .inl (tc 0, 288, .inl (Mf 4))), ((Ma 5), .inl (tc 0, 6, .inl (Mf 5))), ((Ma 8), .inl (tc 1, 64, .inr (.inl sv_22))), ((Ma 9), .inl (tc 1, 13, .inr (.inl sv_23))), ((Ma 10), .inl (tc 0, 126, .inl sv_24)), ((Ma 12), .inl (tc 0, 46, .inl sv_25)), ((Ma 15), .inl (tc 3, 7, .inl sv_26)), ((Ma 16), .inl (tc 0, 427, .inl sv_27))] H → va_D A [((Ma 0), .inr (12, [.ref (Ma 1), .int (Mv 0), .int (Mv 1), .ref (Ma 2), .ref (Ma 3), .ref (Ma 4), .ref (Ma 5), .ref (Ma 6), .int (Mv 2), .int (Mv 3), .int (Mv 4), .int (Mv 5), .int (Mv 6), .int (Mv 7), .int (Mv 8), .ref (Ma 7), .int (Mv 9), .ref (Ma 8), .int sv_21, .ref (Ma 9), .ref (Ma 10), .int (Mv 11), .int (Mv 12), .int (Mv 13), .ref (Ma 11), .int (Mv 14), .ref (Ma 12), .ref (Ma 13), .ref (Ma 14), .ref (Ma 15), .ref (Ma 16), .long (Mj 0), .ref (Ma 17), .ref (Ma 18), .ref (Ma 19), .ref (Ma 20)])), ((Ma 2), .inl (tc 0, 2400, .inl (Mf 2))), ((Ma 4), .inl (tc 0, 288, .inl (Mf 4))), ((Ma 5), .inl (tc 0, 6, .inl (Mf 5))), ((Ma 8), .inl (tc 1, 64, .inr (.inl sv_22))), ((Ma 9), .inl (tc 1, 13, .inr (.inl sv_23))), ((Ma 10), .inl (tc 0, 126, .inl sv_24)), ((Ma 12), .inl (tc 0, 46, .inl sv_25)), ((Ma 15), .inl (tc 3, 7, .inl sv_26)), ((Ma 16), .inl (tc 0, 427, .inl sv_27))] → va_S A s.heap H locs → lv_has ls 4 [(3, .int yy_2800), (2, .int yy_2801), (0, .ref (Ma 0)), (1, .int x1)] → W p l e ({ frames := 6, cells := 0, slots := 0, locals := 144 }) s m ([.ref (Ma 0), .int x1].toArray) below meth c H locs 0 0 (MQ below (QW (fun (v : Option Value) (u : (Int32) × (Nat → Int64) × (Nat → Int64) × (Nat → Int32) × (Nat → Int32) × (Nat → Int32) × (Nat → Int32)) => match u with | (oo0x1, oo0x2, oo0x3, oo0x4, oo0x5, oo0x6, oo0x7) => ∃ r : Int32, v = some (.int r) ∧ ((True) ∧ (r, oo0x1, oo0x2, oo0x3, oo0x4, oo0x5, oo0x6, oo0x7) = (dX12_look (Mf 2) (Mf 4) (Mf 5) (Mf 10) (Mf 12) (Mf 15) (Mf 16) (Mg 8) (Mg 9) (Mv 1) (Mv 10) (Mv 11) (Mv 13) x1)) ∧ (SaidD T oo0x4 999)) (BW D (fun (u : (Int32) × (Nat → Int64) × (Nat → Int64) × (Nat → Int32) × (Nat → Int32) × (Nat → Int32) × (Nat → Int32)) => match u with | (oo0x1, oo0x2, oo0x3, oo0x4, oo0x5, oo0x6, oo0x7) => [((Ma 0), .inr (12, [.ref (Ma 1), .int (Mv 0), .int (Mv 1), .ref (Ma 2), .ref (Ma 3), .ref (Ma 4), .ref (Ma 5), .ref (Ma 6), .int (Mv 2), .int (Mv 3), .int (Mv 4), .int (Mv 5), .int (Mv 6), .int (Mv 7), .int (Mv 8), .ref (Ma 7), .int (Mv 9), .ref (Ma 8), .int oo0x1, .ref (Ma 9), .ref (Ma 10), .int (Mv 11), .int (Mv 12), .int (Mv 13), .ref (Ma 11), .int (Mv 14), .ref (Ma 12), .ref (Ma 13), .ref (Ma 14), .ref (Ma 15), .ref (Ma 16), .long (Mj 0), .ref (Ma 17), .ref (Ma 18), .ref (Ma 19), .ref (Ma 20)])), ((Ma 2), .inl (tc 0, 2400, .inl (Mf 2))), ((Ma 4), .inl (tc 0, 288, .inl (Mf 4))), ((Ma 5), .inl (tc 0, 6, .inl (Mf 5))), ((Ma 8), .inl (tc 1, 64, .inr (.inl oo0x2))), ((Ma 9), .inl (tc 1, 13, .inr (.inl oo0x3))), ((Ma 10), .inl (tc 0, 126, .inl oo0x4)), ((Ma 12), .inl (tc 0, 46, .inl oo0x5)), ((Ma 15), .inl (tc 3, 7, .inl oo0x6)), ((Ma 16), .inl (tc 0, 427, .inl oo0x7))]) A) A) ([.ref (Ma 0), .int x1].toArray) s 0 0 A) (F0 m 27 ls []) := by
        clear hP hD hS hl
        intro n_30
        induction n_30 with
        | zero =>
          intro yy_2800 yy_2801 H locs ls h1
          exact absurd h1 (Nat.not_lt_zero _)
        | succ n_30 ih_31 =>
          intro yy_2800 yy_2801 H locs ls hn_36 hL_35 pf_33 pf_34 hP hD hS hl
          refine lv_iload_n hx hb dX12_look_27 rfl (lv_at hl 0 rfl) ?_
          refine lv_bipush (v := 60) hx hb dX12_look_28 (by decide) ?_
          refine lv_icmp_gt (tgt := 54) hx hb dX12_look_30 (by decide) (fun c_37 => ?_) (fun c_37 => ?_)
          · skip
            have hb_39 : dX12_look_l27 (Mf 2) (Mf 4) (Mf 5) (Mf 10) (Mf 12) (Mf 15) (Mf 16) (Mg 8) (Mg 9) (Mv 1) (Mv 10) (Mv 11) (Mv 13) ((61 - (yy_2800 : Int32).toInt).toNat + 1) yy_2800 yy_2801 = (yy_2800, yy_2801) := by
              clear hP hD hS hl ih_31
              replace er_4 := er_4.symm; subst er_4
              replace er_13 := er_13.symm; subst er_13
              replace esv_21 := esv_21.symm; subst esv_21
              replace esv_22 := esv_22.symm; subst esv_22
              replace esv_23 := esv_23.symm; subst esv_23
              replace esv_24 := esv_24.symm; subst esv_24
              replace esv_25 := esv_25.symm; subst esv_25
              replace esv_26 := esv_26.symm; subst esv_26
              replace esv_27 := esv_27.symm; subst esv_27
              rw [dX12_look_l27_s]
              rw [if_pos c_37]
              try rfl
            have hX_38 : (dX12_look_l27 (Mf 2) (Mf 4) (Mf 5) (Mf 10) (Mf 12) (Mf 15) (Mf 16) (Mg 8) (Mg 9) (Mv 1) (Mv 10) (Mv 11) (Mv 13) ((61 - (1 : Int32).toInt).toNat + 1) (1 : Int32) (0 : Int32)) = (yy_2800, yy_2801) := hL_35.trans hb_39
            have hX_38_0 : (dX12_look_l27 (Mf 2) (Mf 4) (Mf 5) (Mf 10) (Mf 12) (Mf 15) (Mf 16) (Mg 8) (Mg 9) (Mv 1) (Mv 10) (Mv 11) (Mv 13) ((61 - (1 : Int32).toInt).toNat + 1) (1 : Int32) (0 : Int32)).1 = yy_2800 := congrArg (fun z => z.1) hX_38
            have hX_38_1 : (dX12_look_l27 (Mf 2) (Mf 4) (Mf 5) (Mf 10) (Mf 12) (Mf 15) (Mf 16) (Mg 8) (Mg 9) (Mv 1) (Mv 10) (Mv 11) (Mv 13) ((61 - (1 : Int32).toInt).toNat + 1) (1 : Int32) (0 : Int32)).2 = yy_2801 := congrArg (fun z => z.2) hX_38
            refine lv_aload_n hx hb dX12_look_54 rfl (lv_at hl 2 rfl) ?_
            refine lv_iload_n hx hb dX12_look_55 rfl (lv_at hl 1 rfl) ?_
            have ha_40 : 0 ≤ yy_2801.toInt ∧ yy_2801.toInt ≤ 60 := by
              have z_1 : ¬ (r_4 : Int32).toInt = (0 : Int32).toInt := fun z => c_8 (Int32.toInt_inj.mp z)
              have z_2 : ¬ (r_13 : Int32).toInt = (0 : Int32).toInt := fun z => c_17 (Int32.toInt_inj.mp z)
              have z_3 := Int32.lt_iff_toInt_lt.mp c_37
              have y_0 : (0 : Int32).toInt = 0 := by decide
              have y_60 : (60 : Int32).toInt = 60 := by decide
              omega
            have ha_41 : (Mv 1).toInt ≤ 6 := by
              have z_1 : ¬ (r_4 : Int32).toInt = (0 : Int32).toInt := fun z => c_8 (Int32.toInt_inj.mp z)
              have z_2 : ¬ (r_13 : Int32).toInt = (0 : Int32).toInt := fun z => c_17 (Int32.toInt_inj.mp z)
              have z_3 := Int32.lt_iff_toInt_lt.mp c_37
              have y_0 : (0 : Int32).toInt = 0 := by decide
              have y_60 : (60 : Int32).toInt = 60 := by decide
              omega
            refine cV (a := (Ma 0)) (As := [.int yy_2801]) (rest := []) (wr := [((Ma 2), .inl (tc 0, 2400, .inl (Mf 2))), ((Ma 4), .inl (tc 0, 288, .inl (Mf 4))), ((Ma 5), .inl (tc 0, 6, .inl (Mf 5))), ((Ma 8), .inl (tc 1, 64, .inr (.inl sv_22))), ((Ma 9), .inl (tc 1, 13, .inr (.inl sv_23))), ((Ma 10), .inl (tc 0, 126, .inl sv_24)), ((Ma 12), .inl (tc 0, 46, .inl sv_25))]) ⟨hx, hb, hml, hown, hts⟩ hK hX hA (cu_dX12_alikeAt l D tc sk (Ma 0) (Ma 1) (Ma 2) (Ma 3) (Ma 4) (Ma 5) (Ma 6) (Ma 7) (Ma 8) (Ma 9) (Ma 10) (Ma 11) (Ma 12) (Ma 13) (Ma 14) (Ma 15) (Ma 16) (Ma 17) (Ma 18) (Ma 19) (Ma 20) (Mv 0) (Mv 1) (Mv 2) (Mv 3) (Mv 4) (Mv 5) (Mv 6) (Mv 7) (Mv 8) (Mv 9) sv_21 (Mv 11) (Mv 12) (Mv 13) (Mv 14) sv_26 sv_27 (Mj 0) yy_2801 ha_40 ha_41) k_1621 k_1618 k_1620 k_91 k_106 pl_X12_alikeAt ⟨Nat.le_of_ble_eq_true rfl, Nat.le_of_ble_eq_true rfl⟩ rfl rfl (va_recv hK hP (ci := 12) (q0 := 0) rfl rfl) hP hD hS [0, 8, 9] [1, 2, 3, 4, 5, 6, 7] rfl rfl rfl rfl rfl (by decide) rfl hl.1 rfl (Nat.le_of_ble_eq_true rfl) dX12_look_56 ⟨Nat.le_of_ble_eq_true rfl, Nat.le_of_ble_eq_true rfl⟩ (fun v_42 u_43 H locs hv_44 hP₀ hD₀ hS₀ => ?_)
            obtain ⟨r_45, rfl, he_46⟩ := hv_44
            have he_46 : (True) ∧ r_45 = (dX12_alikeAt sv_26 sv_27 (Mv 1) yy_2801) := he_46
            refine W.eq (g2 := F0 m 59 ls [.int r_45]) rfl ?_
            replace hP : va_P D classes [((Ma 2), .inl (tc 0, 2400, .inl (Mf 2))), ((Ma 4), .inl (tc 0, 288, .inl (Mf 4))), ((Ma 5), .inl (tc 0, 6, .inl (Mf 5))), ((Ma 8), .inl (tc 1, 64, .inr (.inl sv_22))), ((Ma 9), .inl (tc 1, 13, .inr (.inl sv_23))), ((Ma 10), .inl (tc 0, 126, .inl sv_24)), ((Ma 12), .inl (tc 0, 46, .inl sv_25)), ((Ma 0), .inr (12, [.ref (Ma 1), .int (Mv 0), .int (Mv 1), .ref (Ma 2), .ref (Ma 3), .ref (Ma 4), .ref (Ma 5), .ref (Ma 6), .int (Mv 2), .int (Mv 3), .int (Mv 4), .int (Mv 5), .int (Mv 6), .int (Mv 7), .int (Mv 8), .ref (Ma 7), .int (Mv 9), .ref (Ma 8), .int sv_21, .ref (Ma 9), .ref (Ma 10), .int (Mv 11), .int (Mv 12), .int (Mv 13), .ref (Ma 11), .int (Mv 14), .ref (Ma 12), .ref (Ma 13), .ref (Ma 14), .ref (Ma 15), .ref (Ma 16), .long (Mj 0), .ref (Ma 17), .ref (Ma 18), .ref (Ma 19), .ref (Ma 20)])), ((Ma 15), .inl (tc 3, 7, .inl sv_26)), ((Ma 16), .inl (tc 0, 427, .inl sv_27))] H := hP₀
            replace hD : va_D A [((Ma 2), .inl (tc 0, 2400, .inl (Mf 2))), ((Ma 4), .inl (tc 0, 288, .inl (Mf 4))), ((Ma 5), .inl (tc 0, 6, .inl (Mf 5))), ((Ma 8), .inl (tc 1, 64, .inr (.inl sv_22))), ((Ma 9), .inl (tc 1, 13, .inr (.inl sv_23))), ((Ma 10), .inl (tc 0, 126, .inl sv_24)), ((Ma 12), .inl (tc 0, 46, .inl sv_25)), ((Ma 0), .inr (12, [.ref (Ma 1), .int (Mv 0), .int (Mv 1), .ref (Ma 2), .ref (Ma 3), .ref (Ma 4), .ref (Ma 5), .ref (Ma 6), .int (Mv 2), .int (Mv 3), .int (Mv 4), .int (Mv 5), .int (Mv 6), .int (Mv 7), .int (Mv 8), .ref (Ma 7), .int (Mv 9), .ref (Ma 8), .int sv_21, .ref (Ma 9), .ref (Ma 10), .int (Mv 11), .int (Mv 12), .int (Mv 13), .ref (Ma 11), .int (Mv 14), .ref (Ma 12), .ref (Ma 13), .ref (Ma 14), .ref (Ma 15), .ref (Ma 16), .long (Mj 0), .ref (Ma 17), .ref (Ma 18), .ref (Ma 19), .ref (Ma 20)])), ((Ma 15), .inl (tc 3, 7, .inl sv_26)), ((Ma 16), .inl (tc 0, 427, .inl sv_27))] := hD₀
            replace hS := hS₀
            clear hP₀ hD₀ hS₀
            obtain ⟨he_46, hq_48⟩ := he_46
            have er_45 : r_45 = (dX12_alikeAt sv_26 sv_27 (Mv 1) yy_2801) := hq_48
            refine lv_if_ne (tgt := 67) hx hb dX12_look_59 (by decide) (fun c_49 => ?_) (fun c_49 => ?_)
            · skip
              refine lv_iload_n hx hb dX12_look_67 rfl (lv_at hl 3 rfl) ?_
              refine lv_if_ne (tgt := 75) hx hb dX12_look_68 (by decide) (fun c_50 => ?_) (fun c_50 => ?_)
              · skip
                refine lv_aload_n hx hb dX12_look_75 rfl (lv_at hl 2 rfl) ?_
                refine lv_iload_n hx hb dX12_look_76 rfl (lv_at hl 1 rfl) ?_
                have ha_51 : 0 ≤ yy_2801.toInt ∧ yy_2801.toInt ≤ 60 := by
                  have z_1 : ¬ (r_4 : Int32).toInt = (0 : Int32).toInt := fun z => c_8 (Int32.toInt_inj.mp z)
                  have z_2 : ¬ (r_13 : Int32).toInt = (0 : Int32).toInt := fun z => c_17 (Int32.toInt_inj.mp z)
                  have z_3 := Int32.lt_iff_toInt_lt.mp c_37
                  have z_4 : ¬ (r_45 : Int32).toInt = (0 : Int32).toInt := fun z => c_49 (Int32.toInt_inj.mp z)
                  have z_5 : ¬ (x1 : Int32).toInt = (0 : Int32).toInt := fun z => c_50 (Int32.toInt_inj.mp z)
                  have y_0 : (0 : Int32).toInt = 0 := by decide
                  have y_60 : (60 : Int32).toInt = 60 := by decide
                  omega
                have ha_52 : (Mv 1).toInt ≤ 6 := by
                  have z_1 : ¬ (r_4 : Int32).toInt = (0 : Int32).toInt := fun z => c_8 (Int32.toInt_inj.mp z)
                  have z_2 : ¬ (r_13 : Int32).toInt = (0 : Int32).toInt := fun z => c_17 (Int32.toInt_inj.mp z)
                  have z_3 := Int32.lt_iff_toInt_lt.mp c_37
                  have z_4 : ¬ (r_45 : Int32).toInt = (0 : Int32).toInt := fun z => c_49 (Int32.toInt_inj.mp z)
                  have z_5 : ¬ (x1 : Int32).toInt = (0 : Int32).toInt := fun z => c_50 (Int32.toInt_inj.mp z)
                  have y_0 : (0 : Int32).toInt = 0 := by decide
                  have y_60 : (60 : Int32).toInt = 60 := by decide
                  omega
                refine cV (a := (Ma 0)) (As := [.int yy_2801]) (rest := []) (wr := [((Ma 2), .inl (tc 0, 2400, .inl (Mf 2))), ((Ma 4), .inl (tc 0, 288, .inl (Mf 4))), ((Ma 5), .inl (tc 0, 6, .inl (Mf 5))), ((Ma 8), .inl (tc 1, 64, .inr (.inl sv_22))), ((Ma 9), .inl (tc 1, 13, .inr (.inl sv_23))), ((Ma 10), .inl (tc 0, 126, .inl sv_24)), ((Ma 12), .inl (tc 0, 46, .inl sv_25))]) ⟨hx, hb, hml, hown, hts⟩ hK hX hA (cu_dX12_alikeAt l D tc sk (Ma 0) (Ma 1) (Ma 2) (Ma 3) (Ma 4) (Ma 5) (Ma 6) (Ma 7) (Ma 8) (Ma 9) (Ma 10) (Ma 11) (Ma 12) (Ma 13) (Ma 14) (Ma 15) (Ma 16) (Ma 17) (Ma 18) (Ma 19) (Ma 20) (Mv 0) (Mv 1) (Mv 2) (Mv 3) (Mv 4) (Mv 5) (Mv 6) (Mv 7) (Mv 8) (Mv 9) sv_21 (Mv 11) (Mv 12) (Mv 13) (Mv 14) sv_26 sv_27 (Mj 0) yy_2801 ha_51 ha_52) k_1621 k_1618 k_1620 k_91 k_106 pl_X12_alikeAt ⟨Nat.le_of_ble_eq_true rfl, Nat.le_of_ble_eq_true rfl⟩ rfl rfl (va_recv hK hP (ci := 12) (q0 := 7) rfl rfl) hP hD hS [7, 8, 9] [0, 1, 2, 3, 4, 5, 6] rfl rfl rfl rfl rfl (by decide) rfl hl.1 rfl (Nat.le_of_ble_eq_true rfl) dX12_look_77 ⟨Nat.le_of_ble_eq_true rfl, Nat.le_of_ble_eq_true rfl⟩ (fun v_53 u_54 H locs hv_55 hP₀ hD₀ hS₀ => ?_)
                obtain ⟨r_56, rfl, he_57⟩ := hv_55
                have he_57 : (True) ∧ r_56 = (dX12_alikeAt sv_26 sv_27 (Mv 1) yy_2801) := he_57
                refine W.eq (g2 := F0 m 80 ls [.int r_56]) rfl ?_
                replace hP : va_P D classes [((Ma 2), .inl (tc 0, 2400, .inl (Mf 2))), ((Ma 4), .inl (tc 0, 288, .inl (Mf 4))), ((Ma 5), .inl (tc 0, 6, .inl (Mf 5))), ((Ma 8), .inl (tc 1, 64, .inr (.inl sv_22))), ((Ma 9), .inl (tc 1, 13, .inr (.inl sv_23))), ((Ma 10), .inl (tc 0, 126, .inl sv_24)), ((Ma 12), .inl (tc 0, 46, .inl sv_25)), ((Ma 0), .inr (12, [.ref (Ma 1), .int (Mv 0), .int (Mv 1), .ref (Ma 2), .ref (Ma 3), .ref (Ma 4), .ref (Ma 5), .ref (Ma 6), .int (Mv 2), .int (Mv 3), .int (Mv 4), .int (Mv 5), .int (Mv 6), .int (Mv 7), .int (Mv 8), .ref (Ma 7), .int (Mv 9), .ref (Ma 8), .int sv_21, .ref (Ma 9), .ref (Ma 10), .int (Mv 11), .int (Mv 12), .int (Mv 13), .ref (Ma 11), .int (Mv 14), .ref (Ma 12), .ref (Ma 13), .ref (Ma 14), .ref (Ma 15), .ref (Ma 16), .long (Mj 0), .ref (Ma 17), .ref (Ma 18), .ref (Ma 19), .ref (Ma 20)])), ((Ma 15), .inl (tc 3, 7, .inl sv_26)), ((Ma 16), .inl (tc 0, 427, .inl sv_27))] H := hP₀
                replace hD : va_D A [((Ma 2), .inl (tc 0, 2400, .inl (Mf 2))), ((Ma 4), .inl (tc 0, 288, .inl (Mf 4))), ((Ma 5), .inl (tc 0, 6, .inl (Mf 5))), ((Ma 8), .inl (tc 1, 64, .inr (.inl sv_22))), ((Ma 9), .inl (tc 1, 13, .inr (.inl sv_23))), ((Ma 10), .inl (tc 0, 126, .inl sv_24)), ((Ma 12), .inl (tc 0, 46, .inl sv_25)), ((Ma 0), .inr (12, [.ref (Ma 1), .int (Mv 0), .int (Mv 1), .ref (Ma 2), .ref (Ma 3), .ref (Ma 4), .ref (Ma 5), .ref (Ma 6), .int (Mv 2), .int (Mv 3), .int (Mv 4), .int (Mv 5), .int (Mv 6), .int (Mv 7), .int (Mv 8), .ref (Ma 7), .int (Mv 9), .ref (Ma 8), .int sv_21, .ref (Ma 9), .ref (Ma 10), .int (Mv 11), .int (Mv 12), .int (Mv 13), .ref (Ma 11), .int (Mv 14), .ref (Ma 12), .ref (Ma 13), .ref (Ma 14), .ref (Ma 15), .ref (Ma 16), .long (Mj 0), .ref (Ma 17), .ref (Ma 18), .ref (Ma 19), .ref (Ma 20)])), ((Ma 15), .inl (tc 3, 7, .inl sv_26)), ((Ma 16), .inl (tc 0, 427, .inl sv_27))] := hD₀
                replace hS := hS₀
                clear hP₀ hD₀ hS₀
                obtain ⟨he_57, hq_59⟩ := he_57
                have er_56 : r_56 = (dX12_alikeAt sv_26 sv_27 (Mv 1) yy_2801) := hq_59
                have hF_60 : (r_56, sv_21, sv_22, sv_23, sv_24, sv_25, sv_26, sv_27) = (dX12_look (Mf 2) (Mf 4) (Mf 5) (Mf 10) (Mf 12) (Mf 15) (Mf 16) (Mg 8) (Mg 9) (Mv 1) (Mv 10) (Mv 11) (Mv 13) x1) := by
                  clear hP hD hS hl ih_31
                  replace er_4 := er_4.symm; subst er_4
                  replace er_13 := er_13.symm; subst er_13
                  replace esv_21 := esv_21.symm; subst esv_21
                  replace esv_22 := esv_22.symm; subst esv_22
                  replace esv_23 := esv_23.symm; subst esv_23
                  replace esv_24 := esv_24.symm; subst esv_24
                  replace esv_25 := esv_25.symm; subst esv_25
                  replace esv_26 := esv_26.symm; subst esv_26
                  replace esv_27 := esv_27.symm; subst esv_27
                  replace er_45 := er_45.symm; subst er_45
                  replace er_56 := er_56.symm; subst er_56
                  unfold dX12_look
                  try rw [hX_38_0]
                  try rw [hX_38_1]
                  rw [if_neg c_8, if_neg c_17, if_neg c_49, if_neg c_50]
                  try rfl
                exact retI (v := r_56) hx hb hr hlk (rfl) hP hD hS (sv_21, sv_22, sv_23, sv_24, sv_25, sv_26, sv_27) ⟨_, rfl, ⟨trivial, hF_60⟩, pf_28⟩ [7, 0, 1, 2, 3, 4, 5, 6, 8, 9] rfl rfl dX12_look_80 (Nat.le_of_ble_eq_true rfl) (Nat.le_of_ble_eq_true rfl) rfl
              · skip
                refine lv_iload_n hx hb dX12_look_71 rfl (lv_at hl 1 rfl) ?_
                refine lv_goto (tgt := 80) hx hb dX12_look_72 (by decide) ?_
                have hF_61 : (yy_2801, sv_21, sv_22, sv_23, sv_24, sv_25, sv_26, sv_27) = (dX12_look (Mf 2) (Mf 4) (Mf 5) (Mf 10) (Mf 12) (Mf 15) (Mf 16) (Mg 8) (Mg 9) (Mv 1) (Mv 10) (Mv 11) (Mv 13) x1) := by
                  clear hP hD hS hl ih_31
                  replace er_4 := er_4.symm; subst er_4
                  replace er_13 := er_13.symm; subst er_13
                  replace esv_21 := esv_21.symm; subst esv_21
                  replace esv_22 := esv_22.symm; subst esv_22
                  replace esv_23 := esv_23.symm; subst esv_23
                  replace esv_24 := esv_24.symm; subst esv_24
                  replace esv_25 := esv_25.symm; subst esv_25
                  replace esv_26 := esv_26.symm; subst esv_26
                  replace esv_27 := esv_27.symm; subst esv_27
                  replace er_45 := er_45.symm; subst er_45
                  unfold dX12_look
                  try rw [hX_38_0]
                  try rw [hX_38_1]
                  rw [if_neg c_8, if_neg c_17, if_neg c_49, if_pos c_50]
                  try rfl
                exact retI (v := yy_2801) hx hb hr hlk (rfl) hP hD hS (sv_21, sv_22, sv_23, sv_24, sv_25, sv_26, sv_27) ⟨_, rfl, ⟨trivial, hF_61⟩, pf_28⟩ [7, 0, 1, 2, 3, 4, 5, 6, 8, 9] rfl rfl dX12_look_80 (Nat.le_of_ble_eq_true rfl) (Nat.le_of_ble_eq_true rfl) rfl
            · skip
              refine lv_bipush (v := (-2)) hx hb dX12_look_62 (by decide) ?_
              refine lv_goto (tgt := 80) hx hb dX12_look_64 (by decide) ?_
              have hF_62 : ((-2 : Int32), sv_21, sv_22, sv_23, sv_24, sv_25, sv_26, sv_27) = (dX12_look (Mf 2) (Mf 4) (Mf 5) (Mf 10) (Mf 12) (Mf 15) (Mf 16) (Mg 8) (Mg 9) (Mv 1) (Mv 10) (Mv 11) (Mv 13) x1) := by
                clear hP hD hS hl ih_31
                replace er_4 := er_4.symm; subst er_4
                replace er_13 := er_13.symm; subst er_13
                replace esv_21 := esv_21.symm; subst esv_21
                replace esv_22 := esv_22.symm; subst esv_22
                replace esv_23 := esv_23.symm; subst esv_23
                replace esv_24 := esv_24.symm; subst esv_24
                replace esv_25 := esv_25.symm; subst esv_25
                replace esv_26 := esv_26.symm; subst esv_26
                replace esv_27 := esv_27.symm; subst esv_27
                replace er_45 := er_45.symm; subst er_45
                unfold dX12_look
                try rw [hX_38_0]
                try rw [hX_38_1]
                rw [if_neg c_8, if_neg c_17, if_pos c_49]
                try rfl
              exact retI (v := (-2)) hx hb hr hlk (rfl) hP hD hS (sv_21, sv_22, sv_23, sv_24, sv_25, sv_26, sv_27) ⟨_, rfl, ⟨trivial, hF_62⟩, pf_28⟩ [7, 0, 1, 2, 3, 4, 5, 6, 8, 9] rfl rfl dX12_look_80 (Nat.le_of_ble_eq_true rfl) (Nat.le_of_ble_eq_true rfl) rfl
          · skip
            refine lv_aload_n hx hb dX12_look_33 rfl (lv_at hl 2 rfl) ?_
            refine lv_iload_n hx hb dX12_look_34 rfl (lv_at hl 0 rfl) ?_
            have ha_63 : 0 ≤ yy_2800.toInt ∧ yy_2800.toInt ≤ 60 := by
              have z_1 : ¬ (r_4 : Int32).toInt = (0 : Int32).toInt := fun z => c_8 (Int32.toInt_inj.mp z)
              have z_2 : ¬ (r_13 : Int32).toInt = (0 : Int32).toInt := fun z => c_17 (Int32.toInt_inj.mp z)
              have z_3 := Int32.le_iff_toInt_le.mp (Int32.not_lt.mp c_37)
              have y_0 : (0 : Int32).toInt = 0 := by decide
              have y_60 : (60 : Int32).toInt = 60 := by decide
              omega
            have ha_64 : (Mv 1).toInt ≤ 6 := by
              have z_1 : ¬ (r_4 : Int32).toInt = (0 : Int32).toInt := fun z => c_8 (Int32.toInt_inj.mp z)
              have z_2 : ¬ (r_13 : Int32).toInt = (0 : Int32).toInt := fun z => c_17 (Int32.toInt_inj.mp z)
              have z_3 := Int32.le_iff_toInt_le.mp (Int32.not_lt.mp c_37)
              have y_0 : (0 : Int32).toInt = 0 := by decide
              have y_60 : (60 : Int32).toInt = 60 := by decide
              omega
            refine cV (a := (Ma 0)) (As := [.int yy_2800]) (rest := []) (wr := [((Ma 2), .inl (tc 0, 2400, .inl (Mf 2))), ((Ma 4), .inl (tc 0, 288, .inl (Mf 4))), ((Ma 5), .inl (tc 0, 6, .inl (Mf 5))), ((Ma 8), .inl (tc 1, 64, .inr (.inl sv_22))), ((Ma 9), .inl (tc 1, 13, .inr (.inl sv_23))), ((Ma 10), .inl (tc 0, 126, .inl sv_24)), ((Ma 12), .inl (tc 0, 46, .inl sv_25))]) ⟨hx, hb, hml, hown, hts⟩ hK hX hA (cu_dX12_alikeAt l D tc sk (Ma 0) (Ma 1) (Ma 2) (Ma 3) (Ma 4) (Ma 5) (Ma 6) (Ma 7) (Ma 8) (Ma 9) (Ma 10) (Ma 11) (Ma 12) (Ma 13) (Ma 14) (Ma 15) (Ma 16) (Ma 17) (Ma 18) (Ma 19) (Ma 20) (Mv 0) (Mv 1) (Mv 2) (Mv 3) (Mv 4) (Mv 5) (Mv 6) (Mv 7) (Mv 8) (Mv 9) sv_21 (Mv 11) (Mv 12) (Mv 13) (Mv 14) sv_26 sv_27 (Mj 0) yy_2800 ha_63 ha_64) k_1621 k_1618 k_1620 k_91 k_106 pl_X12_alikeAt ⟨Nat.le_of_ble_eq_true rfl, Nat.le_of_ble_eq_true rfl⟩ rfl rfl (va_recv hK hP (ci := 12) (q0 := 0) rfl rfl) hP hD hS [0, 8, 9] [1, 2, 3, 4, 5, 6, 7] rfl rfl rfl rfl rfl (by decide) rfl hl.1 rfl (Nat.le_of_ble_eq_true rfl) dX12_look_35 ⟨Nat.le_of_ble_eq_true rfl, Nat.le_of_ble_eq_true rfl⟩ (fun v_65 u_66 H locs hv_67 hP₀ hD₀ hS₀ => ?_)
            obtain ⟨r_68, rfl, he_69⟩ := hv_67
            have he_69 : (True) ∧ r_68 = (dX12_alikeAt sv_26 sv_27 (Mv 1) yy_2800) := he_69
            refine W.eq (g2 := F0 m 38 ls [.int r_68]) rfl ?_
            replace hP : va_P D classes [((Ma 2), .inl (tc 0, 2400, .inl (Mf 2))), ((Ma 4), .inl (tc 0, 288, .inl (Mf 4))), ((Ma 5), .inl (tc 0, 6, .inl (Mf 5))), ((Ma 8), .inl (tc 1, 64, .inr (.inl sv_22))), ((Ma 9), .inl (tc 1, 13, .inr (.inl sv_23))), ((Ma 10), .inl (tc 0, 126, .inl sv_24)), ((Ma 12), .inl (tc 0, 46, .inl sv_25)), ((Ma 0), .inr (12, [.ref (Ma 1), .int (Mv 0), .int (Mv 1), .ref (Ma 2), .ref (Ma 3), .ref (Ma 4), .ref (Ma 5), .ref (Ma 6), .int (Mv 2), .int (Mv 3), .int (Mv 4), .int (Mv 5), .int (Mv 6), .int (Mv 7), .int (Mv 8), .ref (Ma 7), .int (Mv 9), .ref (Ma 8), .int sv_21, .ref (Ma 9), .ref (Ma 10), .int (Mv 11), .int (Mv 12), .int (Mv 13), .ref (Ma 11), .int (Mv 14), .ref (Ma 12), .ref (Ma 13), .ref (Ma 14), .ref (Ma 15), .ref (Ma 16), .long (Mj 0), .ref (Ma 17), .ref (Ma 18), .ref (Ma 19), .ref (Ma 20)])), ((Ma 15), .inl (tc 3, 7, .inl sv_26)), ((Ma 16), .inl (tc 0, 427, .inl sv_27))] H := hP₀
            replace hD : va_D A [((Ma 2), .inl (tc 0, 2400, .inl (Mf 2))), ((Ma 4), .inl (tc 0, 288, .inl (Mf 4))), ((Ma 5), .inl (tc 0, 6, .inl (Mf 5))), ((Ma 8), .inl (tc 1, 64, .inr (.inl sv_22))), ((Ma 9), .inl (tc 1, 13, .inr (.inl sv_23))), ((Ma 10), .inl (tc 0, 126, .inl sv_24)), ((Ma 12), .inl (tc 0, 46, .inl sv_25)), ((Ma 0), .inr (12, [.ref (Ma 1), .int (Mv 0), .int (Mv 1), .ref (Ma 2), .ref (Ma 3), .ref (Ma 4), .ref (Ma 5), .ref (Ma 6), .int (Mv 2), .int (Mv 3), .int (Mv 4), .int (Mv 5), .int (Mv 6), .int (Mv 7), .int (Mv 8), .ref (Ma 7), .int (Mv 9), .ref (Ma 8), .int sv_21, .ref (Ma 9), .ref (Ma 10), .int (Mv 11), .int (Mv 12), .int (Mv 13), .ref (Ma 11), .int (Mv 14), .ref (Ma 12), .ref (Ma 13), .ref (Ma 14), .ref (Ma 15), .ref (Ma 16), .long (Mj 0), .ref (Ma 17), .ref (Ma 18), .ref (Ma 19), .ref (Ma 20)])), ((Ma 15), .inl (tc 3, 7, .inl sv_26)), ((Ma 16), .inl (tc 0, 427, .inl sv_27))] := hD₀
            replace hS := hS₀
            clear hP₀ hD₀ hS₀
            obtain ⟨he_69, hq_71⟩ := he_69
            have er_68 : r_68 = (dX12_alikeAt sv_26 sv_27 (Mv 1) yy_2800) := hq_71
            refine lv_aload_n hx hb dX12_look_38 rfl (lv_at hl 2 rfl) ?_
            refine lv_iload_n hx hb dX12_look_39 rfl (lv_at hl 1 rfl) ?_
            have ha_72 : 0 ≤ yy_2801.toInt ∧ yy_2801.toInt ≤ 60 := by
              have z_1 : ¬ (r_4 : Int32).toInt = (0 : Int32).toInt := fun z => c_8 (Int32.toInt_inj.mp z)
              have z_2 : ¬ (r_13 : Int32).toInt = (0 : Int32).toInt := fun z => c_17 (Int32.toInt_inj.mp z)
              have z_3 := Int32.le_iff_toInt_le.mp (Int32.not_lt.mp c_37)
              have y_0 : (0 : Int32).toInt = 0 := by decide
              have y_60 : (60 : Int32).toInt = 60 := by decide
              omega
            have ha_73 : (Mv 1).toInt ≤ 6 := by
              have z_1 : ¬ (r_4 : Int32).toInt = (0 : Int32).toInt := fun z => c_8 (Int32.toInt_inj.mp z)
              have z_2 : ¬ (r_13 : Int32).toInt = (0 : Int32).toInt := fun z => c_17 (Int32.toInt_inj.mp z)
              have z_3 := Int32.le_iff_toInt_le.mp (Int32.not_lt.mp c_37)
              have y_0 : (0 : Int32).toInt = 0 := by decide
              have y_60 : (60 : Int32).toInt = 60 := by decide
              omega
            refine cV (a := (Ma 0)) (As := [.int yy_2801]) (rest := [.int r_68]) (wr := [((Ma 2), .inl (tc 0, 2400, .inl (Mf 2))), ((Ma 4), .inl (tc 0, 288, .inl (Mf 4))), ((Ma 5), .inl (tc 0, 6, .inl (Mf 5))), ((Ma 8), .inl (tc 1, 64, .inr (.inl sv_22))), ((Ma 9), .inl (tc 1, 13, .inr (.inl sv_23))), ((Ma 10), .inl (tc 0, 126, .inl sv_24)), ((Ma 12), .inl (tc 0, 46, .inl sv_25))]) ⟨hx, hb, hml, hown, hts⟩ hK hX hA (cu_dX12_alikeAt l D tc sk (Ma 0) (Ma 1) (Ma 2) (Ma 3) (Ma 4) (Ma 5) (Ma 6) (Ma 7) (Ma 8) (Ma 9) (Ma 10) (Ma 11) (Ma 12) (Ma 13) (Ma 14) (Ma 15) (Ma 16) (Ma 17) (Ma 18) (Ma 19) (Ma 20) (Mv 0) (Mv 1) (Mv 2) (Mv 3) (Mv 4) (Mv 5) (Mv 6) (Mv 7) (Mv 8) (Mv 9) sv_21 (Mv 11) (Mv 12) (Mv 13) (Mv 14) sv_26 sv_27 (Mj 0) yy_2801 ha_72 ha_73) k_1621 k_1618 k_1620 k_91 k_106 pl_X12_alikeAt ⟨Nat.le_of_ble_eq_true rfl, Nat.le_of_ble_eq_true rfl⟩ rfl rfl (va_recv hK hP (ci := 12) (q0 := 7) rfl rfl) hP hD hS [7, 8, 9] [0, 1, 2, 3, 4, 5, 6] rfl rfl rfl rfl rfl (by decide) rfl hl.1 rfl (Nat.le_of_ble_eq_true rfl) dX12_look_40 ⟨Nat.le_of_ble_eq_true rfl, Nat.le_of_ble_eq_true rfl⟩ (fun v_74 u_75 H locs hv_76 hP₀ hD₀ hS₀ => ?_)
            obtain ⟨r_77, rfl, he_78⟩ := hv_76
            have he_78 : (True) ∧ r_77 = (dX12_alikeAt sv_26 sv_27 (Mv 1) yy_2801) := he_78
            refine W.eq (g2 := F0 m 43 ls [.int r_77, .int r_68]) rfl ?_
            replace hP : va_P D classes [((Ma 2), .inl (tc 0, 2400, .inl (Mf 2))), ((Ma 4), .inl (tc 0, 288, .inl (Mf 4))), ((Ma 5), .inl (tc 0, 6, .inl (Mf 5))), ((Ma 8), .inl (tc 1, 64, .inr (.inl sv_22))), ((Ma 9), .inl (tc 1, 13, .inr (.inl sv_23))), ((Ma 10), .inl (tc 0, 126, .inl sv_24)), ((Ma 12), .inl (tc 0, 46, .inl sv_25)), ((Ma 0), .inr (12, [.ref (Ma 1), .int (Mv 0), .int (Mv 1), .ref (Ma 2), .ref (Ma 3), .ref (Ma 4), .ref (Ma 5), .ref (Ma 6), .int (Mv 2), .int (Mv 3), .int (Mv 4), .int (Mv 5), .int (Mv 6), .int (Mv 7), .int (Mv 8), .ref (Ma 7), .int (Mv 9), .ref (Ma 8), .int sv_21, .ref (Ma 9), .ref (Ma 10), .int (Mv 11), .int (Mv 12), .int (Mv 13), .ref (Ma 11), .int (Mv 14), .ref (Ma 12), .ref (Ma 13), .ref (Ma 14), .ref (Ma 15), .ref (Ma 16), .long (Mj 0), .ref (Ma 17), .ref (Ma 18), .ref (Ma 19), .ref (Ma 20)])), ((Ma 15), .inl (tc 3, 7, .inl sv_26)), ((Ma 16), .inl (tc 0, 427, .inl sv_27))] H := hP₀
            replace hD : va_D A [((Ma 2), .inl (tc 0, 2400, .inl (Mf 2))), ((Ma 4), .inl (tc 0, 288, .inl (Mf 4))), ((Ma 5), .inl (tc 0, 6, .inl (Mf 5))), ((Ma 8), .inl (tc 1, 64, .inr (.inl sv_22))), ((Ma 9), .inl (tc 1, 13, .inr (.inl sv_23))), ((Ma 10), .inl (tc 0, 126, .inl sv_24)), ((Ma 12), .inl (tc 0, 46, .inl sv_25)), ((Ma 0), .inr (12, [.ref (Ma 1), .int (Mv 0), .int (Mv 1), .ref (Ma 2), .ref (Ma 3), .ref (Ma 4), .ref (Ma 5), .ref (Ma 6), .int (Mv 2), .int (Mv 3), .int (Mv 4), .int (Mv 5), .int (Mv 6), .int (Mv 7), .int (Mv 8), .ref (Ma 7), .int (Mv 9), .ref (Ma 8), .int sv_21, .ref (Ma 9), .ref (Ma 10), .int (Mv 11), .int (Mv 12), .int (Mv 13), .ref (Ma 11), .int (Mv 14), .ref (Ma 12), .ref (Ma 13), .ref (Ma 14), .ref (Ma 15), .ref (Ma 16), .long (Mj 0), .ref (Ma 17), .ref (Ma 18), .ref (Ma 19), .ref (Ma 20)])), ((Ma 15), .inl (tc 3, 7, .inl sv_26)), ((Ma 16), .inl (tc 0, 427, .inl sv_27))] := hD₀
            replace hS := hS₀
            clear hP₀ hD₀ hS₀
            obtain ⟨he_78, hq_80⟩ := he_78
            have er_77 : r_77 = (dX12_alikeAt sv_26 sv_27 (Mv 1) yy_2801) := hq_80
            refine lv_icmp_ge (tgt := 48) hx hb dX12_look_43 (by decide) (fun c_81 => ?_) (fun c_81 => ?_)
            · skip
              obtain ⟨x_82, ex_82⟩ : ∃ y : Int32, y = yy_2800 + 1 := ⟨_, rfl⟩
              refine lv_iinc (v := x_82) (lv' := [(3, .int x_82), (2, .int yy_2801), (0, .ref (Ma 0)), (1, .int x1)]) hx hb dX12_look_48 hl (k := 0) rfl (by rw [ex_82]; rfl) (by decide) rfl (fun ls hl₀ => ?_)
              replace hl := hl₀
              clear hl₀
              refine lv_goto (tgt := 27) hx hb dX12_look_51 (by decide) ?_
              have hb_83 : 61 - (x_82 : Int32).toInt < 61 - (yy_2800 : Int32).toInt ∧ 1 ≤ 61 - (yy_2800 : Int32).toInt := by
                have z_1 : ¬ (r_4 : Int32).toInt = (0 : Int32).toInt := fun z => c_8 (Int32.toInt_inj.mp z)
                have z_2 : ¬ (r_13 : Int32).toInt = (0 : Int32).toInt := fun z => c_17 (Int32.toInt_inj.mp z)
                have z_3 := Int32.le_iff_toInt_le.mp (Int32.not_lt.mp c_37)
                have z_4 := Int32.le_iff_toInt_le.mp c_81
                have y_0 : (0 : Int32).toInt = 0 := by decide
                have y_60 : (60 : Int32).toInt = 60 := by decide
                have y_1 : (1 : Int32).toInt = 1 := by decide
                have t_x_82 : x_82.toInt = (yy_2800 : Int32).toInt + (1 : Int32).toInt := by rw [ex_82]; exact add_toInt (by omega) (by omega)
                omega
              have hm_84 : (61 - (yy_2800 : Int32).toInt).toNat = (61 - (x_82 : Int32).toInt).toNat + 1 := by
                have z_1 : ¬ (r_4 : Int32).toInt = (0 : Int32).toInt := fun z => c_8 (Int32.toInt_inj.mp z)
                have z_2 : ¬ (r_13 : Int32).toInt = (0 : Int32).toInt := fun z => c_17 (Int32.toInt_inj.mp z)
                have z_3 := Int32.le_iff_toInt_le.mp (Int32.not_lt.mp c_37)
                have z_4 := Int32.le_iff_toInt_le.mp c_81
                have y_0 : (0 : Int32).toInt = 0 := by decide
                have y_60 : (60 : Int32).toInt = 60 := by decide
                have y_1 : (1 : Int32).toInt = 1 := by decide
                have t_x_82 : x_82.toInt = (yy_2800 : Int32).toInt + (1 : Int32).toInt := by rw [ex_82]; exact add_toInt (by omega) (by omega)
                omega
              have hb_85 : dX12_look_l27 (Mf 2) (Mf 4) (Mf 5) (Mf 10) (Mf 12) (Mf 15) (Mf 16) (Mg 8) (Mg 9) (Mv 1) (Mv 10) (Mv 11) (Mv 13) ((61 - (yy_2800 : Int32).toInt).toNat + 1) yy_2800 yy_2801 = dX12_look_l27 (Mf 2) (Mf 4) (Mf 5) (Mf 10) (Mf 12) (Mf 15) (Mf 16) (Mg 8) (Mg 9) (Mv 1) (Mv 10) (Mv 11) (Mv 13) ((61 - (yy_2800 : Int32).toInt).toNat) x_82 yy_2801 := by
                clear hP hD hS hl ih_31
                replace er_4 := er_4.symm; subst er_4
                replace er_13 := er_13.symm; subst er_13
                replace esv_21 := esv_21.symm; subst esv_21
                replace esv_22 := esv_22.symm; subst esv_22
                replace esv_23 := esv_23.symm; subst esv_23
                replace esv_24 := esv_24.symm; subst esv_24
                replace esv_25 := esv_25.symm; subst esv_25
                replace esv_26 := esv_26.symm; subst esv_26
                replace esv_27 := esv_27.symm; subst esv_27
                replace er_68 := er_68.symm; subst er_68
                replace er_77 := er_77.symm; subst er_77
                replace ex_82 := ex_82.symm; subst ex_82
                rw [dX12_look_l27_s]
                rw [if_neg c_37, if_pos c_81]
                try rfl
              have hL_86 : (dX12_look_l27 (Mf 2) (Mf 4) (Mf 5) (Mf 10) (Mf 12) (Mf 15) (Mf 16) (Mg 8) (Mg 9) (Mv 1) (Mv 10) (Mv 11) (Mv 13) ((61 - (1 : Int32).toInt).toNat + 1) (1 : Int32) (0 : Int32)) = dX12_look_l27 (Mf 2) (Mf 4) (Mf 5) (Mf 10) (Mf 12) (Mf 15) (Mf 16) (Mg 8) (Mg 9) (Mv 1) (Mv 10) (Mv 11) (Mv 13) ((61 - (x_82 : Int32).toInt).toNat + 1) x_82 yy_2801 := by
                rw [hL_35, hb_85, hm_84]
              have ha_87 : 0 ≤ (x_82 : Int32).toInt := by
                have z_1 : ¬ (r_4 : Int32).toInt = (0 : Int32).toInt := fun z => c_8 (Int32.toInt_inj.mp z)
                have z_2 : ¬ (r_13 : Int32).toInt = (0 : Int32).toInt := fun z => c_17 (Int32.toInt_inj.mp z)
                have z_3 := Int32.le_iff_toInt_le.mp (Int32.not_lt.mp c_37)
                have z_4 := Int32.le_iff_toInt_le.mp c_81
                have y_0 : (0 : Int32).toInt = 0 := by decide
                have y_60 : (60 : Int32).toInt = 60 := by decide
                have y_1 : (1 : Int32).toInt = 1 := by decide
                have t_x_82 : x_82.toInt = (yy_2800 : Int32).toInt + (1 : Int32).toInt := by rw [ex_82]; exact add_toInt (by omega) (by omega)
                omega
              exact ih_31 x_82 yy_2801 _ _ _ (by omega) hL_86 ha_87 pf_34 (hP.sub [7, 0, 1, 2, 3, 4, 5, 6, 8, 9] rfl) (hD.sub [7, 0, 1, 2, 3, 4, 5, 6, 8, 9] rfl rfl) hS (lv_sub hl [0, 1, 2, 3] rfl)
            · skip
              refine lv_iload_n hx hb dX12_look_46 rfl (lv_at hl 0 rfl) ?_
              refine lv_istore_n (lv' := [(2, .int yy_2800), (3, .int yy_2800), (0, .ref (Ma 0)), (1, .int x1)]) hx hb dX12_look_47 rfl hl (by decide) rfl (fun ls hl₀ => ?_)
              replace hl := hl₀
              clear hl₀
              obtain ⟨x_88, ex_88⟩ : ∃ y : Int32, y = yy_2800 + 1 := ⟨_, rfl⟩
              refine lv_iinc (v := x_88) (lv' := [(3, .int x_88), (2, .int yy_2800), (0, .ref (Ma 0)), (1, .int x1)]) hx hb dX12_look_48 hl (k := 1) rfl (by rw [ex_88]; rfl) (by decide) rfl (fun ls hl₀ => ?_)
              replace hl := hl₀
              clear hl₀
              refine lv_goto (tgt := 27) hx hb dX12_look_51 (by decide) ?_
              have hb_89 : 61 - (x_88 : Int32).toInt < 61 - (yy_2800 : Int32).toInt ∧ 1 ≤ 61 - (yy_2800 : Int32).toInt := by
                have z_1 : ¬ (r_4 : Int32).toInt = (0 : Int32).toInt := fun z => c_8 (Int32.toInt_inj.mp z)
                have z_2 : ¬ (r_13 : Int32).toInt = (0 : Int32).toInt := fun z => c_17 (Int32.toInt_inj.mp z)
                have z_3 := Int32.le_iff_toInt_le.mp (Int32.not_lt.mp c_37)
                have z_4 := Int32.lt_iff_toInt_lt.mp (Int32.not_le.mp c_81)
                have y_0 : (0 : Int32).toInt = 0 := by decide
                have y_60 : (60 : Int32).toInt = 60 := by decide
                have y_1 : (1 : Int32).toInt = 1 := by decide
                have t_x_88 : x_88.toInt = (yy_2800 : Int32).toInt + (1 : Int32).toInt := by rw [ex_88]; exact add_toInt (by omega) (by omega)
                omega
              have hm_90 : (61 - (yy_2800 : Int32).toInt).toNat = (61 - (x_88 : Int32).toInt).toNat + 1 := by
                have z_1 : ¬ (r_4 : Int32).toInt = (0 : Int32).toInt := fun z => c_8 (Int32.toInt_inj.mp z)
                have z_2 : ¬ (r_13 : Int32).toInt = (0 : Int32).toInt := fun z => c_17 (Int32.toInt_inj.mp z)
                have z_3 := Int32.le_iff_toInt_le.mp (Int32.not_lt.mp c_37)
                have z_4 := Int32.lt_iff_toInt_lt.mp (Int32.not_le.mp c_81)
                have y_0 : (0 : Int32).toInt = 0 := by decide
                have y_60 : (60 : Int32).toInt = 60 := by decide
                have y_1 : (1 : Int32).toInt = 1 := by decide
                have t_x_88 : x_88.toInt = (yy_2800 : Int32).toInt + (1 : Int32).toInt := by rw [ex_88]; exact add_toInt (by omega) (by omega)
                omega
              have hb_91 : dX12_look_l27 (Mf 2) (Mf 4) (Mf 5) (Mf 10) (Mf 12) (Mf 15) (Mf 16) (Mg 8) (Mg 9) (Mv 1) (Mv 10) (Mv 11) (Mv 13) ((61 - (yy_2800 : Int32).toInt).toNat + 1) yy_2800 yy_2801 = dX12_look_l27 (Mf 2) (Mf 4) (Mf 5) (Mf 10) (Mf 12) (Mf 15) (Mf 16) (Mg 8) (Mg 9) (Mv 1) (Mv 10) (Mv 11) (Mv 13) ((61 - (yy_2800 : Int32).toInt).toNat) x_88 yy_2800 := by
                clear hP hD hS hl ih_31
                replace er_4 := er_4.symm; subst er_4
                replace er_13 := er_13.symm; subst er_13
                replace esv_21 := esv_21.symm; subst esv_21
                replace esv_22 := esv_22.symm; subst esv_22
                replace esv_23 := esv_23.symm; subst esv_23
                replace esv_24 := esv_24.symm; subst esv_24
                replace esv_25 := esv_25.symm; subst esv_25
                replace esv_26 := esv_26.symm; subst esv_26
                replace esv_27 := esv_27.symm; subst esv_27
                replace er_68 := er_68.symm; subst er_68
                replace er_77 := er_77.symm; subst er_77
                replace ex_88 := ex_88.symm; subst ex_88
                rw [dX12_look_l27_s]
                rw [if_neg c_37, if_neg c_81]
                try rfl
              have hL_92 : (dX12_look_l27 (Mf 2) (Mf 4) (Mf 5) (Mf 10) (Mf 12) (Mf 15) (Mf 16) (Mg 8) (Mg 9) (Mv 1) (Mv 10) (Mv 11) (Mv 13) ((61 - (1 : Int32).toInt).toNat + 1) (1 : Int32) (0 : Int32)) = dX12_look_l27 (Mf 2) (Mf 4) (Mf 5) (Mf 10) (Mf 12) (Mf 15) (Mf 16) (Mg 8) (Mg 9) (Mv 1) (Mv 10) (Mv 11) (Mv 13) ((61 - (x_88 : Int32).toInt).toNat + 1) x_88 yy_2800 := by
                rw [hL_35, hb_91, hm_90]
              have ha_93 : 0 ≤ (x_88 : Int32).toInt := by
                have z_1 : ¬ (r_4 : Int32).toInt = (0 : Int32).toInt := fun z => c_8 (Int32.toInt_inj.mp z)
                have z_2 : ¬ (r_13 : Int32).toInt = (0 : Int32).toInt := fun z => c_17 (Int32.toInt_inj.mp z)
                have z_3 := Int32.le_iff_toInt_le.mp (Int32.not_lt.mp c_37)
                have z_4 := Int32.lt_iff_toInt_lt.mp (Int32.not_le.mp c_81)
                have y_0 : (0 : Int32).toInt = 0 := by decide
                have y_60 : (60 : Int32).toInt = 60 := by decide
                have y_1 : (1 : Int32).toInt = 1 := by decide
                have t_x_88 : x_88.toInt = (yy_2800 : Int32).toInt + (1 : Int32).toInt := by rw [ex_88]; exact add_toInt (by omega) (by omega)
                omega
              have ha_94 : 0 ≤ (yy_2800 : Int32).toInt ∧ (yy_2800 : Int32).toInt ≤ 60 := by
                have z_1 : ¬ (r_4 : Int32).toInt = (0 : Int32).toInt := fun z => c_8 (Int32.toInt_inj.mp z)
                have z_2 : ¬ (r_13 : Int32).toInt = (0 : Int32).toInt := fun z => c_17 (Int32.toInt_inj.mp z)
                have z_3 := Int32.le_iff_toInt_le.mp (Int32.not_lt.mp c_37)
                have z_4 := Int32.lt_iff_toInt_lt.mp (Int32.not_le.mp c_81)
                have y_0 : (0 : Int32).toInt = 0 := by decide
                have y_60 : (60 : Int32).toInt = 60 := by decide
                omega
              exact ih_31 x_88 yy_2800 _ _ _ (by omega) hL_92 ha_93 ha_94 (hP.sub [7, 0, 1, 2, 3, 4, 5, 6, 8, 9] rfl) (hD.sub [7, 0, 1, 2, 3, 4, 5, 6, 8, 9] rfl rfl) hS (lv_sub hl [0, 1, 2, 3] rfl)
      have ha_95 : 0 ≤ (1 : Int32).toInt := by
        have z_1 : ¬ (r_4 : Int32).toInt = (0 : Int32).toInt := fun z => c_8 (Int32.toInt_inj.mp z)
        have z_2 : ¬ (r_13 : Int32).toInt = (0 : Int32).toInt := fun z => c_17 (Int32.toInt_inj.mp z)
        have y_0 : (0 : Int32).toInt = 0 := by decide
        have y_1 : (1 : Int32).toInt = 1 := by decide
        omega
      have ha_96 : 0 ≤ (0 : Int32).toInt ∧ (0 : Int32).toInt ≤ 60 := by
        have z_1 : ¬ (r_4 : Int32).toInt = (0 : Int32).toInt := fun z => c_8 (Int32.toInt_inj.mp z)
        have z_2 : ¬ (r_13 : Int32).toInt = (0 : Int32).toInt := fun z => c_17 (Int32.toInt_inj.mp z)
        have y_0 : (0 : Int32).toInt = 0 := by decide
        omega
      exact loop_32 _ 1 0 _ _ _ (Nat.lt_succ_self _) rfl ha_95 ha_96 hP hD hS hl
    · skip
      refine lv_iconst (v := (-1)) hx hb dX12_look_17 (by decide) ?_
      have hF_97 : ((-1 : Int32), (Mv 10), (Mg 8), (Mg 9), (Mf 10), (Mf 12), (Mf 15), (Mf 16)) = (dX12_look (Mf 2) (Mf 4) (Mf 5) (Mf 10) (Mf 12) (Mf 15) (Mf 16) (Mg 8) (Mg 9) (Mv 1) (Mv 10) (Mv 11) (Mv 13) x1) := by
        clear hP hD hS hl
        replace er_4 := er_4.symm; subst er_4
        replace er_13 := er_13.symm; subst er_13
        unfold dX12_look
        rw [if_neg c_8, if_pos c_17]
        try rfl
      exact retI (v := (-1)) hx hb hr hlk (rfl) hP hD hS ((Mv 10), (Mg 8), (Mg 9), (Mf 10), (Mf 12), (Mf 15), (Mf 16)) ⟨_, rfl, ⟨trivial, hF_97⟩, h_said⟩ [8, 0, 1, 2, 3, 4, 9, 5, 6, 7] rfl rfl dX12_look_18 (Nat.le_of_ble_eq_true rfl) (Nat.le_of_ble_eq_true rfl) rfl
