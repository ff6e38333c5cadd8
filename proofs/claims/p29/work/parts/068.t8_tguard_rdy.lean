set_option maxRecDepth 16384
def GdZ (x : Int32) : Prop := x = 0
set_option maxHeartbeats 4000000 in
set_option maxRecDepth 100000 in
theorem ct_hX12_guard {T : Nat → Option Int32} (l : Launch) (D : va_G) (tc : Nat → ClassId) (sk : (Nat → Nat) × (Nat → Nat)) (Ma : Nat → Nat) (Mv : Nat → Int32) (Mf : Nat → Nat → Int32) (Mj : Nat → Int64) (Mg : Nat → Nat → Int64) (x1 : Int32) (x2 : Int32) (h_said : SaidD T (Mf 10) 999) (h_rul : RulD (Mf 2) (Mf 4) (Mf 5) (Mv 1)) (h_frc : -1 ≤ (Mv 11).toInt ∧ (Mv 11).toInt < (Mv 1).toInt ∧ (Mv 1).toInt ≤ 6) (h_gd : GdZ (Mv 13)) : Ct l yX12_guard cX12_guard 5 (some .int) { frames := 7, cells := 0, slots := 0, locals := 166 } D tc sk [.ref (Ma 0), .int x1, .int x2] [((Ma 0), .inr (12, [.ref (Ma 1), .int (Mv 0), .int (Mv 1), .ref (Ma 2), .ref (Ma 3), .ref (Ma 4), .ref (Ma 5), .ref (Ma 6), .int (Mv 2), .int (Mv 3), .int (Mv 4), .int (Mv 5), .int (Mv 6), .int (Mv 7), .int (Mv 8), .ref (Ma 7), .int (Mv 9), .ref (Ma 8), .int (Mv 10), .ref (Ma 9), .ref (Ma 10), .int (Mv 11), .int (Mv 12), .int (Mv 13), .ref (Ma 11), .int (Mv 14), .ref (Ma 12), .ref (Ma 13), .ref (Ma 14), .ref (Ma 15), .ref (Ma 16), .long (Mj 0), .ref (Ma 17), .ref (Ma 18), .ref (Ma 19), .ref (Ma 20)])), ((Ma 2), .inl (tc 0, 2400, .inl (Mf 2))), ((Ma 4), .inl (tc 0, 288, .inl (Mf 4))), ((Ma 5), .inl (tc 0, 6, .inl (Mf 5))), ((Ma 8), .inl (tc 1, 64, .inr (.inl (Mg 8)))), ((Ma 9), .inl (tc 1, 13, .inr (.inl (Mg 9)))), ((Ma 10), .inl (tc 0, 126, .inl (Mf 10))), ((Ma 12), .inl (tc 0, 46, .inl (Mf 12)))] (fun (v : Option Value) (u : (Int32) × (Int32) × (Nat → Int64) × (Nat → Int64) × (Nat → Int32) × (Nat → Int32)) => match u with | (oo0x1, oo0x2, oo0x3, oo0x4, oo0x5, oo0x6) => ∃ r : Int32, v = some (.int r) ∧ (True) ∧ (SaidD T oo0x5 999) ∧ (GdZ oo0x2)) (fun (u : (Int32) × (Int32) × (Nat → Int64) × (Nat → Int64) × (Nat → Int32) × (Nat → Int32)) => match u with | (oo0x1, oo0x2, oo0x3, oo0x4, oo0x5, oo0x6) => [((Ma 0), .inr (12, [.ref (Ma 1), .int (Mv 0), .int (Mv 1), .ref (Ma 2), .ref (Ma 3), .ref (Ma 4), .ref (Ma 5), .ref (Ma 6), .int (Mv 2), .int (Mv 3), .int (Mv 4), .int (Mv 5), .int (Mv 6), .int (Mv 7), .int (Mv 8), .ref (Ma 7), .int (Mv 9), .ref (Ma 8), .int oo0x1, .ref (Ma 9), .ref (Ma 10), .int (Mv 11), .int (Mv 12), .int oo0x2, .ref (Ma 11), .int (Mv 14), .ref (Ma 12), .ref (Ma 13), .ref (Ma 14), .ref (Ma 15), .ref (Ma 16), .long (Mj 0), .ref (Ma 17), .ref (Ma 18), .ref (Ma 19), .ref (Ma 20)])), ((Ma 2), .inl (tc 0, 2400, .inl (Mf 2))), ((Ma 4), .inl (tc 0, 288, .inl (Mf 4))), ((Ma 5), .inl (tc 0, 6, .inl (Mf 5))), ((Ma 8), .inl (tc 1, 64, .inr (.inl oo0x3))), ((Ma 9), .inl (tc 1, 13, .inr (.inl oo0x4))), ((Ma 10), .inl (tc 0, 126, .inl oo0x5)), ((Ma 12), .inl (tc 0, 46, .inl oo0x6))]) 0 0 := by
  refine Ct.start (by decide) (Nat.le_of_ble_eq_true rfl) (fun p e s m below meth c A ls hx hb hr hlk hin hml hown hts hK hX hP hD hA hl hS => ?_)
  have hl : lv_has ls 5 [(0, .ref (Ma 0)), (1, .int x1), (2, .int x2)] := hl
  have ar_h_said := SaidD.al h_said
  have ar_h_gd : ((Mv 13) : Int32).toInt = 0 := by rw [show (Mv 13) = (0 : Int32) from h_gd]; decide
  refine lv_aload_n hx hb dX12_guard_0 rfl (lv_at hl 0 rfl) ?_
  refine cV (a := (Ma 0)) (As := []) (rest := []) (wr := [((Ma 2), .inl (tc 0, 2400, .inl (Mf 2))), ((Ma 4), .inl (tc 0, 288, .inl (Mf 4))), ((Ma 5), .inl (tc 0, 6, .inl (Mf 5))), ((Ma 8), .inl (tc 1, 64, .inr (.inl (Mg 8)))), ((Ma 9), .inl (tc 1, 13, .inr (.inl (Mg 9)))), ((Ma 12), .inl (tc 0, 46, .inl (Mf 12)))]) ⟨hx, hb, hml, hown, hts⟩ hK hX hA (cu_X12_isBook l D tc sk (Ma 0) (Ma 1) (Ma 2) (Ma 3) (Ma 4) (Ma 5) (Ma 6) (Ma 7) (Ma 8) (Ma 9) (Ma 10) (Ma 11) (Ma 12) (Ma 13) (Ma 14) (Ma 15) (Ma 16) (Ma 17) (Ma 18) (Ma 19) (Ma 20) (Mv 0) (Mv 1) (Mv 2) (Mv 3) (Mv 4) (Mv 5) (Mv 6) (Mv 7) (Mv 8) (Mv 9) (Mv 10) (Mv 11) (Mv 12) (Mv 13) (Mv 14) (Mf 10) (Mj 0) h_said.1) k_1407 k_1404 k_1406 k_65 k_106 pl_X12_isBook ⟨Nat.le_of_ble_eq_true rfl, Nat.le_of_ble_eq_true rfl⟩ rfl rfl (va_recv hK hP (ci := 12) (q0 := 0) rfl rfl) hP hD hS [0, 6] [1, 2, 3, 4, 5, 7] rfl rfl rfl rfl rfl (by decide) rfl hl.1 rfl (Nat.le_of_ble_eq_true rfl) dX12_guard_1 ⟨Nat.le_of_ble_eq_true rfl, Nat.le_of_ble_eq_true rfl⟩ (fun v_1 u_2 H locs hv_3 hP₀ hD₀ hS₀ => ?_)
  obtain ⟨r_4, rfl, he_5⟩ := hv_3
  have he_5 : (r_4.toInt = 0 ∨ (r_4.toInt = 1 ∧ 1 ≤ ((Mf 10) 2).toInt ∧ ((Mf 10) 2).toInt ≤ 10)) := he_5
  refine W.eq (g2 := F0 m 4 ls [.int r_4]) rfl ?_
  replace hP : va_P D classes [((Ma 2), .inl (tc 0, 2400, .inl (Mf 2))), ((Ma 4), .inl (tc 0, 288, .inl (Mf 4))), ((Ma 5), .inl (tc 0, 6, .inl (Mf 5))), ((Ma 8), .inl (tc 1, 64, .inr (.inl (Mg 8)))), ((Ma 9), .inl (tc 1, 13, .inr (.inl (Mg 9)))), ((Ma 12), .inl (tc 0, 46, .inl (Mf 12))), ((Ma 0), .inr (12, [.ref (Ma 1), .int (Mv 0), .int (Mv 1), .ref (Ma 2), .ref (Ma 3), .ref (Ma 4), .ref (Ma 5), .ref (Ma 6), .int (Mv 2), .int (Mv 3), .int (Mv 4), .int (Mv 5), .int (Mv 6), .int (Mv 7), .int (Mv 8), .ref (Ma 7), .int (Mv 9), .ref (Ma 8), .int (Mv 10), .ref (Ma 9), .ref (Ma 10), .int (Mv 11), .int (Mv 12), .int (Mv 13), .ref (Ma 11), .int (Mv 14), .ref (Ma 12), .ref (Ma 13), .ref (Ma 14), .ref (Ma 15), .ref (Ma 16), .long (Mj 0), .ref (Ma 17), .ref (Ma 18), .ref (Ma 19), .ref (Ma 20)])), ((Ma 10), .inl (tc 0, 126, .inl (Mf 10)))] H := hP₀
  replace hD : va_D A [((Ma 2), .inl (tc 0, 2400, .inl (Mf 2))), ((Ma 4), .inl (tc 0, 288, .inl (Mf 4))), ((Ma 5), .inl (tc 0, 6, .inl (Mf 5))), ((Ma 8), .inl (tc 1, 64, .inr (.inl (Mg 8)))), ((Ma 9), .inl (tc 1, 13, .inr (.inl (Mg 9)))), ((Ma 12), .inl (tc 0, 46, .inl (Mf 12))), ((Ma 0), .inr (12, [.ref (Ma 1), .int (Mv 0), .int (Mv 1), .ref (Ma 2), .ref (Ma 3), .ref (Ma 4), .ref (Ma 5), .ref (Ma 6), .int (Mv 2), .int (Mv 3), .int (Mv 4), .int (Mv 5), .int (Mv 6), .int (Mv 7), .int (Mv 8), .ref (Ma 7), .int (Mv 9), .ref (Ma 8), .int (Mv 10), .ref (Ma 9), .ref (Ma 10), .int (Mv 11), .int (Mv 12), .int (Mv 13), .ref (Ma 11), .int (Mv 14), .ref (Ma 12), .ref (Ma 13), .ref (Ma 14), .ref (Ma 15), .ref (Ma 16), .long (Mj 0), .ref (Ma 17), .ref (Ma 18), .ref (Ma 19), .ref (Ma 20)])), ((Ma 10), .inl (tc 0, 126, .inl (Mf 10)))] := hD₀
  replace hS := hS₀
  clear hP₀ hD₀ hS₀
  refine lv_if_eq (tgt := 29) hx hb dX12_guard_4 (by decide) (fun c_7 => ?_) (fun c_7 => ?_)
  · skip
    refine lv_iconst (v := (-1)) hx hb dX12_guard_29 (by decide) ?_
    exact retI (v := (-1)) hx hb hr hlk (rfl) hP hD hS ((Mv 10), (Mv 13), (Mg 8), (Mg 9), (Mf 10), (Mf 12)) ⟨_, rfl, trivial, h_said, h_gd⟩ [6, 0, 1, 2, 3, 4, 7, 5] rfl rfl dX12_guard_30 (Nat.le_of_ble_eq_true rfl) (Nat.le_of_ble_eq_true rfl) rfl
  · skip
    refine lv_iload_n hx hb dX12_guard_7 rfl (lv_at hl 1 rfl) ?_
    refine lv_i2l (v := (x1).toInt64) hx hb dX12_guard_8 rfl ?_
    refine lv_lconst (v := 1) hx hb dX12_guard_9 (by decide) ?_
    refine lv_ldc2 hx hb hown (hts _ k_1540) dX12_guard_10 ?_
    refine cS (As := [.long (x1).toInt64, .long 1, .long 30]) (rest := []) (wr := [((Ma 2), .inl (tc 0, 2400, .inl (Mf 2))), ((Ma 4), .inl (tc 0, 288, .inl (Mf 4))), ((Ma 5), .inl (tc 0, 6, .inl (Mf 5))), ((Ma 8), .inl (tc 1, 64, .inr (.inl (Mg 8)))), ((Ma 9), .inl (tc 1, 13, .inr (.inl (Mg 9)))), ((Ma 12), .inl (tc 0, 46, .inl (Mf 12))), ((Ma 0), .inr (12, [.ref (Ma 1), .int (Mv 0), .int (Mv 1), .ref (Ma 2), .ref (Ma 3), .ref (Ma 4), .ref (Ma 5), .ref (Ma 6), .int (Mv 2), .int (Mv 3), .int (Mv 4), .int (Mv 5), .int (Mv 6), .int (Mv 7), .int (Mv 8), .ref (Ma 7), .int (Mv 9), .ref (Ma 8), .int (Mv 10), .ref (Ma 9), .ref (Ma 10), .int (Mv 11), .int (Mv 12), .int (Mv 13), .ref (Ma 11), .int (Mv 14), .ref (Ma 12), .ref (Ma 13), .ref (Ma 14), .ref (Ma 15), .ref (Ma 16), .long (Mj 0), .ref (Ma 17), .ref (Ma 18), .ref (Ma 19), .ref (Ma 20)])), ((Ma 10), .inl (tc 0, 126, .inl (Mf 10)))]) ⟨hx, hb, hml, hown, hts⟩ hK hX hA (ct_X12_in2 l D tc sk ((x1).toInt64) 1 30) k_1259 k_1257 k_1258 k_106 pl_X12_in ⟨Nat.le_of_ble_eq_true rfl, Nat.le_of_ble_eq_true rfl⟩ rfl rfl  hP hD hS [] [0, 1, 2, 3, 4, 5, 6, 7] rfl rfl rfl rfl rfl (by decide) rfl hl.1 rfl (Nat.le_of_ble_eq_true rfl) dX12_guard_13 ⟨Nat.le_of_ble_eq_true rfl, Nat.le_of_ble_eq_true rfl⟩ (fun v_8 u_9 H locs hv_10 hP₀ hD₀ hS₀ => ?_)
    obtain ⟨r_11, rfl, he_12⟩ := hv_10
    have he_12 : ((r_11.toInt = 0 ∧ ((x1).toInt64.toInt < (1 : Int64).toInt ∨ (30 : Int64).toInt < (x1).toInt64.toInt)) ∨ (r_11.toInt = 1 ∧ (1 : Int64).toInt ≤ (x1).toInt64.toInt ∧ (x1).toInt64.toInt ≤ (30 : Int64).toInt)) := he_12
    refine W.eq (g2 := F0 m 16 ls [.int r_11]) rfl ?_
    replace hP : va_P D classes [((Ma 2), .inl (tc 0, 2400, .inl (Mf 2))), ((Ma 4), .inl (tc 0, 288, .inl (Mf 4))), ((Ma 5), .inl (tc 0, 6, .inl (Mf 5))), ((Ma 8), .inl (tc 1, 64, .inr (.inl (Mg 8)))), ((Ma 9), .inl (tc 1, 13, .inr (.inl (Mg 9)))), ((Ma 12), .inl (tc 0, 46, .inl (Mf 12))), ((Ma 0), .inr (12, [.ref (Ma 1), .int (Mv 0), .int (Mv 1), .ref (Ma 2), .ref (Ma 3), .ref (Ma 4), .ref (Ma 5), .ref (Ma 6), .int (Mv 2), .int (Mv 3), .int (Mv 4), .int (Mv 5), .int (Mv 6), .int (Mv 7), .int (Mv 8), .ref (Ma 7), .int (Mv 9), .ref (Ma 8), .int (Mv 10), .ref (Ma 9), .ref (Ma 10), .int (Mv 11), .int (Mv 12), .int (Mv 13), .ref (Ma 11), .int (Mv 14), .ref (Ma 12), .ref (Ma 13), .ref (Ma 14), .ref (Ma 15), .ref (Ma 16), .long (Mj 0), .ref (Ma 17), .ref (Ma 18), .ref (Ma 19), .ref (Ma 20)])), ((Ma 10), .inl (tc 0, 126, .inl (Mf 10)))] H := hP₀
    replace hD : va_D A [((Ma 2), .inl (tc 0, 2400, .inl (Mf 2))), ((Ma 4), .inl (tc 0, 288, .inl (Mf 4))), ((Ma 5), .inl (tc 0, 6, .inl (Mf 5))), ((Ma 8), .inl (tc 1, 64, .inr (.inl (Mg 8)))), ((Ma 9), .inl (tc 1, 13, .inr (.inl (Mg 9)))), ((Ma 12), .inl (tc 0, 46, .inl (Mf 12))), ((Ma 0), .inr (12, [.ref (Ma 1), .int (Mv 0), .int (Mv 1), .ref (Ma 2), .ref (Ma 3), .ref (Ma 4), .ref (Ma 5), .ref (Ma 6), .int (Mv 2), .int (Mv 3), .int (Mv 4), .int (Mv 5), .int (Mv 6), .int (Mv 7), .int (Mv 8), .ref (Ma 7), .int (Mv 9), .ref (Ma 8), .int (Mv 10), .ref (Ma 9), .ref (Ma 10), .int (Mv 11), .int (Mv 12), .int (Mv 13), .ref (Ma 11), .int (Mv 14), .ref (Ma 12), .ref (Ma 13), .ref (Ma 14), .ref (Ma 15), .ref (Ma 16), .long (Mj 0), .ref (Ma 17), .ref (Ma 18), .ref (Ma 19), .ref (Ma 20)])), ((Ma 10), .inl (tc 0, 126, .inl (Mf 10)))] := hD₀
    replace hS := hS₀
    clear hP₀ hD₀ hS₀
    have yl_he_12_1 : (1 : Int64).toInt = 1 := by decide
    have yl_he_12_30 : (30 : Int64).toInt = 30 := by decide
    simp only [i32_64] at he_12
    refine lv_if_eq (tgt := 29) hx hb dX12_guard_16 (by decide) (fun c_14 => ?_) (fun c_14 => ?_)
    · skip
      refine lv_iconst (v := (-1)) hx hb dX12_guard_29 (by decide) ?_
      exact retI (v := (-1)) hx hb hr hlk (rfl) hP hD hS ((Mv 10), (Mv 13), (Mg 8), (Mg 9), (Mf 10), (Mf 12)) ⟨_, rfl, trivial, h_said, h_gd⟩ [6, 0, 1, 2, 3, 4, 7, 5] rfl rfl dX12_guard_30 (Nat.le_of_ble_eq_true rfl) (Nat.le_of_ble_eq_true rfl) rfl
    · skip
      refine lv_iload_n hx hb dX12_guard_19 rfl (lv_at hl 2 rfl) ?_
      refine lv_i2l (v := (x2).toInt64) hx hb dX12_guard_20 rfl ?_
      refine lv_lconst (v := 0) hx hb dX12_guard_21 (by decide) ?_
      refine lv_lconst (v := 1) hx hb dX12_guard_22 (by decide) ?_
      refine cS (As := [.long (x2).toInt64, .long 0, .long 1]) (rest := []) (wr := [((Ma 2), .inl (tc 0, 2400, .inl (Mf 2))), ((Ma 4), .inl (tc 0, 288, .inl (Mf 4))), ((Ma 5), .inl (tc 0, 6, .inl (Mf 5))), ((Ma 8), .inl (tc 1, 64, .inr (.inl (Mg 8)))), ((Ma 9), .inl (tc 1, 13, .inr (.inl (Mg 9)))), ((Ma 12), .inl (tc 0, 46, .inl (Mf 12))), ((Ma 0), .inr (12, [.ref (Ma 1), .int (Mv 0), .int (Mv 1), .ref (Ma 2), .ref (Ma 3), .ref (Ma 4), .ref (Ma 5), .ref (Ma 6), .int (Mv 2), .int (Mv 3), .int (Mv 4), .int (Mv 5), .int (Mv 6), .int (Mv 7), .int (Mv 8), .ref (Ma 7), .int (Mv 9), .ref (Ma 8), .int (Mv 10), .ref (Ma 9), .ref (Ma 10), .int (Mv 11), .int (Mv 12), .int (Mv 13), .ref (Ma 11), .int (Mv 14), .ref (Ma 12), .ref (Ma 13), .ref (Ma 14), .ref (Ma 15), .ref (Ma 16), .long (Mj 0), .ref (Ma 17), .ref (Ma 18), .ref (Ma 19), .ref (Ma 20)])), ((Ma 10), .inl (tc 0, 126, .inl (Mf 10)))]) ⟨hx, hb, hml, hown, hts⟩ hK hX hA (ct_X12_in2 l D tc sk ((x2).toInt64) 0 1) k_1259 k_1257 k_1258 k_106 pl_X12_in ⟨Nat.le_of_ble_eq_true rfl, Nat.le_of_ble_eq_true rfl⟩ rfl rfl  hP hD hS [] [0, 1, 2, 3, 4, 5, 6, 7] rfl rfl rfl rfl rfl (by decide) rfl hl.1 rfl (Nat.le_of_ble_eq_true rfl) dX12_guard_23 ⟨Nat.le_of_ble_eq_true rfl, Nat.le_of_ble_eq_true rfl⟩ (fun v_15 u_16 H locs hv_17 hP₀ hD₀ hS₀ => ?_)
      obtain ⟨r_18, rfl, he_19⟩ := hv_17
      have he_19 : ((r_18.toInt = 0 ∧ ((x2).toInt64.toInt < (0 : Int64).toInt ∨ (1 : Int64).toInt < (x2).toInt64.toInt)) ∨ (r_18.toInt = 1 ∧ (0 : Int64).toInt ≤ (x2).toInt64.toInt ∧ (x2).toInt64.toInt ≤ (1 : Int64).toInt)) := he_19
      refine W.eq (g2 := F0 m 26 ls [.int r_18]) rfl ?_
      replace hP : va_P D classes [((Ma 2), .inl (tc 0, 2400, .inl (Mf 2))), ((Ma 4), .inl (tc 0, 288, .inl (Mf 4))), ((Ma 5), .inl (tc 0, 6, .inl (Mf 5))), ((Ma 8), .inl (tc 1, 64, .inr (.inl (Mg 8)))), ((Ma 9), .inl (tc 1, 13, .inr (.inl (Mg 9)))), ((Ma 12), .inl (tc 0, 46, .inl (Mf 12))), ((Ma 0), .inr (12, [.ref (Ma 1), .int (Mv 0), .int (Mv 1), .ref (Ma 2), .ref (Ma 3), .ref (Ma 4), .ref (Ma 5), .ref (Ma 6), .int (Mv 2), .int (Mv 3), .int (Mv 4), .int (Mv 5), .int (Mv 6), .int (Mv 7), .int (Mv 8), .ref (Ma 7), .int (Mv 9), .ref (Ma 8), .int (Mv 10), .ref (Ma 9), .ref (Ma 10), .int (Mv 11), .int (Mv 12), .int (Mv 13), .ref (Ma 11), .int (Mv 14), .ref (Ma 12), .ref (Ma 13), .ref (Ma 14), .ref (Ma 15), .ref (Ma 16), .long (Mj 0), .ref (Ma 17), .ref (Ma 18), .ref (Ma 19), .ref (Ma 20)])), ((Ma 10), .inl (tc 0, 126, .inl (Mf 10)))] H := hP₀
      replace hD : va_D A [((Ma 2), .inl (tc 0, 2400, .inl (Mf 2))), ((Ma 4), .inl (tc 0, 288, .inl (Mf 4))), ((Ma 5), .inl (tc 0, 6, .inl (Mf 5))), ((Ma 8), .inl (tc 1, 64, .inr (.inl (Mg 8)))), ((Ma 9), .inl (tc 1, 13, .inr (.inl (Mg 9)))), ((Ma 12), .inl (tc 0, 46, .inl (Mf 12))), ((Ma 0), .inr (12, [.ref (Ma 1), .int (Mv 0), .int (Mv 1), .ref (Ma 2), .ref (Ma 3), .ref (Ma 4), .ref (Ma 5), .ref (Ma 6), .int (Mv 2), .int (Mv 3), .int (Mv 4), .int (Mv 5), .int (Mv 6), .int (Mv 7), .int (Mv 8), .ref (Ma 7), .int (Mv 9), .ref (Ma 8), .int (Mv 10), .ref (Ma 9), .ref (Ma 10), .int (Mv 11), .int (Mv 12), .int (Mv 13), .ref (Ma 11), .int (Mv 14), .ref (Ma 12), .ref (Ma 13), .ref (Ma 14), .ref (Ma 15), .ref (Ma 16), .long (Mj 0), .ref (Ma 17), .ref (Ma 18), .ref (Ma 19), .ref (Ma 20)])), ((Ma 10), .inl (tc 0, 126, .inl (Mf 10)))] := hD₀
      replace hS := hS₀
      clear hP₀ hD₀ hS₀
      have yl_he_19_0 : (0 : Int64).toInt = 0 := by decide
      have yl_he_19_1 : (1 : Int64).toInt = 1 := by decide
      simp only [i32_64] at he_19
      refine lv_if_ne (tgt := 31) hx hb dX12_guard_26 (by decide) (fun c_21 => ?_) (fun c_21 => ?_)
      · skip
        refine lv_iconst (v := (-1)) hx hb dX12_guard_31 (by decide) ?_
        refine lv_istore_n (lv' := [(3, .int (-1)), (0, .ref (Ma 0)), (1, .int x1), (2, .int x2)]) hx hb dX12_guard_32 rfl hl (by decide) rfl (fun ls hl₀ => ?_)
        replace hl := hl₀
        clear hl₀
        refine lv_aload_n hx hb dX12_guard_33 rfl (lv_at hl 1 rfl) ?_
        refine cV (a := (Ma 0)) (As := []) (rest := []) (wr := [((Ma 2), .inl (tc 0, 2400, .inl (Mf 2))), ((Ma 4), .inl (tc 0, 288, .inl (Mf 4))), ((Ma 5), .inl (tc 0, 6, .inl (Mf 5))), ((Ma 8), .inl (tc 1, 64, .inr (.inl (Mg 8)))), ((Ma 9), .inl (tc 1, 13, .inr (.inl (Mg 9))))]) ⟨hx, hb, hml, hown, hts⟩ hK hX hA (cu_X12_keeps l D tc sk (Ma 0) (Ma 1) (Ma 2) (Ma 3) (Ma 4) (Ma 5) (Ma 6) (Ma 7) (Ma 8) (Ma 9) (Ma 10) (Ma 11) (Ma 12) (Ma 13) (Ma 14) (Ma 15) (Ma 16) (Ma 17) (Ma 18) (Ma 19) (Ma 20) (Mv 0) (Mv 1) (Mv 2) (Mv 3) (Mv 4) (Mv 5) (Mv 6) (Mv 7) (Mv 8) (Mv 9) (Mv 10) (Mv 11) (Mv 12) (Mv 13) (Mv 14) (Mf 10) (Mf 12) (Mj 0) h_said) k_1505 k_1502 k_1504 k_80 k_106 pl_X12_keeps ⟨Nat.le_of_ble_eq_true rfl, Nat.le_of_ble_eq_true rfl⟩ rfl rfl (va_recv hK hP (ci := 12) (q0 := 6) rfl rfl) hP hD hS [6, 7, 5] [0, 1, 2, 3, 4] rfl rfl rfl rfl rfl (by decide) rfl hl.1 rfl (Nat.le_of_ble_eq_true rfl) dX12_guard_34 ⟨Nat.le_of_ble_eq_true rfl, Nat.le_of_ble_eq_true rfl⟩ (fun v_22 u_23 H locs hv_24 hP₀ hD₀ hS₀ => ?_)
        obtain ⟨sv_25, rfl⟩ : ∃ z, z = u_23 := ⟨_, rfl⟩
        obtain ⟨rfl, pf_26⟩ := hv_24
        have pf_26 : KeptD sv_25 := pf_26
        refine W.eq (g2 := F0 m 37 ls []) rfl ?_
        replace hP : va_P D classes [((Ma 2), .inl (tc 0, 2400, .inl (Mf 2))), ((Ma 4), .inl (tc 0, 288, .inl (Mf 4))), ((Ma 5), .inl (tc 0, 6, .inl (Mf 5))), ((Ma 8), .inl (tc 1, 64, .inr (.inl (Mg 8)))), ((Ma 9), .inl (tc 1, 13, .inr (.inl (Mg 9)))), ((Ma 0), .inr (12, [.ref (Ma 1), .int (Mv 0), .int (Mv 1), .ref (Ma 2), .ref (Ma 3), .ref (Ma 4), .ref (Ma 5), .ref (Ma 6), .int (Mv 2), .int (Mv 3), .int (Mv 4), .int (Mv 5), .int (Mv 6), .int (Mv 7), .int (Mv 8), .ref (Ma 7), .int (Mv 9), .ref (Ma 8), .int (Mv 10), .ref (Ma 9), .ref (Ma 10), .int (Mv 11), .int (Mv 12), .int (Mv 13), .ref (Ma 11), .int (Mv 14), .ref (Ma 12), .ref (Ma 13), .ref (Ma 14), .ref (Ma 15), .ref (Ma 16), .long (Mj 0), .ref (Ma 17), .ref (Ma 18), .ref (Ma 19), .ref (Ma 20)])), ((Ma 10), .inl (tc 0, 126, .inl (Mf 10))), ((Ma 12), .inl (tc 0, 46, .inl sv_25))] H := hP₀
        replace hD : va_D A [((Ma 2), .inl (tc 0, 2400, .inl (Mf 2))), ((Ma 4), .inl (tc 0, 288, .inl (Mf 4))), ((Ma 5), .inl (tc 0, 6, .inl (Mf 5))), ((Ma 8), .inl (tc 1, 64, .inr (.inl (Mg 8)))), ((Ma 9), .inl (tc 1, 13, .inr (.inl (Mg 9)))), ((Ma 0), .inr (12, [.ref (Ma 1), .int (Mv 0), .int (Mv 1), .ref (Ma 2), .ref (Ma 3), .ref (Ma 4), .ref (Ma 5), .ref (Ma 6), .int (Mv 2), .int (Mv 3), .int (Mv 4), .int (Mv 5), .int (Mv 6), .int (Mv 7), .int (Mv 8), .ref (Ma 7), .int (Mv 9), .ref (Ma 8), .int (Mv 10), .ref (Ma 9), .ref (Ma 10), .int (Mv 11), .int (Mv 12), .int (Mv 13), .ref (Ma 11), .int (Mv 14), .ref (Ma 12), .ref (Ma 13), .ref (Ma 14), .ref (Ma 15), .ref (Ma 16), .long (Mj 0), .ref (Ma 17), .ref (Ma 18), .ref (Ma 19), .ref (Ma 20)])), ((Ma 10), .inl (tc 0, 126, .inl (Mf 10))), ((Ma 12), .inl (tc 0, 46, .inl sv_25))] := hD₀
        replace hS := hS₀
        clear hP₀ hD₀ hS₀
        refine lv_iconst (v := 0) hx hb dX12_guard_37 (by decide) ?_
        refine lv_istore (lv' := [(4, .int 0), (3, .int (-1)), (0, .ref (Ma 0)), (1, .int x1), (2, .int x2)]) hx hb dX12_guard_38 hl (by decide) rfl (fun ls hl₀ => ?_)
        replace hl := hl₀
        clear hl₀
        have loop_43 : ∀ (n_41 : Nat) (vy_34 : Int32) (vy_35 : Nat → Int64) (vy_36 : Nat → Int64) (vy_37 : Int32) (vy_38 : Int32) (vy_39 : Nat → Int32) (vy_40 : Int32) (H : Heap) (locs : List Loc) (ls : Array Slot), (2147483647 - (vy_34 : Int32).toInt).toNat < n_41 → (0 ≤ (vy_34 : Int32).toInt) → (SaidD T vy_39 999) → va_P D classes [((Ma 2), .inl (tc 0, 2400, .inl (Mf 2))), ((Ma 4), .inl (tc 0, 288, .inl (Mf 4))), ((Ma 5), .inl (tc 0, 6, .inl (Mf 5))), ((Ma 8), .inl (tc 1, 64, .inr (.inl vy_35))), ((Ma 9), .inl (tc 1, 13, .inr (.inl vy_36))), ((Ma 0), .inr (12, [.ref (Ma 1), .int (Mv 0), .int (Mv 1), .ref (Ma 2), .ref (Ma 3), .ref (Ma 4), .ref (Ma 5), .ref (Ma 6), .int (Mv 2), .int (Mv 3), .int (Mv 4), .int (Mv 5), .int (Mv 6), .int (Mv 7), .int (Mv 8), .ref (Ma 7), .int (Mv 9), .ref (Ma 8), .int vy_37, .ref (Ma 9), .ref (Ma 10), .int (Mv 11), .int (Mv 12), .int vy_38, .ref (Ma 11), .int (Mv 14), .ref (Ma 12), .ref (Ma 13), .ref (Ma 14), .ref (Ma 15), .ref (Ma 16), .long (Mj 0), .ref (Ma 17), .ref (Ma 18), .ref (Ma 19), .ref (Ma 20)])), ((Ma 10), .inl (tc 0, 126, .inl vy_39)), ((Ma 12), .inl (tc 0, 46, .inl sv_25))] H → va_D A [((Ma 2), .inl (tc 0, 2400, .inl (Mf 2))), ((Ma 4), .inl (tc 0, 288, .inl (Mf 4))), ((Ma 5), .inl (tc 0, 6, .inl (Mf 5))), ((Ma 8), .inl (tc 1, 64, .inr (.inl vy_35))), ((Ma 9), .inl (tc 1, 13, .inr (.inl vy_36))), ((Ma 0), .inr (12, [.ref (Ma 1), .int (Mv 0), .int (Mv 1), .ref (Ma 2), .ref (Ma 3), .ref (Ma 4), .ref (Ma 5), .ref (Ma 6), .int (Mv 2), .int (Mv 3), .int (Mv 4), .int (Mv 5), .int (Mv 6), .int (Mv 7), .int (Mv 8), .ref (Ma 7), .int (Mv 9), .ref (Ma 8), .int vy_37, .ref (Ma 9), .ref (Ma 10), .int (Mv 11), .int (Mv 12), .int vy_38, .ref (Ma 11), .int (Mv 14), .ref (Ma 12), .ref (Ma 13), .ref (Ma 14), .ref (Ma 15), .ref (Ma 16), .long (Mj 0), .ref (Ma 17), .ref (Ma 18), .ref (Ma 19), .ref (Ma 20)])), ((Ma 10), .inl (tc 0, 126, .inl vy_39)), ((Ma 12), .inl (tc 0, 46, .inl sv_25))] → va_S A s.heap H locs → lv_has ls 5 [(4, .int vy_34), (3, .int vy_40), (0, .ref (Ma 0)), (1, .int x1), (2, .int x2)] → W p l e ({ frames := 7, cells := 0, slots := 0, locals := 166 }) s m ([.ref (Ma 0), .int x1, .int x2].toArray) below meth c H locs 0 0 (MQ below (QW (fun (v : Option Value) (u : (Int32) × (Int32) × (Nat → Int64) × (Nat → Int64) × (Nat → Int32) × (Nat → Int32)) => match u with | (oo0x1, oo0x2, oo0x3, oo0x4, oo0x5, oo0x6) => ∃ r : Int32, v = some (.int r) ∧ (True) ∧ (SaidD T oo0x5 999) ∧ (GdZ oo0x2)) (BW D (fun (u : (Int32) × (Int32) × (Nat → Int64) × (Nat → Int64) × (Nat → Int32) × (Nat → Int32)) => match u with | (oo0x1, oo0x2, oo0x3, oo0x4, oo0x5, oo0x6) => [((Ma 0), .inr (12, [.ref (Ma 1), .int (Mv 0), .int (Mv 1), .ref (Ma 2), .ref (Ma 3), .ref (Ma 4), .ref (Ma 5), .ref (Ma 6), .int (Mv 2), .int (Mv 3), .int (Mv 4), .int (Mv 5), .int (Mv 6), .int (Mv 7), .int (Mv 8), .ref (Ma 7), .int (Mv 9), .ref (Ma 8), .int oo0x1, .ref (Ma 9), .ref (Ma 10), .int (Mv 11), .int (Mv 12), .int oo0x2, .ref (Ma 11), .int (Mv 14), .ref (Ma 12), .ref (Ma 13), .ref (Ma 14), .ref (Ma 15), .ref (Ma 16), .long (Mj 0), .ref (Ma 17), .ref (Ma 18), .ref (Ma 19), .ref (Ma 20)])), ((Ma 2), .inl (tc 0, 2400, .inl (Mf 2))), ((Ma 4), .inl (tc 0, 288, .inl (Mf 4))), ((Ma 5), .inl (tc 0, 6, .inl (Mf 5))), ((Ma 8), .inl (tc 1, 64, .inr (.inl oo0x3))), ((Ma 9), .inl (tc 1, 13, .inr (.inl oo0x4))), ((Ma 10), .inl (tc 0, 126, .inl oo0x5)), ((Ma 12), .inl (tc 0, 46, .inl oo0x6))]) A) A) ([.ref (Ma 0), .int x1, .int x2].toArray) s 0 0 A) (F0 m 40 ls []) := by
          clear hP hD hS hl
          intro n_41
          induction n_41 with
          | zero =>
            intro vy_34 vy_35 vy_36 vy_37 vy_38 vy_39 vy_40 H locs ls h1
            exact absurd h1 (Nat.not_lt_zero _)
          | succ n_41 ih_42 =>
            intro vy_34 vy_35 vy_36 vy_37 vy_38 vy_39 vy_40 H locs ls hn_46 pf_44 pf_45 hP hD hS hl
            have ar_pf_45 := SaidD.al pf_45
            refine lv_iload hx hb dX12_guard_40 (lv_at hl 0 rfl) ?_
            refine lv_iconst (v := 1) hx hb dX12_guard_42 (by decide) ?_
            refine lv_aload_n hx hb dX12_guard_43 rfl (lv_at hl 2 rfl) ?_
            refine gf_X12_39 hx hb hts hown hK hP 5 rfl rfl dX12_guard_44 ?_
            refine lv_iconst (v := 2) hx hb dX12_guard_47 (by decide) ?_
            refine va_iald hx hb hK hP 6 0 rfl rfl (vin_dec (by decide +kernel)) dX12_guard_48 ?_
            refine lv_topi (fun x_47 ex_47 => ?_)
            have lx_47 : x_47.toInt = (vy_39 2).toInt := congrArg Int32.toInt ex_47
            refine lv_ishl hx hb dX12_guard_49 ?_
            refine lv_topi (fun x_48 ex_48 => ?_)
            refine lv_icmp_ge (tgt := 95) hx hb dX12_guard_50 (by decide) (fun c_49 => ?_) (fun c_49 => ?_)
            · skip
              refine lv_aload_n hx hb dX12_guard_95 rfl (lv_at hl 2 rfl) ?_
              refine lv_iconst (v := 0) hx hb dX12_guard_96 (by decide) ?_
              refine pf_X12_324 hx hb hts hown hK hP hD hS 5 rfl (Nat.le_of_ble_eq_true rfl) rfl rfl dX12_guard_97 (fun H locs hP₀ hD₀ hS₀ => ?_)
              replace hP : va_P D classes [((Ma 2), .inl (tc 0, 2400, .inl (Mf 2))), ((Ma 4), .inl (tc 0, 288, .inl (Mf 4))), ((Ma 5), .inl (tc 0, 6, .inl (Mf 5))), ((Ma 8), .inl (tc 1, 64, .inr (.inl vy_35))), ((Ma 9), .inl (tc 1, 13, .inr (.inl vy_36))), ((Ma 0), .inr (12, [.ref (Ma 1), .int (Mv 0), .int (Mv 1), .ref (Ma 2), .ref (Ma 3), .ref (Ma 4), .ref (Ma 5), .ref (Ma 6), .int (Mv 2), .int (Mv 3), .int (Mv 4), .int (Mv 5), .int (Mv 6), .int (Mv 7), .int (Mv 8), .ref (Ma 7), .int (Mv 9), .ref (Ma 8), .int vy_37, .ref (Ma 9), .ref (Ma 10), .int (Mv 11), .int (Mv 12), .int 0, .ref (Ma 11), .int (Mv 14), .ref (Ma 12), .ref (Ma 13), .ref (Ma 14), .ref (Ma 15), .ref (Ma 16), .long (Mj 0), .ref (Ma 17), .ref (Ma 18), .ref (Ma 19), .ref (Ma 20)])), ((Ma 10), .inl (tc 0, 126, .inl vy_39)), ((Ma 12), .inl (tc 0, 46, .inl sv_25))] H := hP₀
              replace hD : va_D A [((Ma 2), .inl (tc 0, 2400, .inl (Mf 2))), ((Ma 4), .inl (tc 0, 288, .inl (Mf 4))), ((Ma 5), .inl (tc 0, 6, .inl (Mf 5))), ((Ma 8), .inl (tc 1, 64, .inr (.inl vy_35))), ((Ma 9), .inl (tc 1, 13, .inr (.inl vy_36))), ((Ma 0), .inr (12, [.ref (Ma 1), .int (Mv 0), .int (Mv 1), .ref (Ma 2), .ref (Ma 3), .ref (Ma 4), .ref (Ma 5), .ref (Ma 6), .int (Mv 2), .int (Mv 3), .int (Mv 4), .int (Mv 5), .int (Mv 6), .int (Mv 7), .int (Mv 8), .ref (Ma 7), .int (Mv 9), .ref (Ma 8), .int vy_37, .ref (Ma 9), .ref (Ma 10), .int (Mv 11), .int (Mv 12), .int 0, .ref (Ma 11), .int (Mv 14), .ref (Ma 12), .ref (Ma 13), .ref (Ma 14), .ref (Ma 15), .ref (Ma 16), .long (Mj 0), .ref (Ma 17), .ref (Ma 18), .ref (Ma 19), .ref (Ma 20)])), ((Ma 10), .inl (tc 0, 126, .inl vy_39)), ((Ma 12), .inl (tc 0, 46, .inl sv_25))] := hD₀
              replace hS := hS₀
              clear hP₀ hD₀ hS₀
              refine lv_iload_n hx hb dX12_guard_100 rfl (lv_at hl 4 rfl) ?_
              refine lv_if_ne (tgt := 111) hx hb dX12_guard_101 (by decide) (fun c_50 => ?_) (fun c_50 => ?_)
              · skip
                refine lv_iload_n hx hb dX12_guard_111 rfl (lv_at hl 1 rfl) ?_
                exact retI (v := vy_40) hx hb hr hlk (rfl) hP hD hS (vy_37, 0, vy_35, vy_36, vy_39, sv_25) ⟨_, rfl, trivial, pf_45, (rfl)⟩ [5, 0, 1, 2, 3, 4, 6, 7] rfl rfl dX12_guard_112 (Nat.le_of_ble_eq_true rfl) (Nat.le_of_ble_eq_true rfl) rfl
              · skip
                refine lv_iload_n hx hb dX12_guard_104 rfl (lv_at hl 1 rfl) ?_
                refine cS (As := [.int vy_40]) (rest := []) (wr := [((Ma 2), .inl (tc 0, 2400, .inl (Mf 2))), ((Ma 4), .inl (tc 0, 288, .inl (Mf 4))), ((Ma 5), .inl (tc 0, 6, .inl (Mf 5))), ((Ma 8), .inl (tc 1, 64, .inr (.inl vy_35))), ((Ma 9), .inl (tc 1, 13, .inr (.inl vy_36))), ((Ma 0), .inr (12, [.ref (Ma 1), .int (Mv 0), .int (Mv 1), .ref (Ma 2), .ref (Ma 3), .ref (Ma 4), .ref (Ma 5), .ref (Ma 6), .int (Mv 2), .int (Mv 3), .int (Mv 4), .int (Mv 5), .int (Mv 6), .int (Mv 7), .int (Mv 8), .ref (Ma 7), .int (Mv 9), .ref (Ma 8), .int vy_37, .ref (Ma 9), .ref (Ma 10), .int (Mv 11), .int (Mv 12), .int 0, .ref (Ma 11), .int (Mv 14), .ref (Ma 12), .ref (Ma 13), .ref (Ma 14), .ref (Ma 15), .ref (Ma 16), .long (Mj 0), .ref (Ma 17), .ref (Ma 18), .ref (Ma 19), .ref (Ma 20)])), ((Ma 10), .inl (tc 0, 126, .inl vy_39)), ((Ma 12), .inl (tc 0, 46, .inl sv_25))]) ⟨hx, hb, hml, hown, hts⟩ hK hX hA (ct_X12_bits l D tc sk vy_40) k_1532 k_1530 k_1531 k_106 pl_X12_bits ⟨Nat.le_of_ble_eq_true rfl, Nat.le_of_ble_eq_true rfl⟩ rfl rfl  hP hD hS [] [0, 1, 2, 3, 4, 5, 6, 7] rfl rfl rfl rfl rfl (by decide) rfl hl.1 rfl (Nat.le_of_ble_eq_true rfl) dX12_guard_105 ⟨Nat.le_of_ble_eq_true rfl, Nat.le_of_ble_eq_true rfl⟩ (fun v_51 u_52 H locs hv_53 hP₀ hD₀ hS₀ => ?_)
                obtain ⟨r_54, rfl, he_55⟩ := hv_53
                refine W.eq (g2 := F0 m 108 ls [.int r_54]) rfl ?_
                replace hP : va_P D classes [((Ma 2), .inl (tc 0, 2400, .inl (Mf 2))), ((Ma 4), .inl (tc 0, 288, .inl (Mf 4))), ((Ma 5), .inl (tc 0, 6, .inl (Mf 5))), ((Ma 8), .inl (tc 1, 64, .inr (.inl vy_35))), ((Ma 9), .inl (tc 1, 13, .inr (.inl vy_36))), ((Ma 0), .inr (12, [.ref (Ma 1), .int (Mv 0), .int (Mv 1), .ref (Ma 2), .ref (Ma 3), .ref (Ma 4), .ref (Ma 5), .ref (Ma 6), .int (Mv 2), .int (Mv 3), .int (Mv 4), .int (Mv 5), .int (Mv 6), .int (Mv 7), .int (Mv 8), .ref (Ma 7), .int (Mv 9), .ref (Ma 8), .int vy_37, .ref (Ma 9), .ref (Ma 10), .int (Mv 11), .int (Mv 12), .int 0, .ref (Ma 11), .int (Mv 14), .ref (Ma 12), .ref (Ma 13), .ref (Ma 14), .ref (Ma 15), .ref (Ma 16), .long (Mj 0), .ref (Ma 17), .ref (Ma 18), .ref (Ma 19), .ref (Ma 20)])), ((Ma 10), .inl (tc 0, 126, .inl vy_39)), ((Ma 12), .inl (tc 0, 46, .inl sv_25))] H := hP₀
                replace hD : va_D A [((Ma 2), .inl (tc 0, 2400, .inl (Mf 2))), ((Ma 4), .inl (tc 0, 288, .inl (Mf 4))), ((Ma 5), .inl (tc 0, 6, .inl (Mf 5))), ((Ma 8), .inl (tc 1, 64, .inr (.inl vy_35))), ((Ma 9), .inl (tc 1, 13, .inr (.inl vy_36))), ((Ma 0), .inr (12, [.ref (Ma 1), .int (Mv 0), .int (Mv 1), .ref (Ma 2), .ref (Ma 3), .ref (Ma 4), .ref (Ma 5), .ref (Ma 6), .int (Mv 2), .int (Mv 3), .int (Mv 4), .int (Mv 5), .int (Mv 6), .int (Mv 7), .int (Mv 8), .ref (Ma 7), .int (Mv 9), .ref (Ma 8), .int vy_37, .ref (Ma 9), .ref (Ma 10), .int (Mv 11), .int (Mv 12), .int 0, .ref (Ma 11), .int (Mv 14), .ref (Ma 12), .ref (Ma 13), .ref (Ma 14), .ref (Ma 15), .ref (Ma 16), .long (Mj 0), .ref (Ma 17), .ref (Ma 18), .ref (Ma 19), .ref (Ma 20)])), ((Ma 10), .inl (tc 0, 126, .inl vy_39)), ((Ma 12), .inl (tc 0, 46, .inl sv_25))] := hD₀
                replace hS := hS₀
                clear hP₀ hD₀ hS₀
                refine lv_goto (tgt := 112) hx hb dX12_guard_108 (by decide) ?_
                exact retI (v := r_54) hx hb hr hlk (rfl) hP hD hS (vy_37, 0, vy_35, vy_36, vy_39, sv_25) ⟨_, rfl, trivial, pf_45, (rfl)⟩ [5, 0, 1, 2, 3, 4, 6, 7] rfl rfl dX12_guard_112 (Nat.le_of_ble_eq_true rfl) (Nat.le_of_ble_eq_true rfl) rfl
            · skip
              have hm_k_57 := i32_le (vy_34 : Int32)
              have hm_k_58 := i32_le (x_48 : Int32)
              refine lv_iload_n hx hb dX12_guard_53 rfl (lv_at hl 1 rfl) ?_
              refine lv_if_lt (tgt := 72) hx hb dX12_guard_54 (by decide) (fun c_59 => ?_) (fun c_59 => ?_)
              · skip
                refine lv_aload_n hx hb dX12_guard_72 rfl (lv_at hl 2 rfl) ?_
                refine lv_iload hx hb dX12_guard_73 (lv_at hl 0 rfl) ?_
                refine pf_X12_324 hx hb hts hown hK hP hD hS 5 rfl (Nat.le_of_ble_eq_true rfl) rfl rfl dX12_guard_75 (fun H locs hP₀ hD₀ hS₀ => ?_)
                replace hP : va_P D classes [((Ma 2), .inl (tc 0, 2400, .inl (Mf 2))), ((Ma 4), .inl (tc 0, 288, .inl (Mf 4))), ((Ma 5), .inl (tc 0, 6, .inl (Mf 5))), ((Ma 8), .inl (tc 1, 64, .inr (.inl vy_35))), ((Ma 9), .inl (tc 1, 13, .inr (.inl vy_36))), ((Ma 0), .inr (12, [.ref (Ma 1), .int (Mv 0), .int (Mv 1), .ref (Ma 2), .ref (Ma 3), .ref (Ma 4), .ref (Ma 5), .ref (Ma 6), .int (Mv 2), .int (Mv 3), .int (Mv 4), .int (Mv 5), .int (Mv 6), .int (Mv 7), .int (Mv 8), .ref (Ma 7), .int (Mv 9), .ref (Ma 8), .int vy_37, .ref (Ma 9), .ref (Ma 10), .int (Mv 11), .int (Mv 12), .int vy_34, .ref (Ma 11), .int (Mv 14), .ref (Ma 12), .ref (Ma 13), .ref (Ma 14), .ref (Ma 15), .ref (Ma 16), .long (Mj 0), .ref (Ma 17), .ref (Ma 18), .ref (Ma 19), .ref (Ma 20)])), ((Ma 10), .inl (tc 0, 126, .inl vy_39)), ((Ma 12), .inl (tc 0, 46, .inl sv_25))] H := hP₀
                replace hD : va_D A [((Ma 2), .inl (tc 0, 2400, .inl (Mf 2))), ((Ma 4), .inl (tc 0, 288, .inl (Mf 4))), ((Ma 5), .inl (tc 0, 6, .inl (Mf 5))), ((Ma 8), .inl (tc 1, 64, .inr (.inl vy_35))), ((Ma 9), .inl (tc 1, 13, .inr (.inl vy_36))), ((Ma 0), .inr (12, [.ref (Ma 1), .int (Mv 0), .int (Mv 1), .ref (Ma 2), .ref (Ma 3), .ref (Ma 4), .ref (Ma 5), .ref (Ma 6), .int (Mv 2), .int (Mv 3), .int (Mv 4), .int (Mv 5), .int (Mv 6), .int (Mv 7), .int (Mv 8), .ref (Ma 7), .int (Mv 9), .ref (Ma 8), .int vy_37, .ref (Ma 9), .ref (Ma 10), .int (Mv 11), .int (Mv 12), .int vy_34, .ref (Ma 11), .int (Mv 14), .ref (Ma 12), .ref (Ma 13), .ref (Ma 14), .ref (Ma 15), .ref (Ma 16), .long (Mj 0), .ref (Ma 17), .ref (Ma 18), .ref (Ma 19), .ref (Ma 20)])), ((Ma 10), .inl (tc 0, 126, .inl vy_39)), ((Ma 12), .inl (tc 0, 46, .inl sv_25))] := hD₀
                replace hS := hS₀
                clear hP₀ hD₀ hS₀
                refine lv_aload_n hx hb dX12_guard_78 rfl (lv_at hl 2 rfl) ?_
                refine lv_iload_n hx hb dX12_guard_79 rfl (lv_at hl 3 rfl) ?_
                have ha_60 : 0 ≤ x1.toInt ∧ x1.toInt ≤ 1000 := by
                  have z_1 : ¬ (r_4 : Int32).toInt = (0 : Int32).toInt := fun z => c_7 (Int32.toInt_inj.mp z)
                  have z_2 : ¬ (r_11 : Int32).toInt = (0 : Int32).toInt := fun z => c_14 (Int32.toInt_inj.mp z)
                  have z_3 : ¬ (r_18 : Int32).toInt = (0 : Int32).toInt := fun z => c_21 (Int32.toInt_inj.mp z)
                  have z_4 := Int32.lt_iff_toInt_lt.mp (Int32.not_le.mp c_49)
                  have z_5 := Int32.lt_iff_toInt_lt.mp c_59
                  have y_0 : (0 : Int32).toInt = 0 := by decide
                  refine ⟨?_, ?_⟩ <;> omega
                refine cV (a := (Ma 0)) (As := [.int x1]) (rest := []) (wr := []) ⟨hx, hb, hml, hown, hts⟩ hK hX hA (cu_X12_soldIn l D tc sk (Ma 0) (Ma 1) (Ma 2) (Ma 3) (Ma 4) (Ma 5) (Ma 6) (Ma 7) (Ma 8) (Ma 9) (Ma 10) (Ma 11) (Ma 12) (Ma 13) (Ma 14) (Ma 15) (Ma 16) (Ma 17) (Ma 18) (Ma 19) (Ma 20) (Mv 0) (Mv 1) (Mv 2) (Mv 3) (Mv 4) (Mv 5) (Mv 6) (Mv 7) (Mv 8) (Mv 9) vy_37 (Mv 11) (Mv 12) vy_34 (Mv 14) (Mf 2) (Mf 4) (Mf 5) vy_39 sv_25 (Mj 0) vy_35 vy_36 x1 pf_45 pf_26 h_rul h_frc ha_60) k_1544 k_1541 k_1543 k_84 k_106 pl_X12_soldIn ⟨Nat.le_of_ble_eq_true rfl, Nat.le_of_ble_eq_true rfl⟩ rfl rfl (va_recv hK hP (ci := 12) (q0 := 5) rfl rfl) hP hD hS [5, 0, 1, 2, 3, 4, 6, 7] [] rfl rfl rfl rfl rfl (by decide) rfl hl.1 rfl (Nat.le_of_ble_eq_true rfl) dX12_guard_80 ⟨Nat.le_of_ble_eq_true rfl, Nat.le_of_ble_eq_true rfl⟩ (fun v_61 u_62 H locs hv_63 hP₀ hD₀ hS₀ => ?_)
                obtain ⟨sv_64, sv_65, sv_66, sv_67⟩ := u_62
                obtain ⟨r_69, rfl, he_70, pf_68⟩ := hv_63
                have pf_68 : SaidD T sv_67 999 := pf_68
                have ar_pf_68 := SaidD.al pf_68
                refine W.eq (g2 := F0 m 83 ls [.int r_69]) rfl ?_
                replace hP : va_P D classes [((Ma 0), .inr (12, [.ref (Ma 1), .int (Mv 0), .int (Mv 1), .ref (Ma 2), .ref (Ma 3), .ref (Ma 4), .ref (Ma 5), .ref (Ma 6), .int (Mv 2), .int (Mv 3), .int (Mv 4), .int (Mv 5), .int (Mv 6), .int (Mv 7), .int (Mv 8), .ref (Ma 7), .int (Mv 9), .ref (Ma 8), .int sv_64, .ref (Ma 9), .ref (Ma 10), .int (Mv 11), .int (Mv 12), .int vy_34, .ref (Ma 11), .int (Mv 14), .ref (Ma 12), .ref (Ma 13), .ref (Ma 14), .ref (Ma 15), .ref (Ma 16), .long (Mj 0), .ref (Ma 17), .ref (Ma 18), .ref (Ma 19), .ref (Ma 20)])), ((Ma 2), .inl (tc 0, 2400, .inl (Mf 2))), ((Ma 4), .inl (tc 0, 288, .inl (Mf 4))), ((Ma 5), .inl (tc 0, 6, .inl (Mf 5))), ((Ma 8), .inl (tc 1, 64, .inr (.inl sv_65))), ((Ma 9), .inl (tc 1, 13, .inr (.inl sv_66))), ((Ma 10), .inl (tc 0, 126, .inl sv_67)), ((Ma 12), .inl (tc 0, 46, .inl sv_25))] H := hP₀
                replace hD : va_D A [((Ma 0), .inr (12, [.ref (Ma 1), .int (Mv 0), .int (Mv 1), .ref (Ma 2), .ref (Ma 3), .ref (Ma 4), .ref (Ma 5), .ref (Ma 6), .int (Mv 2), .int (Mv 3), .int (Mv 4), .int (Mv 5), .int (Mv 6), .int (Mv 7), .int (Mv 8), .ref (Ma 7), .int (Mv 9), .ref (Ma 8), .int sv_64, .ref (Ma 9), .ref (Ma 10), .int (Mv 11), .int (Mv 12), .int vy_34, .ref (Ma 11), .int (Mv 14), .ref (Ma 12), .ref (Ma 13), .ref (Ma 14), .ref (Ma 15), .ref (Ma 16), .long (Mj 0), .ref (Ma 17), .ref (Ma 18), .ref (Ma 19), .ref (Ma 20)])), ((Ma 2), .inl (tc 0, 2400, .inl (Mf 2))), ((Ma 4), .inl (tc 0, 288, .inl (Mf 4))), ((Ma 5), .inl (tc 0, 6, .inl (Mf 5))), ((Ma 8), .inl (tc 1, 64, .inr (.inl sv_65))), ((Ma 9), .inl (tc 1, 13, .inr (.inl sv_66))), ((Ma 10), .inl (tc 0, 126, .inl sv_67)), ((Ma 12), .inl (tc 0, 46, .inl sv_25))] := hD₀
                replace hS := hS₀
                clear hP₀ hD₀ hS₀
                refine lv_if_ne (tgt := 89) hx hb dX12_guard_83 (by decide) (fun c_72 => ?_) (fun c_72 => ?_)
                · skip
                  obtain ⟨x_73, ex_73⟩ : ∃ y : Int32, y = vy_34 + 1 := ⟨_, rfl⟩
                  refine lv_iinc (v := x_73) (lv' := [(4, .int x_73), (3, .int vy_40), (0, .ref (Ma 0)), (1, .int x1), (2, .int x2)]) hx hb dX12_guard_89 hl (k := 0) rfl (by rw [ex_73]; rfl) (by decide) rfl (fun ls hl₀ => ?_)
                  replace hl := hl₀
                  clear hl₀
                  refine lv_goto (tgt := 40) hx hb dX12_guard_92 (by decide) ?_
                  have hb_74 : 2147483647 - (x_73 : Int32).toInt < 2147483647 - (vy_34 : Int32).toInt ∧ 1 ≤ 2147483647 - (vy_34 : Int32).toInt := by
                    have z_1 : ¬ (r_4 : Int32).toInt = (0 : Int32).toInt := fun z => c_7 (Int32.toInt_inj.mp z)
                    have z_2 : ¬ (r_11 : Int32).toInt = (0 : Int32).toInt := fun z => c_14 (Int32.toInt_inj.mp z)
                    have z_3 : ¬ (r_18 : Int32).toInt = (0 : Int32).toInt := fun z => c_21 (Int32.toInt_inj.mp z)
                    have z_4 := Int32.lt_iff_toInt_lt.mp (Int32.not_le.mp c_49)
                    have z_5 := Int32.lt_iff_toInt_lt.mp c_59
                    have z_6 : ¬ (r_69 : Int32).toInt = (0 : Int32).toInt := fun z => c_72 (Int32.toInt_inj.mp z)
                    have y_0 : (0 : Int32).toInt = 0 := by decide
                    have y_1 : (1 : Int32).toInt = 1 := by decide
                    have t_x_73 : x_73.toInt = (vy_34 : Int32).toInt + (1 : Int32).toInt := by rw [ex_73]; exact add_toInt (by omega) (by omega)
                    refine ⟨?_, ?_⟩ <;> omega
                  have ha_75 : 0 ≤ (x_73 : Int32).toInt := by
                    have z_1 : ¬ (r_4 : Int32).toInt = (0 : Int32).toInt := fun z => c_7 (Int32.toInt_inj.mp z)
                    have z_2 : ¬ (r_11 : Int32).toInt = (0 : Int32).toInt := fun z => c_14 (Int32.toInt_inj.mp z)
                    have z_3 : ¬ (r_18 : Int32).toInt = (0 : Int32).toInt := fun z => c_21 (Int32.toInt_inj.mp z)
                    have z_4 := Int32.lt_iff_toInt_lt.mp (Int32.not_le.mp c_49)
                    have z_5 := Int32.lt_iff_toInt_lt.mp c_59
                    have z_6 : ¬ (r_69 : Int32).toInt = (0 : Int32).toInt := fun z => c_72 (Int32.toInt_inj.mp z)
                    have y_0 : (0 : Int32).toInt = 0 := by decide
                    have y_1 : (1 : Int32).toInt = 1 := by decide
                    have t_x_73 : x_73.toInt = (vy_34 : Int32).toInt + (1 : Int32).toInt := by rw [ex_73]; exact add_toInt (by omega) (by omega)
                    omega
                  exact ih_42 x_73 sv_65 sv_66 sv_64 vy_34 sv_67 vy_40 _ _ _ (by omega) ha_75 pf_68 (hP.sub [1, 2, 3, 4, 5, 0, 6, 7] rfl) (hD.sub [1, 2, 3, 4, 5, 0, 6, 7] rfl rfl) hS (lv_sub hl [0, 1, 2, 3, 4] rfl)
                · skip
                  refine lv_iload hx hb dX12_guard_86 (lv_at hl 0 rfl) ?_
                  refine lv_istore_n (lv' := [(3, .int vy_34), (4, .int vy_34), (0, .ref (Ma 0)), (1, .int x1), (2, .int x2)]) hx hb dX12_guard_88 rfl hl (by decide) rfl (fun ls hl₀ => ?_)
                  replace hl := hl₀
                  clear hl₀
                  obtain ⟨x_76, ex_76⟩ : ∃ y : Int32, y = vy_34 + 1 := ⟨_, rfl⟩
                  refine lv_iinc (v := x_76) (lv' := [(4, .int x_76), (3, .int vy_34), (0, .ref (Ma 0)), (1, .int x1), (2, .int x2)]) hx hb dX12_guard_89 hl (k := 1) rfl (by rw [ex_76]; rfl) (by decide) rfl (fun ls hl₀ => ?_)
                  replace hl := hl₀
                  clear hl₀
                  refine lv_goto (tgt := 40) hx hb dX12_guard_92 (by decide) ?_
                  have hb_77 : 2147483647 - (x_76 : Int32).toInt < 2147483647 - (vy_34 : Int32).toInt ∧ 1 ≤ 2147483647 - (vy_34 : Int32).toInt := by
                    have z_1 : ¬ (r_4 : Int32).toInt = (0 : Int32).toInt := fun z => c_7 (Int32.toInt_inj.mp z)
                    have z_2 : ¬ (r_11 : Int32).toInt = (0 : Int32).toInt := fun z => c_14 (Int32.toInt_inj.mp z)
                    have z_3 : ¬ (r_18 : Int32).toInt = (0 : Int32).toInt := fun z => c_21 (Int32.toInt_inj.mp z)
                    have z_4 := Int32.lt_iff_toInt_lt.mp (Int32.not_le.mp c_49)
                    have z_5 := Int32.lt_iff_toInt_lt.mp c_59
                    have z_6 := congrArg Int32.toInt c_72
                    have y_0 : (0 : Int32).toInt = 0 := by decide
                    have y_1 : (1 : Int32).toInt = 1 := by decide
                    have t_x_76 : x_76.toInt = (vy_34 : Int32).toInt + (1 : Int32).toInt := by rw [ex_76]; exact add_toInt (by omega) (by omega)
                    refine ⟨?_, ?_⟩ <;> omega
                  have ha_78 : 0 ≤ (x_76 : Int32).toInt := by
                    have z_1 : ¬ (r_4 : Int32).toInt = (0 : Int32).toInt := fun z => c_7 (Int32.toInt_inj.mp z)
                    have z_2 : ¬ (r_11 : Int32).toInt = (0 : Int32).toInt := fun z => c_14 (Int32.toInt_inj.mp z)
                    have z_3 : ¬ (r_18 : Int32).toInt = (0 : Int32).toInt := fun z => c_21 (Int32.toInt_inj.mp z)
                    have z_4 := Int32.lt_iff_toInt_lt.mp (Int32.not_le.mp c_49)
                    have z_5 := Int32.lt_iff_toInt_lt.mp c_59
                    have z_6 := congrArg Int32.toInt c_72
                    have y_0 : (0 : Int32).toInt = 0 := by decide
                    have y_1 : (1 : Int32).toInt = 1 := by decide
                    have t_x_76 : x_76.toInt = (vy_34 : Int32).toInt + (1 : Int32).toInt := by rw [ex_76]; exact add_toInt (by omega) (by omega)
                    omega
                  exact ih_42 x_76 sv_65 sv_66 sv_64 vy_34 sv_67 vy_34 _ _ _ (by omega) ha_78 pf_68 (hP.sub [1, 2, 3, 4, 5, 0, 6, 7] rfl) (hD.sub [1, 2, 3, 4, 5, 0, 6, 7] rfl rfl) hS (lv_sub hl [0, 1, 2, 3, 4] rfl)
              · skip
                refine lv_iload hx hb dX12_guard_57 (lv_at hl 0 rfl) ?_
                refine cS (As := [.int vy_34]) (rest := []) (wr := [((Ma 2), .inl (tc 0, 2400, .inl (Mf 2))), ((Ma 4), .inl (tc 0, 288, .inl (Mf 4))), ((Ma 5), .inl (tc 0, 6, .inl (Mf 5))), ((Ma 8), .inl (tc 1, 64, .inr (.inl vy_35))), ((Ma 9), .inl (tc 1, 13, .inr (.inl vy_36))), ((Ma 0), .inr (12, [.ref (Ma 1), .int (Mv 0), .int (Mv 1), .ref (Ma 2), .ref (Ma 3), .ref (Ma 4), .ref (Ma 5), .ref (Ma 6), .int (Mv 2), .int (Mv 3), .int (Mv 4), .int (Mv 5), .int (Mv 6), .int (Mv 7), .int (Mv 8), .ref (Ma 7), .int (Mv 9), .ref (Ma 8), .int vy_37, .ref (Ma 9), .ref (Ma 10), .int (Mv 11), .int (Mv 12), .int vy_38, .ref (Ma 11), .int (Mv 14), .ref (Ma 12), .ref (Ma 13), .ref (Ma 14), .ref (Ma 15), .ref (Ma 16), .long (Mj 0), .ref (Ma 17), .ref (Ma 18), .ref (Ma 19), .ref (Ma 20)])), ((Ma 10), .inl (tc 0, 126, .inl vy_39)), ((Ma 12), .inl (tc 0, 46, .inl sv_25))]) ⟨hx, hb, hml, hown, hts⟩ hK hX hA (ct_X12_bits l D tc sk vy_34) k_1532 k_1530 k_1531 k_106 pl_X12_bits ⟨Nat.le_of_ble_eq_true rfl, Nat.le_of_ble_eq_true rfl⟩ rfl rfl  hP hD hS [] [0, 1, 2, 3, 4, 5, 6, 7] rfl rfl rfl rfl rfl (by decide) rfl hl.1 rfl (Nat.le_of_ble_eq_true rfl) dX12_guard_59 ⟨Nat.le_of_ble_eq_true rfl, Nat.le_of_ble_eq_true rfl⟩ (fun v_79 u_80 H locs hv_81 hP₀ hD₀ hS₀ => ?_)
                obtain ⟨r_82, rfl, he_83⟩ := hv_81
                refine W.eq (g2 := F0 m 62 ls [.int r_82]) rfl ?_
                replace hP : va_P D classes [((Ma 2), .inl (tc 0, 2400, .inl (Mf 2))), ((Ma 4), .inl (tc 0, 288, .inl (Mf 4))), ((Ma 5), .inl (tc 0, 6, .inl (Mf 5))), ((Ma 8), .inl (tc 1, 64, .inr (.inl vy_35))), ((Ma 9), .inl (tc 1, 13, .inr (.inl vy_36))), ((Ma 0), .inr (12, [.ref (Ma 1), .int (Mv 0), .int (Mv 1), .ref (Ma 2), .ref (Ma 3), .ref (Ma 4), .ref (Ma 5), .ref (Ma 6), .int (Mv 2), .int (Mv 3), .int (Mv 4), .int (Mv 5), .int (Mv 6), .int (Mv 7), .int (Mv 8), .ref (Ma 7), .int (Mv 9), .ref (Ma 8), .int vy_37, .ref (Ma 9), .ref (Ma 10), .int (Mv 11), .int (Mv 12), .int vy_38, .ref (Ma 11), .int (Mv 14), .ref (Ma 12), .ref (Ma 13), .ref (Ma 14), .ref (Ma 15), .ref (Ma 16), .long (Mj 0), .ref (Ma 17), .ref (Ma 18), .ref (Ma 19), .ref (Ma 20)])), ((Ma 10), .inl (tc 0, 126, .inl vy_39)), ((Ma 12), .inl (tc 0, 46, .inl sv_25))] H := hP₀
                replace hD : va_D A [((Ma 2), .inl (tc 0, 2400, .inl (Mf 2))), ((Ma 4), .inl (tc 0, 288, .inl (Mf 4))), ((Ma 5), .inl (tc 0, 6, .inl (Mf 5))), ((Ma 8), .inl (tc 1, 64, .inr (.inl vy_35))), ((Ma 9), .inl (tc 1, 13, .inr (.inl vy_36))), ((Ma 0), .inr (12, [.ref (Ma 1), .int (Mv 0), .int (Mv 1), .ref (Ma 2), .ref (Ma 3), .ref (Ma 4), .ref (Ma 5), .ref (Ma 6), .int (Mv 2), .int (Mv 3), .int (Mv 4), .int (Mv 5), .int (Mv 6), .int (Mv 7), .int (Mv 8), .ref (Ma 7), .int (Mv 9), .ref (Ma 8), .int vy_37, .ref (Ma 9), .ref (Ma 10), .int (Mv 11), .int (Mv 12), .int vy_38, .ref (Ma 11), .int (Mv 14), .ref (Ma 12), .ref (Ma 13), .ref (Ma 14), .ref (Ma 15), .ref (Ma 16), .long (Mj 0), .ref (Ma 17), .ref (Ma 18), .ref (Ma 19), .ref (Ma 20)])), ((Ma 10), .inl (tc 0, 126, .inl vy_39)), ((Ma 12), .inl (tc 0, 46, .inl sv_25))] := hD₀
                replace hS := hS₀
                clear hP₀ hD₀ hS₀
                refine lv_iload_n hx hb dX12_guard_62 rfl (lv_at hl 1 rfl) ?_
                refine cS (As := [.int vy_40]) (rest := [.int r_82]) (wr := [((Ma 2), .inl (tc 0, 2400, .inl (Mf 2))), ((Ma 4), .inl (tc 0, 288, .inl (Mf 4))), ((Ma 5), .inl (tc 0, 6, .inl (Mf 5))), ((Ma 8), .inl (tc 1, 64, .inr (.inl vy_35))), ((Ma 9), .inl (tc 1, 13, .inr (.inl vy_36))), ((Ma 0), .inr (12, [.ref (Ma 1), .int (Mv 0), .int (Mv 1), .ref (Ma 2), .ref (Ma 3), .ref (Ma 4), .ref (Ma 5), .ref (Ma 6), .int (Mv 2), .int (Mv 3), .int (Mv 4), .int (Mv 5), .int (Mv 6), .int (Mv 7), .int (Mv 8), .ref (Ma 7), .int (Mv 9), .ref (Ma 8), .int vy_37, .ref (Ma 9), .ref (Ma 10), .int (Mv 11), .int (Mv 12), .int vy_38, .ref (Ma 11), .int (Mv 14), .ref (Ma 12), .ref (Ma 13), .ref (Ma 14), .ref (Ma 15), .ref (Ma 16), .long (Mj 0), .ref (Ma 17), .ref (Ma 18), .ref (Ma 19), .ref (Ma 20)])), ((Ma 10), .inl (tc 0, 126, .inl vy_39)), ((Ma 12), .inl (tc 0, 46, .inl sv_25))]) ⟨hx, hb, hml, hown, hts⟩ hK hX hA (ct_X12_bits l D tc sk vy_40) k_1532 k_1530 k_1531 k_106 pl_X12_bits ⟨Nat.le_of_ble_eq_true rfl, Nat.le_of_ble_eq_true rfl⟩ rfl rfl  hP hD hS [] [0, 1, 2, 3, 4, 5, 6, 7] rfl rfl rfl rfl rfl (by decide) rfl hl.1 rfl (Nat.le_of_ble_eq_true rfl) dX12_guard_63 ⟨Nat.le_of_ble_eq_true rfl, Nat.le_of_ble_eq_true rfl⟩ (fun v_85 u_86 H locs hv_87 hP₀ hD₀ hS₀ => ?_)
                obtain ⟨r_88, rfl, he_89⟩ := hv_87
                refine W.eq (g2 := F0 m 66 ls [.int r_88, .int r_82]) rfl ?_
                replace hP : va_P D classes [((Ma 2), .inl (tc 0, 2400, .inl (Mf 2))), ((Ma 4), .inl (tc 0, 288, .inl (Mf 4))), ((Ma 5), .inl (tc 0, 6, .inl (Mf 5))), ((Ma 8), .inl (tc 1, 64, .inr (.inl vy_35))), ((Ma 9), .inl (tc 1, 13, .inr (.inl vy_36))), ((Ma 0), .inr (12, [.ref (Ma 1), .int (Mv 0), .int (Mv 1), .ref (Ma 2), .ref (Ma 3), .ref (Ma 4), .ref (Ma 5), .ref (Ma 6), .int (Mv 2), .int (Mv 3), .int (Mv 4), .int (Mv 5), .int (Mv 6), .int (Mv 7), .int (Mv 8), .ref (Ma 7), .int (Mv 9), .ref (Ma 8), .int vy_37, .ref (Ma 9), .ref (Ma 10), .int (Mv 11), .int (Mv 12), .int vy_38, .ref (Ma 11), .int (Mv 14), .ref (Ma 12), .ref (Ma 13), .ref (Ma 14), .ref (Ma 15), .ref (Ma 16), .long (Mj 0), .ref (Ma 17), .ref (Ma 18), .ref (Ma 19), .ref (Ma 20)])), ((Ma 10), .inl (tc 0, 126, .inl vy_39)), ((Ma 12), .inl (tc 0, 46, .inl sv_25))] H := hP₀
                replace hD : va_D A [((Ma 2), .inl (tc 0, 2400, .inl (Mf 2))), ((Ma 4), .inl (tc 0, 288, .inl (Mf 4))), ((Ma 5), .inl (tc 0, 6, .inl (Mf 5))), ((Ma 8), .inl (tc 1, 64, .inr (.inl vy_35))), ((Ma 9), .inl (tc 1, 13, .inr (.inl vy_36))), ((Ma 0), .inr (12, [.ref (Ma 1), .int (Mv 0), .int (Mv 1), .ref (Ma 2), .ref (Ma 3), .ref (Ma 4), .ref (Ma 5), .ref (Ma 6), .int (Mv 2), .int (Mv 3), .int (Mv 4), .int (Mv 5), .int (Mv 6), .int (Mv 7), .int (Mv 8), .ref (Ma 7), .int (Mv 9), .ref (Ma 8), .int vy_37, .ref (Ma 9), .ref (Ma 10), .int (Mv 11), .int (Mv 12), .int vy_38, .ref (Ma 11), .int (Mv 14), .ref (Ma 12), .ref (Ma 13), .ref (Ma 14), .ref (Ma 15), .ref (Ma 16), .long (Mj 0), .ref (Ma 17), .ref (Ma 18), .ref (Ma 19), .ref (Ma 20)])), ((Ma 10), .inl (tc 0, 126, .inl vy_39)), ((Ma 12), .inl (tc 0, 46, .inl sv_25))] := hD₀
                replace hS := hS₀
                clear hP₀ hD₀ hS₀
                refine lv_icmp_lt (tgt := 72) hx hb dX12_guard_66 (by decide) (fun c_91 => ?_) (fun c_91 => ?_)
                · skip
                  refine lv_aload_n hx hb dX12_guard_72 rfl (lv_at hl 2 rfl) ?_
                  refine lv_iload hx hb dX12_guard_73 (lv_at hl 0 rfl) ?_
                  refine pf_X12_324 hx hb hts hown hK hP hD hS 5 rfl (Nat.le_of_ble_eq_true rfl) rfl rfl dX12_guard_75 (fun H locs hP₀ hD₀ hS₀ => ?_)
                  replace hP : va_P D classes [((Ma 2), .inl (tc 0, 2400, .inl (Mf 2))), ((Ma 4), .inl (tc 0, 288, .inl (Mf 4))), ((Ma 5), .inl (tc 0, 6, .inl (Mf 5))), ((Ma 8), .inl (tc 1, 64, .inr (.inl vy_35))), ((Ma 9), .inl (tc 1, 13, .inr (.inl vy_36))), ((Ma 0), .inr (12, [.ref (Ma 1), .int (Mv 0), .int (Mv 1), .ref (Ma 2), .ref (Ma 3), .ref (Ma 4), .ref (Ma 5), .ref (Ma 6), .int (Mv 2), .int (Mv 3), .int (Mv 4), .int (Mv 5), .int (Mv 6), .int (Mv 7), .int (Mv 8), .ref (Ma 7), .int (Mv 9), .ref (Ma 8), .int vy_37, .ref (Ma 9), .ref (Ma 10), .int (Mv 11), .int (Mv 12), .int vy_34, .ref (Ma 11), .int (Mv 14), .ref (Ma 12), .ref (Ma 13), .ref (Ma 14), .ref (Ma 15), .ref (Ma 16), .long (Mj 0), .ref (Ma 17), .ref (Ma 18), .ref (Ma 19), .ref (Ma 20)])), ((Ma 10), .inl (tc 0, 126, .inl vy_39)), ((Ma 12), .inl (tc 0, 46, .inl sv_25))] H := hP₀
                  replace hD : va_D A [((Ma 2), .inl (tc 0, 2400, .inl (Mf 2))), ((Ma 4), .inl (tc 0, 288, .inl (Mf 4))), ((Ma 5), .inl (tc 0, 6, .inl (Mf 5))), ((Ma 8), .inl (tc 1, 64, .inr (.inl vy_35))), ((Ma 9), .inl (tc 1, 13, .inr (.inl vy_36))), ((Ma 0), .inr (12, [.ref (Ma 1), .int (Mv 0), .int (Mv 1), .ref (Ma 2), .ref (Ma 3), .ref (Ma 4), .ref (Ma 5), .ref (Ma 6), .int (Mv 2), .int (Mv 3), .int (Mv 4), .int (Mv 5), .int (Mv 6), .int (Mv 7), .int (Mv 8), .ref (Ma 7), .int (Mv 9), .ref (Ma 8), .int vy_37, .ref (Ma 9), .ref (Ma 10), .int (Mv 11), .int (Mv 12), .int vy_34, .ref (Ma 11), .int (Mv 14), .ref (Ma 12), .ref (Ma 13), .ref (Ma 14), .ref (Ma 15), .ref (Ma 16), .long (Mj 0), .ref (Ma 17), .ref (Ma 18), .ref (Ma 19), .ref (Ma 20)])), ((Ma 10), .inl (tc 0, 126, .inl vy_39)), ((Ma 12), .inl (tc 0, 46, .inl sv_25))] := hD₀
                  replace hS := hS₀
                  clear hP₀ hD₀ hS₀
                  refine lv_aload_n hx hb dX12_guard_78 rfl (lv_at hl 2 rfl) ?_
                  refine lv_iload_n hx hb dX12_guard_79 rfl (lv_at hl 3 rfl) ?_
                  have ha_92 : 0 ≤ x1.toInt ∧ x1.toInt ≤ 1000 := by
                    have z_1 : ¬ (r_4 : Int32).toInt = (0 : Int32).toInt := fun z => c_7 (Int32.toInt_inj.mp z)
                    have z_2 : ¬ (r_11 : Int32).toInt = (0 : Int32).toInt := fun z => c_14 (Int32.toInt_inj.mp z)
                    have z_3 : ¬ (r_18 : Int32).toInt = (0 : Int32).toInt := fun z => c_21 (Int32.toInt_inj.mp z)
                    have z_4 := Int32.lt_iff_toInt_lt.mp (Int32.not_le.mp c_49)
                    have z_5 := Int32.le_iff_toInt_le.mp (Int32.not_lt.mp c_59)
                    have z_6 := Int32.lt_iff_toInt_lt.mp c_91
                    have y_0 : (0 : Int32).toInt = 0 := by decide
                    refine ⟨?_, ?_⟩ <;> omega
                  refine cV (a := (Ma 0)) (As := [.int x1]) (rest := []) (wr := []) ⟨hx, hb, hml, hown, hts⟩ hK hX hA (cu_X12_soldIn l D tc sk (Ma 0) (Ma 1) (Ma 2) (Ma 3) (Ma 4) (Ma 5) (Ma 6) (Ma 7) (Ma 8) (Ma 9) (Ma 10) (Ma 11) (Ma 12) (Ma 13) (Ma 14) (Ma 15) (Ma 16) (Ma 17) (Ma 18) (Ma 19) (Ma 20) (Mv 0) (Mv 1) (Mv 2) (Mv 3) (Mv 4) (Mv 5) (Mv 6) (Mv 7) (Mv 8) (Mv 9) vy_37 (Mv 11) (Mv 12) vy_34 (Mv 14) (Mf 2) (Mf 4) (Mf 5) vy_39 sv_25 (Mj 0) vy_35 vy_36 x1 pf_45 pf_26 h_rul h_frc ha_92) k_1544 k_1541 k_1543 k_84 k_106 pl_X12_soldIn ⟨Nat.le_of_ble_eq_true rfl, Nat.le_of_ble_eq_true rfl⟩ rfl rfl (va_recv hK hP (ci := 12) (q0 := 5) rfl rfl) hP hD hS [5, 0, 1, 2, 3, 4, 6, 7] [] rfl rfl rfl rfl rfl (by decide) rfl hl.1 rfl (Nat.le_of_ble_eq_true rfl) dX12_guard_80 ⟨Nat.le_of_ble_eq_true rfl, Nat.le_of_ble_eq_true rfl⟩ (fun v_93 u_94 H locs hv_95 hP₀ hD₀ hS₀ => ?_)
                  obtain ⟨sv_96, sv_97, sv_98, sv_99⟩ := u_94
                  obtain ⟨r_101, rfl, he_102, pf_100⟩ := hv_95
                  have pf_100 : SaidD T sv_99 999 := pf_100
                  have ar_pf_100 := SaidD.al pf_100
                  refine W.eq (g2 := F0 m 83 ls [.int r_101]) rfl ?_
                  replace hP : va_P D classes [((Ma 0), .inr (12, [.ref (Ma 1), .int (Mv 0), .int (Mv 1), .ref (Ma 2), .ref (Ma 3), .ref (Ma 4), .ref (Ma 5), .ref (Ma 6), .int (Mv 2), .int (Mv 3), .int (Mv 4), .int (Mv 5), .int (Mv 6), .int (Mv 7), .int (Mv 8), .ref (Ma 7), .int (Mv 9), .ref (Ma 8), .int sv_96, .ref (Ma 9), .ref (Ma 10), .int (Mv 11), .int (Mv 12), .int vy_34, .ref (Ma 11), .int (Mv 14), .ref (Ma 12), .ref (Ma 13), .ref (Ma 14), .ref (Ma 15), .ref (Ma 16), .long (Mj 0), .ref (Ma 17), .ref (Ma 18), .ref (Ma 19), .ref (Ma 20)])), ((Ma 2), .inl (tc 0, 2400, .inl (Mf 2))), ((Ma 4), .inl (tc 0, 288, .inl (Mf 4))), ((Ma 5), .inl (tc 0, 6, .inl (Mf 5))), ((Ma 8), .inl (tc 1, 64, .inr (.inl sv_97))), ((Ma 9), .inl (tc 1, 13, .inr (.inl sv_98))), ((Ma 10), .inl (tc 0, 126, .inl sv_99)), ((Ma 12), .inl (tc 0, 46, .inl sv_25))] H := hP₀
                  replace hD : va_D A [((Ma 0), .inr (12, [.ref (Ma 1), .int (Mv 0), .int (Mv 1), .ref (Ma 2), .ref (Ma 3), .ref (Ma 4), .ref (Ma 5), .ref (Ma 6), .int (Mv 2), .int (Mv 3), .int (Mv 4), .int (Mv 5), .int (Mv 6), .int (Mv 7), .int (Mv 8), .ref (Ma 7), .int (Mv 9), .ref (Ma 8), .int sv_96, .ref (Ma 9), .ref (Ma 10), .int (Mv 11), .int (Mv 12), .int vy_34, .ref (Ma 11), .int (Mv 14), .ref (Ma 12), .ref (Ma 13), .ref (Ma 14), .ref (Ma 15), .ref (Ma 16), .long (Mj 0), .ref (Ma 17), .ref (Ma 18), .ref (Ma 19), .ref (Ma 20)])), ((Ma 2), .inl (tc 0, 2400, .inl (Mf 2))), ((Ma 4), .inl (tc 0, 288, .inl (Mf 4))), ((Ma 5), .inl (tc 0, 6, .inl (Mf 5))), ((Ma 8), .inl (tc 1, 64, .inr (.inl sv_97))), ((Ma 9), .inl (tc 1, 13, .inr (.inl sv_98))), ((Ma 10), .inl (tc 0, 126, .inl sv_99)), ((Ma 12), .inl (tc 0, 46, .inl sv_25))] := hD₀
                  replace hS := hS₀
                  clear hP₀ hD₀ hS₀
                  refine lv_if_ne (tgt := 89) hx hb dX12_guard_83 (by decide) (fun c_104 => ?_) (fun c_104 => ?_)
                  · skip
                    obtain ⟨x_105, ex_105⟩ : ∃ y : Int32, y = vy_34 + 1 := ⟨_, rfl⟩
                    refine lv_iinc (v := x_105) (lv' := [(4, .int x_105), (3, .int vy_40), (0, .ref (Ma 0)), (1, .int x1), (2, .int x2)]) hx hb dX12_guard_89 hl (k := 0) rfl (by rw [ex_105]; rfl) (by decide) rfl (fun ls hl₀ => ?_)
                    replace hl := hl₀
                    clear hl₀
                    refine lv_goto (tgt := 40) hx hb dX12_guard_92 (by decide) ?_
                    have hb_106 : 2147483647 - (x_105 : Int32).toInt < 2147483647 - (vy_34 : Int32).toInt ∧ 1 ≤ 2147483647 - (vy_34 : Int32).toInt := by
                      have z_1 : ¬ (r_4 : Int32).toInt = (0 : Int32).toInt := fun z => c_7 (Int32.toInt_inj.mp z)
                      have z_2 : ¬ (r_11 : Int32).toInt = (0 : Int32).toInt := fun z => c_14 (Int32.toInt_inj.mp z)
                      have z_3 : ¬ (r_18 : Int32).toInt = (0 : Int32).toInt := fun z => c_21 (Int32.toInt_inj.mp z)
                      have z_4 := Int32.lt_iff_toInt_lt.mp (Int32.not_le.mp c_49)
                      have z_5 := Int32.le_iff_toInt_le.mp (Int32.not_lt.mp c_59)
                      have z_6 := Int32.lt_iff_toInt_lt.mp c_91
                      have z_7 : ¬ (r_101 : Int32).toInt = (0 : Int32).toInt := fun z => c_104 (Int32.toInt_inj.mp z)
                      have y_0 : (0 : Int32).toInt = 0 := by decide
                      have y_1 : (1 : Int32).toInt = 1 := by decide
                      have t_x_105 : x_105.toInt = (vy_34 : Int32).toInt + (1 : Int32).toInt := by rw [ex_105]; exact add_toInt (by omega) (by omega)
                      refine ⟨?_, ?_⟩ <;> omega
                    have ha_107 : 0 ≤ (x_105 : Int32).toInt := by
                      have z_1 : ¬ (r_4 : Int32).toInt = (0 : Int32).toInt := fun z => c_7 (Int32.toInt_inj.mp z)
                      have z_2 : ¬ (r_11 : Int32).toInt = (0 : Int32).toInt := fun z => c_14 (Int32.toInt_inj.mp z)
                      have z_3 : ¬ (r_18 : Int32).toInt = (0 : Int32).toInt := fun z => c_21 (Int32.toInt_inj.mp z)
                      have z_4 := Int32.lt_iff_toInt_lt.mp (Int32.not_le.mp c_49)
                      have z_5 := Int32.le_iff_toInt_le.mp (Int32.not_lt.mp c_59)
                      have z_6 := Int32.lt_iff_toInt_lt.mp c_91
                      have z_7 : ¬ (r_101 : Int32).toInt = (0 : Int32).toInt := fun z => c_104 (Int32.toInt_inj.mp z)
                      have y_0 : (0 : Int32).toInt = 0 := by decide
                      have y_1 : (1 : Int32).toInt = 1 := by decide
                      have t_x_105 : x_105.toInt = (vy_34 : Int32).toInt + (1 : Int32).toInt := by rw [ex_105]; exact add_toInt (by omega) (by omega)
                      omega
                    exact ih_42 x_105 sv_97 sv_98 sv_96 vy_34 sv_99 vy_40 _ _ _ (by omega) ha_107 pf_100 (hP.sub [1, 2, 3, 4, 5, 0, 6, 7] rfl) (hD.sub [1, 2, 3, 4, 5, 0, 6, 7] rfl rfl) hS (lv_sub hl [0, 1, 2, 3, 4] rfl)
                  · skip
                    refine lv_iload hx hb dX12_guard_86 (lv_at hl 0 rfl) ?_
                    refine lv_istore_n (lv' := [(3, .int vy_34), (4, .int vy_34), (0, .ref (Ma 0)), (1, .int x1), (2, .int x2)]) hx hb dX12_guard_88 rfl hl (by decide) rfl (fun ls hl₀ => ?_)
                    replace hl := hl₀
                    clear hl₀
                    obtain ⟨x_108, ex_108⟩ : ∃ y : Int32, y = vy_34 + 1 := ⟨_, rfl⟩
                    refine lv_iinc (v := x_108) (lv' := [(4, .int x_108), (3, .int vy_34), (0, .ref (Ma 0)), (1, .int x1), (2, .int x2)]) hx hb dX12_guard_89 hl (k := 1) rfl (by rw [ex_108]; rfl) (by decide) rfl (fun ls hl₀ => ?_)
                    replace hl := hl₀
                    clear hl₀
                    refine lv_goto (tgt := 40) hx hb dX12_guard_92 (by decide) ?_
                    have hb_109 : 2147483647 - (x_108 : Int32).toInt < 2147483647 - (vy_34 : Int32).toInt ∧ 1 ≤ 2147483647 - (vy_34 : Int32).toInt := by
                      have z_1 : ¬ (r_4 : Int32).toInt = (0 : Int32).toInt := fun z => c_7 (Int32.toInt_inj.mp z)
                      have z_2 : ¬ (r_11 : Int32).toInt = (0 : Int32).toInt := fun z => c_14 (Int32.toInt_inj.mp z)
                      have z_3 : ¬ (r_18 : Int32).toInt = (0 : Int32).toInt := fun z => c_21 (Int32.toInt_inj.mp z)
                      have z_4 := Int32.lt_iff_toInt_lt.mp (Int32.not_le.mp c_49)
                      have z_5 := Int32.le_iff_toInt_le.mp (Int32.not_lt.mp c_59)
                      have z_6 := Int32.lt_iff_toInt_lt.mp c_91
                      have z_7 := congrArg Int32.toInt c_104
                      have y_0 : (0 : Int32).toInt = 0 := by decide
                      have y_1 : (1 : Int32).toInt = 1 := by decide
                      have t_x_108 : x_108.toInt = (vy_34 : Int32).toInt + (1 : Int32).toInt := by rw [ex_108]; exact add_toInt (by omega) (by omega)
                      refine ⟨?_, ?_⟩ <;> omega
                    have ha_110 : 0 ≤ (x_108 : Int32).toInt := by
                      have z_1 : ¬ (r_4 : Int32).toInt = (0 : Int32).toInt := fun z => c_7 (Int32.toInt_inj.mp z)
                      have z_2 : ¬ (r_11 : Int32).toInt = (0 : Int32).toInt := fun z => c_14 (Int32.toInt_inj.mp z)
                      have z_3 : ¬ (r_18 : Int32).toInt = (0 : Int32).toInt := fun z => c_21 (Int32.toInt_inj.mp z)
                      have z_4 := Int32.lt_iff_toInt_lt.mp (Int32.not_le.mp c_49)
                      have z_5 := Int32.le_iff_toInt_le.mp (Int32.not_lt.mp c_59)
                      have z_6 := Int32.lt_iff_toInt_lt.mp c_91
                      have z_7 := congrArg Int32.toInt c_104
                      have y_0 : (0 : Int32).toInt = 0 := by decide
                      have y_1 : (1 : Int32).toInt = 1 := by decide
                      have t_x_108 : x_108.toInt = (vy_34 : Int32).toInt + (1 : Int32).toInt := by rw [ex_108]; exact add_toInt (by omega) (by omega)
                      omega
                    exact ih_42 x_108 sv_97 sv_98 sv_96 vy_34 sv_99 vy_34 _ _ _ (by omega) ha_110 pf_100 (hP.sub [1, 2, 3, 4, 5, 0, 6, 7] rfl) (hD.sub [1, 2, 3, 4, 5, 0, 6, 7] rfl rfl) hS (lv_sub hl [0, 1, 2, 3, 4] rfl)
                · skip
                  refine lv_goto (tgt := 89) hx hb dX12_guard_69 (by decide) ?_
                  obtain ⟨x_111, ex_111⟩ : ∃ y : Int32, y = vy_34 + 1 := ⟨_, rfl⟩
                  refine lv_iinc (v := x_111) (lv' := [(4, .int x_111), (3, .int vy_40), (0, .ref (Ma 0)), (1, .int x1), (2, .int x2)]) hx hb dX12_guard_89 hl (k := 0) rfl (by rw [ex_111]; rfl) (by decide) rfl (fun ls hl₀ => ?_)
                  replace hl := hl₀
                  clear hl₀
                  refine lv_goto (tgt := 40) hx hb dX12_guard_92 (by decide) ?_
                  have hb_112 : 2147483647 - (x_111 : Int32).toInt < 2147483647 - (vy_34 : Int32).toInt ∧ 1 ≤ 2147483647 - (vy_34 : Int32).toInt := by
                    have z_1 : ¬ (r_4 : Int32).toInt = (0 : Int32).toInt := fun z => c_7 (Int32.toInt_inj.mp z)
                    have z_2 : ¬ (r_11 : Int32).toInt = (0 : Int32).toInt := fun z => c_14 (Int32.toInt_inj.mp z)
                    have z_3 : ¬ (r_18 : Int32).toInt = (0 : Int32).toInt := fun z => c_21 (Int32.toInt_inj.mp z)
                    have z_4 := Int32.lt_iff_toInt_lt.mp (Int32.not_le.mp c_49)
                    have z_5 := Int32.le_iff_toInt_le.mp (Int32.not_lt.mp c_59)
                    have z_6 := Int32.le_iff_toInt_le.mp (Int32.not_lt.mp c_91)
                    have y_0 : (0 : Int32).toInt = 0 := by decide
                    have y_1 : (1 : Int32).toInt = 1 := by decide
                    have t_x_111 : x_111.toInt = (vy_34 : Int32).toInt + (1 : Int32).toInt := by rw [ex_111]; exact add_toInt (by omega) (by omega)
                    refine ⟨?_, ?_⟩ <;> omega
                  have ha_113 : 0 ≤ (x_111 : Int32).toInt := by
                    have z_1 : ¬ (r_4 : Int32).toInt = (0 : Int32).toInt := fun z => c_7 (Int32.toInt_inj.mp z)
                    have z_2 : ¬ (r_11 : Int32).toInt = (0 : Int32).toInt := fun z => c_14 (Int32.toInt_inj.mp z)
                    have z_3 : ¬ (r_18 : Int32).toInt = (0 : Int32).toInt := fun z => c_21 (Int32.toInt_inj.mp z)
                    have z_4 := Int32.lt_iff_toInt_lt.mp (Int32.not_le.mp c_49)
                    have z_5 := Int32.le_iff_toInt_le.mp (Int32.not_lt.mp c_59)
                    have z_6 := Int32.le_iff_toInt_le.mp (Int32.not_lt.mp c_91)
                    have y_0 : (0 : Int32).toInt = 0 := by decide
                    have y_1 : (1 : Int32).toInt = 1 := by decide
                    have t_x_111 : x_111.toInt = (vy_34 : Int32).toInt + (1 : Int32).toInt := by rw [ex_111]; exact add_toInt (by omega) (by omega)
                    omega
                  exact ih_42 x_111 vy_35 vy_36 vy_37 vy_38 vy_39 vy_40 _ _ _ (by omega) ha_113 pf_45 (hP.sub [0, 1, 2, 3, 4, 5, 6, 7] rfl) (hD.sub [0, 1, 2, 3, 4, 5, 6, 7] rfl rfl) hS (lv_sub hl [0, 1, 2, 3, 4] rfl)
        have ha_114 : 0 ≤ (0 : Int32).toInt := by
          have z_1 : ¬ (r_4 : Int32).toInt = (0 : Int32).toInt := fun z => c_7 (Int32.toInt_inj.mp z)
          have z_2 : ¬ (r_11 : Int32).toInt = (0 : Int32).toInt := fun z => c_14 (Int32.toInt_inj.mp z)
          have z_3 : ¬ (r_18 : Int32).toInt = (0 : Int32).toInt := fun z => c_21 (Int32.toInt_inj.mp z)
          have y_0 : (0 : Int32).toInt = 0 := by decide
          omega
        exact loop_43 _ 0 (Mg 8) (Mg 9) (Mv 10) (Mv 13) (Mf 10) (-1) _ _ _ (Nat.lt_succ_self _) ha_114 h_said hP hD hS hl
      · skip
        refine lv_iconst (v := (-1)) hx hb dX12_guard_29 (by decide) ?_
        exact retI (v := (-1)) hx hb hr hlk (rfl) hP hD hS ((Mv 10), (Mv 13), (Mg 8), (Mg 9), (Mf 10), (Mf 12)) ⟨_, rfl, trivial, h_said, h_gd⟩ [6, 0, 1, 2, 3, 4, 7, 5] rfl rfl dX12_guard_30 (Nat.le_of_ble_eq_true rfl) (Nat.le_of_ble_eq_true rfl) rfl
set_option maxHeartbeats 4000000 in
set_option maxRecDepth 100000 in
theorem ct_hX12_best {T : Nat → Option Int32} (l : Launch) (D : va_G) (tc : Nat → ClassId) (sk : (Nat → Nat) × (Nat → Nat)) (Ma : Nat → Nat) (Mv : Nat → Int32) (Mf : Nat → Nat → Int32) (Mj : Nat → Int64) (Mg : Nat → Nat → Int64) (x1 : Int32) (x2 : Int32) (h_said : SaidD T (Mf 10) 999) (h_rul : RulD (Mf 2) (Mf 4) (Mf 5) (Mv 1)) (h_frc : -1 ≤ (Mv 11).toInt ∧ (Mv 11).toInt < (Mv 1).toInt ∧ (Mv 1).toInt ≤ 6) (h_gd : GdZ (Mv 13)) : Ct l yX12_best cX12_best 7 (some .int) { frames := 7, cells := 0, slots := 0, locals := 166 } D tc sk [.ref (Ma 0), .int x1, .int x2] [((Ma 0), .inr (12, [.ref (Ma 1), .int (Mv 0), .int (Mv 1), .ref (Ma 2), .ref (Ma 3), .ref (Ma 4), .ref (Ma 5), .ref (Ma 6), .int (Mv 2), .int (Mv 3), .int (Mv 4), .int (Mv 5), .int (Mv 6), .int (Mv 7), .int (Mv 8), .ref (Ma 7), .int (Mv 9), .ref (Ma 8), .int (Mv 10), .ref (Ma 9), .ref (Ma 10), .int (Mv 11), .int (Mv 12), .int (Mv 13), .ref (Ma 11), .int (Mv 14), .ref (Ma 12), .ref (Ma 13), .ref (Ma 14), .ref (Ma 15), .ref (Ma 16), .long (Mj 0), .ref (Ma 17), .ref (Ma 18), .ref (Ma 19), .ref (Ma 20)])), ((Ma 2), .inl (tc 0, 2400, .inl (Mf 2))), ((Ma 4), .inl (tc 0, 288, .inl (Mf 4))), ((Ma 5), .inl (tc 0, 6, .inl (Mf 5))), ((Ma 8), .inl (tc 1, 64, .inr (.inl (Mg 8)))), ((Ma 9), .inl (tc 1, 13, .inr (.inl (Mg 9)))), ((Ma 10), .inl (tc 0, 126, .inl (Mf 10))), ((Ma 12), .inl (tc 0, 46, .inl (Mf 12)))] (fun (v : Option Value) (u : (Int32) × (Int32) × (Nat → Int64) × (Nat → Int64) × (Nat → Int32) × (Nat → Int32)) => match u with | (oo0x1, oo0x2, oo0x3, oo0x4, oo0x5, oo0x6) => ∃ r : Int32, v = some (.int r) ∧ (True) ∧ (SaidD T oo0x5 999) ∧ (GdZ oo0x2)) (fun (u : (Int32) × (Int32) × (Nat → Int64) × (Nat → Int64) × (Nat → Int32) × (Nat → Int32)) => match u with | (oo0x1, oo0x2, oo0x3, oo0x4, oo0x5, oo0x6) => [((Ma 0), .inr (12, [.ref (Ma 1), .int (Mv 0), .int (Mv 1), .ref (Ma 2), .ref (Ma 3), .ref (Ma 4), .ref (Ma 5), .ref (Ma 6), .int (Mv 2), .int (Mv 3), .int (Mv 4), .int (Mv 5), .int (Mv 6), .int (Mv 7), .int (Mv 8), .ref (Ma 7), .int (Mv 9), .ref (Ma 8), .int oo0x1, .ref (Ma 9), .ref (Ma 10), .int (Mv 11), .int (Mv 12), .int oo0x2, .ref (Ma 11), .int (Mv 14), .ref (Ma 12), .ref (Ma 13), .ref (Ma 14), .ref (Ma 15), .ref (Ma 16), .long (Mj 0), .ref (Ma 17), .ref (Ma 18), .ref (Ma 19), .ref (Ma 20)])), ((Ma 2), .inl (tc 0, 2400, .inl (Mf 2))), ((Ma 4), .inl (tc 0, 288, .inl (Mf 4))), ((Ma 5), .inl (tc 0, 6, .inl (Mf 5))), ((Ma 8), .inl (tc 1, 64, .inr (.inl oo0x3))), ((Ma 9), .inl (tc 1, 13, .inr (.inl oo0x4))), ((Ma 10), .inl (tc 0, 126, .inl oo0x5)), ((Ma 12), .inl (tc 0, 46, .inl oo0x6))]) 0 0 := by
  refine Ct.start (by decide) (Nat.le_of_ble_eq_true rfl) (fun p e s m below meth c A ls hx hb hr hlk hin hml hown hts hK hX hP hD hA hl hS => ?_)
  have hl : lv_has ls 7 [(0, .ref (Ma 0)), (1, .int x1), (2, .int x2)] := hl
  have ar_h_said := SaidD.al h_said
  have ar_h_gd : ((Mv 13) : Int32).toInt = 0 := by rw [show (Mv 13) = (0 : Int32) from h_gd]; decide
  refine lv_aload_n hx hb dX12_best_0 rfl (lv_at hl 0 rfl) ?_
  refine cV (a := (Ma 0)) (As := []) (rest := []) (wr := [((Ma 2), .inl (tc 0, 2400, .inl (Mf 2))), ((Ma 4), .inl (tc 0, 288, .inl (Mf 4))), ((Ma 5), .inl (tc 0, 6, .inl (Mf 5))), ((Ma 8), .inl (tc 1, 64, .inr (.inl (Mg 8)))), ((Ma 9), .inl (tc 1, 13, .inr (.inl (Mg 9)))), ((Ma 12), .inl (tc 0, 46, .inl (Mf 12)))]) ⟨hx, hb, hml, hown, hts⟩ hK hX hA (cu_X12_isBook l D tc sk (Ma 0) (Ma 1) (Ma 2) (Ma 3) (Ma 4) (Ma 5) (Ma 6) (Ma 7) (Ma 8) (Ma 9) (Ma 10) (Ma 11) (Ma 12) (Ma 13) (Ma 14) (Ma 15) (Ma 16) (Ma 17) (Ma 18) (Ma 19) (Ma 20) (Mv 0) (Mv 1) (Mv 2) (Mv 3) (Mv 4) (Mv 5) (Mv 6) (Mv 7) (Mv 8) (Mv 9) (Mv 10) (Mv 11) (Mv 12) (Mv 13) (Mv 14) (Mf 10) (Mj 0) h_said.1) k_1407 k_1404 k_1406 k_65 k_106 pl_X12_isBook ⟨Nat.le_of_ble_eq_true rfl, Nat.le_of_ble_eq_true rfl⟩ rfl rfl (va_recv hK hP (ci := 12) (q0 := 0) rfl rfl) hP hD hS [0, 6] [1, 2, 3, 4, 5, 7] rfl rfl rfl rfl rfl (by decide) rfl hl.1 rfl (Nat.le_of_ble_eq_true rfl) dX12_best_1 ⟨Nat.le_of_ble_eq_true rfl, Nat.le_of_ble_eq_true rfl⟩ (fun v_1 u_2 H locs hv_3 hP₀ hD₀ hS₀ => ?_)
  obtain ⟨r_4, rfl, he_5⟩ := hv_3
  have he_5 : (r_4.toInt = 0 ∨ (r_4.toInt = 1 ∧ 1 ≤ ((Mf 10) 2).toInt ∧ ((Mf 10) 2).toInt ≤ 10)) := he_5
  refine W.eq (g2 := F0 m 4 ls [.int r_4]) rfl ?_
  replace hP : va_P D classes [((Ma 2), .inl (tc 0, 2400, .inl (Mf 2))), ((Ma 4), .inl (tc 0, 288, .inl (Mf 4))), ((Ma 5), .inl (tc 0, 6, .inl (Mf 5))), ((Ma 8), .inl (tc 1, 64, .inr (.inl (Mg 8)))), ((Ma 9), .inl (tc 1, 13, .inr (.inl (Mg 9)))), ((Ma 12), .inl (tc 0, 46, .inl (Mf 12))), ((Ma 0), .inr (12, [.ref (Ma 1), .int (Mv 0), .int (Mv 1), .ref (Ma 2), .ref (Ma 3), .ref (Ma 4), .ref (Ma 5), .ref (Ma 6), .int (Mv 2), .int (Mv 3), .int (Mv 4), .int (Mv 5), .int (Mv 6), .int (Mv 7), .int (Mv 8), .ref (Ma 7), .int (Mv 9), .ref (Ma 8), .int (Mv 10), .ref (Ma 9), .ref (Ma 10), .int (Mv 11), .int (Mv 12), .int (Mv 13), .ref (Ma 11), .int (Mv 14), .ref (Ma 12), .ref (Ma 13), .ref (Ma 14), .ref (Ma 15), .ref (Ma 16), .long (Mj 0), .ref (Ma 17), .ref (Ma 18), .ref (Ma 19), .ref (Ma 20)])), ((Ma 10), .inl (tc 0, 126, .inl (Mf 10)))] H := hP₀
  replace hD : va_D A [((Ma 2), .inl (tc 0, 2400, .inl (Mf 2))), ((Ma 4), .inl (tc 0, 288, .inl (Mf 4))), ((Ma 5), .inl (tc 0, 6, .inl (Mf 5))), ((Ma 8), .inl (tc 1, 64, .inr (.inl (Mg 8)))), ((Ma 9), .inl (tc 1, 13, .inr (.inl (Mg 9)))), ((Ma 12), .inl (tc 0, 46, .inl (Mf 12))), ((Ma 0), .inr (12, [.ref (Ma 1), .int (Mv 0), .int (Mv 1), .ref (Ma 2), .ref (Ma 3), .ref (Ma 4), .ref (Ma 5), .ref (Ma 6), .int (Mv 2), .int (Mv 3), .int (Mv 4), .int (Mv 5), .int (Mv 6), .int (Mv 7), .int (Mv 8), .ref (Ma 7), .int (Mv 9), .ref (Ma 8), .int (Mv 10), .ref (Ma 9), .ref (Ma 10), .int (Mv 11), .int (Mv 12), .int (Mv 13), .ref (Ma 11), .int (Mv 14), .ref (Ma 12), .ref (Ma 13), .ref (Ma 14), .ref (Ma 15), .ref (Ma 16), .long (Mj 0), .ref (Ma 17), .ref (Ma 18), .ref (Ma 19), .ref (Ma 20)])), ((Ma 10), .inl (tc 0, 126, .inl (Mf 10)))] := hD₀
  replace hS := hS₀
  clear hP₀ hD₀ hS₀
  refine lv_if_eq (tgt := 29) hx hb dX12_best_4 (by decide) (fun c_7 => ?_) (fun c_7 => ?_)
  · skip
    refine lv_bipush (v := (-2)) hx hb dX12_best_29 (by decide) ?_
    exact retI (v := (-2)) hx hb hr hlk (rfl) hP hD hS ((Mv 10), (Mv 13), (Mg 8), (Mg 9), (Mf 10), (Mf 12)) ⟨_, rfl, trivial, h_said, h_gd⟩ [6, 0, 1, 2, 3, 4, 7, 5] rfl rfl dX12_best_31 (Nat.le_of_ble_eq_true rfl) (Nat.le_of_ble_eq_true rfl) rfl
  · skip
    refine lv_iload_n hx hb dX12_best_7 rfl (lv_at hl 1 rfl) ?_
    refine lv_i2l (v := (x1).toInt64) hx hb dX12_best_8 rfl ?_
    refine lv_lconst (v := 1) hx hb dX12_best_9 (by decide) ?_
    refine lv_ldc2 hx hb hown (hts _ k_1500) dX12_best_10 ?_
    refine cS (As := [.long (x1).toInt64, .long 1, .long 100]) (rest := []) (wr := [((Ma 2), .inl (tc 0, 2400, .inl (Mf 2))), ((Ma 4), .inl (tc 0, 288, .inl (Mf 4))), ((Ma 5), .inl (tc 0, 6, .inl (Mf 5))), ((Ma 8), .inl (tc 1, 64, .inr (.inl (Mg 8)))), ((Ma 9), .inl (tc 1, 13, .inr (.inl (Mg 9)))), ((Ma 12), .inl (tc 0, 46, .inl (Mf 12))), ((Ma 0), .inr (12, [.ref (Ma 1), .int (Mv 0), .int (Mv 1), .ref (Ma 2), .ref (Ma 3), .ref (Ma 4), .ref (Ma 5), .ref (Ma 6), .int (Mv 2), .int (Mv 3), .int (Mv 4), .int (Mv 5), .int (Mv 6), .int (Mv 7), .int (Mv 8), .ref (Ma 7), .int (Mv 9), .ref (Ma 8), .int (Mv 10), .ref (Ma 9), .ref (Ma 10), .int (Mv 11), .int (Mv 12), .int (Mv 13), .ref (Ma 11), .int (Mv 14), .ref (Ma 12), .ref (Ma 13), .ref (Ma 14), .ref (Ma 15), .ref (Ma 16), .long (Mj 0), .ref (Ma 17), .ref (Ma 18), .ref (Ma 19), .ref (Ma 20)])), ((Ma 10), .inl (tc 0, 126, .inl (Mf 10)))]) ⟨hx, hb, hml, hown, hts⟩ hK hX hA (ct_X12_in2 l D tc sk ((x1).toInt64) 1 100) k_1259 k_1257 k_1258 k_106 pl_X12_in ⟨Nat.le_of_ble_eq_true rfl, Nat.le_of_ble_eq_true rfl⟩ rfl rfl  hP hD hS [] [0, 1, 2, 3, 4, 5, 6, 7] rfl rfl rfl rfl rfl (by decide) rfl hl.1 rfl (Nat.le_of_ble_eq_true rfl) dX12_best_13 ⟨Nat.le_of_ble_eq_true rfl, Nat.le_of_ble_eq_true rfl⟩ (fun v_8 u_9 H locs hv_10 hP₀ hD₀ hS₀ => ?_)
    obtain ⟨r_11, rfl, he_12⟩ := hv_10
    have he_12 : ((r_11.toInt = 0 ∧ ((x1).toInt64.toInt < (1 : Int64).toInt ∨ (100 : Int64).toInt < (x1).toInt64.toInt)) ∨ (r_11.toInt = 1 ∧ (1 : Int64).toInt ≤ (x1).toInt64.toInt ∧ (x1).toInt64.toInt ≤ (100 : Int64).toInt)) := he_12
    refine W.eq (g2 := F0 m 16 ls [.int r_11]) rfl ?_
    replace hP : va_P D classes [((Ma 2), .inl (tc 0, 2400, .inl (Mf 2))), ((Ma 4), .inl (tc 0, 288, .inl (Mf 4))), ((Ma 5), .inl (tc 0, 6, .inl (Mf 5))), ((Ma 8), .inl (tc 1, 64, .inr (.inl (Mg 8)))), ((Ma 9), .inl (tc 1, 13, .inr (.inl (Mg 9)))), ((Ma 12), .inl (tc 0, 46, .inl (Mf 12))), ((Ma 0), .inr (12, [.ref (Ma 1), .int (Mv 0), .int (Mv 1), .ref (Ma 2), .ref (Ma 3), .ref (Ma 4), .ref (Ma 5), .ref (Ma 6), .int (Mv 2), .int (Mv 3), .int (Mv 4), .int (Mv 5), .int (Mv 6), .int (Mv 7), .int (Mv 8), .ref (Ma 7), .int (Mv 9), .ref (Ma 8), .int (Mv 10), .ref (Ma 9), .ref (Ma 10), .int (Mv 11), .int (Mv 12), .int (Mv 13), .ref (Ma 11), .int (Mv 14), .ref (Ma 12), .ref (Ma 13), .ref (Ma 14), .ref (Ma 15), .ref (Ma 16), .long (Mj 0), .ref (Ma 17), .ref (Ma 18), .ref (Ma 19), .ref (Ma 20)])), ((Ma 10), .inl (tc 0, 126, .inl (Mf 10)))] H := hP₀
    replace hD : va_D A [((Ma 2), .inl (tc 0, 2400, .inl (Mf 2))), ((Ma 4), .inl (tc 0, 288, .inl (Mf 4))), ((Ma 5), .inl (tc 0, 6, .inl (Mf 5))), ((Ma 8), .inl (tc 1, 64, .inr (.inl (Mg 8)))), ((Ma 9), .inl (tc 1, 13, .inr (.inl (Mg 9)))), ((Ma 12), .inl (tc 0, 46, .inl (Mf 12))), ((Ma 0), .inr (12, [.ref (Ma 1), .int (Mv 0), .int (Mv 1), .ref (Ma 2), .ref (Ma 3), .ref (Ma 4), .ref (Ma 5), .ref (Ma 6), .int (Mv 2), .int (Mv 3), .int (Mv 4), .int (Mv 5), .int (Mv 6), .int (Mv 7), .int (Mv 8), .ref (Ma 7), .int (Mv 9), .ref (Ma 8), .int (Mv 10), .ref (Ma 9), .ref (Ma 10), .int (Mv 11), .int (Mv 12), .int (Mv 13), .ref (Ma 11), .int (Mv 14), .ref (Ma 12), .ref (Ma 13), .ref (Ma 14), .ref (Ma 15), .ref (Ma 16), .long (Mj 0), .ref (Ma 17), .ref (Ma 18), .ref (Ma 19), .ref (Ma 20)])), ((Ma 10), .inl (tc 0, 126, .inl (Mf 10)))] := hD₀
    replace hS := hS₀
    clear hP₀ hD₀ hS₀
    have yl_he_12_1 : (1 : Int64).toInt = 1 := by decide
    have yl_he_12_100 : (100 : Int64).toInt = 100 := by decide
    simp only [i32_64] at he_12
    refine lv_if_eq (tgt := 29) hx hb dX12_best_16 (by decide) (fun c_14 => ?_) (fun c_14 => ?_)
    · skip
      refine lv_bipush (v := (-2)) hx hb dX12_best_29 (by decide) ?_
      exact retI (v := (-2)) hx hb hr hlk (rfl) hP hD hS ((Mv 10), (Mv 13), (Mg 8), (Mg 9), (Mf 10), (Mf 12)) ⟨_, rfl, trivial, h_said, h_gd⟩ [6, 0, 1, 2, 3, 4, 7, 5] rfl rfl dX12_best_31 (Nat.le_of_ble_eq_true rfl) (Nat.le_of_ble_eq_true rfl) rfl
    · skip
      refine lv_iload_n hx hb dX12_best_19 rfl (lv_at hl 2 rfl) ?_
      refine lv_i2l (v := (x2).toInt64) hx hb dX12_best_20 rfl ?_
      refine lv_lconst (v := 0) hx hb dX12_best_21 (by decide) ?_
      refine lv_lconst (v := 1) hx hb dX12_best_22 (by decide) ?_
      refine cS (As := [.long (x2).toInt64, .long 0, .long 1]) (rest := []) (wr := [((Ma 2), .inl (tc 0, 2400, .inl (Mf 2))), ((Ma 4), .inl (tc 0, 288, .inl (Mf 4))), ((Ma 5), .inl (tc 0, 6, .inl (Mf 5))), ((Ma 8), .inl (tc 1, 64, .inr (.inl (Mg 8)))), ((Ma 9), .inl (tc 1, 13, .inr (.inl (Mg 9)))), ((Ma 12), .inl (tc 0, 46, .inl (Mf 12))), ((Ma 0), .inr (12, [.ref (Ma 1), .int (Mv 0), .int (Mv 1), .ref (Ma 2), .ref (Ma 3), .ref (Ma 4), .ref (Ma 5), .ref (Ma 6), .int (Mv 2), .int (Mv 3), .int (Mv 4), .int (Mv 5), .int (Mv 6), .int (Mv 7), .int (Mv 8), .ref (Ma 7), .int (Mv 9), .ref (Ma 8), .int (Mv 10), .ref (Ma 9), .ref (Ma 10), .int (Mv 11), .int (Mv 12), .int (Mv 13), .ref (Ma 11), .int (Mv 14), .ref (Ma 12), .ref (Ma 13), .ref (Ma 14), .ref (Ma 15), .ref (Ma 16), .long (Mj 0), .ref (Ma 17), .ref (Ma 18), .ref (Ma 19), .ref (Ma 20)])), ((Ma 10), .inl (tc 0, 126, .inl (Mf 10)))]) ⟨hx, hb, hml, hown, hts⟩ hK hX hA (ct_X12_in2 l D tc sk ((x2).toInt64) 0 1) k_1259 k_1257 k_1258 k_106 pl_X12_in ⟨Nat.le_of_ble_eq_true rfl, Nat.le_of_ble_eq_true rfl⟩ rfl rfl  hP hD hS [] [0, 1, 2, 3, 4, 5, 6, 7] rfl rfl rfl rfl rfl (by decide) rfl hl.1 rfl (Nat.le_of_ble_eq_true rfl) dX12_best_23 ⟨Nat.le_of_ble_eq_true rfl, Nat.le_of_ble_eq_true rfl⟩ (fun v_15 u_16 H locs hv_17 hP₀ hD₀ hS₀ => ?_)
      obtain ⟨r_18, rfl, he_19⟩ := hv_17
      have he_19 : ((r_18.toInt = 0 ∧ ((x2).toInt64.toInt < (0 : Int64).toInt ∨ (1 : Int64).toInt < (x2).toInt64.toInt)) ∨ (r_18.toInt = 1 ∧ (0 : Int64).toInt ≤ (x2).toInt64.toInt ∧ (x2).toInt64.toInt ≤ (1 : Int64).toInt)) := he_19
      refine W.eq (g2 := F0 m 26 ls [.int r_18]) rfl ?_
      replace hP : va_P D classes [((Ma 2), .inl (tc 0, 2400, .inl (Mf 2))), ((Ma 4), .inl (tc 0, 288, .inl (Mf 4))), ((Ma 5), .inl (tc 0, 6, .inl (Mf 5))), ((Ma 8), .inl (tc 1, 64, .inr (.inl (Mg 8)))), ((Ma 9), .inl (tc 1, 13, .inr (.inl (Mg 9)))), ((Ma 12), .inl (tc 0, 46, .inl (Mf 12))), ((Ma 0), .inr (12, [.ref (Ma 1), .int (Mv 0), .int (Mv 1), .ref (Ma 2), .ref (Ma 3), .ref (Ma 4), .ref (Ma 5), .ref (Ma 6), .int (Mv 2), .int (Mv 3), .int (Mv 4), .int (Mv 5), .int (Mv 6), .int (Mv 7), .int (Mv 8), .ref (Ma 7), .int (Mv 9), .ref (Ma 8), .int (Mv 10), .ref (Ma 9), .ref (Ma 10), .int (Mv 11), .int (Mv 12), .int (Mv 13), .ref (Ma 11), .int (Mv 14), .ref (Ma 12), .ref (Ma 13), .ref (Ma 14), .ref (Ma 15), .ref (Ma 16), .long (Mj 0), .ref (Ma 17), .ref (Ma 18), .ref (Ma 19), .ref (Ma 20)])), ((Ma 10), .inl (tc 0, 126, .inl (Mf 10)))] H := hP₀
      replace hD : va_D A [((Ma 2), .inl (tc 0, 2400, .inl (Mf 2))), ((Ma 4), .inl (tc 0, 288, .inl (Mf 4))), ((Ma 5), .inl (tc 0, 6, .inl (Mf 5))), ((Ma 8), .inl (tc 1, 64, .inr (.inl (Mg 8)))), ((Ma 9), .inl (tc 1, 13, .inr (.inl (Mg 9)))), ((Ma 12), .inl (tc 0, 46, .inl (Mf 12))), ((Ma 0), .inr (12, [.ref (Ma 1), .int (Mv 0), .int (Mv 1), .ref (Ma 2), .ref (Ma 3), .ref (Ma 4), .ref (Ma 5), .ref (Ma 6), .int (Mv 2), .int (Mv 3), .int (Mv 4), .int (Mv 5), .int (Mv 6), .int (Mv 7), .int (Mv 8), .ref (Ma 7), .int (Mv 9), .ref (Ma 8), .int (Mv 10), .ref (Ma 9), .ref (Ma 10), .int (Mv 11), .int (Mv 12), .int (Mv 13), .ref (Ma 11), .int (Mv 14), .ref (Ma 12), .ref (Ma 13), .ref (Ma 14), .ref (Ma 15), .ref (Ma 16), .long (Mj 0), .ref (Ma 17), .ref (Ma 18), .ref (Ma 19), .ref (Ma 20)])), ((Ma 10), .inl (tc 0, 126, .inl (Mf 10)))] := hD₀
      replace hS := hS₀
      clear hP₀ hD₀ hS₀
      have yl_he_19_0 : (0 : Int64).toInt = 0 := by decide
      have yl_he_19_1 : (1 : Int64).toInt = 1 := by decide
      simp only [i32_64] at he_19
      refine lv_if_ne (tgt := 32) hx hb dX12_best_26 (by decide) (fun c_21 => ?_) (fun c_21 => ?_)
      · skip
        refine lv_aload_n hx hb dX12_best_32 rfl (lv_at hl 0 rfl) ?_
        refine cV (a := (Ma 0)) (As := []) (rest := []) (wr := [((Ma 2), .inl (tc 0, 2400, .inl (Mf 2))), ((Ma 4), .inl (tc 0, 288, .inl (Mf 4))), ((Ma 5), .inl (tc 0, 6, .inl (Mf 5))), ((Ma 8), .inl (tc 1, 64, .inr (.inl (Mg 8)))), ((Ma 9), .inl (tc 1, 13, .inr (.inl (Mg 9))))]) ⟨hx, hb, hml, hown, hts⟩ hK hX hA (cu_X12_keeps l D tc sk (Ma 0) (Ma 1) (Ma 2) (Ma 3) (Ma 4) (Ma 5) (Ma 6) (Ma 7) (Ma 8) (Ma 9) (Ma 10) (Ma 11) (Ma 12) (Ma 13) (Ma 14) (Ma 15) (Ma 16) (Ma 17) (Ma 18) (Ma 19) (Ma 20) (Mv 0) (Mv 1) (Mv 2) (Mv 3) (Mv 4) (Mv 5) (Mv 6) (Mv 7) (Mv 8) (Mv 9) (Mv 10) (Mv 11) (Mv 12) (Mv 13) (Mv 14) (Mf 10) (Mf 12) (Mj 0) h_said) k_1505 k_1502 k_1504 k_80 k_106 pl_X12_keeps ⟨Nat.le_of_ble_eq_true rfl, Nat.le_of_ble_eq_true rfl⟩ rfl rfl (va_recv hK hP (ci := 12) (q0 := 6) rfl rfl) hP hD hS [6, 7, 5] [0, 1, 2, 3, 4] rfl rfl rfl rfl rfl (by decide) rfl hl.1 rfl (Nat.le_of_ble_eq_true rfl) dX12_best_33 ⟨Nat.le_of_ble_eq_true rfl, Nat.le_of_ble_eq_true rfl⟩ (fun v_22 u_23 H locs hv_24 hP₀ hD₀ hS₀ => ?_)
        obtain ⟨sv_25, rfl⟩ : ∃ z, z = u_23 := ⟨_, rfl⟩
        obtain ⟨rfl, pf_26⟩ := hv_24
        have pf_26 : KeptD sv_25 := pf_26
        refine W.eq (g2 := F0 m 36 ls []) rfl ?_
        replace hP : va_P D classes [((Ma 2), .inl (tc 0, 2400, .inl (Mf 2))), ((Ma 4), .inl (tc 0, 288, .inl (Mf 4))), ((Ma 5), .inl (tc 0, 6, .inl (Mf 5))), ((Ma 8), .inl (tc 1, 64, .inr (.inl (Mg 8)))), ((Ma 9), .inl (tc 1, 13, .inr (.inl (Mg 9)))), ((Ma 0), .inr (12, [.ref (Ma 1), .int (Mv 0), .int (Mv 1), .ref (Ma 2), .ref (Ma 3), .ref (Ma 4), .ref (Ma 5), .ref (Ma 6), .int (Mv 2), .int (Mv 3), .int (Mv 4), .int (Mv 5), .int (Mv 6), .int (Mv 7), .int (Mv 8), .ref (Ma 7), .int (Mv 9), .ref (Ma 8), .int (Mv 10), .ref (Ma 9), .ref (Ma 10), .int (Mv 11), .int (Mv 12), .int (Mv 13), .ref (Ma 11), .int (Mv 14), .ref (Ma 12), .ref (Ma 13), .ref (Ma 14), .ref (Ma 15), .ref (Ma 16), .long (Mj 0), .ref (Ma 17), .ref (Ma 18), .ref (Ma 19), .ref (Ma 20)])), ((Ma 10), .inl (tc 0, 126, .inl (Mf 10))), ((Ma 12), .inl (tc 0, 46, .inl sv_25))] H := hP₀
        replace hD : va_D A [((Ma 2), .inl (tc 0, 2400, .inl (Mf 2))), ((Ma 4), .inl (tc 0, 288, .inl (Mf 4))), ((Ma 5), .inl (tc 0, 6, .inl (Mf 5))), ((Ma 8), .inl (tc 1, 64, .inr (.inl (Mg 8)))), ((Ma 9), .inl (tc 1, 13, .inr (.inl (Mg 9)))), ((Ma 0), .inr (12, [.ref (Ma 1), .int (Mv 0), .int (Mv 1), .ref (Ma 2), .ref (Ma 3), .ref (Ma 4), .ref (Ma 5), .ref (Ma 6), .int (Mv 2), .int (Mv 3), .int (Mv 4), .int (Mv 5), .int (Mv 6), .int (Mv 7), .int (Mv 8), .ref (Ma 7), .int (Mv 9), .ref (Ma 8), .int (Mv 10), .ref (Ma 9), .ref (Ma 10), .int (Mv 11), .int (Mv 12), .int (Mv 13), .ref (Ma 11), .int (Mv 14), .ref (Ma 12), .ref (Ma 13), .ref (Ma 14), .ref (Ma 15), .ref (Ma 16), .long (Mj 0), .ref (Ma 17), .ref (Ma 18), .ref (Ma 19), .ref (Ma 20)])), ((Ma 10), .inl (tc 0, 126, .inl (Mf 10))), ((Ma 12), .inl (tc 0, 46, .inl sv_25))] := hD₀
        replace hS := hS₀
        clear hP₀ hD₀ hS₀
        refine lv_iconst (v := (-1)) hx hb dX12_best_36 (by decide) ?_
        refine lv_istore_n (lv' := [(3, .int (-1)), (0, .ref (Ma 0)), (1, .int x1), (2, .int x2)]) hx hb dX12_best_37 rfl hl (by decide) rfl (fun ls hl₀ => ?_)
        replace hl := hl₀
        clear hl₀
        refine lv_aload_n hx hb dX12_best_38 rfl (lv_at hl 1 rfl) ?_
        refine lv_iload_n hx hb dX12_best_39 rfl (lv_at hl 2 rfl) ?_
        have ha_27 : 0 ≤ x1.toInt ∧ x1.toInt ≤ 1000 := by
          have z_1 : ¬ (r_4 : Int32).toInt = (0 : Int32).toInt := fun z => c_7 (Int32.toInt_inj.mp z)
          have z_2 : ¬ (r_11 : Int32).toInt = (0 : Int32).toInt := fun z => c_14 (Int32.toInt_inj.mp z)
          have z_3 : ¬ (r_18 : Int32).toInt = (0 : Int32).toInt := fun z => c_21 (Int32.toInt_inj.mp z)
          have y_0 : (0 : Int32).toInt = 0 := by decide
          refine ⟨?_, ?_⟩ <;> omega
        refine cV (a := (Ma 0)) (As := [.int x1]) (rest := []) (wr := []) ⟨hx, hb, hml, hown, hts⟩ hK hX hA (cu_X12_soldIn l D tc sk (Ma 0) (Ma 1) (Ma 2) (Ma 3) (Ma 4) (Ma 5) (Ma 6) (Ma 7) (Ma 8) (Ma 9) (Ma 10) (Ma 11) (Ma 12) (Ma 13) (Ma 14) (Ma 15) (Ma 16) (Ma 17) (Ma 18) (Ma 19) (Ma 20) (Mv 0) (Mv 1) (Mv 2) (Mv 3) (Mv 4) (Mv 5) (Mv 6) (Mv 7) (Mv 8) (Mv 9) (Mv 10) (Mv 11) (Mv 12) (Mv 13) (Mv 14) (Mf 2) (Mf 4) (Mf 5) (Mf 10) sv_25 (Mj 0) (Mg 8) (Mg 9) x1 h_said pf_26 h_rul h_frc ha_27) k_1544 k_1541 k_1543 k_84 k_106 pl_X12_soldIn ⟨Nat.le_of_ble_eq_true rfl, Nat.le_of_ble_eq_true rfl⟩ rfl rfl (va_recv hK hP (ci := 12) (q0 := 5) rfl rfl) hP hD hS [5, 0, 1, 2, 3, 4, 6, 7] [] rfl rfl rfl rfl rfl (by decide) rfl hl.1 rfl (Nat.le_of_ble_eq_true rfl) dX12_best_40 ⟨Nat.le_of_ble_eq_true rfl, Nat.le_of_ble_eq_true rfl⟩ (fun v_28 u_29 H locs hv_30 hP₀ hD₀ hS₀ => ?_)
        obtain ⟨sv_31, sv_32, sv_33, sv_34⟩ := u_29
        obtain ⟨r_36, rfl, he_37, pf_35⟩ := hv_30
        have pf_35 : SaidD T sv_34 999 := pf_35
        have ar_pf_35 := SaidD.al pf_35
        refine W.eq (g2 := F0 m 43 ls [.int r_36]) rfl ?_
        replace hP : va_P D classes [((Ma 0), .inr (12, [.ref (Ma 1), .int (Mv 0), .int (Mv 1), .ref (Ma 2), .ref (Ma 3), .ref (Ma 4), .ref (Ma 5), .ref (Ma 6), .int (Mv 2), .int (Mv 3), .int (Mv 4), .int (Mv 5), .int (Mv 6), .int (Mv 7), .int (Mv 8), .ref (Ma 7), .int (Mv 9), .ref (Ma 8), .int sv_31, .ref (Ma 9), .ref (Ma 10), .int (Mv 11), .int (Mv 12), .int (Mv 13), .ref (Ma 11), .int (Mv 14), .ref (Ma 12), .ref (Ma 13), .ref (Ma 14), .ref (Ma 15), .ref (Ma 16), .long (Mj 0), .ref (Ma 17), .ref (Ma 18), .ref (Ma 19), .ref (Ma 20)])), ((Ma 2), .inl (tc 0, 2400, .inl (Mf 2))), ((Ma 4), .inl (tc 0, 288, .inl (Mf 4))), ((Ma 5), .inl (tc 0, 6, .inl (Mf 5))), ((Ma 8), .inl (tc 1, 64, .inr (.inl sv_32))), ((Ma 9), .inl (tc 1, 13, .inr (.inl sv_33))), ((Ma 10), .inl (tc 0, 126, .inl sv_34)), ((Ma 12), .inl (tc 0, 46, .inl sv_25))] H := hP₀
        replace hD : va_D A [((Ma 0), .inr (12, [.ref (Ma 1), .int (Mv 0), .int (Mv 1), .ref (Ma 2), .ref (Ma 3), .ref (Ma 4), .ref (Ma 5), .ref (Ma 6), .int (Mv 2), .int (Mv 3), .int (Mv 4), .int (Mv 5), .int (Mv 6), .int (Mv 7), .int (Mv 8), .ref (Ma 7), .int (Mv 9), .ref (Ma 8), .int sv_31, .ref (Ma 9), .ref (Ma 10), .int (Mv 11), .int (Mv 12), .int (Mv 13), .ref (Ma 11), .int (Mv 14), .ref (Ma 12), .ref (Ma 13), .ref (Ma 14), .ref (Ma 15), .ref (Ma 16), .long (Mj 0), .ref (Ma 17), .ref (Ma 18), .ref (Ma 19), .ref (Ma 20)])), ((Ma 2), .inl (tc 0, 2400, .inl (Mf 2))), ((Ma 4), .inl (tc 0, 288, .inl (Mf 4))), ((Ma 5), .inl (tc 0, 6, .inl (Mf 5))), ((Ma 8), .inl (tc 1, 64, .inr (.inl sv_32))), ((Ma 9), .inl (tc 1, 13, .inr (.inl sv_33))), ((Ma 10), .inl (tc 0, 126, .inl sv_34)), ((Ma 12), .inl (tc 0, 46, .inl sv_25))] := hD₀
        replace hS := hS₀
        clear hP₀ hD₀ hS₀
        refine lv_istore (lv' := [(4, .int r_36), (3, .int (-1)), (0, .ref (Ma 0)), (1, .int x1), (2, .int x2)]) hx hb dX12_best_43 hl (by decide) rfl (fun ls hl₀ => ?_)
        replace hl := hl₀
        clear hl₀
        refine lv_iconst (v := 0) hx hb dX12_best_45 (by decide) ?_
        refine lv_istore (lv' := [(5, .int 0), (4, .int r_36), (3, .int (-1)), (0, .ref (Ma 0)), (1, .int x1), (2, .int x2)]) hx hb dX12_best_46 hl (by decide) rfl (fun ls hl₀ => ?_)
        replace hl := hl₀
        clear hl₀
        have loop_57 : ∀ (n_55 : Nat) (vy_47 : Int32) (vy_48 : Int32) (vy_49 : Int32) (vy_50 : Int32) (vy_51 : Int32) (vy_52 : Nat → Int64) (vy_53 : Nat → Int64) (vy_54 : Nat → Int32) (H : Heap) (locs : List Loc) (ls : Array Slot), (2147483647 - (vy_47 : Int32).toInt).toNat < n_55 → (0 ≤ (vy_47 : Int32).toInt) → (SaidD T vy_54 999) → va_P D classes [((Ma 0), .inr (12, [.ref (Ma 1), .int (Mv 0), .int (Mv 1), .ref (Ma 2), .ref (Ma 3), .ref (Ma 4), .ref (Ma 5), .ref (Ma 6), .int (Mv 2), .int (Mv 3), .int (Mv 4), .int (Mv 5), .int (Mv 6), .int (Mv 7), .int (Mv 8), .ref (Ma 7), .int (Mv 9), .ref (Ma 8), .int vy_50, .ref (Ma 9), .ref (Ma 10), .int (Mv 11), .int (Mv 12), .int vy_51, .ref (Ma 11), .int (Mv 14), .ref (Ma 12), .ref (Ma 13), .ref (Ma 14), .ref (Ma 15), .ref (Ma 16), .long (Mj 0), .ref (Ma 17), .ref (Ma 18), .ref (Ma 19), .ref (Ma 20)])), ((Ma 2), .inl (tc 0, 2400, .inl (Mf 2))), ((Ma 4), .inl (tc 0, 288, .inl (Mf 4))), ((Ma 5), .inl (tc 0, 6, .inl (Mf 5))), ((Ma 8), .inl (tc 1, 64, .inr (.inl vy_52))), ((Ma 9), .inl (tc 1, 13, .inr (.inl vy_53))), ((Ma 10), .inl (tc 0, 126, .inl vy_54)), ((Ma 12), .inl (tc 0, 46, .inl sv_25))] H → va_D A [((Ma 0), .inr (12, [.ref (Ma 1), .int (Mv 0), .int (Mv 1), .ref (Ma 2), .ref (Ma 3), .ref (Ma 4), .ref (Ma 5), .ref (Ma 6), .int (Mv 2), .int (Mv 3), .int (Mv 4), .int (Mv 5), .int (Mv 6), .int (Mv 7), .int (Mv 8), .ref (Ma 7), .int (Mv 9), .ref (Ma 8), .int vy_50, .ref (Ma 9), .ref (Ma 10), .int (Mv 11), .int (Mv 12), .int vy_51, .ref (Ma 11), .int (Mv 14), .ref (Ma 12), .ref (Ma 13), .ref (Ma 14), .ref (Ma 15), .ref (Ma 16), .long (Mj 0), .ref (Ma 17), .ref (Ma 18), .ref (Ma 19), .ref (Ma 20)])), ((Ma 2), .inl (tc 0, 2400, .inl (Mf 2))), ((Ma 4), .inl (tc 0, 288, .inl (Mf 4))), ((Ma 5), .inl (tc 0, 6, .inl (Mf 5))), ((Ma 8), .inl (tc 1, 64, .inr (.inl vy_52))), ((Ma 9), .inl (tc 1, 13, .inr (.inl vy_53))), ((Ma 10), .inl (tc 0, 126, .inl vy_54)), ((Ma 12), .inl (tc 0, 46, .inl sv_25))] → va_S A s.heap H locs → lv_has ls 7 [(5, .int vy_47), (4, .int vy_48), (3, .int vy_49), (0, .ref (Ma 0)), (1, .int x1), (2, .int x2)] → W p l e ({ frames := 7, cells := 0, slots := 0, locals := 166 }) s m ([.ref (Ma 0), .int x1, .int x2].toArray) below meth c H locs 0 0 (MQ below (QW (fun (v : Option Value) (u : (Int32) × (Int32) × (Nat → Int64) × (Nat → Int64) × (Nat → Int32) × (Nat → Int32)) => match u with | (oo0x1, oo0x2, oo0x3, oo0x4, oo0x5, oo0x6) => ∃ r : Int32, v = some (.int r) ∧ (True) ∧ (SaidD T oo0x5 999) ∧ (GdZ oo0x2)) (BW D (fun (u : (Int32) × (Int32) × (Nat → Int64) × (Nat → Int64) × (Nat → Int32) × (Nat → Int32)) => match u with | (oo0x1, oo0x2, oo0x3, oo0x4, oo0x5, oo0x6) => [((Ma 0), .inr (12, [.ref (Ma 1), .int (Mv 0), .int (Mv 1), .ref (Ma 2), .ref (Ma 3), .ref (Ma 4), .ref (Ma 5), .ref (Ma 6), .int (Mv 2), .int (Mv 3), .int (Mv 4), .int (Mv 5), .int (Mv 6), .int (Mv 7), .int (Mv 8), .ref (Ma 7), .int (Mv 9), .ref (Ma 8), .int oo0x1, .ref (Ma 9), .ref (Ma 10), .int (Mv 11), .int (Mv 12), .int oo0x2, .ref (Ma 11), .int (Mv 14), .ref (Ma 12), .ref (Ma 13), .ref (Ma 14), .ref (Ma 15), .ref (Ma 16), .long (Mj 0), .ref (Ma 17), .ref (Ma 18), .ref (Ma 19), .ref (Ma 20)])), ((Ma 2), .inl (tc 0, 2400, .inl (Mf 2))), ((Ma 4), .inl (tc 0, 288, .inl (Mf 4))), ((Ma 5), .inl (tc 0, 6, .inl (Mf 5))), ((Ma 8), .inl (tc 1, 64, .inr (.inl oo0x3))), ((Ma 9), .inl (tc 1, 13, .inr (.inl oo0x4))), ((Ma 10), .inl (tc 0, 126, .inl oo0x5)), ((Ma 12), .inl (tc 0, 46, .inl oo0x6))]) A) A) ([.ref (Ma 0), .int x1, .int x2].toArray) s 0 0 A) (F0 m 48 ls []) := by
          clear hP hD hS hl
          intro n_55
          induction n_55 with
          | zero =>
            intro vy_47 vy_48 vy_49 vy_50 vy_51 vy_52 vy_53 vy_54 H locs ls h1
            exact absurd h1 (Nat.not_lt_zero _)
          | succ n_55 ih_56 =>
            intro vy_47 vy_48 vy_49 vy_50 vy_51 vy_52 vy_53 vy_54 H locs ls hn_60 pf_58 pf_59 hP hD hS hl
            have ar_pf_59 := SaidD.al pf_59
            refine lv_iload hx hb dX12_best_48 (lv_at hl 0 rfl) ?_
            refine lv_aload_n hx hb dX12_best_50 rfl (lv_at hl 3 rfl) ?_
            refine gf_X12_39 hx hb hts hown hK hP 0 rfl rfl dX12_best_51 ?_
            refine lv_iconst (v := 2) hx hb dX12_best_54 (by decide) ?_
            refine va_iald hx hb hK hP 6 0 rfl rfl (vin_dec (by decide +kernel)) dX12_best_55 ?_
            refine lv_topi (fun x_61 ex_61 => ?_)
            have lx_61 : x_61.toInt = (vy_54 2).toInt := congrArg Int32.toInt ex_61
            refine lv_icmp_ge (tgt := 97) hx hb dX12_best_56 (by decide) (fun c_62 => ?_) (fun c_62 => ?_)
            · skip
              refine lv_aload_n hx hb dX12_best_97 rfl (lv_at hl 3 rfl) ?_
              refine lv_iconst (v := 0) hx hb dX12_best_98 (by decide) ?_
              refine pf_X12_324 hx hb hts hown hK hP hD hS 0 rfl (Nat.le_of_ble_eq_true rfl) rfl rfl dX12_best_99 (fun H locs hP₀ hD₀ hS₀ => ?_)
              replace hP : va_P D classes [((Ma 0), .inr (12, [.ref (Ma 1), .int (Mv 0), .int (Mv 1), .ref (Ma 2), .ref (Ma 3), .ref (Ma 4), .ref (Ma 5), .ref (Ma 6), .int (Mv 2), .int (Mv 3), .int (Mv 4), .int (Mv 5), .int (Mv 6), .int (Mv 7), .int (Mv 8), .ref (Ma 7), .int (Mv 9), .ref (Ma 8), .int vy_50, .ref (Ma 9), .ref (Ma 10), .int (Mv 11), .int (Mv 12), .int 0, .ref (Ma 11), .int (Mv 14), .ref (Ma 12), .ref (Ma 13), .ref (Ma 14), .ref (Ma 15), .ref (Ma 16), .long (Mj 0), .ref (Ma 17), .ref (Ma 18), .ref (Ma 19), .ref (Ma 20)])), ((Ma 2), .inl (tc 0, 2400, .inl (Mf 2))), ((Ma 4), .inl (tc 0, 288, .inl (Mf 4))), ((Ma 5), .inl (tc 0, 6, .inl (Mf 5))), ((Ma 8), .inl (tc 1, 64, .inr (.inl vy_52))), ((Ma 9), .inl (tc 1, 13, .inr (.inl vy_53))), ((Ma 10), .inl (tc 0, 126, .inl vy_54)), ((Ma 12), .inl (tc 0, 46, .inl sv_25))] H := hP₀
              replace hD : va_D A [((Ma 0), .inr (12, [.ref (Ma 1), .int (Mv 0), .int (Mv 1), .ref (Ma 2), .ref (Ma 3), .ref (Ma 4), .ref (Ma 5), .ref (Ma 6), .int (Mv 2), .int (Mv 3), .int (Mv 4), .int (Mv 5), .int (Mv 6), .int (Mv 7), .int (Mv 8), .ref (Ma 7), .int (Mv 9), .ref (Ma 8), .int vy_50, .ref (Ma 9), .ref (Ma 10), .int (Mv 11), .int (Mv 12), .int 0, .ref (Ma 11), .int (Mv 14), .ref (Ma 12), .ref (Ma 13), .ref (Ma 14), .ref (Ma 15), .ref (Ma 16), .long (Mj 0), .ref (Ma 17), .ref (Ma 18), .ref (Ma 19), .ref (Ma 20)])), ((Ma 2), .inl (tc 0, 2400, .inl (Mf 2))), ((Ma 4), .inl (tc 0, 288, .inl (Mf 4))), ((Ma 5), .inl (tc 0, 6, .inl (Mf 5))), ((Ma 8), .inl (tc 1, 64, .inr (.inl vy_52))), ((Ma 9), .inl (tc 1, 13, .inr (.inl vy_53))), ((Ma 10), .inl (tc 0, 126, .inl vy_54)), ((Ma 12), .inl (tc 0, 46, .inl sv_25))] := hD₀
              replace hS := hS₀
              clear hP₀ hD₀ hS₀
              refine lv_iload_n hx hb dX12_best_102 rfl (lv_at hl 5 rfl) ?_
              refine lv_if_ne (tgt := 110) hx hb dX12_best_103 (by decide) (fun c_63 => ?_) (fun c_63 => ?_)
              · skip
                refine lv_iload hx hb dX12_best_110 (lv_at hl 1 rfl) ?_
                exact retI (v := vy_48) hx hb hr hlk (rfl) hP hD hS (vy_50, 0, vy_52, vy_53, vy_54, sv_25) ⟨_, rfl, trivial, pf_59, (rfl)⟩ [0, 1, 2, 3, 4, 5, 6, 7] rfl rfl dX12_best_112 (Nat.le_of_ble_eq_true rfl) (Nat.le_of_ble_eq_true rfl) rfl
              · skip
                refine lv_iload_n hx hb dX12_best_106 rfl (lv_at hl 2 rfl) ?_
                refine lv_goto (tgt := 112) hx hb dX12_best_107 (by decide) ?_
                exact retI (v := vy_49) hx hb hr hlk (rfl) hP hD hS (vy_50, 0, vy_52, vy_53, vy_54, sv_25) ⟨_, rfl, trivial, pf_59, (rfl)⟩ [0, 1, 2, 3, 4, 5, 6, 7] rfl rfl dX12_best_112 (Nat.le_of_ble_eq_true rfl) (Nat.le_of_ble_eq_true rfl) rfl
            · skip
              have hm_k_64 := i32_le (vy_47 : Int32)
              have hm_k_65 := i32_le (x_61 : Int32)
              refine lv_aload_n hx hb dX12_best_59 rfl (lv_at hl 3 rfl) ?_
              refine lv_iconst (v := 1) hx hb dX12_best_60 (by decide) ?_
              refine lv_iload hx hb dX12_best_61 (lv_at hl 0 rfl) ?_
              refine lv_ishl hx hb dX12_best_63 ?_
              refine lv_topi (fun x_66 ex_66 => ?_)
              refine pf_X12_324 hx hb hts hown hK hP hD hS 0 rfl (Nat.le_of_ble_eq_true rfl) rfl rfl dX12_best_64 (fun H locs hP₀ hD₀ hS₀ => ?_)
              replace hP : va_P D classes [((Ma 0), .inr (12, [.ref (Ma 1), .int (Mv 0), .int (Mv 1), .ref (Ma 2), .ref (Ma 3), .ref (Ma 4), .ref (Ma 5), .ref (Ma 6), .int (Mv 2), .int (Mv 3), .int (Mv 4), .int (Mv 5), .int (Mv 6), .int (Mv 7), .int (Mv 8), .ref (Ma 7), .int (Mv 9), .ref (Ma 8), .int vy_50, .ref (Ma 9), .ref (Ma 10), .int (Mv 11), .int (Mv 12), .int x_66, .ref (Ma 11), .int (Mv 14), .ref (Ma 12), .ref (Ma 13), .ref (Ma 14), .ref (Ma 15), .ref (Ma 16), .long (Mj 0), .ref (Ma 17), .ref (Ma 18), .ref (Ma 19), .ref (Ma 20)])), ((Ma 2), .inl (tc 0, 2400, .inl (Mf 2))), ((Ma 4), .inl (tc 0, 288, .inl (Mf 4))), ((Ma 5), .inl (tc 0, 6, .inl (Mf 5))), ((Ma 8), .inl (tc 1, 64, .inr (.inl vy_52))), ((Ma 9), .inl (tc 1, 13, .inr (.inl vy_53))), ((Ma 10), .inl (tc 0, 126, .inl vy_54)), ((Ma 12), .inl (tc 0, 46, .inl sv_25))] H := hP₀
              replace hD : va_D A [((Ma 0), .inr (12, [.ref (Ma 1), .int (Mv 0), .int (Mv 1), .ref (Ma 2), .ref (Ma 3), .ref (Ma 4), .ref (Ma 5), .ref (Ma 6), .int (Mv 2), .int (Mv 3), .int (Mv 4), .int (Mv 5), .int (Mv 6), .int (Mv 7), .int (Mv 8), .ref (Ma 7), .int (Mv 9), .ref (Ma 8), .int vy_50, .ref (Ma 9), .ref (Ma 10), .int (Mv 11), .int (Mv 12), .int x_66, .ref (Ma 11), .int (Mv 14), .ref (Ma 12), .ref (Ma 13), .ref (Ma 14), .ref (Ma 15), .ref (Ma 16), .long (Mj 0), .ref (Ma 17), .ref (Ma 18), .ref (Ma 19), .ref (Ma 20)])), ((Ma 2), .inl (tc 0, 2400, .inl (Mf 2))), ((Ma 4), .inl (tc 0, 288, .inl (Mf 4))), ((Ma 5), .inl (tc 0, 6, .inl (Mf 5))), ((Ma 8), .inl (tc 1, 64, .inr (.inl vy_52))), ((Ma 9), .inl (tc 1, 13, .inr (.inl vy_53))), ((Ma 10), .inl (tc 0, 126, .inl vy_54)), ((Ma 12), .inl (tc 0, 46, .inl sv_25))] := hD₀
              replace hS := hS₀
              clear hP₀ hD₀ hS₀
              refine lv_aload_n hx hb dX12_best_67 rfl (lv_at hl 3 rfl) ?_
              refine lv_iload_n hx hb dX12_best_68 rfl (lv_at hl 4 rfl) ?_
              have ha_67 : 0 ≤ x1.toInt ∧ x1.toInt ≤ 1000 := by
                have z_1 : ¬ (r_4 : Int32).toInt = (0 : Int32).toInt := fun z => c_7 (Int32.toInt_inj.mp z)
                have z_2 : ¬ (r_11 : Int32).toInt = (0 : Int32).toInt := fun z => c_14 (Int32.toInt_inj.mp z)
                have z_3 : ¬ (r_18 : Int32).toInt = (0 : Int32).toInt := fun z => c_21 (Int32.toInt_inj.mp z)
                have z_4 := Int32.lt_iff_toInt_lt.mp (Int32.not_le.mp c_62)
                have y_0 : (0 : Int32).toInt = 0 := by decide
                refine ⟨?_, ?_⟩ <;> omega
              refine cV (a := (Ma 0)) (As := [.int x1]) (rest := []) (wr := []) ⟨hx, hb, hml, hown, hts⟩ hK hX hA (cu_X12_soldIn l D tc sk (Ma 0) (Ma 1) (Ma 2) (Ma 3) (Ma 4) (Ma 5) (Ma 6) (Ma 7) (Ma 8) (Ma 9) (Ma 10) (Ma 11) (Ma 12) (Ma 13) (Ma 14) (Ma 15) (Ma 16) (Ma 17) (Ma 18) (Ma 19) (Ma 20) (Mv 0) (Mv 1) (Mv 2) (Mv 3) (Mv 4) (Mv 5) (Mv 6) (Mv 7) (Mv 8) (Mv 9) vy_50 (Mv 11) (Mv 12) x_66 (Mv 14) (Mf 2) (Mf 4) (Mf 5) vy_54 sv_25 (Mj 0) vy_52 vy_53 x1 pf_59 pf_26 h_rul h_frc ha_67) k_1544 k_1541 k_1543 k_84 k_106 pl_X12_soldIn ⟨Nat.le_of_ble_eq_true rfl, Nat.le_of_ble_eq_true rfl⟩ rfl rfl (va_recv hK hP (ci := 12) (q0 := 0) rfl rfl) hP hD hS [0, 1, 2, 3, 4, 5, 6, 7] [] rfl rfl rfl rfl rfl (by decide) rfl hl.1 rfl (Nat.le_of_ble_eq_true rfl) dX12_best_69 ⟨Nat.le_of_ble_eq_true rfl, Nat.le_of_ble_eq_true rfl⟩ (fun v_68 u_69 H locs hv_70 hP₀ hD₀ hS₀ => ?_)
              obtain ⟨sv_71, sv_72, sv_73, sv_74⟩ := u_69
              obtain ⟨r_76, rfl, he_77, pf_75⟩ := hv_70
              have pf_75 : SaidD T sv_74 999 := pf_75
              have ar_pf_75 := SaidD.al pf_75
              refine W.eq (g2 := F0 m 72 ls [.int r_76]) rfl ?_
              replace hP : va_P D classes [((Ma 0), .inr (12, [.ref (Ma 1), .int (Mv 0), .int (Mv 1), .ref (Ma 2), .ref (Ma 3), .ref (Ma 4), .ref (Ma 5), .ref (Ma 6), .int (Mv 2), .int (Mv 3), .int (Mv 4), .int (Mv 5), .int (Mv 6), .int (Mv 7), .int (Mv 8), .ref (Ma 7), .int (Mv 9), .ref (Ma 8), .int sv_71, .ref (Ma 9), .ref (Ma 10), .int (Mv 11), .int (Mv 12), .int x_66, .ref (Ma 11), .int (Mv 14), .ref (Ma 12), .ref (Ma 13), .ref (Ma 14), .ref (Ma 15), .ref (Ma 16), .long (Mj 0), .ref (Ma 17), .ref (Ma 18), .ref (Ma 19), .ref (Ma 20)])), ((Ma 2), .inl (tc 0, 2400, .inl (Mf 2))), ((Ma 4), .inl (tc 0, 288, .inl (Mf 4))), ((Ma 5), .inl (tc 0, 6, .inl (Mf 5))), ((Ma 8), .inl (tc 1, 64, .inr (.inl sv_72))), ((Ma 9), .inl (tc 1, 13, .inr (.inl sv_73))), ((Ma 10), .inl (tc 0, 126, .inl sv_74)), ((Ma 12), .inl (tc 0, 46, .inl sv_25))] H := hP₀
              replace hD : va_D A [((Ma 0), .inr (12, [.ref (Ma 1), .int (Mv 0), .int (Mv 1), .ref (Ma 2), .ref (Ma 3), .ref (Ma 4), .ref (Ma 5), .ref (Ma 6), .int (Mv 2), .int (Mv 3), .int (Mv 4), .int (Mv 5), .int (Mv 6), .int (Mv 7), .int (Mv 8), .ref (Ma 7), .int (Mv 9), .ref (Ma 8), .int sv_71, .ref (Ma 9), .ref (Ma 10), .int (Mv 11), .int (Mv 12), .int x_66, .ref (Ma 11), .int (Mv 14), .ref (Ma 12), .ref (Ma 13), .ref (Ma 14), .ref (Ma 15), .ref (Ma 16), .long (Mj 0), .ref (Ma 17), .ref (Ma 18), .ref (Ma 19), .ref (Ma 20)])), ((Ma 2), .inl (tc 0, 2400, .inl (Mf 2))), ((Ma 4), .inl (tc 0, 288, .inl (Mf 4))), ((Ma 5), .inl (tc 0, 6, .inl (Mf 5))), ((Ma 8), .inl (tc 1, 64, .inr (.inl sv_72))), ((Ma 9), .inl (tc 1, 13, .inr (.inl sv_73))), ((Ma 10), .inl (tc 0, 126, .inl sv_74)), ((Ma 12), .inl (tc 0, 46, .inl sv_25))] := hD₀
              replace hS := hS₀
              clear hP₀ hD₀ hS₀
              refine lv_istore (lv' := [(6, .int r_76), (5, .int vy_47), (4, .int vy_48), (3, .int vy_49), (0, .ref (Ma 0)), (1, .int x1), (2, .int x2)]) hx hb dX12_best_72 hl (by decide) rfl (fun ls hl₀ => ?_)
              replace hl := hl₀
              clear hl₀
              refine lv_iload hx hb dX12_best_74 (lv_at hl 0 rfl) ?_
              refine lv_iload hx hb dX12_best_76 (lv_at hl 2 rfl) ?_
              refine lv_icmp_lt (tgt := 84) hx hb dX12_best_78 (by decide) (fun c_79 => ?_) (fun c_79 => ?_)
              · skip
                refine lv_iload hx hb dX12_best_84 (lv_at hl 1 rfl) ?_
                refine lv_istore_n (lv' := [(3, .int vy_47), (6, .int r_76), (5, .int vy_47), (4, .int vy_48), (0, .ref (Ma 0)), (1, .int x1), (2, .int x2)]) hx hb dX12_best_86 rfl hl (by decide) rfl (fun ls hl₀ => ?_)
                replace hl := hl₀
                clear hl₀
                refine lv_iload hx hb dX12_best_87 (lv_at hl 1 rfl) ?_
                refine lv_istore (lv' := [(4, .int r_76), (3, .int vy_47), (6, .int r_76), (5, .int vy_47), (0, .ref (Ma 0)), (1, .int x1), (2, .int x2)]) hx hb dX12_best_89 hl (by decide) rfl (fun ls hl₀ => ?_)
                replace hl := hl₀
                clear hl₀
                obtain ⟨x_80, ex_80⟩ : ∃ y : Int32, y = vy_47 + 1 := ⟨_, rfl⟩
                refine lv_iinc (v := x_80) (lv' := [(5, .int x_80), (4, .int r_76), (3, .int vy_47), (6, .int r_76), (0, .ref (Ma 0)), (1, .int x1), (2, .int x2)]) hx hb dX12_best_91 hl (k := 3) rfl (by rw [ex_80]; rfl) (by decide) rfl (fun ls hl₀ => ?_)
                replace hl := hl₀
                clear hl₀
                refine lv_goto (tgt := 48) hx hb dX12_best_94 (by decide) ?_
                have hb_81 : 2147483647 - (x_80 : Int32).toInt < 2147483647 - (vy_47 : Int32).toInt ∧ 1 ≤ 2147483647 - (vy_47 : Int32).toInt := by
                  have z_1 : ¬ (r_4 : Int32).toInt = (0 : Int32).toInt := fun z => c_7 (Int32.toInt_inj.mp z)
                  have z_2 : ¬ (r_11 : Int32).toInt = (0 : Int32).toInt := fun z => c_14 (Int32.toInt_inj.mp z)
                  have z_3 : ¬ (r_18 : Int32).toInt = (0 : Int32).toInt := fun z => c_21 (Int32.toInt_inj.mp z)
                  have z_4 := Int32.lt_iff_toInt_lt.mp (Int32.not_le.mp c_62)
                  have z_5 := Int32.lt_iff_toInt_lt.mp c_79
                  have y_0 : (0 : Int32).toInt = 0 := by decide
                  have y_1 : (1 : Int32).toInt = 1 := by decide
                  have t_x_80 : x_80.toInt = (vy_47 : Int32).toInt + (1 : Int32).toInt := by rw [ex_80]; exact add_toInt (by omega) (by omega)
                  refine ⟨?_, ?_⟩ <;> omega
                have ha_82 : 0 ≤ (x_80 : Int32).toInt := by
                  have z_1 : ¬ (r_4 : Int32).toInt = (0 : Int32).toInt := fun z => c_7 (Int32.toInt_inj.mp z)
                  have z_2 : ¬ (r_11 : Int32).toInt = (0 : Int32).toInt := fun z => c_14 (Int32.toInt_inj.mp z)
                  have z_3 : ¬ (r_18 : Int32).toInt = (0 : Int32).toInt := fun z => c_21 (Int32.toInt_inj.mp z)
                  have z_4 := Int32.lt_iff_toInt_lt.mp (Int32.not_le.mp c_62)
                  have z_5 := Int32.lt_iff_toInt_lt.mp c_79
                  have y_0 : (0 : Int32).toInt = 0 := by decide
                  have y_1 : (1 : Int32).toInt = 1 := by decide
                  have t_x_80 : x_80.toInt = (vy_47 : Int32).toInt + (1 : Int32).toInt := by rw [ex_80]; exact add_toInt (by omega) (by omega)
                  omega
                exact ih_56 x_80 r_76 vy_47 sv_71 x_66 sv_72 sv_73 sv_74 _ _ _ (by omega) ha_82 pf_75 (hP.sub [0, 1, 2, 3, 4, 5, 6, 7] rfl) (hD.sub [0, 1, 2, 3, 4, 5, 6, 7] rfl rfl) hS (lv_sub hl [0, 1, 2, 4, 5, 6] rfl)
              · skip
                refine lv_goto (tgt := 91) hx hb dX12_best_81 (by decide) ?_
                obtain ⟨x_83, ex_83⟩ : ∃ y : Int32, y = vy_47 + 1 := ⟨_, rfl⟩
                refine lv_iinc (v := x_83) (lv' := [(5, .int x_83), (6, .int r_76), (4, .int vy_48), (3, .int vy_49), (0, .ref (Ma 0)), (1, .int x1), (2, .int x2)]) hx hb dX12_best_91 hl (k := 1) rfl (by rw [ex_83]; rfl) (by decide) rfl (fun ls hl₀ => ?_)
                replace hl := hl₀
                clear hl₀
                refine lv_goto (tgt := 48) hx hb dX12_best_94 (by decide) ?_
                have hb_84 : 2147483647 - (x_83 : Int32).toInt < 2147483647 - (vy_47 : Int32).toInt ∧ 1 ≤ 2147483647 - (vy_47 : Int32).toInt := by
                  have z_1 : ¬ (r_4 : Int32).toInt = (0 : Int32).toInt := fun z => c_7 (Int32.toInt_inj.mp z)
                  have z_2 : ¬ (r_11 : Int32).toInt = (0 : Int32).toInt := fun z => c_14 (Int32.toInt_inj.mp z)
                  have z_3 : ¬ (r_18 : Int32).toInt = (0 : Int32).toInt := fun z => c_21 (Int32.toInt_inj.mp z)
                  have z_4 := Int32.lt_iff_toInt_lt.mp (Int32.not_le.mp c_62)
                  have z_5 := Int32.le_iff_toInt_le.mp (Int32.not_lt.mp c_79)
                  have y_0 : (0 : Int32).toInt = 0 := by decide
                  have y_1 : (1 : Int32).toInt = 1 := by decide
                  have t_x_83 : x_83.toInt = (vy_47 : Int32).toInt + (1 : Int32).toInt := by rw [ex_83]; exact add_toInt (by omega) (by omega)
                  refine ⟨?_, ?_⟩ <;> omega
                have ha_85 : 0 ≤ (x_83 : Int32).toInt := by
                  have z_1 : ¬ (r_4 : Int32).toInt = (0 : Int32).toInt := fun z => c_7 (Int32.toInt_inj.mp z)
                  have z_2 : ¬ (r_11 : Int32).toInt = (0 : Int32).toInt := fun z => c_14 (Int32.toInt_inj.mp z)
                  have z_3 : ¬ (r_18 : Int32).toInt = (0 : Int32).toInt := fun z => c_21 (Int32.toInt_inj.mp z)
                  have z_4 := Int32.lt_iff_toInt_lt.mp (Int32.not_le.mp c_62)
                  have z_5 := Int32.le_iff_toInt_le.mp (Int32.not_lt.mp c_79)
                  have y_0 : (0 : Int32).toInt = 0 := by decide
                  have y_1 : (1 : Int32).toInt = 1 := by decide
                  have t_x_83 : x_83.toInt = (vy_47 : Int32).toInt + (1 : Int32).toInt := by rw [ex_83]; exact add_toInt (by omega) (by omega)
                  omega
                exact ih_56 x_83 vy_48 vy_49 sv_71 x_66 sv_72 sv_73 sv_74 _ _ _ (by omega) ha_85 pf_75 (hP.sub [0, 1, 2, 3, 4, 5, 6, 7] rfl) (hD.sub [0, 1, 2, 3, 4, 5, 6, 7] rfl rfl) hS (lv_sub hl [0, 2, 3, 4, 5, 6] rfl)
        have ha_86 : 0 ≤ (0 : Int32).toInt := by
          have z_1 : ¬ (r_4 : Int32).toInt = (0 : Int32).toInt := fun z => c_7 (Int32.toInt_inj.mp z)
          have z_2 : ¬ (r_11 : Int32).toInt = (0 : Int32).toInt := fun z => c_14 (Int32.toInt_inj.mp z)
          have z_3 : ¬ (r_18 : Int32).toInt = (0 : Int32).toInt := fun z => c_21 (Int32.toInt_inj.mp z)
          have y_0 : (0 : Int32).toInt = 0 := by decide
          omega
        exact loop_57 _ 0 r_36 (-1) sv_31 (Mv 13) sv_32 sv_33 sv_34 _ _ _ (Nat.lt_succ_self _) ha_86 pf_35 hP hD hS hl
      · skip
        refine lv_bipush (v := (-2)) hx hb dX12_best_29 (by decide) ?_
        exact retI (v := (-2)) hx hb hr hlk (rfl) hP hD hS ((Mv 10), (Mv 13), (Mg 8), (Mg 9), (Mf 10), (Mf 12)) ⟨_, rfl, trivial, h_said, h_gd⟩ [6, 0, 1, 2, 3, 4, 7, 5] rfl rfl dX12_best_31 (Nat.le_of_ble_eq_true rfl) (Nat.le_of_ble_eq_true rfl) rfl
/-! a call of a method of an object whose world is known by a predicate alone -/
def Rdy (l : Launch) (y : MethodName) (b : ByteArray) (n : Nat) (r : Option FieldType) (D : va_G) (tc : Nat → ClassId) (sk : (Nat → Nat) × (Nat → Nat)) (av : List Value) (I : va_W → Prop) (J : Option Value → va_W → Prop) (Fr Lc Cl Sl : Nat) : Prop :=
  ∀ ws, I ws → ∃ (S : Type) (rm : Room) (mc ms : Nat) (pre wr : va_W) (post : Option Value → S → Prop) (cellsf : S → va_W), Ct l y b n r rm D tc sk av pre post cellsf mc ms ∧ (rm.frames ≤ Fr ∧ rm.locals ≤ Lc ∧ rm.cells = mc ∧ rm.slots = ms ∧ mc ≤ Cl ∧ ms ≤ Sl) ∧ ws.Perm (pre ++ wr) ∧ ∀ v u, post v u → J v (cellsf u ++ wr)
theorem perm_placesN {α : Type} {n : Nat} (is : List Nat) (ws ws' : List α) (hn : ws.length = n) (hp : is.Perm (List.range n)) (h : is.map (fun i => ws[i]?) = ws'.map some) : ws.Perm ws' := by
  subst hn
  exact perm_places is ws ws' hp h
theorem pm_out {E pre wr T ws : va_W} (h : ws.Perm (E ++ T)) (p : E.Perm (pre ++ wr)) : ws.Perm (pre ++ (wr ++ T)) := by
  refine h.trans ((p.append_right T).trans ?_)
  rw [List.append_assoc]
theorem pm_in {E X wr T : va_W} (p : (X ++ wr).Perm E) : (X ++ (wr ++ T)).Perm (E ++ T) := by
  rw [← List.append_assoc]
  exact p.append_right T
theorem pm_swap (E A B C : va_W) : (E ++ (A ++ (B ++ C))).Perm (E ++ (B ++ (A ++ C))) := by
  refine List.Perm.append_left E ?_
  rw [← List.append_assoc, ← List.append_assoc]
  exact List.perm_append_comm.append_right C
theorem pm_take {E ws T : va_W} {s : Nat → va_W} {n j : Nat} (h : ws.Perm (E ++ (flatS s n ++ T))) (hj : j < n) : ws.Perm ((E ++ s j) ++ (flatS (va_up s j []) n ++ T)) := by
  refine h.trans ?_
  rw [List.append_assoc]
  refine List.Perm.append_left E ?_
  refine ((flatS_take s hj).append_right T).trans ?_
  rw [List.append_assoc]
theorem pm_put {E X g T : va_W} {s : Nat → va_W} {n j : Nat} (p : X.Perm (E ++ g)) (hj : j < n) (h0 : s j = []) : (X ++ (flatS s n ++ T)).Perm (E ++ (flatS (va_up s j g) n ++ T)) := by
  refine (p.append_right _).trans ?_
  rw [List.append_assoc]
  refine List.Perm.append_left E ?_
  rw [← List.append_assoc]
  exact (flatS_put hj h0 g).append_right T
theorem up_same {s : Nat → va_W} {j : Nat} {g : va_W} : va_up (va_up s j []) j g = va_up s j g := by
  funext k
  unfold va_up
  by_cases h : k = j
  · rw [if_pos h, if_pos h]
  · rw [if_neg h, if_neg h, if_neg h]
section RDY
variable {p : Program} {l : Launch} {e : Env} {R : Room} {s : State} {m : MethodId} {args : Array Value} {below : List Frame} {meth : Method} {c : Code} {H : Heap} {locs : List Loc} {cells slots : Nat} {Q : State → Prop}
variable {cc b : ByteArray} {pc : Nat} {ls : Array Slot} {rest st0 : List Value} {D : va_G} {A : Nat → Prop} {a n nL k index : Nat} {tc : Nat → ClassId} {sk : (Nat → Nat) × (Nat → Nat)} {wA wB : va_W} {r : Option FieldType} {y : MethodName} {own : String} {As : List Value}
theorem cVr {I : va_W → Prop} {J : Option Value → va_W → Prop} {Fr Lc Cl Sl ci : Nat} {q : vw_C} (X : CallFix p m c cc nL s args gT own) (hK : va_K D classes (tysOf tc) s) (hX : Sx sk A s s.heap) (hA : ∀ q, s.heap.size ≤ q → A q) (hM : Rdy l y b n r D tc sk (.ref a :: As) I J Fr Lc Cl Sl)
    (hw1 : Cond.code y b n r ∈ gT) (hw2 : Cond.methodLink own index y ∈ gT) (hw3 : Cond.instanceMethod y ∈ gT) (hw4 : Cond.selects y.cls y y ∈ gT) (hw5 : Cond.initialized y.cls ∈ gT) (hd : PlainC y k) (hF : Fr + 1 ≤ R.frames) (hL : 8 + (n + 11) + Lc ≤ R.locals)
    (hI : I wA) (hrv : ∃ fs, (a, .inr (ci, fs)) ∈ wA) (hcl : classes[ci]? = some q) (hq : q.1 = y.cls)
    (hP : va_P D classes (wA ++ wB) H) (hD : va_D A (wA ++ wB)) (hS : va_S A s.heap H locs)
    (hlen : As.length = k) (hls : ls.size = nL) (hst : st0 = As.reverse ++ .ref a :: rest) (hroom : (rest.map fun v => v.category).sum ≤ 8) (hdg : decode cc pc = .ok (.invokevirtual index, 3)) (hf1 : cells + Cl ≤ R.cells) (hf2 : slots + Sl ≤ R.slots)
    (kk : ∀ (v : Option Value) (w1 : va_W) (H1 : Heap) (locs1 : List Loc), J v w1 → va_P D classes (w1 ++ wB) H1 → va_D A (w1 ++ wB) → va_S A s.heap H1 locs1 → W p l e R s m args below meth c H1 locs1 (cells + Cl) (slots + Sl) Q (F0 m (pc + 3) ls (v.toList ++ rest))) : W p l e R s m args below meth c H locs cells slots Q (F0 m pc ls st0) := by
  obtain ⟨S, rm, mc, ms, pre, wr, post, cellsf, hC, ⟨b1, b2, b3, b4, b5, b6⟩, hperm, hJ⟩ := hM wA hI
  obtain ⟨fs, hmem⟩ := hrv
  obtain ⟨q0, hq0⟩ := List.mem_iff_getElem?.mp (List.mem_append_left wB hmem)
  have hrec := va_recv hK hP hcl hq0
  rw [hq] at hrec
  have hp2 : (wA ++ wB).Perm (pre ++ (wr ++ wB)) := by
    rw [← List.append_assoc]
    exact hperm.append_right wB
  refine cVp (wr := wr ++ wB) X hK hX hA hC hw1 hw2 hw3 hw4 hw5 hd ⟨by omega, by omega⟩ b3 b4 hrec hP hD hS hp2 hlen hls hst hroom hdg ⟨by omega, by omega⟩ (fun v u H1 locs1 hv hP1 hD1 hS1 => ?_)
  rw [← List.append_assoc] at hP1 hD1
  exact W.widen (by omega) (by omega) (kk v _ H1 locs1 (hJ v u hv) hP1 hD1 hS1)
end RDY
theorem FrcD.mono {fr md : Nat → Int32} {n n' : Int32} (h : FrcD fr md n) (hn : n.toInt ≤ n'.toInt) : FrcD fr md n' := fun k hk hm => by
  have := h k hk hm
  omega
/-- a rule's code, as its text has it -/
def CdQ (f : Nat → Int32) (n : Nat) (Q : RuA) : Prop := CdE f (ru_fl Q) ∧ (ru_fl Q).length = n ∧ ru_ok Q
theorem RuC.seg {B : Nat → Int} {m : Nat} {g : Nat → Int32} (h : RuC B m g) : CdQ g m (ru_of B) := by
  obtain ⟨p, h1, -, h3, h4⟩ := h
  exact ⟨h4, h3.symm, (ru_of_gd h1).1⟩
abbrev Dst := Nat → Int
def SegShop (tc : Nat → ClassId) (dr : Dst) (q : Option Nat) (w : va_W) (K : Prop) : Prop := (q = none ∧ w = []) ∨ ∃ (Ea : Nat → Nat) (Ev : Nat → Int32) (Ef : Nat → Nat → Int32), q = some (Ea 0) ∧ w = ([((Ea 0), .inr (9, [.int (Ev 0), .int (Ev 1), .int (Ev 2), .int (Ev 3), .int (Ev 4), .int (Ev 5), .ref (Ea 1), .ref (Ea 2), .ref (Ea 3), .ref (Ea 4), .ref (Ea 5), .ref (Ea 6), .ref (Ea 7), .ref (Ea 8)])), ((Ea 1), .inl (tc 0, 10, .inl (Ef 1))), ((Ea 2), .inl (tc 0, 10, .inl (Ef 2))), ((Ea 3), .inl (tc 0, 6, .inl (Ef 3))), ((Ea 4), .inl (tc 0, 6, .inl (Ef 4))), ((Ea 5), .inl (tc 0, 6, .inl (Ef 5))), ((Ea 6), .inl (tc 0, 6, .inl (Ef 6))), ((Ea 7), .inl (tc 0, 6, .inl (Ef 7))), ((Ea 8), .inl (tc 0, 6, .inl (Ef 8)))] : va_W) ∧ 0 ≤ (Ev 3).toInt ∧ (Ev 3).toInt ≤ 6 ∧ (K → KyC dr (Ev 2) (Ev 3) (Ef 4))
def SegScene (tc : Nat → ClassId) (q : Option Nat) (o : Option Dst) (w : va_W) : Prop := (q = none ∧ o = none ∧ w = []) ∨ ∃ (Ua : Nat → Nat) (Uv : Nat → Int32) (UAa : Nat → Nat) (UAv : Nat → Int32) (UAf : Nat → Nat → Int32) (UBa : Nat → Nat) (UBv : Nat → Int32) (UBf : Nat → Nat → Int32) (UNa : Nat → Nat) (UNv : Nat → Int32) (UNf : Nat → Nat → Int32) (Ud : Dst), q = some (Ua 0) ∧ o = some Ud ∧ w = ([((Ua 0), .inr (8, [.ref (UAa 0), .ref (UBa 0), .ref (UNa 0), .int (Uv 0), .int (Uv 1)])), ((UAa 0), .inr (9, [.int (UAv 0), .int (UAv 1), .int (UAv 2), .int (UAv 3), .int (UAv 4), .int (UAv 5), .ref (UAa 1), .ref (UAa 2), .ref (UAa 3), .ref (UAa 4), .ref (UAa 5), .ref (UAa 6), .ref (UAa 7), .ref (UAa 8)])), ((UAa 1), .inl (tc 0, 10, .inl (UAf 1))), ((UAa 2), .inl (tc 0, 10, .inl (UAf 2))), ((UAa 3), .inl (tc 0, 6, .inl (UAf 3))), ((UAa 4), .inl (tc 0, 6, .inl (UAf 4))), ((UAa 5), .inl (tc 0, 6, .inl (UAf 5))), ((UAa 6), .inl (tc 0, 6, .inl (UAf 6))), ((UAa 7), .inl (tc 0, 6, .inl (UAf 7))), ((UAa 8), .inl (tc 0, 6, .inl (UAf 8))), ((UBa 0), .inr (9, [.int (UBv 0), .int (UBv 1), .int (UBv 2), .int (UBv 3), .int (UBv 4), .int (UBv 5), .ref (UBa 1), .ref (UBa 2), .ref (UBa 3), .ref (UBa 4), .ref (UBa 5), .ref (UBa 6), .ref (UBa 7), .ref (UBa 8)])), ((UBa 1), .inl (tc 0, 10, .inl (UBf 1))), ((UBa 2), .inl (tc 0, 10, .inl (UBf 2))), ((UBa 3), .inl (tc 0, 6, .inl (UBf 3))), ((UBa 4), .inl (tc 0, 6, .inl (UBf 4))), ((UBa 5), .inl (tc 0, 6, .inl (UBf 5))), ((UBa 6), .inl (tc 0, 6, .inl (UBf 6))), ((UBa 7), .inl (tc 0, 6, .inl (UBf 7))), ((UBa 8), .inl (tc 0, 6, .inl (UBf 8))), ((UNa 0), .inr (3, [.ref (UNa 1), .ref (UNa 2), .ref (UNa 3), .int (UNv 0)])), ((UNa 1), .inl (tc 0, 10, .inl (UNf 1))), ((UNa 2), .inl (tc 0, 10, .inl (UNf 2))), ((UNa 3), .inl (tc 0, 10, .inl (UNf 3)))] : va_W) ∧ (0 ≤ (UAv 3).toInt ∧ (UAv 3).toInt ≤ 6) ∧ (0 ≤ (UBv 3).toInt ∧ (UBv 3).toInt ≤ 6) ∧ KyC Ud (UAv 2) (UAv 3) (UAf 4) ∧ TbC Ud (UBv 0) (UBv 1) (UBv 2) (UBv 3) (UBv 4) (UBv 5) (UBf 1) (UBf 2) (UBf 3) (UBf 4) (UBf 5) (UBf 6) (UBf 7) (UBf 8) ∧ TnC Ud (UNv 0) (UNf 1) (UNf 2) (UNf 3)
def SegRule (tc : Nat → ClassId) (q : Option Nat) (w : va_W) (Q : RuA) : Prop := (q = none ∧ w = []) ∨ ∃ (Ra : Nat → Nat) (Rf : Nat → Nat → Int32) (Rg : Nat → Nat → Int64) (Rn : Nat), q = some (Ra 0) ∧ w = ([((Ra 0), .inr (6, [.ref (Ra 1), .ref (Ra 2)])), ((Ra 1), .inl (tc 0, Rn, .inl (Rf 1))), ((Ra 2), .inl (tc 1, 64, .inr (.inl (Rg 2))))] : va_W) ∧ Rn ≤ 400 ∧ CdQ (Rf 1) Rn Q
def pSet (s : Nat → Prop) (j : Nat) (P : Prop) : Nat → Prop := fun k => (k = j ∧ P) ∨ (k ≠ j ∧ s k)
section SEG29
variable {tc : Nat → ClassId} {dr dr1 : Dst} {q : Nat → Option Nat} {s : Nat → va_W} {b : Nat → Prop} {n j : Nat} {o : Option Nat} {g w : va_W} {K P : Prop} {x : Option Nat}
theorem SegShop.imp (h : SegShop tc dr x w K) (hp : P → K) : SegShop tc dr x w P := by
  rcases h with h | ⟨Ea, Ev, Ef, h1, h2, h3, h4, h5⟩
  · exact Or.inl h
  · exact Or.inr ⟨Ea, Ev, Ef, h1, h2, h3, h4, fun z => h5 (hp z)⟩
theorem SegShop.up (h : ∀ k, k < n → SegShop tc dr (q k) (s k) (b k)) (hg : SegShop tc dr o g P) : ∀ k, k < n → SegShop tc dr (va_up q j o k) (va_up s j g k) (pSet b j P k) := fun k hk => by
  unfold va_up
  by_cases z : k = j
  · rw [if_pos z, if_pos z]
    refine hg.imp (fun h2 => ?_)
    rcases h2 with h2 | h2
    · exact h2.2
    · exact absurd z h2.1
  · rw [if_neg z, if_neg z]
    refine (h k hk).imp (fun h2 => ?_)
    rcases h2 with h2 | h2
    · exact absurd h2.1 z
    · exact h2.2
theorem SegShop.upS (h : ∀ k, k < n → SegShop tc dr (q k) (s k) (b k)) (hg : SegShop tc dr (q j) g P) : ∀ k, k < n → SegShop tc dr (q k) (va_up s j g k) (pSet b j P k) := fun k hk => by
  unfold va_up
  by_cases z : k = j
  · rw [if_pos z]
    refine SegShop.imp (K := P) (by rw [z]; exact hg) (fun h2 => ?_)
    rcases h2 with h2 | h2
    · exact h2.2
    · exact absurd z h2.1
  · rw [if_neg z]
    refine (h k hk).imp (fun h2 => ?_)
    rcases h2 with h2 | h2
    · exact absurd h2.1 z
    · exact h2.2
theorem SegShop.upW (h : ∀ k, k < n → SegShop tc dr (q k) (s k) (b k)) (hg : SegShop tc dr (q j) g (b j)) : ∀ k, k < n → SegShop tc dr (q k) (va_up s j g k) (b k) := fun k hk => by
  unfold va_up
  by_cases z : k = j
  · rw [if_pos z, z]; exact hg
  · rw [if_neg z]; exact h k hk
theorem SegShop.drs (h : ∀ k, k < n → SegShop tc dr (q k) (s k) (b k)) : ∀ k, k < n → SegShop tc dr1 (q k) (s k) (b k ∧ dr1 = dr) := fun k hk => by
  rcases h k hk with h | ⟨Ea, Ev, Ef, h1, h2, h3, h4, h5⟩
  · exact Or.inl h
  · exact Or.inr ⟨Ea, Ev, Ef, h1, h2, h3, h4, fun z => by rw [z.2]; exact h5 z.1⟩
theorem SegShop.los (h : ∀ k, k < n → SegShop tc dr (q k) (s k) (b k)) (e : ∀ k, k < 95 → dr1 k = dr k) : ∀ k, k < n → SegShop tc dr1 (q k) (s k) (b k) := fun k hk => by
  rcases h k hk with h | ⟨Ea, Ev, Ef, h1, h2, h3, h4, h5⟩
  · exact Or.inl h
  · exact Or.inr ⟨Ea, Ev, Ef, h1, h2, h3, h4, fun z => (h5 z).lo e⟩
theorem SegShop.no (h : ∀ k, k < n → SegShop tc dr (q k) (s k) (b k)) : ∀ k, k < n → SegShop tc dr1 (q k) (s k) False := fun k hk => by
  rcases h k hk with h | ⟨Ea, Ev, Ef, h1, h2, h3, h4, h5⟩
  · exact Or.inl h
  · exact Or.inr ⟨Ea, Ev, Ef, h1, h2, h3, h4, fun z => z.elim⟩
theorem SegScene.up {im : Nat → Option Dst} {i : Option Dst} (h : ∀ k, k < n → SegScene tc (q k) (im k) (s k)) (hg : SegScene tc o i g) : ∀ k, k < n → SegScene tc (va_up q j o k) (va_up im j i k) (va_up s j g k) := fun k hk => by
  unfold va_up
  by_cases z : k = j
  · rw [if_pos z, if_pos z, if_pos z]; exact hg
  · rw [if_neg z, if_neg z, if_neg z]; exact h k hk
theorem SegScene.upS {im : Nat → Option Dst} {i : Option Dst} (h : ∀ k, k < n → SegScene tc (q k) (im k) (s k)) (hg : SegScene tc (q j) i g) : ∀ k, k < n → SegScene tc (q k) (va_up im j i k) (va_up s j g k) := fun k hk => by
  unfold va_up
  by_cases z : k = j
  · rw [if_pos z, if_pos z, z]; exact hg
  · rw [if_neg z, if_neg z]; exact h k hk
theorem SegScene.upW {im : Nat → Option Dst} (h : ∀ k, k < n → SegScene tc (q k) (im k) (s k)) (hg : SegScene tc (q j) (im j) g) : ∀ k, k < n → SegScene tc (q k) (im k) (va_up s j g k) := fun k hk => by
  unfold va_up
  by_cases z : k = j
  · rw [if_pos z, z]; exact hg
  · rw [if_neg z]; exact h k hk
theorem rl_other {RL : List RuA} {R : RuA} {k : Nat} (h : k ≠ RL.length) : (RL ++ [R]).getD k [] = RL.getD k [] := by
  by_cases z : k < RL.length
  · exact rl_left z
  · have h1 : RL.length + 1 ≤ k := by omega
    rw [List.getD_eq_getElem?_getD, List.getD_eq_getElem?_getD, List.getElem?_eq_none (by rw [List.length_append]; exact h1), List.getElem?_eq_none (by omega)]
theorem SegRule.up {RL : List RuA} {R : RuA} (h : ∀ k, k < n → SegRule tc (q k) (s k) (RL.getD k [])) (hj : j = RL.length) (hg : SegRule tc o g R) : ∀ k, k < n → SegRule tc (va_up q j o k) (va_up s j g k) ((RL ++ [R]).getD k []) := fun k hk => by
  unfold va_up
  by_cases z : k = j
  · rw [if_pos z, if_pos z, z, hj, rl_last]; exact hg
  · rw [if_neg z, if_neg z, rl_other (by omega)]; exact h k hk
theorem SegRule.upS {Q : Nat → RuA} (h : ∀ k, k < n → SegRule tc (q k) (s k) (Q k)) (hg : SegRule tc (q j) g (Q j)) : ∀ k, k < n → SegRule tc (q k) (va_up s j g k) (Q k) := fun k hk => by
  unfold va_up
  by_cases z : k = j
  · rw [if_pos z, z]; exact hg
  · rw [if_neg z]; exact h k hk
end SEG29
theorem RgK.sz {dr : Dst} {nx sz nx' sz' e2 e3 e2' e3' : Int32} {g4 g4' : Nat → Int32} (h : RgK dr nx sz nx' sz' e2 e3 g4 e2' e3' g4') (hs : 0 ≤ sz.toInt ∧ sz.toInt ≤ 20) : 0 ≤ sz'.toInt ∧ sz'.toInt ≤ 20 := by
  rcases h with ⟨-, e, -⟩ | ⟨h, -⟩
  · rw [e]; exact hs
  · exact h.2.2
theorem RinK.act {dr : Dst} {nx sz nx' sz' e2 e3 e2' e3' : Int32} {g4 g4' : Nat → Int32} {s : Nat → Prop} {j : Nat} (h : RinK nx sz s) (hn : 0 ≤ nx.toInt ∧ nx.toInt < 20) (hj : j = nx.toNatClampNeg) (hr : RgK dr nx sz nx' sz' e2 e3 g4 e2' e3' g4') (hE : s j → KyC dr e2 e3 g4) : RinK nx' sz' (pSet s j (KyC dr e2' e3' g4')) := fun k hk hz => by
  have ej : nx.toNatClampNeg = nx.toInt.toNat := rfl
  rcases hr with ⟨a1, a2, a3, a4, a5⟩ | ⟨⟨a1, a2, -, a3⟩, a4⟩
  · rw [a1, a2] at hz
    by_cases z : k = j
    · refine Or.inl ⟨z, ?_⟩
      rw [a3, a4, a5]
      exact hE (by rw [← z]; exact h k hk hz)
    · exact Or.inr ⟨z, h k hk hz⟩
  · by_cases z : k = j
    · exact Or.inl ⟨z, a4⟩
    · exact Or.inr ⟨z, h k hk (by omega)⟩
theorem RinK.new {dr : Dst} {nx sz nx' sz' e2' e3' : Int32} {g4' : Nat → Int32} {s : Nat → Prop} {j : Nat} (h : RinK nx sz s) (hn : 0 ≤ nx.toInt ∧ nx.toInt < 20) (hj : j = nx.toNatClampNeg) (hr : RgN dr nx sz nx' sz' e2' e3' g4') : RinK nx' sz' (pSet s j (KyC dr e2' e3' g4')) := fun k hk hz => by
  have ej : nx.toNatClampNeg = nx.toInt.toNat := rfl
  obtain ⟨⟨a1, a2, -, a3⟩, a4⟩ := hr
  by_cases z : k = j
  · exact Or.inl ⟨z, a4⟩
  · exact Or.inr ⟨z, h k hk (by omega)⟩
theorem GbK.sz {dr : Dst} {nx sz nx' sz' a2 a3 : Int32} {f4 : Nat → Int32} (h : GbK dr nx sz nx' sz' a2 a3 f4) (hs : 0 ≤ sz.toInt ∧ sz.toInt ≤ 20) : 0 ≤ sz'.toInt ∧ sz'.toInt ≤ 20 := by
  rcases h.1 with ⟨-, e⟩ | e
  · rw [e]; exact hs
  · omega
theorem GbK.ring {dr : Dst} {nx sz nx' sz' a2 a3 : Int32} {f4 : Nat → Int32} {s : Nat → Prop} (h : GbK dr nx sz nx' sz' a2 a3 f4) (hr : RinK nx sz s) (hn : 0 ≤ nx.toInt ∧ nx.toInt < 20) (hs : 0 ≤ sz.toInt ∧ sz.toInt ≤ 20) : RinK nx' sz' s := by
  rcases h.1 with ⟨e1, e2⟩ | e
  · rw [e1, e2]; exact hr
  · exact hr.back hn hs.2 e.2.1 e.2.2
theorem RinK.bsz {dr dr1 : Dst} {nx sz nx' sz' : Int32} (hp : (nx' = nx ∧ sz' = sz ∧ dr1 = dr) ∨ sz'.toInt = 0) (hs : 0 ≤ sz.toInt ∧ sz.toInt ≤ 20) : 0 ≤ sz'.toInt ∧ sz'.toInt ≤ 20 := by
  rcases hp with ⟨-, e, -⟩ | e
  · rw [e]; exact hs
  · omega
theorem RinK.book {dr dr1 : Dst} {nx sz nx' sz' : Int32} {s : Nat → Prop} (h : RinK nx sz s) (hp : (nx' = nx ∧ sz' = sz ∧ dr1 = dr) ∨ sz'.toInt = 0) : RinK nx' sz' (fun k => s k ∧ dr1 = dr) := by
  rcases hp with ⟨e1, e2, e3⟩ | e
  · rw [e1, e2]
    exact fun k hk hz => ⟨h k hk hz, e3⟩
  · exact RinK.none (Int.le_of_eq e)
theorem flatS6 (s : Nat → va_W) : flatS s 6 = s 0 ++ (s 1 ++ (s 2 ++ (s 3 ++ (s 4 ++ s 5)))) := by
  simp [flatS, List.range_succ]
theorem upn {s : Nat → va_W} {j : Nat} : va_up s j [] j = [] := by unfold va_up; rw [if_pos rfl]
theorem cln {x : Int32} {n : Nat} (h : 0 ≤ x.toInt ∧ x.toInt < (n : Int)) : x.toNatClampNeg < n := by
  show x.toInt.toNat < n
  omega
theorem pm_rot (E A B C : va_W) : (E ++ (A ++ (B ++ C))).Perm (E ++ (C ++ (A ++ B))) := by
  refine List.Perm.append_left E ?_
  rw [← List.append_assoc]
  exact List.perm_append_comm
theorem pm_rot' (E A B C : va_W) : (E ++ (C ++ (A ++ B))).Perm (E ++ (A ++ (B ++ C))) := (pm_rot E A B C).symm
def PBE (tc : Nat → ClassId) (h0 : Nat) (Gv : Nat → Int32) (Ta : Nat → Nat) (Tv : Nat → Int32) (Tf : Nat → Nat → Int32) (Wa : Nat → Nat) (Da : Nat → Nat) (Dv : Nat → Int32) (Df : Nat → Nat → Int32) (Va : Nat → Nat) (Vv : Nat → Int32) (Vf : Nat → Nat → Int32) (La : Nat → Nat) (Lq : Nat → Nat → Option Nat) (Sa : Nat → Nat) (Sv : Nat → Int32) (Aa : Nat → Nat) (Av : Nat → Int32) (Af : Nat → Nat → Int32) (Ba : Nat → Nat) (Bv : Nat → Int32) (Bf : Nat → Nat → Int32) (Na : Nat → Nat) (Nv : Nat → Int32) (Nf : Nat → Nat → Int32) (Pa : Nat → Nat) (Pv : Nat → Int32) (Pq : Nat → Nat → Option Nat) (Ia : Nat → Nat) (Iq : Nat → Nat → Option Nat) (Oa : Nat → Nat) (Oj : Nat → Int64) (Og : Nat → Nat → Int64) (Fa : Nat → Nat) (Fv : Nat → Int32) (Ff : Nat → Nat → Int32) (Ca : Nat → Nat) (Cf : Nat → Nat → Int32) (Ha : Nat → Nat) (Hv : Nat → Int32) (Hf : Nat → Nat → Int32) (Ya : Nat → Nat) (Yv : Nat → Int32) (Yf : Nat → Nat → Int32) (Ja : Nat → Nat) (Jv : Nat → Int32) (Jf : Nat → Nat → Int32) : va_W := ([(h0, .inr (11, [.ref (Ta 0), .ref (Wa 0), .ref (Va 0), .ref (La 0), .int (Gv 0), .ref (Sa 0), .ref (Aa 0), .ref (Pa 0), .ref (Ia 0), .ref (Oa 0), .ref (Ca 0), .ref (Ya 0)])), ((Ta 0), .inr (10, [.ref (Ta 1), .int (Tv 0), .int (Tv 1), .int (Tv 2), .int (Tv 3), .int (Tv 4)])), ((Ta 1), .inl (tc 0, 400, .inl (Tf 1))), ((Wa 0), .inr (0, [.ref (Da 0)])), ((Da 0), .inr (9, [.int (Dv 0), .int (Dv 1), .int (Dv 2), .int (Dv 3), .int (Dv 4), .int (Dv 5), .ref (Da 1), .ref (Da 2), .ref (Da 3), .ref (Da 4), .ref (Da 5), .ref (Da 6), .ref (Da 7), .ref (Da 8)])), ((Da 1), .inl (tc 0, 10, .inl (Df 1))), ((Da 2), .inl (tc 0, 10, .inl (Df 2))), ((Da 3), .inl (tc 0, 6, .inl (Df 3))), ((Da 4), .inl (tc 0, 6, .inl (Df 4))), ((Da 5), .inl (tc 0, 6, .inl (Df 5))), ((Da 6), .inl (tc 0, 6, .inl (Df 6))), ((Da 7), .inl (tc 0, 6, .inl (Df 7))), ((Da 8), .inl (tc 0, 6, .inl (Df 8))), ((Va 0), .inr (7, [.ref (Va 1), .int (Vv 0), .int (Vv 1)])), ((Va 1), .inl (tc 0, 400, .inl (Vf 1))), ((La 0), .inl (tc 4, 6, .inr (.inr (.inr (.inr (Lq 0)))))), ((Sa 0), .inr (8, [.ref (Aa 0), .ref (Ba 0), .ref (Na 0), .int (Sv 0), .int (Sv 1)])), ((Aa 0), .inr (9, [.int (Av 0), .int (Av 1), .int (Av 2), .int (Av 3), .int (Av 4), .int (Av 5), .ref (Aa 1), .ref (Aa 2), .ref (Aa 3), .ref (Aa 4), .ref (Aa 5), .ref (Aa 6), .ref (Aa 7), .ref (Aa 8)])), ((Aa 1), .inl (tc 0, 10, .inl (Af 1))), ((Aa 2), .inl (tc 0, 10, .inl (Af 2))), ((Aa 3), .inl (tc 0, 6, .inl (Af 3))), ((Aa 4), .inl (tc 0, 6, .inl (Af 4))), ((Aa 5), .inl (tc 0, 6, .inl (Af 5))), ((Aa 6), .inl (tc 0, 6, .inl (Af 6))), ((Aa 7), .inl (tc 0, 6, .inl (Af 7))), ((Aa 8), .inl (tc 0, 6, .inl (Af 8))), ((Ba 0), .inr (9, [.int (Bv 0), .int (Bv 1), .int (Bv 2), .int (Bv 3), .int (Bv 4), .int (Bv 5), .ref (Ba 1), .ref (Ba 2), .ref (Ba 3), .ref (Ba 4), .ref (Ba 5), .ref (Ba 6), .ref (Ba 7), .ref (Ba 8)])), ((Ba 1), .inl (tc 0, 10, .inl (Bf 1))), ((Ba 2), .inl (tc 0, 10, .inl (Bf 2))), ((Ba 3), .inl (tc 0, 6, .inl (Bf 3))), ((Ba 4), .inl (tc 0, 6, .inl (Bf 4))), ((Ba 5), .inl (tc 0, 6, .inl (Bf 5))), ((Ba 6), .inl (tc 0, 6, .inl (Bf 6))), ((Ba 7), .inl (tc 0, 6, .inl (Bf 7))), ((Ba 8), .inl (tc 0, 6, .inl (Bf 8))), ((Na 0), .inr (3, [.ref (Na 1), .ref (Na 2), .ref (Na 3), .int (Nv 0)])), ((Na 1), .inl (tc 0, 10, .inl (Nf 1))), ((Na 2), .inl (tc 0, 10, .inl (Nf 2))), ((Na 3), .inl (tc 0, 10, .inl (Nf 3))), ((Pa 0), .inr (5, [.ref (Pa 1), .int (Pv 0), .int (Pv 1)])), ((Pa 1), .inl (tc 5, 20, .inr (.inr (.inr (.inr (Pq 1)))))), ((Ia 0), .inl (tc 6, 4, .inr (.inr (.inr (.inr (Iq 0)))))), ((Oa 0), .inr (4, [.ref (Fa 0), .ref (Oa 2), .long (Oj 0)])), ((Oa 2), .inl (tc 1, 61, .inr (.inl (Og 2)))), ((Fa 0), .inr (9, [.int (Fv 0), .int (Fv 1), .int (Fv 2), .int (Fv 3), .int (Fv 4), .int (Fv 5), .ref (Fa 1), .ref (Fa 2), .ref (Fa 3), .ref (Fa 4), .ref (Fa 5), .ref (Fa 6), .ref (Fa 7), .ref (Fa 8)])), ((Fa 1), .inl (tc 0, 10, .inl (Ff 1))), ((Fa 2), .inl (tc 0, 10, .inl (Ff 2))), ((Fa 3), .inl (tc 0, 6, .inl (Ff 3))), ((Fa 4), .inl (tc 0, 6, .inl (Ff 4))), ((Fa 5), .inl (tc 0, 6, .inl (Ff 5))), ((Fa 6), .inl (tc 0, 6, .inl (Ff 6))), ((Fa 7), .inl (tc 0, 6, .inl (Ff 7))), ((Fa 8), .inl (tc 0, 6, .inl (Ff 8))), ((Ca 0), .inr (1, [.ref (Ha 0), .ref (Ca 2), .ref (Ca 3)])), ((Ca 2), .inl (tc 0, 25, .inl (Cf 2))), ((Ca 3), .inl (tc 0, 25, .inl (Cf 3))), ((Ha 0), .inr (9, [.int (Hv 0), .int (Hv 1), .int (Hv 2), .int (Hv 3), .int (Hv 4), .int (Hv 5), .ref (Ha 1), .ref (Ha 2), .ref (Ha 3), .ref (Ha 4), .ref (Ha 5), .ref (Ha 6), .ref (Ha 7), .ref (Ha 8)])), ((Ha 1), .inl (tc 0, 10, .inl (Hf 1))), ((Ha 2), .inl (tc 0, 10, .inl (Hf 2))), ((Ha 3), .inl (tc 0, 6, .inl (Hf 3))), ((Ha 4), .inl (tc 0, 6, .inl (Hf 4))), ((Ha 5), .inl (tc 0, 6, .inl (Hf 5))), ((Ha 6), .inl (tc 0, 6, .inl (Hf 6))), ((Ha 7), .inl (tc 0, 6, .inl (Hf 7))), ((Ha 8), .inl (tc 0, 6, .inl (Hf 8))), ((Ya 0), .inr (2, [.ref (Ja 0), .ref (Ya 2), .ref (Ya 3), .int (Yv 0)])), ((Ya 2), .inl (tc 0, 427, .inl (Yf 2))), ((Ya 3), .inl (tc 3, 7, .inl (Yf 3))), ((Ja 0), .inr (9, [.int (Jv 0), .int (Jv 1), .int (Jv 2), .int (Jv 3), .int (Jv 4), .int (Jv 5), .ref (Ja 1), .ref (Ja 2), .ref (Ja 3), .ref (Ja 4), .ref (Ja 5), .ref (Ja 6), .ref (Ja 7), .ref (Ja 8)])), ((Ja 1), .inl (tc 0, 10, .inl (Jf 1))), ((Ja 2), .inl (tc 0, 10, .inl (Jf 2))), ((Ja 3), .inl (tc 0, 6, .inl (Jf 3))), ((Ja 4), .inl (tc 0, 6, .inl (Jf 4))), ((Ja 5), .inl (tc 0, 6, .inl (Jf 5))), ((Ja 6), .inl (tc 0, 6, .inl (Jf 6))), ((Ja 7), .inl (tc 0, 6, .inl (Jf 7))), ((Ja 8), .inl (tc 0, 6, .inl (Jf 8)))] : va_W)
/-- the tape and the count of rules -/
abbrev Gst := Int32 × (Nat → Int32) × Int32
def PBI (tc : Nat → ClassId) (h0 : Nat) (dr : Dst) (im : Nat → Option Dst) (ts : Gst) (RL : List RuA) (ws : va_W) : Prop := ∃ (Gv : Nat → Int32) (Ta : Nat → Nat) (Tv : Nat → Int32) (Tf : Nat → Nat → Int32) (Wa : Nat → Nat) (Da : Nat → Nat) (Dv : Nat → Int32) (Df : Nat → Nat → Int32) (Va : Nat → Nat) (Vv : Nat → Int32) (Vf : Nat → Nat → Int32) (La : Nat → Nat) (Lq : Nat → Nat → Option Nat) (Sa : Nat → Nat) (Sv : Nat → Int32) (Aa : Nat → Nat) (Av : Nat → Int32) (Af : Nat → Nat → Int32) (Ba : Nat → Nat) (Bv : Nat → Int32) (Bf : Nat → Nat → Int32) (Na : Nat → Nat) (Nv : Nat → Int32) (Nf : Nat → Nat → Int32) (Pa : Nat → Nat) (Pv : Nat → Int32) (Pq : Nat → Nat → Option Nat) (Ia : Nat → Nat) (Iq : Nat → Nat → Option Nat) (Oa : Nat → Nat) (Oj : Nat → Int64) (Og : Nat → Nat → Int64) (Fa : Nat → Nat) (Fv : Nat → Int32) (Ff : Nat → Nat → Int32) (Ca : Nat → Nat) (Cf : Nat → Nat → Int32) (Ha : Nat → Nat) (Hv : Nat → Int32) (Hf : Nat → Nat → Int32) (Ya : Nat → Nat) (Yv : Nat → Int32) (Yf : Nat → Nat → Int32) (Ja : Nat → Nat) (Jv : Nat → Int32) (Jf : Nat → Nat → Int32) (sP sI sR : Nat → va_W) (sB : Nat → Prop), (0 ≤ (Tv 0).toInt ∧ (Tv 0).toInt ≤ 400 ∧ 0 ≤ (Tv 1).toInt ∧ (Tv 1).toInt ≤ 400 ∧ 0 ≤ (Tv 2).toInt ∧ (Tv 2).toInt ≤ 400) ∧ (0 ≤ (Dv 3).toInt ∧ (Dv 3).toInt ≤ 6) ∧ (0 ≤ (Av 3).toInt ∧ (Av 3).toInt ≤ 6) ∧ (0 ≤ (Bv 3).toInt ∧ (Bv 3).toInt ≤ 6) ∧ (0 ≤ (Pv 0).toInt ∧ (Pv 0).toInt < 20) ∧ (0 ≤ (Gv 0).toInt ∧ (Gv 0).toInt ≤ 6) ∧ (KyC dr (Av 2) (Av 3) (Af 4)) ∧ (TbC dr (Bv 0) (Bv 1) (Bv 2) (Bv 3) (Bv 4) (Bv 5) (Bf 1) (Bf 2) (Bf 3) (Bf 4) (Bf 5) (Bf 6) (Bf 7) (Bf 8)) ∧ (TnC dr (Nv 0) (Nf 1) (Nf 2) (Nf 3)) ∧ (0 ≤ (Pv 1).toInt ∧ (Pv 1).toInt ≤ 20) ∧ (RinK (Pv 0) (Pv 1) sB) ∧ (ts = ((Tv 0), (Tf 1), (Gv 0))) ∧ (Byt (Tf 1)) ∧ ((Gv 0).toInt = (RL.length : Int)) ∧ (∀ k : Nat, k < 20 → SegShop tc dr ((Pq 1) k) (sP k) (sB k)) ∧ (∀ k : Nat, k < 4 → SegScene tc ((Iq 0) k) (im k) (sI k)) ∧ (∀ k : Nat, k < 6 → SegRule tc ((Lq 0) k) (sR k) (RL.getD k [])) ∧ (∀ k : Nat, k < 6 → ((k : Int) < (Gv 0).toInt → (Lq 0) k ≠ none) ∧ ((Gv 0).toInt ≤ (k : Int) → (Lq 0) k = none)) ∧ ws.Perm (PBE tc h0 Gv Ta Tv Tf Wa Da Dv Df Va Vv Vf La Lq Sa Sv Aa Av Af Ba Bv Bf Na Nv Nf Pa Pv Pq Ia Iq Oa Oj Og Fa Fv Ff Ca Cf Ha Hv Hf Ya Yv Yf Ja Jv Jf ++ (flatS sP 20 ++ (flatS sI 4 ++ (flatS sR 6))))
def TFe (a b : Gst) (x1 x2 x3 x4 x5 r : Int32) : Prop := FeP a.2.1 b.2.1 a.1 b.1 x1 x2 x3 x4 x5 r ∧ b.2.2 = a.2.2
def TEn (a b : Gst) (x1 r : Int32) : Prop := EnP a.1 b.1 x1 r ∧ b.2 = a.2
def TBk (a b : Gst) : Prop := b.1.toInt = 0 ∧ b.2 = a.2
def TRu (B : Nat → Int) (a b : Gst) (r : Int32) : Prop := RrC B a.2.2 b.2.2 a.1 b.1 r ∧ b.2.1 = a.2.1
def Al (a b : Gst) : Prop := TpE a.2.1 a.1 b.2.1 b.1 ∧ a.2.2 = b.2.2
theorem Al.feed {a b a' b' : Gst} {x1 x2 x3 x4 x5 r s : Int32} (h : Al a b) (hl : 0 ≤ a.1.toInt) (h1 : TFe a a' x1 x2 x3 x4 x5 r) (h2 : TFe b b' x1 x2 x3 x4 x5 s) : r = s ∧ Al a' b' := by
  have e := FeP.eq hl h.1 h1.1 h2.1
  exact ⟨e.1, e.2, by rw [h1.2, h2.2]; exact h.2⟩
theorem Al.end {a b a' b' : Gst} {x1 r s : Int32} (h : Al a b) (h1 : TEn a a' x1 r) (h2 : TEn b b' x1 s) : r = s ∧ Al a' b' := by
  have e := EnP.eq h.1 h1.1 h2.1
  refine ⟨e.1, ?_, by rw [h1.2, h2.2]; exact h.2⟩
  rw [h1.2, h2.2]; exact e.2
theorem Al.book {a b a' b' : Gst} (h : Al a b) (h1 : TBk a a') (h2 : TBk b b') : Al a' b' := by
  refine ⟨⟨h1.1.trans h2.1.symm, fun k hk => ?_⟩, by rw [h1.2, h2.2]; exact h.2⟩
  have := h1.1
  omega
def TBX (B : Nat → Int) (a b : Gst) (r : Int32) (d d' : Dst) : Prop := TBk a b ∧ BkS B r d d'
theorem Al.bookX {a b a' b' : Gst} {r s : Int32} {d d1 d2 : Dst} (h : Al a b) (hb : Byt a.2.1) (h1 : TBX (cB a.2.1 a.1) a a' r d d1) (h2 : TBX (rB b.2.1 b.1) b b' s d d2) : (r = s ∧ d1 = d2) ∧ Al a' b' := by
  have eB := h.1.B hb
  have h2' := h2.2
  rw [← eB] at h2'
  exact ⟨BkS.det h1.2 h2', Al.book h h1.1 h2.1⟩
def TRX (B : Nat → Int) (a b : Gst) (r : Int32) (RL RL' : List RuA) : Prop := TRu B a b r ∧ RL' = rnL B RL a.2.2 b.2.2
theorem Al.rule {a b a' b' : Gst} {r s : Int32} (h : Al a b) (hb : Byt a.2.1) (hl : 0 ≤ a.1.toInt) (h1 : TRu (cB a.2.1 a.1) a a' r) (h2 : TRu (rB b.2.1 b.1) b b' s) : r = s ∧ Al a' b' := by
  have eB := h.1.B hb
  have h2' := h2.1
  rw [← eB] at h2'
  have e := RrC.eq h1.1 h2' h.2 (Int32.toInt_inj.mp h.1.1)
  refine ⟨e.1, ⟨by rw [e.2.2], fun k hk => ?_⟩, e.2.1⟩
  rw [h1.2, h2.2]
  refine h.1.2 k ?_
  rcases h1.1 with ⟨_, _, z, _⟩ | ⟨_, z, _⟩
  · rw [← z]; exact hk
  · omega
theorem Al.ruleX {a b a' b' : Gst} {r s : Int32} {RL L1 L2 : List RuA} (h : Al a b) (hb : Byt a.2.1) (hl : 0 ≤ a.1.toInt) (h1 : TRX (cB a.2.1 a.1) a a' r RL L1) (h2 : TRX (rB b.2.1 b.1) b b' s RL L2) : (r = s ∧ L1 = L2) ∧ Al a' b' := by
  have e := Al.rule h hb hl h1.1 h2.1
  refine ⟨⟨e.1, ?_⟩, e.2⟩
  rw [h1.2, h2.2, ← h.1.B hb, h.2, e.2.2]
/-- the answer that is compared, as the reference's cells give it -/
def AskX (dr : Dst) (RL : List RuA) (x1 r : Int32) : Prop := ∀ (g2 g4 g5 s kp ft wh : Nat → Int32) (g8 g9 : Nat → Int64) (tp fo q : Int32), TdM dr s → TdG dr → RwS g2 g4 g5 q RL → r = (dX12_ruled g2 g4 g5 s kp ft wh g8 g9 q tp fo 0 x1).1
def AskY (dr : Dst) (RL : List RuA) (x1 r : Int32) : Prop := ∃ (g2 g4 g5 s kp ft wh : Nat → Int32) (g8 g9 : Nat → Int64) (tp fo q : Int32), TdM dr s ∧ RwS g2 g4 g5 q RL ∧ r = (dX12_ruled g2 g4 g5 s kp ft wh g8 g9 q tp fo 0 x1).1
theorem AskX.eq {dr : Dst} {RL : List RuA} {x1 r r' : Int32} (h : AskX dr RL x1 r) (h2 : AskY dr RL x1 r') (hg : TdG dr) : r = r' := by
  obtain ⟨g2, g4, g5, s, kp, ft, wh, g8, g9, tp, fo, q, hm, hs, e⟩ := h2
  rw [e]
  exact h g2 g4 g5 s kp ft wh g8 g9 tp fo q hm hg hs
def TS (a r dr dr' : Int32) : Prop := (a.toInt < 0 ∧ r.toInt = -1 ∧ dr' = dr) ∨ (0 ≤ a.toInt ∧ r = dr ∧ dr' = a)
def TI (k : Int32) (dr : Dst) (im im' : Nat → Option Dst) : Prop := ((k.toInt < 0 ∨ 3 < k.toInt) ∧ im' = im) ∨ ((0 ≤ k.toInt ∧ k.toInt ≤ 3) ∧ im' = va_up im k.toNatClampNeg (some dr))
def TB (k : Int32) (dr dr' : Dst) (im : Nat → Option Dst) : Prop := (((k.toInt < 0 ∨ 3 < k.toInt) ∨ im k.toNatClampNeg = none) ∧ dr' = dr) ∨ ((0 ≤ k.toInt ∧ k.toInt ≤ 3) ∧ im k.toNatClampNeg = some dr')
