set_option maxRecDepth 16384
def GdZ (x : Int32) : Prop := x = 0
set_option maxHeartbeats 4000000 in
set_option maxRecDepth 100000 in
theorem ct_hX12_guard {T : Nat → Option Int32} (l : Launch) (D : va_G) (tc : Nat → ClassId) (sk : (Nat → Nat) × (Nat → Nat)) (Ma : Nat → Nat) (Mv : Nat → Int32) (Mf : Nat → Nat → Int32) (Mj : Nat → Int64) (Mg : Nat → Nat → Int64) (x1 : Int32) (x2 : Int32) (h_said : SaidD T (Mf 10) 999) (h_rul : RulD (Mf 2) (Mf 4) (Mf 5) (Mv 1)) (h_frc : -1 ≤ (Mv 11).toInt ∧ (Mv 11).toInt < (Mv 1).toInt ∧ (Mv 1).toInt ≤ 6) (h_gd : GdZ (Mv 13)) : Ct l yX12_guard cX12_guard 5 (some .int) { frames := 7, cells := 0, slots := 0, locals := 166 } D tc sk [.ref (Ma 0), .int x1, .int x2] [((Ma 0), .inr (12, [.ref (Ma 1), .int (Mv 0), .int (Mv 1), .ref (Ma 2), .ref (Ma 3), .ref (Ma 4), .ref (Ma 5), .ref (Ma 6), .int (Mv 2), .int (Mv 3), .int (Mv 4), .int (Mv 5), .int (Mv 6), .int (Mv 7), .int (Mv 8), .ref (Ma 7), .int (Mv 9), .ref (Ma 8), .int (Mv 10), .ref (Ma 9), .ref (Ma 10), .int (Mv 11), .int (Mv 12), .int (Mv 13), .ref (Ma 11), .int (Mv 14), .ref (Ma 12), .ref (Ma 13), .ref (Ma 14), .ref (Ma 15), .ref (Ma 16), .long (Mj 0), .ref (Ma 17), .ref (Ma 18), .ref (Ma 19), .ref (Ma 20)])), ((Ma 2), .inl (tc 0, 2400, .inl (Mf 2))), ((Ma 4), .inl (tc 0, 288, .inl (Mf 4))), ((Ma 5), .inl (tc 0, 6, .inl (Mf 5))), ((Ma 8), .inl (tc 1, 64, .inr (.inl (Mg 8)))), ((Ma 9), .inl (tc 1, 13, .inr (.inl (Mg 9)))), ((Ma 10), .inl (tc 0, 126, .inl (Mf 10))), ((Ma 12), .inl (tc 0, 46, .inl (Mf 12)))] (fun (v : Option Value) (u : (Int32) × (Int32) × (Nat → Int64) × (Nat → Int64) × (Nat → Int32) × (Nat → Int32)) => match u with | (oo0x1, oo0x2, oo0x3, oo0x4, oo0x5, oo0x6) => ∃ r : Int32, v = some (.int r) ∧ (True) ∧ (SaidD T oo0x5 999) ∧ (GdZ oo0x2)) (fun (u : (Int32) × (Int32) × (Nat → Int64) × (Nat → Int64) × (Nat → Int32) × (Nat → Int32)) => match u with | (oo0x1, oo0x2, oo0x3, oo0x4, oo0x5, oo0x6) => [((Ma 0), .inr (12, [.ref (Ma 1), .int (Mv 0), .int (Mv 1), .ref (Ma 2), .ref (Ma 3), .ref (Ma 4), .ref (Ma 5), .ref (Ma 6), .int (Mv 2), .int (Mv 3), .int (Mv 4), .int (Mv 5), .int (Mv 6), .int (Mv 7), .int (Mv 8), .ref (Ma 7), .int (Mv 9), .ref (Ma 8), .int oo0x1, .ref (Ma 9), .ref (Ma 10), .int (Mv 11), .int (Mv 12), .int oo0x2, .ref (Ma 11), .int (Mv 14), .ref (Ma 12), .ref (Ma 13), .ref (Ma 14), .ref (Ma 15), .ref (Ma 16), .long (Mj 0), .ref (Ma 17), .ref (Ma 18), .ref (Ma 19), .ref (Ma 20)])), ((Ma 2), .inl (tc 0, 2400, .inl (Mf 2))), ((Ma 4), .inl (tc 0, 288, .inl (Mf 4))), ((Ma 5), .inl (tc 0, 6, .inl (Mf 5))), ((Ma 8), .inl (tc 1, 64, .inr (.inl oo0x3))), ((Ma 9), .inl (tc 1, 13, .inr (.inl oo0x4))), ((Ma 10), .inl (tc 0, 126, .inl oo0x5)), ((Ma 12), .inl (tc 0, 46, .inl oo0x6))]) 0 0 := by
  refine Ct.start (by decide) (Nat.le_of_ble_eq_true rfl) (fun p e s m below meth c A ls hx hb hr hlk hin hml hown hts hK hX hP hD hA hl hS => ?_)
  have hl : lv_has ls 5 [(0, .ref (Ma 0)), (1, .int x1), (2, .int x2)] := hl
  have ar_h_said := SaidD.al h_said
  have ar_h_gd : ((Mv 13) : Int32).toInt = 0 := by rw [show (Mv 13) = (0 : Int32) from h_gd]; decide
  refine lv_aload_n hx hb dX12_guard_0 rfl (lv_at hl 0 rfl) ?_
  refine cV (a := (Ma 0)) (As := []) (rest := []) (wr := [((Ma 2), .inl (tc 0, 2400, .inl (Mf 2))), ((Ma 4), .inl (tc 0, 288, .inl (Mf 4))), ((Ma 5), .inl (tc 0, 6, .inl (Mf 5))), ((Ma 8), .inl (tc 1, 64, .inr (.inl (Mg 8)))), ((Ma 9), .inl (tc 1, 13, .inr (.inl (Mg 9)))), ((Ma 12), .inl (tc 0, 46, .inl (Mf 12)))]) ⟨hx, hb, hml, hown, hts⟩ hK hX hA (cu_X12_isBook l D tc sk (Ma 0) (Ma 1) (Ma 2) (Ma 3) (Ma 4) (Ma 5) (Ma 6) (Ma 7) (Ma 8) (Ma 9) (Ma 10) (Ma 11) (Ma 12) (Ma 13) (Ma 14) (Ma 15) (Ma 16) (Ma 17) (Ma 18) (Ma 19) (Ma 20) (Mv 0) (Mv 1) (Mv 2) (Mv 3) (Mv 4) (Mv 5) (Mv 6) (Mv 7) (Mv 8) (Mv 9) (Mv 10) (Mv 11) (Mv 12) (Mv 13) (Mv 14) (Mf 10) (Mj 0) h_said.1) k_1407 k_1404 k_1406 k_65 k_106 pl_X12_isBook ⟨Nat.le_of_ble_eq_true rfl, Nat.le_of_ble_eq_true rfl⟩ rfl rfl (va_recv hK hP (ci := 12) (q0 := 0) rfl rfl) hP hD hS [0, 6] [1, 2, 3, 4, 5, 7] rfl rfl rfl rfl rfl (by decide) rfl hl.1 rfl (Nat.le_of_ble_eq_true rfl) dX12_guard_1 ⟨Nat.le_of_ble_eq_true rfl, Nat.le_of_ble_eq_true rfl⟩ (fun v_1 u_2 H locs hv_3 hP₀ hD₀ hS₀ => ?_)
  obtain ⟨r_4, rfl, he_5⟩ := hv_3
  have he_5 : (r_4.toInt = 0 ∨ (r_4.toInt = 1 ∧ 1 ≤ ((Mf 10) 2).toInt ∧ ((Mf 10) 2).toInt ≤ 10)) := he_5
  refine W.eq (g2 := F0 m 4 ls [.int r_4]) rfl ?_
  replace hP : va_P D classes [((Ma 2), .inl (tc 0, 2400, .inl (Mf 2))), ((Ma 4), .inl (tc 0, 288, .inl (Mf 4))), ((Ma 5), .inl (tc 0, 6, .inl (Mf 5))), ((Ma 8), .inl (tc 1, 64, .inr (.inl (Mg 8)))), ((Ma 9), .inl (tc 1, 13, .inr (.inl (Mg 9)))), ((Ma 12), .inl (tc 0, 46, .inl (Mf 12))), ((Ma 0), .inr (12, [.ref (Ma 1), .int (Mv 0), .int (Mv 1), .ref (Ma 2), .ref (Ma 3), .ref (Ma 4), .ref (Ma 5), .ref (Ma 6), .int (Mv 2), .int (Mv 3), .int (Mv 4), .int (Mv 5), .int (Mv 6), .int (Mv 7), .int (Mv 8), .ref (Ma 7), .int (Mv 9), .ref (Ma 8), .int (Mv 10), .ref (Ma 9), .ref (Ma 10), .int (Mv 11), .int (Mv 12), .int (Mv 13), .ref (Ma 11), .int (Mv 14), .ref (Ma 12), .ref (Ma 13), .ref (Ma 14), .ref (Ma 15), .ref (Ma 16), .long (Mj 0), .ref (Ma 17), .ref (Ma 18), .ref (Ma 19), .ref (Ma 20)])), ((Ma 10), .inl (tc 0, 126, .inl (Mf 10)))] H := hP₀
  replace hD : va_D A [((Ma 2), .inl (tc 0, 2400, .inl (Mf 2))), ((Ma 4), .inl (tc 0, 288, .inl (Mf 4))), ((Ma 5), .inl (tc 0, 6, .inl (Mf 5))), ((Ma 8), .inl (tc 1, 64, .inr (.inl (Mg 8)))), ((Ma 9), .inl (tc 1, 13, .inr (.inl (Mg 9)))), ((Ma 12), .inl (tc 0, 46, .inl (Mf 12))), ((Ma 0), .inr (12, [.ref (Ma 1), .int (Mv 0), .int (Mv 1), .ref (Ma 2), .ref (Ma 3), .ref (Ma 4), .ref (Ma 5), .ref (Ma 6), .int (Mv 2), .int (Mv 3), .int (Mv 4), .int (Mv 5), .int (Mv 6), .int (Mv 7), .int (Mv 8), .ref (Ma 7), .int (Mv 9), .ref (Ma 8), .int (Mv 10), .ref (Ma 9), .ref (Ma 10), .int (Mv 11), .int (Mv 12), .int (Mv 13), .ref (Ma 11), .int (Mv 14), .ref (Ma 12), .ref (Ma 13), .ref (Ma 14), .ref (Ma 15), .ref (Ma 16), .long (Mj 0), .ref (Ma 17), .ref (Ma 18), .ref (Ma 19), .ref (Ma 20)])), ((Ma 10), .inl (tc 0, 126, .inl (Mf 10)))] := hD₀
  replace hS := hS₀
  clear hP₀ hD₀ hS₀
  refine lv_if_eq (tgt := 29) hx hb dX12_guard_4 (by decide) (fun c_7 => ?_) (fun c_7 => ?_)
  · skip
    refine lv_iconst (v := (-1)) hx hb dX12_guard_29 (by decide) ?_
    exact retI (v := (-1)) hx hb hr hlk (rfl) hP hD hS ((Mv 10), (Mv 13), (Mg 8), (Mg 9), (Mf 10), (Mf 12)) ⟨_, rfl, trivial, h_said, h_gd⟩ [6, 0, 1, 2, 3, 4, 7, 5] rfl rfl dX12_guard_30 (Nat.le_of_ble_eq_true rfl) (Nat.le_of_ble_eq_true rfl) rfl
  · skip
    refine lv_iload_n hx hb dX12_guard_7 rfl (lv_at hl 1 rfl) ?_
    refine lv_i2l (v := (x1).toInt64) hx hb dX12_guard_8 rfl ?_
    refine lv_lconst (v := 1) hx hb dX12_guard_9 (by decide) ?_
    refine lv_ldc2 hx hb hown (hts _ k_1540) dX12_guard_10 ?_
    refine cS (As := [.long (x1).toInt64, .long 1, .long 30]) (rest := []) (wr := [((Ma 2), .inl (tc 0, 2400, .inl (Mf 2))), ((Ma 4), .inl (tc 0, 288, .inl (Mf 4))), ((Ma 5), .inl (tc 0, 6, .inl (Mf 5))), ((Ma 8), .inl (tc 1, 64, .inr (.inl (Mg 8)))), ((Ma 9), .inl (tc 1, 13, .inr (.inl (Mg 9)))), ((Ma 12), .inl (tc 0, 46, .inl (Mf 12))), ((Ma 0), .inr (12, [.ref (Ma 1), .int (Mv 0), .int (Mv 1), .ref (Ma 2), .ref (Ma 3), .ref (Ma 4), .ref (Ma 5), .ref (Ma 6), .int (Mv 2), .int (Mv 3), .int (Mv 4), .int (Mv 5), .int (Mv 6), .int (Mv 7), .int (Mv 8), .ref (Ma 7), .int (Mv 9), .ref (Ma 8), .int (Mv 10), .ref (Ma 9), .ref (Ma 10), .int (Mv 11), .int (Mv 12), .int (Mv 13), .ref (Ma 11), .int (Mv 14), .ref (Ma 12), .ref (Ma 13), .ref (Ma 14), .ref (Ma 15), .ref (Ma 16), .long (Mj 0), .ref (Ma 17), .ref (Ma 18), .ref (Ma 19), .ref (Ma 20)])), ((Ma 10), .inl (tc 0, 126, .inl (Mf 10)))]) ⟨hx, hb, hml, hown, hts⟩ hK hX hA (ct_X12_in2 l D tc sk ((x1).toInt64) 1 30) k_1259 k_1257 k_1258 k_106 pl_X12_in ⟨Nat.le_of_ble_eq_true rfl, Nat.le_of_ble_eq_true rfl⟩ rfl rfl  hP hD hS [] [0, 1, 2, 3, 4, 5, 6, 7] rfl rfl rfl rfl rfl (by decide) rfl hl.1 rfl (Nat.le_of_ble_eq_true rfl) dX12_guard_13 ⟨Nat.le_of_ble_eq_true rfl, Nat.le_of_ble_eq_true rfl⟩ (fun v_8 u_9 H locs hv_10 hP₀ hD₀ hS₀ => ?_)
    obtain ⟨r_11, rfl, he_12⟩ := hv_10
    have he_12 : ((r_11.toInt = 0 ∧ ((x1).toInt64.toInt < (1 : Int64).toInt ∨ (30 : Int64).toInt < (x1).toInt64.toInt)) ∨ (r_11.toInt = 1 ∧ (1 : Int64).toInt ≤ (x1).toInt64.toInt ∧ (x1).toInt64.toInt ≤ (30 : Int64).toInt)) := he_12
    refine W.eq (g2 := F0 m 16 ls [.int r_11]) rfl ?_
    replace hP : va_P D classes [((Ma 2), .inl (tc 0, 2400, .inl (Mf 2))), ((Ma 4), .inl (tc 0, 288, .inl (Mf 4))), ((Ma 5), .inl (tc 0, 6, .inl (Mf 5))), ((Ma 8), .inl (tc 1, 64, .inr (.inl (Mg 8)))), ((Ma 9), .inl (tc 1, 13, .inr (.inl (Mg 9)))), ((Ma 12), .inl (tc 0, 46, .inl (Mf 12))), ((Ma 0), .inr (12, [.ref (Ma 1), .int (Mv 0), .int (Mv 1), .ref (Ma 2), .ref (Ma 3), .ref (Ma 4), .ref (Ma 5), .ref (Ma 6), .int (Mv 2), .int (Mv 3), .int (Mv 4), .int (Mv 5), .int (Mv 6), .int (Mv 7), .int (Mv 8), .ref (Ma 7), .int (Mv 9), .ref (Ma 8), .int (Mv 10), .ref (Ma 9), .ref (Ma 10), .int (Mv 11), .int (Mv 12), .int (Mv 13), .ref (Ma 11), .int (Mv 14), .ref (Ma 12), .ref (Ma 13), .ref (Ma 14), .ref (Ma 15), .ref (Ma 16), .long (Mj 0), .ref (Ma 17), .ref (Ma 18), .ref (Ma 19), .ref (Ma 20)])), ((Ma 10), .inl (tc 0, 126, .inl (Mf 10)))] H := hP₀
    replace hD : va_D A [((Ma 2), .inl (tc 0, 2400, .inl (Mf 2))), ((Ma 4), .inl (tc 0, 288, .inl (Mf 4))), ((Ma 5), .inl (tc 0, 6, .inl (Mf 5))), ((Ma 8), .inl (tc 1, 64, .inr (.inl (Mg 8)))), ((Ma 9), .inl (tc 1, 13, .inr (.inl (Mg 9)))), ((Ma 12), .inl (tc 0, 46, .inl (Mf 12))), ((Ma 0), .inr (12, [.ref (Ma 1), .int (Mv 0), .int (Mv 1), .ref (Ma 2), .ref (Ma 3), .ref (Ma 4), .ref (Ma 5), .ref (Ma 6), .int (Mv 2), .int (Mv 3), .int (Mv 4), .int (Mv 5), .int (Mv 6), .int (Mv 7), .int (Mv 8), .ref (Ma 7), .int (Mv 9), .ref (Ma 8), .int (Mv 10), .ref (Ma 9), .ref (Ma 10), .int (Mv 11), .int (Mv 12), .int (Mv 13), .ref (Ma 11), .int (Mv 14), .ref (Ma 12), .ref (Ma 13), .ref (Ma 14), .ref (Ma 15), .ref (Ma 16), .long (Mj 0), .ref (Ma 17), .ref (Ma 18), .ref (Ma 19), .ref (Ma 20)])), ((Ma 10), .inl (tc 0, 126, .inl (Mf 10)))] := hD₀
    replace hS := hS₀
    clear hP₀ hD₀ hS₀
    have yl_he_12_1 : (1 : Int64).toInt = 1 := by decide
    have yl_he_12_30 : (30 : Int64).toInt = 30 := by decide
    simp only [i32_64] at he_12
    refine lv_if_eq (tgt := 29) hx hb dX12_guard_16 (by decide) (fun c_14 => ?_) (fun c_14 => ?_)
    · skip
      refine lv_iconst (v := (-1)) hx hb dX12_guard_29 (by decide) ?_
      exact retI (v := (-1)) hx hb hr hlk (rfl) hP hD hS ((Mv 10), (Mv 13), (Mg 8), (Mg 9), (Mf 10), (Mf 12)) ⟨_, rfl, trivial, h_said, h_gd⟩ [6, 0, 1, 2, 3, 4, 7, 5] rfl rfl dX12_guard_30 (Nat.le_of_ble_eq_true rfl) (Nat.le_of_ble_eq_true rfl) rfl
    · skip
      refine lv_iload_n hx hb dX12_guard_19 rfl (lv_at hl 2 rfl) ?_
      refine lv_i2l (v := (x2).toInt64) hx hb dX12_guard_20 rfl ?_
      refine lv_lconst (v := 0) hx hb dX12_guard_21 (by decide) ?_
      refine lv_lconst (v := 1) hx hb dX12_guard_22 (by decide) ?_
      refine cS (As := [.long (x2).toInt64, .long 0, .long 1]) (rest := []) (wr := [((Ma 2), .inl (tc 0, 2400, .inl (Mf 2))), ((Ma 4), .inl (tc 0, 288, .inl (Mf 4))), ((Ma 5), .inl (tc 0, 6, .inl (Mf 5))), ((Ma 8), .inl (tc 1, 64, .inr (.inl (Mg 8)))), ((Ma 9), .inl (tc 1, 13, .inr (.inl (Mg 9)))), ((Ma 12), .inl (tc 0, 46, .inl (Mf 12))), ((Ma 0), .inr (12, [.ref (Ma 1), .int (Mv 0), .int (Mv 1), .ref (Ma 2), .ref (Ma 3), .ref (Ma 4), .ref (Ma 5), .ref (Ma 6), .int (Mv 2), .int (Mv 3), .int (Mv 4), .int (Mv 5), .int (Mv 6), .int (Mv 7), .int (Mv 8), .ref (Ma 7), .int (Mv 9), .ref (Ma 8), .int (Mv 10), .ref (Ma 9), .ref (Ma 10), .int (Mv 11), .int (Mv 12), .int (Mv 13), .ref (Ma 11), .int (Mv 14), .ref (Ma 12), .ref (Ma 13), .ref (Ma 14), .ref (Ma 15), .ref (Ma 16), .long (Mj 0), .ref (Ma 17), .ref (Ma 18), .ref (Ma 19), .ref (Ma 20)])), ((Ma 10), .inl (tc 0, 126, .inl (Mf 10)))]) ⟨hx, hb, hml, hown, hts⟩ hK hX hA (ct_X12_in2 l D tc sk ((x2).toInt64) 0 1) k_1259 k_1257 k_1258 k_106 pl_X12_in ⟨Nat.le_of_ble_eq_true rfl, Nat.le_of_ble_eq_true rfl⟩ rfl rfl  hP hD hS [] [0, 1, 2, 3, 4, 5, 6, 7] rfl rfl rfl rfl rfl (by decide) rfl hl.1 rfl (Nat.le_of_ble_eq_true rfl) dX12_guard_23 ⟨Nat.le_of_ble_eq_true rfl, Nat.le_of_ble_eq_true rfl⟩ (fun v_15 u_16 H locs hv_17 hP₀ hD₀ hS₀ => ?_)
      obtain ⟨r_18, rfl, he_19⟩ := hv_17
      have he_19 : ((r_18.toInt = 0 ∧ ((x2).toInt64.toInt < (0 : Int64).toInt ∨ (1 : Int64).toInt < (x2).toInt64.toInt)) ∨ (r_18.toInt = 1 ∧ (0 : Int64).toInt ≤ (x2).toInt64.toInt ∧ (x2).toInt64.toInt ≤ (1 : Int64).toInt)) := he_19
      refine W.eq (g2 := F0 m 26 ls [.int r_18]) rfl ?_
      replace hP : va_P D classes [((Ma 2), .inl (tc 0, 2400, .inl (Mf 2))), ((Ma 4), .inl (tc 0, 288, .inl (Mf 4))), ((Ma 5), .inl (tc 0, 6, .inl (Mf 5))), ((Ma 8), .inl (tc 1, 64, .inr (.inl (Mg 8)))), ((Ma 9), .inl (tc 1, 13, .inr (.inl (Mg 9)))), ((Ma 12), .inl (tc 0, 46, .inl (Mf 12))), ((Ma 0), .inr (12, [.ref (Ma 1), .int (Mv 0), .int (Mv 1), .ref (Ma 2), .ref (Ma 3), .ref (Ma 4), .ref (Ma 5), .ref (Ma 6), .int (Mv 2), .int (Mv 3), .int (Mv 4), .int (Mv 5), .int (Mv 6), .int (Mv 7), .int (Mv 8), .ref (Ma 7), .int (Mv 9), .ref (Ma 8), .int (Mv 10), .ref (Ma 9), .ref (Ma 10), .int (Mv 11), .int (Mv 12), .int (Mv 13), .ref (Ma 11), .int (Mv 14), .ref (Ma 12), .ref (Ma 13), .ref (Ma 14), .ref (Ma 15), .ref (Ma 16), .long (Mj 0), .ref (Ma 17), .ref (Ma 18), .ref (Ma 19), .ref (Ma 20)])), ((Ma 10), .inl (tc 0, 126, .inl (Mf 10)))] H := hP₀
      replace hD : va_D A [((Ma 2), .inl (tc 0, 2400, .inl (Mf 2))), ((Ma 4), .inl (tc 0, 288, .inl (Mf 4))), ((Ma 5), .inl (tc 0, 6, .inl (Mf 5))), ((Ma 8), .inl (tc 1, 64, .inr (.inl (Mg 8)))), ((Ma 9), .inl (tc 1, 13, .inr (.inl (Mg 9)))), ((Ma 12), .inl (tc 0, 46, .inl (Mf 12))), ((Ma 0), .inr (12, [.ref (Ma 1), .int (Mv 0), .int (Mv 1), .ref (Ma 2), .ref (Ma 3), .ref (Ma 4), .ref (Ma 5), .ref (Ma 6), .int (Mv 2), .int (Mv 3), .int (Mv 4), .int (Mv 5), .int (Mv 6), .int (Mv 7), .int (Mv 8), .ref (Ma 7), .int (Mv 9), .ref (Ma 8), .int (Mv 10), .ref (Ma 9), .ref (Ma 10), .int (Mv 11), .int (Mv 12), .int (Mv 13), .ref (Ma 11), .int (Mv 14), .ref (Ma 12), .ref (Ma 13), .ref (Ma 14), .ref (Ma 15), .ref (Ma 16), .long (Mj 0), .ref (Ma 17), .ref (Ma 18), .ref (Ma 19), .ref (Ma 20)])), ((Ma 10), .inl (tc 0, 126, .inl (Mf 10)))] := hD₀
      replace hS := hS₀
      clear hP₀ hD₀ hS₀
      have yl_he_19_0 : (0 : Int64).toInt = 0 := by decide
      have yl_he_19_1 : (1 : Int64).toInt = 1 := by decide
      simp only [i32_64] at he_19
      refine lv_if_ne (tgt := 31) hx hb dX12_guard_26 (by decide) (fun c_21 => ?_) (fun c_21 => ?_)
      · skip
        refine lv_iconst (v := (-1)) hx hb dX12_guard_31 (by decide) ?_
        refine lv_istore_n (lv' := [(3, .int (-1)), (0, .ref (Ma 0)), (1, .int x1), (2, .int x2)]) hx hb dX12_guard_32 rfl hl (by decide) rfl (fun ls hl₀ => ?_)
        replace hl := hl₀
        clear hl₀
        refine lv_aload_n hx hb dX12_guard_33 rfl (lv_at hl 1 rfl) ?_
        refine cV (a := (Ma 0)) (As := []) (rest := []) (wr := [((Ma 2), .inl (tc 0, 2400, .inl (Mf 2))), ((Ma 4), .inl (tc 0, 288, .inl (Mf 4))), ((Ma 5), .inl (tc 0, 6, .inl (Mf 5))), ((Ma 8), .inl (tc 1, 64, .inr (.inl (Mg 8)))), ((Ma 9), .inl (tc 1, 13, .inr (.inl (Mg 9))))]) ⟨hx, hb, hml, hown, hts⟩ hK hX hA (cu_X12_keeps l D tc sk (Ma 0) (Ma 1) (Ma 2) (Ma 3) (Ma 4) (Ma 5) (Ma 6) (Ma 7) (Ma 8) (Ma 9) (Ma 10) (Ma 11) (Ma 12) (Ma 13) (Ma 14) (Ma 15) (Ma 16) (Ma 17) (Ma 18) (Ma 19) (Ma 20) (Mv 0) (Mv 1) (Mv 2) (Mv 3) (Mv 4) (Mv 5) (Mv 6) (Mv 7) (Mv 8) (Mv 9) (Mv 10) (Mv 11) (Mv 12) (Mv 13) (Mv 14) (Mf 10) (Mf 12) (Mj 0) h_said) k_1505 k_1502 k_1504 k_80 k_106 pl_X12_keeps ⟨Nat.le_of_ble_eq_true rfl, Nat.le_of_ble_eq_true rfl⟩ rfl rfl (va_recv hK hP (ci := 12) (q0 := 6) rfl rfl) hP hD hS [6, 7, 5] [0, 1, 2, 3, 4] rfl rfl rfl rfl rfl (by decide) rfl hl.1 rfl (Nat.le_of_ble_eq_true rfl) dX12_guard_34 ⟨Nat.le_of_ble_eq_true rfl, Nat.le_of_ble_eq_true rfl⟩ (fun v_22 u_23 H locs hv_24 hP₀ hD₀ hS₀ => ?_)
        obtain ⟨sv_25, rfl⟩ : ∃ z, z = u_23 := ⟨_, rfl⟩
        obtain ⟨rfl, pf_26⟩ := hv_24
        have pf_26 : KeptD sv_25 := pf_26
        refine W.eq (g2 := F0 m 37 ls []) rfl ?_
        replace hP : va_P D classes [((Ma 2), .inl (tc 0, 2400, .inl (Mf 2))), ((Ma 4), .inl (tc 0, 288, .inl (Mf 4))), ((Ma 5), .inl (tc 0, 6, .inl (Mf 5))), ((Ma 8), .inl (tc 1, 64, .inr (.inl (Mg 8)))), ((Ma 9), .inl (tc 1, 13, .inr (.inl (Mg 9)))), ((Ma 0), .inr (12, [.ref (Ma 1), .int (Mv 0), .int (Mv 1), .ref (Ma 2), .ref (Ma 3), .ref (Ma 4), .ref (Ma 5), .ref (Ma 6), .int (Mv 2), .int (Mv 3), .int (Mv 4), .int (Mv 5), .int (Mv 6), .int (Mv 7), .int (Mv 8), .ref (Ma 7), .int (Mv 9), .ref (Ma 8), .int (Mv 10), .ref (Ma 9), .ref (Ma 10), .int (Mv 11), .int (Mv 12), .int (Mv 13), .ref (Ma 11), .int (Mv 14), .ref (Ma 12), .ref (Ma 13), .ref (Ma 14), .ref (Ma 15), .ref (Ma 16), .long (Mj 0), .ref (Ma 17), .ref (Ma 18), .ref (Ma 19), .ref (Ma 20)])), ((Ma 10), .inl (tc 0, 126, .inl (Mf 10))), ((Ma 12), .inl (tc 0, 46, .inl sv_25))] H := hP₀
        replace hD : va_D A [((Ma 2), .inl (tc 0, 2400, .inl (Mf 2))), ((Ma 4), .inl (tc 0, 288, .inl (Mf 4))), ((Ma 5), .inl (tc 0, 6, .inl (Mf 5))), ((Ma 8), .inl (tc 1, 64, .inr (.inl (Mg 8)))), ((Ma 9), .inl (tc 1, 13, .inr (.inl (Mg 9)))), ((Ma 0), .inr (12, [.ref (Ma 1), .int (Mv 0), .int (Mv 1), .ref (Ma 2), .ref (Ma 3), .ref (Ma 4), .ref (Ma 5), .ref (Ma 6), .int (Mv 2), .int (Mv 3), .int (Mv 4), .int (Mv 5), .int (Mv 6), .int (Mv 7), .int (Mv 8), .ref (Ma 7), .int (Mv 9), .ref (Ma 8), .int (Mv 10), .ref (Ma 9), .ref (Ma 10), .int (Mv 11), .int (Mv 12), .int (Mv 13), .ref (Ma 11), .int (Mv 14), .ref (Ma 12), .ref (Ma 13), .ref (Ma 14), .ref (Ma 15), .ref (Ma 16), .long (Mj 0), .ref (Ma 17), .ref (Ma 18), .ref (Ma 19), .ref (Ma 20)])), ((Ma 10), .inl (tc 0, 126, .inl (Mf 10))), ((Ma 12), .inl (tc 0, 46, .inl sv_25))] := hD₀
        replace hS := hS₀
        clear hP₀ hD₀ hS₀
        refine lv_iconst (v := 0) hx hb dX12_guard_37 (by decide) ?_
        refine lv_istore (lv' := [(4, .int 0), (3, .int (-1)), (0, .ref (Ma 0)), (1, .int x1), (2, .int x2)]) hx hb dX12_guard_38 hl (by decide) rfl (fun ls hl₀ => ?_)
        replace hl := hl₀
        clear hl₀
        have loop_43 : ∀ (n_41 : Nat) (vy_34 : Int32) (vy_35 : Nat → Int64) (vy_36 : Nat → Int64) (vy_37 : Int32) (vy_38 : Int32) (vy_39 : Nat → Int32) (vy_40 : Int32) (H : Heap) (locs : List Loc) (ls : Array Slot), (2147483647 - (vy_34 : Int32).toInt).toNat < n_41 → (0 ≤ (vy_34 : Int32).toInt) → (SaidD T vy_39 999) → va_P D classes [((Ma 2), .inl (tc 0, 2400, .inl (Mf 2))), ((Ma 4), .inl (tc 0, 288, .inl (Mf 4))), ((Ma 5), .inl (tc 0, 6, .inl (Mf 5))), ((Ma 8), .inl (tc 1, 64, .inr (.inl vy_35))), ((Ma 9), .inl (tc 1, 13, .inr (.inl vy_36))), ((Ma 0), .inr (12, [.ref (Ma 1), .int (Mv 0), .int (Mv 1), .ref (Ma 2), .ref (Ma 3), .ref (Ma 4), .ref (Ma 5), .ref (Ma 6), .int (Mv 2), .int (Mv 3), .int (Mv 4), .int (Mv 5), .int (Mv 6), .int (Mv 7), .int (Mv 8), .ref (Ma 7), .int (Mv 9), .ref (Ma 8), .int vy_37, .ref (Ma 9), .ref (Ma 10), .int (Mv 11), .int (Mv 12), .int vy_38, .ref (Ma 11), .int (Mv 14), .ref (Ma 12), .ref (Ma 13), .ref (Ma 14), .ref (Ma 15), .ref (Ma 16), .long (Mj 0), .ref (Ma 17), .ref (Ma 18), .ref (Ma 19), .ref (Ma 20)])), ((Ma 10), .inl (tc 0, 126, .inl vy_39)), ((Ma 12), .inl (tc 0, 46, .inl sv_25))] H → va_D A [((Ma 2), .inl (tc 0, 2400, .inl (Mf 2))), ((Ma 4), .inl (tc 0, 288, .inl (Mf 4))), ((Ma 5), .inl (tc 0, 6, .inl (Mf 5))), ((Ma 8), .inl (tc 1, 64, .inr (.inl vy_35))), ((Ma 9), .inl (tc 1, 13, .inr (.inl vy_36))), ((Ma 0), .inr (12, [.ref (Ma 1), .int (Mv 0), .int (Mv 1), .ref (Ma 2), .ref (Ma 3), .ref (Ma 4), .ref (Ma 5), .ref (Ma 6), .int (Mv 2), .int (Mv 3), .int (Mv 4), .int (Mv 5), .int (Mv 6), .int (Mv 7), .int (Mv 8), .ref (Ma 7), .int (Mv 9), .ref (Ma 8), .int vy_37, .ref (Ma 9), .ref (Ma 10), .int (Mv 11), .int (Mv 12), .int vy_38, .ref (Ma 11), .int (Mv 14), .ref (Ma 12), .ref (Ma 13), .ref (Ma 14), .ref (Ma 15), .ref (Ma 16), .long (Mj 0), .ref (Ma 17), .ref (Ma 18), .ref (Ma 19), .ref (Ma 20)])), ((Ma 10), .inl (tc 0, 126, .inl vy_39)), ((Ma 12), .inl (tc 0, 46, .inl sv_25))] → va_S A s.heap H locs → lv_has ls 5 [(4, .int vy_34), (3, .int vy_40), (0, .ref (Ma 0)), (1, .int x1), (2, .int x2)] → W p l e ({ frames := 7, cells := 0, slots := 0, locals := 166 }) s m ([.ref (Ma 0), .int x1, .int x2].toArray) below meth c H locs 0 0 (MQ below (QW (fun (v : Option Value) (u : (Int32) × (Int32) × (Nat → Int64) × (Nat → Int64) × (Nat → Int32) × (Nat → Int32)) => match u with | (oo0x1, oo0x2, oo0x3, oo0x4, oo0x5, oo0x6) => ∃ r : Int32, v = some (.int r) ∧ (True) ∧ (SaidD T oo0x5 999) ∧ (GdZ oo0x2)) (BW D (fun (u : (Int32) × (Int32) × (Nat → Int64) × (Nat → Int64) × (Nat → Int32) × (Nat → Int32)) => match u with | (oo0x1, oo0x2, oo0x3, oo0x4, oo0x5, oo0x6) => [((Ma 0), .inr (12, [.ref (Ma 1), .int (Mv 0), .int (Mv 1), .ref (Ma 2), .ref (Ma 3), .ref (Ma 4), .ref (Ma 5), .ref (Ma 6), .int (Mv 2), .int (Mv 3), .int (Mv 4), .int (Mv 5), .int (Mv 6), .int (Mv 7), .int (Mv 8), .ref (Ma 7), .int (Mv 9), .ref (Ma 8), .int oo0x1, .ref (Ma 9), .ref (Ma 10), .int (Mv 11), .int (Mv 12), .int oo0x2, .ref (Ma 11), .int (Mv 14), .ref (Ma 12), .ref (Ma 13), .ref (Ma 14), .ref (Ma 15), .ref (Ma 16), .long (Mj 0), .ref (Ma 17), .ref (Ma 18), .ref (Ma 19), .ref (Ma 20)])), ((Ma 2), .inl (tc 0, 2400, .inl (Mf 2))), ((Ma 4), .inl (tc 0, 288, .inl (Mf 4))), ((Ma 5), .inl (tc 0, 6, .inl (Mf 5))), ((Ma 8), .inl (tc 1, 64, .inr (.inl oo0x3))), ((Ma 9), .inl (tc 1, 13, .inr (.inl oo0x4))), ((Ma 10), .inl (tc 0, 126, .inl oo0x5)), ((Ma 12), .inl (tc 0, 46, .inl oo0x6))]) A) A) ([.ref (Ma 0), .int x1, .int x2].toArray) s 0 0 A) (F0 m 40 ls []) := by
          clear hP hD hS hl
          intro n_41
          induction n_41 with
          | zero =>
            intro vy_34 vy_35 vy_36 vy_37 vy_38 vy_39 vy_40 H locs ls h1
            exact absurd h1 (Nat.not_lt_zero _)
          | succ n_41 ih_42 =>
            intro vy_34 vy_35 vy_36 vy_37 vy_38 vy_39 vy_40 H locs ls hn_46 pf_44 pf_45 hP hD hS hl
            have ar_pf_45 := SaidD.al pf_45
            refine lv_iload hx hb dX12_guard_40 (lv_at hl 0 rfl) ?_
            refine lv_iconst (v := 1) hx hb dX12_guard_42 (by decide) ?_
            refine lv_aload_n hx hb dX12_guard_43 rfl (lv_at hl 2 rfl) ?_
            refine gf_X12_39 hx hb hts hown hK hP 5 rfl rfl dX12_guard_44 ?_
            refine lv_iconst (v := 2) hx hb dX12_guard_47 (by decide) ?_
            refine va_iald hx hb hK hP 6 0 rfl rfl (vin_dec (by decide +kernel)) dX12_guard_48 ?_
            refine lv_topi (fun x_47 ex_47 => ?_)
            have lx_47 : x_47.toInt = (vy_39 2).toInt := congrArg Int32.toInt ex_47
            refine lv_ishl hx hb dX12_guard_49 ?_
            refine lv_topi (fun x_48 ex_48 => ?_)
            refine lv_icmp_ge (tgt := 95) hx hb dX12_guard_50 (by decide) (fun c_49 => ?_) (fun c_49 => ?_)
            · skip
              refine lv_aload_n hx hb dX12_guard_95 rfl (lv_at hl 2 rfl) ?_
              refine lv_iconst (v := 0) hx hb dX12_guard_96 (by decide) ?_
              refine pf_X12_324 hx hb hts hown hK hP hD hS 5 rfl (Nat.le_of_ble_eq_true rfl) rfl rfl dX12_guard_97 (fun H locs hP₀ hD₀ hS₀ => ?_)
              replace hP : va_P D classes [((Ma 2), .inl (tc 0, 2400, .inl (Mf 2))), ((Ma 4), .inl (tc 0, 288, .inl (Mf 4))), ((Ma 5), .inl (tc 0, 6, .inl (Mf 5))), ((Ma 8), .inl (tc 1, 64, .inr (.inl vy_35))), ((Ma 9), .inl (tc 1, 13, .inr (.inl vy_36))), ((Ma 0), .inr (12, [.ref (Ma 1), .int (Mv 0), .int (Mv 1), .ref (Ma 2), .ref (Ma 3), .ref (Ma 4), .ref (Ma 5), .ref (Ma 6), .int (Mv 2), .int (Mv 3), .int (Mv 4), .int (Mv 5), .int (Mv 6), .int (Mv 7), .int (Mv 8), .ref (Ma 7), .int (Mv 9), .ref (Ma 8), .int vy_37, .ref (Ma 9), .ref (Ma 10), .int (Mv 11), .int (Mv 12), .int 0, .ref (Ma 11), .int (Mv 14), .ref (Ma 12), .ref (Ma 13), .ref (Ma 14), .ref (Ma 15), .ref (Ma 16), .long (Mj 0), .ref (Ma 17), .ref (Ma 18), .ref (Ma 19), .ref (Ma 20)])), ((Ma 10), .inl (tc 0, 126, .inl vy_39)), ((Ma 12), .inl (tc 0, 46, .inl sv_25))] H := hP₀
              replace hD : va_D A [((Ma 2), .inl (tc 0, 2400, .inl (Mf 2))), ((Ma 4), .inl (tc 0, 288, .inl (Mf 4))), ((Ma 5), .inl (tc 0, 6, .inl (Mf 5))), ((Ma 8), .inl (tc 1, 64, .inr (.inl vy_35))), ((Ma 9), .inl (tc 1, 13, .inr (.inl vy_36))), ((Ma 0), .inr (12, [.ref (Ma 1), .int (Mv 0), .int (Mv 1), .ref (Ma 2), .ref (Ma 3), .ref (Ma 4), .ref (Ma 5), .ref (Ma 6), .int (Mv 2), .int (Mv 3), .int (Mv 4), .int (Mv 5), .int (Mv 6), .int (Mv 7), .int (Mv 8), .ref (Ma 7), .int (Mv 9), .ref (Ma 8), .int vy_37, .ref (Ma 9), .ref (Ma 10), .int (Mv 11), .int (Mv 12), .int 0, .ref (Ma 11), .int (Mv 14), .ref (Ma 12), .ref (Ma 13), .ref (Ma 14), .ref (Ma 15), .ref (Ma 16), .long (Mj 0), .ref (Ma 17), .ref (Ma 18), .ref (Ma 19), .ref (Ma 20)])), ((Ma 10), .inl (tc 0, 126, .inl vy_39)), ((Ma 12), .inl (tc 0, 46, .inl sv_25))] := hD₀
              replace hS := hS₀
              clear hP₀ hD₀ hS₀
              refine lv_iload_n hx hb dX12_guard_100 rfl (lv_at hl 4 rfl) ?_
              refine lv_if_ne (tgt := 111) hx hb dX12_guard_101 (by decide) (fun c_50 => ?_) (fun c_50 => ?_)
              · skip
                refine lv_iload_n hx hb dX12_guard_111 rfl (lv_at hl 1 rfl) ?_
                exact retI (v := vy_40) hx hb hr hlk (rfl) hP hD hS (vy_37, 0, vy_35, vy_36, vy_39, sv_25) ⟨_, rfl, trivial, pf_45, (rfl)⟩ [5, 0, 1, 2, 3, 4, 6, 7] rfl rfl dX12_guard_112 (Nat.le_of_ble_eq_true rfl) (Nat.le_of_ble_eq_true rfl) rfl
              · skip
                refine lv_iload_n hx hb dX12_guard_104 rfl (lv_at hl 1 rfl) ?_
                refine cS (As := [.int vy_40]) (rest := []) (wr := [((Ma 2), .inl (tc 0, 2400, .inl (Mf 2))), ((Ma 4), .inl (tc 0, 288, .inl (Mf 4))), ((Ma 5), .inl (tc 0, 6, .inl (Mf 5))), ((Ma 8), .inl (tc 1, 64, .inr (.inl vy_35))), ((Ma 9), .inl (tc 1, 13, .inr (.inl vy_36))), ((Ma 0), .inr (12, [.ref (Ma 1), .int (Mv 0), .int (Mv 1), .ref (Ma 2), .ref (Ma 3), .ref (Ma 4), .ref (Ma 5), .ref (Ma 6), .int (Mv 2), .int (Mv 3), .int (Mv 4), .int (Mv 5), .int (Mv 6), .int (Mv 7), .int (Mv 8), .ref (Ma 7), .int (Mv 9), .ref (Ma 8), .int vy_37, .ref (Ma 9), .ref (Ma 10), .int (Mv 11), .int (Mv 12), .int 0, .ref (Ma 11), .int (Mv 14), .ref (Ma 12), .ref (Ma 13), .ref (Ma 14), .ref (Ma 15), .ref (Ma 16), .long (Mj 0), .ref (Ma 17), .ref (Ma 18), .ref (Ma 19), .ref (Ma 20)])), ((Ma 10), .inl (tc 0, 126, .inl vy_39)), ((Ma 12), .inl (tc 0, 46, .inl sv_25))]) ⟨hx, hb, hml, hown, hts⟩ hK hX hA (ct_X12_bits l D tc sk vy_40) k_1532 k_1530 k_1531 k_106 pl_X12_bits ⟨Nat.le_of_ble_eq_true rfl, Nat.le_of_ble_eq_true rfl⟩ rfl rfl  hP hD hS [] [0, 1, 2, 3, 4, 5, 6, 7] rfl rfl rfl rfl rfl (by decide) rfl hl.1 rfl (Nat.le_of_ble_eq_true rfl) dX12_guard_105 ⟨Nat.le_of_ble_eq_true rfl, Nat.le_of_ble_eq_true rfl⟩ (fun v_51 u_52 H locs hv_53 hP₀ hD₀ hS₀ => ?_)
                obtain ⟨r_54, rfl, he_55⟩ := hv_53
                refine W.eq (g2 := F0 m 108 ls [.int r_54]) rfl ?_
                replace hP : va_P D classes [((Ma 2), .inl (tc 0, 2400, .inl (Mf 2))), ((Ma 4), .inl (tc 0, 288, .inl (Mf 4))), ((Ma 5), .inl (tc 0, 6, .inl (Mf 5))), ((Ma 8), .inl (tc 1, 64, .inr (.inl vy_35))), ((Ma 9), .inl (tc 1, 13, .inr (.inl vy_36))), ((Ma 0), .inr (12, [.ref (Ma 1), .int (Mv 0), .int (Mv 1), .ref (Ma 2), .ref (Ma 3), .ref (Ma 4), .ref (Ma 5), .ref (Ma 6), .int (Mv 2), .int (Mv 3), .int (Mv 4), .int (Mv 5), .int (Mv 6), .int (Mv 7), .int (Mv 8), .ref (Ma 7), .int (Mv 9), .ref (Ma 8), .int vy_37, .ref (Ma 9), .ref (Ma 10), .int (Mv 11), .int (Mv 12), .int 0, .ref (Ma 11), .int (Mv 14), .ref (Ma 12), .ref (Ma 13), .ref (Ma 14), .ref (Ma 15), .ref (Ma 16), .long (Mj 0), .ref (Ma 17), .ref (Ma 18), .ref (Ma 19), .ref (Ma 20)])), ((Ma 10), .inl (tc 0, 126, .inl vy_39)), ((Ma 12), .inl (tc 0, 46, .inl sv_25))] H := hP₀
                replace hD : va_D A [((Ma 2), .inl (tc 0, 2400, .inl (Mf 2))), ((Ma 4), .inl (tc 0, 288, .inl (Mf 4))), ((Ma 5), .inl (tc 0, 6, .inl (Mf 5))), ((Ma 8), .inl (tc 1, 64, .inr (.inl vy_35))), ((Ma 9), .inl (tc 1, 13, .inr (.inl vy_36))), ((Ma 0), .inr (12, [.ref (Ma 1), .int (Mv 0), .int (Mv 1), .ref (Ma 2), .ref (Ma 3), .ref (Ma 4), .ref (Ma 5), .ref (Ma 6), .int (Mv 2), .int (Mv 3), .int (Mv 4), .int (Mv 5), .int (Mv 6), .int (Mv 7), .int (Mv 8), .ref (Ma 7), .int (Mv 9), .ref (Ma 8), .int vy_37, .ref (Ma 9), .ref (Ma 10), .int (Mv 11), .int (Mv 12), .int 0, .ref (Ma 11), .int (Mv 14), .ref (Ma 12), .ref (Ma 13), .ref (Ma 14), .ref (Ma 15), .ref (Ma 16), .long (Mj 0), .ref (Ma 17), .ref (Ma 18), .ref (Ma 19), .ref (Ma 20)])), ((Ma 10), .inl (tc 0, 126, .inl vy_39)), ((Ma 12), .inl (tc 0, 46, .inl sv_25))] := hD₀
                replace hS := hS₀
                clear hP₀ hD₀ hS₀
                refine lv_goto (tgt := 112) hx hb dX12_guard_108 (by decide) ?_
                exact retI (v := r_54) hx hb hr hlk (rfl) hP hD hS (vy_37, 0, vy_35, vy_36, vy_39, sv_25) ⟨_, rfl, trivial, pf_45, (rfl)⟩ [5, 0, 1, 2, 3, 4, 6, 7] rfl rfl dX12_guard_112 (Nat.le_of_ble_eq_true rfl) (Nat.le_of_ble_eq_true rfl) rfl
            · skip
              have hm_k_57 := i32_le (vy_34 : Int32)
              have hm_k_58 := i32_le (x_48 : Int32)
              refine lv_iload_n hx hb dX12_guard_53 rfl (lv_at hl 1 rfl) ?_
              refine lv_if_lt (tgt := 72) hx hb dX12_guard_54 (by decide) (fun c_59 => ?_) (fun c_59 => ?_)
              · skip
                refine lv_aload_n hx hb dX12_guard_72 rfl (lv_at hl 2 rfl) ?_
                refine lv_iload hx hb dX12_guard_73 (lv_at hl 0 rfl) ?_
                refine pf_X12_324 hx hb hts hown hK hP hD hS 5 rfl (Nat.le_of_ble_eq_true rfl) rfl rfl dX12_guard_75 (fun H locs hP₀ hD₀ hS₀ => ?_)
                replace hP : va_P D classes [((Ma 2), .inl (tc 0, 2400, .inl (Mf 2))), ((Ma 4), .inl (tc 0, 288, .inl (Mf 4))), ((Ma 5), .inl (tc 0, 6, .inl (Mf 5))), ((Ma 8), .inl (tc 1, 64, .inr (.inl vy_35))), ((Ma 9), .inl (tc 1, 13, .inr (.inl vy_36))), ((Ma 0), .inr (12, [.ref (Ma 1), .int (Mv 0), .int (Mv 1), .ref (Ma 2), .ref (Ma 3), .ref (Ma 4), .ref (Ma 5), .ref (Ma 6), .int (Mv 2), .int (Mv 3), .int (Mv 4), .int (Mv 5), .int (Mv 6), .int (Mv 7), .int (Mv 8), .ref (Ma 7), .int (Mv 9), .ref (Ma 8), .int vy_37, .ref (Ma 9), .ref (Ma 10), .int (Mv 11), .int (Mv 12), .int vy_34, .ref (Ma 11), .int (Mv 14), .ref (Ma 12), .ref (Ma 13), .ref (Ma 14), .ref (Ma 15), .ref (Ma 16), .long (Mj 0), .ref (Ma 17), .ref (Ma 18), .ref (Ma 19), .ref (Ma 20)])), ((Ma 10), .inl (tc 0, 126, .inl vy_39)), ((Ma 12), .inl (tc 0, 46, .inl sv_25))] H := hP₀
                replace hD : va_D A [((Ma 2), .inl (tc 0, 2400, .inl (Mf 2))), ((Ma 4), .inl (tc 0, 288, .inl (Mf 4))), ((Ma 5), .inl (tc 0, 6, .inl (Mf 5))), ((Ma 8), .inl (tc 1, 64, .inr (.inl vy_35))), ((Ma 9), .inl (tc 1, 13, .inr (.inl vy_36))), ((Ma 0), .inr (12, [.ref (Ma 1), .int (Mv 0), .int (Mv 1), .ref (Ma 2), .ref (Ma 3), .ref (Ma 4), .ref (Ma 5), .ref (Ma 6), .int (Mv 2), .int (Mv 3), .int (Mv 4), .int (Mv 5), .int (Mv 6), .int (Mv 7), .int (Mv 8), .ref (Ma 7), .int (Mv 9), .ref (Ma 8), .int vy_37, .ref (Ma 9), .ref (Ma 10), .int (Mv 11), .int (Mv 12), .int vy_34, .ref (Ma 11), .int (Mv 14), .ref (Ma 12), .ref (Ma 13), .ref (Ma 14), .ref (Ma 15), .ref (Ma 16), .long (Mj 0), .ref (Ma 17), .ref (Ma 18), .ref (Ma 19), .ref (Ma 20)])), ((Ma 10), .inl (tc 0, 126, .inl vy_39)), ((Ma 12), .inl (tc 0, 46, .inl sv_25))] := hD₀
                replace hS := hS₀
                clear hP₀ hD₀ hS₀
                refine lv_aload_n hx hb dX12_guard_78 rfl (lv_at hl 2 rfl) ?_
                refine lv_iload_n hx hb dX12_guard_79 rfl (lv_at hl 3 rfl) ?_
                have ha_60 : 0 ≤ x1.toInt ∧ x1.toInt ≤ 1000 := by
                  have z_1 : ¬ (r_4 : Int32).toInt = (0 : Int32).toInt := fun z => c_7 (Int32.toInt_inj.mp z)
                  have z_2 : ¬ (r_11 : Int32).toInt = (0 : Int32).toInt := fun z => c_14 (Int32.toInt_inj.mp z)
                  have z_3 : ¬ (r_18 : Int32).toInt = (0 : Int32).toInt := fun z => c_21 (Int32.toInt_inj.mp z)
                  have z_4 := Int32.lt_iff_toInt_lt.mp (Int32.not_le.mp c_49)
                  have z_5 := Int32.lt_iff_toInt_lt.mp c_59
                  have y_0 : (0 : Int32).toInt = 0 := by decide
                  refine ⟨?_, ?_⟩ <;> omega
                refine cV (a := (Ma 0)) (As := [.int x1]) (rest := []) (wr := []) ⟨hx, hb, hml, hown, hts⟩ hK hX hA (cu_X12_soldIn l D tc sk (Ma 0) (Ma 1) (Ma 2) (Ma 3) (Ma 4) (Ma 5) (Ma 6) (Ma 7) (Ma 8) (Ma 9) (Ma 10) (Ma 11) (Ma 12) (Ma 13) (Ma 14) (Ma 15) (Ma 16) (Ma 17) (Ma 18) (Ma 19) (Ma 20) (Mv 0) (Mv 1) (Mv 2) (Mv 3) (Mv 4) (Mv 5) (Mv 6) (Mv 7) (Mv 8) (Mv 9) vy_37 (Mv 11) (Mv 12) vy_34 (Mv 14) (Mf 2) (Mf 4) (Mf 5) vy_39 sv_25 (Mj 0) vy_35 vy_36 x1 pf_45 pf_26 h_rul h_frc ha_60) k_1544 k_1541 k_1543 k_84 k_106 pl_X12_soldIn ⟨Nat.le_of_ble_eq_true rfl, Nat.le_of_ble_eq_true rfl⟩ rfl rfl (va_recv hK hP (ci := 12) (q0 := 5) rfl rfl) hP hD hS [5, 0, 1, 2, 3, 4, 6, 7] [] rfl rfl rfl rfl rfl (by decide) rfl hl.1 rfl (Nat.le_of_ble_eq_true rfl) dX12_guard_80 ⟨Nat.le_of_ble_eq_true rfl, Nat.le_of_ble_eq_true rfl⟩ (fun v_61 u_62 H locs hv_63 hP₀ hD₀ hS₀ => ?_)
                obtain ⟨sv_64, sv_65, sv_66, sv_67⟩ := u_62
                obtain ⟨r_69, rfl, he_70, pf_68⟩ := hv_63
                have pf_68 : SaidD T sv_67 999 := pf_68
                have ar_pf_68 := SaidD.al pf_68
                refine W.eq (g2 := F0 m 83 ls [.int r_69]) rfl ?_
                replace hP : va_P D classes [((Ma 0), .inr (12, [.ref (Ma 1), .int (Mv 0), .int (Mv 1), .ref (Ma 2), .ref (Ma 3), .ref (Ma 4), .ref (Ma 5), .ref (Ma 6), .int (Mv 2), .int (Mv 3), .int (Mv 4), .int (Mv 5), .int (Mv 6), .int (Mv 7), .int (Mv 8), .ref (Ma 7), .int (Mv 9), .ref (Ma 8), .int sv_64, .ref (Ma 9), .ref (Ma 10), .int (Mv 11), .int (Mv 12), .int vy_34, .ref (Ma 11), .int (Mv 14), .ref (Ma 12), .ref (Ma 13), .ref (Ma 14), .ref (Ma 15), .ref (Ma 16), .long (Mj 0), .ref (Ma 17), .ref (Ma 18), .ref (Ma 19), .ref (Ma 20)])), ((Ma 2), .inl (tc 0, 2400, .inl (Mf 2))), ((Ma 4), .inl (tc 0, 288, .inl (Mf 4))), ((Ma 5), .inl (tc 0, 6, .inl (Mf 5))), ((Ma 8), .inl (tc 1, 64, .inr (.inl sv_65))), ((Ma 9), .inl (tc 1, 13, .inr (.inl sv_66))), ((Ma 10), .inl (tc 0, 126, .inl sv_67)), ((Ma 12), .inl (tc 0, 46, .inl sv_25))] H := hP₀
                replace hD : va_D A [((Ma 0), .inr (12, [.ref (Ma 1), .int (Mv 0), .int (Mv 1), .ref (Ma 2), .ref (Ma 3), .ref (Ma 4), .ref (Ma 5), .ref (Ma 6), .int (Mv 2), .int (Mv 3), .int (Mv 4), .int (Mv 5), .int (Mv 6), .int (Mv 7), .int (Mv 8), .ref (Ma 7), .int (Mv 9), .ref (Ma 8), .int sv_64, .ref (Ma 9), .ref (Ma 10), .int (Mv 11), .int (Mv 12), .int vy_34, .ref (Ma 11), .int (Mv 14), .ref (Ma 12), .ref (Ma 13), .ref (Ma 14), .ref (Ma 15), .ref (Ma 16), .long (Mj 0), .ref (Ma 17), .ref (Ma 18), .ref (Ma 19), .ref (Ma 20)])), ((Ma 2), .inl (tc 0, 2400, .inl (Mf 2))), ((Ma 4), .inl (tc 0, 288, .inl (Mf 4))), ((Ma 5), .inl (tc 0, 6, .inl (Mf 5))), ((Ma 8), .inl (tc 1, 64, .inr (.inl sv_65))), ((Ma 9), .inl (tc 1, 13, .inr (.inl sv_66))), ((Ma 10), .inl (tc 0, 126, .inl sv_67)), ((Ma 12), .inl (tc 0, 46, .inl sv_25))] := hD₀
                replace hS := hS₀
                clear hP₀ hD₀ hS₀
                refine lv_if_ne (tgt := 89) hx hb dX12_guard_83 (by decide) (fun c_72 => ?_) (fun c_72 => ?_)
                · skip
                  obtain ⟨x_73, ex_73⟩ : ∃ y : Int32, y = vy_34 + 1 := ⟨_, rfl⟩
                  refine lv_iinc (v := x_73) (lv' := [(4, .int x_73), (3, .int vy_40), (0, .ref (Ma 0)), (1, .int x1), (2, .int x2)]) hx hb dX12_guard_89 hl (k := 0) rfl (by rw [ex_73]; rfl) (by decide) rfl (fun ls hl₀ => ?_)
                  replace hl := hl₀
                  clear hl₀
                  refine lv_goto (tgt := 40) hx hb dX12_guard_92 (by decide) ?_
                  have hb_74 : 2147483647 - (x_73 : Int32).toInt < 2147483647 - (vy_34 : Int32).toInt ∧ 1 ≤ 2147483647 - (vy_34 : Int32).toInt := by
                    have z_1 : ¬ (r_4 : Int32).toInt = (0 : Int32).toInt := fun z => c_7 (Int32.toInt_inj.mp z)
                    have z_2 : ¬ (r_11 : Int32).toInt = (0 : Int32).toInt := fun z => c_14 (Int32.toInt_inj.mp z)
                    have z_3 : ¬ (r_18 : Int32).toInt = (0 : Int32).toInt := fun z => c_21 (Int32.toInt_inj.mp z)
                    have z_4 := Int32.lt_iff_toInt_lt.mp (Int32.not_le.mp c_49)
                    have z_5 := Int32.lt_iff_toInt_lt.mp c_59
                    have z_6 : ¬ (r_69 : Int32).toInt = (0 : Int32).toInt := fun z => c_72 (Int32.toInt_inj.mp z)
                    have y_0 : (0 : Int32).toInt = 0 := by decide
                    have y_1 : (1 : Int32).toInt = 1 := by decide
                    have t_x_73 : x_73.toInt = (vy_34 : Int32).toInt + (1 : Int32).toInt := by rw [ex_73]; exact add_toInt (by omega) (by omega)
                    refine ⟨?_, ?_⟩ <;> omega
                  have ha_75 : 0 ≤ (x_73 : Int32).toInt := by
                    have z_1 : ¬ (r_4 : Int32).toInt = (0 : Int32).toInt := fun z => c_7 (Int32.toInt_inj.mp z)
                    have z_2 : ¬ (r_11 : Int32).toInt = (0 : Int32).toInt := fun z => c_14 (Int32.toInt_inj.mp z)
                    have z_3 : ¬ (r_18 : Int32).toInt = (0 : Int32).toInt := fun z => c_21 (Int32.toInt_inj.mp z)
                    have z_4 := Int32.lt_iff_toInt_lt.mp (Int32.not_le.mp c_49)
                    have z_5 := Int32.lt_iff_toInt_lt.mp c_59
                    have z_6 : ¬ (r_69 : Int32).toInt = (0 : Int32).toInt := fun z => c_72 (Int32.toInt_inj.mp z)
                    have y_0 : (0 : Int32).toInt = 0 := by decide
                    have y_1 : (1 : Int32).toInt = 1 := by decide
                    have t_x_73 : x_73.toInt = (vy_34 : Int32).toInt + (1 : Int32).toInt := by rw [ex_73]; exact add_toInt (by omega) (by omega)
                    omega
                  exact ih_42 x_73 sv_65 sv_66 sv_64 vy_34 sv_67 vy_40 _ _ _ (by omega) ha_75 pf_68 (hP.sub [1, 2, 3, 4, 5, 0, 6, 7] rfl) (hD.sub [1, 2, 3, 4, 5, 0, 6, 7] rfl rfl) hS (lv_sub hl [0, 1, 2, 3, 4] rfl)
                · skip
                  refine lv_iload hx hb dX12_guard_86 (lv_at hl 0 rfl) ?_
                  refine lv_istore_n (lv' := [(3, .int vy_34), (4, .int vy_34), (0, .ref (Ma 0)), (1, .int x1), (2, .int x2)]) hx hb dX12_guard_88 rfl hl (by decide) rfl (fun ls hl₀ => ?_)
                  replace hl := hl₀
                  clear hl₀
                  obtain ⟨x_76, ex_76⟩ : ∃ y : Int32, y = vy_34 + 1 := ⟨_, rfl⟩
                  refine lv_iinc (v := x_76) (lv' := [(4, .int x_76), (3, .int vy_34), (0, .ref (Ma 0)), (1, .int x1), (2, .int x2)]) hx hb dX12_guard_89 hl (k := 1) rfl (by rw [ex_76]; rfl) (by decide) rfl (fun ls hl₀ => ?_)
                  replace hl := hl₀
                  clear hl₀
                  refine lv_goto (tgt := 40) hx hb dX12_guard_92 (by decide) ?_
                  have hb_77 : 2147483647 - (x_76 : Int32).toInt < 2147483647 - (vy_34 : Int32).toInt ∧ 1 ≤ 2147483647 - (vy_34 : Int32).toInt := by
                    have z_1 : ¬ (r_4 : Int32).toInt = (0 : Int32).toInt := fun z => c_7 (Int32.toInt_inj.mp z)
                    have z_2 : ¬ (r_11 : Int32).toInt = (0 : Int32).toInt := fun z => c_14 (Int32.toInt_inj.mp z)
                    have z_3 : ¬ (r_18 : Int32).toInt = (0 : Int32).toInt := fun z => c_21 (Int32.toInt_inj.mp z)
                    have z_4 := Int32.lt_iff_toInt_lt.mp (Int32.not_le.mp c_49)
                    have z_5 := Int32.lt_iff_toInt_lt.mp c_59
                    have z_6 := congrArg Int32.toInt c_72
                    have y_0 : (0 : Int32).toInt = 0 := by decide
                    have y_1 : (1 : Int32).toInt = 1 := by decide
                    have t_x_76 : x_76.toInt = (vy_34 : Int32).toInt + (1 : Int32).toInt := by rw [ex_76]; exact add_toInt (by omega) (by omega)
                    refine ⟨?_, ?_⟩ <;> omega
                  have ha_78 : 0 ≤ (x_76 : Int32).toInt := by
                    have z_1 : ¬ (r_4 : Int32).toInt = (0 : Int32).toInt := fun z => c_7 (Int32.toInt_inj.mp z)
                    have z_2 : ¬ (r_11 : Int32).toInt = (0 : Int32).toInt := fun z => c_14 (Int32.toInt_inj.mp z)
                    have z_3 : ¬ (r_18 : Int32).toInt = (0 : Int32).toInt := fun z => c_21 (Int32.toInt_inj.mp z)
                    have z_4 := Int32.lt_iff_toInt_lt.mp (Int32.not_le.mp c_49)
                    have z_5 := Int32.lt_iff_toInt_lt.mp c_59
                    have z_6 := congrArg Int32.toInt c_72
                    have y_0 : (0 : Int32).toInt = 0 := by decide
                    have y_1 : (1 : Int32).toInt = 1 := by decide
                    have t_x_76 : x_76.toInt = (vy_34 : Int32).toInt + (1 : Int32).toInt := by rw [ex_76]; exact add_toInt (by omega) (by omega)
                    omega
                  exact ih_42 x_76 sv_65 sv_66 sv_64 vy_34 sv_67 vy_34 _ _ _ (by omega) ha_78 pf_68 (hP.sub [1, 2, 3, 4, 5, 0, 6, 7] rfl) (hD.sub [1, 2, 3, 4, 5, 0, 6, 7] rfl rfl) hS (lv_sub hl [0, 1, 2, 3, 4] rfl)
              · skip
                refine lv_iload hx hb dX12_guard_57 (lv_at hl 0 rfl) ?_
                refine cS (As := [.int vy_34]) (rest := []) (wr := [((Ma 2), .inl (tc 0, 2400, .inl (Mf 2))), ((Ma 4), .inl (tc 0, 288, .inl (Mf 4))), ((Ma 5), .inl (tc 0, 6, .inl (Mf 5))), ((Ma 8), .inl (tc 1, 64, .inr (.inl vy_35))), ((Ma 9), .inl (tc 1, 13, .inr (.inl vy_36))), ((Ma 0), .inr (12, [.ref (Ma 1), .int (Mv 0), .int (Mv 1), .ref (Ma 2), .ref (Ma 3), .ref (Ma 4), .ref (Ma 5), .ref (Ma 6), .int (Mv 2), .int (Mv 3), .int (Mv 4), .int (Mv 5), .int (Mv 6), .int (Mv 7), .int (Mv 8), .ref (Ma 7), .int (Mv 9), .ref (Ma 8), .int vy_37, .ref (Ma 9), .ref (Ma 10), .int (Mv 11), .int (Mv 12), .int vy_38, .ref (Ma 11), .int (Mv 14), .ref (Ma 12), .ref (Ma 13), .ref (Ma 14), .ref (Ma 15), .ref (Ma 16), .long (Mj 0), .ref (Ma 17), .ref (Ma 18), .ref (Ma 19), .ref (Ma 20)])), ((Ma 10), .inl (tc 0, 126, .inl vy_39)), ((Ma 12), .inl (tc 0, 46, .inl sv_25))]) ⟨hx, hb, hml, hown, hts⟩ hK hX hA (ct_X12_bits l D tc sk vy_34) k_1532 k_1530 k_1531 k_106 pl_X12_bits ⟨Nat.le_of_ble_eq_true rfl, Nat.le_of_ble_eq_true rfl⟩ rfl rfl  hP hD hS [] [0, 1, 2, 3, 4, 5, 6, 7] rfl rfl rfl rfl rfl (by decide) rfl hl.1 rfl (Nat.le_of_ble_eq_true rfl) dX12_guard_59 ⟨Nat.le_of_ble_eq_true rfl, Nat.le_of_ble_eq_true rfl⟩ (fun v_79 u_80 H locs hv_81 hP₀ hD₀ hS₀ => ?_)
                obtain ⟨r_82, rfl, he_83⟩ := hv_81
                refine W.eq (g2 := F0 m 62 ls [.int r_82]) rfl ?_
                replace hP : va_P D classes [((Ma 2), .inl (tc 0, 2400, .inl (Mf 2))), ((Ma 4), .inl (tc 0, 288, .inl (Mf 4))), ((Ma 5), .inl (tc 0, 6, .inl (Mf 5))), ((Ma 8), .inl (tc 1, 64, .inr (.inl vy_35))), ((Ma 9), .inl (tc 1, 13, .inr (.inl vy_36))), ((Ma 0), .inr (12, [.ref (Ma 1), .int (Mv 0), .int (Mv 1), .ref (Ma 2), .ref (Ma 3), .ref (Ma 4), .ref (Ma 5), .ref (Ma 6), .int (Mv 2), .int (Mv 3), .int (Mv 4), .int (Mv 5), .int (Mv 6), .int (Mv 7), .int (Mv 8), .ref (Ma 7), .int (Mv 9), .ref (Ma 8), .int vy_37, .ref (Ma 9), .ref (Ma 10), .int (Mv 11), .int (Mv 12), .int vy_38, .ref (Ma 11), .int (Mv 14), .ref (Ma 12), .ref (Ma 13), .ref (Ma 14), .ref (Ma 15), .ref (Ma 16), .long (Mj 0), .ref (Ma 17), .ref (Ma 18), .ref (Ma 19), .ref (Ma 20)])), ((Ma 10), .inl (tc 0, 126, .inl vy_39)), ((Ma 12), .inl (tc 0, 46, .inl sv_25))] H := hP₀
                replace hD : va_D A [((Ma 2), .inl (tc 0, 2400, .inl (Mf 2))), ((Ma 4), .inl (tc 0, 288, .inl (Mf 4))), ((Ma 5), .inl (tc 0, 6, .inl (Mf 5))), ((Ma 8), .inl (tc 1, 64, .inr (.inl vy_35))), ((Ma 9), .inl (tc 1, 13, .inr (.inl vy_36))), ((Ma 0), .inr (12, [.ref (Ma 1), .int (Mv 0), .int (Mv 1), .ref (Ma 2), .ref (Ma 3), .ref (Ma 4), .ref (Ma 5), .ref (Ma 6), .int (Mv 2), .int (Mv 3), .int (Mv 4), .int (Mv 5), .int (Mv 6), .int (Mv 7), .int (Mv 8), .ref (Ma 7), .int (Mv 9), .ref (Ma 8), .int vy_37, .ref (Ma 9), .ref (Ma 10), .int (Mv 11), .int (Mv 12), .int vy_38, .ref (Ma 11), .int (Mv 14), .ref (Ma 12), .ref (Ma 13), .ref (Ma 14), .ref (Ma 15), .ref (Ma 16), .long (Mj 0), .ref (Ma 17), .ref (Ma 18), .ref (Ma 19), .ref (Ma 20)])), ((Ma 10), .inl (tc 0, 126, .inl vy_39)), ((Ma 12), .inl (tc 0, 46, .inl sv_25))] := hD₀
                replace hS := hS₀
                clear hP₀ hD₀ hS₀
                refine lv_iload_n hx hb dX12_guard_62 rfl (lv_at hl 1 rfl) ?_
                refine cS (As := [.int vy_40]) (rest := [.int r_82]) (wr := [((Ma 2), .inl (tc 0, 2400, .inl (Mf 2))), ((Ma 4), .inl (tc 0, 288, .inl (Mf 4))), ((Ma 5), .inl (tc 0, 6, .inl (Mf 5))), ((Ma 8), .inl (tc 1, 64, .inr (.inl vy_35))), ((Ma 9), .inl (tc 1, 13, .inr (.inl vy_36))), ((Ma 0), .inr (12, [.ref (Ma 1), .int (Mv 0), .int (Mv 1), .ref (Ma 2), .ref (Ma 3), .ref (Ma 4), .ref (Ma 5), .ref (Ma 6), .int (Mv 2), .int (Mv 3), .int (Mv 4), .int (Mv 5), .int (Mv 6), .int (Mv 7), .int (Mv 8), .ref (Ma 7), .int (Mv 9), .ref (Ma 8), .int vy_37, .ref (Ma 9), .ref (Ma 10), .int (Mv 11), .int (Mv 12), .int vy_38, .ref (Ma 11), .int (Mv 14), .ref (Ma 12), .ref (Ma 13), .ref (Ma 14), .ref (Ma 15), .ref (Ma 16), .long (Mj 0), .ref (Ma 17), .ref (Ma 18), .ref (Ma 19), .ref (Ma 20)])), ((Ma 10), .inl (tc 0, 126, .inl vy_39)), ((Ma 12), .inl (tc 0, 46, .inl sv_25))]) ⟨hx, hb, hml, hown, hts⟩ hK hX hA (ct_X12_bits l D tc sk vy_40) k_1532 k_1530 k_1531 k_106 pl_X12_bits ⟨Nat.le_of_ble_eq_true rfl, Nat.le_of_ble_eq_true rfl⟩ rfl rfl  hP hD hS [] [0, 1, 2, 3, 4, 5, 6, 7] rfl rfl rfl rfl rfl (by decide) rfl hl.1 rfl (Nat.le_of_ble_eq_true rfl) dX12_guard_63 ⟨Nat.le_of_ble_eq_true rfl, Nat.le_of_ble_eq_true rfl⟩ (fun v_85 u_86 H locs hv_87 hP₀ hD₀ hS₀ => ?_)
                obtain ⟨r_88, rfl, he_89⟩ := hv_87
                refine W.eq (g2 := F0 m 66 ls [.int r_88, .int r_82]) rfl ?_
                replace hP : va_P D classes [((Ma 2), .inl (tc 0, 2400, .inl (Mf 2))), ((Ma 4), .inl (tc 0, 288, .inl (Mf 4))), ((Ma 5), .inl (tc 0, 6, .inl (Mf 5))), ((Ma 8), .inl (tc 1, 64, .inr (.inl vy_35))), ((Ma 9), .inl (tc 1, 13, .inr (.inl vy_36))), ((Ma 0), .inr (12, [.ref (Ma 1), .int (Mv 0), .int (Mv 1), .ref (Ma 2), .ref (Ma 3), .ref (Ma 4), .ref (Ma 5), .ref (Ma 6), .int (Mv 2), .int (Mv 3), .int (Mv 4), .int (Mv 5), .int (Mv 6), .int (Mv 7), .int (Mv 8), .ref (Ma 7), .int (Mv 9), .ref (Ma 8), .int vy_37, .ref (Ma 9), .ref (Ma 10), .int (Mv 11), .int (Mv 12), .int vy_38, .ref (Ma 11), .int (Mv 14), .ref (Ma 12), .ref (Ma 13), .ref (Ma 14), .ref (Ma 15), .ref (Ma 16), .long (Mj 0), .ref (Ma 17), .ref (Ma 18), .ref (Ma 19), .ref (Ma 20)])), ((Ma 10), .inl (tc 0, 126, .inl vy_39)), ((Ma 12), .inl (tc 0, 46, .inl sv_25))] H := hP₀
                replace hD : va_D A [((Ma 2), .inl (tc 0, 2400, .inl (Mf 2))), ((Ma 4), .inl (tc 0, 288, .inl (Mf 4))), ((Ma 5), .inl (tc 0, 6, .inl (Mf 5))), ((Ma 8), .inl (tc 1, 64, .inr (.inl vy_35))), ((Ma 9), .inl (tc 1, 13, .inr (.inl vy_36))), ((Ma 0), .inr (12, [.ref (Ma 1), .int (Mv 0), .int (Mv 1), .ref (Ma 2), .ref (Ma 3), .ref (Ma 4), .ref (Ma 5), .ref (Ma 6), .int (Mv 2), .int (Mv 3), .int (Mv 4), .int (Mv 5), .int (Mv 6), .int (Mv 7), .int (Mv 8), .ref (Ma 7), .int (Mv 9), .ref (Ma 8), .int vy_37, .ref (Ma 9), .ref (Ma 10), .int (Mv 11), .int (Mv 12), .int vy_38, .ref (Ma 11), .int (Mv 14), .ref (Ma 12), .ref (Ma 13), .ref (Ma 14), .ref (Ma 15), .ref (Ma 16), .long (Mj 0), .ref (Ma 17), .ref (Ma 18), .ref (Ma 19), .ref (Ma 20)])), ((Ma 10), .inl (tc 0, 126, .inl vy_39)), ((Ma 12), .inl (tc 0, 46, .inl sv_25))] := hD₀
                replace hS := hS₀
                clear hP₀ hD₀ hS₀
                refine lv_icmp_lt (tgt := 72) hx hb dX12_guard_66 (by decide) (fun c_91 => ?_) (fun c_91 => ?_)
                · skip
                  refine lv_aload_n hx hb dX12_guard_72 rfl (lv_at hl 2 rfl) ?_
                  refine lv_iload hx hb dX12_guard_73 (lv_at hl 0 rfl) ?_
                  refine pf_X12_324 hx hb hts hown hK hP hD hS 5 rfl (Nat.le_of_ble_eq_true rfl) rfl rfl dX12_guard_75 (fun H locs hP₀ hD₀ hS₀ => ?_)
                  replace hP : va_P D classes [((Ma 2), .inl (tc 0, 2400, .inl (Mf 2))), ((Ma 4), .inl (tc 0, 288, .inl (Mf 4))), ((Ma 5), .inl (tc 0, 6, .inl (Mf 5))), ((Ma 8), .inl (tc 1, 64, .inr (.inl vy_35))), ((Ma 9), .inl (tc 1, 13, .inr (.inl vy_36))), ((Ma 0), .inr (12, [.ref (Ma 1), .int (Mv 0), .int (Mv 1), .ref (Ma 2), .ref (Ma 3), .ref (Ma 4), .ref (Ma 5), .ref (Ma 6), .int (Mv 2), .int (Mv 3), .int (Mv 4), .int (Mv 5), .int (Mv 6), .int (Mv 7), .int (Mv 8), .ref (Ma 7), .int (Mv 9), .ref (Ma 8), .int vy_37, .ref (Ma 9), .ref (Ma 10), .int (Mv 11), .int (Mv 12), .int vy_34, .ref (Ma 11), .int (Mv 14), .ref (Ma 12), .ref (Ma 13), .ref (Ma 14), .ref (Ma 15), .ref (Ma 16), .long (Mj 0), .ref (Ma 17), .ref (Ma 18), .ref (Ma 19), .ref (Ma 20)])), ((Ma 10), .inl (tc 0, 126, .inl vy_39)), ((Ma 12), .inl (tc 0, 46, .inl sv_25))] H := hP₀
                  replace hD : va_D A [((Ma 2), .inl (tc 0, 2400, .inl (Mf 2))), ((Ma 4), .inl (tc 0, 288, .inl (Mf 4))), ((Ma 5), .inl (tc 0, 6, .inl (Mf 5))), ((Ma 8), .inl (tc 1, 64, .inr (.inl vy_35))), ((Ma 9), .inl (tc 1, 13, .inr (.inl vy_36))), ((Ma 0), .inr (12, [.ref (Ma 1), .int (Mv 0), .int (Mv 1), .ref (Ma 2), .ref (Ma 3), .ref (Ma 4), .ref (Ma 5), .ref (Ma 6), .int (Mv 2), .int (Mv 3), .int (Mv 4), .int (Mv 5), .int (Mv 6), .int (Mv 7), .int (Mv 8), .ref (Ma 7), .int (Mv 9), .ref (Ma 8), .int vy_37, .ref (Ma 9), .ref (Ma 10), .int (Mv 11), .int (Mv 12), .int vy_34, .ref (Ma 11), .int (Mv 14), .ref (Ma 12), .ref (Ma 13), .ref (Ma 14), .ref (Ma 15), .ref (Ma 16), .long (Mj 0), .ref (Ma 17), .ref (Ma 18), .ref (Ma 19), .ref (Ma 20)])), ((Ma 10), .inl (tc 0, 126, .inl vy_39)), ((Ma 12), .inl (tc 0, 46, .inl sv_25))] := hD₀
                  replace hS := hS₀
                  clear hP₀ hD₀ hS₀
                  refine lv_aload_n hx hb dX12_guard_78 rfl (lv_at hl 2 rfl) ?_
                  refine lv_iload_n hx hb dX12_guard_79 rfl (lv_at hl 3 rfl) ?_
                  have ha_92 : 0 ≤ x1.toInt ∧ x1.toInt ≤ 1000 := by
                    have z_1 : ¬ (r_4 : Int32).toInt = (0 : Int32).toInt := fun z => c_7 (Int32.toInt_inj.mp z)
                    have z_2 : ¬ (r_11 : Int32).toInt = (0 : Int32).toInt := fun z => c_14 (Int32.toInt_inj.mp z)
                    have z_3 : ¬ (r_18 : Int32).toInt = (0 : Int32).toInt := fun z => c_21 (Int32.toInt_inj.mp z)
                    have z_4 := Int32.lt_iff_toInt_lt.mp (Int32.not_le.mp c_49)
                    have z_5 := Int32.le_iff_toInt_le.mp (Int32.not_lt.mp c_59)
                    have z_6 := Int32.lt_iff_toInt_lt.mp c_91
                    have y_0 : (0 : Int32).toInt = 0 := by decide
                    refine ⟨?_, ?_⟩ <;> omega
                  refine cV (a := (Ma 0)) (As := [.int x1]) (rest := []) (wr := []) ⟨hx, hb, hml, hown, hts⟩ hK hX hA (cu_X12_soldIn l D tc sk (Ma 0) (Ma 1) (Ma 2) (Ma 3) (Ma 4) (Ma 5) (Ma 6) (Ma 7) (Ma 8) (Ma 9) (Ma 10) (Ma 11) (Ma 12) (Ma 13) (Ma 14) (Ma 15) (Ma 16) (Ma 17) (Ma 18) (Ma 19) (Ma 20) (Mv 0) (Mv 1) (Mv 2) (Mv 3) (Mv 4) (Mv 5) (Mv 6) (Mv 7) (Mv 8) (Mv 9) vy_37 (Mv 11) (Mv 12) vy_34 (Mv 14) (Mf 2) (Mf 4) (Mf 5) vy_39 sv_25 (Mj 0) vy_35 vy_36 x1 pf_45 pf_26 h_rul h_frc ha_92) k_1544 k_1541 k_1543 k_84 k_106 pl_X12_soldIn ⟨Nat.le_of_ble_eq_true rfl, Nat.le_of_ble_eq_true rfl⟩ rfl rfl (va_recv hK hP (ci := 12) (q0 := 5) rfl rfl) hP hD hS [5, 0, 1, 2, 3, 4, 6, 7] [] rfl rfl rfl rfl rfl (by decide) rfl hl.1 rfl (Nat.le_of_ble_eq_true rfl) dX12_guard_80 ⟨Nat.le_of_ble_eq_true rfl, Nat.le_of_ble_eq_true rfl⟩ (fun v_93 u_94 H locs hv_95 hP₀ hD₀ hS₀ => ?_)
                  obtain ⟨sv_96, sv_97, sv_98, sv_99⟩ := u_94
                  obtain ⟨r_101, rfl, he_102, pf_100⟩ := hv_95
                  have pf_100 : SaidD T sv_99 999 := pf_100
                  have ar_pf_100 := SaidD.al pf_100
                  refine W.eq (g2 := F0 m 83 ls [.int r_101]) rfl ?_
                  replace hP : va_P D classes [((Ma 0), .inr (12, [.ref (Ma 1), .int (Mv 0), .int (Mv 1), .ref (Ma 2), .ref (Ma 3), .ref (Ma 4), .ref (Ma 5), .ref (Ma 6), .int (Mv 2), .int (Mv 3), .int (Mv 4), .int (Mv 5), .int (Mv 6), .int (Mv 7), .int (Mv 8), .ref (Ma 7), .int (Mv 9), .ref (Ma 8), .int sv_96, .ref (Ma 9), .ref (Ma 10), .int (Mv 11), .int (Mv 12), .int vy_34, .ref (Ma 11), .int (Mv 14), .ref (Ma 12), .ref (Ma 13), .ref (Ma 14), .ref (Ma 15), .ref (Ma 16), .long (Mj 0), .ref (Ma 17), .ref (Ma 18), .ref (Ma 19), .ref (Ma 20)])), ((Ma 2), .inl (tc 0, 2400, .inl (Mf 2))), ((Ma 4), .inl (tc 0, 288, .inl (Mf 4))), ((Ma 5), .inl (tc 0, 6, .inl (Mf 5))), ((Ma 8), .inl (tc 1, 64, .inr (.inl sv_97))), ((Ma 9), .inl (tc 1, 13, .inr (.inl sv_98))), ((Ma 10), .inl (tc 0, 126, .inl sv_99)), ((Ma 12), .inl (tc 0, 46, .inl sv_25))] H := hP₀
                  replace hD : va_D A [((Ma 0), .inr (12, [.ref (Ma 1), .int (Mv 0), .int (Mv 1), .ref (Ma 2), .ref (Ma 3), .ref (Ma 4), .ref (Ma 5), .ref (Ma 6), .int (Mv 2), .int (Mv 3), .int (Mv 4), .int (Mv 5), .int (Mv 6), .int (Mv 7), .int (Mv 8), .ref (Ma 7), .int (Mv 9), .ref (Ma 8), .int sv_96, .ref (Ma 9), .ref (Ma 10), .int (Mv 11), .int (Mv 12), .int vy_34, .ref (Ma 11), .int (Mv 14), .ref (Ma 12), .ref (Ma 13), .ref (Ma 14), .ref (Ma 15), .ref (Ma 16), .long (Mj 0), .ref (Ma 17), .ref (Ma 18), .ref (Ma 19), .ref (Ma 20)])), ((Ma 2), .inl (tc 0, 2400, .inl (Mf 2))), ((Ma 4), .inl (tc 0, 288, .inl (Mf 4))), ((Ma 5), .inl (tc 0, 6, .inl (Mf 5))), ((Ma 8), .inl (tc 1, 64, .inr (.inl sv_97))), ((Ma 9), .inl (tc 1, 13, .inr (.inl sv_98))), ((Ma 10), .inl (tc 0, 126, .inl sv_99)), ((Ma 12), .inl (tc 0, 46, .inl sv_25))] := hD₀
                  replace hS := hS₀
                  clear hP₀ hD₀ hS₀
                  refine lv_if_ne (tgt := 89) hx hb dX12_guard_83 (by decide) (fun c_104 => ?_) (fun c_104 => ?_)
                  · skip
                    obtain ⟨x_105, ex_105⟩ : ∃ y : Int32, y = vy_34 + 1 := ⟨_, rfl⟩
                    refine lv_iinc (v := x_105) (lv' := [(4, .int x_105), (3, .int vy_40), (0, .ref (Ma 0)), (1, .int x1), (2, .int x2)]) hx hb dX12_guard_89 hl (k := 0) rfl (by rw [ex_105]; rfl) (by decide) rfl (fun ls hl₀ => ?_)
                    replace hl := hl₀
                    clear hl₀
                    refine lv_goto (tgt := 40) hx hb dX12_guard_92 (by decide) ?_
                    have hb_106 : 2147483647 - (x_105 : Int32).toInt < 2147483647 - (vy_34 : Int32).toInt ∧ 1 ≤ 2147483647 - (vy_34 : Int32).toInt := by
                      have z_1 : ¬ (r_4 : Int32).toInt = (0 : Int32).toInt := fun z => c_7 (Int32.toInt_inj.mp z)
                      have z_2 : ¬ (r_11 : Int32).toInt = (0 : Int32).toInt := fun z => c_14 (Int32.toInt_inj.mp z)
                      have z_3 : ¬ (r_18 : Int32).toInt = (0 : Int32).toInt := fun z => c_21 (Int32.toInt_inj.mp z)
                      have z_4 := Int32.lt_iff_toInt_lt.mp (Int32.not_le.mp c_49)
                      have z_5 := Int32.le_iff_toInt_le.mp (Int32.not_lt.mp c_59)
                      have z_6 := Int32.lt_iff_toInt_lt.mp c_91
                      have z_7 : ¬ (r_101 : Int32).toInt = (0 : Int32).toInt := fun z => c_104 (Int32.toInt_inj.mp z)
                      have y_0 : (0 : Int32).toInt = 0 := by decide
                      have y_1 : (1 : Int32).toInt = 1 := by decide
                      have t_x_105 : x_105.toInt = (vy_34 : Int32).toInt + (1 : Int32).toInt := by rw [ex_105]; exact add_toInt (by omega) (by omega)
                      refine ⟨?_, ?_⟩ <;> omega
                    have ha_107 : 0 ≤ (x_105 : Int32).toInt := by
                      have z_1 : ¬ (r_4 : Int32).toInt = (0 : Int32).toInt := fun z => c_7 (Int32.toInt_inj.mp z)
                      have z_2 : ¬ (r_11 : Int32).toInt = (0 : Int32).toInt := fun z => c_14 (Int32.toInt_inj.mp z)
                      have z_3 : ¬ (r_18 : Int32).toInt = (0 : Int32).toInt := fun z => c_21 (Int32.toInt_inj.mp z)
                      have z_4 := Int32.lt_iff_toInt_lt.mp (Int32.not_le.mp c_49)
                      have z_5 := Int32.le_iff_toInt_le.mp (Int32.not_lt.mp c_59)
                      have z_6 := Int32.lt_iff_toInt_lt.mp c_91
                      have z_7 : ¬ (r_101 : Int32).toInt = (0 : Int32).toInt := fun z => c_104 (Int32.toInt_inj.mp z)
                      have y_0 : (0 : Int32).toInt = 0 := by decide
                      have y_1 : (1 : Int32).toInt = 1 := by decide
                      have t_x_105 : x_105.toInt = (vy_34 : Int32).toInt + (1 : Int32).toInt := by rw [ex_105]; exact add_toInt (by omega) (by omega)
                      omega
                    exact ih_42 x_105 sv_97 sv_98 sv_96 vy_34 sv_99 vy_40 _ _ _ (by omega) ha_107 pf_100 (hP.sub [1, 2, 3, 4, 5, 0, 6, 7] rfl) (hD.sub [1, 2, 3, 4, 5, 0, 6, 7] rfl rfl) hS (lv_sub hl [0, 1, 2, 3, 4] rfl)
                  · skip
                    refine lv_iload hx hb dX12_guard_86 (lv_at hl 0 rfl) ?_
                    refine lv_istore_n (lv' := [(3, .int vy_34), (4, .int vy_34), (0, .ref (Ma 0)), (1, .int x1), (2, .int x2)]) hx hb dX12_guard_88 rfl hl (by decide) rfl (fun ls hl₀ => ?_)
                    replace hl := hl₀
                    clear hl₀
                    obtain ⟨x_108, ex_108⟩ : ∃ y : Int32, y = vy_34 + 1 := ⟨_, rfl⟩
                    refine lv_iinc (v := x_108) (lv' := [(4, .int x_108), (3, .int vy_34), (0, .ref (Ma 0)), (1, .int x1), (2, .int x2)]) hx hb dX12_guard_89 hl (k := 1) rfl (by rw [ex_108]; rfl) (by decide) rfl (fun ls hl₀ => ?_)
                    replace hl := hl₀
                    clear hl₀
                    refine lv_goto (tgt := 40) hx hb dX12_guard_92 (by decide) ?_
                    have hb_109 : 2147483647 - (x_108 : Int32).toInt < 2147483647 - (vy_34 : Int32).toInt ∧ 1 ≤ 2147483647 - (vy_34 : Int32).toInt := by
                      have z_1 : ¬ (r_4 : Int32).toInt = (0 : Int32).toInt := fun z => c_7 (Int32.toInt_inj.mp z)
                      have z_2 : ¬ (r_11 : Int32).toInt = (0 : Int32).toInt := fun z => c_14 (Int32.toInt_inj.mp z)
                      have z_3 : ¬ (r_18 : Int32).toInt = (0 : Int32).toInt := fun z => c_21 (Int32.toInt_inj.mp z)
                      have z_4 := Int32.lt_iff_toInt_lt.mp (Int32.not_le.mp c_49)
                      have z_5 := Int32.le_iff_toInt_le.mp (Int32.not_lt.mp c_59)
                      have z_6 := Int32.lt_iff_toInt_lt.mp c_91
                      have z_7 := congrArg Int32.toInt c_104
                      have y_0 : (0 : Int32).toInt = 0 := by decide
                      have y_1 : (1 : Int32).toInt = 1 := by decide
                      have t_x_108 : x_108.toInt = (vy_34 : Int32).toInt + (1 : Int32).toInt := by rw [ex_108]; exact add_toInt (by omega) (by omega)
                      refine ⟨?_, ?_⟩ <;> omega
                    have ha_110 : 0 ≤ (x_108 : Int32).toInt := by
                      have z_1 : ¬ (r_4 : Int32).toInt = (0 : Int32).toInt := fun z => c_7 (Int32.toInt_inj.mp z)
                      have z_2 : ¬ (r_11 : Int32).toInt = (0 : Int32).toInt := fun z => c_14 (Int32.toInt_inj.mp z)
                      have z_3 : ¬ (r_18 : Int32).toInt = (0 : Int32).toInt := fun z => c_21 (Int32.toInt_inj.mp z)
                      have z_4 := Int32.lt_iff_toInt_lt.mp (Int32.not_le.mp c_49)
                      have z_5 := Int32.le_iff_toInt_le.mp (Int32.not_lt.mp c_59)
                      have z_6 := Int32.lt_iff_toInt_lt.mp c_91
                      have z_7 := congrArg Int32.toInt c_104
                      have y_0 : (0 : Int32).toInt = 0 := by decide
                      have y_1 : (1 : Int32).toInt = 1 := by decide
                      have t_x_108 : x_108.toInt = (vy_34 : Int32).toInt + (1 : Int32).toInt := by rw [ex_108]; exact add_toInt (by omega) (by omega)
                      omega
                    exact ih_42 x_108 sv_97 sv_98 sv_96 vy_34 sv_99 vy_34 _ _ _ (by omega) ha_110 pf_100 (hP.sub [1, 2, 3, 4, 5, 0, 6, 7] rfl) (hD.sub [1, 2, 3, 4, 5, 0, 6, 7] rfl rfl) hS (lv_sub hl [0, 1, 2, 3, 4] rfl)
                · skip
                  refine lv_goto (tgt := 89) hx hb dX12_guard_69 (by decide) ?_
                  obtain ⟨x_111, ex_111⟩ : ∃ y : Int32, y = vy_34 + 1 := ⟨_, rfl⟩
                  refine lv_iinc (v := x_111) (lv' := [(4, .int x_111), (3, .int vy_40), (0, .ref (Ma 0)), (1, .int x1), (2, .int x2)]) hx hb dX12_guard_89 hl (k := 0) rfl (by rw [ex_111]; rfl) (by decide) rfl (fun ls hl₀ => ?_)
                  replace hl := hl₀
                  clear hl₀
                  refine lv_goto (tgt := 40) hx hb dX12_guard_92 (by decide) ?_
                  have hb_112 : 2147483647 - (x_111 : Int32).toInt < 2147483647 - (vy_34 : Int32).toInt ∧ 1 ≤ 2147483647 - (vy_34 : Int32).toInt := by
                    have z_1 : ¬ (r_4 : Int32).toInt = (0 : Int32).toInt := fun z => c_7 (Int32.toInt_inj.mp z)
                    have z_2 : ¬ (r_11 : Int32).toInt = (0 : Int32).toInt := fun z => c_14 (Int32.toInt_inj.mp z)
                    have z_3 : ¬ (r_18 : Int32).toInt = (0 : Int32).toInt := fun z => c_21 (Int32.toInt_inj.mp z)
                    have z_4 := Int32.lt_iff_toInt_lt.mp (Int32.not_le.mp c_49)
                    have z_5 := Int32.le_iff_toInt_le.mp (Int32.not_lt.mp c_59)
                    have z_6 := Int32.le_iff_toInt_le.mp (Int32.not_lt.mp c_91)
                    have y_0 : (0 : Int32).toInt = 0 := by decide
                    have y_1 : (1 : Int32).toInt = 1 := by decide
                    have t_x_111 : x_111.toInt = (vy_34 : Int32).toInt + (1 : Int32).toInt := by rw [ex_111]; exact add_toInt (by omega) (by omega)
                    refine ⟨?_, ?_⟩ <;> omega
                  have ha_113 : 0 ≤ (x_111 : Int32).toInt := by
                    have z_1 : ¬ (r_4 : Int32).toInt = (0 : Int32).toInt := fun z => c_7 (Int32.toInt_inj.mp z)
                    have z_2 : ¬ (r_11 : Int32).toInt = (0 : Int32).toInt := fun z => c_14 (Int32.toInt_inj.mp z)
                    have z_3 : ¬ (r_18 : Int32).toInt = (0 : Int32).toInt := fun z => c_21 (Int32.toInt_inj.mp z)
                    have z_4 := Int32.lt_iff_toInt_lt.mp (Int32.not_le.mp c_49)
                    have z_5 := Int32.le_iff_toInt_le.mp (Int32.not_lt.mp c_59)
                    have z_6 := Int32.le_iff_toInt_le.mp (Int32.not_lt.mp c_91)
                    have y_0 : (0 : Int32).toInt = 0 := by decide
                    have y_1 : (1 : Int32).toInt = 1 := by decide
                    have t_x_111 : x_111.toInt = (vy_34 : Int32).toInt + (1 : Int32).toInt := by rw [ex_111]; exact add_toInt (by omega) (by omega)
                    omega
                  exact ih_42 x_111 vy_35 vy_36 vy_37 vy_38 vy_39 vy_40 _ _ _ (by omega) ha_113 pf_45 (hP.sub [0, 1, 2, 3, 4, 5, 6, 7] rfl) (hD.sub [0, 1, 2, 3, 4, 5, 6, 7] rfl rfl) hS (lv_sub hl [0, 1, 2, 3, 4] rfl)
        have ha_114 : 0 ≤ (0 : Int32).toInt := by
          have z_1 : ¬ (r_4 : Int32).toInt = (0 : Int32).toInt := fun z => c_7 (Int32.toInt_inj.mp z)
          have z_2 : ¬ (r_11 : Int32).toInt = (0 : Int32).toInt := fun z => c_14 (Int32.toInt_inj.mp z)
          have z_3 : ¬ (r_18 : Int32).toInt = (0 : Int32).toInt := fun z => c_21 (Int32.toInt_inj.mp z)
          have y_0 : (0 : Int32).toInt = 0 := by decide
          omega
        exact loop_43 _ 0 (Mg 8) (Mg 9) (Mv 10) (Mv 13) (Mf 10) (-1) _ _ _ (Nat.lt_succ_self _) ha_114 h_said hP hD hS hl
      · skip
        refine lv_iconst (v := (-1)) hx hb dX12_guard_29 (by decide) ?_
        exact retI (v := (-1)) hx hb hr hlk (rfl) hP hD hS ((Mv 10), (Mv 13), (Mg 8), (Mg 9), (Mf 10), (Mf 12)) ⟨_, rfl, trivial, h_said, h_gd⟩ [6, 0, 1, 2, 3, 4, 7, 5] rfl rfl dX12_guard_30 (Nat.le_of_ble_eq_true rfl) (Nat.le_of_ble_eq_true rfl) rfl
set_option maxHeartbeats 4000000 in
set_option maxRecDepth 100000 in
theorem ct_hX12_best {T : Nat → Option Int32} (l : Launch) (D : va_G) (tc : Nat → ClassId) (sk : (Nat → Nat) × (Nat → Nat)) (Ma : Nat → Nat) (Mv : Nat → Int32) (Mf : Nat → Nat → Int32) (Mj : Nat → Int64) (Mg : Nat → Nat → Int64) (x1 : Int32) (x2 : Int32) (h_said : SaidD T (Mf 10) 999) (h_rul : RulD (Mf 2) (Mf 4) (Mf 5) (Mv 1)) (h_frc : -1 ≤ (Mv 11).toInt ∧ (Mv 11).toInt < (Mv 1).toInt ∧ (Mv 1).toInt ≤ 6) (h_gd : GdZ (Mv 13)) : Ct l yX12_best cX12_best 7 (some .int) { frames := 7, cells := 0, slots := 0, locals := 166 } D tc sk [.ref (Ma 0), .int x1, .int x2] [((Ma 0), .inr (12, [.ref (Ma 1), .int (Mv 0), .int (Mv 1), .ref (Ma 2), .ref (Ma 3), .ref (Ma 4), .ref (Ma 5), .ref (Ma 6), .int (Mv 2), .int (Mv 3), .int (Mv 4), .int (Mv 5), .int (Mv 6), .int (Mv 7), .int (Mv 8), .ref (Ma 7), .int (Mv 9), .ref (Ma 8), .int (Mv 10), .ref (Ma 9), .ref (Ma 10), .int (Mv 11), .int (Mv 12), .int (Mv 13), .ref (Ma 11), .int (Mv 14), .ref (Ma 12), .ref (Ma 13), .ref (Ma 14), .ref (Ma 15), .ref (Ma 16), .long (Mj 0), .ref (Ma 17), .ref (Ma 18), .ref (Ma 19), .ref (Ma 20)])), ((Ma 2), .inl (tc 0, 2400, .inl (Mf 2))), ((Ma 4), .inl (tc 0, 288, .inl (Mf 4))), ((Ma 5), .inl (tc 0, 6, .inl (Mf 5))), ((Ma 8), .inl (tc 1, 64, .inr (.inl (Mg 8)))), ((Ma 9), .inl (tc 1, 13, .inr (.inl (Mg 9)))), ((Ma 10), .inl (tc 0, 126, .inl (Mf 10))), ((Ma 12), .inl (tc 0, 46, .inl (Mf 12)))] (fun (v : Option Value) (u : (Int32) × (Int32) × (Nat → Int64) × (Nat → Int64) × (Nat → Int32) × (Nat → Int32)) => match u with | (oo0x1, oo0x2, oo0x3, oo0x4, oo0x5, oo0x6) => ∃ r : Int32, v = some (.int r) ∧ (True) ∧ (SaidD T oo0x5 999) ∧ (GdZ oo0x2)) (fun (u : (Int32) × (Int32) × (Nat → Int64) × (Nat → Int64) × (Nat → Int32) × (Nat → Int32)) => match u with | (oo0x1, oo0x2, oo0x3, oo0x4, oo0x5, oo0x6) => [((Ma 0), .inr (12, [.ref (Ma 1), .int (Mv 0), .int (Mv 1), .ref (Ma 2), .ref (Ma 3), .ref (Ma 4), .ref (Ma 5), .ref (Ma 6), .int (Mv 2), .int (Mv 3), .int (Mv 4), .int (Mv 5), .int (Mv 6), .int (Mv 7), .int (Mv 8), .ref (Ma 7), .int (Mv 9), .ref (Ma 8), .int oo0x1, .ref (Ma 9), .ref (Ma 10), .int (Mv 11), .int (Mv 12), .int oo0x2, .ref (Ma 11), .int (Mv 14), .ref (Ma 12), .ref (Ma 13), .ref (Ma 14), .ref (Ma 15), .ref (Ma 16), .long (Mj 0), .ref (Ma 17), .ref (Ma 18), .ref (Ma 19), .ref (Ma 20)])), ((Ma 2), .inl (tc 0, 2400, .inl (Mf 2))), ((Ma 4), .inl (tc 0, 288, .inl (Mf 4))), ((Ma 5), .inl (tc 0, 6, .inl (Mf 5))), ((Ma 8), .inl (tc 1, 64, .inr (.inl oo0x3))), ((Ma 9), .inl (tc 1, 13, .inr (.inl oo0x4))), ((Ma 10), .inl (tc 0, 126, .inl oo0x5)), ((Ma 12), .inl (tc 0, 46, .inl oo0x6))]) 0 0 := by
  refine Ct.start (by decide) (Nat.le_of_ble_eq_true rfl) (fun p e s m below meth c A ls hx hb hr hlk hin hml hown hts hK hX hP hD hA hl hS => ?_)
  have hl : lv_has ls 7 [(0, .ref (Ma 0)), (1, .int x1), (2, .int x2)] := hl
  have ar_h_said := SaidD.al h_said
  have ar_h_gd : ((Mv 13) : Int32).toInt = 0 := by rw [show (Mv 13) = (0 : Int32) from h_gd]; decide
  refine lv_aload_n hx hb dX12_best_0 rfl (lv_at hl 0 rfl) ?_
  refine cV (a := (Ma 0)) (As := []) (rest := []) (wr := [((Ma 2), .inl (tc 0, 2400, .inl (Mf 2))), ((Ma 4), .inl (tc 0, 288, .inl (Mf 4))), ((Ma 5), .inl (tc 0, 6, .inl (Mf 5))), ((Ma 8), .inl (tc 1, 64, .inr (.inl (Mg 8)))), ((Ma 9), .inl (tc 1, 13, .inr (.inl (Mg 9)))), ((Ma 12), .inl (tc 0, 46, .inl (Mf 12)))]) ⟨hx, hb, hml, hown, hts⟩ hK hX hA (cu_X12_isBook l D tc sk (Ma 0) (Ma 1) (Ma 2) (Ma 3) (Ma 4) (Ma 5) (Ma 6) (Ma 7) (Ma 8) (Ma 9) (Ma 10) (Ma 11) (Ma 12) (Ma 13) (Ma 14) (Ma 15) (Ma 16) (Ma 17) (Ma 18) (Ma 19) (Ma 20) (Mv 0) (Mv 1) (Mv 2) (Mv 3) (Mv 4) (Mv 5) (Mv 6) (Mv 7) (Mv 8) (Mv 9) (Mv 10) (Mv 11) (Mv 12) (Mv 13) (Mv 14) (Mf 10) (Mj 0) h_said.1) k_1407 k_1404 k_1406 k_65 k_106 pl_X12_isBook ⟨Nat.le_of_ble_eq_true rfl, Nat.le_of_ble_eq_true rfl⟩ rfl rfl (va_recv hK hP (ci := 12) (q0 := 0) rfl rfl) hP hD hS [0, 6] [1, 2, 3, 4, 5, 7] rfl rfl rfl rfl rfl (by decide) rfl hl.1 rfl (Nat.le_of_ble_eq_true rfl) dX12_best_1 ⟨Nat.le_of_ble_eq_true rfl, Nat.le_of_ble_eq_true rfl⟩ (fun v_1 u_2 H locs hv_3 hP₀ hD₀ hS₀ => ?_)
  obtain ⟨r_4, rfl, he_5⟩ := hv_3
  have he_5 : (r_4.toInt = 0 ∨ (r_4.toInt = 1 ∧ 1 ≤ ((Mf 10) 2).toInt ∧ ((Mf 10) 2).toInt ≤ 10)) := he_5
  refine W.eq (g2 := F0 m 4 ls [.int r_4]) rfl ?_
  replace hP : va_P D classes [((Ma 2), .inl (tc 0, 2400, .inl (Mf 2))), ((Ma 4), .inl (tc 0, 288, .inl (Mf 4))), ((Ma 5), .inl (tc 0, 6, .inl (Mf 5))), ((Ma 8), .inl (tc 1, 64, .inr (.inl (Mg 8)))), ((Ma 9), .inl (tc 1, 13, .inr (.inl (Mg 9)))), ((Ma 12), .inl (tc 0, 46, .inl (Mf 12))), ((Ma 0), .inr (12, [.ref (Ma 1), .int (Mv 0), .int (Mv 1), .ref (Ma 2), .ref (Ma 3), .ref (Ma 4), .ref (Ma 5), .ref (Ma 6), .int (Mv 2), .int (Mv 3), .int (Mv 4), .int (Mv 5), .int (Mv 6), .int (Mv 7), .int (Mv 8), .ref (Ma 7), .int (Mv 9), .ref (Ma 8), .int (Mv 10), .ref (Ma 9), .ref (Ma 10), .int (Mv 11), .int (Mv 12), .int (Mv 13), .ref (Ma 11), .int (Mv 14), .ref (Ma 12), .ref (Ma 13), .ref (Ma 14), .ref (Ma 15), .ref (Ma 16), .long (Mj 0), .ref (Ma 17), .ref (Ma 18), .ref (Ma 19), .ref (Ma 20)])), ((Ma 10), .inl (tc 0, 126, .inl (Mf 10)))] H := hP₀
  replace hD : va_D A [((Ma 2), .inl (tc 0, 2400, .inl (Mf 2))), ((Ma 4), .inl (tc 0, 288, .inl (Mf 4))), ((Ma 5), .inl (tc 0, 6, .inl (Mf 5))), ((Ma 8), .inl (tc 1, 64, .inr (.inl (Mg 8)))), ((Ma 9), .inl (tc 1, 13, .inr (.inl (Mg 9)))), ((Ma 12), .inl (tc 0, 46, .inl (Mf 12))), ((Ma 0), .inr (12, [.ref (Ma 1), .int (Mv 0), .int (Mv 1), .ref (Ma 2), .ref (Ma 3), .ref (Ma 4), .ref (Ma 5), .ref (Ma 6), .int (Mv 2), .int (Mv 3), .int (Mv 4), .int (Mv 5), .int (Mv 6), .int (Mv 7), .int (Mv 8), .ref (Ma 7), .int (Mv 9), .ref (Ma 8), .int (Mv 10), .ref (Ma 9), .ref (Ma 10), .int (Mv 11), .int (Mv 12), .int (Mv 13), .ref (Ma 11), .int (Mv 14), .ref (Ma 12), .ref (Ma 13), .ref (Ma 14), .ref (Ma 15), .ref (Ma 16), .long (Mj 0), .ref (Ma 17), .ref (Ma 18), .ref (Ma 19), .ref (Ma 20)])), ((Ma 10), .inl (tc 0, 126, .inl (Mf 10)))] := hD₀
  replace hS := hS₀
  clear hP₀ hD₀ hS₀
  refine lv_if_eq (tgt := 29) hx hb dX12_best_4 (by decide) (fun c_7 => ?_) (fun c_7 => ?_)
  · skip
    refine lv_bipush (v := (-2)) hx hb dX12_best_29 (by decide) ?_
    exact retI (v := (-2)) hx hb hr hlk (rfl) hP hD hS ((Mv 10), (Mv 13), (Mg 8), (Mg 9), (Mf 10), (Mf 12)) ⟨_, rfl, trivial, h_said, h_gd⟩ [6, 0, 1, 2, 3, 4, 7, 5] rfl rfl dX12_best_31 (Nat.le_of_ble_eq_true rfl) (Nat.le_of_ble_eq_true rfl) rfl
  · skip
    refine lv_iload_n hx hb dX12_best_7 rfl (lv_at hl 1 rfl) ?_
    refine lv_i2l (v := (x1).toInt64) hx hb dX12_best_8 rfl ?_
    refine lv_lconst (v := 1) hx hb dX12_best_9 (by decide) ?_
    refine lv_ldc2 hx hb hown (hts _ k_1500) dX12_best_10 ?_
    refine cS (As := [.long (x1).toInt64, .long 1, .long 100]) (rest := []) (wr := [((Ma 2), .inl (tc 0, 2400, .inl (Mf 2))), ((Ma 4), .inl (tc 0, 288, .inl (Mf 4))), ((Ma 5), .inl (tc 0, 6, .inl (Mf 5))), ((Ma 8), .inl (tc 1, 64, .inr (.inl (Mg 8)))), ((Ma 9), .inl (tc 1, 13, .inr (.inl (Mg 9)))), ((Ma 12), .inl (tc 0, 46, .inl (Mf 12))), ((Ma 0), .inr (12, [.ref (Ma 1), .int (Mv 0), .int (Mv 1), .ref (Ma 2), .ref (Ma 3), .ref (Ma 4), .ref (Ma 5), .ref (Ma 6), .int (Mv 2), .int (Mv 3), .int (Mv 4), .int (Mv 5), .int (Mv 6), .int (Mv 7), .int (Mv 8), .ref (Ma 7), .int (Mv 9), .ref (Ma 8), .int (Mv 10), .ref (Ma 9), .ref (Ma 10), .int (Mv 11), .int (Mv 12), .int (Mv 13), .ref (Ma 11), .int (Mv 14), .ref (Ma 12), .ref (Ma 13), .ref (Ma 14), .ref (Ma 15), .ref (Ma 16), .long (Mj 0), .ref (Ma 17), .ref (Ma 18), .ref (Ma 19), .ref (Ma 20)])), ((Ma 10), .inl (tc 0, 126, .inl (Mf 10)))]) ⟨hx, hb, hml, hown, hts⟩ hK hX hA (ct_X12_in2 l D tc sk ((x1).toInt64) 1 100) k_1259 k_1257 k_1258 k_106 pl_X12_in ⟨Nat.le_of_ble_eq_true rfl, Nat.le_of_ble_eq_true rfl⟩ rfl rfl  hP hD hS [] [0, 1, 2, 3, 4, 5, 6, 7] rfl rfl rfl rfl rfl (by decide) rfl hl.1 rfl (Nat.le_of_ble_eq_true rfl) dX12_best_13 ⟨Nat.le_of_ble_eq_true rfl, Nat.le_of_ble_eq_true rfl⟩ (fun v_8 u_9 H locs hv_10 hP₀ hD₀ hS₀ => ?_)
    obtain ⟨r_11, rfl, he_12⟩ := hv_10
    have he_12 : ((r_11.toInt = 0 ∧ ((x1).toInt64.toInt < (1 : Int64).toInt ∨ (100 : Int64).toInt < (x1).toInt64.toInt)) ∨ (r_11.toInt = 1 ∧ (1 : Int64).toInt ≤ (x1).toInt64.toInt ∧ (x1).toInt64.toInt ≤ (100 : Int64).toInt)) := he_12
    refine W.eq (g2 := F0 m 16 ls [.int r_11]) rfl ?_
    replace hP : va_P D classes [((Ma 2), .inl (tc 0, 2400, .inl (Mf 2))), ((Ma 4), .inl (tc 0, 288, .inl (Mf 4))), ((Ma 5), .inl (tc 0, 6, .inl (Mf 5))), ((Ma 8), .inl (tc 1, 64, .inr (.inl (Mg 8)))), ((Ma 9), .inl (tc 1, 13, .inr (.inl (Mg 9)))), ((Ma 12), .inl (tc 0, 46, .inl (Mf 12))), ((Ma 0), .inr (12, [.ref (Ma 1), .int (Mv 0), .int (Mv 1), .ref (Ma 2), .ref (Ma 3), .ref (Ma 4), .ref (Ma 5), .ref (Ma 6), .int (Mv 2), .int (Mv 3), .int (Mv 4), .int (Mv 5), .int (Mv 6), .int (Mv 7), .int (Mv 8), .ref (Ma 7), .int (Mv 9), .ref (Ma 8), .int (Mv 10), .ref (Ma 9), .ref (Ma 10), .int (Mv 11), .int (Mv 12), .int (Mv 13), .ref (Ma 11), .int (Mv 14), .ref (Ma 12), .ref (Ma 13), .ref (Ma 14), .ref (Ma 15), .ref (Ma 16), .long (Mj 0), .ref (Ma 17), .ref (Ma 18), .ref (Ma 19), .ref (Ma 20)])), ((Ma 10), .inl (tc 0, 126, .inl (Mf 10)))] H := hP₀
    replace hD : va_D A [((Ma 2), .inl (tc 0, 2400, .inl (Mf 2))), ((Ma 4), .inl (tc 0, 288, .inl (Mf 4))), ((Ma 5), .inl (tc 0, 6, .inl (Mf 5))), ((Ma 8), .inl (tc 1, 64, .inr (.inl (Mg 8)))), ((Ma 9), .inl (tc 1, 13, .inr (.inl (Mg 9)))), ((Ma 12), .inl (tc 0, 46, .inl (Mf 12))), ((Ma 0), .inr (12, [.ref (Ma 1), .int (Mv 0), .int (Mv 1), .ref (Ma 2), .ref (Ma 3), .ref (Ma 4), .ref (Ma 5), .ref (Ma 6), .int (Mv 2), .int (Mv 3), .int (Mv 4), .int (Mv 5), .int (Mv 6), .int (Mv 7), .int (Mv 8), .ref (Ma 7), .int (Mv 9), .ref (Ma 8), .int (Mv 10), .ref (Ma 9), .ref (Ma 10), .int (Mv 11), .int (Mv 12), .int (Mv 13), .ref (Ma 11), .int (Mv 14), .ref (Ma 12), .ref (Ma 13), .ref (Ma 14), .ref (Ma 15), .ref (Ma 16), .long (Mj 0), .ref (Ma 17), .ref (Ma 18), .ref (Ma 19), .ref (Ma 20)])), ((Ma 10), .inl (tc 0, 126, .inl (Mf 10)))] := hD₀
    replace hS := hS₀
    clear hP₀ hD₀ hS₀
    have yl_he_12_1 : (1 : Int64).toInt = 1 := by decide
    have yl_he_12_100 : (100 : Int64).toInt = 100 := by decide
    simp only [i32_64] at he_12
    refine lv_if_eq (tgt := 29) hx hb dX12_best_16 (by decide) (fun c_14 => ?_) (fun c_14 => ?_)
    · skip
      refine lv_bipush (v := (-2)) hx hb dX12_best_29 (by decide) ?_
      exact retI (v := (-2)) hx hb hr hlk (rfl) hP hD hS ((Mv 10), (Mv 13), (Mg 8), (Mg 9), (Mf 10), (Mf 12)) ⟨_, rfl, trivial, h_said, h_gd⟩ [6, 0, 1, 2, 3, 4, 7, 5] rfl rfl dX12_best_31 (Nat.le_of_ble_eq_true rfl) (Nat.le_of_ble_eq_true rfl) rfl
    · skip
      refine lv_iload_n hx hb dX12_best_19 rfl (lv_at hl 2 rfl) ?_
      refine lv_i2l (v := (x2).toInt64) hx hb dX12_best_20 rfl ?_
      refine lv_lconst (v := 0) hx hb dX12_best_21 (by decide) ?_
      refine lv_lconst (v := 1) hx hb dX12_best_22 (by decide) ?_
      refine cS (As := [.long (x2).toInt64, .long 0, .long 1]) (rest := []) (wr := [((Ma 2), .inl (tc 0, 2400, .inl (Mf 2))), ((Ma 4), .inl (tc 0, 288, .inl (Mf 4))), ((Ma 5), .inl (tc 0, 6, .inl (Mf 5))), ((Ma 8), .inl (tc 1, 64, .inr (.inl (Mg 8)))), ((Ma 9), .inl (tc 1, 13, .inr (.inl (Mg 9)))), ((Ma 12), .inl (tc 0, 46, .inl (Mf 12))), ((Ma 0), .inr (12, [.ref (Ma 1), .int (Mv 0), .int (Mv 1), .ref (Ma 2), .ref (Ma 3), .ref (Ma 4), .ref (Ma 5), .ref (Ma 6), .int (Mv 2), .int (Mv 3), .int (Mv 4), .int (Mv 5), .int (Mv 6), .int (Mv 7), .int (Mv 8), .ref (Ma 7), .int (Mv 9), .ref (Ma 8), .int (Mv 10), .ref (Ma 9), .ref (Ma 10), .int (Mv 11), .int (Mv 12), .int (Mv 13), .ref (Ma 11), .int (Mv 14), .ref (Ma 12), .ref (Ma 13), .ref (Ma 14), .ref (Ma 15), .ref (Ma 16), .long (Mj 0), .ref (Ma 17), .ref (Ma 18), .ref (Ma 19), .ref (Ma 20)])), ((Ma 10), .inl (tc 0, 126, .inl (Mf 10)))]) ⟨hx, hb, hml, hown, hts⟩ hK hX hA (ct_X12_in2 l D tc sk ((x2).toInt64) 0 1) k_1259 k_1257 k_1258 k_106 pl_X12_in ⟨Nat.le_of_ble_eq_true rfl, Nat.le_of_ble_eq_true rfl⟩ rfl rfl  hP hD hS [] [0, 1, 2, 3, 4, 5, 6, 7] rfl rfl rfl rfl rfl (by decide) rfl hl.1 rfl (Nat.le_of_ble_eq_true rfl) dX12_best_23 ⟨Nat.le_of_ble_eq_true rfl, Nat.le_of_ble_eq_true rfl⟩ (fun v_15 u_16 H locs hv_17 hP₀ hD₀ hS₀ => ?_)
      obtain ⟨r_18, rfl, he_19⟩ := hv_17
      have he_19 : ((r_18.toInt = 0 ∧ ((x2).toInt64.toInt < (0 : Int64).toInt ∨ (1 : Int64).toInt < (x2).toInt64.toInt)) ∨ (r_18.toInt = 1 ∧ (0 : Int64).toInt ≤ (x2).toInt64.toInt ∧ (x2).toInt64.toInt ≤ (1 : Int64).toInt)) := he_19
      refine W.eq (g2 := F0 m 26 ls [.int r_18]) rfl ?_
      replace hP : va_P D classes [((Ma 2), .inl (tc 0, 2400, .inl (Mf 2))), ((Ma 4), .inl (tc 0, 288, .inl (Mf 4))), ((Ma 5), .inl (tc 0, 6, .inl (Mf 5))), ((Ma 8), .inl (tc 1, 64, .inr (.inl (Mg 8)))), ((Ma 9), .inl (tc 1, 13, .inr (.inl (Mg 9)))), ((Ma 12), .inl (tc 0, 46, .inl (Mf 12))), ((Ma 0), .inr (12, [.ref (Ma 1), .int (Mv 0), .int (Mv 1), .ref (Ma 2), .ref (Ma 3), .ref (Ma 4), .ref (Ma 5), .ref (Ma 6), .int (Mv 2), .int (Mv 3), .int (Mv 4), .int (Mv 5), .int (Mv 6), .int (Mv 7), .int (Mv 8), .ref (Ma 7), .int (Mv 9), .ref (Ma 8), .int (Mv 10), .ref (Ma 9), .ref (Ma 10), .int (Mv 11), .int (Mv 12), .int (Mv 13), .ref (Ma 11), .int (Mv 14), .ref (Ma 12), .ref (Ma 13), .ref (Ma 14), .ref (Ma 15), .ref (Ma 16), .long (Mj 0), .ref (Ma 17), .ref (Ma 18), .ref (Ma 19), .ref (Ma 20)])), ((Ma 10), .inl (tc 0, 126, .inl (Mf 10)))] H := hP₀
      replace hD : va_D A [((Ma 2), .inl (tc 0, 2400, .inl (Mf 2))), ((Ma 4), .inl (tc 0, 288, .inl (Mf 4))), ((Ma 5), .inl (tc 0, 6, .inl (Mf 5))), ((Ma 8), .inl (tc 1, 64, .inr (.inl (Mg 8)))), ((Ma 9), .inl (tc 1, 13, .inr (.inl (Mg 9)))), ((Ma 12), .inl (tc 0, 46, .inl (Mf 12))), ((Ma 0), .inr (12, [.ref (Ma 1), .int (Mv 0), .int (Mv 1), .ref (Ma 2), .ref (Ma 3), .ref (Ma 4), .ref (Ma 5), .ref (Ma 6), .int (Mv 2), .int (Mv 3), .int (Mv 4), .int (Mv 5), .int (Mv 6), .int (Mv 7), .int (Mv 8), .ref (Ma 7), .int (Mv 9), .ref (Ma 8), .int (Mv 10), .ref (Ma 9), .ref (Ma 10), .int (Mv 11), .int (Mv 12), .int (Mv 13), .ref (Ma 11), .int (Mv 14), .ref (Ma 12), .ref (Ma 13), .ref (Ma 14), .ref (Ma 15), .ref (Ma 16), .long (Mj 0), .ref (Ma 17), .ref (Ma 18), .ref (Ma 19), .ref (Ma 20)])), ((Ma 10), .inl (tc 0, 126, .inl (Mf 10)))] := hD₀
      replace hS := hS₀
      clear hP₀ hD₀ hS₀
      have yl_he_19_0 : (0 : Int64).toInt = 0 := by decide
      have yl_he_19_1 : (1 : Int64).toInt = 1 := by decide
      simp only [i32_64] at he_19
      refine lv_if_ne (tgt := 32) hx hb dX12_best_26 (by decide) (fun c_21 => ?_) (fun c_21 => ?_)
      · skip
        refine lv_aload_n hx hb dX12_best_32 rfl (lv_at hl 0 rfl) ?_
        refine cV (a := (Ma 0)) (As := []) (rest := []) (wr := [((Ma 2), .inl (tc 0, 2400, .inl (Mf 2))), ((Ma 4), .inl (tc 0, 288, .inl (Mf 4))), ((Ma 5), .inl (tc 0, 6, .inl (Mf 5))), ((Ma 8), .inl (tc 1, 64, .inr (.inl (Mg 8)))), ((Ma 9), .inl (tc 1, 13, .inr (.inl (Mg 9))))]) ⟨hx, hb, hml, hown, hts⟩ hK hX hA (cu_X12_keeps l D tc sk (Ma 0) (Ma 1) (Ma 2) (Ma 3) (Ma 4) (Ma 5) (Ma 6) (Ma 7) (Ma 8) (Ma 9) (Ma 10) (Ma 11) (Ma 12) (Ma 13) (Ma 14) (Ma 15) (Ma 16) (Ma 17) (Ma 18) (Ma 19) (Ma 20) (Mv 0) (Mv 1) (Mv 2) (Mv 3) (Mv 4) (Mv 5) (Mv 6) (Mv 7) (Mv 8) (Mv 9) (Mv 10) (Mv 11) (Mv 12) (Mv 13) (Mv 14) (Mf 10) (Mf 12) (Mj 0) h_said) k_1505 k_1502 k_1504 k_80 k_106 pl_X12_keeps ⟨Nat.le_of_ble_eq_true rfl, Nat.le_of_ble_eq_true rfl⟩ rfl rfl (va_recv hK hP (ci := 12) (q0 := 6) rfl rfl) hP hD hS [6, 7, 5] [0, 1, 2, 3, 4] rfl rfl rfl rfl rfl (by decide) rfl hl.1 rfl (Nat.le_of_ble_eq_true rfl) dX12_best_33 ⟨Nat.le_of_ble_eq_true rfl, Nat.le_of_ble_eq_true rfl⟩ (fun v_22 u_23 H locs hv_24 hP₀ hD₀ hS₀ => ?_)
        obtain ⟨sv_25, rfl⟩ : ∃ z, z = u_23 := ⟨_, rfl⟩
        obtain ⟨rfl, pf_26⟩ := hv_24
        have pf_26 : KeptD sv_25 := pf_26
        refine W.eq (g2 := F0 m 36 ls []) rfl ?_
        replace hP : va_P D classes [((Ma 2), .inl (tc 0, 2400, .inl (Mf 2))), ((Ma 4), .inl (tc 0, 288, .inl (Mf 4))), ((Ma 5), .inl (tc 0, 6, .inl (Mf 5))), ((Ma 8), .inl (tc 1, 64, .inr (.inl (Mg 8)))), ((Ma 9), .inl (tc 1, 13, .inr (.inl (Mg 9)))), ((Ma 0), .inr (12, [.ref (Ma 1), .int (Mv 0), .int (Mv 1), .ref (Ma 2), .ref (Ma 3), .ref (Ma 4), .ref (Ma 5), .ref (Ma 6), .int (Mv 2), .int (Mv 3), .int (Mv 4), .int (Mv 5), .int (Mv 6), .int (Mv 7), .int (Mv 8), .ref (Ma 7), .int (Mv 9), .ref (Ma 8), .int (Mv 10), .ref (Ma 9), .ref (Ma 10), .int (Mv 11), .int (Mv 12), .int (Mv 13), .ref (Ma 11), .int (Mv 14), .ref (Ma 12), .ref (Ma 13), .ref (Ma 14), .ref (Ma 15), .ref (Ma 16), .long (Mj 0), .ref (Ma 17), .ref (Ma 18), .ref (Ma 19), .ref (Ma 20)])), ((Ma 10), .inl (tc 0, 126, .inl (Mf 10))), ((Ma 12), .inl (tc 0, 46, .inl sv_25))] H := hP₀
        replace hD : va_D A [((Ma 2), .inl (tc 0, 2400, .inl (Mf 2))), ((Ma 4), .inl (tc 0, 288, .inl (Mf 4))), ((Ma 5), .inl (tc 0, 6, .inl (Mf 5))), ((Ma 8), .inl (tc 1, 64, .inr (.inl (Mg 8)))), ((Ma 9), .inl (tc 1, 13, .inr (.inl (Mg 9)))), ((Ma 0), .inr (12, [.ref (Ma 1), .int (Mv 0), .int (Mv 1), .ref (Ma 2), .ref (Ma 3), .ref (Ma 4), .ref (Ma 5), .ref (Ma 6), .int (Mv 2), .int (Mv 3), .int (Mv 4), .int (Mv 5), .int (Mv 6), .int (Mv 7), .int (Mv 8), .ref (Ma 7), .int (Mv 9), .ref (Ma 8), .int (Mv 10), .ref (Ma 9), .ref (Ma 10), .int (Mv 11), .int (Mv 12), .int (Mv 13), .ref (Ma 11), .int (Mv 14), .ref (Ma 12), .ref (Ma 13), .ref (Ma 14), .ref (Ma 15), .ref (Ma 16), .long (Mj 0), .ref (Ma 17), .ref (Ma 18), .ref (Ma 19), .ref (Ma 20)])), ((Ma 10), .inl (tc 0, 126, .inl (Mf 10))), ((Ma 12), .inl (tc 0, 46, .inl sv_25))] := hD₀
        replace hS := hS₀
        clear hP₀ hD₀ hS₀
        refine lv_iconst (v := (-1)) hx hb dX12_best_36 (by decide) ?_
        refine lv_istore_n (lv' := [(3, .int (-1)), (0, .ref (Ma 0)), (1, .int x1), (2, .int x2)]) hx hb dX12_best_37 rfl hl (by decide) rfl (fun ls hl₀ => ?_)
        replace hl := hl₀
        clear hl₀
        refine lv_aload_n hx hb dX12_best_38 rfl (lv_at hl 1 rfl) ?_
        refine lv_iload_n hx hb dX12_best_39 rfl (lv_at hl 2 rfl) ?_
        have ha_27 : 0 ≤ x1.toInt ∧ x1.toInt ≤ 1000 := by
          have z_1 : ¬ (r_4 : Int32).toInt = (0 : Int32).toInt := fun z => c_7 (Int32.toInt_inj.mp z)
          have z_2 : ¬ (r_11 : Int32).toInt = (0 : Int32).toInt := fun z => c_14 (Int32.toInt_inj.mp z)
          have z_3 : ¬ (r_18 : Int32).toInt = (0 : Int32).toInt := fun z => c_21 (Int32.toInt_inj.mp z)
          have y_0 : (0 : Int32).toInt = 0 := by decide
          refine ⟨?_, ?_⟩ <;> omega
        refine cV (a := (Ma 0)) (As := [.int x1]) (rest := []) (wr := []) ⟨hx, hb, hml, hown, hts⟩ hK hX hA (cu_X12_soldIn l D tc sk (Ma 0) (Ma 1) (Ma 2) (Ma 3) (Ma 4) (Ma 5) (Ma 6) (Ma 7) (Ma 8) (Ma 9) (Ma 10) (Ma 11) (Ma 12) (Ma 13) (Ma 14) (Ma 15) (Ma 16) (Ma 17) (Ma 18) (Ma 19) (Ma 20) (Mv 0) (Mv 1) (Mv 2) (Mv 3) (Mv 4) (Mv 5) (Mv 6) (Mv 7) (Mv 8) (Mv 9) (Mv 10) (Mv 11) (Mv 12) (Mv 13) (Mv 14) (Mf 2) (Mf 4) (Mf 5) (Mf 10) sv_25 (Mj 0) (Mg 8) (Mg 9) x1 h_said pf_26 h_rul h_frc ha_27) k_1544 k_1541 k_1543 k_84 k_106 pl_X12_soldIn ⟨Nat.le_of_ble_eq_true rfl, Nat.le_of_ble_eq_true rfl⟩ rfl rfl (va_recv hK hP (ci := 12) (q0 := 5) rfl rfl) hP hD hS [5, 0, 1, 2, 3, 4, 6, 7] [] rfl rfl rfl rfl rfl (by decide) rfl hl.1 rfl (Nat.le_of_ble_eq_true rfl) dX12_best_40 ⟨Nat.le_of_ble_eq_true rfl, Nat.le_of_ble_eq_true rfl⟩ (fun v_28 u_29 H locs hv_30 hP₀ hD₀ hS₀ => ?_)
        obtain ⟨sv_31, sv_32, sv_33, sv_34⟩ := u_29
        obtain ⟨r_36, rfl, he_37, pf_35⟩ := hv_30
        have pf_35 : SaidD T sv_34 999 := pf_35
        have ar_pf_35 := SaidD.al pf_35
        refine W.eq (g2 := F0 m 43 ls [.int r_36]) rfl ?_
        replace hP : va_P D classes [((Ma 0), .inr (12, [.ref (Ma 1), .int (Mv 0), .int (Mv 1), .ref (Ma 2), .ref (Ma 3), .ref (Ma 4), .ref (Ma 5), .ref (Ma 6), .int (Mv 2), .int (Mv 3), .int (Mv 4), .int (Mv 5), .int (Mv 6), .int (Mv 7), .int (Mv 8), .ref (Ma 7), .int (Mv 9), .ref (Ma 8), .int sv_31, .ref (Ma 9), .ref (Ma 10), .int (Mv 11), .int (Mv 12), .int (Mv 13), .ref (Ma 11), .int (Mv 14), .ref (Ma 12), .ref (Ma 13), .ref (Ma 14), .ref (Ma 15), .ref (Ma 16), .long (Mj 0), .ref (Ma 17), .ref (Ma 18), .ref (Ma 19), .ref (Ma 20)])), ((Ma 2), .inl (tc 0, 2400, .inl (Mf 2))), ((Ma 4), .inl (tc 0, 288, .inl (Mf 4))), ((Ma 5), .inl (tc 0, 6, .inl (Mf 5))), ((Ma 8), .inl (tc 1, 64, .inr (.inl sv_32))), ((Ma 9), .inl (tc 1, 13, .inr (.inl sv_33))), ((Ma 10), .inl (tc 0, 126, .inl sv_34)), ((Ma 12), .inl (tc 0, 46, .inl sv_25))] H := hP₀
        replace hD : va_D A [((Ma 0), .inr (12, [.ref (Ma 1), .int (Mv 0), .int (Mv 1), .ref (Ma 2), .ref (Ma 3), .ref (Ma 4), .ref (Ma 5), .ref (Ma 6), .int (Mv 2), .int (Mv 3), .int (Mv 4), .int (Mv 5), .int (Mv 6), .int (Mv 7), .int (Mv 8), .ref (Ma 7), .int (Mv 9), .ref (Ma 8), .int sv_31, .ref (Ma 9), .ref (Ma 10), .int (Mv 11), .int (Mv 12), .int (Mv 13), .ref (Ma 11), .int (Mv 14), .ref (Ma 12), .ref (Ma 13), .ref (Ma 14), .ref (Ma 15), .ref (Ma 16), .long (Mj 0), .ref (Ma 17), .ref (Ma 18), .ref (Ma 19), .ref (Ma 20)])), ((Ma 2), .inl (tc 0, 2400, .inl (Mf 2))), ((Ma 4), .inl (tc 0, 288, .inl (Mf 4))), ((Ma 5), .inl (tc 0, 6, .inl (Mf 5))), ((Ma 8), .inl (tc 1, 64, .inr (.inl sv_32))), ((Ma 9), .inl (tc 1, 13, .inr (.inl sv_33))), ((Ma 10), .inl (tc 0, 126, .inl sv_34)), ((Ma 12), .inl (tc 0, 46, .inl sv_25))] := hD₀
        replace hS := hS₀
        clear hP₀ hD₀ hS₀
        refine lv_istore (lv' := [(4, .int r_36), (3, .int (-1)), (0, .ref (Ma 0)), (1, .int x1), (2, .int x2)]) hx hb dX12_best_43 hl (by decide) rfl (fun ls hl₀ => ?_)
        replace hl := hl₀
        clear hl₀
        refine lv_iconst (v := 0) hx hb dX12_best_45 (by decide) ?_
        refine lv_istore (lv' := [(5, .int 0), (4, .int r_36), (3, .int (-1)), (0, .ref (Ma 0)), (1, .int x1), (2, .int x2)]) hx hb dX12_best_46 hl (by decide) rfl (fun ls hl₀ => ?_)
        replace hl := hl₀
        clear hl₀
        have loop_57 : ∀ (n_55 : Nat) (vy_47 : Int32) (vy_48 : Int32) (vy_49 : Int32) (vy_50 : Int32) (vy_51 : Int32) (vy_52 : Nat → Int64) (vy_53 : Nat → Int64) (vy_54 : Nat → Int32) (H : Heap) (locs : List Loc) (ls : Array Slot), (2147483647 - (vy_47 : Int32).toInt).toNat < n_55 → (0 ≤ (vy_47 : Int32).toInt) → (SaidD T vy_54 999) → va_P D classes [((Ma 0), .inr (12, [.ref (Ma 1), .int (Mv 0), .int (Mv 1), .ref (Ma 2), .ref (Ma 3), .ref (Ma 4), .ref (Ma 5), .ref (Ma 6), .int (Mv 2), .int (Mv 3), .int (Mv 4), .int (Mv 5), .int (Mv 6), .int (Mv 7), .int (Mv 8), .ref (Ma 7), .int (Mv 9), .ref (Ma 8), .int vy_50, .ref (Ma 9), .ref (Ma 10), .int (Mv 11), .int (Mv 12), .int vy_51, .ref (Ma 11), .int (Mv 14), .ref (Ma 12), .ref (Ma 13), .ref (Ma 14), .ref (Ma 15), .ref (Ma 16), .long (Mj 0), .ref (Ma 17), .ref (Ma 18), .ref (Ma 19), .ref (Ma 20)])), ((Ma 2), .inl (tc 0, 2400, .inl (Mf 2))), ((Ma 4), .inl (tc 0, 288, .inl (Mf 4))), ((Ma 5), .inl (tc 0, 6, .inl (Mf 5))), ((Ma 8), .inl (tc 1, 64, .inr (.inl vy_52))), ((Ma 9), .inl (tc 1, 13, .inr (.inl vy_53))), ((Ma 10), .inl (tc 0, 126, .inl vy_54)), ((Ma 12), .inl (tc 0, 46, .inl sv_25))] H → va_D A [((Ma 0), .inr (12, [.ref (Ma 1), .int (Mv 0), .int (Mv 1), .ref (Ma 2), .ref (Ma 3), .ref (Ma 4), .ref (Ma 5), .ref (Ma 6), .int (Mv 2), .int (Mv 3), .int (Mv 4), .int (Mv 5), .int (Mv 6), .int (Mv 7), .int (Mv 8), .ref (Ma 7), .int (Mv 9), .ref (Ma 8), .int vy_50, .ref (Ma 9), .ref (Ma 10), .int (Mv 11), .int (Mv 12), .int vy_51, .ref (Ma 11), .int (Mv 14), .ref (Ma 12), .ref (Ma 13), .ref (Ma 14), .ref (Ma 15), .ref (Ma 16), .long (Mj 0), .ref (Ma 17), .ref (Ma 18), .ref (Ma 19), .ref (Ma 20)])), ((Ma 2), .inl (tc 0, 2400, .inl (Mf 2))), ((Ma 4), .inl (tc 0, 288, .inl (Mf 4))), ((Ma 5), .inl (tc 0, 6, .inl (Mf 5))), ((Ma 8), .inl (tc 1, 64, .inr (.inl vy_52))), ((Ma 9), .inl (tc 1, 13, .inr (.inl vy_53))), ((Ma 10), .inl (tc 0, 126, .inl vy_54)), ((Ma 12), .inl (tc 0, 46, .inl sv_25))] → va_S A s.heap H locs → lv_has ls 7 [(5, .int vy_47), (4, .int vy_48), (3, .int vy_49), (0, .ref (Ma 0)), (1, .int x1), (2, .int x2)] → W p l e ({ frames := 7, cells := 0, slots := 0, locals := 166 }) s m ([.ref (Ma 0), .int x1, .int x2].toArray) below meth c H locs 0 0 (MQ below (QW (fun (v : Option Value) (u : (Int32) × (Int32) × (Nat → Int64) × (Nat → Int64) × (Nat → Int32) × (Nat → Int32)) => match u with | (oo0x1, oo0x2, oo0x3, oo0x4, oo0x5, oo0x6) => ∃ r : Int32, v = some (.int r) ∧ (True) ∧ (SaidD T oo0x5 999) ∧ (GdZ oo0x2)) (BW D (fun (u : (Int32) × (Int32) × (Nat → Int64) × (Nat → Int64) × (Nat → Int32) × (Nat → Int32)) => match u with | (oo0x1, oo0x2, oo0x3, oo0x4, oo0x5, oo0x6) => [((Ma 0), .inr (12, [.ref (Ma 1), .int (Mv 0), .int (Mv 1), .ref (Ma 2), .ref (Ma 3), .ref (Ma 4), .ref (Ma 5), .ref (Ma 6), .int (Mv 2), .int (Mv 3), .int (Mv 4), .int (Mv 5), .int (Mv 6), .int (Mv 7), .int (Mv 8), .ref (Ma 7), .int (Mv 9), .ref (Ma 8), .int oo0x1, .ref (Ma 9), .ref (Ma 10), .int (Mv 11), .int (Mv 12), .int oo0x2, .ref (Ma 11), .int (Mv 14), .ref (Ma 12), .ref (Ma 13), .ref (Ma 14), .ref (Ma 15), .ref (Ma 16), .long (Mj 0), .ref (Ma 17), .ref (Ma 18), .ref (Ma 19), .ref (Ma 20)])), ((Ma 2), .inl (tc 0, 2400, .inl (Mf 2))), ((Ma 4), .inl (tc 0, 288, .inl (Mf 4))), ((Ma 5), .inl (tc 0, 6, .inl (Mf 5))), ((Ma 8), .inl (tc 1, 64, .inr (.inl oo0x3))), ((Ma 9), .inl (tc 1, 13, .inr (.inl oo0x4))), ((Ma 10), .inl (tc 0, 126, .inl oo0x5)), ((Ma 12), .inl (tc 0, 46, .inl oo0x6))]) A) A) ([.ref (Ma 0), .int x1, .int x2].toArray) s 0 0 A) (F0 m 48 ls []) := by
          clear hP hD hS hl
          intro n_55
          induction n_55 with
          | zero =>
            intro vy_47 vy_48 vy_49 vy_50 vy_51 vy_52 vy_53 vy_54 H locs ls h1
            exact absurd h1 (Nat.not_lt_zero _)
          | succ n_55 ih_56 =>
            intro vy_47 vy_48 vy_49 vy_50 vy_51 vy_52 vy_53 vy_54 H locs ls hn_60 pf_58 pf_59 hP hD hS hl
            have ar_pf_59 := SaidD.al pf_59
            refine lv_iload hx hb dX12_best_48 (lv_at hl 0 rfl) ?_
            refine lv_aload_n hx hb dX12_best_50 rfl (lv_at hl 3 rfl) ?_
            refine gf_X12_39 hx hb hts hown hK hP 0 rfl rfl dX12_best_51 ?_
            refine lv_iconst (v := 2) hx hb dX12_best_54 (by decide) ?_
            refine va_iald hx hb hK hP 6 0 rfl rfl (vin_dec (by decide +kernel)) dX12_best_55 ?_
            refine lv_topi (fun x_61 ex_61 => ?_)
            have lx_61 : x_61.toInt = (vy_54 2).toInt := congrArg Int32.toInt ex_61
            refine lv_icmp_ge (tgt := 97) hx hb dX12_best_56 (by decide) (fun c_62 => ?_) (fun c_62 => ?_)
            · skip
              refine lv_aload_n hx hb dX12_best_97 rfl (lv_at hl 3 rfl) ?_
              refine lv_iconst (v := 0) hx hb dX12_best_98 (by decide) ?_
              refine pf_X12_324 hx hb hts hown hK hP hD hS 0 rfl (Nat.le_of_ble_eq_true rfl) rfl rfl dX12_best_99 (fun H locs hP₀ hD₀ hS₀ => ?_)
              replace hP : va_P D classes [((Ma 0), .inr (12, [.ref (Ma 1), .int (Mv 0), .int (Mv 1), .ref (Ma 2), .ref (Ma 3), .ref (Ma 4), .ref (Ma 5), .ref (Ma 6), .int (Mv 2), .int (Mv 3), .int (Mv 4), .int (Mv 5), .int (Mv 6), .int (Mv 7), .int (Mv 8), .ref (Ma 7), .int (Mv 9), .ref (Ma 8), .int vy_50, .ref (Ma 9), .ref (Ma 10), .int (Mv 11), .int (Mv 12), .int 0, .ref (Ma 11), .int (Mv 14), .ref (Ma 12), .ref (Ma 13), .ref (Ma 14), .ref (Ma 15), .ref (Ma 16), .long (Mj 0), .ref (Ma 17), .ref (Ma 18), .ref (Ma 19), .ref (Ma 20)])), ((Ma 2), .inl (tc 0, 2400, .inl (Mf 2))), ((Ma 4), .inl (tc 0, 288, .inl (Mf 4))), ((Ma 5), .inl (tc 0, 6, .inl (Mf 5))), ((Ma 8), .inl (tc 1, 64, .inr (.inl vy_52))), ((Ma 9), .inl (tc 1, 13, .inr (.inl vy_53))), ((Ma 10), .inl (tc 0, 126, .inl vy_54)), ((Ma 12), .inl (tc 0, 46, .inl sv_25))] H := hP₀
              replace hD : va_D A [((Ma 0), .inr (12, [.ref (Ma 1), .int (Mv 0), .int (Mv 1), .ref (Ma 2), .ref (Ma 3), .ref (Ma 4), .ref (Ma 5), .ref (Ma 6), .int (Mv 2), .int (Mv 3), .int (Mv 4), .int (Mv 5), .int (Mv 6), .int (Mv 7), .int (Mv 8), .ref (Ma 7), .int (Mv 9), .ref (Ma 8), .int vy_50, .ref (Ma 9), .ref (Ma 10), .int (Mv 11), .int (Mv 12), .int 0, .ref (Ma 11), .int (Mv 14), .ref (Ma 12), .ref (Ma 13), .ref (Ma 14), .ref (Ma 15), .ref (Ma 16), .long (Mj 0), .ref (Ma 17), .ref (Ma 18), .ref (Ma 19), .ref (Ma 20)])), ((Ma 2), .inl (tc 0, 2400, .inl (Mf 2))), ((Ma 4), .inl (tc 0, 288, .inl (Mf 4))), ((Ma 5), .inl (tc 0, 6, .inl (Mf 5))), ((Ma 8), .inl (tc 1, 64, .inr (.inl vy_52))), ((Ma 9), .inl (tc 1, 13, .inr (.inl vy_53))), ((Ma 10), .inl (tc 0, 126, .inl vy_54)), ((Ma 12), .inl (tc 0, 46, .inl sv_25))] := hD₀
              replace hS := hS₀
              clear hP₀ hD₀ hS₀
              refine lv_iload_n hx hb dX12_best_102 rfl (lv_at hl 5 rfl) ?_
              refine lv_if_ne (tgt := 110) hx hb dX12_best_103 (by decide) (fun c_63 => ?_) (fun c_63 => ?_)
              · skip
                refine lv_iload hx hb dX12_best_110 (lv_at hl 1 rfl) ?_
                exact retI (v := vy_48) hx hb hr hlk (rfl) hP hD hS (vy_50, 0, vy_52, vy_53, vy_54, sv_25) ⟨_, rfl, trivial, pf_59, (rfl)⟩ [0, 1, 2, 3, 4, 5, 6, 7] rfl rfl dX12_best_112 (Nat.le_of_ble_eq_true rfl) (Nat.le_of_ble_eq_true rfl) rfl
              · skip
                refine lv_iload_n hx hb dX12_best_106 rfl (lv_at hl 2 rfl) ?_
                refine lv_goto (tgt := 112) hx hb dX12_best_107 (by decide) ?_
                exact retI (v := vy_49) hx hb hr hlk (rfl) hP hD hS (vy_50, 0, vy_52, vy_53, vy_54, sv_25) ⟨_, rfl, trivial, pf_59, (rfl)⟩ [0, 1, 2, 3, 4, 5, 6, 7] rfl rfl dX12_best_112 (Nat.le_of_ble_eq_true rfl) (Nat.le_of_ble_eq_true rfl) rfl
            · skip
              have hm_k_64 := i32_le (vy_47 : Int32)
              have hm_k_65 := i32_le (x_61 : Int32)
              refine lv_aload_n hx hb dX12_best_59 rfl (lv_at hl 3 rfl) ?_
              refine lv_iconst (v := 1) hx hb dX12_best_60 (by decide) ?_
              refine lv_iload hx hb dX12_best_61 (lv_at hl 0 rfl) ?_
              refine lv_ishl hx hb dX12_best_63 ?_
              refine lv_topi (fun x_66 ex_66 => ?_)
              refine pf_X12_324 hx hb hts hown hK hP hD hS 0 rfl (Nat.le_of_ble_eq_true rfl) rfl rfl dX12_best_64 (fun H locs hP₀ hD₀ hS₀ => ?_)
              replace hP : va_P D classes [((Ma 0), .inr (12, [.ref (Ma 1), .int (Mv 0), .int (Mv 1), .ref (Ma 2), .ref (Ma 3), .ref (Ma 4), .ref (Ma 5), .ref (Ma 6), .int (Mv 2), .int (Mv 3), .int (Mv 4), .int (Mv 5), .int (Mv 6), .int (Mv 7), .int (Mv 8), .ref (Ma 7), .int (Mv 9), .ref (Ma 8), .int vy_50, .ref (Ma 9), .ref (Ma 10), .int (Mv 11), .int (Mv 12), .int x_66, .ref (Ma 11), .int (Mv 14), .ref (Ma 12), .ref (Ma 13), .ref (Ma 14), .ref (Ma 15), .ref (Ma 16), .long (Mj 0), .ref (Ma 17), .ref (Ma 18), .ref (Ma 19), .ref (Ma 20)])), ((Ma 2), .inl (tc 0, 2400, .inl (Mf 2))), ((Ma 4), .inl (tc 0, 288, .inl (Mf 4))), ((Ma 5), .inl (tc 0, 6, .inl (Mf 5))), ((Ma 8), .inl (tc 1, 64, .inr (.inl vy_52))), ((Ma 9), .inl (tc 1, 13, .inr (.inl vy_53))), ((Ma 10), .inl (tc 0, 126, .inl vy_54)), ((Ma 12), .inl (tc 0, 46, .inl sv_25))] H := hP₀
              replace hD : va_D A [((Ma 0), .inr (12, [.ref (Ma 1), .int (Mv 0), .int (Mv 1), .ref (Ma 2), .ref (Ma 3), .ref (Ma 4), .ref (Ma 5), .ref (Ma 6), .int (Mv 2), .int (Mv 3), .int (Mv 4), .int (Mv 5), .int (Mv 6), .int (Mv 7), .int (Mv 8), .ref (Ma 7), .int (Mv 9), .ref (Ma 8), .int vy_50, .ref (Ma 9), .ref (Ma 10), .int (Mv 11), .int (Mv 12), .int x_66, .ref (Ma 11), .int (Mv 14), .ref (Ma 12), .ref (Ma 13), .ref (Ma 14), .ref (Ma 15), .ref (Ma 16), .long (Mj 0), .ref (Ma 17), .ref (Ma 18), .ref (Ma 19), .ref (Ma 20)])), ((Ma 2), .inl (tc 0, 2400, .inl (Mf 2))), ((Ma 4), .inl (tc 0, 288, .inl (Mf 4))), ((Ma 5), .inl (tc 0, 6, .inl (Mf 5))), ((Ma 8), .inl (tc 1, 64, .inr (.inl vy_52))), ((Ma 9), .inl (tc 1, 13, .inr (.inl vy_53))), ((Ma 10), .inl (tc 0, 126, .inl vy_54)), ((Ma 12), .inl (tc 0, 46, .inl sv_25))] := hD₀
              replace hS := hS₀
              clear hP₀ hD₀ hS₀
              refine lv_aload_n hx hb dX12_best_67 rfl (lv_at hl 3 rfl) ?_
              refine lv_iload_n hx hb dX12_best_68 rfl (lv_at hl 4 rfl) ?_
              have ha_67 : 0 ≤ x1.toInt ∧ x1.toInt ≤ 1000 := by
                have z_1 : ¬ (r_4 : Int32).toInt = (0 : Int32).toInt := fun z => c_7 (Int32.toInt_inj.mp z)
                have z_2 : ¬ (r_11 : Int32).toInt = (0 : Int32).toInt := fun z => c_14 (Int32.toInt_inj.mp z)
                have z_3 : ¬ (r_18 : Int32).toInt = (0 : Int32).toInt := fun z => c_21 (Int32.toInt_inj.mp z)
                have z_4 := Int32.lt_iff_toInt_lt.mp (Int32.not_le.mp c_62)
                have y_0 : (0 : Int32).toInt = 0 := by decide
                refine ⟨?_, ?_⟩ <;> omega
              refine cV (a := (Ma 0)) (As := [.int x1]) (rest := []) (wr := []) ⟨hx, hb, hml, hown, hts⟩ hK hX hA (cu_X12_soldIn l D tc sk (Ma 0) (Ma 1) (Ma 2) (Ma 3) (Ma 4) (Ma 5) (Ma 6) (Ma 7) (Ma 8) (Ma 9) (Ma 10) (Ma 11) (Ma 12) (Ma 13) (Ma 14) (Ma 15) (Ma 16) (Ma 17) (Ma 18) (Ma 19) (Ma 20) (Mv 0) (Mv 1) (Mv 2) (Mv 3) (Mv 4) (Mv 5) (Mv 6) (Mv 7) (Mv 8) (Mv 9) vy_50 (Mv 11) (Mv 12) x_66 (Mv 14) (Mf 2) (Mf 4) (Mf 5) vy_54 sv_25 (Mj 0) vy_52 vy_53 x1 pf_59 pf_26 h_rul h_frc ha_67) k_1544 k_1541 k_1543 k_84 k_106 pl_X12_soldIn ⟨Nat.le_of_ble_eq_true rfl, Nat.le_of_ble_eq_true rfl⟩ rfl rfl (va_recv hK hP (ci := 12) (q0 := 0) rfl rfl) hP hD hS [0, 1, 2, 3, 4, 5, 6, 7] [] rfl rfl rfl rfl rfl (by decide) rfl hl.1 rfl (Nat.le_of_ble_eq_true rfl) dX12_best_69 ⟨Nat.le_of_ble_eq_true rfl, Nat.le_of_ble_eq_true rfl⟩ (fun v_68 u_69 H locs hv_70 hP₀ hD₀ hS₀ => ?_)
              obtain ⟨sv_71, sv_72, sv_73, sv_74⟩ := u_69
              obtain ⟨r_76, rfl, he_77, pf_75⟩ := hv_70
              have pf_75 : SaidD T sv_74 999 := pf_75
              have ar_pf_75 := SaidD.al pf_75
              refine W.eq (g2 := F0 m 72 ls [.int r_76]) rfl ?_
              replace hP : va_P D classes [((Ma 0), .inr (12, [.ref (Ma 1), .int (Mv 0), .int (Mv 1), .ref (Ma 2), .ref (Ma 3), .ref (Ma 4), .ref (Ma 5), .ref (Ma 6), .int (Mv 2), .int (Mv 3), .int (Mv 4), .int (Mv 5), .int (Mv 6), .int (Mv 7), .int (Mv 8), .ref (Ma 7), .int (Mv 9), .ref (Ma 8), .int sv_71, .ref (Ma 9), .ref (Ma 10), .int (Mv 11), .int (Mv 12), .int x_66, .ref (Ma 11), .int (Mv 14), .ref (Ma 12), .ref (Ma 13), .ref (Ma 14), .ref (Ma 15), .ref (Ma 16), .long (Mj 0), .ref (Ma 17), .ref (Ma 18), .ref (Ma 19), .ref (Ma 20)])), ((Ma 2), .inl (tc 0, 2400, .inl (Mf 2))), ((Ma 4), .inl (tc 0, 288, .inl (Mf 4))), ((Ma 5), .inl (tc 0, 6, .inl (Mf 5))), ((Ma 8), .inl (tc 1, 64, .inr (.inl sv_72))), ((Ma 9), .inl (tc 1, 13, .inr (.inl sv_73))), ((Ma 10), .inl (tc 0, 126, .inl sv_74)), ((Ma 12), .inl (tc 0, 46, .inl sv_25))] H := hP₀
              replace hD : va_D A [((Ma 0), .inr (12, [.ref (Ma 1), .int (Mv 0), .int (Mv 1), .ref (Ma 2), .ref (Ma 3), .ref (Ma 4), .ref (Ma 5), .ref (Ma 6), .int (Mv 2), .int (Mv 3), .int (Mv 4), .int (Mv 5), .int (Mv 6), .int (Mv 7), .int (Mv 8), .ref (Ma 7), .int (Mv 9), .ref (Ma 8), .int sv_71, .ref (Ma 9), .ref (Ma 10), .int (Mv 11), .int (Mv 12), .int x_66, .ref (Ma 11), .int (Mv 14), .ref (Ma 12), .ref (Ma 13), .ref (Ma 14), .ref (Ma 15), .ref (Ma 16), .long (Mj 0), .ref (Ma 17), .ref (Ma 18), .ref (Ma 19), .ref (Ma 20)])), ((Ma 2), .inl (tc 0, 2400, .inl (Mf 2))), ((Ma 4), .inl (tc 0, 288, .inl (Mf 4))), ((Ma 5), .inl (tc 0, 6, .inl (Mf 5))), ((Ma 8), .inl (tc 1, 64, .inr (.inl sv_72))), ((Ma 9), .inl (tc 1, 13, .inr (.inl sv_73))), ((Ma 10), .inl (tc 0, 126, .inl sv_74)), ((Ma 12), .inl (tc 0, 46, .inl sv_25))] := hD₀
              replace hS := hS₀
              clear hP₀ hD₀ hS₀
              refine lv_istore (lv' := [(6, .int r_76), (5, .int vy_47), (4, .int vy_48), (3, .int vy_49), (0, .ref (Ma 0)), (1, .int x1), (2, .int x2)]) hx hb dX12_best_72 hl (by decide) rfl (fun ls hl₀ => ?_)
              replace hl := hl₀
              clear hl₀
              refine lv_iload hx hb dX12_best_74 (lv_at hl 0 rfl) ?_
              refine lv_iload hx hb dX12_best_76 (lv_at hl 2 rfl) ?_
              refine lv_icmp_lt (tgt := 84) hx hb dX12_best_78 (by decide) (fun c_79 => ?_) (fun c_79 => ?_)
              · skip
                refine lv_iload hx hb dX12_best_84 (lv_at hl 1 rfl) ?_
                refine lv_istore_n (lv' := [(3, .int vy_47), (6, .int r_76), (5, .int vy_47), (4, .int vy_48), (0, .ref (Ma 0)), (1, .int x1), (2, .int x2)]) hx hb dX12_best_86 rfl hl (by decide) rfl (fun ls hl₀ => ?_)
                replace hl := hl₀
                clear hl₀
                refine lv_iload hx hb dX12_best_87 (lv_at hl 1 rfl) ?_
                refine lv_istore (lv' := [(4, .int r_76), (3, .int vy_47), (6, .int r_76), (5, .int vy_47), (0, .ref (Ma 0)), (1, .int x1), (2, .int x2)]) hx hb dX12_best_89 hl (by decide) rfl (fun ls hl₀ => ?_)
                replace hl := hl₀
                clear hl₀
                obtain ⟨x_80, ex_80⟩ : ∃ y : Int32, y = vy_47 + 1 := ⟨_, rfl⟩
                refine lv_iinc (v := x_80) (lv' := [(5, .int x_80), (4, .int r_76), (3, .int vy_47), (6, .int r_76), (0, .ref (Ma 0)), (1, .int x1), (2, .int x2)]) hx hb dX12_best_91 hl (k := 3) rfl (by rw [ex_80]; rfl) (by decide) rfl (fun ls hl₀ => ?_)
                replace hl := hl₀
                clear hl₀
                refine lv_goto (tgt := 48) hx hb dX12_best_94 (by decide) ?_
                have hb_81 : 2147483647 - (x_80 : Int32).toInt < 2147483647 - (vy_47 : Int32).toInt ∧ 1 ≤ 2147483647 - (vy_47 : Int32).toInt := by
                  have z_1 : ¬ (r_4 : Int32).toInt = (0 : Int32).toInt := fun z => c_7 (Int32.toInt_inj.mp z)
                  have z_2 : ¬ (r_11 : Int32).toInt = (0 : Int32).toInt := fun z => c_14 (Int32.toInt_inj.mp z)
                  have z_3 : ¬ (r_18 : Int32).toInt = (0 : Int32).toInt := fun z => c_21 (Int32.toInt_inj.mp z)
                  have z_4 := Int32.lt_iff_toInt_lt.mp (Int32.not_le.mp c_62)
                  have z_5 := Int32.lt_iff_toInt_lt.mp c_79
                  have y_0 : (0 : Int32).toInt = 0 := by decide
                  have y_1 : (1 : Int32).toInt = 1 := by decide
                  have t_x_80 : x_80.toInt = (vy_47 : Int32).toInt + (1 : Int32).toInt := by rw [ex_80]; exact add_toInt (by omega) (by omega)
                  refine ⟨?_, ?_⟩ <;> omega
                have ha_82 : 0 ≤ (x_80 : Int32).toInt := by
                  have z_1 : ¬ (r_4 : Int32).toInt = (0 : Int32).toInt := fun z => c_7 (Int32.toInt_inj.mp z)
                  have z_2 : ¬ (r_11 : Int32).toInt = (0 : Int32).toInt := fun z => c_14 (Int32.toInt_inj.mp z)
                  have z_3 : ¬ (r_18 : Int32).toInt = (0 : Int32).toInt := fun z => c_21 (Int32.toInt_inj.mp z)
                  have z_4 := Int32.lt_iff_toInt_lt.mp (Int32.not_le.mp c_62)
                  have z_5 := Int32.lt_iff_toInt_lt.mp c_79
                  have y_0 : (0 : Int32).toInt = 0 := by decide
                  have y_1 : (1 : Int32).toInt = 1 := by decide
                  have t_x_80 : x_80.toInt = (vy_47 : Int32).toInt + (1 : Int32).toInt := by rw [ex_80]; exact add_toInt (by omega) (by omega)
                  omega
                exact ih_56 x_80 r_76 vy_47 sv_71 x_66 sv_72 sv_73 sv_74 _ _ _ (by omega) ha_82 pf_75 (hP.sub [0, 1, 2, 3, 4, 5, 6, 7] rfl) (hD.sub [0, 1, 2, 3, 4, 5, 6, 7] rfl rfl) hS (lv_sub hl [0, 1, 2, 4, 5, 6] rfl)
              · skip
                refine lv_goto (tgt := 91) hx hb dX12_best_81 (by decide) ?_
                obtain ⟨x_83, ex_83⟩ : ∃ y : Int32, y = vy_47 + 1 := ⟨_, rfl⟩
                refine lv_iinc (v := x_83) (lv' := [(5, .int x_83), (6, .int r_76), (4, .int vy_48), (3, .int vy_49), (0, .ref (Ma 0)), (1, .int x1), (2, .int x2)]) hx hb dX12_best_91 hl (k := 1) rfl (by rw [ex_83]; rfl) (by decide) rfl (fun ls hl₀ => ?_)
                replace hl := hl₀
                clear hl₀
                refine lv_goto (tgt := 48) hx hb dX12_best_94 (by decide) ?_
                have hb_84 : 2147483647 - (x_83 : Int32).toInt < 2147483647 - (vy_47 : Int32).toInt ∧ 1 ≤ 2147483647 - (vy_47 : Int32).toInt := by
                  have z_1 : ¬ (r_4 : Int32).toInt = (0 : Int32).toInt := fun z => c_7 (Int32.toInt_inj.mp z)
                  have z_2 : ¬ (r_11 : Int32).toInt = (0 : Int32).toInt := fun z => c_14 (Int32.toInt_inj.mp z)
                  have z_3 : ¬ (r_18 : Int32).toInt = (0 : Int32).toInt := fun z => c_21 (Int32.toInt_inj.mp z)
                  have z_4 := Int32.lt_iff_toInt_lt.mp (Int32.not_le.mp c_62)
                  have z_5 := Int32.le_iff_toInt_le.mp (Int32.not_lt.mp c_79)
                  have y_0 : (0 : Int32).toInt = 0 := by decide
                  have y_1 : (1 : Int32).toInt = 1 := by decide
                  have t_x_83 : x_83.toInt = (vy_47 : Int32).toInt + (1 : Int32).toInt := by rw [ex_83]; exact add_toInt (by omega) (by omega)
                  refine ⟨?_, ?_⟩ <;> omega
                have ha_85 : 0 ≤ (x_83 : Int32).toInt := by
                  have z_1 : ¬ (r_4 : Int32).toInt = (0 : Int32).toInt := fun z => c_7 (Int32.toInt_inj.mp z)
                  have z_2 : ¬ (r_11 : Int32).toInt = (0 : Int32).toInt := fun z => c_14 (Int32.toInt_inj.mp z)
                  have z_3 : ¬ (r_18 : Int32).toInt = (0 : Int32).toInt := fun z => c_21 (Int32.toInt_inj.mp z)
                  have z_4 := Int32.lt_iff_toInt_lt.mp (Int32.not_le.mp c_62)
                  have z_5 := Int32.le_iff_toInt_le.mp (Int32.not_lt.mp c_79)
                  have y_0 : (0 : Int32).toInt = 0 := by decide
                  have y_1 : (1 : Int32).toInt = 1 := by decide
                  have t_x_83 : x_83.toInt = (vy_47 : Int32).toInt + (1 : Int32).toInt := by rw [ex_83]; exact add_toInt (by omega) (by omega)
                  omega
                exact ih_56 x_83 vy_48 vy_49 sv_71 x_66 sv_72 sv_73 sv_74 _ _ _ (by omega) ha_85 pf_75 (hP.sub [0, 1, 2, 3, 4, 5, 6, 7] rfl) (hD.sub [0, 1, 2, 3, 4, 5, 6, 7] rfl rfl) hS (lv_sub hl [0, 2, 3, 4, 5, 6] rfl)
        have ha_86 : 0 ≤ (0 : Int32).toInt := by
          have z_1 : ¬ (r_4 : Int32).toInt = (0 : Int32).toInt := fun z => c_7 (Int32.toInt_inj.mp z)
          have z_2 : ¬ (r_11 : Int32).toInt = (0 : Int32).toInt := fun z => c_14 (Int32.toInt_inj.mp z)
          have z_3 : ¬ (r_18 : Int32).toInt = (0 : Int32).toInt := fun z => c_21 (Int32.toInt_inj.mp z)
          have y_0 : (0 : Int32).toInt = 0 := by decide
          omega
        exact loop_57 _ 0 r_36 (-1) sv_31 (Mv 13) sv_32 sv_33 sv_34 _ _ _ (Nat.lt_succ_self _) ha_86 pf_35 hP hD hS hl
      · skip
        refine lv_bipush (v := (-2)) hx hb dX12_best_29 (by decide) ?_
        exact retI (v := (-2)) hx hb hr hlk (rfl) hP hD hS ((Mv 10), (Mv 13), (Mg 8), (Mg 9), (Mf 10), (Mf 12)) ⟨_, rfl, trivial, h_said, h_gd⟩ [6, 0, 1, 2, 3, 4, 7, 5] rfl rfl dX12_best_31 (Nat.le_of_ble_eq_true rfl) (Nat.le_of_ble_eq_true rfl) rfl
set_option maxHeartbeats 4000000 in
set_option maxRecDepth 100000 in
theorem ct_hX11_rule (l : Launch) (D : va_G) (tc : Nat → ClassId) (sk : (Nat → Nat) × (Nat → Nat)) (Ga : Nat → Nat) (Gv : Nat → Int32) (Ta : Nat → Nat) (Tv : Nat → Int32) (Tf : Nat → Nat → Int32) (Va : Nat → Nat) (Vv : Nat → Int32) (Vf : Nat → Nat → Int32) (La : Nat → Nat) (Lq : Nat → Nat → Option Nat) (h_tape : 0 ≤ ((Tv 0) : Int32).toInt ∧ ((Tv 0) : Int32).toInt ≤ 400 ∧ 0 ≤ ((Tv 1) : Int32).toInt ∧ ((Tv 1) : Int32).toInt ≤ 400 ∧ 0 ≤ ((Tv 2) : Int32).toInt ∧ ((Tv 2) : Int32).toInt ≤ 400) (h_by : Byt (Tf 1)) (h_rc : 0 ≤ (Gv 0).toInt ∧ (Gv 0).toInt ≤ 6) : Ct l yX11_rule cX11_rule 2 (some .int) { frames := 31, cells := 3, slots := 466, locals := 741 } D tc sk [.ref (Ga 0)] [((Ga 0), .inr (11, [.ref (Ta 0), .ref (Ga 2), .ref (Va 0), .ref (La 0), .int (Gv 0), .ref (Ga 5), .ref (Ga 6), .ref (Ga 7), .ref (Ga 8), .ref (Ga 9), .ref (Ga 10), .ref (Ga 11)])), ((Ta 0), .inr (10, [.ref (Ta 1), .int (Tv 0), .int (Tv 1), .int (Tv 2), .int (Tv 3), .int (Tv 4)])), ((Ta 1), .inl (tc 0, 400, .inl (Tf 1))), ((Va 0), .inr (7, [.ref (Va 1), .int (Vv 0), .int (Vv 1)])), ((Va 1), .inl (tc 0, 400, .inl (Vf 1))), ((La 0), .inl (tc 4, 6, .inr (.inr (.inr (.inr (Lq 0))))))] (fun (v : Option Value) (u : (Bool) × (Nat) × (Nat) × (Nat) × (Int32) × (Int32) × (Int32) × (Int32) × (Int32) × (Int32) × (Int32) × (Nat → Int32) × (Nat → Int32) × (Nat) × (Int32) × (Int32) × (Int32) × (Int32) × (Int32) × (Int32) × (Int32) × (Int32) × (Nat → Int32) × (Nat → Option Nat)) => match u with | (true, na0x0, na0x1, na0x2, oo0x1, oo0x2, oo0x3, oo0x4, oo0x5, oo0x6, oo0x7, oo0x8, oo0x9, nn0x7, oo1x1, oo1x2, oo1x3, oo1x4, oo1x5, oo1x6, oo1x7, oo1x8, oo1x9, oo1x10) => ∃ r : Int32, v = some (.int r) ∧ (RrC (cB (Tf 1) (Tv 0)) (Gv 0) oo0x1 (Tv 0) 0 r) ∧ (0 ≤ (0 : Int32).toInt ∧ (0 : Int32).toInt ≤ 400 ∧ 0 ≤ (oo0x2 : Int32).toInt ∧ (oo0x2 : Int32).toInt ≤ 400 ∧ 0 ≤ (oo0x3 : Int32).toInt ∧ (oo0x3 : Int32).toInt ≤ 400) ∧ ((oo0x1 : Int32).toInt = (Gv 0).toInt + 1 ∧ 0 ≤ (Gv 0).toInt ∧ (Gv 0).toInt < 6 ∧ nn0x7 ≤ 400) ∧ (RuC (cB (Tf 1) (Tv 0)) nn0x7 oo0x9) | (false, na0x0, na0x1, na0x2, oo0x1, oo0x2, oo0x3, oo0x4, oo0x5, oo0x6, oo0x7, oo0x8, oo0x9, nn0x7, oo1x1, oo1x2, oo1x3, oo1x4, oo1x5, oo1x6, oo1x7, oo1x8, oo1x9, oo1x10) => ∃ r : Int32, v = some (.int r) ∧ (RrC (cB (Tf 1) (Tv 0)) (Gv 0) oo1x1 (Tv 0) oo1x2 r) ∧ (0 ≤ (oo1x2 : Int32).toInt ∧ (oo1x2 : Int32).toInt ≤ 400 ∧ 0 ≤ (oo1x3 : Int32).toInt ∧ (oo1x3 : Int32).toInt ≤ 400 ∧ 0 ≤ (oo1x4 : Int32).toInt ∧ (oo1x4 : Int32).toInt ≤ 400) ∧ (SameR oo1x1 (Gv 0) oo1x10 (Lq 0))) (fun (u : (Bool) × (Nat) × (Nat) × (Nat) × (Int32) × (Int32) × (Int32) × (Int32) × (Int32) × (Int32) × (Int32) × (Nat → Int32) × (Nat → Int32) × (Nat) × (Int32) × (Int32) × (Int32) × (Int32) × (Int32) × (Int32) × (Int32) × (Int32) × (Nat → Int32) × (Nat → Option Nat)) => match u with | (true, na0x0, na0x1, na0x2, oo0x1, oo0x2, oo0x3, oo0x4, oo0x5, oo0x6, oo0x7, oo0x8, oo0x9, nn0x7, oo1x1, oo1x2, oo1x3, oo1x4, oo1x5, oo1x6, oo1x7, oo1x8, oo1x9, oo1x10) => [((Ga 0), .inr (11, [.ref (Ta 0), .ref (Ga 2), .ref (Va 0), .ref (La 0), .int oo0x1, .ref (Ga 5), .ref (Ga 6), .ref (Ga 7), .ref (Ga 8), .ref (Ga 9), .ref (Ga 10), .ref (Ga 11)])), ((Ta 0), .inr (10, [.ref (Ta 1), .int 0, .int oo0x2, .int oo0x3, .int oo0x4, .int oo0x5])), ((Ta 1), .inl (tc 0, 400, .inl (Tf 1))), ((Va 0), .inr (7, [.ref (Va 1), .int oo0x6, .int oo0x7])), ((Va 1), .inl (tc 0, 400, .inl oo0x8)), ((La 0), .inl (tc 4, 6, .inr (.inr (.inr (.inr (va_up (Lq 0) ((Gv 0) : Int32).toNatClampNeg (some na0x0))))))), (na0x0, .inr (6, [.ref na0x1, .ref na0x2])), (na0x1, .inl (tc 0, nn0x7, .inl oo0x9)), (na0x2, .inl (tc 1, 64, .inr (.inl (fun _ => 0))))] | (false, na0x0, na0x1, na0x2, oo0x1, oo0x2, oo0x3, oo0x4, oo0x5, oo0x6, oo0x7, oo0x8, oo0x9, nn0x7, oo1x1, oo1x2, oo1x3, oo1x4, oo1x5, oo1x6, oo1x7, oo1x8, oo1x9, oo1x10) => [((Ga 0), .inr (11, [.ref (Ta 0), .ref (Ga 2), .ref (Va 0), .ref (La 0), .int oo1x1, .ref (Ga 5), .ref (Ga 6), .ref (Ga 7), .ref (Ga 8), .ref (Ga 9), .ref (Ga 10), .ref (Ga 11)])), ((Ta 0), .inr (10, [.ref (Ta 1), .int oo1x2, .int oo1x3, .int oo1x4, .int oo1x5, .int oo1x6])), ((Ta 1), .inl (tc 0, 400, .inl (Tf 1))), ((Va 0), .inr (7, [.ref (Va 1), .int oo1x7, .int oo1x8])), ((Va 1), .inl (tc 0, 400, .inl oo1x9)), ((La 0), .inl (tc 4, 6, .inr (.inr (.inr (.inr oo1x10)))))]) 3 466 := by
  refine Ct.start (by decide) (Nat.le_of_ble_eq_true rfl) (fun p e s m below meth c A ls hx hb hr hlk hin hml hown hts hK hX hP hD hA hl hS => ?_)
  have hl : lv_has ls 2 [(0, .ref (Ga 0))] := hl
  refine lv_aload_n hx hb dX11_rule_0 rfl (lv_at hl 0 rfl) ?_
  refine gf_X11_36 hx hb hts hown hK hP 0 rfl rfl dX11_rule_1 ?_
  refine lv_if_lt (tgt := 19) hx hb dX11_rule_4 (by decide) (fun c_1 => ?_) (fun c_1 => ?_)
  · skip
    refine lv_iconst (v := (-1)) hx hb dX11_rule_19 (by decide) ?_
    have hr_2 : 6 ≤ (Gv 0).toInt := by
      have z_1 := Int32.lt_iff_toInt_lt.mp c_1
      have y_0 : (0 : Int32).toInt = 0 := by decide
      omega
    have hr_3 : ((-1) : Int32).toInt = -1 := by
      have z_1 := Int32.lt_iff_toInt_lt.mp c_1
      have y_0 : (0 : Int32).toInt = 0 := by decide
      have y_m1 : (-1 : Int32).toInt = -1 := by decide
      omega
    exact retI (v := (-1)) hx hb hr hlk (rfl) hP hD hS (false, 0, 0, 0, 0, 0, 0, 0, 0, 0, 0, (fun _ => 0), (fun _ => 0), 0, (Gv 0), (Tv 0), (Tv 1), (Tv 2), (Tv 3), (Tv 4), (Vv 0), (Vv 1), (Vf 1), (Lq 0)) ⟨_, rfl, (Or.inl ⟨hr_2, rfl, rfl, hr_3⟩), h_tape, ⟨rfl, rfl⟩⟩ [0, 1, 2, 3, 4, 5] rfl rfl dX11_rule_20 (Nat.le_of_ble_eq_true rfl) (Nat.le_of_ble_eq_true rfl) rfl
  · skip
    refine lv_aload_n hx hb dX11_rule_7 rfl (lv_at hl 0 rfl) ?_
    refine gf_X11_36 hx hb hts hown hK hP 0 rfl rfl dX11_rule_8 ?_
    refine lv_aload_n hx hb dX11_rule_11 rfl (lv_at hl 0 rfl) ?_
    refine gf_X11_32 hx hb hts hown hK hP 0 rfl rfl dX11_rule_12 ?_
    refine va_alen hx hb hK hP 5 4 rfl rfl (v := 6) rfl dX11_rule_15 ?_
    refine lv_icmp_lt (tgt := 21) hx hb dX11_rule_16 (by decide) (fun c_4 => ?_) (fun c_4 => ?_)
    · skip
      refine lv_aload_n hx hb dX11_rule_21 rfl (lv_at hl 0 rfl) ?_
      refine gf_X11_26 hx hb hts hown hK hP 0 rfl rfl dX11_rule_22 ?_
      refine lv_aload_n hx hb dX11_rule_25 rfl (lv_at hl 0 rfl) ?_
      refine gf_X11_10 hx hb hts hown hK hP 0 rfl rfl dX11_rule_26 ?_
      refine cV (a := (Va 0)) (As := [.ref (Ta 0)]) (rest := []) (wr := [((Ga 0), .inr (11, [.ref (Ta 0), .ref (Ga 2), .ref (Va 0), .ref (La 0), .int (Gv 0), .ref (Ga 5), .ref (Ga 6), .ref (Ga 7), .ref (Ga 8), .ref (Ga 9), .ref (Ga 10), .ref (Ga 11)])), ((La 0), .inl (tc 4, 6, .inr (.inr (.inr (.inr (Lq 0))))))]) ⟨hx, hb, hml, hown, hts⟩ hK hX hA (cu_kX7_read l D tc sk (Va 0) (Va 1) (Vv 0) (Vv 1) (Vf 1) (Ta 0) (Ta 1) (Tv 0) (Tv 1) (Tv 2) (Tv 3) (Tv 4) (Tf 1) h_tape h_by) k_611 k_608 k_609 k_610 k_99 pl_X7_read ⟨Nat.le_of_ble_eq_true rfl, Nat.le_of_ble_eq_true rfl⟩ rfl rfl (va_recv hK hP (ci := 7) (q0 := 3) rfl rfl) hP hD hS [3, 4, 1, 2] [0, 5] rfl rfl rfl rfl rfl (by decide) rfl hl.1 rfl (Nat.le_of_ble_eq_true rfl) dX11_rule_29 ⟨Nat.le_of_ble_eq_true rfl, Nat.le_of_ble_eq_true rfl⟩ (fun v_5 u_6 H locs hv_7 hP₀ hD₀ hS₀ => ?_)
      obtain ⟨sv_8, sv_9, sv_10, sv_11, sv_12, sv_13, sv_14, sv_15, sv_16, sv_17, sv_18, sv_19, sv_20, sv_21, sv_22, sv_23, sv_24, sv_25, sv_26, sv_27⟩ := u_6
      cases sv_8
      · skip
        obtain ⟨rfl, pf_28, pf_29, pf_30⟩ := hv_7
        have pf_28 : 0 ≤ ((Tv 0) : Int32).toInt ∧ ((Tv 0) : Int32).toInt ≤ 400 ∧ 0 ≤ (sv_24 : Int32).toInt ∧ (sv_24 : Int32).toInt ≤ 400 ∧ 0 ≤ (sv_25 : Int32).toInt ∧ (sv_25 : Int32).toInt ≤ 400 := pf_28
        have pf_29 : 0 ≤ (sv_21 : Int32).toInt ∧ (sv_21 : Int32).toInt ≤ 400 := pf_29
        have pf_30 : RuF (cB (Tf 1) (Tv 0)) sv_27 := pf_30
        refine W.eq (g2 := F0 m 32 ls [.null]) rfl ?_
        replace hP : va_P D classes [((Ga 0), .inr (11, [.ref (Ta 0), .ref (Ga 2), .ref (Va 0), .ref (La 0), .int (Gv 0), .ref (Ga 5), .ref (Ga 6), .ref (Ga 7), .ref (Ga 8), .ref (Ga 9), .ref (Ga 10), .ref (Ga 11)])), ((La 0), .inl (tc 4, 6, .inr (.inr (.inr (.inr (Lq 0)))))), ((Va 0), .inr (7, [.ref (Va 1), .int sv_21, .int sv_22])), ((Va 1), .inl (tc 0, 400, .inl sv_23)), ((Ta 0), .inr (10, [.ref (Ta 1), .int (Tv 0), .int sv_24, .int sv_25, .int sv_26, .int sv_27])), ((Ta 1), .inl (tc 0, 400, .inl (Tf 1)))] H := hP₀
        replace hD : va_D A [((Ga 0), .inr (11, [.ref (Ta 0), .ref (Ga 2), .ref (Va 0), .ref (La 0), .int (Gv 0), .ref (Ga 5), .ref (Ga 6), .ref (Ga 7), .ref (Ga 8), .ref (Ga 9), .ref (Ga 10), .ref (Ga 11)])), ((La 0), .inl (tc 4, 6, .inr (.inr (.inr (.inr (Lq 0)))))), ((Va 0), .inr (7, [.ref (Va 1), .int sv_21, .int sv_22])), ((Va 1), .inl (tc 0, 400, .inl sv_23)), ((Ta 0), .inr (10, [.ref (Ta 1), .int (Tv 0), .int sv_24, .int sv_25, .int sv_26, .int sv_27])), ((Ta 1), .inl (tc 0, 400, .inl (Tf 1)))] := hD₀
        replace hS := hS₀
        clear hP₀ hD₀ hS₀
        refine lv_astore_nN (lv' := [(1, .null), (0, .ref (Ga 0))]) hx hb dX11_rule_32 rfl hl (by decide) rfl (fun ls hl₀ => ?_)
        replace hl := hl₀
        clear hl₀
        refine lv_aload_n hx hb dX11_rule_33 rfl (lv_at hl 1 rfl) ?_
        refine gf_X11_10 hx hb hts hown hK hP 0 rfl rfl dX11_rule_34 ?_
        refine lv_iconst (v := 0) hx hb dX11_rule_37 (by decide) ?_
        refine pf_X11_94 hx hb hts hown hK hP hD hS 4 rfl (Nat.le_of_ble_eq_true rfl) rfl rfl dX11_rule_38 (fun H locs hP₀ hD₀ hS₀ => ?_)
        replace hP : va_P D classes [((Ga 0), .inr (11, [.ref (Ta 0), .ref (Ga 2), .ref (Va 0), .ref (La 0), .int (Gv 0), .ref (Ga 5), .ref (Ga 6), .ref (Ga 7), .ref (Ga 8), .ref (Ga 9), .ref (Ga 10), .ref (Ga 11)])), ((La 0), .inl (tc 4, 6, .inr (.inr (.inr (.inr (Lq 0)))))), ((Va 0), .inr (7, [.ref (Va 1), .int sv_21, .int sv_22])), ((Va 1), .inl (tc 0, 400, .inl sv_23)), ((Ta 0), .inr (10, [.ref (Ta 1), .int 0, .int sv_24, .int sv_25, .int sv_26, .int sv_27])), ((Ta 1), .inl (tc 0, 400, .inl (Tf 1)))] H := hP₀
        replace hD : va_D A [((Ga 0), .inr (11, [.ref (Ta 0), .ref (Ga 2), .ref (Va 0), .ref (La 0), .int (Gv 0), .ref (Ga 5), .ref (Ga 6), .ref (Ga 7), .ref (Ga 8), .ref (Ga 9), .ref (Ga 10), .ref (Ga 11)])), ((La 0), .inl (tc 4, 6, .inr (.inr (.inr (.inr (Lq 0)))))), ((Va 0), .inr (7, [.ref (Va 1), .int sv_21, .int sv_22])), ((Va 1), .inl (tc 0, 400, .inl sv_23)), ((Ta 0), .inr (10, [.ref (Ta 1), .int 0, .int sv_24, .int sv_25, .int sv_26, .int sv_27])), ((Ta 1), .inl (tc 0, 400, .inl (Tf 1)))] := hD₀
        replace hS := hS₀
        clear hP₀ hD₀ hS₀
        refine lv_aload_nN hx hb dX11_rule_41 rfl (lv_at hl 0 rfl) ?_
        refine lv_ifnonnullN hx hb dX11_rule_42 ?_
        refine lv_bipush (v := (-2)) hx hb dX11_rule_45 (by decide) ?_
        refine lv_aload_n hx hb dX11_rule_47 rfl (lv_at hl 1 rfl) ?_
        refine gf_X11_10 hx hb hts hown hK hP 0 rfl rfl dX11_rule_48 ?_
        refine gf_X11_127 hx hb hts hown hK hP 4 rfl rfl dX11_rule_51 ?_
        refine lv_isub hx hb dX11_rule_54 ?_
        refine lv_topi (fun x_31 ex_31 => ?_)
        have ha_32 : 0 ≤ (0 : Int32).toInt ∧ (0 : Int32).toInt ≤ 400 ∧ 0 ≤ (sv_24 : Int32).toInt ∧ (sv_24 : Int32).toInt ≤ 400 ∧ 0 ≤ (sv_25 : Int32).toInt ∧ (sv_25 : Int32).toInt ≤ 400 := by
          have z_1 := Int32.le_iff_toInt_le.mp (Int32.not_lt.mp c_1)
          have z_2 := Int32.lt_iff_toInt_lt.mp c_4
          have y_0 : (0 : Int32).toInt = 0 := by decide
          have y_6 : (6 : Int32).toInt = 6 := by decide
          omega
        have hr_33 : (Gv 0).toInt < 6 := by
          have z_1 := Int32.le_iff_toInt_le.mp (Int32.not_lt.mp c_1)
          have z_2 := Int32.lt_iff_toInt_lt.mp c_4
          have y_0 : (0 : Int32).toInt = 0 := by decide
          have y_6 : (6 : Int32).toInt = 6 := by decide
          omega
        have hr_34 : (0 : Int32).toInt = 0 := by
          have z_1 := Int32.le_iff_toInt_le.mp (Int32.not_lt.mp c_1)
          have z_2 := Int32.lt_iff_toInt_lt.mp c_4
          have y_0 : (0 : Int32).toInt = 0 := by decide
          have y_6 : (6 : Int32).toInt = 6 := by decide
          omega
        exact retI (v := x_31) hx hb hr hlk (rfl) hP hD hS (false, 0, 0, 0, 0, 0, 0, 0, 0, 0, 0, (fun _ => 0), (fun _ => 0), 0, (Gv 0), 0, sv_24, sv_25, sv_26, sv_27, sv_21, sv_22, sv_23, (Lq 0)) ⟨_, rfl, (Or.inr ⟨hr_33, hr_34, Or.inr ⟨sv_27, pf_30.1, rfl, ex_31⟩⟩), ha_32, ⟨rfl, rfl⟩⟩ [0, 4, 5, 2, 3, 1] rfl rfl dX11_rule_55 (Nat.le_of_ble_eq_true rfl) (Nat.le_of_ble_eq_true rfl) rfl
      · skip
        obtain ⟨rfl, pf_35, pf_36, pf_37, pf_38, pf_39⟩ := hv_7
        have pf_35 : 0 ≤ ((Tv 0) : Int32).toInt ∧ ((Tv 0) : Int32).toInt ≤ 400 ∧ 0 ≤ (sv_15 : Int32).toInt ∧ (sv_15 : Int32).toInt ≤ 400 ∧ 0 ≤ (sv_16 : Int32).toInt ∧ (sv_16 : Int32).toInt ≤ 400 := pf_35
        have pf_36 : 0 ≤ (sv_12 : Int32).toInt ∧ (sv_12 : Int32).toInt ≤ 400 := pf_36
        have pf_37 : RuK (cB (Tf 1) (Tv 0)) := pf_37
        have pf_38 : sv_20 ≤ 400 := pf_38
        have pf_39 : RuC (cB (Tf 1) (Tv 0)) sv_20 sv_19 := pf_39
        refine W.eq (g2 := F0 m 32 ls [.ref sv_9]) rfl ?_
        replace hP : va_P D classes [((Ga 0), .inr (11, [.ref (Ta 0), .ref (Ga 2), .ref (Va 0), .ref (La 0), .int (Gv 0), .ref (Ga 5), .ref (Ga 6), .ref (Ga 7), .ref (Ga 8), .ref (Ga 9), .ref (Ga 10), .ref (Ga 11)])), ((La 0), .inl (tc 4, 6, .inr (.inr (.inr (.inr (Lq 0)))))), ((Va 0), .inr (7, [.ref (Va 1), .int sv_12, .int sv_13])), ((Va 1), .inl (tc 0, 400, .inl sv_14)), ((Ta 0), .inr (10, [.ref (Ta 1), .int (Tv 0), .int sv_15, .int sv_16, .int sv_17, .int sv_18])), ((Ta 1), .inl (tc 0, 400, .inl (Tf 1))), (sv_9, .inr (6, [.ref sv_10, .ref sv_11])), (sv_10, .inl (tc 0, sv_20, .inl sv_19)), (sv_11, .inl (tc 1, 64, .inr (.inl (fun _ => 0))))] H := hP₀
        replace hD : va_D A [((Ga 0), .inr (11, [.ref (Ta 0), .ref (Ga 2), .ref (Va 0), .ref (La 0), .int (Gv 0), .ref (Ga 5), .ref (Ga 6), .ref (Ga 7), .ref (Ga 8), .ref (Ga 9), .ref (Ga 10), .ref (Ga 11)])), ((La 0), .inl (tc 4, 6, .inr (.inr (.inr (.inr (Lq 0)))))), ((Va 0), .inr (7, [.ref (Va 1), .int sv_12, .int sv_13])), ((Va 1), .inl (tc 0, 400, .inl sv_14)), ((Ta 0), .inr (10, [.ref (Ta 1), .int (Tv 0), .int sv_15, .int sv_16, .int sv_17, .int sv_18])), ((Ta 1), .inl (tc 0, 400, .inl (Tf 1))), (sv_9, .inr (6, [.ref sv_10, .ref sv_11])), (sv_10, .inl (tc 0, sv_20, .inl sv_19)), (sv_11, .inl (tc 1, 64, .inr (.inl (fun _ => 0))))] := hD₀
        replace hS := hS₀
        clear hP₀ hD₀ hS₀
        refine lv_astore_n (lv' := [(1, .ref sv_9), (0, .ref (Ga 0))]) hx hb dX11_rule_32 rfl hl (by decide) rfl (fun ls hl₀ => ?_)
        replace hl := hl₀
        clear hl₀
        refine lv_aload_n hx hb dX11_rule_33 rfl (lv_at hl 1 rfl) ?_
        refine gf_X11_10 hx hb hts hown hK hP 0 rfl rfl dX11_rule_34 ?_
        refine lv_iconst (v := 0) hx hb dX11_rule_37 (by decide) ?_
        refine pf_X11_94 hx hb hts hown hK hP hD hS 4 rfl (Nat.le_of_ble_eq_true rfl) rfl rfl dX11_rule_38 (fun H locs hP₀ hD₀ hS₀ => ?_)
        replace hP : va_P D classes [((Ga 0), .inr (11, [.ref (Ta 0), .ref (Ga 2), .ref (Va 0), .ref (La 0), .int (Gv 0), .ref (Ga 5), .ref (Ga 6), .ref (Ga 7), .ref (Ga 8), .ref (Ga 9), .ref (Ga 10), .ref (Ga 11)])), ((La 0), .inl (tc 4, 6, .inr (.inr (.inr (.inr (Lq 0)))))), ((Va 0), .inr (7, [.ref (Va 1), .int sv_12, .int sv_13])), ((Va 1), .inl (tc 0, 400, .inl sv_14)), ((Ta 0), .inr (10, [.ref (Ta 1), .int 0, .int sv_15, .int sv_16, .int sv_17, .int sv_18])), ((Ta 1), .inl (tc 0, 400, .inl (Tf 1))), (sv_9, .inr (6, [.ref sv_10, .ref sv_11])), (sv_10, .inl (tc 0, sv_20, .inl sv_19)), (sv_11, .inl (tc 1, 64, .inr (.inl (fun _ => 0))))] H := hP₀
        replace hD : va_D A [((Ga 0), .inr (11, [.ref (Ta 0), .ref (Ga 2), .ref (Va 0), .ref (La 0), .int (Gv 0), .ref (Ga 5), .ref (Ga 6), .ref (Ga 7), .ref (Ga 8), .ref (Ga 9), .ref (Ga 10), .ref (Ga 11)])), ((La 0), .inl (tc 4, 6, .inr (.inr (.inr (.inr (Lq 0)))))), ((Va 0), .inr (7, [.ref (Va 1), .int sv_12, .int sv_13])), ((Va 1), .inl (tc 0, 400, .inl sv_14)), ((Ta 0), .inr (10, [.ref (Ta 1), .int 0, .int sv_15, .int sv_16, .int sv_17, .int sv_18])), ((Ta 1), .inl (tc 0, 400, .inl (Tf 1))), (sv_9, .inr (6, [.ref sv_10, .ref sv_11])), (sv_10, .inl (tc 0, sv_20, .inl sv_19)), (sv_11, .inl (tc 1, 64, .inr (.inl (fun _ => 0))))] := hD₀
        replace hS := hS₀
        clear hP₀ hD₀ hS₀
        refine lv_aload_n hx hb dX11_rule_41 rfl (lv_at hl 0 rfl) ?_
        refine lv_ifnonnull (tgt := 56) hx hb dX11_rule_42 (by decide) ?_
        refine lv_aload_n hx hb dX11_rule_56 rfl (lv_at hl 1 rfl) ?_
        refine gf_X11_32 hx hb hts hown hK hP 0 rfl rfl dX11_rule_57 ?_
        refine lv_aload_n hx hb dX11_rule_60 rfl (lv_at hl 1 rfl) ?_
        refine gf_X11_36 hx hb hts hown hK hP 0 rfl rfl dX11_rule_61 ?_
        refine lv_aload_n hx hb dX11_rule_64 rfl (lv_at hl 0 rfl) ?_
        have hi_40 : vp_in (Gv 0) 6 := by
          have z_1 := Int32.le_iff_toInt_le.mp (Int32.not_lt.mp c_1)
          have z_2 := Int32.lt_iff_toInt_lt.mp c_4
          have y_0 : (0 : Int32).toInt = 0 := by decide
          have y_6 : (6 : Int32).toInt = 6 := by decide
          refine vp_in_iff.mpr ⟨?_, ?_⟩ <;> omega
        refine st_ref hx hb hK hP hD hS 1 4 6 6 (r := (RX6, TX6, 2)) rfl rfl rfl rfl hi_40 dX11_rule_65 (fun g_41 H locs eg_41 hP₀ hD₀ hS₀ => ?_)
        replace hP : va_P D classes [((Ga 0), .inr (11, [.ref (Ta 0), .ref (Ga 2), .ref (Va 0), .ref (La 0), .int (Gv 0), .ref (Ga 5), .ref (Ga 6), .ref (Ga 7), .ref (Ga 8), .ref (Ga 9), .ref (Ga 10), .ref (Ga 11)])), ((La 0), .inl (tc 4, 6, .inr (.inr (.inr (.inr g_41))))), ((Va 0), .inr (7, [.ref (Va 1), .int sv_12, .int sv_13])), ((Va 1), .inl (tc 0, 400, .inl sv_14)), ((Ta 0), .inr (10, [.ref (Ta 1), .int 0, .int sv_15, .int sv_16, .int sv_17, .int sv_18])), ((Ta 1), .inl (tc 0, 400, .inl (Tf 1))), (sv_9, .inr (6, [.ref sv_10, .ref sv_11])), (sv_10, .inl (tc 0, sv_20, .inl sv_19)), (sv_11, .inl (tc 1, 64, .inr (.inl (fun _ => 0))))] H := hP₀
        replace hD : va_D A [((Ga 0), .inr (11, [.ref (Ta 0), .ref (Ga 2), .ref (Va 0), .ref (La 0), .int (Gv 0), .ref (Ga 5), .ref (Ga 6), .ref (Ga 7), .ref (Ga 8), .ref (Ga 9), .ref (Ga 10), .ref (Ga 11)])), ((La 0), .inl (tc 4, 6, .inr (.inr (.inr (.inr g_41))))), ((Va 0), .inr (7, [.ref (Va 1), .int sv_12, .int sv_13])), ((Va 1), .inl (tc 0, 400, .inl sv_14)), ((Ta 0), .inr (10, [.ref (Ta 1), .int 0, .int sv_15, .int sv_16, .int sv_17, .int sv_18])), ((Ta 1), .inl (tc 0, 400, .inl (Tf 1))), (sv_9, .inr (6, [.ref sv_10, .ref sv_11])), (sv_10, .inl (tc 0, sv_20, .inl sv_19)), (sv_11, .inl (tc 1, 64, .inr (.inl (fun _ => 0))))] := hD₀
        replace hS := hS₀
        clear hP₀ hD₀ hS₀
        subst eg_41
        replace hP : va_P D classes [((Ga 0), .inr (11, [.ref (Ta 0), .ref (Ga 2), .ref (Va 0), .ref (La 0), .int (Gv 0), .ref (Ga 5), .ref (Ga 6), .ref (Ga 7), .ref (Ga 8), .ref (Ga 9), .ref (Ga 10), .ref (Ga 11)])), ((La 0), .inl (tc 4, 6, .inr (.inr (.inr (.inr (va_up (Lq 0) ((Gv 0) : Int32).toNatClampNeg (some sv_9))))))), ((Va 0), .inr (7, [.ref (Va 1), .int sv_12, .int sv_13])), ((Va 1), .inl (tc 0, 400, .inl sv_14)), ((Ta 0), .inr (10, [.ref (Ta 1), .int 0, .int sv_15, .int sv_16, .int sv_17, .int sv_18])), ((Ta 1), .inl (tc 0, 400, .inl (Tf 1))), (sv_9, .inr (6, [.ref sv_10, .ref sv_11])), (sv_10, .inl (tc 0, sv_20, .inl sv_19)), (sv_11, .inl (tc 1, 64, .inr (.inl (fun _ => 0))))] H := hP
        replace hD : va_D A [((Ga 0), .inr (11, [.ref (Ta 0), .ref (Ga 2), .ref (Va 0), .ref (La 0), .int (Gv 0), .ref (Ga 5), .ref (Ga 6), .ref (Ga 7), .ref (Ga 8), .ref (Ga 9), .ref (Ga 10), .ref (Ga 11)])), ((La 0), .inl (tc 4, 6, .inr (.inr (.inr (.inr (va_up (Lq 0) ((Gv 0) : Int32).toNatClampNeg (some sv_9))))))), ((Va 0), .inr (7, [.ref (Va 1), .int sv_12, .int sv_13])), ((Va 1), .inl (tc 0, 400, .inl sv_14)), ((Ta 0), .inr (10, [.ref (Ta 1), .int 0, .int sv_15, .int sv_16, .int sv_17, .int sv_18])), ((Ta 1), .inl (tc 0, 400, .inl (Tf 1))), (sv_9, .inr (6, [.ref sv_10, .ref sv_11])), (sv_10, .inl (tc 0, sv_20, .inl sv_19)), (sv_11, .inl (tc 1, 64, .inr (.inl (fun _ => 0))))] := hD
        refine lv_aload_n hx hb dX11_rule_66 rfl (lv_at hl 1 rfl) ?_
        refine lv_dup hx hb dX11_rule_67 rfl ?_
        refine gf_X11_36 hx hb hts hown hK hP 0 rfl rfl dX11_rule_68 ?_
        refine lv_iconst (v := 1) hx hb dX11_rule_71 (by decide) ?_
        refine lv_iadd hx hb dX11_rule_72 ?_
        refine lv_topi (fun x_42 ex_42 => ?_)
        refine pf_X11_36 hx hb hts hown hK hP hD hS 0 rfl (Nat.le_of_ble_eq_true rfl) rfl rfl dX11_rule_73 (fun H locs hP₀ hD₀ hS₀ => ?_)
        replace hP : va_P D classes [((Ga 0), .inr (11, [.ref (Ta 0), .ref (Ga 2), .ref (Va 0), .ref (La 0), .int x_42, .ref (Ga 5), .ref (Ga 6), .ref (Ga 7), .ref (Ga 8), .ref (Ga 9), .ref (Ga 10), .ref (Ga 11)])), ((La 0), .inl (tc 4, 6, .inr (.inr (.inr (.inr (va_up (Lq 0) ((Gv 0) : Int32).toNatClampNeg (some sv_9))))))), ((Va 0), .inr (7, [.ref (Va 1), .int sv_12, .int sv_13])), ((Va 1), .inl (tc 0, 400, .inl sv_14)), ((Ta 0), .inr (10, [.ref (Ta 1), .int 0, .int sv_15, .int sv_16, .int sv_17, .int sv_18])), ((Ta 1), .inl (tc 0, 400, .inl (Tf 1))), (sv_9, .inr (6, [.ref sv_10, .ref sv_11])), (sv_10, .inl (tc 0, sv_20, .inl sv_19)), (sv_11, .inl (tc 1, 64, .inr (.inl (fun _ => 0))))] H := hP₀
        replace hD : va_D A [((Ga 0), .inr (11, [.ref (Ta 0), .ref (Ga 2), .ref (Va 0), .ref (La 0), .int x_42, .ref (Ga 5), .ref (Ga 6), .ref (Ga 7), .ref (Ga 8), .ref (Ga 9), .ref (Ga 10), .ref (Ga 11)])), ((La 0), .inl (tc 4, 6, .inr (.inr (.inr (.inr (va_up (Lq 0) ((Gv 0) : Int32).toNatClampNeg (some sv_9))))))), ((Va 0), .inr (7, [.ref (Va 1), .int sv_12, .int sv_13])), ((Va 1), .inl (tc 0, 400, .inl sv_14)), ((Ta 0), .inr (10, [.ref (Ta 1), .int 0, .int sv_15, .int sv_16, .int sv_17, .int sv_18])), ((Ta 1), .inl (tc 0, 400, .inl (Tf 1))), (sv_9, .inr (6, [.ref sv_10, .ref sv_11])), (sv_10, .inl (tc 0, sv_20, .inl sv_19)), (sv_11, .inl (tc 1, 64, .inr (.inl (fun _ => 0))))] := hD₀
        replace hS := hS₀
        clear hP₀ hD₀ hS₀
        refine lv_aload_n hx hb dX11_rule_76 rfl (lv_at hl 1 rfl) ?_
        refine gf_X11_36 hx hb hts hown hK hP 0 rfl rfl dX11_rule_77 ?_
        refine lv_iconst (v := 1) hx hb dX11_rule_80 (by decide) ?_
        refine lv_isub hx hb dX11_rule_81 ?_
        refine lv_topi (fun x_43 ex_43 => ?_)
        have ha_44 : 0 ≤ (0 : Int32).toInt ∧ (0 : Int32).toInt ≤ 400 ∧ 0 ≤ (sv_15 : Int32).toInt ∧ (sv_15 : Int32).toInt ≤ 400 ∧ 0 ≤ (sv_16 : Int32).toInt ∧ (sv_16 : Int32).toInt ≤ 400 := by
          have z_1 := Int32.le_iff_toInt_le.mp (Int32.not_lt.mp c_1)
          have z_2 := Int32.lt_iff_toInt_lt.mp c_4
          have y_0 : (0 : Int32).toInt = 0 := by decide
          have y_6 : (6 : Int32).toInt = 6 := by decide
          omega
        have ha_45 : (x_42 : Int32).toInt = (Gv 0).toInt + 1 ∧ 0 ≤ (Gv 0).toInt ∧ (Gv 0).toInt < 6 ∧ sv_20 ≤ 400 := by
          have z_1 := Int32.le_iff_toInt_le.mp (Int32.not_lt.mp c_1)
          have z_2 := Int32.lt_iff_toInt_lt.mp c_4
          have y_0 : (0 : Int32).toInt = 0 := by decide
          have y_6 : (6 : Int32).toInt = 6 := by decide
          have y_1 : (1 : Int32).toInt = 1 := by decide
          have t_x_42 : x_42.toInt = ((Gv 0) : Int32).toInt + (1 : Int32).toInt := by rw [ex_42]; exact add_toInt (by omega) (by omega)
          omega
        have hr_46 : (Gv 0).toInt < 6 := by
          have z_1 := Int32.le_iff_toInt_le.mp (Int32.not_lt.mp c_1)
          have z_2 := Int32.lt_iff_toInt_lt.mp c_4
          have y_0 : (0 : Int32).toInt = 0 := by decide
          have y_6 : (6 : Int32).toInt = 6 := by decide
          omega
        have hr_47 : (0 : Int32).toInt = 0 := by
          have z_1 := Int32.le_iff_toInt_le.mp (Int32.not_lt.mp c_1)
          have z_2 := Int32.lt_iff_toInt_lt.mp c_4
          have y_0 : (0 : Int32).toInt = 0 := by decide
          have y_6 : (6 : Int32).toInt = 6 := by decide
          omega
        have hi_48 : (x_42 : Int32).toInt = (Gv 0).toInt + 1 := by
          have z_1 := Int32.le_iff_toInt_le.mp (Int32.not_lt.mp c_1)
          have z_2 := Int32.lt_iff_toInt_lt.mp c_4
          have y_0 : (0 : Int32).toInt = 0 := by decide
          have y_6 : (6 : Int32).toInt = 6 := by decide
          have y_1 : (1 : Int32).toInt = 1 := by decide
          have t_x_42 : x_42.toInt = ((Gv 0) : Int32).toInt + (1 : Int32).toInt := by rw [ex_42]; exact add_toInt (by omega) (by omega)
          omega
        have hi_49 : (x_43 : Int32).toInt = (Gv 0).toInt := by
          have z_1 := Int32.le_iff_toInt_le.mp (Int32.not_lt.mp c_1)
          have z_2 := Int32.lt_iff_toInt_lt.mp c_4
          have y_0 : (0 : Int32).toInt = 0 := by decide
          have y_6 : (6 : Int32).toInt = 6 := by decide
          have y_1 : (1 : Int32).toInt = 1 := by decide
          have t_x_42 : x_42.toInt = ((Gv 0) : Int32).toInt + (1 : Int32).toInt := by rw [ex_42]; exact add_toInt (by omega) (by omega)
          have t_x_43 : x_43.toInt = (x_42 : Int32).toInt - (1 : Int32).toInt := by rw [ex_43]; exact sub_toInt (by omega) (by omega)
          omega
        exact retI (v := x_43) hx hb hr hlk (rfl) hP hD hS (true, sv_9, sv_10, sv_11, x_42, sv_15, sv_16, sv_17, sv_18, sv_12, sv_13, sv_14, sv_19, sv_20, 0, 0, 0, 0, 0, 0, 0, 0, (fun _ => 0), (fun _ => none)) ⟨_, rfl, (Or.inr ⟨hr_46, hr_47, Or.inl ⟨pf_37, hi_48, hi_49⟩⟩), ha_44, ha_45, pf_39⟩ [0, 4, 5, 2, 3, 1, 6, 7, 8] rfl rfl dX11_rule_82 (Nat.le_of_ble_eq_true rfl) (Nat.le_of_ble_eq_true rfl) rfl
    · skip
      refine lv_iconst (v := (-1)) hx hb dX11_rule_19 (by decide) ?_
      have hr_50 : 6 ≤ (Gv 0).toInt := by
        have z_1 := Int32.le_iff_toInt_le.mp (Int32.not_lt.mp c_1)
        have z_2 := Int32.le_iff_toInt_le.mp (Int32.not_lt.mp c_4)
        have y_0 : (0 : Int32).toInt = 0 := by decide
        have y_6 : (6 : Int32).toInt = 6 := by decide
        omega
      have hr_51 : ((-1) : Int32).toInt = -1 := by
        have z_1 := Int32.le_iff_toInt_le.mp (Int32.not_lt.mp c_1)
        have z_2 := Int32.le_iff_toInt_le.mp (Int32.not_lt.mp c_4)
        have y_0 : (0 : Int32).toInt = 0 := by decide
        have y_6 : (6 : Int32).toInt = 6 := by decide
        have y_m1 : (-1 : Int32).toInt = -1 := by decide
        omega
      exact retI (v := (-1)) hx hb hr hlk (rfl) hP hD hS (false, 0, 0, 0, 0, 0, 0, 0, 0, 0, 0, (fun _ => 0), (fun _ => 0), 0, (Gv 0), (Tv 0), (Tv 1), (Tv 2), (Tv 3), (Tv 4), (Vv 0), (Vv 1), (Vf 1), (Lq 0)) ⟨_, rfl, (Or.inl ⟨hr_50, rfl, rfl, hr_51⟩), h_tape, ⟨rfl, rfl⟩⟩ [0, 1, 2, 3, 4, 5] rfl rfl dX11_rule_20 (Nat.le_of_ble_eq_true rfl) (Nat.le_of_ble_eq_true rfl) rfl
