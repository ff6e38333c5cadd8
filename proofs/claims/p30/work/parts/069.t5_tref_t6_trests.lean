set_option maxRecDepth 16384
set_option maxHeartbeats 4000000 in
set_option maxRecDepth 100000 in
theorem ct_hX12_note {T : Nat → Option Int32} (l : Launch) (D : va_G) (tc : Nat → ClassId) (sk : (Nat → Nat) × (Nat → Nat)) (Ma : Nat → Nat) (Mv : Nat → Int32) (Mf : Nat → Nat → Int32) (Mj : Nat → Int64) (x1 : Int32) (x2 : Int32) (x3 : Int32) (dr : Nat → Int) (h_said : SaidD T (Mf 10) 999) (h_td : TdM dr (Mf 10)) : Ct l yX12_note cX12_note 5 (some .int) { frames := 1, cells := 0, slots := 0, locals := 25 } D tc sk [.ref (Ma 0), .int x1, .int x2, .int x3] [((Ma 0), .inr (12, [.ref (Ma 1), .int (Mv 0), .int (Mv 1), .ref (Ma 2), .ref (Ma 3), .ref (Ma 4), .ref (Ma 5), .ref (Ma 6), .int (Mv 2), .int (Mv 3), .int (Mv 4), .int (Mv 5), .int (Mv 6), .int (Mv 7), .int (Mv 8), .ref (Ma 7), .int (Mv 9), .ref (Ma 8), .int (Mv 10), .ref (Ma 9), .ref (Ma 10), .int (Mv 11), .int (Mv 12), .int (Mv 13), .ref (Ma 11), .int (Mv 14), .ref (Ma 12), .ref (Ma 13), .ref (Ma 14), .ref (Ma 15), .ref (Ma 16), .long (Mj 0), .ref (Ma 17), .ref (Ma 18), .ref (Ma 19), .ref (Ma 20)])), ((Ma 10), .inl (tc 0, 126, .inl (Mf 10)))] (fun (v : Option Value) (oo0x1 : Nat → Int32) => ∃ r : Int32, v = some (.int r) ∧ (NtY x1 x2 x3 r dr oo0x1) ∧ (NtO (Mf 10) oo0x1)) (fun (oo0x1 : Nat → Int32) => [((Ma 0), .inr (12, [.ref (Ma 1), .int (Mv 0), .int (Mv 1), .ref (Ma 2), .ref (Ma 3), .ref (Ma 4), .ref (Ma 5), .ref (Ma 6), .int (Mv 2), .int (Mv 3), .int (Mv 4), .int (Mv 5), .int (Mv 6), .int (Mv 7), .int (Mv 8), .ref (Ma 7), .int (Mv 9), .ref (Ma 8), .int (Mv 10), .ref (Ma 9), .ref (Ma 10), .int (Mv 11), .int (Mv 12), .int (Mv 13), .ref (Ma 11), .int (Mv 14), .ref (Ma 12), .ref (Ma 13), .ref (Ma 14), .ref (Ma 15), .ref (Ma 16), .long (Mj 0), .ref (Ma 17), .ref (Ma 18), .ref (Ma 19), .ref (Ma 20)])), ((Ma 10), .inl (tc 0, 126, .inl oo0x1))]) 0 0 := by
  refine Ct.start (by decide) (Nat.le_of_ble_eq_true rfl) (fun p e s m below meth c A ls hx hb hr hlk hin hml hown hts hK hX hP hD hA hl hS => ?_)
  have hl : lv_has ls 5 [(0, .ref (Ma 0)), (1, .int x1), (2, .int x2), (3, .int x3)] := hl
  have ar_h_said := SaidD.al h_said
  refine lv_iload_n hx hb dX12_note_0 rfl (lv_at hl 1 rfl) ?_
  refine lv_iconst (v := (-1)) hx hb dX12_note_1 (by decide) ?_
  refine lv_icmp_ne (tgt := 15) hx hb dX12_note_2 (by decide) (fun c_1 => ?_) (fun c_1 => ?_)
  · skip
    refine lv_iload_n hx hb dX12_note_15 rfl (lv_at hl 1 rfl) ?_
    refine lv_i2l (v := (x1).toInt64) hx hb dX12_note_16 rfl ?_
    refine lv_lconst (v := 0) hx hb dX12_note_17 (by decide) ?_
    refine lv_ldc2 hx hb hown (hts _ k_1553) dX12_note_18 ?_
    refine cS (As := [.long (x1).toInt64, .long 0, .long 60]) (rest := []) (wr := [((Ma 0), .inr (12, [.ref (Ma 1), .int (Mv 0), .int (Mv 1), .ref (Ma 2), .ref (Ma 3), .ref (Ma 4), .ref (Ma 5), .ref (Ma 6), .int (Mv 2), .int (Mv 3), .int (Mv 4), .int (Mv 5), .int (Mv 6), .int (Mv 7), .int (Mv 8), .ref (Ma 7), .int (Mv 9), .ref (Ma 8), .int (Mv 10), .ref (Ma 9), .ref (Ma 10), .int (Mv 11), .int (Mv 12), .int (Mv 13), .ref (Ma 11), .int (Mv 14), .ref (Ma 12), .ref (Ma 13), .ref (Ma 14), .ref (Ma 15), .ref (Ma 16), .long (Mj 0), .ref (Ma 17), .ref (Ma 18), .ref (Ma 19), .ref (Ma 20)])), ((Ma 10), .inl (tc 0, 126, .inl (Mf 10)))]) ⟨hx, hb, hml, hown, hts⟩ hK hX hA (ct_X12_in2 l D tc sk ((x1).toInt64) 0 60) k_1259 k_1257 k_1258 k_106 pl_X12_in ⟨Nat.le_of_ble_eq_true rfl, Nat.le_of_ble_eq_true rfl⟩ rfl rfl  hP hD hS [] [0, 1] rfl rfl rfl rfl rfl (by decide) rfl hl.1 rfl (Nat.le_of_ble_eq_true rfl) dX12_note_21 ⟨Nat.le_of_ble_eq_true rfl, Nat.le_of_ble_eq_true rfl⟩ (fun v_2 u_3 H locs hv_4 hP₀ hD₀ hS₀ => ?_)
    obtain ⟨r_5, rfl, he_6⟩ := hv_4
    have he_6 : ((r_5.toInt = 0 ∧ ((x1).toInt64.toInt < (0 : Int64).toInt ∨ (60 : Int64).toInt < (x1).toInt64.toInt)) ∨ (r_5.toInt = 1 ∧ (0 : Int64).toInt ≤ (x1).toInt64.toInt ∧ (x1).toInt64.toInt ≤ (60 : Int64).toInt)) := he_6
    refine W.eq (g2 := F0 m 24 ls [.int r_5]) rfl ?_
    replace hP : va_P D classes [((Ma 0), .inr (12, [.ref (Ma 1), .int (Mv 0), .int (Mv 1), .ref (Ma 2), .ref (Ma 3), .ref (Ma 4), .ref (Ma 5), .ref (Ma 6), .int (Mv 2), .int (Mv 3), .int (Mv 4), .int (Mv 5), .int (Mv 6), .int (Mv 7), .int (Mv 8), .ref (Ma 7), .int (Mv 9), .ref (Ma 8), .int (Mv 10), .ref (Ma 9), .ref (Ma 10), .int (Mv 11), .int (Mv 12), .int (Mv 13), .ref (Ma 11), .int (Mv 14), .ref (Ma 12), .ref (Ma 13), .ref (Ma 14), .ref (Ma 15), .ref (Ma 16), .long (Mj 0), .ref (Ma 17), .ref (Ma 18), .ref (Ma 19), .ref (Ma 20)])), ((Ma 10), .inl (tc 0, 126, .inl (Mf 10)))] H := hP₀
    replace hD : va_D A [((Ma 0), .inr (12, [.ref (Ma 1), .int (Mv 0), .int (Mv 1), .ref (Ma 2), .ref (Ma 3), .ref (Ma 4), .ref (Ma 5), .ref (Ma 6), .int (Mv 2), .int (Mv 3), .int (Mv 4), .int (Mv 5), .int (Mv 6), .int (Mv 7), .int (Mv 8), .ref (Ma 7), .int (Mv 9), .ref (Ma 8), .int (Mv 10), .ref (Ma 9), .ref (Ma 10), .int (Mv 11), .int (Mv 12), .int (Mv 13), .ref (Ma 11), .int (Mv 14), .ref (Ma 12), .ref (Ma 13), .ref (Ma 14), .ref (Ma 15), .ref (Ma 16), .long (Mj 0), .ref (Ma 17), .ref (Ma 18), .ref (Ma 19), .ref (Ma 20)])), ((Ma 10), .inl (tc 0, 126, .inl (Mf 10)))] := hD₀
    replace hS := hS₀
    clear hP₀ hD₀ hS₀
    have yl_he_6_0 : (0 : Int64).toInt = 0 := by decide
    have yl_he_6_60 : (60 : Int64).toInt = 60 := by decide
    simp only [i32_64] at he_6
    refine lv_if_eq (tgt := 57) hx hb dX12_note_24 (by decide) (fun c_8 => ?_) (fun c_8 => ?_)
    · skip
      refine lv_bipush (v := (-2)) hx hb dX12_note_57 (by decide) ?_
      have hr_9 : ¬ x1.toInt = -1 := by
        have z_1 : ¬ (x1 : Int32).toInt = ((-1) : Int32).toInt := fun z => c_1 (Int32.toInt_inj.mp z)
        have z_2 := congrArg Int32.toInt c_8
        have y_m1 : (-1 : Int32).toInt = -1 := by decide
        have y_0 : (0 : Int32).toInt = 0 := by decide
        omega
      have hr_10 : x1.toInt < 0 ∨ 60 < x1.toInt ∨ x2.toInt < 0 ∨ ((Mf 10) 3).toInt ≤ x2.toInt ∨ x3.toInt < 0 ∨ 1 < x3.toInt ∨ 10 ≤ ((Mf 10) 125).toInt := by
        have z_1 : ¬ (x1 : Int32).toInt = ((-1) : Int32).toInt := fun z => c_1 (Int32.toInt_inj.mp z)
        have z_2 := congrArg Int32.toInt c_8
        have y_m1 : (-1 : Int32).toInt = -1 := by decide
        have y_0 : (0 : Int32).toInt = 0 := by decide
        omega
      exact retI (v := (-2)) hx hb hr hlk (rfl) hP hD hS (Mf 10) ⟨_, rfl, (NtY.bad h_td hr_9 hr_10 (by decide)), (NtO.rf h_said)⟩ [0, 1] rfl rfl dX12_note_59 (Nat.le_of_ble_eq_true rfl) (Nat.le_of_ble_eq_true rfl) rfl
    · skip
      refine lv_aload_n hx hb dX12_note_27 rfl (lv_at hl 0 rfl) ?_
      refine lv_iload_n hx hb dX12_note_28 rfl (lv_at hl 2 rfl) ?_
      refine cV (a := (Ma 0)) (As := [.int x2]) (rest := []) (wr := []) ⟨hx, hb, hml, hown, hts⟩ hK hX hA (cu_gX12_isBuyer l D tc sk (Ma 0) (Ma 1) (Ma 2) (Ma 3) (Ma 4) (Ma 5) (Ma 6) (Ma 7) (Ma 8) (Ma 9) (Ma 10) (Ma 11) (Ma 12) (Ma 13) (Ma 14) (Ma 15) (Ma 16) (Ma 17) (Ma 18) (Ma 19) (Ma 20) (Mv 0) (Mv 1) (Mv 2) (Mv 3) (Mv 4) (Mv 5) (Mv 6) (Mv 7) (Mv 8) (Mv 9) (Mv 10) (Mv 11) (Mv 12) (Mv 13) (Mv 14) (Mf 10) (Mj 0) x2 h_said.1) k_1375 k_1372 k_1374 k_58 k_106 pl_X12_isBuyer ⟨Nat.le_of_ble_eq_true rfl, Nat.le_of_ble_eq_true rfl⟩ rfl rfl (va_recv hK hP (ci := 12) (q0 := 0) rfl rfl) hP hD hS [0, 1] [] rfl rfl rfl rfl rfl (by decide) rfl hl.1 rfl (Nat.le_of_ble_eq_true rfl) dX12_note_29 ⟨Nat.le_of_ble_eq_true rfl, Nat.le_of_ble_eq_true rfl⟩ (fun v_11 u_12 H locs hv_13 hP₀ hD₀ hS₀ => ?_)
      obtain ⟨r_14, rfl, he_15⟩ := hv_13
      have he_15 : ((r_14.toInt = 0 ∧ (x2.toInt < 0 ∨ ((Mf 10) 3).toInt ≤ x2.toInt)) ∨ (r_14.toInt = 1 ∧ 0 ≤ x2.toInt ∧ x2.toInt < ((Mf 10) 3).toInt)) := he_15
      refine W.eq (g2 := F0 m 32 ls [.int r_14]) rfl ?_
      replace hP : va_P D classes [((Ma 0), .inr (12, [.ref (Ma 1), .int (Mv 0), .int (Mv 1), .ref (Ma 2), .ref (Ma 3), .ref (Ma 4), .ref (Ma 5), .ref (Ma 6), .int (Mv 2), .int (Mv 3), .int (Mv 4), .int (Mv 5), .int (Mv 6), .int (Mv 7), .int (Mv 8), .ref (Ma 7), .int (Mv 9), .ref (Ma 8), .int (Mv 10), .ref (Ma 9), .ref (Ma 10), .int (Mv 11), .int (Mv 12), .int (Mv 13), .ref (Ma 11), .int (Mv 14), .ref (Ma 12), .ref (Ma 13), .ref (Ma 14), .ref (Ma 15), .ref (Ma 16), .long (Mj 0), .ref (Ma 17), .ref (Ma 18), .ref (Ma 19), .ref (Ma 20)])), ((Ma 10), .inl (tc 0, 126, .inl (Mf 10)))] H := hP₀
      replace hD : va_D A [((Ma 0), .inr (12, [.ref (Ma 1), .int (Mv 0), .int (Mv 1), .ref (Ma 2), .ref (Ma 3), .ref (Ma 4), .ref (Ma 5), .ref (Ma 6), .int (Mv 2), .int (Mv 3), .int (Mv 4), .int (Mv 5), .int (Mv 6), .int (Mv 7), .int (Mv 8), .ref (Ma 7), .int (Mv 9), .ref (Ma 8), .int (Mv 10), .ref (Ma 9), .ref (Ma 10), .int (Mv 11), .int (Mv 12), .int (Mv 13), .ref (Ma 11), .int (Mv 14), .ref (Ma 12), .ref (Ma 13), .ref (Ma 14), .ref (Ma 15), .ref (Ma 16), .long (Mj 0), .ref (Ma 17), .ref (Ma 18), .ref (Ma 19), .ref (Ma 20)])), ((Ma 10), .inl (tc 0, 126, .inl (Mf 10)))] := hD₀
      replace hS := hS₀
      clear hP₀ hD₀ hS₀
      refine lv_if_eq (tgt := 57) hx hb dX12_note_32 (by decide) (fun c_17 => ?_) (fun c_17 => ?_)
      · skip
        refine lv_bipush (v := (-2)) hx hb dX12_note_57 (by decide) ?_
        have hr_18 : ¬ x1.toInt = -1 := by
          have z_1 : ¬ (x1 : Int32).toInt = ((-1) : Int32).toInt := fun z => c_1 (Int32.toInt_inj.mp z)
          have z_2 : ¬ (r_5 : Int32).toInt = (0 : Int32).toInt := fun z => c_8 (Int32.toInt_inj.mp z)
          have z_3 := congrArg Int32.toInt c_17
          have y_m1 : (-1 : Int32).toInt = -1 := by decide
          have y_0 : (0 : Int32).toInt = 0 := by decide
          omega
        have hr_19 : x1.toInt < 0 ∨ 60 < x1.toInt ∨ x2.toInt < 0 ∨ ((Mf 10) 3).toInt ≤ x2.toInt ∨ x3.toInt < 0 ∨ 1 < x3.toInt ∨ 10 ≤ ((Mf 10) 125).toInt := by
          have z_1 : ¬ (x1 : Int32).toInt = ((-1) : Int32).toInt := fun z => c_1 (Int32.toInt_inj.mp z)
          have z_2 : ¬ (r_5 : Int32).toInt = (0 : Int32).toInt := fun z => c_8 (Int32.toInt_inj.mp z)
          have z_3 := congrArg Int32.toInt c_17
          have y_m1 : (-1 : Int32).toInt = -1 := by decide
          have y_0 : (0 : Int32).toInt = 0 := by decide
          omega
        exact retI (v := (-2)) hx hb hr hlk (rfl) hP hD hS (Mf 10) ⟨_, rfl, (NtY.bad h_td hr_18 hr_19 (by decide)), (NtO.rf h_said)⟩ [0, 1] rfl rfl dX12_note_59 (Nat.le_of_ble_eq_true rfl) (Nat.le_of_ble_eq_true rfl) rfl
      · skip
        refine lv_iload_n hx hb dX12_note_35 rfl (lv_at hl 3 rfl) ?_
        refine lv_i2l (v := (x3).toInt64) hx hb dX12_note_36 rfl ?_
        refine lv_lconst (v := 0) hx hb dX12_note_37 (by decide) ?_
        refine lv_lconst (v := 1) hx hb dX12_note_38 (by decide) ?_
        refine cS (As := [.long (x3).toInt64, .long 0, .long 1]) (rest := []) (wr := [((Ma 0), .inr (12, [.ref (Ma 1), .int (Mv 0), .int (Mv 1), .ref (Ma 2), .ref (Ma 3), .ref (Ma 4), .ref (Ma 5), .ref (Ma 6), .int (Mv 2), .int (Mv 3), .int (Mv 4), .int (Mv 5), .int (Mv 6), .int (Mv 7), .int (Mv 8), .ref (Ma 7), .int (Mv 9), .ref (Ma 8), .int (Mv 10), .ref (Ma 9), .ref (Ma 10), .int (Mv 11), .int (Mv 12), .int (Mv 13), .ref (Ma 11), .int (Mv 14), .ref (Ma 12), .ref (Ma 13), .ref (Ma 14), .ref (Ma 15), .ref (Ma 16), .long (Mj 0), .ref (Ma 17), .ref (Ma 18), .ref (Ma 19), .ref (Ma 20)])), ((Ma 10), .inl (tc 0, 126, .inl (Mf 10)))]) ⟨hx, hb, hml, hown, hts⟩ hK hX hA (ct_X12_in2 l D tc sk ((x3).toInt64) 0 1) k_1259 k_1257 k_1258 k_106 pl_X12_in ⟨Nat.le_of_ble_eq_true rfl, Nat.le_of_ble_eq_true rfl⟩ rfl rfl  hP hD hS [] [0, 1] rfl rfl rfl rfl rfl (by decide) rfl hl.1 rfl (Nat.le_of_ble_eq_true rfl) dX12_note_39 ⟨Nat.le_of_ble_eq_true rfl, Nat.le_of_ble_eq_true rfl⟩ (fun v_20 u_21 H locs hv_22 hP₀ hD₀ hS₀ => ?_)
        obtain ⟨r_23, rfl, he_24⟩ := hv_22
        have he_24 : ((r_23.toInt = 0 ∧ ((x3).toInt64.toInt < (0 : Int64).toInt ∨ (1 : Int64).toInt < (x3).toInt64.toInt)) ∨ (r_23.toInt = 1 ∧ (0 : Int64).toInt ≤ (x3).toInt64.toInt ∧ (x3).toInt64.toInt ≤ (1 : Int64).toInt)) := he_24
        refine W.eq (g2 := F0 m 42 ls [.int r_23]) rfl ?_
        replace hP : va_P D classes [((Ma 0), .inr (12, [.ref (Ma 1), .int (Mv 0), .int (Mv 1), .ref (Ma 2), .ref (Ma 3), .ref (Ma 4), .ref (Ma 5), .ref (Ma 6), .int (Mv 2), .int (Mv 3), .int (Mv 4), .int (Mv 5), .int (Mv 6), .int (Mv 7), .int (Mv 8), .ref (Ma 7), .int (Mv 9), .ref (Ma 8), .int (Mv 10), .ref (Ma 9), .ref (Ma 10), .int (Mv 11), .int (Mv 12), .int (Mv 13), .ref (Ma 11), .int (Mv 14), .ref (Ma 12), .ref (Ma 13), .ref (Ma 14), .ref (Ma 15), .ref (Ma 16), .long (Mj 0), .ref (Ma 17), .ref (Ma 18), .ref (Ma 19), .ref (Ma 20)])), ((Ma 10), .inl (tc 0, 126, .inl (Mf 10)))] H := hP₀
        replace hD : va_D A [((Ma 0), .inr (12, [.ref (Ma 1), .int (Mv 0), .int (Mv 1), .ref (Ma 2), .ref (Ma 3), .ref (Ma 4), .ref (Ma 5), .ref (Ma 6), .int (Mv 2), .int (Mv 3), .int (Mv 4), .int (Mv 5), .int (Mv 6), .int (Mv 7), .int (Mv 8), .ref (Ma 7), .int (Mv 9), .ref (Ma 8), .int (Mv 10), .ref (Ma 9), .ref (Ma 10), .int (Mv 11), .int (Mv 12), .int (Mv 13), .ref (Ma 11), .int (Mv 14), .ref (Ma 12), .ref (Ma 13), .ref (Ma 14), .ref (Ma 15), .ref (Ma 16), .long (Mj 0), .ref (Ma 17), .ref (Ma 18), .ref (Ma 19), .ref (Ma 20)])), ((Ma 10), .inl (tc 0, 126, .inl (Mf 10)))] := hD₀
        replace hS := hS₀
        clear hP₀ hD₀ hS₀
        have yl_he_24_0 : (0 : Int64).toInt = 0 := by decide
        have yl_he_24_1 : (1 : Int64).toInt = 1 := by decide
        simp only [i32_64] at he_24
        refine lv_if_eq (tgt := 57) hx hb dX12_note_42 (by decide) (fun c_26 => ?_) (fun c_26 => ?_)
        · skip
          refine lv_bipush (v := (-2)) hx hb dX12_note_57 (by decide) ?_
          have hr_27 : ¬ x1.toInt = -1 := by
            have z_1 : ¬ (x1 : Int32).toInt = ((-1) : Int32).toInt := fun z => c_1 (Int32.toInt_inj.mp z)
            have z_2 : ¬ (r_5 : Int32).toInt = (0 : Int32).toInt := fun z => c_8 (Int32.toInt_inj.mp z)
            have z_3 : ¬ (r_14 : Int32).toInt = (0 : Int32).toInt := fun z => c_17 (Int32.toInt_inj.mp z)
            have z_4 := congrArg Int32.toInt c_26
            have y_m1 : (-1 : Int32).toInt = -1 := by decide
            have y_0 : (0 : Int32).toInt = 0 := by decide
            omega
          have hr_28 : x1.toInt < 0 ∨ 60 < x1.toInt ∨ x2.toInt < 0 ∨ ((Mf 10) 3).toInt ≤ x2.toInt ∨ x3.toInt < 0 ∨ 1 < x3.toInt ∨ 10 ≤ ((Mf 10) 125).toInt := by
            have z_1 : ¬ (x1 : Int32).toInt = ((-1) : Int32).toInt := fun z => c_1 (Int32.toInt_inj.mp z)
            have z_2 : ¬ (r_5 : Int32).toInt = (0 : Int32).toInt := fun z => c_8 (Int32.toInt_inj.mp z)
            have z_3 : ¬ (r_14 : Int32).toInt = (0 : Int32).toInt := fun z => c_17 (Int32.toInt_inj.mp z)
            have z_4 := congrArg Int32.toInt c_26
            have y_m1 : (-1 : Int32).toInt = -1 := by decide
            have y_0 : (0 : Int32).toInt = 0 := by decide
            omega
          exact retI (v := (-2)) hx hb hr hlk (rfl) hP hD hS (Mf 10) ⟨_, rfl, (NtY.bad h_td hr_27 hr_28 (by decide)), (NtO.rf h_said)⟩ [0, 1] rfl rfl dX12_note_59 (Nat.le_of_ble_eq_true rfl) (Nat.le_of_ble_eq_true rfl) rfl
        · skip
          refine lv_aload_n hx hb dX12_note_45 rfl (lv_at hl 0 rfl) ?_
          refine gf_X12_39 hx hb hts hown hK hP 0 rfl rfl dX12_note_46 ?_
          refine lv_bipush (v := 125) hx hb dX12_note_49 (by decide) ?_
          refine va_iald hx hb hK hP 1 0 rfl rfl (vin_dec (by decide +kernel)) dX12_note_51 ?_
          refine lv_topi (fun x_29 ex_29 => ?_)
          have lx_29 : x_29.toInt = ((Mf 10) 125).toInt := congrArg Int32.toInt ex_29
          refine lv_bipush (v := 10) hx hb dX12_note_52 (by decide) ?_
          refine lv_icmp_ne (tgt := 60) hx hb dX12_note_54 (by decide) (fun c_30 => ?_) (fun c_30 => ?_)
          · skip
            refine lv_bipush (v := 95) hx hb dX12_note_60 (by decide) ?_
            refine lv_iconst (v := 3) hx hb dX12_note_62 (by decide) ?_
            refine lv_aload_n hx hb dX12_note_63 rfl (lv_at hl 0 rfl) ?_
            refine gf_X12_39 hx hb hts hown hK hP 0 rfl rfl dX12_note_64 ?_
            refine lv_bipush (v := 125) hx hb dX12_note_67 (by decide) ?_
            refine va_iald hx hb hK hP 1 0 rfl rfl (vin_dec (by decide +kernel)) dX12_note_69 ?_
            refine lv_topi (fun x_31 ex_31 => ?_)
            have lx_31 : x_31.toInt = ((Mf 10) 125).toInt := congrArg Int32.toInt ex_31
            refine lv_imul hx hb dX12_note_70 ?_
            refine lv_topi (fun x_32 ex_32 => ?_)
            refine lv_iadd hx hb dX12_note_71 ?_
            refine lv_topi (fun x_33 ex_33 => ?_)
            refine lv_istore (lv' := [(4, .int x_33), (0, .ref (Ma 0)), (1, .int x1), (2, .int x2), (3, .int x3)]) hx hb dX12_note_72 hl (by decide) rfl (fun ls hl₀ => ?_)
            replace hl := hl₀
            clear hl₀
            refine lv_aload_n hx hb dX12_note_74 rfl (lv_at hl 1 rfl) ?_
            refine gf_X12_39 hx hb hts hown hK hP 0 rfl rfl dX12_note_75 ?_
            refine lv_iload hx hb dX12_note_78 (lv_at hl 0 rfl) ?_
            refine lv_iload_n hx hb dX12_note_80 rfl (lv_at hl 2 rfl) ?_
            have hi_34 : vp_in x_33 126 := by
              have z_1 : ¬ (x1 : Int32).toInt = ((-1) : Int32).toInt := fun z => c_1 (Int32.toInt_inj.mp z)
              have z_2 : ¬ (r_5 : Int32).toInt = (0 : Int32).toInt := fun z => c_8 (Int32.toInt_inj.mp z)
              have z_3 : ¬ (r_14 : Int32).toInt = (0 : Int32).toInt := fun z => c_17 (Int32.toInt_inj.mp z)
              have z_4 : ¬ (r_23 : Int32).toInt = (0 : Int32).toInt := fun z => c_26 (Int32.toInt_inj.mp z)
              have z_5 : ¬ (x_29 : Int32).toInt = (10 : Int32).toInt := fun z => c_30 (Int32.toInt_inj.mp z)
              have y_m1 : (-1 : Int32).toInt = -1 := by decide
              have y_0 : (0 : Int32).toInt = 0 := by decide
              have y_10 : (10 : Int32).toInt = 10 := by decide
              have y_3 : (3 : Int32).toInt = 3 := by decide
              have y_95 : (95 : Int32).toInt = 95 := by decide
              have t_x_32 : x_32.toInt = (3 : Int32).toInt * (x_31 : Int32).toInt := by rw [ex_32]; exact mul_toInt (by first | omega | (rw [y_3]; omega)) (by first | omega | (rw [y_3]; omega))
              rw [y_3] at t_x_32
              have t_x_33 : x_33.toInt = (95 : Int32).toInt + (x_32 : Int32).toInt := by rw [ex_33]; exact add_toInt (by omega) (by omega)
              refine vp_in_iff.mpr ⟨?_, ?_⟩ <;> omega
            refine st_int hx hb hK hP hD hS 1 0 rfl rfl hi_34 dX12_note_81 (fun g_35 H locs eg_35 hP₀ hD₀ hS₀ => ?_)
            replace hP : va_P D classes [((Ma 0), .inr (12, [.ref (Ma 1), .int (Mv 0), .int (Mv 1), .ref (Ma 2), .ref (Ma 3), .ref (Ma 4), .ref (Ma 5), .ref (Ma 6), .int (Mv 2), .int (Mv 3), .int (Mv 4), .int (Mv 5), .int (Mv 6), .int (Mv 7), .int (Mv 8), .ref (Ma 7), .int (Mv 9), .ref (Ma 8), .int (Mv 10), .ref (Ma 9), .ref (Ma 10), .int (Mv 11), .int (Mv 12), .int (Mv 13), .ref (Ma 11), .int (Mv 14), .ref (Ma 12), .ref (Ma 13), .ref (Ma 14), .ref (Ma 15), .ref (Ma 16), .long (Mj 0), .ref (Ma 17), .ref (Ma 18), .ref (Ma 19), .ref (Ma 20)])), ((Ma 10), .inl (tc 0, 126, .inl g_35))] H := hP₀
            replace hD : va_D A [((Ma 0), .inr (12, [.ref (Ma 1), .int (Mv 0), .int (Mv 1), .ref (Ma 2), .ref (Ma 3), .ref (Ma 4), .ref (Ma 5), .ref (Ma 6), .int (Mv 2), .int (Mv 3), .int (Mv 4), .int (Mv 5), .int (Mv 6), .int (Mv 7), .int (Mv 8), .ref (Ma 7), .int (Mv 9), .ref (Ma 8), .int (Mv 10), .ref (Ma 9), .ref (Ma 10), .int (Mv 11), .int (Mv 12), .int (Mv 13), .ref (Ma 11), .int (Mv 14), .ref (Ma 12), .ref (Ma 13), .ref (Ma 14), .ref (Ma 15), .ref (Ma 16), .long (Mj 0), .ref (Ma 17), .ref (Ma 18), .ref (Ma 19), .ref (Ma 20)])), ((Ma 10), .inl (tc 0, 126, .inl g_35))] := hD₀
            replace hS := hS₀
            clear hP₀ hD₀ hS₀
            have pf_36 : NtO (Mf 10) (Mf 10) := NtO.rf h_said
            have hr_38 : 95 ≤ (x_33 : Int32).toInt ∧ (x_33 : Int32).toInt < 125 := by
              have z_1 : ¬ (x1 : Int32).toInt = ((-1) : Int32).toInt := fun z => c_1 (Int32.toInt_inj.mp z)
              have z_2 : ¬ (r_5 : Int32).toInt = (0 : Int32).toInt := fun z => c_8 (Int32.toInt_inj.mp z)
              have z_3 : ¬ (r_14 : Int32).toInt = (0 : Int32).toInt := fun z => c_17 (Int32.toInt_inj.mp z)
              have z_4 : ¬ (r_23 : Int32).toInt = (0 : Int32).toInt := fun z => c_26 (Int32.toInt_inj.mp z)
              have z_5 : ¬ (x_29 : Int32).toInt = (10 : Int32).toInt := fun z => c_30 (Int32.toInt_inj.mp z)
              have y_m1 : (-1 : Int32).toInt = -1 := by decide
              have y_0 : (0 : Int32).toInt = 0 := by decide
              have y_10 : (10 : Int32).toInt = 10 := by decide
              have y_3 : (3 : Int32).toInt = 3 := by decide
              have y_95 : (95 : Int32).toInt = 95 := by decide
              have t_x_32 : x_32.toInt = (3 : Int32).toInt * (x_31 : Int32).toInt := by rw [ex_32]; exact mul_toInt (by first | omega | (rw [y_3]; omega)) (by first | omega | (rw [y_3]; omega))
              rw [y_3] at t_x_32
              have t_x_33 : x_33.toInt = (95 : Int32).toInt + (x_32 : Int32).toInt := by rw [ex_33]; exact add_toInt (by omega) (by omega)
              omega
            have hr_39 : 0 ≤ (x1 : Int32).toInt ∧ (x1 : Int32).toInt ≤ 60 := by
              have z_1 : ¬ (x1 : Int32).toInt = ((-1) : Int32).toInt := fun z => c_1 (Int32.toInt_inj.mp z)
              have z_2 : ¬ (r_5 : Int32).toInt = (0 : Int32).toInt := fun z => c_8 (Int32.toInt_inj.mp z)
              have z_3 : ¬ (r_14 : Int32).toInt = (0 : Int32).toInt := fun z => c_17 (Int32.toInt_inj.mp z)
              have z_4 : ¬ (r_23 : Int32).toInt = (0 : Int32).toInt := fun z => c_26 (Int32.toInt_inj.mp z)
              have z_5 : ¬ (x_29 : Int32).toInt = (10 : Int32).toInt := fun z => c_30 (Int32.toInt_inj.mp z)
              have y_m1 : (-1 : Int32).toInt = -1 := by decide
              have y_0 : (0 : Int32).toInt = 0 := by decide
              have y_10 : (10 : Int32).toInt = 10 := by decide
              omega
            have pf_37 : NtO (Mf 10) g_35 := NtO.note1 pf_36 eg_35 hr_38 hr_39
            have ar_pf_37 := NtO.ar pf_37
            have hr_40 : 125 ≠ (x_33 : Int32).toNatClampNeg := by
              have z_1 : ¬ (x1 : Int32).toInt = ((-1) : Int32).toInt := fun z => c_1 (Int32.toInt_inj.mp z)
              have z_2 : ¬ (r_5 : Int32).toInt = (0 : Int32).toInt := fun z => c_8 (Int32.toInt_inj.mp z)
              have z_3 : ¬ (r_14 : Int32).toInt = (0 : Int32).toInt := fun z => c_17 (Int32.toInt_inj.mp z)
              have z_4 : ¬ (r_23 : Int32).toInt = (0 : Int32).toInt := fun z => c_26 (Int32.toInt_inj.mp z)
              have z_5 : ¬ (x_29 : Int32).toInt = (10 : Int32).toInt := fun z => c_30 (Int32.toInt_inj.mp z)
              have y_m1 : (-1 : Int32).toInt = -1 := by decide
              have y_0 : (0 : Int32).toInt = 0 := by decide
              have y_10 : (10 : Int32).toInt = 10 := by decide
              have y_3 : (3 : Int32).toInt = 3 := by decide
              have y_95 : (95 : Int32).toInt = 95 := by decide
              have t_x_32 : x_32.toInt = (3 : Int32).toInt * (x_31 : Int32).toInt := by rw [ex_32]; exact mul_toInt (by first | omega | (rw [y_3]; omega)) (by first | omega | (rw [y_3]; omega))
              rw [y_3] at t_x_32
              have t_x_33 : x_33.toInt = (95 : Int32).toInt + (x_32 : Int32).toInt := by rw [ex_33]; exact add_toInt (by omega) (by omega)
              have hcl : (x_33 : Int32).toNatClampNeg = (x_33 : Int32).toInt.toNat := rfl
              omega
            have kn_g_35 := upd_tn eg_35 hr_40
            refine lv_aload_n hx hb dX12_note_82 rfl (lv_at hl 1 rfl) ?_
            refine gf_X12_39 hx hb hts hown hK hP 0 rfl rfl dX12_note_83 ?_
            refine lv_iload hx hb dX12_note_86 (lv_at hl 0 rfl) ?_
            refine lv_iconst (v := 1) hx hb dX12_note_88 (by decide) ?_
            refine lv_iadd hx hb dX12_note_89 ?_
            refine lv_topi (fun x_41 ex_41 => ?_)
            refine lv_iload_n hx hb dX12_note_90 rfl (lv_at hl 3 rfl) ?_
            have hi_42 : vp_in x_41 126 := by
              have z_1 : ¬ (x1 : Int32).toInt = ((-1) : Int32).toInt := fun z => c_1 (Int32.toInt_inj.mp z)
              have z_2 : ¬ (r_5 : Int32).toInt = (0 : Int32).toInt := fun z => c_8 (Int32.toInt_inj.mp z)
              have z_3 : ¬ (r_14 : Int32).toInt = (0 : Int32).toInt := fun z => c_17 (Int32.toInt_inj.mp z)
              have z_4 : ¬ (r_23 : Int32).toInt = (0 : Int32).toInt := fun z => c_26 (Int32.toInt_inj.mp z)
              have z_5 : ¬ (x_29 : Int32).toInt = (10 : Int32).toInt := fun z => c_30 (Int32.toInt_inj.mp z)
              have y_m1 : (-1 : Int32).toInt = -1 := by decide
              have y_0 : (0 : Int32).toInt = 0 := by decide
              have y_10 : (10 : Int32).toInt = 10 := by decide
              have y_1 : (1 : Int32).toInt = 1 := by decide
              have y_3 : (3 : Int32).toInt = 3 := by decide
              have y_95 : (95 : Int32).toInt = 95 := by decide
              have t_x_32 : x_32.toInt = (3 : Int32).toInt * (x_31 : Int32).toInt := by rw [ex_32]; exact mul_toInt (by first | omega | (rw [y_3]; omega)) (by first | omega | (rw [y_3]; omega))
              rw [y_3] at t_x_32
              have t_x_33 : x_33.toInt = (95 : Int32).toInt + (x_32 : Int32).toInt := by rw [ex_33]; exact add_toInt (by omega) (by omega)
              have t_x_41 : x_41.toInt = (x_33 : Int32).toInt + (1 : Int32).toInt := by rw [ex_41]; exact add_toInt (by omega) (by omega)
              refine vp_in_iff.mpr ⟨?_, ?_⟩ <;> omega
            refine st_int hx hb hK hP hD hS 1 0 rfl rfl hi_42 dX12_note_91 (fun g_43 H locs eg_43 hP₀ hD₀ hS₀ => ?_)
            replace hP : va_P D classes [((Ma 0), .inr (12, [.ref (Ma 1), .int (Mv 0), .int (Mv 1), .ref (Ma 2), .ref (Ma 3), .ref (Ma 4), .ref (Ma 5), .ref (Ma 6), .int (Mv 2), .int (Mv 3), .int (Mv 4), .int (Mv 5), .int (Mv 6), .int (Mv 7), .int (Mv 8), .ref (Ma 7), .int (Mv 9), .ref (Ma 8), .int (Mv 10), .ref (Ma 9), .ref (Ma 10), .int (Mv 11), .int (Mv 12), .int (Mv 13), .ref (Ma 11), .int (Mv 14), .ref (Ma 12), .ref (Ma 13), .ref (Ma 14), .ref (Ma 15), .ref (Ma 16), .long (Mj 0), .ref (Ma 17), .ref (Ma 18), .ref (Ma 19), .ref (Ma 20)])), ((Ma 10), .inl (tc 0, 126, .inl g_43))] H := hP₀
            replace hD : va_D A [((Ma 0), .inr (12, [.ref (Ma 1), .int (Mv 0), .int (Mv 1), .ref (Ma 2), .ref (Ma 3), .ref (Ma 4), .ref (Ma 5), .ref (Ma 6), .int (Mv 2), .int (Mv 3), .int (Mv 4), .int (Mv 5), .int (Mv 6), .int (Mv 7), .int (Mv 8), .ref (Ma 7), .int (Mv 9), .ref (Ma 8), .int (Mv 10), .ref (Ma 9), .ref (Ma 10), .int (Mv 11), .int (Mv 12), .int (Mv 13), .ref (Ma 11), .int (Mv 14), .ref (Ma 12), .ref (Ma 13), .ref (Ma 14), .ref (Ma 15), .ref (Ma 16), .long (Mj 0), .ref (Ma 17), .ref (Ma 18), .ref (Ma 19), .ref (Ma 20)])), ((Ma 10), .inl (tc 0, 126, .inl g_43))] := hD₀
            replace hS := hS₀
            clear hP₀ hD₀ hS₀
            have hr_45 : 95 ≤ (x_41 : Int32).toInt ∧ (x_41 : Int32).toInt < 125 ∧ (x_41 : Int32).toInt % 3 ≠ 2 := by
              have z_1 : ¬ (x1 : Int32).toInt = ((-1) : Int32).toInt := fun z => c_1 (Int32.toInt_inj.mp z)
              have z_2 : ¬ (r_5 : Int32).toInt = (0 : Int32).toInt := fun z => c_8 (Int32.toInt_inj.mp z)
              have z_3 : ¬ (r_14 : Int32).toInt = (0 : Int32).toInt := fun z => c_17 (Int32.toInt_inj.mp z)
              have z_4 : ¬ (r_23 : Int32).toInt = (0 : Int32).toInt := fun z => c_26 (Int32.toInt_inj.mp z)
              have z_5 : ¬ (x_29 : Int32).toInt = (10 : Int32).toInt := fun z => c_30 (Int32.toInt_inj.mp z)
              have y_m1 : (-1 : Int32).toInt = -1 := by decide
              have y_0 : (0 : Int32).toInt = 0 := by decide
              have y_10 : (10 : Int32).toInt = 10 := by decide
              have y_1 : (1 : Int32).toInt = 1 := by decide
              have y_3 : (3 : Int32).toInt = 3 := by decide
              have y_95 : (95 : Int32).toInt = 95 := by decide
              have t_x_32 : x_32.toInt = (3 : Int32).toInt * (x_31 : Int32).toInt := by rw [ex_32]; exact mul_toInt (by first | omega | (rw [y_3]; omega)) (by first | omega | (rw [y_3]; omega))
              rw [y_3] at t_x_32
              have t_x_33 : x_33.toInt = (95 : Int32).toInt + (x_32 : Int32).toInt := by rw [ex_33]; exact add_toInt (by omega) (by omega)
              have t_x_41 : x_41.toInt = (x_33 : Int32).toInt + (1 : Int32).toInt := by rw [ex_41]; exact add_toInt (by omega) (by omega)
              omega
            have pf_44 : NtO (Mf 10) g_43 := NtO.note2 pf_37 eg_43 hr_45
            have ar_pf_44 := NtO.ar pf_44
            have hr_46 : 125 ≠ (x_41 : Int32).toNatClampNeg := by
              have z_1 : ¬ (x1 : Int32).toInt = ((-1) : Int32).toInt := fun z => c_1 (Int32.toInt_inj.mp z)
              have z_2 : ¬ (r_5 : Int32).toInt = (0 : Int32).toInt := fun z => c_8 (Int32.toInt_inj.mp z)
              have z_3 : ¬ (r_14 : Int32).toInt = (0 : Int32).toInt := fun z => c_17 (Int32.toInt_inj.mp z)
              have z_4 : ¬ (r_23 : Int32).toInt = (0 : Int32).toInt := fun z => c_26 (Int32.toInt_inj.mp z)
              have z_5 : ¬ (x_29 : Int32).toInt = (10 : Int32).toInt := fun z => c_30 (Int32.toInt_inj.mp z)
              have y_m1 : (-1 : Int32).toInt = -1 := by decide
              have y_0 : (0 : Int32).toInt = 0 := by decide
              have y_10 : (10 : Int32).toInt = 10 := by decide
              have y_1 : (1 : Int32).toInt = 1 := by decide
              have y_3 : (3 : Int32).toInt = 3 := by decide
              have y_95 : (95 : Int32).toInt = 95 := by decide
              have t_x_32 : x_32.toInt = (3 : Int32).toInt * (x_31 : Int32).toInt := by rw [ex_32]; exact mul_toInt (by first | omega | (rw [y_3]; omega)) (by first | omega | (rw [y_3]; omega))
              rw [y_3] at t_x_32
              have t_x_33 : x_33.toInt = (95 : Int32).toInt + (x_32 : Int32).toInt := by rw [ex_33]; exact add_toInt (by omega) (by omega)
              have t_x_41 : x_41.toInt = (x_33 : Int32).toInt + (1 : Int32).toInt := by rw [ex_41]; exact add_toInt (by omega) (by omega)
              have hcl : (x_41 : Int32).toNatClampNeg = (x_41 : Int32).toInt.toNat := rfl
              omega
            have kn_g_43 := upd_tn eg_43 hr_46
            refine lv_aload_n hx hb dX12_note_92 rfl (lv_at hl 1 rfl) ?_
            refine gf_X12_39 hx hb hts hown hK hP 0 rfl rfl dX12_note_93 ?_
            refine lv_iload hx hb dX12_note_96 (lv_at hl 0 rfl) ?_
            refine lv_iconst (v := 2) hx hb dX12_note_98 (by decide) ?_
            refine lv_iadd hx hb dX12_note_99 ?_
            refine lv_topi (fun x_47 ex_47 => ?_)
            refine lv_iload_n hx hb dX12_note_100 rfl (lv_at hl 4 rfl) ?_
            have hi_48 : vp_in x_47 126 := by
              have z_1 : ¬ (x1 : Int32).toInt = ((-1) : Int32).toInt := fun z => c_1 (Int32.toInt_inj.mp z)
              have z_2 : ¬ (r_5 : Int32).toInt = (0 : Int32).toInt := fun z => c_8 (Int32.toInt_inj.mp z)
              have z_3 : ¬ (r_14 : Int32).toInt = (0 : Int32).toInt := fun z => c_17 (Int32.toInt_inj.mp z)
              have z_4 : ¬ (r_23 : Int32).toInt = (0 : Int32).toInt := fun z => c_26 (Int32.toInt_inj.mp z)
              have z_5 : ¬ (x_29 : Int32).toInt = (10 : Int32).toInt := fun z => c_30 (Int32.toInt_inj.mp z)
              have y_m1 : (-1 : Int32).toInt = -1 := by decide
              have y_0 : (0 : Int32).toInt = 0 := by decide
              have y_10 : (10 : Int32).toInt = 10 := by decide
              have y_2 : (2 : Int32).toInt = 2 := by decide
              have y_3 : (3 : Int32).toInt = 3 := by decide
              have y_95 : (95 : Int32).toInt = 95 := by decide
              have t_x_32 : x_32.toInt = (3 : Int32).toInt * (x_31 : Int32).toInt := by rw [ex_32]; exact mul_toInt (by first | omega | (rw [y_3]; omega)) (by first | omega | (rw [y_3]; omega))
              rw [y_3] at t_x_32
              have t_x_33 : x_33.toInt = (95 : Int32).toInt + (x_32 : Int32).toInt := by rw [ex_33]; exact add_toInt (by omega) (by omega)
              have t_x_47 : x_47.toInt = (x_33 : Int32).toInt + (2 : Int32).toInt := by rw [ex_47]; exact add_toInt (by omega) (by omega)
              refine vp_in_iff.mpr ⟨?_, ?_⟩ <;> omega
            refine st_int hx hb hK hP hD hS 1 0 rfl rfl hi_48 dX12_note_101 (fun g_49 H locs eg_49 hP₀ hD₀ hS₀ => ?_)
            replace hP : va_P D classes [((Ma 0), .inr (12, [.ref (Ma 1), .int (Mv 0), .int (Mv 1), .ref (Ma 2), .ref (Ma 3), .ref (Ma 4), .ref (Ma 5), .ref (Ma 6), .int (Mv 2), .int (Mv 3), .int (Mv 4), .int (Mv 5), .int (Mv 6), .int (Mv 7), .int (Mv 8), .ref (Ma 7), .int (Mv 9), .ref (Ma 8), .int (Mv 10), .ref (Ma 9), .ref (Ma 10), .int (Mv 11), .int (Mv 12), .int (Mv 13), .ref (Ma 11), .int (Mv 14), .ref (Ma 12), .ref (Ma 13), .ref (Ma 14), .ref (Ma 15), .ref (Ma 16), .long (Mj 0), .ref (Ma 17), .ref (Ma 18), .ref (Ma 19), .ref (Ma 20)])), ((Ma 10), .inl (tc 0, 126, .inl g_49))] H := hP₀
            replace hD : va_D A [((Ma 0), .inr (12, [.ref (Ma 1), .int (Mv 0), .int (Mv 1), .ref (Ma 2), .ref (Ma 3), .ref (Ma 4), .ref (Ma 5), .ref (Ma 6), .int (Mv 2), .int (Mv 3), .int (Mv 4), .int (Mv 5), .int (Mv 6), .int (Mv 7), .int (Mv 8), .ref (Ma 7), .int (Mv 9), .ref (Ma 8), .int (Mv 10), .ref (Ma 9), .ref (Ma 10), .int (Mv 11), .int (Mv 12), .int (Mv 13), .ref (Ma 11), .int (Mv 14), .ref (Ma 12), .ref (Ma 13), .ref (Ma 14), .ref (Ma 15), .ref (Ma 16), .long (Mj 0), .ref (Ma 17), .ref (Ma 18), .ref (Ma 19), .ref (Ma 20)])), ((Ma 10), .inl (tc 0, 126, .inl g_49))] := hD₀
            replace hS := hS₀
            clear hP₀ hD₀ hS₀
            have hr_51 : 95 ≤ (x_47 : Int32).toInt ∧ (x_47 : Int32).toInt < 125 ∧ (x_47 : Int32).toInt % 3 ≠ 2 := by
              have z_1 : ¬ (x1 : Int32).toInt = ((-1) : Int32).toInt := fun z => c_1 (Int32.toInt_inj.mp z)
              have z_2 : ¬ (r_5 : Int32).toInt = (0 : Int32).toInt := fun z => c_8 (Int32.toInt_inj.mp z)
              have z_3 : ¬ (r_14 : Int32).toInt = (0 : Int32).toInt := fun z => c_17 (Int32.toInt_inj.mp z)
              have z_4 : ¬ (r_23 : Int32).toInt = (0 : Int32).toInt := fun z => c_26 (Int32.toInt_inj.mp z)
              have z_5 : ¬ (x_29 : Int32).toInt = (10 : Int32).toInt := fun z => c_30 (Int32.toInt_inj.mp z)
              have y_m1 : (-1 : Int32).toInt = -1 := by decide
              have y_0 : (0 : Int32).toInt = 0 := by decide
              have y_10 : (10 : Int32).toInt = 10 := by decide
              have y_2 : (2 : Int32).toInt = 2 := by decide
              have y_3 : (3 : Int32).toInt = 3 := by decide
              have y_95 : (95 : Int32).toInt = 95 := by decide
              have t_x_32 : x_32.toInt = (3 : Int32).toInt * (x_31 : Int32).toInt := by rw [ex_32]; exact mul_toInt (by first | omega | (rw [y_3]; omega)) (by first | omega | (rw [y_3]; omega))
              rw [y_3] at t_x_32
              have t_x_33 : x_33.toInt = (95 : Int32).toInt + (x_32 : Int32).toInt := by rw [ex_33]; exact add_toInt (by omega) (by omega)
              have t_x_47 : x_47.toInt = (x_33 : Int32).toInt + (2 : Int32).toInt := by rw [ex_47]; exact add_toInt (by omega) (by omega)
              omega
            have pf_50 : NtO (Mf 10) g_49 := NtO.note2 pf_44 eg_49 hr_51
            have ar_pf_50 := NtO.ar pf_50
            have hr_52 : 125 ≠ (x_47 : Int32).toNatClampNeg := by
              have z_1 : ¬ (x1 : Int32).toInt = ((-1) : Int32).toInt := fun z => c_1 (Int32.toInt_inj.mp z)
              have z_2 : ¬ (r_5 : Int32).toInt = (0 : Int32).toInt := fun z => c_8 (Int32.toInt_inj.mp z)
              have z_3 : ¬ (r_14 : Int32).toInt = (0 : Int32).toInt := fun z => c_17 (Int32.toInt_inj.mp z)
              have z_4 : ¬ (r_23 : Int32).toInt = (0 : Int32).toInt := fun z => c_26 (Int32.toInt_inj.mp z)
              have z_5 : ¬ (x_29 : Int32).toInt = (10 : Int32).toInt := fun z => c_30 (Int32.toInt_inj.mp z)
              have y_m1 : (-1 : Int32).toInt = -1 := by decide
              have y_0 : (0 : Int32).toInt = 0 := by decide
              have y_10 : (10 : Int32).toInt = 10 := by decide
              have y_2 : (2 : Int32).toInt = 2 := by decide
              have y_3 : (3 : Int32).toInt = 3 := by decide
              have y_95 : (95 : Int32).toInt = 95 := by decide
              have t_x_32 : x_32.toInt = (3 : Int32).toInt * (x_31 : Int32).toInt := by rw [ex_32]; exact mul_toInt (by first | omega | (rw [y_3]; omega)) (by first | omega | (rw [y_3]; omega))
              rw [y_3] at t_x_32
              have t_x_33 : x_33.toInt = (95 : Int32).toInt + (x_32 : Int32).toInt := by rw [ex_33]; exact add_toInt (by omega) (by omega)
              have t_x_47 : x_47.toInt = (x_33 : Int32).toInt + (2 : Int32).toInt := by rw [ex_47]; exact add_toInt (by omega) (by omega)
              have hcl : (x_47 : Int32).toNatClampNeg = (x_47 : Int32).toInt.toNat := rfl
              omega
            have kn_g_49 := upd_tn eg_49 hr_52
            refine lv_aload_n hx hb dX12_note_102 rfl (lv_at hl 1 rfl) ?_
            refine gf_X12_39 hx hb hts hown hK hP 0 rfl rfl dX12_note_103 ?_
            refine lv_bipush (v := 125) hx hb dX12_note_106 (by decide) ?_
            refine lv_dup2_11 hx hb dX12_note_108 rfl rfl ?_
            refine va_iald hx hb hK hP 1 0 rfl rfl (vin_dec (by decide +kernel)) dX12_note_109 ?_
            refine lv_topi (fun x_53 ex_53 => ?_)
            have lx_53 : x_53.toInt = (g_49 125).toInt := congrArg Int32.toInt ex_53
            refine lv_iconst (v := 1) hx hb dX12_note_110 (by decide) ?_
            refine lv_iadd hx hb dX12_note_111 ?_
            refine lv_topi (fun x_54 ex_54 => ?_)
            refine st_int hx hb hK hP hD hS 1 0 rfl rfl (vin_dec (by decide +kernel)) dX12_note_112 (fun g_55 H locs eg_55 hP₀ hD₀ hS₀ => ?_)
            replace hP : va_P D classes [((Ma 0), .inr (12, [.ref (Ma 1), .int (Mv 0), .int (Mv 1), .ref (Ma 2), .ref (Ma 3), .ref (Ma 4), .ref (Ma 5), .ref (Ma 6), .int (Mv 2), .int (Mv 3), .int (Mv 4), .int (Mv 5), .int (Mv 6), .int (Mv 7), .int (Mv 8), .ref (Ma 7), .int (Mv 9), .ref (Ma 8), .int (Mv 10), .ref (Ma 9), .ref (Ma 10), .int (Mv 11), .int (Mv 12), .int (Mv 13), .ref (Ma 11), .int (Mv 14), .ref (Ma 12), .ref (Ma 13), .ref (Ma 14), .ref (Ma 15), .ref (Ma 16), .long (Mj 0), .ref (Ma 17), .ref (Ma 18), .ref (Ma 19), .ref (Ma 20)])), ((Ma 10), .inl (tc 0, 126, .inl g_55))] H := hP₀
            replace hD : va_D A [((Ma 0), .inr (12, [.ref (Ma 1), .int (Mv 0), .int (Mv 1), .ref (Ma 2), .ref (Ma 3), .ref (Ma 4), .ref (Ma 5), .ref (Ma 6), .int (Mv 2), .int (Mv 3), .int (Mv 4), .int (Mv 5), .int (Mv 6), .int (Mv 7), .int (Mv 8), .ref (Ma 7), .int (Mv 9), .ref (Ma 8), .int (Mv 10), .ref (Ma 9), .ref (Ma 10), .int (Mv 11), .int (Mv 12), .int (Mv 13), .ref (Ma 11), .int (Mv 14), .ref (Ma 12), .ref (Ma 13), .ref (Ma 14), .ref (Ma 15), .ref (Ma 16), .long (Mj 0), .ref (Ma 17), .ref (Ma 18), .ref (Ma 19), .ref (Ma 20)])), ((Ma 10), .inl (tc 0, 126, .inl g_55))] := hD₀
            replace hS := hS₀
            clear hP₀ hD₀ hS₀
            have hr_57 : 0 ≤ (x_54 : Int32).toInt ∧ (x_54 : Int32).toInt ≤ 10 := by
              have z_1 : ¬ (x1 : Int32).toInt = ((-1) : Int32).toInt := fun z => c_1 (Int32.toInt_inj.mp z)
              have z_2 : ¬ (r_5 : Int32).toInt = (0 : Int32).toInt := fun z => c_8 (Int32.toInt_inj.mp z)
              have z_3 : ¬ (r_14 : Int32).toInt = (0 : Int32).toInt := fun z => c_17 (Int32.toInt_inj.mp z)
              have z_4 : ¬ (r_23 : Int32).toInt = (0 : Int32).toInt := fun z => c_26 (Int32.toInt_inj.mp z)
              have z_5 : ¬ (x_29 : Int32).toInt = (10 : Int32).toInt := fun z => c_30 (Int32.toInt_inj.mp z)
              have y_m1 : (-1 : Int32).toInt = -1 := by decide
              have y_0 : (0 : Int32).toInt = 0 := by decide
              have y_10 : (10 : Int32).toInt = 10 := by decide
              have y_1 : (1 : Int32).toInt = 1 := by decide
              have t_x_54 : x_54.toInt = (x_53 : Int32).toInt + (1 : Int32).toInt := by rw [ex_54]; exact add_toInt (by omega) (by omega)
              omega
            have pf_56 : NtO (Mf 10) g_55 := NtO.many pf_50 eg_55 (by decide) hr_57
            have ar_pf_56 := NtO.ar pf_56
            have kn_g_55 := upd_lit (j := 125) eg_55 (by decide)
            have kv_g_55 : (x_54 : Int32).toInt = (x_53 : Int32).toInt + 1 := by
              have z_1 : ¬ (x1 : Int32).toInt = ((-1) : Int32).toInt := fun z => c_1 (Int32.toInt_inj.mp z)
              have z_2 : ¬ (r_5 : Int32).toInt = (0 : Int32).toInt := fun z => c_8 (Int32.toInt_inj.mp z)
              have z_3 : ¬ (r_14 : Int32).toInt = (0 : Int32).toInt := fun z => c_17 (Int32.toInt_inj.mp z)
              have z_4 : ¬ (r_23 : Int32).toInt = (0 : Int32).toInt := fun z => c_26 (Int32.toInt_inj.mp z)
              have z_5 : ¬ (x_29 : Int32).toInt = (10 : Int32).toInt := fun z => c_30 (Int32.toInt_inj.mp z)
              have y_m1 : (-1 : Int32).toInt = -1 := by decide
              have y_0 : (0 : Int32).toInt = 0 := by decide
              have y_10 : (10 : Int32).toInt = 10 := by decide
              have y_1 : (1 : Int32).toInt = 1 := by decide
              have t_x_54 : x_54.toInt = (x_53 : Int32).toInt + (1 : Int32).toInt := by rw [ex_54]; exact add_toInt (by omega) (by omega)
              omega
            refine lv_aload_n hx hb dX12_note_113 rfl (lv_at hl 1 rfl) ?_
            refine gf_X12_39 hx hb hts hown hK hP 0 rfl rfl dX12_note_114 ?_
            refine lv_bipush (v := 125) hx hb dX12_note_117 (by decide) ?_
            refine va_iald hx hb hK hP 1 0 rfl rfl (vin_dec (by decide +kernel)) dX12_note_119 ?_
            refine lv_topi (fun x_58 ex_58 => ?_)
            have lx_58 : x_58.toInt = (g_55 125).toInt := congrArg Int32.toInt ex_58
            have hr_59 : 0 ≤ x1.toInt ∧ x1.toInt ≤ 60 ∧ 0 ≤ x2.toInt ∧ x2.toInt < ((Mf 10) 3).toInt ∧ 0 ≤ x3.toInt ∧ x3.toInt ≤ 1 := by
              have z_1 : ¬ (x1 : Int32).toInt = ((-1) : Int32).toInt := fun z => c_1 (Int32.toInt_inj.mp z)
              have z_2 : ¬ (r_5 : Int32).toInt = (0 : Int32).toInt := fun z => c_8 (Int32.toInt_inj.mp z)
              have z_3 : ¬ (r_14 : Int32).toInt = (0 : Int32).toInt := fun z => c_17 (Int32.toInt_inj.mp z)
              have z_4 : ¬ (r_23 : Int32).toInt = (0 : Int32).toInt := fun z => c_26 (Int32.toInt_inj.mp z)
              have z_5 : ¬ (x_29 : Int32).toInt = (10 : Int32).toInt := fun z => c_30 (Int32.toInt_inj.mp z)
              have y_m1 : (-1 : Int32).toInt = -1 := by decide
              have y_0 : (0 : Int32).toInt = 0 := by decide
              have y_10 : (10 : Int32).toInt = 10 := by decide
              omega
            have hr_60 : 0 ≤ ((Mf 10) 125).toInt ∧ ((Mf 10) 125).toInt < 10 := by
              have z_1 : ¬ (x1 : Int32).toInt = ((-1) : Int32).toInt := fun z => c_1 (Int32.toInt_inj.mp z)
              have z_2 : ¬ (r_5 : Int32).toInt = (0 : Int32).toInt := fun z => c_8 (Int32.toInt_inj.mp z)
              have z_3 : ¬ (r_14 : Int32).toInt = (0 : Int32).toInt := fun z => c_17 (Int32.toInt_inj.mp z)
              have z_4 : ¬ (r_23 : Int32).toInt = (0 : Int32).toInt := fun z => c_26 (Int32.toInt_inj.mp z)
              have z_5 : ¬ (x_29 : Int32).toInt = (10 : Int32).toInt := fun z => c_30 (Int32.toInt_inj.mp z)
              have y_m1 : (-1 : Int32).toInt = -1 := by decide
              have y_0 : (0 : Int32).toInt = 0 := by decide
              have y_10 : (10 : Int32).toInt = 10 := by decide
              omega
            have hi_61 : (x_54 : Int32).toInt = ((Mf 10) 125).toInt + 1 := by
              have z_1 : ¬ (x1 : Int32).toInt = ((-1) : Int32).toInt := fun z => c_1 (Int32.toInt_inj.mp z)
              have z_2 : ¬ (r_5 : Int32).toInt = (0 : Int32).toInt := fun z => c_8 (Int32.toInt_inj.mp z)
              have z_3 : ¬ (r_14 : Int32).toInt = (0 : Int32).toInt := fun z => c_17 (Int32.toInt_inj.mp z)
              have z_4 : ¬ (r_23 : Int32).toInt = (0 : Int32).toInt := fun z => c_26 (Int32.toInt_inj.mp z)
              have z_5 : ¬ (x_29 : Int32).toInt = (10 : Int32).toInt := fun z => c_30 (Int32.toInt_inj.mp z)
              have y_m1 : (-1 : Int32).toInt = -1 := by decide
              have y_0 : (0 : Int32).toInt = 0 := by decide
              have y_10 : (10 : Int32).toInt = 10 := by decide
              have y_1 : (1 : Int32).toInt = 1 := by decide
              have t_x_54 : x_54.toInt = (x_53 : Int32).toInt + (1 : Int32).toInt := by rw [ex_54]; exact add_toInt (by omega) (by omega)
              omega
            have hi_62 : (x_58 : Int32).toInt = ((Mf 10) 125).toInt + 1 := by
              have z_1 : ¬ (x1 : Int32).toInt = ((-1) : Int32).toInt := fun z => c_1 (Int32.toInt_inj.mp z)
              have z_2 : ¬ (r_5 : Int32).toInt = (0 : Int32).toInt := fun z => c_8 (Int32.toInt_inj.mp z)
              have z_3 : ¬ (r_14 : Int32).toInt = (0 : Int32).toInt := fun z => c_17 (Int32.toInt_inj.mp z)
              have z_4 : ¬ (r_23 : Int32).toInt = (0 : Int32).toInt := fun z => c_26 (Int32.toInt_inj.mp z)
              have z_5 : ¬ (x_29 : Int32).toInt = (10 : Int32).toInt := fun z => c_30 (Int32.toInt_inj.mp z)
              have y_m1 : (-1 : Int32).toInt = -1 := by decide
              have y_0 : (0 : Int32).toInt = 0 := by decide
              have y_10 : (10 : Int32).toInt = 10 := by decide
              omega
            have hi_63 : (x_33 : Int32).toInt = 95 + 3 * ((Mf 10) 125).toInt := by
              have z_1 : ¬ (x1 : Int32).toInt = ((-1) : Int32).toInt := fun z => c_1 (Int32.toInt_inj.mp z)
              have z_2 : ¬ (r_5 : Int32).toInt = (0 : Int32).toInt := fun z => c_8 (Int32.toInt_inj.mp z)
              have z_3 : ¬ (r_14 : Int32).toInt = (0 : Int32).toInt := fun z => c_17 (Int32.toInt_inj.mp z)
              have z_4 : ¬ (r_23 : Int32).toInt = (0 : Int32).toInt := fun z => c_26 (Int32.toInt_inj.mp z)
              have z_5 : ¬ (x_29 : Int32).toInt = (10 : Int32).toInt := fun z => c_30 (Int32.toInt_inj.mp z)
              have y_m1 : (-1 : Int32).toInt = -1 := by decide
              have y_0 : (0 : Int32).toInt = 0 := by decide
              have y_10 : (10 : Int32).toInt = 10 := by decide
              have y_3 : (3 : Int32).toInt = 3 := by decide
              have y_95 : (95 : Int32).toInt = 95 := by decide
              have t_x_32 : x_32.toInt = (3 : Int32).toInt * (x_31 : Int32).toInt := by rw [ex_32]; exact mul_toInt (by first | omega | (rw [y_3]; omega)) (by first | omega | (rw [y_3]; omega))
              rw [y_3] at t_x_32
              have t_x_33 : x_33.toInt = (95 : Int32).toInt + (x_32 : Int32).toInt := by rw [ex_33]; exact add_toInt (by omega) (by omega)
              omega
            have hi_64 : (x_41 : Int32).toInt = 96 + 3 * ((Mf 10) 125).toInt := by
              have z_1 : ¬ (x1 : Int32).toInt = ((-1) : Int32).toInt := fun z => c_1 (Int32.toInt_inj.mp z)
              have z_2 : ¬ (r_5 : Int32).toInt = (0 : Int32).toInt := fun z => c_8 (Int32.toInt_inj.mp z)
              have z_3 : ¬ (r_14 : Int32).toInt = (0 : Int32).toInt := fun z => c_17 (Int32.toInt_inj.mp z)
              have z_4 : ¬ (r_23 : Int32).toInt = (0 : Int32).toInt := fun z => c_26 (Int32.toInt_inj.mp z)
              have z_5 : ¬ (x_29 : Int32).toInt = (10 : Int32).toInt := fun z => c_30 (Int32.toInt_inj.mp z)
              have y_m1 : (-1 : Int32).toInt = -1 := by decide
              have y_0 : (0 : Int32).toInt = 0 := by decide
              have y_10 : (10 : Int32).toInt = 10 := by decide
              have y_1 : (1 : Int32).toInt = 1 := by decide
              have y_3 : (3 : Int32).toInt = 3 := by decide
              have y_95 : (95 : Int32).toInt = 95 := by decide
              have t_x_32 : x_32.toInt = (3 : Int32).toInt * (x_31 : Int32).toInt := by rw [ex_32]; exact mul_toInt (by first | omega | (rw [y_3]; omega)) (by first | omega | (rw [y_3]; omega))
              rw [y_3] at t_x_32
              have t_x_33 : x_33.toInt = (95 : Int32).toInt + (x_32 : Int32).toInt := by rw [ex_33]; exact add_toInt (by omega) (by omega)
              have t_x_41 : x_41.toInt = (x_33 : Int32).toInt + (1 : Int32).toInt := by rw [ex_41]; exact add_toInt (by omega) (by omega)
              omega
            have hi_65 : (x_47 : Int32).toInt = 97 + 3 * ((Mf 10) 125).toInt := by
              have z_1 : ¬ (x1 : Int32).toInt = ((-1) : Int32).toInt := fun z => c_1 (Int32.toInt_inj.mp z)
              have z_2 : ¬ (r_5 : Int32).toInt = (0 : Int32).toInt := fun z => c_8 (Int32.toInt_inj.mp z)
              have z_3 : ¬ (r_14 : Int32).toInt = (0 : Int32).toInt := fun z => c_17 (Int32.toInt_inj.mp z)
              have z_4 : ¬ (r_23 : Int32).toInt = (0 : Int32).toInt := fun z => c_26 (Int32.toInt_inj.mp z)
              have z_5 : ¬ (x_29 : Int32).toInt = (10 : Int32).toInt := fun z => c_30 (Int32.toInt_inj.mp z)
              have y_m1 : (-1 : Int32).toInt = -1 := by decide
              have y_0 : (0 : Int32).toInt = 0 := by decide
              have y_10 : (10 : Int32).toInt = 10 := by decide
              have y_2 : (2 : Int32).toInt = 2 := by decide
              have y_3 : (3 : Int32).toInt = 3 := by decide
              have y_95 : (95 : Int32).toInt = 95 := by decide
              have t_x_32 : x_32.toInt = (3 : Int32).toInt * (x_31 : Int32).toInt := by rw [ex_32]; exact mul_toInt (by first | omega | (rw [y_3]; omega)) (by first | omega | (rw [y_3]; omega))
              rw [y_3] at t_x_32
              have t_x_33 : x_33.toInt = (95 : Int32).toInt + (x_32 : Int32).toInt := by rw [ex_33]; exact add_toInt (by omega) (by omega)
              have t_x_47 : x_47.toInt = (x_33 : Int32).toInt + (2 : Int32).toInt := by rw [ex_47]; exact add_toInt (by omega) (by omega)
              omega
            have hi_66 : (125 : Int32).toInt = 125 := by
              have z_1 : ¬ (x1 : Int32).toInt = ((-1) : Int32).toInt := fun z => c_1 (Int32.toInt_inj.mp z)
              have z_2 : ¬ (r_5 : Int32).toInt = (0 : Int32).toInt := fun z => c_8 (Int32.toInt_inj.mp z)
              have z_3 : ¬ (r_14 : Int32).toInt = (0 : Int32).toInt := fun z => c_17 (Int32.toInt_inj.mp z)
              have z_4 : ¬ (r_23 : Int32).toInt = (0 : Int32).toInt := fun z => c_26 (Int32.toInt_inj.mp z)
              have z_5 : ¬ (x_29 : Int32).toInt = (10 : Int32).toInt := fun z => c_30 (Int32.toInt_inj.mp z)
              have y_m1 : (-1 : Int32).toInt = -1 := by decide
              have y_0 : (0 : Int32).toInt = 0 := by decide
              have y_10 : (10 : Int32).toInt = 10 := by decide
              have y_125 : (125 : Int32).toInt = 125 := by decide
              decide
            exact retI (v := x_58) hx hb hr hlk (rfl) hP hD hS g_55 ⟨_, rfl, (NtY.add h_td hr_59 hr_60 hi_62 eg_35 eg_43 eg_49 eg_55 hi_63 hi_64 hi_65 hi_66 hi_61), pf_56⟩ [0, 1] rfl rfl dX12_note_120 (Nat.le_of_ble_eq_true rfl) (Nat.le_of_ble_eq_true rfl) rfl
          · skip
            refine lv_bipush (v := (-2)) hx hb dX12_note_57 (by decide) ?_
            have hr_67 : ¬ x1.toInt = -1 := by
              have z_1 : ¬ (x1 : Int32).toInt = ((-1) : Int32).toInt := fun z => c_1 (Int32.toInt_inj.mp z)
              have z_2 : ¬ (r_5 : Int32).toInt = (0 : Int32).toInt := fun z => c_8 (Int32.toInt_inj.mp z)
              have z_3 : ¬ (r_14 : Int32).toInt = (0 : Int32).toInt := fun z => c_17 (Int32.toInt_inj.mp z)
              have z_4 : ¬ (r_23 : Int32).toInt = (0 : Int32).toInt := fun z => c_26 (Int32.toInt_inj.mp z)
              have z_5 := congrArg Int32.toInt c_30
              have y_m1 : (-1 : Int32).toInt = -1 := by decide
              have y_0 : (0 : Int32).toInt = 0 := by decide
              have y_10 : (10 : Int32).toInt = 10 := by decide
              omega
            have hr_68 : x1.toInt < 0 ∨ 60 < x1.toInt ∨ x2.toInt < 0 ∨ ((Mf 10) 3).toInt ≤ x2.toInt ∨ x3.toInt < 0 ∨ 1 < x3.toInt ∨ 10 ≤ ((Mf 10) 125).toInt := by
              have z_1 : ¬ (x1 : Int32).toInt = ((-1) : Int32).toInt := fun z => c_1 (Int32.toInt_inj.mp z)
              have z_2 : ¬ (r_5 : Int32).toInt = (0 : Int32).toInt := fun z => c_8 (Int32.toInt_inj.mp z)
              have z_3 : ¬ (r_14 : Int32).toInt = (0 : Int32).toInt := fun z => c_17 (Int32.toInt_inj.mp z)
              have z_4 : ¬ (r_23 : Int32).toInt = (0 : Int32).toInt := fun z => c_26 (Int32.toInt_inj.mp z)
              have z_5 := congrArg Int32.toInt c_30
              have y_m1 : (-1 : Int32).toInt = -1 := by decide
              have y_0 : (0 : Int32).toInt = 0 := by decide
              have y_10 : (10 : Int32).toInt = 10 := by decide
              omega
            exact retI (v := (-2)) hx hb hr hlk (rfl) hP hD hS (Mf 10) ⟨_, rfl, (NtY.bad h_td hr_67 hr_68 (by decide)), (NtO.rf h_said)⟩ [0, 1] rfl rfl dX12_note_59 (Nat.le_of_ble_eq_true rfl) (Nat.le_of_ble_eq_true rfl) rfl
  · skip
    refine lv_aload_n hx hb dX12_note_5 rfl (lv_at hl 0 rfl) ?_
    refine gf_X12_39 hx hb hts hown hK hP 0 rfl rfl dX12_note_6 ?_
    refine lv_bipush (v := 125) hx hb dX12_note_9 (by decide) ?_
    refine lv_iconst (v := 0) hx hb dX12_note_11 (by decide) ?_
    refine st_int hx hb hK hP hD hS 1 0 rfl rfl (vin_dec (by decide +kernel)) dX12_note_12 (fun g_69 H locs eg_69 hP₀ hD₀ hS₀ => ?_)
    replace hP : va_P D classes [((Ma 0), .inr (12, [.ref (Ma 1), .int (Mv 0), .int (Mv 1), .ref (Ma 2), .ref (Ma 3), .ref (Ma 4), .ref (Ma 5), .ref (Ma 6), .int (Mv 2), .int (Mv 3), .int (Mv 4), .int (Mv 5), .int (Mv 6), .int (Mv 7), .int (Mv 8), .ref (Ma 7), .int (Mv 9), .ref (Ma 8), .int (Mv 10), .ref (Ma 9), .ref (Ma 10), .int (Mv 11), .int (Mv 12), .int (Mv 13), .ref (Ma 11), .int (Mv 14), .ref (Ma 12), .ref (Ma 13), .ref (Ma 14), .ref (Ma 15), .ref (Ma 16), .long (Mj 0), .ref (Ma 17), .ref (Ma 18), .ref (Ma 19), .ref (Ma 20)])), ((Ma 10), .inl (tc 0, 126, .inl g_69))] H := hP₀
    replace hD : va_D A [((Ma 0), .inr (12, [.ref (Ma 1), .int (Mv 0), .int (Mv 1), .ref (Ma 2), .ref (Ma 3), .ref (Ma 4), .ref (Ma 5), .ref (Ma 6), .int (Mv 2), .int (Mv 3), .int (Mv 4), .int (Mv 5), .int (Mv 6), .int (Mv 7), .int (Mv 8), .ref (Ma 7), .int (Mv 9), .ref (Ma 8), .int (Mv 10), .ref (Ma 9), .ref (Ma 10), .int (Mv 11), .int (Mv 12), .int (Mv 13), .ref (Ma 11), .int (Mv 14), .ref (Ma 12), .ref (Ma 13), .ref (Ma 14), .ref (Ma 15), .ref (Ma 16), .long (Mj 0), .ref (Ma 17), .ref (Ma 18), .ref (Ma 19), .ref (Ma 20)])), ((Ma 10), .inl (tc 0, 126, .inl g_69))] := hD₀
    replace hS := hS₀
    clear hP₀ hD₀ hS₀
    have pf_70 : NtO (Mf 10) (Mf 10) := NtO.rf h_said
    have hr_72 : 0 ≤ (0 : Int32).toInt ∧ (0 : Int32).toInt ≤ 10 := by
      have z_1 := congrArg Int32.toInt c_1
      have y_m1 : (-1 : Int32).toInt = -1 := by decide
      have y_0 : (0 : Int32).toInt = 0 := by decide
      omega
    have pf_71 : NtO (Mf 10) g_69 := NtO.many pf_70 eg_69 (by decide) hr_72
    have ar_pf_71 := NtO.ar pf_71
    have kn_g_69 := upd_lit (j := 125) eg_69 (by decide)
    refine lv_iconst (v := 0) hx hb dX12_note_13 (by decide) ?_
    have hr_73 : x1.toInt = -1 := by
      have z_1 := congrArg Int32.toInt c_1
      have y_m1 : (-1 : Int32).toInt = -1 := by decide
      omega
    have hi_74 : (125 : Int32).toInt = 125 := by
      have z_1 := congrArg Int32.toInt c_1
      have y_m1 : (-1 : Int32).toInt = -1 := by decide
      have y_125 : (125 : Int32).toInt = 125 := by decide
      decide
    exact retI (v := 0) hx hb hr hlk (rfl) hP hD hS g_69 ⟨_, rfl, (NtY.none h_td hr_73 (by decide) eg_69 hi_74 (by decide)), pf_71⟩ [0, 1] rfl rfl dX12_note_14 (Nat.le_of_ble_eq_true rfl) (Nat.le_of_ble_eq_true rfl) rfl
set_option maxHeartbeats 4000000 in
set_option maxRecDepth 100000 in
theorem ct_hX12_book {T : Nat → Option Int32} (l : Launch) (D : va_G) (tc : Nat → ClassId) (sk : (Nat → Nat) × (Nat → Nat)) (Ma : Nat → Nat) (Mv : Nat → Int32) (Mf : Nat → Nat → Int32) (Mj : Nat → Int64) (dr : Nat → Int) (h_tp : 0 ≤ ((Mv 0) : Int32).toInt ∧ ((Mv 0) : Int32).toInt ≤ 400) (h_said : SaidD T (Mf 10) 999) (h_un : 0 ≤ ((Mv 14) : Int32).toInt ∧ ((Mv 14) : Int32).toInt ≤ 20) (h_bs : ByS (Mf 1)) (h_td : TdM dr (Mf 10)) : Ct l yX12_book cX12_book 2 (some .int) { frames := 7, cells := 0, slots := 0, locals := 158 } D tc sk [.ref (Ma 0)] [((Ma 0), .inr (12, [.ref (Ma 1), .int (Mv 0), .int (Mv 1), .ref (Ma 2), .ref (Ma 3), .ref (Ma 4), .ref (Ma 5), .ref (Ma 6), .int (Mv 2), .int (Mv 3), .int (Mv 4), .int (Mv 5), .int (Mv 6), .int (Mv 7), .int (Mv 8), .ref (Ma 7), .int (Mv 9), .ref (Ma 8), .int (Mv 10), .ref (Ma 9), .ref (Ma 10), .int (Mv 11), .int (Mv 12), .int (Mv 13), .ref (Ma 11), .int (Mv 14), .ref (Ma 12), .ref (Ma 13), .ref (Ma 14), .ref (Ma 15), .ref (Ma 16), .long (Mj 0), .ref (Ma 17), .ref (Ma 18), .ref (Ma 19), .ref (Ma 20)])), ((Ma 1), .inl (tc 2, 400, .inl (Mf 1))), ((Ma 3), .inl (tc 0, 7, .inl (Mf 3))), ((Ma 6), .inl (tc 0, 95, .inl (Mf 6))), ((Ma 10), .inl (tc 0, 126, .inl (Mf 10)))] (fun (v : Option Value) (u : (Int32) × (Int32) × (Int32) × (Int32) × (Int32) × (Nat → Int32) × (Nat → Int32) × (Nat → Int32)) => match u with | (oo0x1, oo0x2, oo0x3, oo0x4, oo0x5, oo0x6, oo0x7, oo0x8) => ∃ r : Int32, v = some (.int r) ∧ (BkY (rB (Mf 1) (Mv 0)) r dr oo0x8) ∧ (0 ≤ (0 : Int32).toInt ∧ (0 : Int32).toInt ≤ 400) ∧ (SaiO oo0x8 999) ∧ (0 ≤ (oo0x5 : Int32).toInt ∧ (oo0x5 : Int32).toInt ≤ 20)) (fun (u : (Int32) × (Int32) × (Int32) × (Int32) × (Int32) × (Nat → Int32) × (Nat → Int32) × (Nat → Int32)) => match u with | (oo0x1, oo0x2, oo0x3, oo0x4, oo0x5, oo0x6, oo0x7, oo0x8) => [((Ma 0), .inr (12, [.ref (Ma 1), .int 0, .int (Mv 1), .ref (Ma 2), .ref (Ma 3), .ref (Ma 4), .ref (Ma 5), .ref (Ma 6), .int oo0x1, .int oo0x2, .int oo0x3, .int 6, .int 0, .int (Mv 7), .int oo0x4, .ref (Ma 7), .int (Mv 9), .ref (Ma 8), .int (Mv 10), .ref (Ma 9), .ref (Ma 10), .int (Mv 11), .int (Mv 12), .int (Mv 13), .ref (Ma 11), .int oo0x5, .ref (Ma 12), .ref (Ma 13), .ref (Ma 14), .ref (Ma 15), .ref (Ma 16), .long (Mj 0), .ref (Ma 17), .ref (Ma 18), .ref (Ma 19), .ref (Ma 20)])), ((Ma 1), .inl (tc 2, 400, .inl (Mf 1))), ((Ma 3), .inl (tc 0, 7, .inl oo0x6)), ((Ma 6), .inl (tc 0, 95, .inl oo0x7)), ((Ma 10), .inl (tc 0, 126, .inl oo0x8))]) 0 0 := by
  refine Ct.start (by decide) (Nat.le_of_ble_eq_true rfl) (fun p e s m below meth c A ls hx hb hr hlk hin hml hown hts hK hX hP hD hA hl hS => ?_)
  have hl : lv_has ls 2 [(0, .ref (Ma 0))] := hl
  have ar_h_said := SaidD.al h_said
  refine lv_aload_n hx hb dX12_book_0 rfl (lv_at hl 0 rfl) ?_
  refine lv_bipush (v := 6) hx hb dX12_book_1 (by decide) ?_
  refine pf_X12_145 hx hb hts hown hK hP hD hS 0 rfl (Nat.le_of_ble_eq_true rfl) rfl rfl dX12_book_3 (fun H locs hP₀ hD₀ hS₀ => ?_)
  replace hP : va_P D classes [((Ma 0), .inr (12, [.ref (Ma 1), .int (Mv 0), .int (Mv 1), .ref (Ma 2), .ref (Ma 3), .ref (Ma 4), .ref (Ma 5), .ref (Ma 6), .int (Mv 2), .int (Mv 3), .int (Mv 4), .int 6, .int (Mv 6), .int (Mv 7), .int (Mv 8), .ref (Ma 7), .int (Mv 9), .ref (Ma 8), .int (Mv 10), .ref (Ma 9), .ref (Ma 10), .int (Mv 11), .int (Mv 12), .int (Mv 13), .ref (Ma 11), .int (Mv 14), .ref (Ma 12), .ref (Ma 13), .ref (Ma 14), .ref (Ma 15), .ref (Ma 16), .long (Mj 0), .ref (Ma 17), .ref (Ma 18), .ref (Ma 19), .ref (Ma 20)])), ((Ma 1), .inl (tc 2, 400, .inl (Mf 1))), ((Ma 3), .inl (tc 0, 7, .inl (Mf 3))), ((Ma 6), .inl (tc 0, 95, .inl (Mf 6))), ((Ma 10), .inl (tc 0, 126, .inl (Mf 10)))] H := hP₀
  replace hD : va_D A [((Ma 0), .inr (12, [.ref (Ma 1), .int (Mv 0), .int (Mv 1), .ref (Ma 2), .ref (Ma 3), .ref (Ma 4), .ref (Ma 5), .ref (Ma 6), .int (Mv 2), .int (Mv 3), .int (Mv 4), .int 6, .int (Mv 6), .int (Mv 7), .int (Mv 8), .ref (Ma 7), .int (Mv 9), .ref (Ma 8), .int (Mv 10), .ref (Ma 9), .ref (Ma 10), .int (Mv 11), .int (Mv 12), .int (Mv 13), .ref (Ma 11), .int (Mv 14), .ref (Ma 12), .ref (Ma 13), .ref (Ma 14), .ref (Ma 15), .ref (Ma 16), .long (Mj 0), .ref (Ma 17), .ref (Ma 18), .ref (Ma 19), .ref (Ma 20)])), ((Ma 1), .inl (tc 2, 400, .inl (Mf 1))), ((Ma 3), .inl (tc 0, 7, .inl (Mf 3))), ((Ma 6), .inl (tc 0, 95, .inl (Mf 6))), ((Ma 10), .inl (tc 0, 126, .inl (Mf 10)))] := hD₀
  replace hS := hS₀
  clear hP₀ hD₀ hS₀
  refine lv_iconst (v := 0) hx hb dX12_book_6 (by decide) ?_
  refine lv_istore_n (lv' := [(1, .int 0), (0, .ref (Ma 0))]) hx hb dX12_book_7 rfl hl (by decide) rfl (fun ls hl₀ => ?_)
  replace hl := hl₀
  clear hl₀
  have loop_7 : ∀ (n_5 : Nat) (vy_3 : Int32) (vy_4 : Nat → Int32) (H : Heap) (locs : List Loc) (ls : Array Slot), (95 - (vy_3 : Int32).toInt).toNat < n_5 → (0 ≤ (vy_3 : Int32).toInt) → (Rd0 vy_4 vy_3) → va_P D classes [((Ma 0), .inr (12, [.ref (Ma 1), .int (Mv 0), .int (Mv 1), .ref (Ma 2), .ref (Ma 3), .ref (Ma 4), .ref (Ma 5), .ref (Ma 6), .int (Mv 2), .int (Mv 3), .int (Mv 4), .int 6, .int (Mv 6), .int (Mv 7), .int (Mv 8), .ref (Ma 7), .int (Mv 9), .ref (Ma 8), .int (Mv 10), .ref (Ma 9), .ref (Ma 10), .int (Mv 11), .int (Mv 12), .int (Mv 13), .ref (Ma 11), .int (Mv 14), .ref (Ma 12), .ref (Ma 13), .ref (Ma 14), .ref (Ma 15), .ref (Ma 16), .long (Mj 0), .ref (Ma 17), .ref (Ma 18), .ref (Ma 19), .ref (Ma 20)])), ((Ma 1), .inl (tc 2, 400, .inl (Mf 1))), ((Ma 3), .inl (tc 0, 7, .inl (Mf 3))), ((Ma 6), .inl (tc 0, 95, .inl vy_4)), ((Ma 10), .inl (tc 0, 126, .inl (Mf 10)))] H → va_D A [((Ma 0), .inr (12, [.ref (Ma 1), .int (Mv 0), .int (Mv 1), .ref (Ma 2), .ref (Ma 3), .ref (Ma 4), .ref (Ma 5), .ref (Ma 6), .int (Mv 2), .int (Mv 3), .int (Mv 4), .int 6, .int (Mv 6), .int (Mv 7), .int (Mv 8), .ref (Ma 7), .int (Mv 9), .ref (Ma 8), .int (Mv 10), .ref (Ma 9), .ref (Ma 10), .int (Mv 11), .int (Mv 12), .int (Mv 13), .ref (Ma 11), .int (Mv 14), .ref (Ma 12), .ref (Ma 13), .ref (Ma 14), .ref (Ma 15), .ref (Ma 16), .long (Mj 0), .ref (Ma 17), .ref (Ma 18), .ref (Ma 19), .ref (Ma 20)])), ((Ma 1), .inl (tc 2, 400, .inl (Mf 1))), ((Ma 3), .inl (tc 0, 7, .inl (Mf 3))), ((Ma 6), .inl (tc 0, 95, .inl vy_4)), ((Ma 10), .inl (tc 0, 126, .inl (Mf 10)))] → va_S A s.heap H locs → lv_has ls 2 [(1, .int vy_3), (0, .ref (Ma 0))] → W p l e ({ frames := 7, cells := 0, slots := 0, locals := 158 }) s m ([.ref (Ma 0)].toArray) below meth c H locs 0 0 (MQ below (QW (fun (v : Option Value) (u : (Int32) × (Int32) × (Int32) × (Int32) × (Int32) × (Nat → Int32) × (Nat → Int32) × (Nat → Int32)) => match u with | (oo0x1, oo0x2, oo0x3, oo0x4, oo0x5, oo0x6, oo0x7, oo0x8) => ∃ r : Int32, v = some (.int r) ∧ (BkY (rB (Mf 1) (Mv 0)) r dr oo0x8) ∧ (0 ≤ (0 : Int32).toInt ∧ (0 : Int32).toInt ≤ 400) ∧ (SaiO oo0x8 999) ∧ (0 ≤ (oo0x5 : Int32).toInt ∧ (oo0x5 : Int32).toInt ≤ 20)) (BW D (fun (u : (Int32) × (Int32) × (Int32) × (Int32) × (Int32) × (Nat → Int32) × (Nat → Int32) × (Nat → Int32)) => match u with | (oo0x1, oo0x2, oo0x3, oo0x4, oo0x5, oo0x6, oo0x7, oo0x8) => [((Ma 0), .inr (12, [.ref (Ma 1), .int 0, .int (Mv 1), .ref (Ma 2), .ref (Ma 3), .ref (Ma 4), .ref (Ma 5), .ref (Ma 6), .int oo0x1, .int oo0x2, .int oo0x3, .int 6, .int 0, .int (Mv 7), .int oo0x4, .ref (Ma 7), .int (Mv 9), .ref (Ma 8), .int (Mv 10), .ref (Ma 9), .ref (Ma 10), .int (Mv 11), .int (Mv 12), .int (Mv 13), .ref (Ma 11), .int oo0x5, .ref (Ma 12), .ref (Ma 13), .ref (Ma 14), .ref (Ma 15), .ref (Ma 16), .long (Mj 0), .ref (Ma 17), .ref (Ma 18), .ref (Ma 19), .ref (Ma 20)])), ((Ma 1), .inl (tc 2, 400, .inl (Mf 1))), ((Ma 3), .inl (tc 0, 7, .inl oo0x6)), ((Ma 6), .inl (tc 0, 95, .inl oo0x7)), ((Ma 10), .inl (tc 0, 126, .inl oo0x8))]) A) A) ([.ref (Ma 0)].toArray) s 0 0 A) (F0 m 8 ls []) := by
    clear hP hD hS hl
    intro n_5
    induction n_5 with
    | zero =>
      intro vy_3 vy_4 H locs ls h1
      exact absurd h1 (Nat.not_lt_zero _)
    | succ n_5 ih_6 =>
      intro vy_3 vy_4 H locs ls hn_10 pf_8 pf_9 hP hD hS hl
      refine lv_iload_n hx hb dX12_book_8 rfl (lv_at hl 0 rfl) ?_
      refine lv_bipush (v := 95) hx hb dX12_book_9 (by decide) ?_
      refine lv_icmp_ge (tgt := 27) hx hb dX12_book_11 (by decide) (fun c_11 => ?_) (fun c_11 => ?_)
      · skip
        refine lv_aload_n hx hb dX12_book_27 rfl (lv_at hl 1 rfl) ?_
        have hr_12 : 95 ≤ (vy_3 : Int32).toInt := by
          have z_1 := Int32.le_iff_toInt_le.mp c_11
          have y_95 : (95 : Int32).toInt = 95 := by decide
          omega
        have hr_13 : 95 ≤ (vy_3 : Int32).toInt := by
          have z_1 := Int32.le_iff_toInt_le.mp c_11
          have y_95 : (95 : Int32).toInt = 95 := by decide
          omega
        have hz_14 : RdE vy_4 qz_0 := RdE.zero (fun k hk => pf_9 k (by omega))
        have hr_15 : 95 ≤ (vy_3 : Int32).toInt := by
          have z_1 := Int32.le_iff_toInt_le.mp c_11
          have y_95 : (95 : Int32).toInt = 95 := by decide
          omega
        have hz_16 : (vy_4 0).toInt = 0 ∧ (vy_4 2).toInt = 0 ∧ (vy_4 3).toInt = 0 := ⟨pf_9 0 (by omega), pf_9 2 (by omega), pf_9 3 (by omega)⟩
        refine cV (a := (Ma 0)) (As := []) (rest := []) (wr := [((Ma 10), .inl (tc 0, 126, .inl (Mf 10)))]) ⟨hx, hb, hml, hown, hts⟩ hK hX hA (cu_zX12_readsAll_b l D tc sk (Ma 0) (Ma 1) (Ma 2) (Ma 3) (Ma 4) (Ma 5) (Ma 6) (Ma 7) (Ma 8) (Ma 9) (Ma 10) (Ma 11) (Ma 12) (Ma 13) (Ma 14) (Ma 15) (Ma 16) (Ma 17) (Ma 18) (Ma 19) (Ma 20) (Mv 0) (Mv 1) (Mv 2) (Mv 3) (Mv 4) (Mv 6) (Mv 7) (Mv 8) (Mv 9) (Mv 10) (Mv 11) (Mv 12) (Mv 13) (Mv 14) (Mf 1) (Mf 3) vy_4 (Mj 0) h_tp (Rd0.done pf_9 hr_12) h_bs hz_16 hz_14) k_1203 k_1200 k_1202 k_25 k_106 pl_X12_readsAll ⟨Nat.le_of_ble_eq_true rfl, Nat.le_of_ble_eq_true rfl⟩ rfl rfl (va_recv hK hP (ci := 12) (q0 := 0) rfl rfl) hP hD hS [0, 1, 2, 3] [4] rfl rfl rfl rfl rfl (by decide) rfl hl.1 rfl (Nat.le_of_ble_eq_true rfl) dX12_book_28 ⟨Nat.le_of_ble_eq_true rfl, Nat.le_of_ble_eq_true rfl⟩ (fun v_17 u_18 H locs hv_19 hP₀ hD₀ hS₀ => ?_)
        obtain ⟨sv_20, sv_21, sv_22, sv_23, sv_24, sv_25⟩ := u_18
        obtain ⟨r_27, rfl, he_28, pf_26, hm_30⟩ := hv_19
        have he_28 : ((r_27.toInt = 0 ∧ ¬ (sv_21 : Int32).toInt = 0) ∨ (r_27.toInt = 1 ∧ (sv_21 : Int32).toInt = 0)) := he_28
        have pf_26 : QkM (rB (Mf 1) (Mv 0)) sv_21 sv_25 := pf_26
        refine W.eq (g2 := F0 m 31 ls [.int r_27]) rfl ?_
        replace hP : va_P D classes [((Ma 10), .inl (tc 0, 126, .inl (Mf 10))), ((Ma 0), .inr (12, [.ref (Ma 1), .int 0, .int (Mv 1), .ref (Ma 2), .ref (Ma 3), .ref (Ma 4), .ref (Ma 5), .ref (Ma 6), .int sv_20, .int sv_21, .int sv_22, .int 6, .int 0, .int (Mv 7), .int sv_23, .ref (Ma 7), .int (Mv 9), .ref (Ma 8), .int (Mv 10), .ref (Ma 9), .ref (Ma 10), .int (Mv 11), .int (Mv 12), .int (Mv 13), .ref (Ma 11), .int (Mv 14), .ref (Ma 12), .ref (Ma 13), .ref (Ma 14), .ref (Ma 15), .ref (Ma 16), .long (Mj 0), .ref (Ma 17), .ref (Ma 18), .ref (Ma 19), .ref (Ma 20)])), ((Ma 1), .inl (tc 2, 400, .inl (Mf 1))), ((Ma 3), .inl (tc 0, 7, .inl sv_24)), ((Ma 6), .inl (tc 0, 95, .inl sv_25))] H := hP₀
        replace hD : va_D A [((Ma 10), .inl (tc 0, 126, .inl (Mf 10))), ((Ma 0), .inr (12, [.ref (Ma 1), .int 0, .int (Mv 1), .ref (Ma 2), .ref (Ma 3), .ref (Ma 4), .ref (Ma 5), .ref (Ma 6), .int sv_20, .int sv_21, .int sv_22, .int 6, .int 0, .int (Mv 7), .int sv_23, .ref (Ma 7), .int (Mv 9), .ref (Ma 8), .int (Mv 10), .ref (Ma 9), .ref (Ma 10), .int (Mv 11), .int (Mv 12), .int (Mv 13), .ref (Ma 11), .int (Mv 14), .ref (Ma 12), .ref (Ma 13), .ref (Ma 14), .ref (Ma 15), .ref (Ma 16), .long (Mj 0), .ref (Ma 17), .ref (Ma 18), .ref (Ma 19), .ref (Ma 20)])), ((Ma 1), .inl (tc 2, 400, .inl (Mf 1))), ((Ma 3), .inl (tc 0, 7, .inl sv_24)), ((Ma 6), .inl (tc 0, 95, .inl sv_25))] := hD₀
        replace hS := hS₀
        clear hP₀ hD₀ hS₀
        refine lv_if_ne (tgt := 42) hx hb dX12_book_31 (by decide) (fun c_31 => ?_) (fun c_31 => ?_)
        · skip
          have hz_33 : (r_27 : Int32).toInt = 1 := by
            have z_1 := Int32.le_iff_toInt_le.mp c_11
            have z_2 : ¬ (r_27 : Int32).toInt = (0 : Int32).toInt := fun z => c_31 (Int32.toInt_inj.mp z)
            have y_0 : (0 : Int32).toInt = 0 := by decide
            have y_95 : (95 : Int32).toInt = 95 := by decide
            omega
          obtain pf_32 := hm_30 hz_33
          have pf_32 : RdO sv_25 := pf_32
          have ar_pf_32 := RdO.ar pf_32
          refine lv_iconst (v := 0) hx hb dX12_book_42 (by decide) ?_
          refine lv_istore_n (lv' := [(1, .int 0), (0, .ref (Ma 0))]) hx hb dX12_book_43 rfl hl (by decide) rfl (fun ls hl₀ => ?_)
          replace hl := hl₀
          clear hl₀
          have loop_40 : ∀ (n_38 : Nat) (vy_36 : Int32) (vy_37 : Nat → Int32) (H : Heap) (locs : List Loc) (ls : Array Slot), (126 - (vy_36 : Int32).toInt).toNat < n_38 → (0 ≤ (vy_36 : Int32).toInt) → (SdK vy_37 sv_25 vy_36) → va_P D classes [((Ma 10), .inl (tc 0, 126, .inl vy_37)), ((Ma 0), .inr (12, [.ref (Ma 1), .int 0, .int (Mv 1), .ref (Ma 2), .ref (Ma 3), .ref (Ma 4), .ref (Ma 5), .ref (Ma 6), .int sv_20, .int sv_21, .int sv_22, .int 6, .int 0, .int (Mv 7), .int sv_23, .ref (Ma 7), .int (Mv 9), .ref (Ma 8), .int (Mv 10), .ref (Ma 9), .ref (Ma 10), .int (Mv 11), .int (Mv 12), .int (Mv 13), .ref (Ma 11), .int (Mv 14), .ref (Ma 12), .ref (Ma 13), .ref (Ma 14), .ref (Ma 15), .ref (Ma 16), .long (Mj 0), .ref (Ma 17), .ref (Ma 18), .ref (Ma 19), .ref (Ma 20)])), ((Ma 1), .inl (tc 2, 400, .inl (Mf 1))), ((Ma 3), .inl (tc 0, 7, .inl sv_24)), ((Ma 6), .inl (tc 0, 95, .inl sv_25))] H → va_D A [((Ma 10), .inl (tc 0, 126, .inl vy_37)), ((Ma 0), .inr (12, [.ref (Ma 1), .int 0, .int (Mv 1), .ref (Ma 2), .ref (Ma 3), .ref (Ma 4), .ref (Ma 5), .ref (Ma 6), .int sv_20, .int sv_21, .int sv_22, .int 6, .int 0, .int (Mv 7), .int sv_23, .ref (Ma 7), .int (Mv 9), .ref (Ma 8), .int (Mv 10), .ref (Ma 9), .ref (Ma 10), .int (Mv 11), .int (Mv 12), .int (Mv 13), .ref (Ma 11), .int (Mv 14), .ref (Ma 12), .ref (Ma 13), .ref (Ma 14), .ref (Ma 15), .ref (Ma 16), .long (Mj 0), .ref (Ma 17), .ref (Ma 18), .ref (Ma 19), .ref (Ma 20)])), ((Ma 1), .inl (tc 2, 400, .inl (Mf 1))), ((Ma 3), .inl (tc 0, 7, .inl sv_24)), ((Ma 6), .inl (tc 0, 95, .inl sv_25))] → va_S A s.heap H locs → lv_has ls 2 [(1, .int vy_36), (0, .ref (Ma 0))] → W p l e ({ frames := 7, cells := 0, slots := 0, locals := 158 }) s m ([.ref (Ma 0)].toArray) below meth c H locs 0 0 (MQ below (QW (fun (v : Option Value) (u : (Int32) × (Int32) × (Int32) × (Int32) × (Int32) × (Nat → Int32) × (Nat → Int32) × (Nat → Int32)) => match u with | (oo0x1, oo0x2, oo0x3, oo0x4, oo0x5, oo0x6, oo0x7, oo0x8) => ∃ r : Int32, v = some (.int r) ∧ (BkY (rB (Mf 1) (Mv 0)) r dr oo0x8) ∧ (0 ≤ (0 : Int32).toInt ∧ (0 : Int32).toInt ≤ 400) ∧ (SaiO oo0x8 999) ∧ (0 ≤ (oo0x5 : Int32).toInt ∧ (oo0x5 : Int32).toInt ≤ 20)) (BW D (fun (u : (Int32) × (Int32) × (Int32) × (Int32) × (Int32) × (Nat → Int32) × (Nat → Int32) × (Nat → Int32)) => match u with | (oo0x1, oo0x2, oo0x3, oo0x4, oo0x5, oo0x6, oo0x7, oo0x8) => [((Ma 0), .inr (12, [.ref (Ma 1), .int 0, .int (Mv 1), .ref (Ma 2), .ref (Ma 3), .ref (Ma 4), .ref (Ma 5), .ref (Ma 6), .int oo0x1, .int oo0x2, .int oo0x3, .int 6, .int 0, .int (Mv 7), .int oo0x4, .ref (Ma 7), .int (Mv 9), .ref (Ma 8), .int (Mv 10), .ref (Ma 9), .ref (Ma 10), .int (Mv 11), .int (Mv 12), .int (Mv 13), .ref (Ma 11), .int oo0x5, .ref (Ma 12), .ref (Ma 13), .ref (Ma 14), .ref (Ma 15), .ref (Ma 16), .long (Mj 0), .ref (Ma 17), .ref (Ma 18), .ref (Ma 19), .ref (Ma 20)])), ((Ma 1), .inl (tc 2, 400, .inl (Mf 1))), ((Ma 3), .inl (tc 0, 7, .inl oo0x6)), ((Ma 6), .inl (tc 0, 95, .inl oo0x7)), ((Ma 10), .inl (tc 0, 126, .inl oo0x8))]) A) A) ([.ref (Ma 0)].toArray) s 0 0 A) (F0 m 44 ls []) := by
            clear hP hD hS hl
            intro n_38
            induction n_38 with
            | zero =>
              intro vy_36 vy_37 H locs ls h1
              exact absurd h1 (Nat.not_lt_zero _)
            | succ n_38 ih_39 =>
              intro vy_36 vy_37 H locs ls hn_43 pf_41 pf_42 hP hD hS hl
              refine lv_iload_n hx hb dX12_book_44 rfl (lv_at hl 0 rfl) ?_
              refine lv_bipush (v := 126) hx hb dX12_book_45 (by decide) ?_
              refine lv_icmp_ge (tgt := 78) hx hb dX12_book_47 (by decide) (fun c_44 => ?_) (fun c_44 => ?_)
              · skip
                refine lv_aload_n hx hb dX12_book_78 rfl (lv_at hl 1 rfl) ?_
                have hr_45 : 126 ≤ (vy_36 : Int32).toInt := by
                  have z_1 := Int32.le_iff_toInt_le.mp c_11
                  have z_2 : ¬ (r_27 : Int32).toInt = (0 : Int32).toInt := fun z => c_31 (Int32.toInt_inj.mp z)
                  have z_3 := Int32.le_iff_toInt_le.mp c_44
                  have y_0 : (0 : Int32).toInt = 0 := by decide
                  have y_95 : (95 : Int32).toInt = 95 := by decide
                  have y_126 : (126 : Int32).toInt = 126 := by decide
                  omega
                refine cV (a := (Ma 0)) (As := []) (rest := []) (wr := [((Ma 1), .inl (tc 2, 400, .inl (Mf 1))), ((Ma 3), .inl (tc 0, 7, .inl sv_24)), ((Ma 6), .inl (tc 0, 95, .inl sv_25))]) ⟨hx, hb, hml, hown, hts⟩ hK hX hA (cu_X12_begins l D tc sk (Ma 0) (Ma 1) (Ma 2) (Ma 3) (Ma 4) (Ma 5) (Ma 6) (Ma 7) (Ma 8) (Ma 9) (Ma 10) (Ma 11) (Ma 12) (Ma 13) (Ma 14) (Ma 15) (Ma 16) (Ma 17) (Ma 18) (Ma 19) (Ma 20) 0 (Mv 1) sv_20 sv_21 sv_22 6 0 (Mv 7) sv_23 (Mv 9) (Mv 10) (Mv 11) (Mv 12) (Mv 13) (Mv 14) vy_37 (Mj 0) (SaiB.tt (SdK.done pf_42 pf_32 hr_45))) k_1359 k_1356 k_1358 k_56 k_106 pl_X12_begins ⟨Nat.le_of_ble_eq_true rfl, Nat.le_of_ble_eq_true rfl⟩ rfl rfl (va_recv hK hP (ci := 12) (q0 := 1) rfl rfl) hP hD hS [1, 0] [2, 3, 4] rfl rfl rfl rfl rfl (by decide) rfl hl.1 rfl (Nat.le_of_ble_eq_true rfl) dX12_book_79 ⟨Nat.le_of_ble_eq_true rfl, Nat.le_of_ble_eq_true rfl⟩ (fun v_46 u_47 H locs hv_48 hP₀ hD₀ hS₀ => ?_)
                obtain ⟨sv_49, rfl⟩ : ∃ z, z = u_47 := ⟨_, rfl⟩
                obtain ⟨rfl, pf_50⟩ := hv_48
                skip
                have ar_pf_50 := SaidD.al pf_50
                refine W.eq (g2 := F0 m 82 ls []) rfl ?_
                replace hP : va_P D classes [((Ma 1), .inl (tc 2, 400, .inl (Mf 1))), ((Ma 3), .inl (tc 0, 7, .inl sv_24)), ((Ma 6), .inl (tc 0, 95, .inl sv_25)), ((Ma 0), .inr (12, [.ref (Ma 1), .int 0, .int (Mv 1), .ref (Ma 2), .ref (Ma 3), .ref (Ma 4), .ref (Ma 5), .ref (Ma 6), .int sv_20, .int sv_21, .int sv_22, .int 6, .int 0, .int (Mv 7), .int sv_23, .ref (Ma 7), .int (Mv 9), .ref (Ma 8), .int (Mv 10), .ref (Ma 9), .ref (Ma 10), .int (Mv 11), .int (Mv 12), .int (Mv 13), .ref (Ma 11), .int (Mv 14), .ref (Ma 12), .ref (Ma 13), .ref (Ma 14), .ref (Ma 15), .ref (Ma 16), .long (Mj 0), .ref (Ma 17), .ref (Ma 18), .ref (Ma 19), .ref (Ma 20)])), ((Ma 10), .inl (tc 0, 126, .inl sv_49))] H := hP₀
                replace hD : va_D A [((Ma 1), .inl (tc 2, 400, .inl (Mf 1))), ((Ma 3), .inl (tc 0, 7, .inl sv_24)), ((Ma 6), .inl (tc 0, 95, .inl sv_25)), ((Ma 0), .inr (12, [.ref (Ma 1), .int 0, .int (Mv 1), .ref (Ma 2), .ref (Ma 3), .ref (Ma 4), .ref (Ma 5), .ref (Ma 6), .int sv_20, .int sv_21, .int sv_22, .int 6, .int 0, .int (Mv 7), .int sv_23, .ref (Ma 7), .int (Mv 9), .ref (Ma 8), .int (Mv 10), .ref (Ma 9), .ref (Ma 10), .int (Mv 11), .int (Mv 12), .int (Mv 13), .ref (Ma 11), .int (Mv 14), .ref (Ma 12), .ref (Ma 13), .ref (Ma 14), .ref (Ma 15), .ref (Ma 16), .long (Mj 0), .ref (Ma 17), .ref (Ma 18), .ref (Ma 19), .ref (Ma 20)])), ((Ma 10), .inl (tc 0, 126, .inl sv_49))] := hD₀
                replace hS := hS₀
                clear hP₀ hD₀ hS₀
                refine lv_aload_n hx hb dX12_book_82 rfl (lv_at hl 1 rfl) ?_
                refine lv_iconst (v := 0) hx hb dX12_book_83 (by decide) ?_
                refine pf_X12_265 hx hb hts hown hK hP hD hS 3 rfl (Nat.le_of_ble_eq_true rfl) rfl rfl dX12_book_84 (fun H locs hP₀ hD₀ hS₀ => ?_)
                replace hP : va_P D classes [((Ma 1), .inl (tc 2, 400, .inl (Mf 1))), ((Ma 3), .inl (tc 0, 7, .inl sv_24)), ((Ma 6), .inl (tc 0, 95, .inl sv_25)), ((Ma 0), .inr (12, [.ref (Ma 1), .int 0, .int (Mv 1), .ref (Ma 2), .ref (Ma 3), .ref (Ma 4), .ref (Ma 5), .ref (Ma 6), .int sv_20, .int sv_21, .int sv_22, .int 6, .int 0, .int (Mv 7), .int sv_23, .ref (Ma 7), .int (Mv 9), .ref (Ma 8), .int (Mv 10), .ref (Ma 9), .ref (Ma 10), .int (Mv 11), .int (Mv 12), .int (Mv 13), .ref (Ma 11), .int 0, .ref (Ma 12), .ref (Ma 13), .ref (Ma 14), .ref (Ma 15), .ref (Ma 16), .long (Mj 0), .ref (Ma 17), .ref (Ma 18), .ref (Ma 19), .ref (Ma 20)])), ((Ma 10), .inl (tc 0, 126, .inl sv_49))] H := hP₀
                replace hD : va_D A [((Ma 1), .inl (tc 2, 400, .inl (Mf 1))), ((Ma 3), .inl (tc 0, 7, .inl sv_24)), ((Ma 6), .inl (tc 0, 95, .inl sv_25)), ((Ma 0), .inr (12, [.ref (Ma 1), .int 0, .int (Mv 1), .ref (Ma 2), .ref (Ma 3), .ref (Ma 4), .ref (Ma 5), .ref (Ma 6), .int sv_20, .int sv_21, .int sv_22, .int 6, .int 0, .int (Mv 7), .int sv_23, .ref (Ma 7), .int (Mv 9), .ref (Ma 8), .int (Mv 10), .ref (Ma 9), .ref (Ma 10), .int (Mv 11), .int (Mv 12), .int (Mv 13), .ref (Ma 11), .int 0, .ref (Ma 12), .ref (Ma 13), .ref (Ma 14), .ref (Ma 15), .ref (Ma 16), .long (Mj 0), .ref (Ma 17), .ref (Ma 18), .ref (Ma 19), .ref (Ma 20)])), ((Ma 10), .inl (tc 0, 126, .inl sv_49))] := hD₀
                replace hS := hS₀
                clear hP₀ hD₀ hS₀
                refine lv_aload_n hx hb dX12_book_87 rfl (lv_at hl 1 rfl) ?_
                refine gf_X12_39 hx hb hts hown hK hP 3 rfl rfl dX12_book_88 ?_
                refine lv_iconst (v := 3) hx hb dX12_book_91 (by decide) ?_
                refine va_iald hx hb hK hP 4 0 rfl rfl (vin_dec (by decide +kernel)) dX12_book_92 ?_
                refine lv_topi (fun x_51 ex_51 => ?_)
                have lx_51 : x_51.toInt = (sv_49 3).toInt := congrArg Int32.toInt ex_51
                have ha_52 : 0 ≤ (0 : Int32).toInt ∧ (0 : Int32).toInt ≤ 400 := by
                  have z_1 := Int32.le_iff_toInt_le.mp c_11
                  have z_2 : ¬ (r_27 : Int32).toInt = (0 : Int32).toInt := fun z => c_31 (Int32.toInt_inj.mp z)
                  have z_3 := Int32.le_iff_toInt_le.mp c_44
                  have y_0 : (0 : Int32).toInt = 0 := by decide
                  have y_95 : (95 : Int32).toInt = 95 := by decide
                  have y_126 : (126 : Int32).toInt = 126 := by decide
                  omega
                have ha_53 : 0 ≤ (0 : Int32).toInt ∧ (0 : Int32).toInt ≤ 20 := by
                  have z_1 := Int32.le_iff_toInt_le.mp c_11
                  have z_2 : ¬ (r_27 : Int32).toInt = (0 : Int32).toInt := fun z => c_31 (Int32.toInt_inj.mp z)
                  have z_3 := Int32.le_iff_toInt_le.mp c_44
                  have y_0 : (0 : Int32).toInt = 0 := by decide
                  have y_95 : (95 : Int32).toInt = 95 := by decide
                  have y_126 : (126 : Int32).toInt = 126 := by decide
                  omega
                have hr_54 : 126 ≤ (vy_36 : Int32).toInt := by
                  have z_1 := Int32.le_iff_toInt_le.mp c_11
                  have z_2 : ¬ (r_27 : Int32).toInt = (0 : Int32).toInt := fun z => c_31 (Int32.toInt_inj.mp z)
                  have z_3 := Int32.le_iff_toInt_le.mp c_44
                  have y_0 : (0 : Int32).toInt = 0 := by decide
                  have y_95 : (95 : Int32).toInt = 95 := by decide
                  have y_126 : (126 : Int32).toInt = 126 := by decide
                  omega
                have hr_55e : ∀ k : Nat, k < 95 → (k < 10 ∨ 56 ≤ k) → sv_49 k = sv_25 k := fun k hk hk2 => (SaidD.at pf_50 hk2 rfl).trans ((pf_42 k (by omega)).1 hk)
                have hr_55 : (x_51 : Int32).toInt = (sv_25 3).toInt := (congrArg Int32.toInt ex_51).trans (congrArg Int32.toInt (hr_55e 3 (by decide) (by decide)))
                have hr_55n : (sv_49 125).toInt = 0 := by
                  have he5 : sv_49 125 = vy_37 125 := SaidD.at pf_50 (by decide) rfl
                  rw [he5]
                  exact (pf_42 125 (by omega)).2 (by decide)
                have hr_56 : (sv_21 : Int32).toInt = 0 := by
                  have z_1 := Int32.le_iff_toInt_le.mp c_11
                  have z_2 : ¬ (r_27 : Int32).toInt = (0 : Int32).toInt := fun z => c_31 (Int32.toInt_inj.mp z)
                  have z_3 := Int32.le_iff_toInt_le.mp c_44
                  have y_0 : (0 : Int32).toInt = 0 := by decide
                  have y_95 : (95 : Int32).toInt = 95 := by decide
                  have y_126 : (126 : Int32).toInt = 126 := by decide
                  omega
                exact retI (v := x_51) hx hb hr hlk (rfl) hP hD hS (sv_20, sv_21, sv_22, sv_23, 0, sv_24, sv_25, sv_49) ⟨_, rfl, (BkY.good pf_26 hr_56 hr_55 hr_55e hr_55n), ha_52, (SaidD.o (SaidD.mono pf_50 (by decide))), ha_53⟩ [3, 0, 1, 2, 4] rfl rfl dX12_book_93 (Nat.le_of_ble_eq_true rfl) (Nat.le_of_ble_eq_true rfl) rfl
              · skip
                refine lv_aload_n hx hb dX12_book_50 rfl (lv_at hl 1 rfl) ?_
                refine gf_X12_39 hx hb hts hown hK hP 1 rfl rfl dX12_book_51 ?_
                refine lv_iload_n hx hb dX12_book_54 rfl (lv_at hl 0 rfl) ?_
                refine lv_iload_n hx hb dX12_book_55 rfl (lv_at hl 0 rfl) ?_
                refine lv_bipush (v := 95) hx hb dX12_book_56 (by decide) ?_
                refine lv_icmp_ge (tgt := 70) hx hb dX12_book_58 (by decide) (fun c_57 => ?_) (fun c_57 => ?_)
                · skip
                  refine lv_iconst (v := 0) hx hb dX12_book_70 (by decide) ?_
                  have hi_58 : vp_in vy_36 126 := by
                    have z_1 := Int32.le_iff_toInt_le.mp c_11
                    have z_2 : ¬ (r_27 : Int32).toInt = (0 : Int32).toInt := fun z => c_31 (Int32.toInt_inj.mp z)
                    have z_3 := Int32.lt_iff_toInt_lt.mp (Int32.not_le.mp c_44)
                    have z_4 := Int32.le_iff_toInt_le.mp c_57
                    have y_0 : (0 : Int32).toInt = 0 := by decide
                    have y_95 : (95 : Int32).toInt = 95 := by decide
                    have y_126 : (126 : Int32).toInt = 126 := by decide
                    refine vp_in_iff.mpr ⟨?_, ?_⟩ <;> omega
                  refine st_int hx hb hK hP hD hS 0 0 rfl rfl hi_58 dX12_book_71 (fun g_59 H locs eg_59 hP₀ hD₀ hS₀ => ?_)
                  replace hP : va_P D classes [((Ma 10), .inl (tc 0, 126, .inl g_59)), ((Ma 0), .inr (12, [.ref (Ma 1), .int 0, .int (Mv 1), .ref (Ma 2), .ref (Ma 3), .ref (Ma 4), .ref (Ma 5), .ref (Ma 6), .int sv_20, .int sv_21, .int sv_22, .int 6, .int 0, .int (Mv 7), .int sv_23, .ref (Ma 7), .int (Mv 9), .ref (Ma 8), .int (Mv 10), .ref (Ma 9), .ref (Ma 10), .int (Mv 11), .int (Mv 12), .int (Mv 13), .ref (Ma 11), .int (Mv 14), .ref (Ma 12), .ref (Ma 13), .ref (Ma 14), .ref (Ma 15), .ref (Ma 16), .long (Mj 0), .ref (Ma 17), .ref (Ma 18), .ref (Ma 19), .ref (Ma 20)])), ((Ma 1), .inl (tc 2, 400, .inl (Mf 1))), ((Ma 3), .inl (tc 0, 7, .inl sv_24)), ((Ma 6), .inl (tc 0, 95, .inl sv_25))] H := hP₀
                  replace hD : va_D A [((Ma 10), .inl (tc 0, 126, .inl g_59)), ((Ma 0), .inr (12, [.ref (Ma 1), .int 0, .int (Mv 1), .ref (Ma 2), .ref (Ma 3), .ref (Ma 4), .ref (Ma 5), .ref (Ma 6), .int sv_20, .int sv_21, .int sv_22, .int 6, .int 0, .int (Mv 7), .int sv_23, .ref (Ma 7), .int (Mv 9), .ref (Ma 8), .int (Mv 10), .ref (Ma 9), .ref (Ma 10), .int (Mv 11), .int (Mv 12), .int (Mv 13), .ref (Ma 11), .int (Mv 14), .ref (Ma 12), .ref (Ma 13), .ref (Ma 14), .ref (Ma 15), .ref (Ma 16), .long (Mj 0), .ref (Ma 17), .ref (Ma 18), .ref (Ma 19), .ref (Ma 20)])), ((Ma 1), .inl (tc 2, 400, .inl (Mf 1))), ((Ma 3), .inl (tc 0, 7, .inl sv_24)), ((Ma 6), .inl (tc 0, 95, .inl sv_25))] := hD₀
                  replace hS := hS₀
                  clear hP₀ hD₀ hS₀
                  obtain ⟨x_60, ex_60⟩ : ∃ y : Int32, y = vy_36 + 1 := ⟨_, rfl⟩
                  refine lv_iinc (v := x_60) (lv' := [(1, .int x_60), (0, .ref (Ma 0))]) hx hb dX12_book_72 hl (k := 0) rfl (by rw [ex_60]; rfl) (by decide) rfl (fun ls hl₀ => ?_)
                  replace hl := hl₀
                  clear hl₀
                  refine lv_goto (tgt := 44) hx hb dX12_book_75 (by decide) ?_
                  have hb_61 : 126 - (x_60 : Int32).toInt < 126 - (vy_36 : Int32).toInt ∧ 1 ≤ 126 - (vy_36 : Int32).toInt := by
                    have z_1 := Int32.le_iff_toInt_le.mp c_11
                    have z_2 : ¬ (r_27 : Int32).toInt = (0 : Int32).toInt := fun z => c_31 (Int32.toInt_inj.mp z)
                    have z_3 := Int32.lt_iff_toInt_lt.mp (Int32.not_le.mp c_44)
                    have z_4 := Int32.le_iff_toInt_le.mp c_57
                    have y_0 : (0 : Int32).toInt = 0 := by decide
                    have y_95 : (95 : Int32).toInt = 95 := by decide
                    have y_126 : (126 : Int32).toInt = 126 := by decide
                    have y_1 : (1 : Int32).toInt = 1 := by decide
                    have t_x_60 : x_60.toInt = (vy_36 : Int32).toInt + (1 : Int32).toInt := by rw [ex_60]; exact add_toInt (by omega) (by omega)
                    omega
                  have ha_62 : 0 ≤ (x_60 : Int32).toInt := by
                    have z_1 := Int32.le_iff_toInt_le.mp c_11
                    have z_2 : ¬ (r_27 : Int32).toInt = (0 : Int32).toInt := fun z => c_31 (Int32.toInt_inj.mp z)
                    have z_3 := Int32.lt_iff_toInt_lt.mp (Int32.not_le.mp c_44)
                    have z_4 := Int32.le_iff_toInt_le.mp c_57
                    have y_0 : (0 : Int32).toInt = 0 := by decide
                    have y_95 : (95 : Int32).toInt = 95 := by decide
                    have y_126 : (126 : Int32).toInt = 126 := by decide
                    have y_1 : (1 : Int32).toInt = 1 := by decide
                    have t_x_60 : x_60.toInt = (vy_36 : Int32).toInt + (1 : Int32).toInt := by rw [ex_60]; exact add_toInt (by omega) (by omega)
                    omega
                  have hr_63 : 95 ≤ (vy_36 : Int32).toInt := by
                    have z_1 := Int32.le_iff_toInt_le.mp c_11
                    have z_2 : ¬ (r_27 : Int32).toInt = (0 : Int32).toInt := fun z => c_31 (Int32.toInt_inj.mp z)
                    have z_3 := Int32.lt_iff_toInt_lt.mp (Int32.not_le.mp c_44)
                    have z_4 := Int32.le_iff_toInt_le.mp c_57
                    have y_0 : (0 : Int32).toInt = 0 := by decide
                    have y_95 : (95 : Int32).toInt = 95 := by decide
                    have y_126 : (126 : Int32).toInt = 126 := by decide
                    omega
                  have hi_64 : (x_60 : Int32).toInt = (vy_36 : Int32).toInt + 1 := by
                    have z_1 := Int32.le_iff_toInt_le.mp c_11
                    have z_2 : ¬ (r_27 : Int32).toInt = (0 : Int32).toInt := fun z => c_31 (Int32.toInt_inj.mp z)
                    have z_3 := Int32.lt_iff_toInt_lt.mp (Int32.not_le.mp c_44)
                    have z_4 := Int32.le_iff_toInt_le.mp c_57
                    have y_0 : (0 : Int32).toInt = 0 := by decide
                    have y_95 : (95 : Int32).toInt = 95 := by decide
                    have y_126 : (126 : Int32).toInt = 126 := by decide
                    have y_1 : (1 : Int32).toInt = 1 := by decide
                    have t_x_60 : x_60.toInt = (vy_36 : Int32).toInt + (1 : Int32).toInt := by rw [ex_60]; exact add_toInt (by omega) (by omega)
                    omega
                  have hr_65 : 0 ≤ (vy_36 : Int32).toInt := by
                    have z_1 := Int32.le_iff_toInt_le.mp c_11
                    have z_2 : ¬ (r_27 : Int32).toInt = (0 : Int32).toInt := fun z => c_31 (Int32.toInt_inj.mp z)
                    have z_3 := Int32.lt_iff_toInt_lt.mp (Int32.not_le.mp c_44)
                    have z_4 := Int32.le_iff_toInt_le.mp c_57
                    have y_0 : (0 : Int32).toInt = 0 := by decide
                    have y_95 : (95 : Int32).toInt = 95 := by decide
                    have y_126 : (126 : Int32).toInt = 126 := by decide
                    omega
                  exact ih_39 x_60 g_59 _ _ _ (by omega) ha_62 (SdK.step pf_42 eg_59 (Or.inr ⟨hr_63, by decide⟩) hi_64 hr_65) (hP.sub [0, 1, 2, 3, 4] rfl) (hD.sub [0, 1, 2, 3, 4] rfl rfl) hS (lv_sub hl [0, 1] rfl)
                · skip
                  refine lv_aload_n hx hb dX12_book_61 rfl (lv_at hl 1 rfl) ?_
                  refine gf_X12_26 hx hb hts hown hK hP 1 rfl rfl dX12_book_62 ?_
                  refine lv_iload_n hx hb dX12_book_65 rfl (lv_at hl 0 rfl) ?_
                  have hi_66 : vp_in vy_36 95 := by
                    have z_1 := Int32.le_iff_toInt_le.mp c_11
                    have z_2 : ¬ (r_27 : Int32).toInt = (0 : Int32).toInt := fun z => c_31 (Int32.toInt_inj.mp z)
                    have z_3 := Int32.lt_iff_toInt_lt.mp (Int32.not_le.mp c_44)
                    have z_4 := Int32.lt_iff_toInt_lt.mp (Int32.not_le.mp c_57)
                    have y_0 : (0 : Int32).toInt = 0 := by decide
                    have y_95 : (95 : Int32).toInt = 95 := by decide
                    have y_126 : (126 : Int32).toInt = 126 := by decide
                    refine vp_in_iff.mpr ⟨?_, ?_⟩ <;> omega
                  refine va_iald hx hb hK hP 4 0 rfl rfl hi_66 dX12_book_66 ?_
                  refine lv_topi (fun x_67 ex_67 => ?_)
                  refine lv_goto (tgt := 71) hx hb dX12_book_67 (by decide) ?_
                  have hi_68 : vp_in vy_36 126 := by
                    have z_1 := Int32.le_iff_toInt_le.mp c_11
                    have z_2 : ¬ (r_27 : Int32).toInt = (0 : Int32).toInt := fun z => c_31 (Int32.toInt_inj.mp z)
                    have z_3 := Int32.lt_iff_toInt_lt.mp (Int32.not_le.mp c_44)
                    have z_4 := Int32.lt_iff_toInt_lt.mp (Int32.not_le.mp c_57)
                    have y_0 : (0 : Int32).toInt = 0 := by decide
                    have y_95 : (95 : Int32).toInt = 95 := by decide
                    have y_126 : (126 : Int32).toInt = 126 := by decide
                    refine vp_in_iff.mpr ⟨?_, ?_⟩ <;> omega
                  refine st_int hx hb hK hP hD hS 0 0 rfl rfl hi_68 dX12_book_71 (fun g_69 H locs eg_69 hP₀ hD₀ hS₀ => ?_)
                  replace hP : va_P D classes [((Ma 10), .inl (tc 0, 126, .inl g_69)), ((Ma 0), .inr (12, [.ref (Ma 1), .int 0, .int (Mv 1), .ref (Ma 2), .ref (Ma 3), .ref (Ma 4), .ref (Ma 5), .ref (Ma 6), .int sv_20, .int sv_21, .int sv_22, .int 6, .int 0, .int (Mv 7), .int sv_23, .ref (Ma 7), .int (Mv 9), .ref (Ma 8), .int (Mv 10), .ref (Ma 9), .ref (Ma 10), .int (Mv 11), .int (Mv 12), .int (Mv 13), .ref (Ma 11), .int (Mv 14), .ref (Ma 12), .ref (Ma 13), .ref (Ma 14), .ref (Ma 15), .ref (Ma 16), .long (Mj 0), .ref (Ma 17), .ref (Ma 18), .ref (Ma 19), .ref (Ma 20)])), ((Ma 1), .inl (tc 2, 400, .inl (Mf 1))), ((Ma 3), .inl (tc 0, 7, .inl sv_24)), ((Ma 6), .inl (tc 0, 95, .inl sv_25))] H := hP₀
                  replace hD : va_D A [((Ma 10), .inl (tc 0, 126, .inl g_69)), ((Ma 0), .inr (12, [.ref (Ma 1), .int 0, .int (Mv 1), .ref (Ma 2), .ref (Ma 3), .ref (Ma 4), .ref (Ma 5), .ref (Ma 6), .int sv_20, .int sv_21, .int sv_22, .int 6, .int 0, .int (Mv 7), .int sv_23, .ref (Ma 7), .int (Mv 9), .ref (Ma 8), .int (Mv 10), .ref (Ma 9), .ref (Ma 10), .int (Mv 11), .int (Mv 12), .int (Mv 13), .ref (Ma 11), .int (Mv 14), .ref (Ma 12), .ref (Ma 13), .ref (Ma 14), .ref (Ma 15), .ref (Ma 16), .long (Mj 0), .ref (Ma 17), .ref (Ma 18), .ref (Ma 19), .ref (Ma 20)])), ((Ma 1), .inl (tc 2, 400, .inl (Mf 1))), ((Ma 3), .inl (tc 0, 7, .inl sv_24)), ((Ma 6), .inl (tc 0, 95, .inl sv_25))] := hD₀
                  replace hS := hS₀
                  clear hP₀ hD₀ hS₀
                  obtain ⟨x_70, ex_70⟩ : ∃ y : Int32, y = vy_36 + 1 := ⟨_, rfl⟩
                  refine lv_iinc (v := x_70) (lv' := [(1, .int x_70), (0, .ref (Ma 0))]) hx hb dX12_book_72 hl (k := 0) rfl (by rw [ex_70]; rfl) (by decide) rfl (fun ls hl₀ => ?_)
                  replace hl := hl₀
                  clear hl₀
                  refine lv_goto (tgt := 44) hx hb dX12_book_75 (by decide) ?_
                  have hb_71 : 126 - (x_70 : Int32).toInt < 126 - (vy_36 : Int32).toInt ∧ 1 ≤ 126 - (vy_36 : Int32).toInt := by
                    have z_1 := Int32.le_iff_toInt_le.mp c_11
                    have z_2 : ¬ (r_27 : Int32).toInt = (0 : Int32).toInt := fun z => c_31 (Int32.toInt_inj.mp z)
                    have z_3 := Int32.lt_iff_toInt_lt.mp (Int32.not_le.mp c_44)
                    have z_4 := Int32.lt_iff_toInt_lt.mp (Int32.not_le.mp c_57)
                    have y_0 : (0 : Int32).toInt = 0 := by decide
                    have y_95 : (95 : Int32).toInt = 95 := by decide
                    have y_126 : (126 : Int32).toInt = 126 := by decide
                    have y_1 : (1 : Int32).toInt = 1 := by decide
                    have t_x_70 : x_70.toInt = (vy_36 : Int32).toInt + (1 : Int32).toInt := by rw [ex_70]; exact add_toInt (by omega) (by omega)
                    omega
                  have ha_72 : 0 ≤ (x_70 : Int32).toInt := by
                    have z_1 := Int32.le_iff_toInt_le.mp c_11
                    have z_2 : ¬ (r_27 : Int32).toInt = (0 : Int32).toInt := fun z => c_31 (Int32.toInt_inj.mp z)
                    have z_3 := Int32.lt_iff_toInt_lt.mp (Int32.not_le.mp c_44)
                    have z_4 := Int32.lt_iff_toInt_lt.mp (Int32.not_le.mp c_57)
                    have y_0 : (0 : Int32).toInt = 0 := by decide
                    have y_95 : (95 : Int32).toInt = 95 := by decide
                    have y_126 : (126 : Int32).toInt = 126 := by decide
                    have y_1 : (1 : Int32).toInt = 1 := by decide
                    have t_x_70 : x_70.toInt = (vy_36 : Int32).toInt + (1 : Int32).toInt := by rw [ex_70]; exact add_toInt (by omega) (by omega)
                    omega
                  have hr_73 : (vy_36 : Int32).toInt < 95 := by
                    have z_1 := Int32.le_iff_toInt_le.mp c_11
                    have z_2 : ¬ (r_27 : Int32).toInt = (0 : Int32).toInt := fun z => c_31 (Int32.toInt_inj.mp z)
                    have z_3 := Int32.lt_iff_toInt_lt.mp (Int32.not_le.mp c_44)
                    have z_4 := Int32.lt_iff_toInt_lt.mp (Int32.not_le.mp c_57)
                    have y_0 : (0 : Int32).toInt = 0 := by decide
                    have y_95 : (95 : Int32).toInt = 95 := by decide
                    have y_126 : (126 : Int32).toInt = 126 := by decide
                    omega
                  have hi_74 : (x_70 : Int32).toInt = (vy_36 : Int32).toInt + 1 := by
                    have z_1 := Int32.le_iff_toInt_le.mp c_11
                    have z_2 : ¬ (r_27 : Int32).toInt = (0 : Int32).toInt := fun z => c_31 (Int32.toInt_inj.mp z)
                    have z_3 := Int32.lt_iff_toInt_lt.mp (Int32.not_le.mp c_44)
                    have z_4 := Int32.lt_iff_toInt_lt.mp (Int32.not_le.mp c_57)
                    have y_0 : (0 : Int32).toInt = 0 := by decide
                    have y_95 : (95 : Int32).toInt = 95 := by decide
                    have y_126 : (126 : Int32).toInt = 126 := by decide
                    have y_1 : (1 : Int32).toInt = 1 := by decide
                    have t_x_70 : x_70.toInt = (vy_36 : Int32).toInt + (1 : Int32).toInt := by rw [ex_70]; exact add_toInt (by omega) (by omega)
                    omega
                  have hr_75 : 0 ≤ (vy_36 : Int32).toInt := by
                    have z_1 := Int32.le_iff_toInt_le.mp c_11
                    have z_2 : ¬ (r_27 : Int32).toInt = (0 : Int32).toInt := fun z => c_31 (Int32.toInt_inj.mp z)
                    have z_3 := Int32.lt_iff_toInt_lt.mp (Int32.not_le.mp c_44)
                    have z_4 := Int32.lt_iff_toInt_lt.mp (Int32.not_le.mp c_57)
                    have y_0 : (0 : Int32).toInt = 0 := by decide
                    have y_95 : (95 : Int32).toInt = 95 := by decide
                    have y_126 : (126 : Int32).toInt = 126 := by decide
                    omega
                  exact ih_39 x_70 g_69 _ _ _ (by omega) ha_72 (SdK.step pf_42 eg_69 (Or.inl ⟨hr_73, ex_67⟩) hi_74 hr_75) (hP.sub [0, 1, 2, 3, 4] rfl) (hD.sub [0, 1, 2, 3, 4] rfl rfl) hS (lv_sub hl [0, 1] rfl)
          have ha_76 : 0 ≤ (0 : Int32).toInt := by
            have z_1 := Int32.le_iff_toInt_le.mp c_11
            have z_2 : ¬ (r_27 : Int32).toInt = (0 : Int32).toInt := fun z => c_31 (Int32.toInt_inj.mp z)
            have y_0 : (0 : Int32).toInt = 0 := by decide
            have y_95 : (95 : Int32).toInt = 95 := by decide
            omega
          have ha_77 : SdK (Mf 10) sv_25 0 := fun i hi => absurd hi (by have h0z : (0 : Int32).toInt = 0 := (by decide); omega)
          exact loop_40 _ 0 (Mf 10) _ _ _ (Nat.lt_succ_self _) ha_76 ha_77 hP hD hS hl
        · skip
          refine lv_bipush (v := (-2)) hx hb dX12_book_34 (by decide) ?_
          refine lv_aload_n hx hb dX12_book_36 rfl (lv_at hl 1 rfl) ?_
          refine gf_X12_84 hx hb hts hown hK hP 1 rfl rfl dX12_book_37 ?_
          refine lv_isub hx hb dX12_book_40 ?_
          refine lv_topi (fun x_78 ex_78 => ?_)
          have ha_79 : 0 ≤ (0 : Int32).toInt ∧ (0 : Int32).toInt ≤ 400 := by
            have z_1 := Int32.le_iff_toInt_le.mp c_11
            have z_2 := congrArg Int32.toInt c_31
            have y_0 : (0 : Int32).toInt = 0 := by decide
            have y_95 : (95 : Int32).toInt = 95 := by decide
            omega
          have hr_80 : ¬ (sv_21 : Int32).toInt = 0 := by
            have z_1 := Int32.le_iff_toInt_le.mp c_11
            have z_2 := congrArg Int32.toInt c_31
            have y_0 : (0 : Int32).toInt = 0 := by decide
            have y_95 : (95 : Int32).toInt = 95 := by decide
            omega
          exact retI (v := x_78) hx hb hr hlk (rfl) hP hD hS (sv_20, sv_21, sv_22, sv_23, (Mv 14), sv_24, sv_25, (Mf 10)) ⟨_, rfl, (BkY.bad pf_26 hr_80 ex_78 h_td), ha_79, (SaidD.o h_said), h_un⟩ [1, 2, 3, 4, 0] rfl rfl dX12_book_41 (Nat.le_of_ble_eq_true rfl) (Nat.le_of_ble_eq_true rfl) rfl
      · skip
        refine lv_aload_n hx hb dX12_book_14 rfl (lv_at hl 1 rfl) ?_
        refine gf_X12_26 hx hb hts hown hK hP 0 rfl rfl dX12_book_15 ?_
        refine lv_iload_n hx hb dX12_book_18 rfl (lv_at hl 0 rfl) ?_
        refine lv_iconst (v := 0) hx hb dX12_book_19 (by decide) ?_
        have hi_81 : vp_in vy_3 95 := by
          have z_1 := Int32.lt_iff_toInt_lt.mp (Int32.not_le.mp c_11)
          have y_95 : (95 : Int32).toInt = 95 := by decide
          refine vp_in_iff.mpr ⟨?_, ?_⟩ <;> omega
        refine st_int hx hb hK hP hD hS 3 0 rfl rfl hi_81 dX12_book_20 (fun g_82 H locs eg_82 hP₀ hD₀ hS₀ => ?_)
        replace hP : va_P D classes [((Ma 0), .inr (12, [.ref (Ma 1), .int (Mv 0), .int (Mv 1), .ref (Ma 2), .ref (Ma 3), .ref (Ma 4), .ref (Ma 5), .ref (Ma 6), .int (Mv 2), .int (Mv 3), .int (Mv 4), .int 6, .int (Mv 6), .int (Mv 7), .int (Mv 8), .ref (Ma 7), .int (Mv 9), .ref (Ma 8), .int (Mv 10), .ref (Ma 9), .ref (Ma 10), .int (Mv 11), .int (Mv 12), .int (Mv 13), .ref (Ma 11), .int (Mv 14), .ref (Ma 12), .ref (Ma 13), .ref (Ma 14), .ref (Ma 15), .ref (Ma 16), .long (Mj 0), .ref (Ma 17), .ref (Ma 18), .ref (Ma 19), .ref (Ma 20)])), ((Ma 1), .inl (tc 2, 400, .inl (Mf 1))), ((Ma 3), .inl (tc 0, 7, .inl (Mf 3))), ((Ma 6), .inl (tc 0, 95, .inl g_82)), ((Ma 10), .inl (tc 0, 126, .inl (Mf 10)))] H := hP₀
        replace hD : va_D A [((Ma 0), .inr (12, [.ref (Ma 1), .int (Mv 0), .int (Mv 1), .ref (Ma 2), .ref (Ma 3), .ref (Ma 4), .ref (Ma 5), .ref (Ma 6), .int (Mv 2), .int (Mv 3), .int (Mv 4), .int 6, .int (Mv 6), .int (Mv 7), .int (Mv 8), .ref (Ma 7), .int (Mv 9), .ref (Ma 8), .int (Mv 10), .ref (Ma 9), .ref (Ma 10), .int (Mv 11), .int (Mv 12), .int (Mv 13), .ref (Ma 11), .int (Mv 14), .ref (Ma 12), .ref (Ma 13), .ref (Ma 14), .ref (Ma 15), .ref (Ma 16), .long (Mj 0), .ref (Ma 17), .ref (Ma 18), .ref (Ma 19), .ref (Ma 20)])), ((Ma 1), .inl (tc 2, 400, .inl (Mf 1))), ((Ma 3), .inl (tc 0, 7, .inl (Mf 3))), ((Ma 6), .inl (tc 0, 95, .inl g_82)), ((Ma 10), .inl (tc 0, 126, .inl (Mf 10)))] := hD₀
        replace hS := hS₀
        clear hP₀ hD₀ hS₀
        obtain ⟨x_83, ex_83⟩ : ∃ y : Int32, y = vy_3 + 1 := ⟨_, rfl⟩
        refine lv_iinc (v := x_83) (lv' := [(1, .int x_83), (0, .ref (Ma 0))]) hx hb dX12_book_21 hl (k := 0) rfl (by rw [ex_83]; rfl) (by decide) rfl (fun ls hl₀ => ?_)
        replace hl := hl₀
        clear hl₀
        refine lv_goto (tgt := 8) hx hb dX12_book_24 (by decide) ?_
        have hb_84 : 95 - (x_83 : Int32).toInt < 95 - (vy_3 : Int32).toInt ∧ 1 ≤ 95 - (vy_3 : Int32).toInt := by
          have z_1 := Int32.lt_iff_toInt_lt.mp (Int32.not_le.mp c_11)
          have y_95 : (95 : Int32).toInt = 95 := by decide
          have y_1 : (1 : Int32).toInt = 1 := by decide
          have t_x_83 : x_83.toInt = (vy_3 : Int32).toInt + (1 : Int32).toInt := by rw [ex_83]; exact add_toInt (by omega) (by omega)
          omega
        have ha_85 : 0 ≤ (x_83 : Int32).toInt := by
          have z_1 := Int32.lt_iff_toInt_lt.mp (Int32.not_le.mp c_11)
          have y_95 : (95 : Int32).toInt = 95 := by decide
          have y_1 : (1 : Int32).toInt = 1 := by decide
          have t_x_83 : x_83.toInt = (vy_3 : Int32).toInt + (1 : Int32).toInt := by rw [ex_83]; exact add_toInt (by omega) (by omega)
          omega
        have hi_86 : (x_83 : Int32).toInt = (vy_3 : Int32).toInt + 1 := by
          have z_1 := Int32.lt_iff_toInt_lt.mp (Int32.not_le.mp c_11)
          have y_95 : (95 : Int32).toInt = 95 := by decide
          have y_1 : (1 : Int32).toInt = 1 := by decide
          have t_x_83 : x_83.toInt = (vy_3 : Int32).toInt + (1 : Int32).toInt := by rw [ex_83]; exact add_toInt (by omega) (by omega)
          omega
        have hr_87 : 0 ≤ (vy_3 : Int32).toInt := by
          have z_1 := Int32.lt_iff_toInt_lt.mp (Int32.not_le.mp c_11)
          have y_95 : (95 : Int32).toInt = 95 := by decide
          omega
        exact ih_6 x_83 g_82 _ _ _ (by omega) ha_85 (Rd0.step pf_9 eg_82 hi_86 hr_87) (hP.sub [0, 1, 2, 3, 4] rfl) (hD.sub [0, 1, 2, 3, 4] rfl rfl) hS (lv_sub hl [0, 1] rfl)
  have ha_88 : 0 ≤ (0 : Int32).toInt := by
    have y_0 : (0 : Int32).toInt = 0 := by decide
    omega
  have ha_89 : Rd0 (Mf 6) 0 := fun i hi => absurd hi (by have h0z : (0 : Int32).toInt = 0 := (by decide); omega)
  exact loop_7 _ 0 (Mf 6) _ _ _ (Nat.lt_succ_self _) ha_88 ha_89 hP hD hS hl
set_option maxHeartbeats 4000000 in
set_option maxRecDepth 100000 in
theorem ct_hX12_rests {T : Nat → Option Int32} (l : Launch) (D : va_G) (tc : Nat → ClassId) (sk : (Nat → Nat) × (Nat → Nat)) (Ma : Nat → Nat) (Mv : Nat → Int32) (Mf : Nat → Nat → Int32) (Mj : Nat → Int64) (Mg : Nat → Nat → Int64) (x1 : Int32) (x2 : Int32) (x3 : Int32) (x4 : Int32) (h_said : SaidD T (Mf 10) 999) (h_rul : RulD (Mf 2) (Mf 4) (Mf 5) (Mv 1)) (h_frc : -1 ≤ (Mv 11).toInt ∧ (Mv 11).toInt < (Mv 1).toInt ∧ (Mv 1).toInt ≤ 6) : Ct l yX12_rests cX12_rests 12 (some .int) { frames := 6, cells := 0, slots := 0, locals := 143 } D tc sk [.ref (Ma 0), .int x1, .int x2, .int x3, .int x4] [((Ma 0), .inr (12, [.ref (Ma 1), .int (Mv 0), .int (Mv 1), .ref (Ma 2), .ref (Ma 3), .ref (Ma 4), .ref (Ma 5), .ref (Ma 6), .int (Mv 2), .int (Mv 3), .int (Mv 4), .int (Mv 5), .int (Mv 6), .int (Mv 7), .int (Mv 8), .ref (Ma 7), .int (Mv 9), .ref (Ma 8), .int (Mv 10), .ref (Ma 9), .ref (Ma 10), .int (Mv 11), .int (Mv 12), .int (Mv 13), .ref (Ma 11), .int (Mv 14), .ref (Ma 12), .ref (Ma 13), .ref (Ma 14), .ref (Ma 15), .ref (Ma 16), .long (Mj 0), .ref (Ma 17), .ref (Ma 18), .ref (Ma 19), .ref (Ma 20)])), ((Ma 2), .inl (tc 0, 2400, .inl (Mf 2))), ((Ma 4), .inl (tc 0, 288, .inl (Mf 4))), ((Ma 5), .inl (tc 0, 6, .inl (Mf 5))), ((Ma 8), .inl (tc 1, 64, .inr (.inl (Mg 8)))), ((Ma 9), .inl (tc 1, 13, .inr (.inl (Mg 9)))), ((Ma 10), .inl (tc 0, 126, .inl (Mf 10))), ((Ma 12), .inl (tc 0, 46, .inl (Mf 12))), ((Ma 13), .inl (tc 0, 50, .inl (Mf 13)))] (fun (v : Option Value) (u : (Int32) × (Nat → Int64) × (Nat → Int64) × (Nat → Int32) × (Nat → Int32) × (Nat → Int32)) => match u with | (oo0x1, oo0x2, oo0x3, oo0x4, oo0x5, oo0x6) => ∃ r : Int32, v = some (.int r) ∧ (True) ∧ (SaidD T oo0x4 999)) (fun (u : (Int32) × (Nat → Int64) × (Nat → Int64) × (Nat → Int32) × (Nat → Int32) × (Nat → Int32)) => match u with | (oo0x1, oo0x2, oo0x3, oo0x4, oo0x5, oo0x6) => [((Ma 0), .inr (12, [.ref (Ma 1), .int (Mv 0), .int (Mv 1), .ref (Ma 2), .ref (Ma 3), .ref (Ma 4), .ref (Ma 5), .ref (Ma 6), .int (Mv 2), .int (Mv 3), .int (Mv 4), .int (Mv 5), .int (Mv 6), .int (Mv 7), .int (Mv 8), .ref (Ma 7), .int (Mv 9), .ref (Ma 8), .int oo0x1, .ref (Ma 9), .ref (Ma 10), .int (Mv 11), .int (Mv 12), .int (Mv 13), .ref (Ma 11), .int (Mv 14), .ref (Ma 12), .ref (Ma 13), .ref (Ma 14), .ref (Ma 15), .ref (Ma 16), .long (Mj 0), .ref (Ma 17), .ref (Ma 18), .ref (Ma 19), .ref (Ma 20)])), ((Ma 2), .inl (tc 0, 2400, .inl (Mf 2))), ((Ma 4), .inl (tc 0, 288, .inl (Mf 4))), ((Ma 5), .inl (tc 0, 6, .inl (Mf 5))), ((Ma 8), .inl (tc 1, 64, .inr (.inl oo0x2))), ((Ma 9), .inl (tc 1, 13, .inr (.inl oo0x3))), ((Ma 10), .inl (tc 0, 126, .inl oo0x4)), ((Ma 12), .inl (tc 0, 46, .inl oo0x5)), ((Ma 13), .inl (tc 0, 50, .inl oo0x6))]) 0 0 := by
  refine Ct.start (by decide) (Nat.le_of_ble_eq_true rfl) (fun p e s m below meth c A ls hx hb hr hlk hin hml hown hts hK hX hP hD hA hl hS => ?_)
  have hl : lv_has ls 12 [(0, .ref (Ma 0)), (1, .int x1), (2, .int x2), (3, .int x3), (4, .int x4)] := hl
  have ar_h_said := SaidD.al h_said
  refine lv_aload_n hx hb dX12_rests_0 rfl (lv_at hl 0 rfl) ?_
  refine lv_iload_n hx hb dX12_rests_1 rfl (lv_at hl 1 rfl) ?_
  refine cV (a := (Ma 0)) (As := [.int x1]) (rest := []) (wr := [((Ma 2), .inl (tc 0, 2400, .inl (Mf 2))), ((Ma 4), .inl (tc 0, 288, .inl (Mf 4))), ((Ma 5), .inl (tc 0, 6, .inl (Mf 5))), ((Ma 8), .inl (tc 1, 64, .inr (.inl (Mg 8)))), ((Ma 9), .inl (tc 1, 13, .inr (.inl (Mg 9)))), ((Ma 12), .inl (tc 0, 46, .inl (Mf 12))), ((Ma 13), .inl (tc 0, 50, .inl (Mf 13)))]) ⟨hx, hb, hml, hown, hts⟩ hK hX hA (cu_gX12_isBuyer l D tc sk (Ma 0) (Ma 1) (Ma 2) (Ma 3) (Ma 4) (Ma 5) (Ma 6) (Ma 7) (Ma 8) (Ma 9) (Ma 10) (Ma 11) (Ma 12) (Ma 13) (Ma 14) (Ma 15) (Ma 16) (Ma 17) (Ma 18) (Ma 19) (Ma 20) (Mv 0) (Mv 1) (Mv 2) (Mv 3) (Mv 4) (Mv 5) (Mv 6) (Mv 7) (Mv 8) (Mv 9) (Mv 10) (Mv 11) (Mv 12) (Mv 13) (Mv 14) (Mf 10) (Mj 0) x1 h_said.1) k_1375 k_1372 k_1374 k_58 k_106 pl_X12_isBuyer ⟨Nat.le_of_ble_eq_true rfl, Nat.le_of_ble_eq_true rfl⟩ rfl rfl (va_recv hK hP (ci := 12) (q0 := 0) rfl rfl) hP hD hS [0, 6] [1, 2, 3, 4, 5, 7, 8] rfl rfl rfl rfl rfl (by decide) rfl hl.1 rfl (Nat.le_of_ble_eq_true rfl) dX12_rests_2 ⟨Nat.le_of_ble_eq_true rfl, Nat.le_of_ble_eq_true rfl⟩ (fun v_1 u_2 H locs hv_3 hP₀ hD₀ hS₀ => ?_)
  obtain ⟨r_4, rfl, he_5⟩ := hv_3
  have he_5 : ((r_4.toInt = 0 ∧ (x1.toInt < 0 ∨ ((Mf 10) 3).toInt ≤ x1.toInt)) ∨ (r_4.toInt = 1 ∧ 0 ≤ x1.toInt ∧ x1.toInt < ((Mf 10) 3).toInt)) := he_5
  refine W.eq (g2 := F0 m 5 ls [.int r_4]) rfl ?_
  replace hP : va_P D classes [((Ma 2), .inl (tc 0, 2400, .inl (Mf 2))), ((Ma 4), .inl (tc 0, 288, .inl (Mf 4))), ((Ma 5), .inl (tc 0, 6, .inl (Mf 5))), ((Ma 8), .inl (tc 1, 64, .inr (.inl (Mg 8)))), ((Ma 9), .inl (tc 1, 13, .inr (.inl (Mg 9)))), ((Ma 12), .inl (tc 0, 46, .inl (Mf 12))), ((Ma 13), .inl (tc 0, 50, .inl (Mf 13))), ((Ma 0), .inr (12, [.ref (Ma 1), .int (Mv 0), .int (Mv 1), .ref (Ma 2), .ref (Ma 3), .ref (Ma 4), .ref (Ma 5), .ref (Ma 6), .int (Mv 2), .int (Mv 3), .int (Mv 4), .int (Mv 5), .int (Mv 6), .int (Mv 7), .int (Mv 8), .ref (Ma 7), .int (Mv 9), .ref (Ma 8), .int (Mv 10), .ref (Ma 9), .ref (Ma 10), .int (Mv 11), .int (Mv 12), .int (Mv 13), .ref (Ma 11), .int (Mv 14), .ref (Ma 12), .ref (Ma 13), .ref (Ma 14), .ref (Ma 15), .ref (Ma 16), .long (Mj 0), .ref (Ma 17), .ref (Ma 18), .ref (Ma 19), .ref (Ma 20)])), ((Ma 10), .inl (tc 0, 126, .inl (Mf 10)))] H := hP₀
  replace hD : va_D A [((Ma 2), .inl (tc 0, 2400, .inl (Mf 2))), ((Ma 4), .inl (tc 0, 288, .inl (Mf 4))), ((Ma 5), .inl (tc 0, 6, .inl (Mf 5))), ((Ma 8), .inl (tc 1, 64, .inr (.inl (Mg 8)))), ((Ma 9), .inl (tc 1, 13, .inr (.inl (Mg 9)))), ((Ma 12), .inl (tc 0, 46, .inl (Mf 12))), ((Ma 13), .inl (tc 0, 50, .inl (Mf 13))), ((Ma 0), .inr (12, [.ref (Ma 1), .int (Mv 0), .int (Mv 1), .ref (Ma 2), .ref (Ma 3), .ref (Ma 4), .ref (Ma 5), .ref (Ma 6), .int (Mv 2), .int (Mv 3), .int (Mv 4), .int (Mv 5), .int (Mv 6), .int (Mv 7), .int (Mv 8), .ref (Ma 7), .int (Mv 9), .ref (Ma 8), .int (Mv 10), .ref (Ma 9), .ref (Ma 10), .int (Mv 11), .int (Mv 12), .int (Mv 13), .ref (Ma 11), .int (Mv 14), .ref (Ma 12), .ref (Ma 13), .ref (Ma 14), .ref (Ma 15), .ref (Ma 16), .long (Mj 0), .ref (Ma 17), .ref (Ma 18), .ref (Ma 19), .ref (Ma 20)])), ((Ma 10), .inl (tc 0, 126, .inl (Mf 10)))] := hD₀
  replace hS := hS₀
  clear hP₀ hD₀ hS₀
  refine lv_if_eq (tgt := 46) hx hb dX12_rests_5 (by decide) (fun c_7 => ?_) (fun c_7 => ?_)
  · skip
    refine lv_iconst (v := (-1)) hx hb dX12_rests_46 (by decide) ?_
    exact retI (v := (-1)) hx hb hr hlk (rfl) hP hD hS ((Mv 10), (Mg 8), (Mg 9), (Mf 10), (Mf 12), (Mf 13)) ⟨_, rfl, trivial, h_said⟩ [7, 0, 1, 2, 3, 4, 8, 5, 6] rfl rfl dX12_rests_47 (Nat.le_of_ble_eq_true rfl) (Nat.le_of_ble_eq_true rfl) rfl
  · skip
    refine lv_aload_n hx hb dX12_rests_8 rfl (lv_at hl 0 rfl) ?_
    refine lv_iload_n hx hb dX12_rests_9 rfl (lv_at hl 2 rfl) ?_
    refine cV (a := (Ma 0)) (As := [.int x2]) (rest := []) (wr := [((Ma 2), .inl (tc 0, 2400, .inl (Mf 2))), ((Ma 4), .inl (tc 0, 288, .inl (Mf 4))), ((Ma 5), .inl (tc 0, 6, .inl (Mf 5))), ((Ma 8), .inl (tc 1, 64, .inr (.inl (Mg 8)))), ((Ma 9), .inl (tc 1, 13, .inr (.inl (Mg 9)))), ((Ma 12), .inl (tc 0, 46, .inl (Mf 12))), ((Ma 13), .inl (tc 0, 50, .inl (Mf 13)))]) ⟨hx, hb, hml, hown, hts⟩ hK hX hA (cu_gX12_isBuyer l D tc sk (Ma 0) (Ma 1) (Ma 2) (Ma 3) (Ma 4) (Ma 5) (Ma 6) (Ma 7) (Ma 8) (Ma 9) (Ma 10) (Ma 11) (Ma 12) (Ma 13) (Ma 14) (Ma 15) (Ma 16) (Ma 17) (Ma 18) (Ma 19) (Ma 20) (Mv 0) (Mv 1) (Mv 2) (Mv 3) (Mv 4) (Mv 5) (Mv 6) (Mv 7) (Mv 8) (Mv 9) (Mv 10) (Mv 11) (Mv 12) (Mv 13) (Mv 14) (Mf 10) (Mj 0) x2 h_said.1) k_1375 k_1372 k_1374 k_58 k_106 pl_X12_isBuyer ⟨Nat.le_of_ble_eq_true rfl, Nat.le_of_ble_eq_true rfl⟩ rfl rfl (va_recv hK hP (ci := 12) (q0 := 7) rfl rfl) hP hD hS [7, 8] [0, 1, 2, 3, 4, 5, 6] rfl rfl rfl rfl rfl (by decide) rfl hl.1 rfl (Nat.le_of_ble_eq_true rfl) dX12_rests_10 ⟨Nat.le_of_ble_eq_true rfl, Nat.le_of_ble_eq_true rfl⟩ (fun v_8 u_9 H locs hv_10 hP₀ hD₀ hS₀ => ?_)
    obtain ⟨r_11, rfl, he_12⟩ := hv_10
    have he_12 : ((r_11.toInt = 0 ∧ (x2.toInt < 0 ∨ ((Mf 10) 3).toInt ≤ x2.toInt)) ∨ (r_11.toInt = 1 ∧ 0 ≤ x2.toInt ∧ x2.toInt < ((Mf 10) 3).toInt)) := he_12
    refine W.eq (g2 := F0 m 13 ls [.int r_11]) rfl ?_
    replace hP : va_P D classes [((Ma 2), .inl (tc 0, 2400, .inl (Mf 2))), ((Ma 4), .inl (tc 0, 288, .inl (Mf 4))), ((Ma 5), .inl (tc 0, 6, .inl (Mf 5))), ((Ma 8), .inl (tc 1, 64, .inr (.inl (Mg 8)))), ((Ma 9), .inl (tc 1, 13, .inr (.inl (Mg 9)))), ((Ma 12), .inl (tc 0, 46, .inl (Mf 12))), ((Ma 13), .inl (tc 0, 50, .inl (Mf 13))), ((Ma 0), .inr (12, [.ref (Ma 1), .int (Mv 0), .int (Mv 1), .ref (Ma 2), .ref (Ma 3), .ref (Ma 4), .ref (Ma 5), .ref (Ma 6), .int (Mv 2), .int (Mv 3), .int (Mv 4), .int (Mv 5), .int (Mv 6), .int (Mv 7), .int (Mv 8), .ref (Ma 7), .int (Mv 9), .ref (Ma 8), .int (Mv 10), .ref (Ma 9), .ref (Ma 10), .int (Mv 11), .int (Mv 12), .int (Mv 13), .ref (Ma 11), .int (Mv 14), .ref (Ma 12), .ref (Ma 13), .ref (Ma 14), .ref (Ma 15), .ref (Ma 16), .long (Mj 0), .ref (Ma 17), .ref (Ma 18), .ref (Ma 19), .ref (Ma 20)])), ((Ma 10), .inl (tc 0, 126, .inl (Mf 10)))] H := hP₀
    replace hD : va_D A [((Ma 2), .inl (tc 0, 2400, .inl (Mf 2))), ((Ma 4), .inl (tc 0, 288, .inl (Mf 4))), ((Ma 5), .inl (tc 0, 6, .inl (Mf 5))), ((Ma 8), .inl (tc 1, 64, .inr (.inl (Mg 8)))), ((Ma 9), .inl (tc 1, 13, .inr (.inl (Mg 9)))), ((Ma 12), .inl (tc 0, 46, .inl (Mf 12))), ((Ma 13), .inl (tc 0, 50, .inl (Mf 13))), ((Ma 0), .inr (12, [.ref (Ma 1), .int (Mv 0), .int (Mv 1), .ref (Ma 2), .ref (Ma 3), .ref (Ma 4), .ref (Ma 5), .ref (Ma 6), .int (Mv 2), .int (Mv 3), .int (Mv 4), .int (Mv 5), .int (Mv 6), .int (Mv 7), .int (Mv 8), .ref (Ma 7), .int (Mv 9), .ref (Ma 8), .int (Mv 10), .ref (Ma 9), .ref (Ma 10), .int (Mv 11), .int (Mv 12), .int (Mv 13), .ref (Ma 11), .int (Mv 14), .ref (Ma 12), .ref (Ma 13), .ref (Ma 14), .ref (Ma 15), .ref (Ma 16), .long (Mj 0), .ref (Ma 17), .ref (Ma 18), .ref (Ma 19), .ref (Ma 20)])), ((Ma 10), .inl (tc 0, 126, .inl (Mf 10)))] := hD₀
    replace hS := hS₀
    clear hP₀ hD₀ hS₀
    refine lv_if_eq (tgt := 46) hx hb dX12_rests_13 (by decide) (fun c_14 => ?_) (fun c_14 => ?_)
    · skip
      refine lv_iconst (v := (-1)) hx hb dX12_rests_46 (by decide) ?_
      exact retI (v := (-1)) hx hb hr hlk (rfl) hP hD hS ((Mv 10), (Mg 8), (Mg 9), (Mf 10), (Mf 12), (Mf 13)) ⟨_, rfl, trivial, h_said⟩ [7, 0, 1, 2, 3, 4, 8, 5, 6] rfl rfl dX12_rests_47 (Nat.le_of_ble_eq_true rfl) (Nat.le_of_ble_eq_true rfl) rfl
    · skip
      refine lv_iload_n hx hb dX12_rests_16 rfl (lv_at hl 1 rfl) ?_
      refine lv_iload_n hx hb dX12_rests_17 rfl (lv_at hl 2 rfl) ?_
      refine lv_icmp_eq (tgt := 46) hx hb dX12_rests_18 (by decide) (fun c_15 => ?_) (fun c_15 => ?_)
      · skip
        refine lv_iconst (v := (-1)) hx hb dX12_rests_46 (by decide) ?_
        exact retI (v := (-1)) hx hb hr hlk (rfl) hP hD hS ((Mv 10), (Mg 8), (Mg 9), (Mf 10), (Mf 12), (Mf 13)) ⟨_, rfl, trivial, h_said⟩ [7, 0, 1, 2, 3, 4, 8, 5, 6] rfl rfl dX12_rests_47 (Nat.le_of_ble_eq_true rfl) (Nat.le_of_ble_eq_true rfl) rfl
      · skip
        refine lv_iload_n hx hb dX12_rests_21 rfl (lv_at hl 3 rfl) ?_
        refine lv_i2l (v := (x3).toInt64) hx hb dX12_rests_22 rfl ?_
        refine lv_lconst (v := 1) hx hb dX12_rests_23 (by decide) ?_
        refine lv_ldc2 hx hb hown (hts _ k_1540) dX12_rests_24 ?_
        refine cS (As := [.long (x3).toInt64, .long 1, .long 30]) (rest := []) (wr := [((Ma 2), .inl (tc 0, 2400, .inl (Mf 2))), ((Ma 4), .inl (tc 0, 288, .inl (Mf 4))), ((Ma 5), .inl (tc 0, 6, .inl (Mf 5))), ((Ma 8), .inl (tc 1, 64, .inr (.inl (Mg 8)))), ((Ma 9), .inl (tc 1, 13, .inr (.inl (Mg 9)))), ((Ma 12), .inl (tc 0, 46, .inl (Mf 12))), ((Ma 13), .inl (tc 0, 50, .inl (Mf 13))), ((Ma 0), .inr (12, [.ref (Ma 1), .int (Mv 0), .int (Mv 1), .ref (Ma 2), .ref (Ma 3), .ref (Ma 4), .ref (Ma 5), .ref (Ma 6), .int (Mv 2), .int (Mv 3), .int (Mv 4), .int (Mv 5), .int (Mv 6), .int (Mv 7), .int (Mv 8), .ref (Ma 7), .int (Mv 9), .ref (Ma 8), .int (Mv 10), .ref (Ma 9), .ref (Ma 10), .int (Mv 11), .int (Mv 12), .int (Mv 13), .ref (Ma 11), .int (Mv 14), .ref (Ma 12), .ref (Ma 13), .ref (Ma 14), .ref (Ma 15), .ref (Ma 16), .long (Mj 0), .ref (Ma 17), .ref (Ma 18), .ref (Ma 19), .ref (Ma 20)])), ((Ma 10), .inl (tc 0, 126, .inl (Mf 10)))]) ⟨hx, hb, hml, hown, hts⟩ hK hX hA (ct_X12_in2 l D tc sk ((x3).toInt64) 1 30) k_1259 k_1257 k_1258 k_106 pl_X12_in ⟨Nat.le_of_ble_eq_true rfl, Nat.le_of_ble_eq_true rfl⟩ rfl rfl  hP hD hS [] [0, 1, 2, 3, 4, 5, 6, 7, 8] rfl rfl rfl rfl rfl (by decide) rfl hl.1 rfl (Nat.le_of_ble_eq_true rfl) dX12_rests_27 ⟨Nat.le_of_ble_eq_true rfl, Nat.le_of_ble_eq_true rfl⟩ (fun v_16 u_17 H locs hv_18 hP₀ hD₀ hS₀ => ?_)
        obtain ⟨r_19, rfl, he_20⟩ := hv_18
        have he_20 : ((r_19.toInt = 0 ∧ ((x3).toInt64.toInt < (1 : Int64).toInt ∨ (30 : Int64).toInt < (x3).toInt64.toInt)) ∨ (r_19.toInt = 1 ∧ (1 : Int64).toInt ≤ (x3).toInt64.toInt ∧ (x3).toInt64.toInt ≤ (30 : Int64).toInt)) := he_20
        refine W.eq (g2 := F0 m 30 ls [.int r_19]) rfl ?_
        replace hP : va_P D classes [((Ma 2), .inl (tc 0, 2400, .inl (Mf 2))), ((Ma 4), .inl (tc 0, 288, .inl (Mf 4))), ((Ma 5), .inl (tc 0, 6, .inl (Mf 5))), ((Ma 8), .inl (tc 1, 64, .inr (.inl (Mg 8)))), ((Ma 9), .inl (tc 1, 13, .inr (.inl (Mg 9)))), ((Ma 12), .inl (tc 0, 46, .inl (Mf 12))), ((Ma 13), .inl (tc 0, 50, .inl (Mf 13))), ((Ma 0), .inr (12, [.ref (Ma 1), .int (Mv 0), .int (Mv 1), .ref (Ma 2), .ref (Ma 3), .ref (Ma 4), .ref (Ma 5), .ref (Ma 6), .int (Mv 2), .int (Mv 3), .int (Mv 4), .int (Mv 5), .int (Mv 6), .int (Mv 7), .int (Mv 8), .ref (Ma 7), .int (Mv 9), .ref (Ma 8), .int (Mv 10), .ref (Ma 9), .ref (Ma 10), .int (Mv 11), .int (Mv 12), .int (Mv 13), .ref (Ma 11), .int (Mv 14), .ref (Ma 12), .ref (Ma 13), .ref (Ma 14), .ref (Ma 15), .ref (Ma 16), .long (Mj 0), .ref (Ma 17), .ref (Ma 18), .ref (Ma 19), .ref (Ma 20)])), ((Ma 10), .inl (tc 0, 126, .inl (Mf 10)))] H := hP₀
        replace hD : va_D A [((Ma 2), .inl (tc 0, 2400, .inl (Mf 2))), ((Ma 4), .inl (tc 0, 288, .inl (Mf 4))), ((Ma 5), .inl (tc 0, 6, .inl (Mf 5))), ((Ma 8), .inl (tc 1, 64, .inr (.inl (Mg 8)))), ((Ma 9), .inl (tc 1, 13, .inr (.inl (Mg 9)))), ((Ma 12), .inl (tc 0, 46, .inl (Mf 12))), ((Ma 13), .inl (tc 0, 50, .inl (Mf 13))), ((Ma 0), .inr (12, [.ref (Ma 1), .int (Mv 0), .int (Mv 1), .ref (Ma 2), .ref (Ma 3), .ref (Ma 4), .ref (Ma 5), .ref (Ma 6), .int (Mv 2), .int (Mv 3), .int (Mv 4), .int (Mv 5), .int (Mv 6), .int (Mv 7), .int (Mv 8), .ref (Ma 7), .int (Mv 9), .ref (Ma 8), .int (Mv 10), .ref (Ma 9), .ref (Ma 10), .int (Mv 11), .int (Mv 12), .int (Mv 13), .ref (Ma 11), .int (Mv 14), .ref (Ma 12), .ref (Ma 13), .ref (Ma 14), .ref (Ma 15), .ref (Ma 16), .long (Mj 0), .ref (Ma 17), .ref (Ma 18), .ref (Ma 19), .ref (Ma 20)])), ((Ma 10), .inl (tc 0, 126, .inl (Mf 10)))] := hD₀
        replace hS := hS₀
        clear hP₀ hD₀ hS₀
        have yl_he_20_1 : (1 : Int64).toInt = 1 := by decide
        have yl_he_20_30 : (30 : Int64).toInt = 30 := by decide
        simp only [i32_64] at he_20
        refine lv_if_eq (tgt := 46) hx hb dX12_rests_30 (by decide) (fun c_22 => ?_) (fun c_22 => ?_)
        · skip
          refine lv_iconst (v := (-1)) hx hb dX12_rests_46 (by decide) ?_
          exact retI (v := (-1)) hx hb hr hlk (rfl) hP hD hS ((Mv 10), (Mg 8), (Mg 9), (Mf 10), (Mf 12), (Mf 13)) ⟨_, rfl, trivial, h_said⟩ [7, 0, 1, 2, 3, 4, 8, 5, 6] rfl rfl dX12_rests_47 (Nat.le_of_ble_eq_true rfl) (Nat.le_of_ble_eq_true rfl) rfl
        · skip
          refine lv_iload hx hb dX12_rests_33 (lv_at hl 4 rfl) ?_
          refine lv_i2l (v := (x4).toInt64) hx hb dX12_rests_35 rfl ?_
          refine lv_lconst (v := 0) hx hb dX12_rests_36 (by decide) ?_
          refine lv_ldc2 hx hb hown (hts _ k_1501) dX12_rests_37 ?_
          refine cS (As := [.long (x4).toInt64, .long 0, .long 2]) (rest := []) (wr := [((Ma 2), .inl (tc 0, 2400, .inl (Mf 2))), ((Ma 4), .inl (tc 0, 288, .inl (Mf 4))), ((Ma 5), .inl (tc 0, 6, .inl (Mf 5))), ((Ma 8), .inl (tc 1, 64, .inr (.inl (Mg 8)))), ((Ma 9), .inl (tc 1, 13, .inr (.inl (Mg 9)))), ((Ma 12), .inl (tc 0, 46, .inl (Mf 12))), ((Ma 13), .inl (tc 0, 50, .inl (Mf 13))), ((Ma 0), .inr (12, [.ref (Ma 1), .int (Mv 0), .int (Mv 1), .ref (Ma 2), .ref (Ma 3), .ref (Ma 4), .ref (Ma 5), .ref (Ma 6), .int (Mv 2), .int (Mv 3), .int (Mv 4), .int (Mv 5), .int (Mv 6), .int (Mv 7), .int (Mv 8), .ref (Ma 7), .int (Mv 9), .ref (Ma 8), .int (Mv 10), .ref (Ma 9), .ref (Ma 10), .int (Mv 11), .int (Mv 12), .int (Mv 13), .ref (Ma 11), .int (Mv 14), .ref (Ma 12), .ref (Ma 13), .ref (Ma 14), .ref (Ma 15), .ref (Ma 16), .long (Mj 0), .ref (Ma 17), .ref (Ma 18), .ref (Ma 19), .ref (Ma 20)])), ((Ma 10), .inl (tc 0, 126, .inl (Mf 10)))]) ⟨hx, hb, hml, hown, hts⟩ hK hX hA (ct_X12_in2 l D tc sk ((x4).toInt64) 0 2) k_1259 k_1257 k_1258 k_106 pl_X12_in ⟨Nat.le_of_ble_eq_true rfl, Nat.le_of_ble_eq_true rfl⟩ rfl rfl  hP hD hS [] [0, 1, 2, 3, 4, 5, 6, 7, 8] rfl rfl rfl rfl rfl (by decide) rfl hl.1 rfl (Nat.le_of_ble_eq_true rfl) dX12_rests_40 ⟨Nat.le_of_ble_eq_true rfl, Nat.le_of_ble_eq_true rfl⟩ (fun v_23 u_24 H locs hv_25 hP₀ hD₀ hS₀ => ?_)
          obtain ⟨r_26, rfl, he_27⟩ := hv_25
          have he_27 : ((r_26.toInt = 0 ∧ ((x4).toInt64.toInt < (0 : Int64).toInt ∨ (2 : Int64).toInt < (x4).toInt64.toInt)) ∨ (r_26.toInt = 1 ∧ (0 : Int64).toInt ≤ (x4).toInt64.toInt ∧ (x4).toInt64.toInt ≤ (2 : Int64).toInt)) := he_27
          refine W.eq (g2 := F0 m 43 ls [.int r_26]) rfl ?_
          replace hP : va_P D classes [((Ma 2), .inl (tc 0, 2400, .inl (Mf 2))), ((Ma 4), .inl (tc 0, 288, .inl (Mf 4))), ((Ma 5), .inl (tc 0, 6, .inl (Mf 5))), ((Ma 8), .inl (tc 1, 64, .inr (.inl (Mg 8)))), ((Ma 9), .inl (tc 1, 13, .inr (.inl (Mg 9)))), ((Ma 12), .inl (tc 0, 46, .inl (Mf 12))), ((Ma 13), .inl (tc 0, 50, .inl (Mf 13))), ((Ma 0), .inr (12, [.ref (Ma 1), .int (Mv 0), .int (Mv 1), .ref (Ma 2), .ref (Ma 3), .ref (Ma 4), .ref (Ma 5), .ref (Ma 6), .int (Mv 2), .int (Mv 3), .int (Mv 4), .int (Mv 5), .int (Mv 6), .int (Mv 7), .int (Mv 8), .ref (Ma 7), .int (Mv 9), .ref (Ma 8), .int (Mv 10), .ref (Ma 9), .ref (Ma 10), .int (Mv 11), .int (Mv 12), .int (Mv 13), .ref (Ma 11), .int (Mv 14), .ref (Ma 12), .ref (Ma 13), .ref (Ma 14), .ref (Ma 15), .ref (Ma 16), .long (Mj 0), .ref (Ma 17), .ref (Ma 18), .ref (Ma 19), .ref (Ma 20)])), ((Ma 10), .inl (tc 0, 126, .inl (Mf 10)))] H := hP₀
          replace hD : va_D A [((Ma 2), .inl (tc 0, 2400, .inl (Mf 2))), ((Ma 4), .inl (tc 0, 288, .inl (Mf 4))), ((Ma 5), .inl (tc 0, 6, .inl (Mf 5))), ((Ma 8), .inl (tc 1, 64, .inr (.inl (Mg 8)))), ((Ma 9), .inl (tc 1, 13, .inr (.inl (Mg 9)))), ((Ma 12), .inl (tc 0, 46, .inl (Mf 12))), ((Ma 13), .inl (tc 0, 50, .inl (Mf 13))), ((Ma 0), .inr (12, [.ref (Ma 1), .int (Mv 0), .int (Mv 1), .ref (Ma 2), .ref (Ma 3), .ref (Ma 4), .ref (Ma 5), .ref (Ma 6), .int (Mv 2), .int (Mv 3), .int (Mv 4), .int (Mv 5), .int (Mv 6), .int (Mv 7), .int (Mv 8), .ref (Ma 7), .int (Mv 9), .ref (Ma 8), .int (Mv 10), .ref (Ma 9), .ref (Ma 10), .int (Mv 11), .int (Mv 12), .int (Mv 13), .ref (Ma 11), .int (Mv 14), .ref (Ma 12), .ref (Ma 13), .ref (Ma 14), .ref (Ma 15), .ref (Ma 16), .long (Mj 0), .ref (Ma 17), .ref (Ma 18), .ref (Ma 19), .ref (Ma 20)])), ((Ma 10), .inl (tc 0, 126, .inl (Mf 10)))] := hD₀
          replace hS := hS₀
          clear hP₀ hD₀ hS₀
          have yl_he_27_0 : (0 : Int64).toInt = 0 := by decide
          have yl_he_27_2 : (2 : Int64).toInt = 2 := by decide
          simp only [i32_64] at he_27
          refine lv_if_ne (tgt := 48) hx hb dX12_rests_43 (by decide) (fun c_29 => ?_) (fun c_29 => ?_)
          · skip
            obtain ⟨Tw, eTw⟩ : ∃ z, z = wkT T (56 + x1.toInt.toNat) (56 + x2.toInt.toNat) := ⟨_, rfl⟩
            have h_saidw : SaidD Tw (Mf 10) 999 := by rw [eTw]; exact SaidD.wk h_said
            refine lv_aload_n hx hb dX12_rests_48 rfl (lv_at hl 0 rfl) ?_
            refine gf_X12_39 hx hb hts hown hK hP 7 rfl rfl dX12_rests_49 ?_
            refine lv_bipush (v := 56) hx hb dX12_rests_52 (by decide) ?_
            refine lv_iload_n hx hb dX12_rests_54 rfl (lv_at hl 1 rfl) ?_
            refine lv_iadd hx hb dX12_rests_55 ?_
            refine lv_topi (fun x_30 ex_30 => ?_)
            have hi_31 : vp_in x_30 126 := by
              have z_1 : ¬ (r_4 : Int32).toInt = (0 : Int32).toInt := fun z => c_7 (Int32.toInt_inj.mp z)
              have z_2 : ¬ (r_11 : Int32).toInt = (0 : Int32).toInt := fun z => c_14 (Int32.toInt_inj.mp z)
              have z_3 : ¬ (x1 : Int32).toInt = (x2 : Int32).toInt := fun z => c_15 (Int32.toInt_inj.mp z)
              have z_4 : ¬ (r_19 : Int32).toInt = (0 : Int32).toInt := fun z => c_22 (Int32.toInt_inj.mp z)
              have z_5 : ¬ (r_26 : Int32).toInt = (0 : Int32).toInt := fun z => c_29 (Int32.toInt_inj.mp z)
              have y_0 : (0 : Int32).toInt = 0 := by decide
              have y_56 : (56 : Int32).toInt = 56 := by decide
              have t_x_30 : x_30.toInt = (56 : Int32).toInt + (x1 : Int32).toInt := by rw [ex_30]; exact add_toInt (by omega) (by omega)
              refine vp_in_iff.mpr ⟨?_, ?_⟩ <;> omega
            refine va_iald hx hb hK hP 8 0 rfl rfl hi_31 dX12_rests_56 ?_
            refine lv_topi (fun x_32 ex_32 => ?_)
            refine lv_istore (lv' := [(5, .int x_32), (0, .ref (Ma 0)), (1, .int x1), (2, .int x2), (3, .int x3), (4, .int x4)]) hx hb dX12_rests_57 hl (by decide) rfl (fun ls hl₀ => ?_)
            replace hl := hl₀
            clear hl₀
            refine lv_aload_n hx hb dX12_rests_59 rfl (lv_at hl 1 rfl) ?_
            refine gf_X12_39 hx hb hts hown hK hP 7 rfl rfl dX12_rests_60 ?_
            refine lv_bipush (v := 56) hx hb dX12_rests_63 (by decide) ?_
            refine lv_iload_n hx hb dX12_rests_65 rfl (lv_at hl 3 rfl) ?_
            refine lv_iadd hx hb dX12_rests_66 ?_
            refine lv_topi (fun x_33 ex_33 => ?_)
            have hi_34 : vp_in x_33 126 := by
              have z_1 : ¬ (r_4 : Int32).toInt = (0 : Int32).toInt := fun z => c_7 (Int32.toInt_inj.mp z)
              have z_2 : ¬ (r_11 : Int32).toInt = (0 : Int32).toInt := fun z => c_14 (Int32.toInt_inj.mp z)
              have z_3 : ¬ (x1 : Int32).toInt = (x2 : Int32).toInt := fun z => c_15 (Int32.toInt_inj.mp z)
              have z_4 : ¬ (r_19 : Int32).toInt = (0 : Int32).toInt := fun z => c_22 (Int32.toInt_inj.mp z)
              have z_5 : ¬ (r_26 : Int32).toInt = (0 : Int32).toInt := fun z => c_29 (Int32.toInt_inj.mp z)
              have y_0 : (0 : Int32).toInt = 0 := by decide
              have y_56 : (56 : Int32).toInt = 56 := by decide
              have t_x_33 : x_33.toInt = (56 : Int32).toInt + (x2 : Int32).toInt := by rw [ex_33]; exact add_toInt (by omega) (by omega)
              refine vp_in_iff.mpr ⟨?_, ?_⟩ <;> omega
            refine va_iald hx hb hK hP 8 0 rfl rfl hi_34 dX12_rests_67 ?_
            refine lv_topi (fun x_35 ex_35 => ?_)
            refine lv_istore (lv' := [(6, .int x_35), (5, .int x_32), (0, .ref (Ma 0)), (1, .int x1), (2, .int x2), (3, .int x3), (4, .int x4)]) hx hb dX12_rests_68 hl (by decide) rfl (fun ls hl₀ => ?_)
            replace hl := hl₀
            clear hl₀
            refine lv_aload_n hx hb dX12_rests_70 rfl (lv_at hl 2 rfl) ?_
            refine lv_iload_n hx hb dX12_rests_71 rfl (lv_at hl 3 rfl) ?_
            have ha_36 : 0 ≤ x1.toInt ∧ x1.toInt < 6 := by
              have z_1 : ¬ (r_4 : Int32).toInt = (0 : Int32).toInt := fun z => c_7 (Int32.toInt_inj.mp z)
              have z_2 : ¬ (r_11 : Int32).toInt = (0 : Int32).toInt := fun z => c_14 (Int32.toInt_inj.mp z)
              have z_3 : ¬ (x1 : Int32).toInt = (x2 : Int32).toInt := fun z => c_15 (Int32.toInt_inj.mp z)
              have z_4 : ¬ (r_19 : Int32).toInt = (0 : Int32).toInt := fun z => c_22 (Int32.toInt_inj.mp z)
              have z_5 : ¬ (r_26 : Int32).toInt = (0 : Int32).toInt := fun z => c_29 (Int32.toInt_inj.mp z)
              have y_0 : (0 : Int32).toInt = 0 := by decide
              refine ⟨?_, ?_⟩ <;> omega
            refine cV (a := (Ma 0)) (As := [.int x1]) (rest := []) (wr := [((Ma 2), .inl (tc 0, 2400, .inl (Mf 2))), ((Ma 4), .inl (tc 0, 288, .inl (Mf 4))), ((Ma 5), .inl (tc 0, 6, .inl (Mf 5))), ((Ma 8), .inl (tc 1, 64, .inr (.inl (Mg 8)))), ((Ma 9), .inl (tc 1, 13, .inr (.inl (Mg 9)))), ((Ma 12), .inl (tc 0, 46, .inl (Mf 12))), ((Ma 13), .inl (tc 0, 50, .inl (Mf 13)))]) ⟨hx, hb, hml, hown, hts⟩ hK hX hA (cu_X12_valueOf l D tc sk (Ma 0) (Ma 1) (Ma 2) (Ma 3) (Ma 4) (Ma 5) (Ma 6) (Ma 7) (Ma 8) (Ma 9) (Ma 10) (Ma 11) (Ma 12) (Ma 13) (Ma 14) (Ma 15) (Ma 16) (Ma 17) (Ma 18) (Ma 19) (Ma 20) (Mv 0) (Mv 1) (Mv 2) (Mv 3) (Mv 4) (Mv 5) (Mv 6) (Mv 7) (Mv 8) (Mv 9) (Mv 10) (Mv 11) (Mv 12) (Mv 13) (Mv 14) (Mf 10) (Mj 0) x1 ha_36) k_1578 k_1575 k_1577 k_86 k_106 pl_X12_valueOf ⟨Nat.le_of_ble_eq_true rfl, Nat.le_of_ble_eq_true rfl⟩ rfl rfl (va_recv hK hP (ci := 12) (q0 := 7) rfl rfl) hP hD hS [7, 8] [0, 1, 2, 3, 4, 5, 6] rfl rfl rfl rfl rfl (by decide) rfl hl.1 rfl (Nat.le_of_ble_eq_true rfl) dX12_rests_72 ⟨Nat.le_of_ble_eq_true rfl, Nat.le_of_ble_eq_true rfl⟩ (fun v_37 u_38 H locs hv_39 hP₀ hD₀ hS₀ => ?_)
            obtain ⟨r_40, rfl, he_41⟩ := hv_39
            refine W.eq (g2 := F0 m 75 ls [.int r_40]) rfl ?_
            replace hP : va_P D classes [((Ma 2), .inl (tc 0, 2400, .inl (Mf 2))), ((Ma 4), .inl (tc 0, 288, .inl (Mf 4))), ((Ma 5), .inl (tc 0, 6, .inl (Mf 5))), ((Ma 8), .inl (tc 1, 64, .inr (.inl (Mg 8)))), ((Ma 9), .inl (tc 1, 13, .inr (.inl (Mg 9)))), ((Ma 12), .inl (tc 0, 46, .inl (Mf 12))), ((Ma 13), .inl (tc 0, 50, .inl (Mf 13))), ((Ma 0), .inr (12, [.ref (Ma 1), .int (Mv 0), .int (Mv 1), .ref (Ma 2), .ref (Ma 3), .ref (Ma 4), .ref (Ma 5), .ref (Ma 6), .int (Mv 2), .int (Mv 3), .int (Mv 4), .int (Mv 5), .int (Mv 6), .int (Mv 7), .int (Mv 8), .ref (Ma 7), .int (Mv 9), .ref (Ma 8), .int (Mv 10), .ref (Ma 9), .ref (Ma 10), .int (Mv 11), .int (Mv 12), .int (Mv 13), .ref (Ma 11), .int (Mv 14), .ref (Ma 12), .ref (Ma 13), .ref (Ma 14), .ref (Ma 15), .ref (Ma 16), .long (Mj 0), .ref (Ma 17), .ref (Ma 18), .ref (Ma 19), .ref (Ma 20)])), ((Ma 10), .inl (tc 0, 126, .inl (Mf 10)))] H := hP₀
            replace hD : va_D A [((Ma 2), .inl (tc 0, 2400, .inl (Mf 2))), ((Ma 4), .inl (tc 0, 288, .inl (Mf 4))), ((Ma 5), .inl (tc 0, 6, .inl (Mf 5))), ((Ma 8), .inl (tc 1, 64, .inr (.inl (Mg 8)))), ((Ma 9), .inl (tc 1, 13, .inr (.inl (Mg 9)))), ((Ma 12), .inl (tc 0, 46, .inl (Mf 12))), ((Ma 13), .inl (tc 0, 50, .inl (Mf 13))), ((Ma 0), .inr (12, [.ref (Ma 1), .int (Mv 0), .int (Mv 1), .ref (Ma 2), .ref (Ma 3), .ref (Ma 4), .ref (Ma 5), .ref (Ma 6), .int (Mv 2), .int (Mv 3), .int (Mv 4), .int (Mv 5), .int (Mv 6), .int (Mv 7), .int (Mv 8), .ref (Ma 7), .int (Mv 9), .ref (Ma 8), .int (Mv 10), .ref (Ma 9), .ref (Ma 10), .int (Mv 11), .int (Mv 12), .int (Mv 13), .ref (Ma 11), .int (Mv 14), .ref (Ma 12), .ref (Ma 13), .ref (Ma 14), .ref (Ma 15), .ref (Ma 16), .long (Mj 0), .ref (Ma 17), .ref (Ma 18), .ref (Ma 19), .ref (Ma 20)])), ((Ma 10), .inl (tc 0, 126, .inl (Mf 10)))] := hD₀
            replace hS := hS₀
            clear hP₀ hD₀ hS₀
            refine lv_istore (lv' := [(7, .int r_40), (6, .int x_35), (5, .int x_32), (0, .ref (Ma 0)), (1, .int x1), (2, .int x2), (3, .int x3), (4, .int x4)]) hx hb dX12_rests_75 hl (by decide) rfl (fun ls hl₀ => ?_)
            replace hl := hl₀
            clear hl₀
            refine lv_aload_n hx hb dX12_rests_77 rfl (lv_at hl 3 rfl) ?_
            refine lv_iload_n hx hb dX12_rests_78 rfl (lv_at hl 5 rfl) ?_
            have ha_43 : 0 ≤ x2.toInt ∧ x2.toInt < 6 := by
              have z_1 : ¬ (r_4 : Int32).toInt = (0 : Int32).toInt := fun z => c_7 (Int32.toInt_inj.mp z)
              have z_2 : ¬ (r_11 : Int32).toInt = (0 : Int32).toInt := fun z => c_14 (Int32.toInt_inj.mp z)
              have z_3 : ¬ (x1 : Int32).toInt = (x2 : Int32).toInt := fun z => c_15 (Int32.toInt_inj.mp z)
              have z_4 : ¬ (r_19 : Int32).toInt = (0 : Int32).toInt := fun z => c_22 (Int32.toInt_inj.mp z)
              have z_5 : ¬ (r_26 : Int32).toInt = (0 : Int32).toInt := fun z => c_29 (Int32.toInt_inj.mp z)
              have y_0 : (0 : Int32).toInt = 0 := by decide
              refine ⟨?_, ?_⟩ <;> omega
            refine cV (a := (Ma 0)) (As := [.int x2]) (rest := []) (wr := [((Ma 2), .inl (tc 0, 2400, .inl (Mf 2))), ((Ma 4), .inl (tc 0, 288, .inl (Mf 4))), ((Ma 5), .inl (tc 0, 6, .inl (Mf 5))), ((Ma 8), .inl (tc 1, 64, .inr (.inl (Mg 8)))), ((Ma 9), .inl (tc 1, 13, .inr (.inl (Mg 9)))), ((Ma 12), .inl (tc 0, 46, .inl (Mf 12))), ((Ma 13), .inl (tc 0, 50, .inl (Mf 13)))]) ⟨hx, hb, hml, hown, hts⟩ hK hX hA (cu_X12_valueOf l D tc sk (Ma 0) (Ma 1) (Ma 2) (Ma 3) (Ma 4) (Ma 5) (Ma 6) (Ma 7) (Ma 8) (Ma 9) (Ma 10) (Ma 11) (Ma 12) (Ma 13) (Ma 14) (Ma 15) (Ma 16) (Ma 17) (Ma 18) (Ma 19) (Ma 20) (Mv 0) (Mv 1) (Mv 2) (Mv 3) (Mv 4) (Mv 5) (Mv 6) (Mv 7) (Mv 8) (Mv 9) (Mv 10) (Mv 11) (Mv 12) (Mv 13) (Mv 14) (Mf 10) (Mj 0) x2 ha_43) k_1578 k_1575 k_1577 k_86 k_106 pl_X12_valueOf ⟨Nat.le_of_ble_eq_true rfl, Nat.le_of_ble_eq_true rfl⟩ rfl rfl (va_recv hK hP (ci := 12) (q0 := 7) rfl rfl) hP hD hS [7, 8] [0, 1, 2, 3, 4, 5, 6] rfl rfl rfl rfl rfl (by decide) rfl hl.1 rfl (Nat.le_of_ble_eq_true rfl) dX12_rests_79 ⟨Nat.le_of_ble_eq_true rfl, Nat.le_of_ble_eq_true rfl⟩ (fun v_44 u_45 H locs hv_46 hP₀ hD₀ hS₀ => ?_)
            obtain ⟨r_47, rfl, he_48⟩ := hv_46
            refine W.eq (g2 := F0 m 82 ls [.int r_47]) rfl ?_
            replace hP : va_P D classes [((Ma 2), .inl (tc 0, 2400, .inl (Mf 2))), ((Ma 4), .inl (tc 0, 288, .inl (Mf 4))), ((Ma 5), .inl (tc 0, 6, .inl (Mf 5))), ((Ma 8), .inl (tc 1, 64, .inr (.inl (Mg 8)))), ((Ma 9), .inl (tc 1, 13, .inr (.inl (Mg 9)))), ((Ma 12), .inl (tc 0, 46, .inl (Mf 12))), ((Ma 13), .inl (tc 0, 50, .inl (Mf 13))), ((Ma 0), .inr (12, [.ref (Ma 1), .int (Mv 0), .int (Mv 1), .ref (Ma 2), .ref (Ma 3), .ref (Ma 4), .ref (Ma 5), .ref (Ma 6), .int (Mv 2), .int (Mv 3), .int (Mv 4), .int (Mv 5), .int (Mv 6), .int (Mv 7), .int (Mv 8), .ref (Ma 7), .int (Mv 9), .ref (Ma 8), .int (Mv 10), .ref (Ma 9), .ref (Ma 10), .int (Mv 11), .int (Mv 12), .int (Mv 13), .ref (Ma 11), .int (Mv 14), .ref (Ma 12), .ref (Ma 13), .ref (Ma 14), .ref (Ma 15), .ref (Ma 16), .long (Mj 0), .ref (Ma 17), .ref (Ma 18), .ref (Ma 19), .ref (Ma 20)])), ((Ma 10), .inl (tc 0, 126, .inl (Mf 10)))] H := hP₀
            replace hD : va_D A [((Ma 2), .inl (tc 0, 2400, .inl (Mf 2))), ((Ma 4), .inl (tc 0, 288, .inl (Mf 4))), ((Ma 5), .inl (tc 0, 6, .inl (Mf 5))), ((Ma 8), .inl (tc 1, 64, .inr (.inl (Mg 8)))), ((Ma 9), .inl (tc 1, 13, .inr (.inl (Mg 9)))), ((Ma 12), .inl (tc 0, 46, .inl (Mf 12))), ((Ma 13), .inl (tc 0, 50, .inl (Mf 13))), ((Ma 0), .inr (12, [.ref (Ma 1), .int (Mv 0), .int (Mv 1), .ref (Ma 2), .ref (Ma 3), .ref (Ma 4), .ref (Ma 5), .ref (Ma 6), .int (Mv 2), .int (Mv 3), .int (Mv 4), .int (Mv 5), .int (Mv 6), .int (Mv 7), .int (Mv 8), .ref (Ma 7), .int (Mv 9), .ref (Ma 8), .int (Mv 10), .ref (Ma 9), .ref (Ma 10), .int (Mv 11), .int (Mv 12), .int (Mv 13), .ref (Ma 11), .int (Mv 14), .ref (Ma 12), .ref (Ma 13), .ref (Ma 14), .ref (Ma 15), .ref (Ma 16), .long (Mj 0), .ref (Ma 17), .ref (Ma 18), .ref (Ma 19), .ref (Ma 20)])), ((Ma 10), .inl (tc 0, 126, .inl (Mf 10)))] := hD₀
            replace hS := hS₀
            clear hP₀ hD₀ hS₀
            refine lv_istore (lv' := [(8, .int r_47), (7, .int r_40), (6, .int x_35), (5, .int x_32), (0, .ref (Ma 0)), (1, .int x1), (2, .int x2), (3, .int x3), (4, .int x4)]) hx hb dX12_rests_82 hl (by decide) rfl (fun ls hl₀ => ?_)
            replace hl := hl₀
            clear hl₀
            refine lv_aload_n hx hb dX12_rests_84 rfl (lv_at hl 4 rfl) ?_
            refine cV (a := (Ma 0)) (As := []) (rest := []) (wr := [((Ma 2), .inl (tc 0, 2400, .inl (Mf 2))), ((Ma 4), .inl (tc 0, 288, .inl (Mf 4))), ((Ma 5), .inl (tc 0, 6, .inl (Mf 5))), ((Ma 8), .inl (tc 1, 64, .inr (.inl (Mg 8)))), ((Ma 9), .inl (tc 1, 13, .inr (.inl (Mg 9)))), ((Ma 13), .inl (tc 0, 50, .inl (Mf 13)))]) ⟨hx, hb, hml, hown, hts⟩ hK hX hA (cu_X12_keeps l D tc sk (Ma 0) (Ma 1) (Ma 2) (Ma 3) (Ma 4) (Ma 5) (Ma 6) (Ma 7) (Ma 8) (Ma 9) (Ma 10) (Ma 11) (Ma 12) (Ma 13) (Ma 14) (Ma 15) (Ma 16) (Ma 17) (Ma 18) (Ma 19) (Ma 20) (Mv 0) (Mv 1) (Mv 2) (Mv 3) (Mv 4) (Mv 5) (Mv 6) (Mv 7) (Mv 8) (Mv 9) (Mv 10) (Mv 11) (Mv 12) (Mv 13) (Mv 14) (Mf 10) (Mf 12) (Mj 0) h_saidw) k_1505 k_1502 k_1504 k_80 k_106 pl_X12_keeps ⟨Nat.le_of_ble_eq_true rfl, Nat.le_of_ble_eq_true rfl⟩ rfl rfl (va_recv hK hP (ci := 12) (q0 := 7) rfl rfl) hP hD hS [7, 8, 5] [0, 1, 2, 3, 4, 6] rfl rfl rfl rfl rfl (by decide) rfl hl.1 rfl (Nat.le_of_ble_eq_true rfl) dX12_rests_85 ⟨Nat.le_of_ble_eq_true rfl, Nat.le_of_ble_eq_true rfl⟩ (fun v_50 u_51 H locs hv_52 hP₀ hD₀ hS₀ => ?_)
            obtain ⟨sv_53, rfl⟩ : ∃ z, z = u_51 := ⟨_, rfl⟩
            obtain ⟨rfl, pf_54⟩ := hv_52
            have pf_54 : KeptD sv_53 := pf_54
            refine W.eq (g2 := F0 m 88 ls []) rfl ?_
            replace hP : va_P D classes [((Ma 2), .inl (tc 0, 2400, .inl (Mf 2))), ((Ma 4), .inl (tc 0, 288, .inl (Mf 4))), ((Ma 5), .inl (tc 0, 6, .inl (Mf 5))), ((Ma 8), .inl (tc 1, 64, .inr (.inl (Mg 8)))), ((Ma 9), .inl (tc 1, 13, .inr (.inl (Mg 9)))), ((Ma 13), .inl (tc 0, 50, .inl (Mf 13))), ((Ma 0), .inr (12, [.ref (Ma 1), .int (Mv 0), .int (Mv 1), .ref (Ma 2), .ref (Ma 3), .ref (Ma 4), .ref (Ma 5), .ref (Ma 6), .int (Mv 2), .int (Mv 3), .int (Mv 4), .int (Mv 5), .int (Mv 6), .int (Mv 7), .int (Mv 8), .ref (Ma 7), .int (Mv 9), .ref (Ma 8), .int (Mv 10), .ref (Ma 9), .ref (Ma 10), .int (Mv 11), .int (Mv 12), .int (Mv 13), .ref (Ma 11), .int (Mv 14), .ref (Ma 12), .ref (Ma 13), .ref (Ma 14), .ref (Ma 15), .ref (Ma 16), .long (Mj 0), .ref (Ma 17), .ref (Ma 18), .ref (Ma 19), .ref (Ma 20)])), ((Ma 10), .inl (tc 0, 126, .inl (Mf 10))), ((Ma 12), .inl (tc 0, 46, .inl sv_53))] H := hP₀
            replace hD : va_D A [((Ma 2), .inl (tc 0, 2400, .inl (Mf 2))), ((Ma 4), .inl (tc 0, 288, .inl (Mf 4))), ((Ma 5), .inl (tc 0, 6, .inl (Mf 5))), ((Ma 8), .inl (tc 1, 64, .inr (.inl (Mg 8)))), ((Ma 9), .inl (tc 1, 13, .inr (.inl (Mg 9)))), ((Ma 13), .inl (tc 0, 50, .inl (Mf 13))), ((Ma 0), .inr (12, [.ref (Ma 1), .int (Mv 0), .int (Mv 1), .ref (Ma 2), .ref (Ma 3), .ref (Ma 4), .ref (Ma 5), .ref (Ma 6), .int (Mv 2), .int (Mv 3), .int (Mv 4), .int (Mv 5), .int (Mv 6), .int (Mv 7), .int (Mv 8), .ref (Ma 7), .int (Mv 9), .ref (Ma 8), .int (Mv 10), .ref (Ma 9), .ref (Ma 10), .int (Mv 11), .int (Mv 12), .int (Mv 13), .ref (Ma 11), .int (Mv 14), .ref (Ma 12), .ref (Ma 13), .ref (Ma 14), .ref (Ma 15), .ref (Ma 16), .long (Mj 0), .ref (Ma 17), .ref (Ma 18), .ref (Ma 19), .ref (Ma 20)])), ((Ma 10), .inl (tc 0, 126, .inl (Mf 10))), ((Ma 12), .inl (tc 0, 46, .inl sv_53))] := hD₀
            replace hS := hS₀
            clear hP₀ hD₀ hS₀
            refine lv_iconst (v := 0) hx hb dX12_rests_88 (by decide) ?_
            refine lv_istore (lv' := [(9, .int 0), (8, .int r_47), (7, .int r_40), (6, .int x_35), (5, .int x_32), (0, .ref (Ma 0)), (1, .int x1), (2, .int x2), (3, .int x3), (4, .int x4)]) hx hb dX12_rests_89 hl (by decide) rfl (fun ls hl₀ => ?_)
            replace hl := hl₀
            clear hl₀
            have loop_69 : ∀ (n_67 : Nat) (vy_61 : Int32) (vy_62 : Nat → Int64) (vy_63 : Nat → Int64) (vy_64 : Nat → Int32) (vy_65 : Int32) (vy_66 : Nat → Int32) (H : Heap) (locs : List Loc) (ls : Array Slot), (25 - (vy_61 : Int32).toInt).toNat < n_67 → (0 ≤ (vy_61 : Int32).toInt) → (SaidD Tw vy_66 999) → va_P D classes [((Ma 2), .inl (tc 0, 2400, .inl (Mf 2))), ((Ma 4), .inl (tc 0, 288, .inl (Mf 4))), ((Ma 5), .inl (tc 0, 6, .inl (Mf 5))), ((Ma 8), .inl (tc 1, 64, .inr (.inl vy_62))), ((Ma 9), .inl (tc 1, 13, .inr (.inl vy_63))), ((Ma 13), .inl (tc 0, 50, .inl vy_64)), ((Ma 0), .inr (12, [.ref (Ma 1), .int (Mv 0), .int (Mv 1), .ref (Ma 2), .ref (Ma 3), .ref (Ma 4), .ref (Ma 5), .ref (Ma 6), .int (Mv 2), .int (Mv 3), .int (Mv 4), .int (Mv 5), .int (Mv 6), .int (Mv 7), .int (Mv 8), .ref (Ma 7), .int (Mv 9), .ref (Ma 8), .int vy_65, .ref (Ma 9), .ref (Ma 10), .int (Mv 11), .int (Mv 12), .int (Mv 13), .ref (Ma 11), .int (Mv 14), .ref (Ma 12), .ref (Ma 13), .ref (Ma 14), .ref (Ma 15), .ref (Ma 16), .long (Mj 0), .ref (Ma 17), .ref (Ma 18), .ref (Ma 19), .ref (Ma 20)])), ((Ma 10), .inl (tc 0, 126, .inl vy_66)), ((Ma 12), .inl (tc 0, 46, .inl sv_53))] H → va_D A [((Ma 2), .inl (tc 0, 2400, .inl (Mf 2))), ((Ma 4), .inl (tc 0, 288, .inl (Mf 4))), ((Ma 5), .inl (tc 0, 6, .inl (Mf 5))), ((Ma 8), .inl (tc 1, 64, .inr (.inl vy_62))), ((Ma 9), .inl (tc 1, 13, .inr (.inl vy_63))), ((Ma 13), .inl (tc 0, 50, .inl vy_64)), ((Ma 0), .inr (12, [.ref (Ma 1), .int (Mv 0), .int (Mv 1), .ref (Ma 2), .ref (Ma 3), .ref (Ma 4), .ref (Ma 5), .ref (Ma 6), .int (Mv 2), .int (Mv 3), .int (Mv 4), .int (Mv 5), .int (Mv 6), .int (Mv 7), .int (Mv 8), .ref (Ma 7), .int (Mv 9), .ref (Ma 8), .int vy_65, .ref (Ma 9), .ref (Ma 10), .int (Mv 11), .int (Mv 12), .int (Mv 13), .ref (Ma 11), .int (Mv 14), .ref (Ma 12), .ref (Ma 13), .ref (Ma 14), .ref (Ma 15), .ref (Ma 16), .long (Mj 0), .ref (Ma 17), .ref (Ma 18), .ref (Ma 19), .ref (Ma 20)])), ((Ma 10), .inl (tc 0, 126, .inl vy_66)), ((Ma 12), .inl (tc 0, 46, .inl sv_53))] → va_S A s.heap H locs → lv_has ls 12 [(9, .int vy_61), (8, .int r_47), (7, .int r_40), (6, .int x_35), (5, .int x_32), (0, .ref (Ma 0)), (1, .int x1), (2, .int x2), (3, .int x3), (4, .int x4)] → W p l e ({ frames := 6, cells := 0, slots := 0, locals := 143 }) s m ([.ref (Ma 0), .int x1, .int x2, .int x3, .int x4].toArray) below meth c H locs 0 0 (MQ below (QW (fun (v : Option Value) (u : (Int32) × (Nat → Int64) × (Nat → Int64) × (Nat → Int32) × (Nat → Int32) × (Nat → Int32)) => match u with | (oo0x1, oo0x2, oo0x3, oo0x4, oo0x5, oo0x6) => ∃ r : Int32, v = some (.int r) ∧ (True) ∧ (SaidD T oo0x4 999)) (BW D (fun (u : (Int32) × (Nat → Int64) × (Nat → Int64) × (Nat → Int32) × (Nat → Int32) × (Nat → Int32)) => match u with | (oo0x1, oo0x2, oo0x3, oo0x4, oo0x5, oo0x6) => [((Ma 0), .inr (12, [.ref (Ma 1), .int (Mv 0), .int (Mv 1), .ref (Ma 2), .ref (Ma 3), .ref (Ma 4), .ref (Ma 5), .ref (Ma 6), .int (Mv 2), .int (Mv 3), .int (Mv 4), .int (Mv 5), .int (Mv 6), .int (Mv 7), .int (Mv 8), .ref (Ma 7), .int (Mv 9), .ref (Ma 8), .int oo0x1, .ref (Ma 9), .ref (Ma 10), .int (Mv 11), .int (Mv 12), .int (Mv 13), .ref (Ma 11), .int (Mv 14), .ref (Ma 12), .ref (Ma 13), .ref (Ma 14), .ref (Ma 15), .ref (Ma 16), .long (Mj 0), .ref (Ma 17), .ref (Ma 18), .ref (Ma 19), .ref (Ma 20)])), ((Ma 2), .inl (tc 0, 2400, .inl (Mf 2))), ((Ma 4), .inl (tc 0, 288, .inl (Mf 4))), ((Ma 5), .inl (tc 0, 6, .inl (Mf 5))), ((Ma 8), .inl (tc 1, 64, .inr (.inl oo0x2))), ((Ma 9), .inl (tc 1, 13, .inr (.inl oo0x3))), ((Ma 10), .inl (tc 0, 126, .inl oo0x4)), ((Ma 12), .inl (tc 0, 46, .inl oo0x5)), ((Ma 13), .inl (tc 0, 50, .inl oo0x6))]) A) A) ([.ref (Ma 0), .int x1, .int x2, .int x3, .int x4].toArray) s 0 0 A) (F0 m 91 ls []) := by
              clear hP hD hS hl
              intro n_67
              induction n_67 with
              | zero =>
                intro vy_61 vy_62 vy_63 vy_64 vy_65 vy_66 H locs ls h1
                exact absurd h1 (Nat.not_lt_zero _)
              | succ n_67 ih_68 =>
                intro vy_61 vy_62 vy_63 vy_64 vy_65 vy_66 H locs ls hn_72 pf_70 pf_71 hP hD hS hl
                have ar_pf_71 := SaidD.al pf_71
                refine lv_iload hx hb dX12_rests_91 (lv_at hl 0 rfl) ?_
                refine lv_bipush (v := 25) hx hb dX12_rests_93 (by decide) ?_
                refine lv_icmp_ge (tgt := 183) hx hb dX12_rests_95 (by decide) (fun c_73 => ?_) (fun c_73 => ?_)
                · skip
                  refine lv_aload_n hx hb dX12_rests_183 rfl (lv_at hl 5 rfl) ?_
                  refine gf_X12_39 hx hb hts hown hK hP 6 rfl rfl dX12_rests_184 ?_
                  refine lv_bipush (v := 56) hx hb dX12_rests_187 (by decide) ?_
                  refine lv_iload_n hx hb dX12_rests_189 rfl (lv_at hl 6 rfl) ?_
                  refine lv_iadd hx hb dX12_rests_190 ?_
                  refine lv_topi (fun x_74 ex_74 => ?_)
                  refine lv_iload hx hb dX12_rests_191 (lv_at hl 4 rfl) ?_
                  have hi_75 : vp_in x_74 126 := by
                    have z_1 : ¬ (r_4 : Int32).toInt = (0 : Int32).toInt := fun z => c_7 (Int32.toInt_inj.mp z)
                    have z_2 : ¬ (r_11 : Int32).toInt = (0 : Int32).toInt := fun z => c_14 (Int32.toInt_inj.mp z)
                    have z_3 : ¬ (x1 : Int32).toInt = (x2 : Int32).toInt := fun z => c_15 (Int32.toInt_inj.mp z)
                    have z_4 : ¬ (r_19 : Int32).toInt = (0 : Int32).toInt := fun z => c_22 (Int32.toInt_inj.mp z)
                    have z_5 : ¬ (r_26 : Int32).toInt = (0 : Int32).toInt := fun z => c_29 (Int32.toInt_inj.mp z)
                    have z_6 := Int32.le_iff_toInt_le.mp c_73
                    have y_0 : (0 : Int32).toInt = 0 := by decide
                    have y_25 : (25 : Int32).toInt = 25 := by decide
                    have y_56 : (56 : Int32).toInt = 56 := by decide
                    have t_x_74 : x_74.toInt = (56 : Int32).toInt + (x1 : Int32).toInt := by rw [ex_74]; exact add_toInt (by omega) (by omega)
                    refine vp_in_iff.mpr ⟨?_, ?_⟩ <;> omega
                  refine st_int hx hb hK hP hD hS 7 0 rfl rfl hi_75 dX12_rests_193 (fun g_76 H locs eg_76 hP₀ hD₀ hS₀ => ?_)
                  replace hP : va_P D classes [((Ma 2), .inl (tc 0, 2400, .inl (Mf 2))), ((Ma 4), .inl (tc 0, 288, .inl (Mf 4))), ((Ma 5), .inl (tc 0, 6, .inl (Mf 5))), ((Ma 8), .inl (tc 1, 64, .inr (.inl vy_62))), ((Ma 9), .inl (tc 1, 13, .inr (.inl vy_63))), ((Ma 13), .inl (tc 0, 50, .inl vy_64)), ((Ma 0), .inr (12, [.ref (Ma 1), .int (Mv 0), .int (Mv 1), .ref (Ma 2), .ref (Ma 3), .ref (Ma 4), .ref (Ma 5), .ref (Ma 6), .int (Mv 2), .int (Mv 3), .int (Mv 4), .int (Mv 5), .int (Mv 6), .int (Mv 7), .int (Mv 8), .ref (Ma 7), .int (Mv 9), .ref (Ma 8), .int vy_65, .ref (Ma 9), .ref (Ma 10), .int (Mv 11), .int (Mv 12), .int (Mv 13), .ref (Ma 11), .int (Mv 14), .ref (Ma 12), .ref (Ma 13), .ref (Ma 14), .ref (Ma 15), .ref (Ma 16), .long (Mj 0), .ref (Ma 17), .ref (Ma 18), .ref (Ma 19), .ref (Ma 20)])), ((Ma 10), .inl (tc 0, 126, .inl g_76)), ((Ma 12), .inl (tc 0, 46, .inl sv_53))] H := hP₀
                  replace hD : va_D A [((Ma 2), .inl (tc 0, 2400, .inl (Mf 2))), ((Ma 4), .inl (tc 0, 288, .inl (Mf 4))), ((Ma 5), .inl (tc 0, 6, .inl (Mf 5))), ((Ma 8), .inl (tc 1, 64, .inr (.inl vy_62))), ((Ma 9), .inl (tc 1, 13, .inr (.inl vy_63))), ((Ma 13), .inl (tc 0, 50, .inl vy_64)), ((Ma 0), .inr (12, [.ref (Ma 1), .int (Mv 0), .int (Mv 1), .ref (Ma 2), .ref (Ma 3), .ref (Ma 4), .ref (Ma 5), .ref (Ma 6), .int (Mv 2), .int (Mv 3), .int (Mv 4), .int (Mv 5), .int (Mv 6), .int (Mv 7), .int (Mv 8), .ref (Ma 7), .int (Mv 9), .ref (Ma 8), .int vy_65, .ref (Ma 9), .ref (Ma 10), .int (Mv 11), .int (Mv 12), .int (Mv 13), .ref (Ma 11), .int (Mv 14), .ref (Ma 12), .ref (Ma 13), .ref (Ma 14), .ref (Ma 15), .ref (Ma 16), .long (Mj 0), .ref (Ma 17), .ref (Ma 18), .ref (Ma 19), .ref (Ma 20)])), ((Ma 10), .inl (tc 0, 126, .inl g_76)), ((Ma 12), .inl (tc 0, 46, .inl sv_53))] := hD₀
                  replace hS := hS₀
                  clear hP₀ hD₀ hS₀
                  have hj_78 : (x_74 : Int32).toNatClampNeg = (56 + x1.toInt.toNat) := by
                    show (x_74 : Int32).toInt.toNat = (56 + x1.toInt.toNat)
                    have z_1 : ¬ (r_4 : Int32).toInt = (0 : Int32).toInt := fun z => c_7 (Int32.toInt_inj.mp z)
                    have z_2 : ¬ (r_11 : Int32).toInt = (0 : Int32).toInt := fun z => c_14 (Int32.toInt_inj.mp z)
                    have z_3 : ¬ (x1 : Int32).toInt = (x2 : Int32).toInt := fun z => c_15 (Int32.toInt_inj.mp z)
                    have z_4 : ¬ (r_19 : Int32).toInt = (0 : Int32).toInt := fun z => c_22 (Int32.toInt_inj.mp z)
                    have z_5 : ¬ (r_26 : Int32).toInt = (0 : Int32).toInt := fun z => c_29 (Int32.toInt_inj.mp z)
                    have z_6 := Int32.le_iff_toInt_le.mp c_73
                    have y_0 : (0 : Int32).toInt = 0 := by decide
                    have y_25 : (25 : Int32).toInt = 25 := by decide
                    have y_56 : (56 : Int32).toInt = 56 := by decide
                    have t_x_74 : x_74.toInt = (56 : Int32).toInt + (x1 : Int32).toInt := by rw [ex_74]; exact add_toInt (by omega) (by omega)
                    omega
                  have hr_79 : 0 ≤ x1.toInt ∧ x1.toInt < 6 := by
                    have z_1 : ¬ (r_4 : Int32).toInt = (0 : Int32).toInt := fun z => c_7 (Int32.toInt_inj.mp z)
                    have z_2 : ¬ (r_11 : Int32).toInt = (0 : Int32).toInt := fun z => c_14 (Int32.toInt_inj.mp z)
                    have z_3 : ¬ (x1 : Int32).toInt = (x2 : Int32).toInt := fun z => c_15 (Int32.toInt_inj.mp z)
                    have z_4 : ¬ (r_19 : Int32).toInt = (0 : Int32).toInt := fun z => c_22 (Int32.toInt_inj.mp z)
                    have z_5 : ¬ (r_26 : Int32).toInt = (0 : Int32).toInt := fun z => c_29 (Int32.toInt_inj.mp z)
                    have z_6 := Int32.le_iff_toInt_le.mp c_73
                    have y_0 : (0 : Int32).toInt = 0 := by decide
                    have y_25 : (25 : Int32).toInt = 25 := by decide
                    refine ⟨?_, ?_⟩ <;> omega
                  have pf_77 : SaidD Tw g_76 999 := SaidD.keepN pf_71 eg_76 (by rw [hj_78]; omega) (by rw [eTw]; exact wkT_1 hj_78)
                  have ar_pf_77 := SaidD.al pf_77
                  refine lv_aload_n hx hb dX12_rests_194 rfl (lv_at hl 5 rfl) ?_
                  refine gf_X12_39 hx hb hts hown hK hP 6 rfl rfl dX12_rests_195 ?_
                  refine lv_bipush (v := 56) hx hb dX12_rests_198 (by decide) ?_
                  refine lv_iload_n hx hb dX12_rests_200 rfl (lv_at hl 7 rfl) ?_
                  refine lv_iadd hx hb dX12_rests_201 ?_
                  refine lv_topi (fun x_80 ex_80 => ?_)
                  refine lv_iload hx hb dX12_rests_202 (lv_at hl 3 rfl) ?_
                  have hi_81 : vp_in x_80 126 := by
                    have z_1 : ¬ (r_4 : Int32).toInt = (0 : Int32).toInt := fun z => c_7 (Int32.toInt_inj.mp z)
                    have z_2 : ¬ (r_11 : Int32).toInt = (0 : Int32).toInt := fun z => c_14 (Int32.toInt_inj.mp z)
                    have z_3 : ¬ (x1 : Int32).toInt = (x2 : Int32).toInt := fun z => c_15 (Int32.toInt_inj.mp z)
                    have z_4 : ¬ (r_19 : Int32).toInt = (0 : Int32).toInt := fun z => c_22 (Int32.toInt_inj.mp z)
                    have z_5 : ¬ (r_26 : Int32).toInt = (0 : Int32).toInt := fun z => c_29 (Int32.toInt_inj.mp z)
                    have z_6 := Int32.le_iff_toInt_le.mp c_73
                    have y_0 : (0 : Int32).toInt = 0 := by decide
                    have y_25 : (25 : Int32).toInt = 25 := by decide
                    have y_56 : (56 : Int32).toInt = 56 := by decide
                    have t_x_80 : x_80.toInt = (56 : Int32).toInt + (x2 : Int32).toInt := by rw [ex_80]; exact add_toInt (by omega) (by omega)
                    refine vp_in_iff.mpr ⟨?_, ?_⟩ <;> omega
                  refine st_int hx hb hK hP hD hS 7 0 rfl rfl hi_81 dX12_rests_204 (fun g_82 H locs eg_82 hP₀ hD₀ hS₀ => ?_)
                  replace hP : va_P D classes [((Ma 2), .inl (tc 0, 2400, .inl (Mf 2))), ((Ma 4), .inl (tc 0, 288, .inl (Mf 4))), ((Ma 5), .inl (tc 0, 6, .inl (Mf 5))), ((Ma 8), .inl (tc 1, 64, .inr (.inl vy_62))), ((Ma 9), .inl (tc 1, 13, .inr (.inl vy_63))), ((Ma 13), .inl (tc 0, 50, .inl vy_64)), ((Ma 0), .inr (12, [.ref (Ma 1), .int (Mv 0), .int (Mv 1), .ref (Ma 2), .ref (Ma 3), .ref (Ma 4), .ref (Ma 5), .ref (Ma 6), .int (Mv 2), .int (Mv 3), .int (Mv 4), .int (Mv 5), .int (Mv 6), .int (Mv 7), .int (Mv 8), .ref (Ma 7), .int (Mv 9), .ref (Ma 8), .int vy_65, .ref (Ma 9), .ref (Ma 10), .int (Mv 11), .int (Mv 12), .int (Mv 13), .ref (Ma 11), .int (Mv 14), .ref (Ma 12), .ref (Ma 13), .ref (Ma 14), .ref (Ma 15), .ref (Ma 16), .long (Mj 0), .ref (Ma 17), .ref (Ma 18), .ref (Ma 19), .ref (Ma 20)])), ((Ma 10), .inl (tc 0, 126, .inl g_82)), ((Ma 12), .inl (tc 0, 46, .inl sv_53))] H := hP₀
                  replace hD : va_D A [((Ma 2), .inl (tc 0, 2400, .inl (Mf 2))), ((Ma 4), .inl (tc 0, 288, .inl (Mf 4))), ((Ma 5), .inl (tc 0, 6, .inl (Mf 5))), ((Ma 8), .inl (tc 1, 64, .inr (.inl vy_62))), ((Ma 9), .inl (tc 1, 13, .inr (.inl vy_63))), ((Ma 13), .inl (tc 0, 50, .inl vy_64)), ((Ma 0), .inr (12, [.ref (Ma 1), .int (Mv 0), .int (Mv 1), .ref (Ma 2), .ref (Ma 3), .ref (Ma 4), .ref (Ma 5), .ref (Ma 6), .int (Mv 2), .int (Mv 3), .int (Mv 4), .int (Mv 5), .int (Mv 6), .int (Mv 7), .int (Mv 8), .ref (Ma 7), .int (Mv 9), .ref (Ma 8), .int vy_65, .ref (Ma 9), .ref (Ma 10), .int (Mv 11), .int (Mv 12), .int (Mv 13), .ref (Ma 11), .int (Mv 14), .ref (Ma 12), .ref (Ma 13), .ref (Ma 14), .ref (Ma 15), .ref (Ma 16), .long (Mj 0), .ref (Ma 17), .ref (Ma 18), .ref (Ma 19), .ref (Ma 20)])), ((Ma 10), .inl (tc 0, 126, .inl g_82)), ((Ma 12), .inl (tc 0, 46, .inl sv_53))] := hD₀
                  replace hS := hS₀
                  clear hP₀ hD₀ hS₀
                  have hj_84 : (x_74 : Int32).toNatClampNeg = (56 + x1.toInt.toNat) := by
                    show (x_74 : Int32).toInt.toNat = (56 + x1.toInt.toNat)
                    have z_1 : ¬ (r_4 : Int32).toInt = (0 : Int32).toInt := fun z => c_7 (Int32.toInt_inj.mp z)
                    have z_2 : ¬ (r_11 : Int32).toInt = (0 : Int32).toInt := fun z => c_14 (Int32.toInt_inj.mp z)
                    have z_3 : ¬ (x1 : Int32).toInt = (x2 : Int32).toInt := fun z => c_15 (Int32.toInt_inj.mp z)
                    have z_4 : ¬ (r_19 : Int32).toInt = (0 : Int32).toInt := fun z => c_22 (Int32.toInt_inj.mp z)
                    have z_5 : ¬ (r_26 : Int32).toInt = (0 : Int32).toInt := fun z => c_29 (Int32.toInt_inj.mp z)
                    have z_6 := Int32.le_iff_toInt_le.mp c_73
                    have y_0 : (0 : Int32).toInt = 0 := by decide
                    have y_25 : (25 : Int32).toInt = 25 := by decide
                    have y_56 : (56 : Int32).toInt = 56 := by decide
                    have t_x_74 : x_74.toInt = (56 : Int32).toInt + (x1 : Int32).toInt := by rw [ex_74]; exact add_toInt (by omega) (by omega)
                    omega
                  have hj_85 : (x_80 : Int32).toNatClampNeg = (56 + x2.toInt.toNat) := by
                    show (x_80 : Int32).toInt.toNat = (56 + x2.toInt.toNat)
                    have z_1 : ¬ (r_4 : Int32).toInt = (0 : Int32).toInt := fun z => c_7 (Int32.toInt_inj.mp z)
                    have z_2 : ¬ (r_11 : Int32).toInt = (0 : Int32).toInt := fun z => c_14 (Int32.toInt_inj.mp z)
                    have z_3 : ¬ (x1 : Int32).toInt = (x2 : Int32).toInt := fun z => c_15 (Int32.toInt_inj.mp z)
                    have z_4 : ¬ (r_19 : Int32).toInt = (0 : Int32).toInt := fun z => c_22 (Int32.toInt_inj.mp z)
                    have z_5 : ¬ (r_26 : Int32).toInt = (0 : Int32).toInt := fun z => c_29 (Int32.toInt_inj.mp z)
                    have z_6 := Int32.le_iff_toInt_le.mp c_73
                    have y_0 : (0 : Int32).toInt = 0 := by decide
                    have y_25 : (25 : Int32).toInt = 25 := by decide
                    have y_56 : (56 : Int32).toInt = 56 := by decide
                    have t_x_80 : x_80.toInt = (56 : Int32).toInt + (x2 : Int32).toInt := by rw [ex_80]; exact add_toInt (by omega) (by omega)
                    omega
                  have hj_86 : (x_30 : Int32).toNatClampNeg = (56 + x1.toInt.toNat) := by
                    show (x_30 : Int32).toInt.toNat = (56 + x1.toInt.toNat)
                    have z_1 : ¬ (r_4 : Int32).toInt = (0 : Int32).toInt := fun z => c_7 (Int32.toInt_inj.mp z)
                    have z_2 : ¬ (r_11 : Int32).toInt = (0 : Int32).toInt := fun z => c_14 (Int32.toInt_inj.mp z)
                    have z_3 : ¬ (x1 : Int32).toInt = (x2 : Int32).toInt := fun z => c_15 (Int32.toInt_inj.mp z)
                    have z_4 : ¬ (r_19 : Int32).toInt = (0 : Int32).toInt := fun z => c_22 (Int32.toInt_inj.mp z)
                    have z_5 : ¬ (r_26 : Int32).toInt = (0 : Int32).toInt := fun z => c_29 (Int32.toInt_inj.mp z)
                    have z_6 := Int32.le_iff_toInt_le.mp c_73
                    have y_0 : (0 : Int32).toInt = 0 := by decide
                    have y_25 : (25 : Int32).toInt = 25 := by decide
                    have y_56 : (56 : Int32).toInt = 56 := by decide
                    have t_x_30 : x_30.toInt = (56 : Int32).toInt + (x1 : Int32).toInt := by rw [ex_30]; exact add_toInt (by omega) (by omega)
                    omega
                  have hj_87 : (x_33 : Int32).toNatClampNeg = (56 + x2.toInt.toNat) := by
                    show (x_33 : Int32).toInt.toNat = (56 + x2.toInt.toNat)
                    have z_1 : ¬ (r_4 : Int32).toInt = (0 : Int32).toInt := fun z => c_7 (Int32.toInt_inj.mp z)
                    have z_2 : ¬ (r_11 : Int32).toInt = (0 : Int32).toInt := fun z => c_14 (Int32.toInt_inj.mp z)
                    have z_3 : ¬ (x1 : Int32).toInt = (x2 : Int32).toInt := fun z => c_15 (Int32.toInt_inj.mp z)
                    have z_4 : ¬ (r_19 : Int32).toInt = (0 : Int32).toInt := fun z => c_22 (Int32.toInt_inj.mp z)
                    have z_5 : ¬ (r_26 : Int32).toInt = (0 : Int32).toInt := fun z => c_29 (Int32.toInt_inj.mp z)
                    have z_6 := Int32.le_iff_toInt_le.mp c_73
                    have y_0 : (0 : Int32).toInt = 0 := by decide
                    have y_25 : (25 : Int32).toInt = 25 := by decide
                    have y_56 : (56 : Int32).toInt = 56 := by decide
                    have t_x_33 : x_33.toInt = (56 : Int32).toInt + (x2 : Int32).toInt := by rw [ex_33]; exact add_toInt (by omega) (by omega)
                    omega
                  have hr_88 : 0 ≤ x1.toInt ∧ x1.toInt < 6 := by
                    have z_1 : ¬ (r_4 : Int32).toInt = (0 : Int32).toInt := fun z => c_7 (Int32.toInt_inj.mp z)
                    have z_2 : ¬ (r_11 : Int32).toInt = (0 : Int32).toInt := fun z => c_14 (Int32.toInt_inj.mp z)
                    have z_3 : ¬ (x1 : Int32).toInt = (x2 : Int32).toInt := fun z => c_15 (Int32.toInt_inj.mp z)
                    have z_4 : ¬ (r_19 : Int32).toInt = (0 : Int32).toInt := fun z => c_22 (Int32.toInt_inj.mp z)
                    have z_5 : ¬ (r_26 : Int32).toInt = (0 : Int32).toInt := fun z => c_29 (Int32.toInt_inj.mp z)
                    have z_6 := Int32.le_iff_toInt_le.mp c_73
                    have y_0 : (0 : Int32).toInt = 0 := by decide
                    have y_25 : (25 : Int32).toInt = 25 := by decide
                    refine ⟨?_, ?_⟩ <;> omega
                  have hr_89 : 0 ≤ x2.toInt ∧ x2.toInt < 6 := by
                    have z_1 : ¬ (r_4 : Int32).toInt = (0 : Int32).toInt := fun z => c_7 (Int32.toInt_inj.mp z)
                    have z_2 : ¬ (r_11 : Int32).toInt = (0 : Int32).toInt := fun z => c_14 (Int32.toInt_inj.mp z)
                    have z_3 : ¬ (x1 : Int32).toInt = (x2 : Int32).toInt := fun z => c_15 (Int32.toInt_inj.mp z)
                    have z_4 : ¬ (r_19 : Int32).toInt = (0 : Int32).toInt := fun z => c_22 (Int32.toInt_inj.mp z)
                    have z_5 : ¬ (r_26 : Int32).toInt = (0 : Int32).toInt := fun z => c_29 (Int32.toInt_inj.mp z)
                    have z_6 := Int32.le_iff_toInt_le.mp c_73
                    have y_0 : (0 : Int32).toInt = 0 := by decide
                    have y_25 : (25 : Int32).toInt = 25 := by decide
                    refine ⟨?_, ?_⟩ <;> omega
                  have hw_90 := pf_71
                  rw [eTw] at hw_90
                  have pf_83 : SaidD T g_82 999 := SaidD.restore h_said hw_90 eg_76 eg_82 hj_84 hj_85 ex_32 ex_35 hj_86 hj_87 (by omega) (by omega)
                  refine lv_iconst (v := 0) hx hb dX12_rests_205 (by decide) ?_
                  refine lv_istore (lv' := [(9, .int 0), (8, .int r_47), (7, .int r_40), (6, .int x_35), (5, .int x_32), (0, .ref (Ma 0)), (1, .int x1), (2, .int x2), (3, .int x3), (4, .int x4)]) hx hb dX12_rests_206 hl (by decide) rfl (fun ls hl₀ => ?_)
                  replace hl := hl₀
                  clear hl₀
                  refine lv_iconst (v := (-1)) hx hb dX12_rests_208 (by decide) ?_
                  refine lv_istore (lv' := [(10, .int (-1)), (9, .int 0), (8, .int r_47), (7, .int r_40), (6, .int x_35), (5, .int x_32), (0, .ref (Ma 0)), (1, .int x1), (2, .int x2), (3, .int x3), (4, .int x4)]) hx hb dX12_rests_209 hl (by decide) rfl (fun ls hl₀ => ?_)
                  replace hl := hl₀
                  clear hl₀
                  refine lv_bipush (v := 24) hx hb dX12_rests_211 (by decide) ?_
                  refine lv_istore (lv' := [(11, .int 24), (10, .int (-1)), (9, .int 0), (8, .int r_47), (7, .int r_40), (6, .int x_35), (5, .int x_32), (0, .ref (Ma 0)), (1, .int x1), (2, .int x2), (3, .int x3), (4, .int x4)]) hx hb dX12_rests_213 hl (by decide) rfl (fun ls hl₀ => ?_)
                  replace hl := hl₀
                  clear hl₀
                  have loop_99 : ∀ (n_97 : Nat) (vy_94 : Int32) (vy_95 : Int32) (vy_96 : Int32) (H : Heap) (locs : List Loc) (ls : Array Slot), ((vy_94 : Int32).toInt + 1).toNat < n_97 → (-1 ≤ (vy_94 : Int32).toInt ∧ (vy_94 : Int32).toInt ≤ 24) → va_P D classes [((Ma 2), .inl (tc 0, 2400, .inl (Mf 2))), ((Ma 4), .inl (tc 0, 288, .inl (Mf 4))), ((Ma 5), .inl (tc 0, 6, .inl (Mf 5))), ((Ma 8), .inl (tc 1, 64, .inr (.inl vy_62))), ((Ma 9), .inl (tc 1, 13, .inr (.inl vy_63))), ((Ma 13), .inl (tc 0, 50, .inl vy_64)), ((Ma 0), .inr (12, [.ref (Ma 1), .int (Mv 0), .int (Mv 1), .ref (Ma 2), .ref (Ma 3), .ref (Ma 4), .ref (Ma 5), .ref (Ma 6), .int (Mv 2), .int (Mv 3), .int (Mv 4), .int (Mv 5), .int (Mv 6), .int (Mv 7), .int (Mv 8), .ref (Ma 7), .int (Mv 9), .ref (Ma 8), .int vy_65, .ref (Ma 9), .ref (Ma 10), .int (Mv 11), .int (Mv 12), .int (Mv 13), .ref (Ma 11), .int (Mv 14), .ref (Ma 12), .ref (Ma 13), .ref (Ma 14), .ref (Ma 15), .ref (Ma 16), .long (Mj 0), .ref (Ma 17), .ref (Ma 18), .ref (Ma 19), .ref (Ma 20)])), ((Ma 10), .inl (tc 0, 126, .inl g_82)), ((Ma 12), .inl (tc 0, 46, .inl sv_53))] H → va_D A [((Ma 2), .inl (tc 0, 2400, .inl (Mf 2))), ((Ma 4), .inl (tc 0, 288, .inl (Mf 4))), ((Ma 5), .inl (tc 0, 6, .inl (Mf 5))), ((Ma 8), .inl (tc 1, 64, .inr (.inl vy_62))), ((Ma 9), .inl (tc 1, 13, .inr (.inl vy_63))), ((Ma 13), .inl (tc 0, 50, .inl vy_64)), ((Ma 0), .inr (12, [.ref (Ma 1), .int (Mv 0), .int (Mv 1), .ref (Ma 2), .ref (Ma 3), .ref (Ma 4), .ref (Ma 5), .ref (Ma 6), .int (Mv 2), .int (Mv 3), .int (Mv 4), .int (Mv 5), .int (Mv 6), .int (Mv 7), .int (Mv 8), .ref (Ma 7), .int (Mv 9), .ref (Ma 8), .int vy_65, .ref (Ma 9), .ref (Ma 10), .int (Mv 11), .int (Mv 12), .int (Mv 13), .ref (Ma 11), .int (Mv 14), .ref (Ma 12), .ref (Ma 13), .ref (Ma 14), .ref (Ma 15), .ref (Ma 16), .long (Mj 0), .ref (Ma 17), .ref (Ma 18), .ref (Ma 19), .ref (Ma 20)])), ((Ma 10), .inl (tc 0, 126, .inl g_82)), ((Ma 12), .inl (tc 0, 46, .inl sv_53))] → va_S A s.heap H locs → lv_has ls 12 [(11, .int vy_94), (10, .int vy_95), (9, .int vy_96), (8, .int r_47), (7, .int r_40), (6, .int x_35), (5, .int x_32), (0, .ref (Ma 0)), (1, .int x1), (2, .int x2), (3, .int x3), (4, .int x4)] → W p l e ({ frames := 6, cells := 0, slots := 0, locals := 143 }) s m ([.ref (Ma 0), .int x1, .int x2, .int x3, .int x4].toArray) below meth c H locs 0 0 (MQ below (QW (fun (v : Option Value) (u : (Int32) × (Nat → Int64) × (Nat → Int64) × (Nat → Int32) × (Nat → Int32) × (Nat → Int32)) => match u with | (oo0x1, oo0x2, oo0x3, oo0x4, oo0x5, oo0x6) => ∃ r : Int32, v = some (.int r) ∧ (True) ∧ (SaidD T oo0x4 999)) (BW D (fun (u : (Int32) × (Nat → Int64) × (Nat → Int64) × (Nat → Int32) × (Nat → Int32) × (Nat → Int32)) => match u with | (oo0x1, oo0x2, oo0x3, oo0x4, oo0x5, oo0x6) => [((Ma 0), .inr (12, [.ref (Ma 1), .int (Mv 0), .int (Mv 1), .ref (Ma 2), .ref (Ma 3), .ref (Ma 4), .ref (Ma 5), .ref (Ma 6), .int (Mv 2), .int (Mv 3), .int (Mv 4), .int (Mv 5), .int (Mv 6), .int (Mv 7), .int (Mv 8), .ref (Ma 7), .int (Mv 9), .ref (Ma 8), .int oo0x1, .ref (Ma 9), .ref (Ma 10), .int (Mv 11), .int (Mv 12), .int (Mv 13), .ref (Ma 11), .int (Mv 14), .ref (Ma 12), .ref (Ma 13), .ref (Ma 14), .ref (Ma 15), .ref (Ma 16), .long (Mj 0), .ref (Ma 17), .ref (Ma 18), .ref (Ma 19), .ref (Ma 20)])), ((Ma 2), .inl (tc 0, 2400, .inl (Mf 2))), ((Ma 4), .inl (tc 0, 288, .inl (Mf 4))), ((Ma 5), .inl (tc 0, 6, .inl (Mf 5))), ((Ma 8), .inl (tc 1, 64, .inr (.inl oo0x2))), ((Ma 9), .inl (tc 1, 13, .inr (.inl oo0x3))), ((Ma 10), .inl (tc 0, 126, .inl oo0x4)), ((Ma 12), .inl (tc 0, 46, .inl oo0x5)), ((Ma 13), .inl (tc 0, 50, .inl oo0x6))]) A) A) ([.ref (Ma 0), .int x1, .int x2, .int x3, .int x4].toArray) s 0 0 A) (F0 m 215 ls []) := by
                    clear hP hD hS hl
                    intro n_97
                    induction n_97 with
                    | zero =>
                      intro vy_94 vy_95 vy_96 H locs ls h1
                      exact absurd h1 (Nat.not_lt_zero _)
                    | succ n_97 ih_98 =>
                      intro vy_94 vy_95 vy_96 H locs ls hn_101 pf_100 hP hD hS hl
                      refine lv_iload hx hb dX12_rests_215 (lv_at hl 0 rfl) ?_
                      refine lv_if_lt (tgt := 251) hx hb dX12_rests_217 (by decide) (fun c_102 => ?_) (fun c_102 => ?_)
                      · skip
                        refine lv_iload hx hb dX12_rests_251 (lv_at hl 11 rfl) ?_
                        refine lv_if_ne (tgt := 259) hx hb dX12_rests_253 (by decide) (fun c_103 => ?_) (fun c_103 => ?_)
                        · skip
                          refine lv_iload hx hb dX12_rests_259 (lv_at hl 1 rfl) ?_
                          refine lv_if_ge (tgt := 269) hx hb dX12_rests_261 (by decide) (fun c_104 => ?_) (fun c_104 => ?_)
                          · skip
                            refine lv_iload hx hb dX12_rests_269 (lv_at hl 11 rfl) ?_
                            refine lv_iconst (v := 1) hx hb dX12_rests_271 (by decide) ?_
                            refine lv_icmp_ne (tgt := 286) hx hb dX12_rests_272 (by decide) (fun c_105 => ?_) (fun c_105 => ?_)
                            · skip
                              refine lv_iconst (v := 1) hx hb dX12_rests_286 (by decide) ?_
                              refine lv_iconst (v := 2) hx hb dX12_rests_287 (by decide) ?_
                              refine lv_iload hx hb dX12_rests_288 (lv_at hl 1 rfl) ?_
                              refine lv_iconst (v := 5) hx hb dX12_rests_290 (by decide) ?_
                              refine lv_irem hx hb dX12_rests_291 (by decide) ?_
                              refine lv_topi (fun x_106 ex_106 => ?_)
                              refine lv_imul hx hb dX12_rests_292 ?_
                              refine lv_topi (fun x_107 ex_107 => ?_)
                              refine lv_iadd hx hb dX12_rests_293 ?_
                              refine lv_topi (fun x_108 ex_108 => ?_)
                              exact retI (v := x_108) hx hb hr hlk (rfl) hP hD hS (vy_65, vy_62, vy_63, g_82, sv_53, vy_64) ⟨_, rfl, trivial, pf_83⟩ [6, 0, 1, 2, 3, 4, 7, 8, 5] rfl rfl dX12_rests_294 (Nat.le_of_ble_eq_true rfl) (Nat.le_of_ble_eq_true rfl) rfl
                            · skip
                              refine lv_iconst (v := 1) hx hb dX12_rests_275 (by decide) ?_
                              refine lv_iconst (v := 2) hx hb dX12_rests_276 (by decide) ?_
                              refine lv_iload hx hb dX12_rests_277 (lv_at hl 1 rfl) ?_
                              refine lv_iconst (v := 5) hx hb dX12_rests_279 (by decide) ?_
                              refine lv_idiv hx hb dX12_rests_280 (by decide) ?_
                              refine lv_topi (fun x_109 ex_109 => ?_)
                              refine lv_imul hx hb dX12_rests_281 ?_
                              refine lv_topi (fun x_110 ex_110 => ?_)
                              refine lv_iadd hx hb dX12_rests_282 ?_
                              refine lv_topi (fun x_111 ex_111 => ?_)
                              refine lv_goto (tgt := 294) hx hb dX12_rests_283 (by decide) ?_
                              exact retI (v := x_111) hx hb hr hlk (rfl) hP hD hS (vy_65, vy_62, vy_63, g_82, sv_53, vy_64) ⟨_, rfl, trivial, pf_83⟩ [6, 0, 1, 2, 3, 4, 7, 8, 5] rfl rfl dX12_rests_294 (Nat.le_of_ble_eq_true rfl) (Nat.le_of_ble_eq_true rfl) rfl
                          · skip
                            refine lv_bipush (v := (-2)) hx hb dX12_rests_264 (by decide) ?_
                            refine lv_goto (tgt := 294) hx hb dX12_rests_266 (by decide) ?_
                            exact retI (v := (-2)) hx hb hr hlk (rfl) hP hD hS (vy_65, vy_62, vy_63, g_82, sv_53, vy_64) ⟨_, rfl, trivial, pf_83⟩ [6, 0, 1, 2, 3, 4, 7, 8, 5] rfl rfl dX12_rests_294 (Nat.le_of_ble_eq_true rfl) (Nat.le_of_ble_eq_true rfl) rfl
                        · skip
                          refine lv_iload hx hb dX12_rests_256 (lv_at hl 2 rfl) ?_
                          exact retI (v := vy_96) hx hb hr hlk (rfl) hP hD hS (vy_65, vy_62, vy_63, g_82, sv_53, vy_64) ⟨_, rfl, trivial, pf_83⟩ [6, 0, 1, 2, 3, 4, 7, 8, 5] rfl rfl dX12_rests_258 (Nat.le_of_ble_eq_true rfl) (Nat.le_of_ble_eq_true rfl) rfl
                      · skip
                        refine lv_aload_n hx hb dX12_rests_220 rfl (lv_at hl 7 rfl) ?_
                        refine lv_iload hx hb dX12_rests_221 (lv_at hl 0 rfl) ?_
                        refine lv_iconst (v := 5) hx hb dX12_rests_223 (by decide) ?_
                        refine lv_idiv hx hb dX12_rests_224 (by decide) ?_
                        refine lv_topi (fun x_112 ex_112 => ?_)
                        refine lv_iload hx hb dX12_rests_225 (lv_at hl 0 rfl) ?_
                        refine lv_iconst (v := 5) hx hb dX12_rests_227 (by decide) ?_
                        refine lv_irem hx hb dX12_rests_228 (by decide) ?_
                        refine lv_topi (fun x_113 ex_113 => ?_)
                        have ha_114 : 0 ≤ x_112.toInt ∧ x_112.toInt < 5 ∧ 0 ≤ x_113.toInt ∧ x_113.toInt < 5 := by
                          have z_1 : ¬ (r_4 : Int32).toInt = (0 : Int32).toInt := fun z => c_7 (Int32.toInt_inj.mp z)
                          have z_2 : ¬ (r_11 : Int32).toInt = (0 : Int32).toInt := fun z => c_14 (Int32.toInt_inj.mp z)
                          have z_3 : ¬ (x1 : Int32).toInt = (x2 : Int32).toInt := fun z => c_15 (Int32.toInt_inj.mp z)
                          have z_4 : ¬ (r_19 : Int32).toInt = (0 : Int32).toInt := fun z => c_22 (Int32.toInt_inj.mp z)
                          have z_5 : ¬ (r_26 : Int32).toInt = (0 : Int32).toInt := fun z => c_29 (Int32.toInt_inj.mp z)
                          have z_6 := Int32.le_iff_toInt_le.mp c_73
                          have z_7 := Int32.le_iff_toInt_le.mp (Int32.not_lt.mp c_102)
                          have y_0 : (0 : Int32).toInt = 0 := by decide
                          have y_25 : (25 : Int32).toInt = 25 := by decide
                          have y_5 : (5 : Int32).toInt = 5 := by decide
                          have t_x_112 := div_toInt (x := vy_94) (y := 5) (by omega) (by decide)
                          rw [← ex_112, y_5] at t_x_112
                          have t_x_113 := rem_bounds (x := vy_94) (y := 5) (by omega)
                          rw [← ex_113] at t_x_113
                          refine ⟨?_, ?_, ?_, ?_⟩ <;> omega
                        refine cV (a := (Ma 0)) (As := [.int x_112, .int x_113]) (rest := []) (wr := [((Ma 2), .inl (tc 0, 2400, .inl (Mf 2))), ((Ma 4), .inl (tc 0, 288, .inl (Mf 4))), ((Ma 5), .inl (tc 0, 6, .inl (Mf 5))), ((Ma 8), .inl (tc 1, 64, .inr (.inl vy_62))), ((Ma 9), .inl (tc 1, 13, .inr (.inl vy_63))), ((Ma 10), .inl (tc 0, 126, .inl g_82)), ((Ma 12), .inl (tc 0, 46, .inl sv_53))]) ⟨hx, hb, hml, hown, hts⟩ hK hX hA (cu_X12_isRest l D tc sk (Ma 0) (Ma 1) (Ma 2) (Ma 3) (Ma 4) (Ma 5) (Ma 6) (Ma 7) (Ma 8) (Ma 9) (Ma 10) (Ma 11) (Ma 12) (Ma 13) (Ma 14) (Ma 15) (Ma 16) (Ma 17) (Ma 18) (Ma 19) (Ma 20) (Mv 0) (Mv 1) (Mv 2) (Mv 3) (Mv 4) (Mv 5) (Mv 6) (Mv 7) (Mv 8) (Mv 9) vy_65 (Mv 11) (Mv 12) (Mv 13) (Mv 14) vy_64 (Mj 0) x_112 x_113 ha_114) k_1582 k_1579 k_1581 k_87 k_106 pl_X12_isRest ⟨Nat.le_of_ble_eq_true rfl, Nat.le_of_ble_eq_true rfl⟩ rfl rfl (va_recv hK hP (ci := 12) (q0 := 6) rfl rfl) hP hD hS [6, 5] [0, 1, 2, 3, 4, 7, 8] rfl rfl rfl rfl rfl (by decide) rfl hl.1 rfl (Nat.le_of_ble_eq_true rfl) dX12_rests_229 ⟨Nat.le_of_ble_eq_true rfl, Nat.le_of_ble_eq_true rfl⟩ (fun v_115 u_116 H locs hv_117 hP₀ hD₀ hS₀ => ?_)
                        obtain ⟨r_118, rfl, he_119⟩ := hv_117
                        have he_119 : (r_118.toInt = 0 ∨ r_118.toInt = 1) := he_119
                        refine W.eq (g2 := F0 m 232 ls [.int r_118]) rfl ?_
                        replace hP : va_P D classes [((Ma 2), .inl (tc 0, 2400, .inl (Mf 2))), ((Ma 4), .inl (tc 0, 288, .inl (Mf 4))), ((Ma 5), .inl (tc 0, 6, .inl (Mf 5))), ((Ma 8), .inl (tc 1, 64, .inr (.inl vy_62))), ((Ma 9), .inl (tc 1, 13, .inr (.inl vy_63))), ((Ma 10), .inl (tc 0, 126, .inl g_82)), ((Ma 12), .inl (tc 0, 46, .inl sv_53)), ((Ma 0), .inr (12, [.ref (Ma 1), .int (Mv 0), .int (Mv 1), .ref (Ma 2), .ref (Ma 3), .ref (Ma 4), .ref (Ma 5), .ref (Ma 6), .int (Mv 2), .int (Mv 3), .int (Mv 4), .int (Mv 5), .int (Mv 6), .int (Mv 7), .int (Mv 8), .ref (Ma 7), .int (Mv 9), .ref (Ma 8), .int vy_65, .ref (Ma 9), .ref (Ma 10), .int (Mv 11), .int (Mv 12), .int (Mv 13), .ref (Ma 11), .int (Mv 14), .ref (Ma 12), .ref (Ma 13), .ref (Ma 14), .ref (Ma 15), .ref (Ma 16), .long (Mj 0), .ref (Ma 17), .ref (Ma 18), .ref (Ma 19), .ref (Ma 20)])), ((Ma 13), .inl (tc 0, 50, .inl vy_64))] H := hP₀
                        replace hD : va_D A [((Ma 2), .inl (tc 0, 2400, .inl (Mf 2))), ((Ma 4), .inl (tc 0, 288, .inl (Mf 4))), ((Ma 5), .inl (tc 0, 6, .inl (Mf 5))), ((Ma 8), .inl (tc 1, 64, .inr (.inl vy_62))), ((Ma 9), .inl (tc 1, 13, .inr (.inl vy_63))), ((Ma 10), .inl (tc 0, 126, .inl g_82)), ((Ma 12), .inl (tc 0, 46, .inl sv_53)), ((Ma 0), .inr (12, [.ref (Ma 1), .int (Mv 0), .int (Mv 1), .ref (Ma 2), .ref (Ma 3), .ref (Ma 4), .ref (Ma 5), .ref (Ma 6), .int (Mv 2), .int (Mv 3), .int (Mv 4), .int (Mv 5), .int (Mv 6), .int (Mv 7), .int (Mv 8), .ref (Ma 7), .int (Mv 9), .ref (Ma 8), .int vy_65, .ref (Ma 9), .ref (Ma 10), .int (Mv 11), .int (Mv 12), .int (Mv 13), .ref (Ma 11), .int (Mv 14), .ref (Ma 12), .ref (Ma 13), .ref (Ma 14), .ref (Ma 15), .ref (Ma 16), .long (Mj 0), .ref (Ma 17), .ref (Ma 18), .ref (Ma 19), .ref (Ma 20)])), ((Ma 13), .inl (tc 0, 50, .inl vy_64))] := hD₀
                        replace hS := hS₀
                        clear hP₀ hD₀ hS₀
                        refine lv_if_ne (tgt := 238) hx hb dX12_rests_232 (by decide) (fun c_121 => ?_) (fun c_121 => ?_)
                        · skip
                          refine lv_iload hx hb dX12_rests_238 (lv_at hl 0 rfl) ?_
                          refine lv_istore (lv' := [(10, .int vy_94), (11, .int vy_94), (9, .int vy_96), (8, .int r_47), (7, .int r_40), (6, .int x_35), (5, .int x_32), (0, .ref (Ma 0)), (1, .int x1), (2, .int x2), (3, .int x3), (4, .int x4)]) hx hb dX12_rests_240 hl (by decide) rfl (fun ls hl₀ => ?_)
                          replace hl := hl₀
                          clear hl₀
                          obtain ⟨x_122, ex_122⟩ : ∃ y : Int32, y = vy_96 + 1 := ⟨_, rfl⟩
                          refine lv_iinc (v := x_122) (lv' := [(9, .int x_122), (10, .int vy_94), (11, .int vy_94), (8, .int r_47), (7, .int r_40), (6, .int x_35), (5, .int x_32), (0, .ref (Ma 0)), (1, .int x1), (2, .int x2), (3, .int x3), (4, .int x4)]) hx hb dX12_rests_242 hl (k := 2) rfl (by rw [ex_122]; rfl) (by decide) rfl (fun ls hl₀ => ?_)
                          replace hl := hl₀
                          clear hl₀
                          obtain ⟨x_123, ex_123⟩ : ∃ y : Int32, y = vy_94 + (-1) := ⟨_, rfl⟩
                          refine lv_iinc (v := x_123) (lv' := [(11, .int x_123), (9, .int x_122), (10, .int vy_94), (8, .int r_47), (7, .int r_40), (6, .int x_35), (5, .int x_32), (0, .ref (Ma 0)), (1, .int x1), (2, .int x2), (3, .int x3), (4, .int x4)]) hx hb dX12_rests_245 hl (k := 2) rfl (by rw [ex_123]; rfl) (by decide) rfl (fun ls hl₀ => ?_)
                          replace hl := hl₀
                          clear hl₀
                          refine lv_goto (tgt := 215) hx hb dX12_rests_248 (by decide) ?_
                          have hb_124 : (x_123 : Int32).toInt + 1 < (vy_94 : Int32).toInt + 1 ∧ 1 ≤ (vy_94 : Int32).toInt + 1 := by
                            have z_1 : ¬ (r_4 : Int32).toInt = (0 : Int32).toInt := fun z => c_7 (Int32.toInt_inj.mp z)
                            have z_2 : ¬ (r_11 : Int32).toInt = (0 : Int32).toInt := fun z => c_14 (Int32.toInt_inj.mp z)
                            have z_3 : ¬ (x1 : Int32).toInt = (x2 : Int32).toInt := fun z => c_15 (Int32.toInt_inj.mp z)
                            have z_4 : ¬ (r_19 : Int32).toInt = (0 : Int32).toInt := fun z => c_22 (Int32.toInt_inj.mp z)
                            have z_5 : ¬ (r_26 : Int32).toInt = (0 : Int32).toInt := fun z => c_29 (Int32.toInt_inj.mp z)
                            have z_6 := Int32.le_iff_toInt_le.mp c_73
                            have z_7 := Int32.le_iff_toInt_le.mp (Int32.not_lt.mp c_102)
                            have z_8 : ¬ (r_118 : Int32).toInt = (0 : Int32).toInt := fun z => c_121 (Int32.toInt_inj.mp z)
                            have y_0 : (0 : Int32).toInt = 0 := by decide
                            have y_25 : (25 : Int32).toInt = 25 := by decide
                            have y_m1 : (-1 : Int32).toInt = -1 := by decide
                            have t_x_123 : x_123.toInt = (vy_94 : Int32).toInt + ((-1) : Int32).toInt := by rw [ex_123]; exact add_toInt (by omega) (by omega)
                            refine ⟨?_, ?_⟩ <;> omega
                          have ha_125 : -1 ≤ (x_123 : Int32).toInt ∧ (x_123 : Int32).toInt ≤ 24 := by
                            have z_1 : ¬ (r_4 : Int32).toInt = (0 : Int32).toInt := fun z => c_7 (Int32.toInt_inj.mp z)
                            have z_2 : ¬ (r_11 : Int32).toInt = (0 : Int32).toInt := fun z => c_14 (Int32.toInt_inj.mp z)
                            have z_3 : ¬ (x1 : Int32).toInt = (x2 : Int32).toInt := fun z => c_15 (Int32.toInt_inj.mp z)
                            have z_4 : ¬ (r_19 : Int32).toInt = (0 : Int32).toInt := fun z => c_22 (Int32.toInt_inj.mp z)
                            have z_5 : ¬ (r_26 : Int32).toInt = (0 : Int32).toInt := fun z => c_29 (Int32.toInt_inj.mp z)
                            have z_6 := Int32.le_iff_toInt_le.mp c_73
                            have z_7 := Int32.le_iff_toInt_le.mp (Int32.not_lt.mp c_102)
                            have z_8 : ¬ (r_118 : Int32).toInt = (0 : Int32).toInt := fun z => c_121 (Int32.toInt_inj.mp z)
                            have y_0 : (0 : Int32).toInt = 0 := by decide
                            have y_25 : (25 : Int32).toInt = 25 := by decide
                            have y_m1 : (-1 : Int32).toInt = -1 := by decide
                            have t_x_123 : x_123.toInt = (vy_94 : Int32).toInt + ((-1) : Int32).toInt := by rw [ex_123]; exact add_toInt (by omega) (by omega)
                            refine ⟨?_, ?_⟩ <;> omega
                          exact ih_98 x_123 vy_94 x_122 _ _ _ (by omega) ha_125 (hP.sub [0, 1, 2, 3, 4, 8, 7, 5, 6] rfl) (hD.sub [0, 1, 2, 3, 4, 8, 7, 5, 6] rfl rfl) hS (lv_sub hl [0, 2, 1, 3, 4, 5, 6, 7, 8, 9, 10, 11] rfl)
                        · skip
                          refine lv_goto (tgt := 245) hx hb dX12_rests_235 (by decide) ?_
                          obtain ⟨x_126, ex_126⟩ : ∃ y : Int32, y = vy_94 + (-1) := ⟨_, rfl⟩
                          refine lv_iinc (v := x_126) (lv' := [(11, .int x_126), (10, .int vy_95), (9, .int vy_96), (8, .int r_47), (7, .int r_40), (6, .int x_35), (5, .int x_32), (0, .ref (Ma 0)), (1, .int x1), (2, .int x2), (3, .int x3), (4, .int x4)]) hx hb dX12_rests_245 hl (k := 0) rfl (by rw [ex_126]; rfl) (by decide) rfl (fun ls hl₀ => ?_)
                          replace hl := hl₀
                          clear hl₀
                          refine lv_goto (tgt := 215) hx hb dX12_rests_248 (by decide) ?_
                          have hb_127 : (x_126 : Int32).toInt + 1 < (vy_94 : Int32).toInt + 1 ∧ 1 ≤ (vy_94 : Int32).toInt + 1 := by
                            have z_1 : ¬ (r_4 : Int32).toInt = (0 : Int32).toInt := fun z => c_7 (Int32.toInt_inj.mp z)
                            have z_2 : ¬ (r_11 : Int32).toInt = (0 : Int32).toInt := fun z => c_14 (Int32.toInt_inj.mp z)
                            have z_3 : ¬ (x1 : Int32).toInt = (x2 : Int32).toInt := fun z => c_15 (Int32.toInt_inj.mp z)
                            have z_4 : ¬ (r_19 : Int32).toInt = (0 : Int32).toInt := fun z => c_22 (Int32.toInt_inj.mp z)
                            have z_5 : ¬ (r_26 : Int32).toInt = (0 : Int32).toInt := fun z => c_29 (Int32.toInt_inj.mp z)
                            have z_6 := Int32.le_iff_toInt_le.mp c_73
                            have z_7 := Int32.le_iff_toInt_le.mp (Int32.not_lt.mp c_102)
                            have z_8 := congrArg Int32.toInt c_121
                            have y_0 : (0 : Int32).toInt = 0 := by decide
                            have y_25 : (25 : Int32).toInt = 25 := by decide
                            have y_m1 : (-1 : Int32).toInt = -1 := by decide
                            have t_x_126 : x_126.toInt = (vy_94 : Int32).toInt + ((-1) : Int32).toInt := by rw [ex_126]; exact add_toInt (by omega) (by omega)
                            refine ⟨?_, ?_⟩ <;> omega
                          have ha_128 : -1 ≤ (x_126 : Int32).toInt ∧ (x_126 : Int32).toInt ≤ 24 := by
                            have z_1 : ¬ (r_4 : Int32).toInt = (0 : Int32).toInt := fun z => c_7 (Int32.toInt_inj.mp z)
                            have z_2 : ¬ (r_11 : Int32).toInt = (0 : Int32).toInt := fun z => c_14 (Int32.toInt_inj.mp z)
                            have z_3 : ¬ (x1 : Int32).toInt = (x2 : Int32).toInt := fun z => c_15 (Int32.toInt_inj.mp z)
                            have z_4 : ¬ (r_19 : Int32).toInt = (0 : Int32).toInt := fun z => c_22 (Int32.toInt_inj.mp z)
                            have z_5 : ¬ (r_26 : Int32).toInt = (0 : Int32).toInt := fun z => c_29 (Int32.toInt_inj.mp z)
                            have z_6 := Int32.le_iff_toInt_le.mp c_73
                            have z_7 := Int32.le_iff_toInt_le.mp (Int32.not_lt.mp c_102)
                            have z_8 := congrArg Int32.toInt c_121
                            have y_0 : (0 : Int32).toInt = 0 := by decide
                            have y_25 : (25 : Int32).toInt = 25 := by decide
                            have y_m1 : (-1 : Int32).toInt = -1 := by decide
                            have t_x_126 : x_126.toInt = (vy_94 : Int32).toInt + ((-1) : Int32).toInt := by rw [ex_126]; exact add_toInt (by omega) (by omega)
                            refine ⟨?_, ?_⟩ <;> omega
                          exact ih_98 x_126 vy_95 vy_96 _ _ _ (by omega) ha_128 (hP.sub [0, 1, 2, 3, 4, 8, 7, 5, 6] rfl) (hD.sub [0, 1, 2, 3, 4, 8, 7, 5, 6] rfl rfl) hS (lv_sub hl [0, 1, 2, 3, 4, 5, 6, 7, 8, 9, 10, 11] rfl)
                  have ha_129 : -1 ≤ (24 : Int32).toInt ∧ (24 : Int32).toInt ≤ 24 := by
                    have z_1 : ¬ (r_4 : Int32).toInt = (0 : Int32).toInt := fun z => c_7 (Int32.toInt_inj.mp z)
                    have z_2 : ¬ (r_11 : Int32).toInt = (0 : Int32).toInt := fun z => c_14 (Int32.toInt_inj.mp z)
                    have z_3 : ¬ (x1 : Int32).toInt = (x2 : Int32).toInt := fun z => c_15 (Int32.toInt_inj.mp z)
                    have z_4 : ¬ (r_19 : Int32).toInt = (0 : Int32).toInt := fun z => c_22 (Int32.toInt_inj.mp z)
                    have z_5 : ¬ (r_26 : Int32).toInt = (0 : Int32).toInt := fun z => c_29 (Int32.toInt_inj.mp z)
                    have z_6 := Int32.le_iff_toInt_le.mp c_73
                    have y_0 : (0 : Int32).toInt = 0 := by decide
                    have y_25 : (25 : Int32).toInt = 25 := by decide
                    have y_24 : (24 : Int32).toInt = 24 := by decide
                    refine ⟨?_, ?_⟩ <;> omega
                  exact loop_99 _ 24 (-1) 0 _ _ _ (Nat.lt_succ_self _) ha_129 hP hD hS hl
                · skip
                  refine lv_aload_n hx hb dX12_rests_98 rfl (lv_at hl 5 rfl) ?_
                  refine gf_X12_39 hx hb hts hown hK hP 6 rfl rfl dX12_rests_99 ?_
                  refine lv_bipush (v := 56) hx hb dX12_rests_102 (by decide) ?_
                  refine lv_iload_n hx hb dX12_rests_104 rfl (lv_at hl 6 rfl) ?_
                  refine lv_iadd hx hb dX12_rests_105 ?_
                  refine lv_topi (fun x_130 ex_130 => ?_)
                  refine lv_iconst (v := 1) hx hb dX12_rests_106 (by decide) ?_
                  refine lv_iconst (v := 2) hx hb dX12_rests_107 (by decide) ?_
                  refine lv_iload hx hb dX12_rests_108 (lv_at hl 0 rfl) ?_
                  refine lv_iconst (v := 5) hx hb dX12_rests_110 (by decide) ?_
                  refine lv_idiv hx hb dX12_rests_111 (by decide) ?_
                  refine lv_topi (fun x_131 ex_131 => ?_)
                  refine lv_imul hx hb dX12_rests_112 ?_
                  refine lv_topi (fun x_132 ex_132 => ?_)
                  refine lv_iadd hx hb dX12_rests_113 ?_
                  refine lv_topi (fun x_133 ex_133 => ?_)
                  have hi_134 : vp_in x_130 126 := by
                    have z_1 : ¬ (r_4 : Int32).toInt = (0 : Int32).toInt := fun z => c_7 (Int32.toInt_inj.mp z)
                    have z_2 : ¬ (r_11 : Int32).toInt = (0 : Int32).toInt := fun z => c_14 (Int32.toInt_inj.mp z)
                    have z_3 : ¬ (x1 : Int32).toInt = (x2 : Int32).toInt := fun z => c_15 (Int32.toInt_inj.mp z)
                    have z_4 : ¬ (r_19 : Int32).toInt = (0 : Int32).toInt := fun z => c_22 (Int32.toInt_inj.mp z)
                    have z_5 : ¬ (r_26 : Int32).toInt = (0 : Int32).toInt := fun z => c_29 (Int32.toInt_inj.mp z)
                    have z_6 := Int32.lt_iff_toInt_lt.mp (Int32.not_le.mp c_73)
                    have y_0 : (0 : Int32).toInt = 0 := by decide
                    have y_25 : (25 : Int32).toInt = 25 := by decide
                    have y_56 : (56 : Int32).toInt = 56 := by decide
                    have t_x_130 : x_130.toInt = (56 : Int32).toInt + (x1 : Int32).toInt := by rw [ex_130]; exact add_toInt (by omega) (by omega)
                    refine vp_in_iff.mpr ⟨?_, ?_⟩ <;> omega
                  refine st_int hx hb hK hP hD hS 7 0 rfl rfl hi_134 dX12_rests_114 (fun g_135 H locs eg_135 hP₀ hD₀ hS₀ => ?_)
                  replace hP : va_P D classes [((Ma 2), .inl (tc 0, 2400, .inl (Mf 2))), ((Ma 4), .inl (tc 0, 288, .inl (Mf 4))), ((Ma 5), .inl (tc 0, 6, .inl (Mf 5))), ((Ma 8), .inl (tc 1, 64, .inr (.inl vy_62))), ((Ma 9), .inl (tc 1, 13, .inr (.inl vy_63))), ((Ma 13), .inl (tc 0, 50, .inl vy_64)), ((Ma 0), .inr (12, [.ref (Ma 1), .int (Mv 0), .int (Mv 1), .ref (Ma 2), .ref (Ma 3), .ref (Ma 4), .ref (Ma 5), .ref (Ma 6), .int (Mv 2), .int (Mv 3), .int (Mv 4), .int (Mv 5), .int (Mv 6), .int (Mv 7), .int (Mv 8), .ref (Ma 7), .int (Mv 9), .ref (Ma 8), .int vy_65, .ref (Ma 9), .ref (Ma 10), .int (Mv 11), .int (Mv 12), .int (Mv 13), .ref (Ma 11), .int (Mv 14), .ref (Ma 12), .ref (Ma 13), .ref (Ma 14), .ref (Ma 15), .ref (Ma 16), .long (Mj 0), .ref (Ma 17), .ref (Ma 18), .ref (Ma 19), .ref (Ma 20)])), ((Ma 10), .inl (tc 0, 126, .inl g_135)), ((Ma 12), .inl (tc 0, 46, .inl sv_53))] H := hP₀
                  replace hD : va_D A [((Ma 2), .inl (tc 0, 2400, .inl (Mf 2))), ((Ma 4), .inl (tc 0, 288, .inl (Mf 4))), ((Ma 5), .inl (tc 0, 6, .inl (Mf 5))), ((Ma 8), .inl (tc 1, 64, .inr (.inl vy_62))), ((Ma 9), .inl (tc 1, 13, .inr (.inl vy_63))), ((Ma 13), .inl (tc 0, 50, .inl vy_64)), ((Ma 0), .inr (12, [.ref (Ma 1), .int (Mv 0), .int (Mv 1), .ref (Ma 2), .ref (Ma 3), .ref (Ma 4), .ref (Ma 5), .ref (Ma 6), .int (Mv 2), .int (Mv 3), .int (Mv 4), .int (Mv 5), .int (Mv 6), .int (Mv 7), .int (Mv 8), .ref (Ma 7), .int (Mv 9), .ref (Ma 8), .int vy_65, .ref (Ma 9), .ref (Ma 10), .int (Mv 11), .int (Mv 12), .int (Mv 13), .ref (Ma 11), .int (Mv 14), .ref (Ma 12), .ref (Ma 13), .ref (Ma 14), .ref (Ma 15), .ref (Ma 16), .long (Mj 0), .ref (Ma 17), .ref (Ma 18), .ref (Ma 19), .ref (Ma 20)])), ((Ma 10), .inl (tc 0, 126, .inl g_135)), ((Ma 12), .inl (tc 0, 46, .inl sv_53))] := hD₀
                  replace hS := hS₀
                  clear hP₀ hD₀ hS₀
                  have hj_137 : (x_130 : Int32).toNatClampNeg = (56 + x1.toInt.toNat) := by
                    show (x_130 : Int32).toInt.toNat = (56 + x1.toInt.toNat)
                    have z_1 : ¬ (r_4 : Int32).toInt = (0 : Int32).toInt := fun z => c_7 (Int32.toInt_inj.mp z)
                    have z_2 : ¬ (r_11 : Int32).toInt = (0 : Int32).toInt := fun z => c_14 (Int32.toInt_inj.mp z)
                    have z_3 : ¬ (x1 : Int32).toInt = (x2 : Int32).toInt := fun z => c_15 (Int32.toInt_inj.mp z)
                    have z_4 : ¬ (r_19 : Int32).toInt = (0 : Int32).toInt := fun z => c_22 (Int32.toInt_inj.mp z)
                    have z_5 : ¬ (r_26 : Int32).toInt = (0 : Int32).toInt := fun z => c_29 (Int32.toInt_inj.mp z)
                    have z_6 := Int32.lt_iff_toInt_lt.mp (Int32.not_le.mp c_73)
                    have y_0 : (0 : Int32).toInt = 0 := by decide
                    have y_25 : (25 : Int32).toInt = 25 := by decide
                    have y_56 : (56 : Int32).toInt = 56 := by decide
                    have t_x_130 : x_130.toInt = (56 : Int32).toInt + (x1 : Int32).toInt := by rw [ex_130]; exact add_toInt (by omega) (by omega)
                    omega
                  have hr_138 : 0 ≤ x1.toInt ∧ x1.toInt < 6 := by
                    have z_1 : ¬ (r_4 : Int32).toInt = (0 : Int32).toInt := fun z => c_7 (Int32.toInt_inj.mp z)
                    have z_2 : ¬ (r_11 : Int32).toInt = (0 : Int32).toInt := fun z => c_14 (Int32.toInt_inj.mp z)
                    have z_3 : ¬ (x1 : Int32).toInt = (x2 : Int32).toInt := fun z => c_15 (Int32.toInt_inj.mp z)
                    have z_4 : ¬ (r_19 : Int32).toInt = (0 : Int32).toInt := fun z => c_22 (Int32.toInt_inj.mp z)
                    have z_5 : ¬ (r_26 : Int32).toInt = (0 : Int32).toInt := fun z => c_29 (Int32.toInt_inj.mp z)
                    have z_6 := Int32.lt_iff_toInt_lt.mp (Int32.not_le.mp c_73)
                    have y_0 : (0 : Int32).toInt = 0 := by decide
                    have y_25 : (25 : Int32).toInt = 25 := by decide
                    refine ⟨?_, ?_⟩ <;> omega
                  have pf_136 : SaidD Tw g_135 999 := SaidD.keepN pf_71 eg_135 (by rw [hj_137]; omega) (by rw [eTw]; exact wkT_1 hj_137)
                  have ar_pf_136 := SaidD.al pf_136
                  refine lv_aload_n hx hb dX12_rests_115 rfl (lv_at hl 5 rfl) ?_
                  refine gf_X12_39 hx hb hts hown hK hP 6 rfl rfl dX12_rests_116 ?_
                  refine lv_bipush (v := 56) hx hb dX12_rests_119 (by decide) ?_
                  refine lv_iload_n hx hb dX12_rests_121 rfl (lv_at hl 7 rfl) ?_
                  refine lv_iadd hx hb dX12_rests_122 ?_
                  refine lv_topi (fun x_139 ex_139 => ?_)
                  refine lv_iconst (v := 1) hx hb dX12_rests_123 (by decide) ?_
                  refine lv_iconst (v := 2) hx hb dX12_rests_124 (by decide) ?_
                  refine lv_iload hx hb dX12_rests_125 (lv_at hl 0 rfl) ?_
                  refine lv_iconst (v := 5) hx hb dX12_rests_127 (by decide) ?_
                  refine lv_irem hx hb dX12_rests_128 (by decide) ?_
                  refine lv_topi (fun x_140 ex_140 => ?_)
                  refine lv_imul hx hb dX12_rests_129 ?_
                  refine lv_topi (fun x_141 ex_141 => ?_)
                  refine lv_iadd hx hb dX12_rests_130 ?_
                  refine lv_topi (fun x_142 ex_142 => ?_)
                  have hi_143 : vp_in x_139 126 := by
                    have z_1 : ¬ (r_4 : Int32).toInt = (0 : Int32).toInt := fun z => c_7 (Int32.toInt_inj.mp z)
                    have z_2 : ¬ (r_11 : Int32).toInt = (0 : Int32).toInt := fun z => c_14 (Int32.toInt_inj.mp z)
                    have z_3 : ¬ (x1 : Int32).toInt = (x2 : Int32).toInt := fun z => c_15 (Int32.toInt_inj.mp z)
                    have z_4 : ¬ (r_19 : Int32).toInt = (0 : Int32).toInt := fun z => c_22 (Int32.toInt_inj.mp z)
                    have z_5 : ¬ (r_26 : Int32).toInt = (0 : Int32).toInt := fun z => c_29 (Int32.toInt_inj.mp z)
                    have z_6 := Int32.lt_iff_toInt_lt.mp (Int32.not_le.mp c_73)
                    have y_0 : (0 : Int32).toInt = 0 := by decide
                    have y_25 : (25 : Int32).toInt = 25 := by decide
                    have y_56 : (56 : Int32).toInt = 56 := by decide
                    have t_x_139 : x_139.toInt = (56 : Int32).toInt + (x2 : Int32).toInt := by rw [ex_139]; exact add_toInt (by omega) (by omega)
                    refine vp_in_iff.mpr ⟨?_, ?_⟩ <;> omega
                  refine st_int hx hb hK hP hD hS 7 0 rfl rfl hi_143 dX12_rests_131 (fun g_144 H locs eg_144 hP₀ hD₀ hS₀ => ?_)
                  replace hP : va_P D classes [((Ma 2), .inl (tc 0, 2400, .inl (Mf 2))), ((Ma 4), .inl (tc 0, 288, .inl (Mf 4))), ((Ma 5), .inl (tc 0, 6, .inl (Mf 5))), ((Ma 8), .inl (tc 1, 64, .inr (.inl vy_62))), ((Ma 9), .inl (tc 1, 13, .inr (.inl vy_63))), ((Ma 13), .inl (tc 0, 50, .inl vy_64)), ((Ma 0), .inr (12, [.ref (Ma 1), .int (Mv 0), .int (Mv 1), .ref (Ma 2), .ref (Ma 3), .ref (Ma 4), .ref (Ma 5), .ref (Ma 6), .int (Mv 2), .int (Mv 3), .int (Mv 4), .int (Mv 5), .int (Mv 6), .int (Mv 7), .int (Mv 8), .ref (Ma 7), .int (Mv 9), .ref (Ma 8), .int vy_65, .ref (Ma 9), .ref (Ma 10), .int (Mv 11), .int (Mv 12), .int (Mv 13), .ref (Ma 11), .int (Mv 14), .ref (Ma 12), .ref (Ma 13), .ref (Ma 14), .ref (Ma 15), .ref (Ma 16), .long (Mj 0), .ref (Ma 17), .ref (Ma 18), .ref (Ma 19), .ref (Ma 20)])), ((Ma 10), .inl (tc 0, 126, .inl g_144)), ((Ma 12), .inl (tc 0, 46, .inl sv_53))] H := hP₀
                  replace hD : va_D A [((Ma 2), .inl (tc 0, 2400, .inl (Mf 2))), ((Ma 4), .inl (tc 0, 288, .inl (Mf 4))), ((Ma 5), .inl (tc 0, 6, .inl (Mf 5))), ((Ma 8), .inl (tc 1, 64, .inr (.inl vy_62))), ((Ma 9), .inl (tc 1, 13, .inr (.inl vy_63))), ((Ma 13), .inl (tc 0, 50, .inl vy_64)), ((Ma 0), .inr (12, [.ref (Ma 1), .int (Mv 0), .int (Mv 1), .ref (Ma 2), .ref (Ma 3), .ref (Ma 4), .ref (Ma 5), .ref (Ma 6), .int (Mv 2), .int (Mv 3), .int (Mv 4), .int (Mv 5), .int (Mv 6), .int (Mv 7), .int (Mv 8), .ref (Ma 7), .int (Mv 9), .ref (Ma 8), .int vy_65, .ref (Ma 9), .ref (Ma 10), .int (Mv 11), .int (Mv 12), .int (Mv 13), .ref (Ma 11), .int (Mv 14), .ref (Ma 12), .ref (Ma 13), .ref (Ma 14), .ref (Ma 15), .ref (Ma 16), .long (Mj 0), .ref (Ma 17), .ref (Ma 18), .ref (Ma 19), .ref (Ma 20)])), ((Ma 10), .inl (tc 0, 126, .inl g_144)), ((Ma 12), .inl (tc 0, 46, .inl sv_53))] := hD₀
                  replace hS := hS₀
                  clear hP₀ hD₀ hS₀
                  have hj_146 : (x_139 : Int32).toNatClampNeg = (56 + x2.toInt.toNat) := by
                    show (x_139 : Int32).toInt.toNat = (56 + x2.toInt.toNat)
                    have z_1 : ¬ (r_4 : Int32).toInt = (0 : Int32).toInt := fun z => c_7 (Int32.toInt_inj.mp z)
                    have z_2 : ¬ (r_11 : Int32).toInt = (0 : Int32).toInt := fun z => c_14 (Int32.toInt_inj.mp z)
                    have z_3 : ¬ (x1 : Int32).toInt = (x2 : Int32).toInt := fun z => c_15 (Int32.toInt_inj.mp z)
                    have z_4 : ¬ (r_19 : Int32).toInt = (0 : Int32).toInt := fun z => c_22 (Int32.toInt_inj.mp z)
                    have z_5 : ¬ (r_26 : Int32).toInt = (0 : Int32).toInt := fun z => c_29 (Int32.toInt_inj.mp z)
                    have z_6 := Int32.lt_iff_toInt_lt.mp (Int32.not_le.mp c_73)
                    have y_0 : (0 : Int32).toInt = 0 := by decide
                    have y_25 : (25 : Int32).toInt = 25 := by decide
                    have y_56 : (56 : Int32).toInt = 56 := by decide
                    have t_x_139 : x_139.toInt = (56 : Int32).toInt + (x2 : Int32).toInt := by rw [ex_139]; exact add_toInt (by omega) (by omega)
                    omega
                  have hr_147 : 0 ≤ x2.toInt ∧ x2.toInt < 6 := by
                    have z_1 : ¬ (r_4 : Int32).toInt = (0 : Int32).toInt := fun z => c_7 (Int32.toInt_inj.mp z)
                    have z_2 : ¬ (r_11 : Int32).toInt = (0 : Int32).toInt := fun z => c_14 (Int32.toInt_inj.mp z)
                    have z_3 : ¬ (x1 : Int32).toInt = (x2 : Int32).toInt := fun z => c_15 (Int32.toInt_inj.mp z)
                    have z_4 : ¬ (r_19 : Int32).toInt = (0 : Int32).toInt := fun z => c_22 (Int32.toInt_inj.mp z)
                    have z_5 : ¬ (r_26 : Int32).toInt = (0 : Int32).toInt := fun z => c_29 (Int32.toInt_inj.mp z)
                    have z_6 := Int32.lt_iff_toInt_lt.mp (Int32.not_le.mp c_73)
                    have y_0 : (0 : Int32).toInt = 0 := by decide
                    have y_25 : (25 : Int32).toInt = 25 := by decide
                    refine ⟨?_, ?_⟩ <;> omega
                  have pf_145 : SaidD Tw g_144 999 := SaidD.keepN pf_136 eg_144 (by rw [hj_146]; omega) (by rw [eTw]; exact wkT_2 hj_146)
                  have ar_pf_145 := SaidD.al pf_145
                  refine lv_aload_n hx hb dX12_rests_132 rfl (lv_at hl 5 rfl) ?_
                  refine lv_iload_n hx hb dX12_rests_133 rfl (lv_at hl 8 rfl) ?_
                  have ha_148 : (999 : Int) ≤ 1000 := by
                    have z_1 : ¬ (r_4 : Int32).toInt = (0 : Int32).toInt := fun z => c_7 (Int32.toInt_inj.mp z)
                    have z_2 : ¬ (r_11 : Int32).toInt = (0 : Int32).toInt := fun z => c_14 (Int32.toInt_inj.mp z)
                    have z_3 : ¬ (x1 : Int32).toInt = (x2 : Int32).toInt := fun z => c_15 (Int32.toInt_inj.mp z)
                    have z_4 : ¬ (r_19 : Int32).toInt = (0 : Int32).toInt := fun z => c_22 (Int32.toInt_inj.mp z)
                    have z_5 : ¬ (r_26 : Int32).toInt = (0 : Int32).toInt := fun z => c_29 (Int32.toInt_inj.mp z)
                    have z_6 := Int32.lt_iff_toInt_lt.mp (Int32.not_le.mp c_73)
                    have y_0 : (0 : Int32).toInt = 0 := by decide
                    have y_25 : (25 : Int32).toInt = 25 := by decide
                    have y_999 : (999 : Int32).toInt = 999 := by decide
                    omega
                  have ha_149 : 0 ≤ x3.toInt ∧ x3.toInt ≤ 1000 := by
                    have z_1 : ¬ (r_4 : Int32).toInt = (0 : Int32).toInt := fun z => c_7 (Int32.toInt_inj.mp z)
                    have z_2 : ¬ (r_11 : Int32).toInt = (0 : Int32).toInt := fun z => c_14 (Int32.toInt_inj.mp z)
                    have z_3 : ¬ (x1 : Int32).toInt = (x2 : Int32).toInt := fun z => c_15 (Int32.toInt_inj.mp z)
                    have z_4 : ¬ (r_19 : Int32).toInt = (0 : Int32).toInt := fun z => c_22 (Int32.toInt_inj.mp z)
                    have z_5 : ¬ (r_26 : Int32).toInt = (0 : Int32).toInt := fun z => c_29 (Int32.toInt_inj.mp z)
                    have z_6 := Int32.lt_iff_toInt_lt.mp (Int32.not_le.mp c_73)
                    have y_0 : (0 : Int32).toInt = 0 := by decide
                    have y_25 : (25 : Int32).toInt = 25 := by decide
                    refine ⟨?_, ?_⟩ <;> omega
                  refine cV (a := (Ma 0)) (As := [.int x3]) (rest := []) (wr := [((Ma 13), .inl (tc 0, 50, .inl vy_64)), ((Ma 12), .inl (tc 0, 46, .inl sv_53))]) ⟨hx, hb, hml, hown, hts⟩ hK hX hA (cu_X12_passesAll l D tc sk (Ma 0) (Ma 1) (Ma 2) (Ma 3) (Ma 4) (Ma 5) (Ma 6) (Ma 7) (Ma 8) (Ma 9) (Ma 10) (Ma 11) (Ma 12) (Ma 13) (Ma 14) (Ma 15) (Ma 16) (Ma 17) (Ma 18) (Ma 19) (Ma 20) (Mv 0) (Mv 1) (Mv 2) (Mv 3) (Mv 4) (Mv 5) (Mv 6) (Mv 7) (Mv 8) (Mv 9) vy_65 (Mv 11) (Mv 12) (Mv 13) (Mv 14) (Mf 2) (Mf 4) (Mf 5) g_144 (Mj 0) vy_62 vy_63 x3 999 pf_145 ha_148 h_rul h_frc ha_149) k_1509 k_1506 k_1508 k_81 k_106 pl_X12_passesAll ⟨Nat.le_of_ble_eq_true rfl, Nat.le_of_ble_eq_true rfl⟩ rfl rfl (va_recv hK hP (ci := 12) (q0 := 6) rfl rfl) hP hD hS [6, 0, 1, 2, 3, 4, 7] [5, 8] rfl rfl rfl rfl rfl (by decide) rfl hl.1 rfl (Nat.le_of_ble_eq_true rfl) dX12_rests_134 ⟨Nat.le_of_ble_eq_true rfl, Nat.le_of_ble_eq_true rfl⟩ (fun v_150 u_151 H locs hv_152 hP₀ hD₀ hS₀ => ?_)
                  obtain ⟨sv_153, sv_154, sv_155, sv_156⟩ := u_151
                  obtain ⟨rfl, pf_157⟩ := hv_152
                  have pf_157 : SaidD Tw sv_156 ((999 : Int) + x3.toInt) := pf_157
                  have ar_pf_157 := SaidD.al pf_157
                  refine W.eq (g2 := F0 m 137 ls []) rfl ?_
                  replace hP : va_P D classes [((Ma 13), .inl (tc 0, 50, .inl vy_64)), ((Ma 12), .inl (tc 0, 46, .inl sv_53)), ((Ma 0), .inr (12, [.ref (Ma 1), .int (Mv 0), .int (Mv 1), .ref (Ma 2), .ref (Ma 3), .ref (Ma 4), .ref (Ma 5), .ref (Ma 6), .int (Mv 2), .int (Mv 3), .int (Mv 4), .int (Mv 5), .int (Mv 6), .int (Mv 7), .int (Mv 8), .ref (Ma 7), .int (Mv 9), .ref (Ma 8), .int sv_153, .ref (Ma 9), .ref (Ma 10), .int (Mv 11), .int (Mv 12), .int (Mv 13), .ref (Ma 11), .int (Mv 14), .ref (Ma 12), .ref (Ma 13), .ref (Ma 14), .ref (Ma 15), .ref (Ma 16), .long (Mj 0), .ref (Ma 17), .ref (Ma 18), .ref (Ma 19), .ref (Ma 20)])), ((Ma 2), .inl (tc 0, 2400, .inl (Mf 2))), ((Ma 4), .inl (tc 0, 288, .inl (Mf 4))), ((Ma 5), .inl (tc 0, 6, .inl (Mf 5))), ((Ma 8), .inl (tc 1, 64, .inr (.inl sv_154))), ((Ma 9), .inl (tc 1, 13, .inr (.inl sv_155))), ((Ma 10), .inl (tc 0, 126, .inl sv_156))] H := hP₀
                  replace hD : va_D A [((Ma 13), .inl (tc 0, 50, .inl vy_64)), ((Ma 12), .inl (tc 0, 46, .inl sv_53)), ((Ma 0), .inr (12, [.ref (Ma 1), .int (Mv 0), .int (Mv 1), .ref (Ma 2), .ref (Ma 3), .ref (Ma 4), .ref (Ma 5), .ref (Ma 6), .int (Mv 2), .int (Mv 3), .int (Mv 4), .int (Mv 5), .int (Mv 6), .int (Mv 7), .int (Mv 8), .ref (Ma 7), .int (Mv 9), .ref (Ma 8), .int sv_153, .ref (Ma 9), .ref (Ma 10), .int (Mv 11), .int (Mv 12), .int (Mv 13), .ref (Ma 11), .int (Mv 14), .ref (Ma 12), .ref (Ma 13), .ref (Ma 14), .ref (Ma 15), .ref (Ma 16), .long (Mj 0), .ref (Ma 17), .ref (Ma 18), .ref (Ma 19), .ref (Ma 20)])), ((Ma 2), .inl (tc 0, 2400, .inl (Mf 2))), ((Ma 4), .inl (tc 0, 288, .inl (Mf 4))), ((Ma 5), .inl (tc 0, 6, .inl (Mf 5))), ((Ma 8), .inl (tc 1, 64, .inr (.inl sv_154))), ((Ma 9), .inl (tc 1, 13, .inr (.inl sv_155))), ((Ma 10), .inl (tc 0, 126, .inl sv_156))] := hD₀
                  replace hS := hS₀
                  clear hP₀ hD₀ hS₀
                  refine lv_aload_n hx hb dX12_rests_137 rfl (lv_at hl 5 rfl) ?_
                  refine gf_X12_52 hx hb hts hown hK hP 2 rfl rfl dX12_rests_138 ?_
                  refine lv_iconst (v := 2) hx hb dX12_rests_141 (by decide) ?_
                  refine lv_iload hx hb dX12_rests_142 (lv_at hl 0 rfl) ?_
                  refine lv_imul hx hb dX12_rests_144 ?_
                  refine lv_topi (fun x_158 ex_158 => ?_)
                  refine lv_aload_n hx hb dX12_rests_145 rfl (lv_at hl 5 rfl) ?_
                  refine lv_iload_n hx hb dX12_rests_146 rfl (lv_at hl 6 rfl) ?_
                  have ha_159 : 0 ≤ x1.toInt ∧ x1.toInt < 6 := by
                    have z_1 : ¬ (r_4 : Int32).toInt = (0 : Int32).toInt := fun z => c_7 (Int32.toInt_inj.mp z)
                    have z_2 : ¬ (r_11 : Int32).toInt = (0 : Int32).toInt := fun z => c_14 (Int32.toInt_inj.mp z)
                    have z_3 : ¬ (x1 : Int32).toInt = (x2 : Int32).toInt := fun z => c_15 (Int32.toInt_inj.mp z)
                    have z_4 : ¬ (r_19 : Int32).toInt = (0 : Int32).toInt := fun z => c_22 (Int32.toInt_inj.mp z)
                    have z_5 : ¬ (r_26 : Int32).toInt = (0 : Int32).toInt := fun z => c_29 (Int32.toInt_inj.mp z)
                    have z_6 := Int32.lt_iff_toInt_lt.mp (Int32.not_le.mp c_73)
                    have y_0 : (0 : Int32).toInt = 0 := by decide
                    have y_25 : (25 : Int32).toInt = 25 := by decide
                    refine ⟨?_, ?_⟩ <;> omega
                  refine cV (a := (Ma 0)) (As := [.int x1]) (rest := [.int x_158, .ref (Ma 13)]) (wr := [((Ma 13), .inl (tc 0, 50, .inl vy_64)), ((Ma 12), .inl (tc 0, 46, .inl sv_53)), ((Ma 2), .inl (tc 0, 2400, .inl (Mf 2))), ((Ma 4), .inl (tc 0, 288, .inl (Mf 4))), ((Ma 5), .inl (tc 0, 6, .inl (Mf 5))), ((Ma 8), .inl (tc 1, 64, .inr (.inl sv_154))), ((Ma 9), .inl (tc 1, 13, .inr (.inl sv_155)))]) ⟨hx, hb, hml, hown, hts⟩ hK hX hA (cu_X12_valueOf l D tc sk (Ma 0) (Ma 1) (Ma 2) (Ma 3) (Ma 4) (Ma 5) (Ma 6) (Ma 7) (Ma 8) (Ma 9) (Ma 10) (Ma 11) (Ma 12) (Ma 13) (Ma 14) (Ma 15) (Ma 16) (Ma 17) (Ma 18) (Ma 19) (Ma 20) (Mv 0) (Mv 1) (Mv 2) (Mv 3) (Mv 4) (Mv 5) (Mv 6) (Mv 7) (Mv 8) (Mv 9) sv_153 (Mv 11) (Mv 12) (Mv 13) (Mv 14) sv_156 (Mj 0) x1 ha_159) k_1578 k_1575 k_1577 k_86 k_106 pl_X12_valueOf ⟨Nat.le_of_ble_eq_true rfl, Nat.le_of_ble_eq_true rfl⟩ rfl rfl (va_recv hK hP (ci := 12) (q0 := 2) rfl rfl) hP hD hS [2, 8] [0, 1, 3, 4, 5, 6, 7] rfl rfl rfl rfl rfl (by decide) rfl hl.1 rfl (Nat.le_of_ble_eq_true rfl) dX12_rests_147 ⟨Nat.le_of_ble_eq_true rfl, Nat.le_of_ble_eq_true rfl⟩ (fun v_160 u_161 H locs hv_162 hP₀ hD₀ hS₀ => ?_)
                  obtain ⟨r_163, rfl, he_164⟩ := hv_162
                  refine W.eq (g2 := F0 m 150 ls [.int r_163, .int x_158, .ref (Ma 13)]) rfl ?_
                  replace hP : va_P D classes [((Ma 13), .inl (tc 0, 50, .inl vy_64)), ((Ma 12), .inl (tc 0, 46, .inl sv_53)), ((Ma 2), .inl (tc 0, 2400, .inl (Mf 2))), ((Ma 4), .inl (tc 0, 288, .inl (Mf 4))), ((Ma 5), .inl (tc 0, 6, .inl (Mf 5))), ((Ma 8), .inl (tc 1, 64, .inr (.inl sv_154))), ((Ma 9), .inl (tc 1, 13, .inr (.inl sv_155))), ((Ma 0), .inr (12, [.ref (Ma 1), .int (Mv 0), .int (Mv 1), .ref (Ma 2), .ref (Ma 3), .ref (Ma 4), .ref (Ma 5), .ref (Ma 6), .int (Mv 2), .int (Mv 3), .int (Mv 4), .int (Mv 5), .int (Mv 6), .int (Mv 7), .int (Mv 8), .ref (Ma 7), .int (Mv 9), .ref (Ma 8), .int sv_153, .ref (Ma 9), .ref (Ma 10), .int (Mv 11), .int (Mv 12), .int (Mv 13), .ref (Ma 11), .int (Mv 14), .ref (Ma 12), .ref (Ma 13), .ref (Ma 14), .ref (Ma 15), .ref (Ma 16), .long (Mj 0), .ref (Ma 17), .ref (Ma 18), .ref (Ma 19), .ref (Ma 20)])), ((Ma 10), .inl (tc 0, 126, .inl sv_156))] H := hP₀
                  replace hD : va_D A [((Ma 13), .inl (tc 0, 50, .inl vy_64)), ((Ma 12), .inl (tc 0, 46, .inl sv_53)), ((Ma 2), .inl (tc 0, 2400, .inl (Mf 2))), ((Ma 4), .inl (tc 0, 288, .inl (Mf 4))), ((Ma 5), .inl (tc 0, 6, .inl (Mf 5))), ((Ma 8), .inl (tc 1, 64, .inr (.inl sv_154))), ((Ma 9), .inl (tc 1, 13, .inr (.inl sv_155))), ((Ma 0), .inr (12, [.ref (Ma 1), .int (Mv 0), .int (Mv 1), .ref (Ma 2), .ref (Ma 3), .ref (Ma 4), .ref (Ma 5), .ref (Ma 6), .int (Mv 2), .int (Mv 3), .int (Mv 4), .int (Mv 5), .int (Mv 6), .int (Mv 7), .int (Mv 8), .ref (Ma 7), .int (Mv 9), .ref (Ma 8), .int sv_153, .ref (Ma 9), .ref (Ma 10), .int (Mv 11), .int (Mv 12), .int (Mv 13), .ref (Ma 11), .int (Mv 14), .ref (Ma 12), .ref (Ma 13), .ref (Ma 14), .ref (Ma 15), .ref (Ma 16), .long (Mj 0), .ref (Ma 17), .ref (Ma 18), .ref (Ma 19), .ref (Ma 20)])), ((Ma 10), .inl (tc 0, 126, .inl sv_156))] := hD₀
                  replace hS := hS₀
                  clear hP₀ hD₀ hS₀
                  refine lv_iload hx hb dX12_rests_150 (lv_at hl 2 rfl) ?_
                  refine lv_isub hx hb dX12_rests_152 ?_
                  refine lv_topi (fun x_166 ex_166 => ?_)
                  have hi_167 : vp_in x_158 50 := by
                    have z_1 : ¬ (r_4 : Int32).toInt = (0 : Int32).toInt := fun z => c_7 (Int32.toInt_inj.mp z)
                    have z_2 : ¬ (r_11 : Int32).toInt = (0 : Int32).toInt := fun z => c_14 (Int32.toInt_inj.mp z)
                    have z_3 : ¬ (x1 : Int32).toInt = (x2 : Int32).toInt := fun z => c_15 (Int32.toInt_inj.mp z)
                    have z_4 : ¬ (r_19 : Int32).toInt = (0 : Int32).toInt := fun z => c_22 (Int32.toInt_inj.mp z)
                    have z_5 : ¬ (r_26 : Int32).toInt = (0 : Int32).toInt := fun z => c_29 (Int32.toInt_inj.mp z)
                    have z_6 := Int32.lt_iff_toInt_lt.mp (Int32.not_le.mp c_73)
                    have y_0 : (0 : Int32).toInt = 0 := by decide
                    have y_25 : (25 : Int32).toInt = 25 := by decide
                    have y_2 : (2 : Int32).toInt = 2 := by decide
                    have t_x_158 : x_158.toInt = (2 : Int32).toInt * (vy_61 : Int32).toInt := by rw [ex_158]; exact mul_toInt (by first | omega | (rw [y_2]; omega)) (by first | omega | (rw [y_2]; omega))
                    rw [y_2] at t_x_158
                    refine vp_in_iff.mpr ⟨?_, ?_⟩ <;> omega
                  refine st_int hx hb hK hP hD hS 0 0 rfl rfl hi_167 dX12_rests_153 (fun g_168 H locs eg_168 hP₀ hD₀ hS₀ => ?_)
                  replace hP : va_P D classes [((Ma 13), .inl (tc 0, 50, .inl g_168)), ((Ma 12), .inl (tc 0, 46, .inl sv_53)), ((Ma 2), .inl (tc 0, 2400, .inl (Mf 2))), ((Ma 4), .inl (tc 0, 288, .inl (Mf 4))), ((Ma 5), .inl (tc 0, 6, .inl (Mf 5))), ((Ma 8), .inl (tc 1, 64, .inr (.inl sv_154))), ((Ma 9), .inl (tc 1, 13, .inr (.inl sv_155))), ((Ma 0), .inr (12, [.ref (Ma 1), .int (Mv 0), .int (Mv 1), .ref (Ma 2), .ref (Ma 3), .ref (Ma 4), .ref (Ma 5), .ref (Ma 6), .int (Mv 2), .int (Mv 3), .int (Mv 4), .int (Mv 5), .int (Mv 6), .int (Mv 7), .int (Mv 8), .ref (Ma 7), .int (Mv 9), .ref (Ma 8), .int sv_153, .ref (Ma 9), .ref (Ma 10), .int (Mv 11), .int (Mv 12), .int (Mv 13), .ref (Ma 11), .int (Mv 14), .ref (Ma 12), .ref (Ma 13), .ref (Ma 14), .ref (Ma 15), .ref (Ma 16), .long (Mj 0), .ref (Ma 17), .ref (Ma 18), .ref (Ma 19), .ref (Ma 20)])), ((Ma 10), .inl (tc 0, 126, .inl sv_156))] H := hP₀
                  replace hD : va_D A [((Ma 13), .inl (tc 0, 50, .inl g_168)), ((Ma 12), .inl (tc 0, 46, .inl sv_53)), ((Ma 2), .inl (tc 0, 2400, .inl (Mf 2))), ((Ma 4), .inl (tc 0, 288, .inl (Mf 4))), ((Ma 5), .inl (tc 0, 6, .inl (Mf 5))), ((Ma 8), .inl (tc 1, 64, .inr (.inl sv_154))), ((Ma 9), .inl (tc 1, 13, .inr (.inl sv_155))), ((Ma 0), .inr (12, [.ref (Ma 1), .int (Mv 0), .int (Mv 1), .ref (Ma 2), .ref (Ma 3), .ref (Ma 4), .ref (Ma 5), .ref (Ma 6), .int (Mv 2), .int (Mv 3), .int (Mv 4), .int (Mv 5), .int (Mv 6), .int (Mv 7), .int (Mv 8), .ref (Ma 7), .int (Mv 9), .ref (Ma 8), .int sv_153, .ref (Ma 9), .ref (Ma 10), .int (Mv 11), .int (Mv 12), .int (Mv 13), .ref (Ma 11), .int (Mv 14), .ref (Ma 12), .ref (Ma 13), .ref (Ma 14), .ref (Ma 15), .ref (Ma 16), .long (Mj 0), .ref (Ma 17), .ref (Ma 18), .ref (Ma 19), .ref (Ma 20)])), ((Ma 10), .inl (tc 0, 126, .inl sv_156))] := hD₀
                  replace hS := hS₀
                  clear hP₀ hD₀ hS₀
                  refine lv_aload_n hx hb dX12_rests_154 rfl (lv_at hl 5 rfl) ?_
                  refine gf_X12_52 hx hb hts hown hK hP 7 rfl rfl dX12_rests_155 ?_
                  refine lv_iconst (v := 2) hx hb dX12_rests_158 (by decide) ?_
                  refine lv_iload hx hb dX12_rests_159 (lv_at hl 0 rfl) ?_
                  refine lv_imul hx hb dX12_rests_161 ?_
                  refine lv_topi (fun x_169 ex_169 => ?_)
                  refine lv_iconst (v := 1) hx hb dX12_rests_162 (by decide) ?_
                  refine lv_iadd hx hb dX12_rests_163 ?_
                  refine lv_topi (fun x_170 ex_170 => ?_)
                  refine lv_aload_n hx hb dX12_rests_164 rfl (lv_at hl 5 rfl) ?_
                  refine lv_iload_n hx hb dX12_rests_165 rfl (lv_at hl 7 rfl) ?_
                  have ha_171 : 0 ≤ x2.toInt ∧ x2.toInt < 6 := by
                    have z_1 : ¬ (r_4 : Int32).toInt = (0 : Int32).toInt := fun z => c_7 (Int32.toInt_inj.mp z)
                    have z_2 : ¬ (r_11 : Int32).toInt = (0 : Int32).toInt := fun z => c_14 (Int32.toInt_inj.mp z)
                    have z_3 : ¬ (x1 : Int32).toInt = (x2 : Int32).toInt := fun z => c_15 (Int32.toInt_inj.mp z)
                    have z_4 : ¬ (r_19 : Int32).toInt = (0 : Int32).toInt := fun z => c_22 (Int32.toInt_inj.mp z)
                    have z_5 : ¬ (r_26 : Int32).toInt = (0 : Int32).toInt := fun z => c_29 (Int32.toInt_inj.mp z)
                    have z_6 := Int32.lt_iff_toInt_lt.mp (Int32.not_le.mp c_73)
                    have y_0 : (0 : Int32).toInt = 0 := by decide
                    have y_25 : (25 : Int32).toInt = 25 := by decide
                    refine ⟨?_, ?_⟩ <;> omega
                  refine cV (a := (Ma 0)) (As := [.int x2]) (rest := [.int x_170, .ref (Ma 13)]) (wr := [((Ma 13), .inl (tc 0, 50, .inl g_168)), ((Ma 12), .inl (tc 0, 46, .inl sv_53)), ((Ma 2), .inl (tc 0, 2400, .inl (Mf 2))), ((Ma 4), .inl (tc 0, 288, .inl (Mf 4))), ((Ma 5), .inl (tc 0, 6, .inl (Mf 5))), ((Ma 8), .inl (tc 1, 64, .inr (.inl sv_154))), ((Ma 9), .inl (tc 1, 13, .inr (.inl sv_155)))]) ⟨hx, hb, hml, hown, hts⟩ hK hX hA (cu_X12_valueOf l D tc sk (Ma 0) (Ma 1) (Ma 2) (Ma 3) (Ma 4) (Ma 5) (Ma 6) (Ma 7) (Ma 8) (Ma 9) (Ma 10) (Ma 11) (Ma 12) (Ma 13) (Ma 14) (Ma 15) (Ma 16) (Ma 17) (Ma 18) (Ma 19) (Ma 20) (Mv 0) (Mv 1) (Mv 2) (Mv 3) (Mv 4) (Mv 5) (Mv 6) (Mv 7) (Mv 8) (Mv 9) sv_153 (Mv 11) (Mv 12) (Mv 13) (Mv 14) sv_156 (Mj 0) x2 ha_171) k_1578 k_1575 k_1577 k_86 k_106 pl_X12_valueOf ⟨Nat.le_of_ble_eq_true rfl, Nat.le_of_ble_eq_true rfl⟩ rfl rfl (va_recv hK hP (ci := 12) (q0 := 7) rfl rfl) hP hD hS [7, 8] [0, 1, 2, 3, 4, 5, 6] rfl rfl rfl rfl rfl (by decide) rfl hl.1 rfl (Nat.le_of_ble_eq_true rfl) dX12_rests_166 ⟨Nat.le_of_ble_eq_true rfl, Nat.le_of_ble_eq_true rfl⟩ (fun v_172 u_173 H locs hv_174 hP₀ hD₀ hS₀ => ?_)
                  obtain ⟨r_175, rfl, he_176⟩ := hv_174
                  refine W.eq (g2 := F0 m 169 ls [.int r_175, .int x_170, .ref (Ma 13)]) rfl ?_
                  replace hP : va_P D classes [((Ma 13), .inl (tc 0, 50, .inl g_168)), ((Ma 12), .inl (tc 0, 46, .inl sv_53)), ((Ma 2), .inl (tc 0, 2400, .inl (Mf 2))), ((Ma 4), .inl (tc 0, 288, .inl (Mf 4))), ((Ma 5), .inl (tc 0, 6, .inl (Mf 5))), ((Ma 8), .inl (tc 1, 64, .inr (.inl sv_154))), ((Ma 9), .inl (tc 1, 13, .inr (.inl sv_155))), ((Ma 0), .inr (12, [.ref (Ma 1), .int (Mv 0), .int (Mv 1), .ref (Ma 2), .ref (Ma 3), .ref (Ma 4), .ref (Ma 5), .ref (Ma 6), .int (Mv 2), .int (Mv 3), .int (Mv 4), .int (Mv 5), .int (Mv 6), .int (Mv 7), .int (Mv 8), .ref (Ma 7), .int (Mv 9), .ref (Ma 8), .int sv_153, .ref (Ma 9), .ref (Ma 10), .int (Mv 11), .int (Mv 12), .int (Mv 13), .ref (Ma 11), .int (Mv 14), .ref (Ma 12), .ref (Ma 13), .ref (Ma 14), .ref (Ma 15), .ref (Ma 16), .long (Mj 0), .ref (Ma 17), .ref (Ma 18), .ref (Ma 19), .ref (Ma 20)])), ((Ma 10), .inl (tc 0, 126, .inl sv_156))] H := hP₀
                  replace hD : va_D A [((Ma 13), .inl (tc 0, 50, .inl g_168)), ((Ma 12), .inl (tc 0, 46, .inl sv_53)), ((Ma 2), .inl (tc 0, 2400, .inl (Mf 2))), ((Ma 4), .inl (tc 0, 288, .inl (Mf 4))), ((Ma 5), .inl (tc 0, 6, .inl (Mf 5))), ((Ma 8), .inl (tc 1, 64, .inr (.inl sv_154))), ((Ma 9), .inl (tc 1, 13, .inr (.inl sv_155))), ((Ma 0), .inr (12, [.ref (Ma 1), .int (Mv 0), .int (Mv 1), .ref (Ma 2), .ref (Ma 3), .ref (Ma 4), .ref (Ma 5), .ref (Ma 6), .int (Mv 2), .int (Mv 3), .int (Mv 4), .int (Mv 5), .int (Mv 6), .int (Mv 7), .int (Mv 8), .ref (Ma 7), .int (Mv 9), .ref (Ma 8), .int sv_153, .ref (Ma 9), .ref (Ma 10), .int (Mv 11), .int (Mv 12), .int (Mv 13), .ref (Ma 11), .int (Mv 14), .ref (Ma 12), .ref (Ma 13), .ref (Ma 14), .ref (Ma 15), .ref (Ma 16), .long (Mj 0), .ref (Ma 17), .ref (Ma 18), .ref (Ma 19), .ref (Ma 20)])), ((Ma 10), .inl (tc 0, 126, .inl sv_156))] := hD₀
                  replace hS := hS₀
                  clear hP₀ hD₀ hS₀
                  refine lv_iload hx hb dX12_rests_169 (lv_at hl 1 rfl) ?_
                  refine lv_isub hx hb dX12_rests_171 ?_
                  refine lv_topi (fun x_178 ex_178 => ?_)
                  have hi_179 : vp_in x_170 50 := by
                    have z_1 : ¬ (r_4 : Int32).toInt = (0 : Int32).toInt := fun z => c_7 (Int32.toInt_inj.mp z)
                    have z_2 : ¬ (r_11 : Int32).toInt = (0 : Int32).toInt := fun z => c_14 (Int32.toInt_inj.mp z)
                    have z_3 : ¬ (x1 : Int32).toInt = (x2 : Int32).toInt := fun z => c_15 (Int32.toInt_inj.mp z)
                    have z_4 : ¬ (r_19 : Int32).toInt = (0 : Int32).toInt := fun z => c_22 (Int32.toInt_inj.mp z)
                    have z_5 : ¬ (r_26 : Int32).toInt = (0 : Int32).toInt := fun z => c_29 (Int32.toInt_inj.mp z)
                    have z_6 := Int32.lt_iff_toInt_lt.mp (Int32.not_le.mp c_73)
                    have y_0 : (0 : Int32).toInt = 0 := by decide
                    have y_25 : (25 : Int32).toInt = 25 := by decide
                    have y_1 : (1 : Int32).toInt = 1 := by decide
                    have y_2 : (2 : Int32).toInt = 2 := by decide
                    have t_x_169 : x_169.toInt = (2 : Int32).toInt * (vy_61 : Int32).toInt := by rw [ex_169]; exact mul_toInt (by first | omega | (rw [y_2]; omega)) (by first | omega | (rw [y_2]; omega))
                    rw [y_2] at t_x_169
                    have t_x_170 : x_170.toInt = (x_169 : Int32).toInt + (1 : Int32).toInt := by rw [ex_170]; exact add_toInt (by omega) (by omega)
                    refine vp_in_iff.mpr ⟨?_, ?_⟩ <;> omega
                  refine st_int hx hb hK hP hD hS 0 0 rfl rfl hi_179 dX12_rests_172 (fun g_180 H locs eg_180 hP₀ hD₀ hS₀ => ?_)
                  replace hP : va_P D classes [((Ma 13), .inl (tc 0, 50, .inl g_180)), ((Ma 12), .inl (tc 0, 46, .inl sv_53)), ((Ma 2), .inl (tc 0, 2400, .inl (Mf 2))), ((Ma 4), .inl (tc 0, 288, .inl (Mf 4))), ((Ma 5), .inl (tc 0, 6, .inl (Mf 5))), ((Ma 8), .inl (tc 1, 64, .inr (.inl sv_154))), ((Ma 9), .inl (tc 1, 13, .inr (.inl sv_155))), ((Ma 0), .inr (12, [.ref (Ma 1), .int (Mv 0), .int (Mv 1), .ref (Ma 2), .ref (Ma 3), .ref (Ma 4), .ref (Ma 5), .ref (Ma 6), .int (Mv 2), .int (Mv 3), .int (Mv 4), .int (Mv 5), .int (Mv 6), .int (Mv 7), .int (Mv 8), .ref (Ma 7), .int (Mv 9), .ref (Ma 8), .int sv_153, .ref (Ma 9), .ref (Ma 10), .int (Mv 11), .int (Mv 12), .int (Mv 13), .ref (Ma 11), .int (Mv 14), .ref (Ma 12), .ref (Ma 13), .ref (Ma 14), .ref (Ma 15), .ref (Ma 16), .long (Mj 0), .ref (Ma 17), .ref (Ma 18), .ref (Ma 19), .ref (Ma 20)])), ((Ma 10), .inl (tc 0, 126, .inl sv_156))] H := hP₀
                  replace hD : va_D A [((Ma 13), .inl (tc 0, 50, .inl g_180)), ((Ma 12), .inl (tc 0, 46, .inl sv_53)), ((Ma 2), .inl (tc 0, 2400, .inl (Mf 2))), ((Ma 4), .inl (tc 0, 288, .inl (Mf 4))), ((Ma 5), .inl (tc 0, 6, .inl (Mf 5))), ((Ma 8), .inl (tc 1, 64, .inr (.inl sv_154))), ((Ma 9), .inl (tc 1, 13, .inr (.inl sv_155))), ((Ma 0), .inr (12, [.ref (Ma 1), .int (Mv 0), .int (Mv 1), .ref (Ma 2), .ref (Ma 3), .ref (Ma 4), .ref (Ma 5), .ref (Ma 6), .int (Mv 2), .int (Mv 3), .int (Mv 4), .int (Mv 5), .int (Mv 6), .int (Mv 7), .int (Mv 8), .ref (Ma 7), .int (Mv 9), .ref (Ma 8), .int sv_153, .ref (Ma 9), .ref (Ma 10), .int (Mv 11), .int (Mv 12), .int (Mv 13), .ref (Ma 11), .int (Mv 14), .ref (Ma 12), .ref (Ma 13), .ref (Ma 14), .ref (Ma 15), .ref (Ma 16), .long (Mj 0), .ref (Ma 17), .ref (Ma 18), .ref (Ma 19), .ref (Ma 20)])), ((Ma 10), .inl (tc 0, 126, .inl sv_156))] := hD₀
                  replace hS := hS₀
                  clear hP₀ hD₀ hS₀
                  refine lv_aload_n hx hb dX12_rests_173 rfl (lv_at hl 5 rfl) ?_
                  refine cV (a := (Ma 0)) (As := []) (rest := []) (wr := [((Ma 13), .inl (tc 0, 50, .inl g_180)), ((Ma 2), .inl (tc 0, 2400, .inl (Mf 2))), ((Ma 4), .inl (tc 0, 288, .inl (Mf 4))), ((Ma 5), .inl (tc 0, 6, .inl (Mf 5))), ((Ma 8), .inl (tc 1, 64, .inr (.inl sv_154))), ((Ma 9), .inl (tc 1, 13, .inr (.inl sv_155)))]) ⟨hx, hb, hml, hown, hts⟩ hK hX hA (cu_X12_laysBack l D tc sk (Ma 0) (Ma 1) (Ma 2) (Ma 3) (Ma 4) (Ma 5) (Ma 6) (Ma 7) (Ma 8) (Ma 9) (Ma 10) (Ma 11) (Ma 12) (Ma 13) (Ma 14) (Ma 15) (Ma 16) (Ma 17) (Ma 18) (Ma 19) (Ma 20) (Mv 0) (Mv 1) (Mv 2) (Mv 3) (Mv 4) (Mv 5) (Mv 6) (Mv 7) (Mv 8) (Mv 9) sv_153 (Mv 11) (Mv 12) (Mv 13) (Mv 14) sv_156 sv_53 (Mj 0) pf_157.1 pf_54) k_1513 k_1510 k_1512 k_82 k_106 pl_X12_laysBack ⟨Nat.le_of_ble_eq_true rfl, Nat.le_of_ble_eq_true rfl⟩ rfl rfl (va_recv hK hP (ci := 12) (q0 := 7) rfl rfl) hP hD hS [7, 8, 1] [0, 2, 3, 4, 5, 6] rfl rfl rfl rfl rfl (by decide) rfl hl.1 rfl (Nat.le_of_ble_eq_true rfl) dX12_rests_174 ⟨Nat.le_of_ble_eq_true rfl, Nat.le_of_ble_eq_true rfl⟩ (fun v_181 u_182 H locs hv_183 hP₀ hD₀ hS₀ => ?_)
                  obtain ⟨sv_184, rfl⟩ : ∃ z, z = u_182 := ⟨_, rfl⟩
                  obtain ⟨rfl, pf_185⟩ := hv_183
                  have pf_185 : SaidD Tw sv_184 999 := pf_185
                  have ar_pf_185 := SaidD.al pf_185
                  refine W.eq (g2 := F0 m 177 ls []) rfl ?_
                  replace hP : va_P D classes [((Ma 13), .inl (tc 0, 50, .inl g_180)), ((Ma 2), .inl (tc 0, 2400, .inl (Mf 2))), ((Ma 4), .inl (tc 0, 288, .inl (Mf 4))), ((Ma 5), .inl (tc 0, 6, .inl (Mf 5))), ((Ma 8), .inl (tc 1, 64, .inr (.inl sv_154))), ((Ma 9), .inl (tc 1, 13, .inr (.inl sv_155))), ((Ma 0), .inr (12, [.ref (Ma 1), .int (Mv 0), .int (Mv 1), .ref (Ma 2), .ref (Ma 3), .ref (Ma 4), .ref (Ma 5), .ref (Ma 6), .int (Mv 2), .int (Mv 3), .int (Mv 4), .int (Mv 5), .int (Mv 6), .int (Mv 7), .int (Mv 8), .ref (Ma 7), .int (Mv 9), .ref (Ma 8), .int sv_153, .ref (Ma 9), .ref (Ma 10), .int (Mv 11), .int (Mv 12), .int (Mv 13), .ref (Ma 11), .int (Mv 14), .ref (Ma 12), .ref (Ma 13), .ref (Ma 14), .ref (Ma 15), .ref (Ma 16), .long (Mj 0), .ref (Ma 17), .ref (Ma 18), .ref (Ma 19), .ref (Ma 20)])), ((Ma 10), .inl (tc 0, 126, .inl sv_184)), ((Ma 12), .inl (tc 0, 46, .inl sv_53))] H := hP₀
                  replace hD : va_D A [((Ma 13), .inl (tc 0, 50, .inl g_180)), ((Ma 2), .inl (tc 0, 2400, .inl (Mf 2))), ((Ma 4), .inl (tc 0, 288, .inl (Mf 4))), ((Ma 5), .inl (tc 0, 6, .inl (Mf 5))), ((Ma 8), .inl (tc 1, 64, .inr (.inl sv_154))), ((Ma 9), .inl (tc 1, 13, .inr (.inl sv_155))), ((Ma 0), .inr (12, [.ref (Ma 1), .int (Mv 0), .int (Mv 1), .ref (Ma 2), .ref (Ma 3), .ref (Ma 4), .ref (Ma 5), .ref (Ma 6), .int (Mv 2), .int (Mv 3), .int (Mv 4), .int (Mv 5), .int (Mv 6), .int (Mv 7), .int (Mv 8), .ref (Ma 7), .int (Mv 9), .ref (Ma 8), .int sv_153, .ref (Ma 9), .ref (Ma 10), .int (Mv 11), .int (Mv 12), .int (Mv 13), .ref (Ma 11), .int (Mv 14), .ref (Ma 12), .ref (Ma 13), .ref (Ma 14), .ref (Ma 15), .ref (Ma 16), .long (Mj 0), .ref (Ma 17), .ref (Ma 18), .ref (Ma 19), .ref (Ma 20)])), ((Ma 10), .inl (tc 0, 126, .inl sv_184)), ((Ma 12), .inl (tc 0, 46, .inl sv_53))] := hD₀
                  replace hS := hS₀
                  clear hP₀ hD₀ hS₀
                  obtain ⟨x_186, ex_186⟩ : ∃ y : Int32, y = vy_61 + 1 := ⟨_, rfl⟩
                  refine lv_iinc (v := x_186) (lv' := [(9, .int x_186), (8, .int r_47), (7, .int r_40), (6, .int x_35), (5, .int x_32), (0, .ref (Ma 0)), (1, .int x1), (2, .int x2), (3, .int x3), (4, .int x4)]) hx hb dX12_rests_177 hl (k := 0) rfl (by rw [ex_186]; rfl) (by decide) rfl (fun ls hl₀ => ?_)
                  replace hl := hl₀
                  clear hl₀
                  refine lv_goto (tgt := 91) hx hb dX12_rests_180 (by decide) ?_
                  have hb_187 : 25 - (x_186 : Int32).toInt < 25 - (vy_61 : Int32).toInt ∧ 1 ≤ 25 - (vy_61 : Int32).toInt := by
                    have z_1 : ¬ (r_4 : Int32).toInt = (0 : Int32).toInt := fun z => c_7 (Int32.toInt_inj.mp z)
                    have z_2 : ¬ (r_11 : Int32).toInt = (0 : Int32).toInt := fun z => c_14 (Int32.toInt_inj.mp z)
                    have z_3 : ¬ (x1 : Int32).toInt = (x2 : Int32).toInt := fun z => c_15 (Int32.toInt_inj.mp z)
                    have z_4 : ¬ (r_19 : Int32).toInt = (0 : Int32).toInt := fun z => c_22 (Int32.toInt_inj.mp z)
                    have z_5 : ¬ (r_26 : Int32).toInt = (0 : Int32).toInt := fun z => c_29 (Int32.toInt_inj.mp z)
                    have z_6 := Int32.lt_iff_toInt_lt.mp (Int32.not_le.mp c_73)
                    have y_0 : (0 : Int32).toInt = 0 := by decide
                    have y_25 : (25 : Int32).toInt = 25 := by decide
                    have y_1 : (1 : Int32).toInt = 1 := by decide
                    have t_x_186 : x_186.toInt = (vy_61 : Int32).toInt + (1 : Int32).toInt := by rw [ex_186]; exact add_toInt (by omega) (by omega)
                    refine ⟨?_, ?_⟩ <;> omega
                  have ha_188 : 0 ≤ (x_186 : Int32).toInt := by
                    have z_1 : ¬ (r_4 : Int32).toInt = (0 : Int32).toInt := fun z => c_7 (Int32.toInt_inj.mp z)
                    have z_2 : ¬ (r_11 : Int32).toInt = (0 : Int32).toInt := fun z => c_14 (Int32.toInt_inj.mp z)
                    have z_3 : ¬ (x1 : Int32).toInt = (x2 : Int32).toInt := fun z => c_15 (Int32.toInt_inj.mp z)
                    have z_4 : ¬ (r_19 : Int32).toInt = (0 : Int32).toInt := fun z => c_22 (Int32.toInt_inj.mp z)
                    have z_5 : ¬ (r_26 : Int32).toInt = (0 : Int32).toInt := fun z => c_29 (Int32.toInt_inj.mp z)
                    have z_6 := Int32.lt_iff_toInt_lt.mp (Int32.not_le.mp c_73)
                    have y_0 : (0 : Int32).toInt = 0 := by decide
                    have y_25 : (25 : Int32).toInt = 25 := by decide
                    have y_1 : (1 : Int32).toInt = 1 := by decide
                    have t_x_186 : x_186.toInt = (vy_61 : Int32).toInt + (1 : Int32).toInt := by rw [ex_186]; exact add_toInt (by omega) (by omega)
                    omega
                  exact ih_68 x_186 sv_154 sv_155 g_180 sv_153 sv_184 _ _ _ (by omega) ha_188 pf_185 (hP.sub [1, 2, 3, 4, 5, 0, 6, 7, 8] rfl) (hD.sub [1, 2, 3, 4, 5, 0, 6, 7, 8] rfl rfl) hS (lv_sub hl [0, 1, 2, 3, 4, 5, 6, 7, 8, 9] rfl)
            have ha_189 : 0 ≤ (0 : Int32).toInt := by
              have z_1 : ¬ (r_4 : Int32).toInt = (0 : Int32).toInt := fun z => c_7 (Int32.toInt_inj.mp z)
              have z_2 : ¬ (r_11 : Int32).toInt = (0 : Int32).toInt := fun z => c_14 (Int32.toInt_inj.mp z)
              have z_3 : ¬ (x1 : Int32).toInt = (x2 : Int32).toInt := fun z => c_15 (Int32.toInt_inj.mp z)
              have z_4 : ¬ (r_19 : Int32).toInt = (0 : Int32).toInt := fun z => c_22 (Int32.toInt_inj.mp z)
              have z_5 : ¬ (r_26 : Int32).toInt = (0 : Int32).toInt := fun z => c_29 (Int32.toInt_inj.mp z)
              have y_0 : (0 : Int32).toInt = 0 := by decide
              omega
            exact loop_69 _ 0 (Mg 8) (Mg 9) (Mf 13) (Mv 10) (Mf 10) _ _ _ (Nat.lt_succ_self _) ha_189 h_saidw hP hD hS hl
          · skip
            refine lv_iconst (v := (-1)) hx hb dX12_rests_46 (by decide) ?_
            exact retI (v := (-1)) hx hb hr hlk (rfl) hP hD hS ((Mv 10), (Mg 8), (Mg 9), (Mf 10), (Mf 12), (Mf 13)) ⟨_, rfl, trivial, h_said⟩ [7, 0, 1, 2, 3, 4, 8, 5, 6] rfl rfl dX12_rests_47 (Nat.le_of_ble_eq_true rfl) (Nat.le_of_ble_eq_true rfl) rfl
