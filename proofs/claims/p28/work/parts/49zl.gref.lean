set_option maxHeartbeats 4000000 in
set_option maxRecDepth 100000 in
theorem ct_gX12_isBuyer {T : Nat → Int32} (l : Launch) (D : va_G) (tc : Nat → ClassId) (sk : (Nat → Nat) × (Nat → Nat)) (Ma : Nat → Nat) (Mv : Nat → Int32) (Mf : Nat → Nat → Int32) (Mj : Nat → Int64) (x1 : Int32) (h_said : SaidB T (Mf 10)) : Ct l yX12_isBuyer cX12_isBuyer 2 (some .boolean) { frames := 0, cells := 0, slots := 0, locals := 0 } D tc sk [.ref (Ma 0), .int x1] [((Ma 0), .inr (12, [.ref (Ma 1), .int (Mv 0), .int (Mv 1), .ref (Ma 2), .ref (Ma 3), .ref (Ma 4), .ref (Ma 5), .ref (Ma 6), .int (Mv 2), .int (Mv 3), .int (Mv 4), .int (Mv 5), .int (Mv 6), .int (Mv 7), .int (Mv 8), .ref (Ma 7), .int (Mv 9), .ref (Ma 8), .int (Mv 10), .ref (Ma 9), .ref (Ma 10), .int (Mv 11), .int (Mv 12), .int (Mv 13), .ref (Ma 11), .int (Mv 14), .ref (Ma 12), .ref (Ma 13), .ref (Ma 14), .ref (Ma 15), .ref (Ma 16), .long (Mj 0), .ref (Ma 17), .ref (Ma 18), .ref (Ma 19), .ref (Ma 20)])), ((Ma 10), .inl (tc 0, 126, .inl (Mf 10)))] (fun (v : Option Value) (_ : Unit) => ∃ r : Int32, v = some (.int r) ∧ (((r.toInt = 0 ∧ (x1.toInt < 0 ∨ ((Mf 10) 3).toInt ≤ x1.toInt)) ∨ (r.toInt = 1 ∧ 0 ≤ x1.toInt ∧ x1.toInt < ((Mf 10) 3).toInt)))) (fun (_ : Unit) => [((Ma 0), .inr (12, [.ref (Ma 1), .int (Mv 0), .int (Mv 1), .ref (Ma 2), .ref (Ma 3), .ref (Ma 4), .ref (Ma 5), .ref (Ma 6), .int (Mv 2), .int (Mv 3), .int (Mv 4), .int (Mv 5), .int (Mv 6), .int (Mv 7), .int (Mv 8), .ref (Ma 7), .int (Mv 9), .ref (Ma 8), .int (Mv 10), .ref (Ma 9), .ref (Ma 10), .int (Mv 11), .int (Mv 12), .int (Mv 13), .ref (Ma 11), .int (Mv 14), .ref (Ma 12), .ref (Ma 13), .ref (Ma 14), .ref (Ma 15), .ref (Ma 16), .long (Mj 0), .ref (Ma 17), .ref (Ma 18), .ref (Ma 19), .ref (Ma 20)])), ((Ma 10), .inl (tc 0, 126, .inl (Mf 10)))]) 0 0 := by
  refine Ct.start (by decide) (Nat.le_of_ble_eq_true rfl) (fun p e s m below meth c A ls hx hb hr hlk hin hml hown hts hK hX hP hD hA hl hS => ?_)
  have hl : lv_has ls 2 [(0, .ref (Ma 0)), (1, .int x1)] := hl
  have ar_h_said := SaidB.al h_said
  refine lv_iload_n hx hb dX12_isBuyer_0 rfl (lv_at hl 1 rfl) ?_
  refine lv_if_lt (tgt := 18) hx hb dX12_isBuyer_1 (by decide) (fun c_1 => ?_) (fun c_1 => ?_)
  · skip
    refine lv_iconst (v := 0) hx hb dX12_isBuyer_18 (by decide) ?_
    have hp_2 : (((0 : Int32).toInt = 0 ∧ (x1.toInt < 0 ∨ ((Mf 10) 3).toInt ≤ x1.toInt)) ∨ ((0 : Int32).toInt = 1 ∧ 0 ≤ x1.toInt ∧ x1.toInt < ((Mf 10) 3).toInt)) := by
      have z_1 := Int32.lt_iff_toInt_lt.mp c_1
      have y_0 : (0 : Int32).toInt = 0 := by decide
      omega
    exact retI (v := 0) hx hb hr hlk (rfl) hP hD hS () ⟨_, rfl, hp_2⟩ [0, 1] rfl rfl dX12_isBuyer_19 (Nat.le_of_ble_eq_true rfl) (Nat.le_of_ble_eq_true rfl) rfl
  · skip
    refine lv_iload_n hx hb dX12_isBuyer_4 rfl (lv_at hl 1 rfl) ?_
    refine lv_aload_n hx hb dX12_isBuyer_5 rfl (lv_at hl 0 rfl) ?_
    refine gf_X12_39 hx hb hts hown hK hP 0 rfl rfl dX12_isBuyer_6 ?_
    refine lv_iconst (v := 3) hx hb dX12_isBuyer_9 (by decide) ?_
    refine va_iald hx hb hK hP 1 0 rfl rfl (vin_dec (by decide +kernel)) dX12_isBuyer_10 ?_
    refine lv_topi (fun x_3 ex_3 => ?_)
    have lx_3 : x_3.toInt = ((Mf 10) 3).toInt := congrArg Int32.toInt ex_3
    refine lv_icmp_ge (tgt := 18) hx hb dX12_isBuyer_11 (by decide) (fun c_4 => ?_) (fun c_4 => ?_)
    · skip
      refine lv_iconst (v := 0) hx hb dX12_isBuyer_18 (by decide) ?_
      have hp_5 : (((0 : Int32).toInt = 0 ∧ (x1.toInt < 0 ∨ ((Mf 10) 3).toInt ≤ x1.toInt)) ∨ ((0 : Int32).toInt = 1 ∧ 0 ≤ x1.toInt ∧ x1.toInt < ((Mf 10) 3).toInt)) := by
        have z_1 := Int32.le_iff_toInt_le.mp (Int32.not_lt.mp c_1)
        have z_2 := Int32.le_iff_toInt_le.mp c_4
        have y_0 : (0 : Int32).toInt = 0 := by decide
        omega
      exact retI (v := 0) hx hb hr hlk (rfl) hP hD hS () ⟨_, rfl, hp_5⟩ [0, 1] rfl rfl dX12_isBuyer_19 (Nat.le_of_ble_eq_true rfl) (Nat.le_of_ble_eq_true rfl) rfl
    · skip
      refine lv_iconst (v := 1) hx hb dX12_isBuyer_14 (by decide) ?_
      refine lv_goto (tgt := 19) hx hb dX12_isBuyer_15 (by decide) ?_
      have hp_6 : (((1 : Int32).toInt = 0 ∧ (x1.toInt < 0 ∨ ((Mf 10) 3).toInt ≤ x1.toInt)) ∨ ((1 : Int32).toInt = 1 ∧ 0 ≤ x1.toInt ∧ x1.toInt < ((Mf 10) 3).toInt)) := by
        have z_1 := Int32.le_iff_toInt_le.mp (Int32.not_lt.mp c_1)
        have z_2 := Int32.lt_iff_toInt_lt.mp (Int32.not_le.mp c_4)
        have y_0 : (0 : Int32).toInt = 0 := by decide
        have y_1 : (1 : Int32).toInt = 1 := by decide
        have yr : (1 : Int32).toInt = 1 := by decide
        omega
      exact retI (v := 1) hx hb hr hlk (rfl) hP hD hS () ⟨_, rfl, hp_6⟩ [0, 1] rfl rfl dX12_isBuyer_19 (Nat.le_of_ble_eq_true rfl) (Nat.le_of_ble_eq_true rfl) rfl
set_option maxRecDepth 100000 in
theorem cu_gX12_isBuyer {T : Nat → Int32} (l : Launch) (D : va_G) (tc : Nat → ClassId) (sk : (Nat → Nat) × (Nat → Nat)) (Ma_0 : Nat) (Ma_1 : Nat) (Ma_2 : Nat) (Ma_3 : Nat) (Ma_4 : Nat) (Ma_5 : Nat) (Ma_6 : Nat) (Ma_7 : Nat) (Ma_8 : Nat) (Ma_9 : Nat) (Ma_10 : Nat) (Ma_11 : Nat) (Ma_12 : Nat) (Ma_13 : Nat) (Ma_14 : Nat) (Ma_15 : Nat) (Ma_16 : Nat) (Ma_17 : Nat) (Ma_18 : Nat) (Ma_19 : Nat) (Ma_20 : Nat) (Mv_0 : Int32) (Mv_1 : Int32) (Mv_2 : Int32) (Mv_3 : Int32) (Mv_4 : Int32) (Mv_5 : Int32) (Mv_6 : Int32) (Mv_7 : Int32) (Mv_8 : Int32) (Mv_9 : Int32) (Mv_10 : Int32) (Mv_11 : Int32) (Mv_12 : Int32) (Mv_13 : Int32) (Mv_14 : Int32) (Mf_10 : Nat → Int32) (Mj_0 : Int64) (x1 : Int32) (h_said : SaidB T Mf_10) : Ct l yX12_isBuyer cX12_isBuyer 2 (some .boolean) { frames := 0, cells := 0, slots := 0, locals := 0 } D tc sk [.ref Ma_0, .int x1] [(Ma_0, .inr (12, [.ref Ma_1, .int Mv_0, .int Mv_1, .ref Ma_2, .ref Ma_3, .ref Ma_4, .ref Ma_5, .ref Ma_6, .int Mv_2, .int Mv_3, .int Mv_4, .int Mv_5, .int Mv_6, .int Mv_7, .int Mv_8, .ref Ma_7, .int Mv_9, .ref Ma_8, .int Mv_10, .ref Ma_9, .ref Ma_10, .int Mv_11, .int Mv_12, .int Mv_13, .ref Ma_11, .int Mv_14, .ref Ma_12, .ref Ma_13, .ref Ma_14, .ref Ma_15, .ref Ma_16, .long Mj_0, .ref Ma_17, .ref Ma_18, .ref Ma_19, .ref Ma_20])), (Ma_10, .inl (tc 0, 126, .inl Mf_10))] (fun (v : Option Value) (_ : Unit) => ∃ r : Int32, v = some (.int r) ∧ (((r.toInt = 0 ∧ (x1.toInt < 0 ∨ (Mf_10 3).toInt ≤ x1.toInt)) ∨ (r.toInt = 1 ∧ 0 ≤ x1.toInt ∧ x1.toInt < (Mf_10 3).toInt)))) (fun (_ : Unit) => [(Ma_0, .inr (12, [.ref Ma_1, .int Mv_0, .int Mv_1, .ref Ma_2, .ref Ma_3, .ref Ma_4, .ref Ma_5, .ref Ma_6, .int Mv_2, .int Mv_3, .int Mv_4, .int Mv_5, .int Mv_6, .int Mv_7, .int Mv_8, .ref Ma_7, .int Mv_9, .ref Ma_8, .int Mv_10, .ref Ma_9, .ref Ma_10, .int Mv_11, .int Mv_12, .int Mv_13, .ref Ma_11, .int Mv_14, .ref Ma_12, .ref Ma_13, .ref Ma_14, .ref Ma_15, .ref Ma_16, .long Mj_0, .ref Ma_17, .ref Ma_18, .ref Ma_19, .ref Ma_20])), (Ma_10, .inl (tc 0, 126, .inl Mf_10))]) 0 0 :=
  ct_gX12_isBuyer l D tc sk (fun k => ([Ma_0, Ma_1, Ma_2, Ma_3, Ma_4, Ma_5, Ma_6, Ma_7, Ma_8, Ma_9, Ma_10, Ma_11, Ma_12, Ma_13, Ma_14, Ma_15, Ma_16, Ma_17, Ma_18, Ma_19, Ma_20] : List (Nat)).getD k 0) (fun k => ([Mv_0, Mv_1, Mv_2, Mv_3, Mv_4, Mv_5, Mv_6, Mv_7, Mv_8, Mv_9, Mv_10, Mv_11, Mv_12, Mv_13, Mv_14] : List (Int32)).getD k 0) (fun k => ([(fun _ => 0), (fun _ => 0), (fun _ => 0), (fun _ => 0), (fun _ => 0), (fun _ => 0), (fun _ => 0), (fun _ => 0), (fun _ => 0), (fun _ => 0), Mf_10] : List (Nat → Int32)).getD k (fun _ => 0)) (fun k => ([Mj_0] : List (Int64)).getD k 0) x1 h_said
set_option maxHeartbeats 4000000 in
set_option maxRecDepth 100000 in
theorem ct_gX12_note {T : Nat → Int32} (l : Launch) (D : va_G) (tc : Nat → ClassId) (sk : (Nat → Nat) × (Nat → Nat)) (Ma : Nat → Nat) (Mv : Nat → Int32) (Mf : Nat → Nat → Int32) (Mj : Nat → Int64) (x1 : Int32) (x2 : Int32) (x3 : Int32) (h_said : SaidD T (Mf 10) 999) : Ct l yX12_note cX12_note 5 (some .int) { frames := 1, cells := 0, slots := 0, locals := 25 } D tc sk [.ref (Ma 0), .int x1, .int x2, .int x3] [((Ma 0), .inr (12, [.ref (Ma 1), .int (Mv 0), .int (Mv 1), .ref (Ma 2), .ref (Ma 3), .ref (Ma 4), .ref (Ma 5), .ref (Ma 6), .int (Mv 2), .int (Mv 3), .int (Mv 4), .int (Mv 5), .int (Mv 6), .int (Mv 7), .int (Mv 8), .ref (Ma 7), .int (Mv 9), .ref (Ma 8), .int (Mv 10), .ref (Ma 9), .ref (Ma 10), .int (Mv 11), .int (Mv 12), .int (Mv 13), .ref (Ma 11), .int (Mv 14), .ref (Ma 12), .ref (Ma 13), .ref (Ma 14), .ref (Ma 15), .ref (Ma 16), .long (Mj 0), .ref (Ma 17), .ref (Ma 18), .ref (Ma 19), .ref (Ma 20)])), ((Ma 10), .inl (tc 0, 126, .inl (Mf 10)))] (fun (v : Option Value) (oo0x1 : Nat → Int32) => ∃ r : Int32, v = some (.int r) ∧ (((x1.toInt = -1 ∧ r.toInt = 0 ∧ (oo0x1 125).toInt = 0) ∨ (¬ x1.toInt = -1 ∧ (x1.toInt < 0 ∨ 60 < x1.toInt ∨ x2.toInt < 0 ∨ ((Mf 10) 3).toInt ≤ x2.toInt ∨ x3.toInt < 0 ∨ 1 < x3.toInt ∨ ((Mf 10) 125).toInt < 0 ∨ 10 ≤ ((Mf 10) 125).toInt) ∧ r.toInt = -2 ∧ (oo0x1 125).toInt = ((Mf 10) 125).toInt) ∨ (0 ≤ x1.toInt ∧ x1.toInt ≤ 60 ∧ 0 ≤ x2.toInt ∧ x2.toInt < ((Mf 10) 3).toInt ∧ 0 ≤ x3.toInt ∧ x3.toInt ≤ 1 ∧ 0 ≤ ((Mf 10) 125).toInt ∧ ((Mf 10) 125).toInt < 10 ∧ r.toInt = ((Mf 10) 125).toInt + 1 ∧ (oo0x1 125).toInt = ((Mf 10) 125).toInt + 1))) ∧ (NtO (Mf 10) oo0x1)) (fun (oo0x1 : Nat → Int32) => [((Ma 0), .inr (12, [.ref (Ma 1), .int (Mv 0), .int (Mv 1), .ref (Ma 2), .ref (Ma 3), .ref (Ma 4), .ref (Ma 5), .ref (Ma 6), .int (Mv 2), .int (Mv 3), .int (Mv 4), .int (Mv 5), .int (Mv 6), .int (Mv 7), .int (Mv 8), .ref (Ma 7), .int (Mv 9), .ref (Ma 8), .int (Mv 10), .ref (Ma 9), .ref (Ma 10), .int (Mv 11), .int (Mv 12), .int (Mv 13), .ref (Ma 11), .int (Mv 14), .ref (Ma 12), .ref (Ma 13), .ref (Ma 14), .ref (Ma 15), .ref (Ma 16), .long (Mj 0), .ref (Ma 17), .ref (Ma 18), .ref (Ma 19), .ref (Ma 20)])), ((Ma 10), .inl (tc 0, 126, .inl oo0x1))]) 0 0 := by
  refine Ct.start (by decide) (Nat.le_of_ble_eq_true rfl) (fun p e s m below meth c A ls hx hb hr hlk hin hml hown hts hK hX hP hD hA hl hS => ?_)
  have hl : lv_has ls 5 [(0, .ref (Ma 0)), (1, .int x1), (2, .int x2), (3, .int x3)] := hl
  have ar_h_said := SaidD.al h_said
  refine lv_iload_n hx hb dX12_note_0 rfl (lv_at hl 1 rfl) ?_
  refine lv_iconst (v := (-1)) hx hb dX12_note_1 (by decide) ?_
  refine lv_icmp_ne (tgt := 15) hx hb dX12_note_2 (by decide) (fun c_1 => ?_) (fun c_1 => ?_)
  · skip
    refine lv_iload_n hx hb dX12_note_15 rfl (lv_at hl 1 rfl) ?_
    refine lv_i2l (v := (x1).toInt64) hx hb dX12_note_16 rfl ?_
    refine lv_lconst (v := 0) hx hb dX12_note_17 (by decide) ?_
    refine lv_ldc2 hx hb hown (hts _ k_1553) dX12_note_18 ?_
    refine cS (As := [.long (x1).toInt64, .long 0, .long 60]) (rest := []) (wr := [((Ma 0), .inr (12, [.ref (Ma 1), .int (Mv 0), .int (Mv 1), .ref (Ma 2), .ref (Ma 3), .ref (Ma 4), .ref (Ma 5), .ref (Ma 6), .int (Mv 2), .int (Mv 3), .int (Mv 4), .int (Mv 5), .int (Mv 6), .int (Mv 7), .int (Mv 8), .ref (Ma 7), .int (Mv 9), .ref (Ma 8), .int (Mv 10), .ref (Ma 9), .ref (Ma 10), .int (Mv 11), .int (Mv 12), .int (Mv 13), .ref (Ma 11), .int (Mv 14), .ref (Ma 12), .ref (Ma 13), .ref (Ma 14), .ref (Ma 15), .ref (Ma 16), .long (Mj 0), .ref (Ma 17), .ref (Ma 18), .ref (Ma 19), .ref (Ma 20)])), ((Ma 10), .inl (tc 0, 126, .inl (Mf 10)))]) ⟨hx, hb, hml, hown, hts⟩ hK hX hA (ct_X12_in2 l D tc sk ((x1).toInt64) 0 60) k_1259 k_1257 k_1258 k_106 pl_X12_in ⟨Nat.le_of_ble_eq_true rfl, Nat.le_of_ble_eq_true rfl⟩ rfl rfl  hP hD hS [] [0, 1] rfl rfl rfl rfl rfl (by decide) rfl hl.1 rfl (Nat.le_of_ble_eq_true rfl) dX12_note_21 ⟨Nat.le_of_ble_eq_true rfl, Nat.le_of_ble_eq_true rfl⟩ (fun v_2 u_3 H locs hv_4 hP₀ hD₀ hS₀ => ?_)
    obtain ⟨r_5, rfl, he_6⟩ := hv_4
    have he_6 : ((r_5.toInt = 0 ∧ ((x1).toInt64.toInt < (0 : Int64).toInt ∨ (60 : Int64).toInt < (x1).toInt64.toInt)) ∨ (r_5.toInt = 1 ∧ (0 : Int64).toInt ≤ (x1).toInt64.toInt ∧ (x1).toInt64.toInt ≤ (60 : Int64).toInt)) := he_6
    refine W.eq (g2 := F0 m 24 ls [.int r_5]) rfl ?_
    replace hP : va_P D classes [((Ma 0), .inr (12, [.ref (Ma 1), .int (Mv 0), .int (Mv 1), .ref (Ma 2), .ref (Ma 3), .ref (Ma 4), .ref (Ma 5), .ref (Ma 6), .int (Mv 2), .int (Mv 3), .int (Mv 4), .int (Mv 5), .int (Mv 6), .int (Mv 7), .int (Mv 8), .ref (Ma 7), .int (Mv 9), .ref (Ma 8), .int (Mv 10), .ref (Ma 9), .ref (Ma 10), .int (Mv 11), .int (Mv 12), .int (Mv 13), .ref (Ma 11), .int (Mv 14), .ref (Ma 12), .ref (Ma 13), .ref (Ma 14), .ref (Ma 15), .ref (Ma 16), .long (Mj 0), .ref (Ma 17), .ref (Ma 18), .ref (Ma 19), .ref (Ma 20)])), ((Ma 10), .inl (tc 0, 126, .inl (Mf 10)))] H := hP₀
    replace hD : va_D A [((Ma 0), .inr (12, [.ref (Ma 1), .int (Mv 0), .int (Mv 1), .ref (Ma 2), .ref (Ma 3), .ref (Ma 4), .ref (Ma 5), .ref (Ma 6), .int (Mv 2), .int (Mv 3), .int (Mv 4), .int (Mv 5), .int (Mv 6), .int (Mv 7), .int (Mv 8), .ref (Ma 7), .int (Mv 9), .ref (Ma 8), .int (Mv 10), .ref (Ma 9), .ref (Ma 10), .int (Mv 11), .int (Mv 12), .int (Mv 13), .ref (Ma 11), .int (Mv 14), .ref (Ma 12), .ref (Ma 13), .ref (Ma 14), .ref (Ma 15), .ref (Ma 16), .long (Mj 0), .ref (Ma 17), .ref (Ma 18), .ref (Ma 19), .ref (Ma 20)])), ((Ma 10), .inl (tc 0, 126, .inl (Mf 10)))] := hD₀
    replace hS := hS₀
    clear hP₀ hD₀ hS₀
    have yl_he_6_0 : (0 : Int64).toInt = 0 := by decide
    have yl_he_6_60 : (60 : Int64).toInt = 60 := by decide
    simp only [i32_64] at he_6
    refine lv_if_eq (tgt := 57) hx hb dX12_note_24 (by decide) (fun c_8 => ?_) (fun c_8 => ?_)
    · skip
      refine lv_bipush (v := (-2)) hx hb dX12_note_57 (by decide) ?_
      have hp_9 : ((x1.toInt = -1 ∧ ((-2) : Int32).toInt = 0 ∧ ((Mf 10) 125).toInt = 0) ∨ (¬ x1.toInt = -1 ∧ (x1.toInt < 0 ∨ 60 < x1.toInt ∨ x2.toInt < 0 ∨ ((Mf 10) 3).toInt ≤ x2.toInt ∨ x3.toInt < 0 ∨ 1 < x3.toInt ∨ ((Mf 10) 125).toInt < 0 ∨ 10 ≤ ((Mf 10) 125).toInt) ∧ ((-2) : Int32).toInt = -2 ∧ ((Mf 10) 125).toInt = ((Mf 10) 125).toInt) ∨ (0 ≤ x1.toInt ∧ x1.toInt ≤ 60 ∧ 0 ≤ x2.toInt ∧ x2.toInt < ((Mf 10) 3).toInt ∧ 0 ≤ x3.toInt ∧ x3.toInt ≤ 1 ∧ 0 ≤ ((Mf 10) 125).toInt ∧ ((Mf 10) 125).toInt < 10 ∧ ((-2) : Int32).toInt = ((Mf 10) 125).toInt + 1 ∧ ((Mf 10) 125).toInt = ((Mf 10) 125).toInt + 1)) := by
        have z_1 : ¬ (x1 : Int32).toInt = ((-1) : Int32).toInt := fun z => c_1 (Int32.toInt_inj.mp z)
        have z_2 := congrArg Int32.toInt c_8
        have y_m1 : (-1 : Int32).toInt = -1 := by decide
        have y_0 : (0 : Int32).toInt = 0 := by decide
        have y_m2 : (-2 : Int32).toInt = -2 := by decide
        have yr : (-2 : Int32).toInt = -2 := by decide
        omega
      exact retI (v := (-2)) hx hb hr hlk (rfl) hP hD hS (Mf 10) ⟨_, rfl, hp_9, (NtO.rf h_said)⟩ [0, 1] rfl rfl dX12_note_59 (Nat.le_of_ble_eq_true rfl) (Nat.le_of_ble_eq_true rfl) rfl
    · skip
      refine lv_aload_n hx hb dX12_note_27 rfl (lv_at hl 0 rfl) ?_
      refine lv_iload_n hx hb dX12_note_28 rfl (lv_at hl 2 rfl) ?_
      refine cV (a := (Ma 0)) (As := [.int x2]) (rest := []) (wr := []) ⟨hx, hb, hml, hown, hts⟩ hK hX hA (cu_gX12_isBuyer l D tc sk (Ma 0) (Ma 1) (Ma 2) (Ma 3) (Ma 4) (Ma 5) (Ma 6) (Ma 7) (Ma 8) (Ma 9) (Ma 10) (Ma 11) (Ma 12) (Ma 13) (Ma 14) (Ma 15) (Ma 16) (Ma 17) (Ma 18) (Ma 19) (Ma 20) (Mv 0) (Mv 1) (Mv 2) (Mv 3) (Mv 4) (Mv 5) (Mv 6) (Mv 7) (Mv 8) (Mv 9) (Mv 10) (Mv 11) (Mv 12) (Mv 13) (Mv 14) (Mf 10) (Mj 0) x2 h_said.1) k_1375 k_1372 k_1374 k_58 k_106 pl_X12_isBuyer ⟨Nat.le_of_ble_eq_true rfl, Nat.le_of_ble_eq_true rfl⟩ rfl rfl (va_recv hK hP (ci := 12) (q0 := 0) rfl rfl) hP hD hS [0, 1] [] rfl rfl rfl rfl rfl (by decide) rfl hl.1 rfl (Nat.le_of_ble_eq_true rfl) dX12_note_29 ⟨Nat.le_of_ble_eq_true rfl, Nat.le_of_ble_eq_true rfl⟩ (fun v_10 u_11 H locs hv_12 hP₀ hD₀ hS₀ => ?_)
      obtain ⟨r_13, rfl, he_14⟩ := hv_12
      have he_14 : ((r_13.toInt = 0 ∧ (x2.toInt < 0 ∨ ((Mf 10) 3).toInt ≤ x2.toInt)) ∨ (r_13.toInt = 1 ∧ 0 ≤ x2.toInt ∧ x2.toInt < ((Mf 10) 3).toInt)) := he_14
      refine W.eq (g2 := F0 m 32 ls [.int r_13]) rfl ?_
      replace hP : va_P D classes [((Ma 0), .inr (12, [.ref (Ma 1), .int (Mv 0), .int (Mv 1), .ref (Ma 2), .ref (Ma 3), .ref (Ma 4), .ref (Ma 5), .ref (Ma 6), .int (Mv 2), .int (Mv 3), .int (Mv 4), .int (Mv 5), .int (Mv 6), .int (Mv 7), .int (Mv 8), .ref (Ma 7), .int (Mv 9), .ref (Ma 8), .int (Mv 10), .ref (Ma 9), .ref (Ma 10), .int (Mv 11), .int (Mv 12), .int (Mv 13), .ref (Ma 11), .int (Mv 14), .ref (Ma 12), .ref (Ma 13), .ref (Ma 14), .ref (Ma 15), .ref (Ma 16), .long (Mj 0), .ref (Ma 17), .ref (Ma 18), .ref (Ma 19), .ref (Ma 20)])), ((Ma 10), .inl (tc 0, 126, .inl (Mf 10)))] H := hP₀
      replace hD : va_D A [((Ma 0), .inr (12, [.ref (Ma 1), .int (Mv 0), .int (Mv 1), .ref (Ma 2), .ref (Ma 3), .ref (Ma 4), .ref (Ma 5), .ref (Ma 6), .int (Mv 2), .int (Mv 3), .int (Mv 4), .int (Mv 5), .int (Mv 6), .int (Mv 7), .int (Mv 8), .ref (Ma 7), .int (Mv 9), .ref (Ma 8), .int (Mv 10), .ref (Ma 9), .ref (Ma 10), .int (Mv 11), .int (Mv 12), .int (Mv 13), .ref (Ma 11), .int (Mv 14), .ref (Ma 12), .ref (Ma 13), .ref (Ma 14), .ref (Ma 15), .ref (Ma 16), .long (Mj 0), .ref (Ma 17), .ref (Ma 18), .ref (Ma 19), .ref (Ma 20)])), ((Ma 10), .inl (tc 0, 126, .inl (Mf 10)))] := hD₀
      replace hS := hS₀
      clear hP₀ hD₀ hS₀
      refine lv_if_eq (tgt := 57) hx hb dX12_note_32 (by decide) (fun c_16 => ?_) (fun c_16 => ?_)
      · skip
        refine lv_bipush (v := (-2)) hx hb dX12_note_57 (by decide) ?_
        have hp_17 : ((x1.toInt = -1 ∧ ((-2) : Int32).toInt = 0 ∧ ((Mf 10) 125).toInt = 0) ∨ (¬ x1.toInt = -1 ∧ (x1.toInt < 0 ∨ 60 < x1.toInt ∨ x2.toInt < 0 ∨ ((Mf 10) 3).toInt ≤ x2.toInt ∨ x3.toInt < 0 ∨ 1 < x3.toInt ∨ ((Mf 10) 125).toInt < 0 ∨ 10 ≤ ((Mf 10) 125).toInt) ∧ ((-2) : Int32).toInt = -2 ∧ ((Mf 10) 125).toInt = ((Mf 10) 125).toInt) ∨ (0 ≤ x1.toInt ∧ x1.toInt ≤ 60 ∧ 0 ≤ x2.toInt ∧ x2.toInt < ((Mf 10) 3).toInt ∧ 0 ≤ x3.toInt ∧ x3.toInt ≤ 1 ∧ 0 ≤ ((Mf 10) 125).toInt ∧ ((Mf 10) 125).toInt < 10 ∧ ((-2) : Int32).toInt = ((Mf 10) 125).toInt + 1 ∧ ((Mf 10) 125).toInt = ((Mf 10) 125).toInt + 1)) := by
          have z_1 : ¬ (x1 : Int32).toInt = ((-1) : Int32).toInt := fun z => c_1 (Int32.toInt_inj.mp z)
          have z_2 : ¬ (r_5 : Int32).toInt = (0 : Int32).toInt := fun z => c_8 (Int32.toInt_inj.mp z)
          have z_3 := congrArg Int32.toInt c_16
          have y_m1 : (-1 : Int32).toInt = -1 := by decide
          have y_0 : (0 : Int32).toInt = 0 := by decide
          have y_m2 : (-2 : Int32).toInt = -2 := by decide
          have yr : (-2 : Int32).toInt = -2 := by decide
          omega
        exact retI (v := (-2)) hx hb hr hlk (rfl) hP hD hS (Mf 10) ⟨_, rfl, hp_17, (NtO.rf h_said)⟩ [0, 1] rfl rfl dX12_note_59 (Nat.le_of_ble_eq_true rfl) (Nat.le_of_ble_eq_true rfl) rfl
      · skip
        refine lv_iload_n hx hb dX12_note_35 rfl (lv_at hl 3 rfl) ?_
        refine lv_i2l (v := (x3).toInt64) hx hb dX12_note_36 rfl ?_
        refine lv_lconst (v := 0) hx hb dX12_note_37 (by decide) ?_
        refine lv_lconst (v := 1) hx hb dX12_note_38 (by decide) ?_
        refine cS (As := [.long (x3).toInt64, .long 0, .long 1]) (rest := []) (wr := [((Ma 0), .inr (12, [.ref (Ma 1), .int (Mv 0), .int (Mv 1), .ref (Ma 2), .ref (Ma 3), .ref (Ma 4), .ref (Ma 5), .ref (Ma 6), .int (Mv 2), .int (Mv 3), .int (Mv 4), .int (Mv 5), .int (Mv 6), .int (Mv 7), .int (Mv 8), .ref (Ma 7), .int (Mv 9), .ref (Ma 8), .int (Mv 10), .ref (Ma 9), .ref (Ma 10), .int (Mv 11), .int (Mv 12), .int (Mv 13), .ref (Ma 11), .int (Mv 14), .ref (Ma 12), .ref (Ma 13), .ref (Ma 14), .ref (Ma 15), .ref (Ma 16), .long (Mj 0), .ref (Ma 17), .ref (Ma 18), .ref (Ma 19), .ref (Ma 20)])), ((Ma 10), .inl (tc 0, 126, .inl (Mf 10)))]) ⟨hx, hb, hml, hown, hts⟩ hK hX hA (ct_X12_in2 l D tc sk ((x3).toInt64) 0 1) k_1259 k_1257 k_1258 k_106 pl_X12_in ⟨Nat.le_of_ble_eq_true rfl, Nat.le_of_ble_eq_true rfl⟩ rfl rfl  hP hD hS [] [0, 1] rfl rfl rfl rfl rfl (by decide) rfl hl.1 rfl (Nat.le_of_ble_eq_true rfl) dX12_note_39 ⟨Nat.le_of_ble_eq_true rfl, Nat.le_of_ble_eq_true rfl⟩ (fun v_18 u_19 H locs hv_20 hP₀ hD₀ hS₀ => ?_)
        obtain ⟨r_21, rfl, he_22⟩ := hv_20
        have he_22 : ((r_21.toInt = 0 ∧ ((x3).toInt64.toInt < (0 : Int64).toInt ∨ (1 : Int64).toInt < (x3).toInt64.toInt)) ∨ (r_21.toInt = 1 ∧ (0 : Int64).toInt ≤ (x3).toInt64.toInt ∧ (x3).toInt64.toInt ≤ (1 : Int64).toInt)) := he_22
        refine W.eq (g2 := F0 m 42 ls [.int r_21]) rfl ?_
        replace hP : va_P D classes [((Ma 0), .inr (12, [.ref (Ma 1), .int (Mv 0), .int (Mv 1), .ref (Ma 2), .ref (Ma 3), .ref (Ma 4), .ref (Ma 5), .ref (Ma 6), .int (Mv 2), .int (Mv 3), .int (Mv 4), .int (Mv 5), .int (Mv 6), .int (Mv 7), .int (Mv 8), .ref (Ma 7), .int (Mv 9), .ref (Ma 8), .int (Mv 10), .ref (Ma 9), .ref (Ma 10), .int (Mv 11), .int (Mv 12), .int (Mv 13), .ref (Ma 11), .int (Mv 14), .ref (Ma 12), .ref (Ma 13), .ref (Ma 14), .ref (Ma 15), .ref (Ma 16), .long (Mj 0), .ref (Ma 17), .ref (Ma 18), .ref (Ma 19), .ref (Ma 20)])), ((Ma 10), .inl (tc 0, 126, .inl (Mf 10)))] H := hP₀
        replace hD : va_D A [((Ma 0), .inr (12, [.ref (Ma 1), .int (Mv 0), .int (Mv 1), .ref (Ma 2), .ref (Ma 3), .ref (Ma 4), .ref (Ma 5), .ref (Ma 6), .int (Mv 2), .int (Mv 3), .int (Mv 4), .int (Mv 5), .int (Mv 6), .int (Mv 7), .int (Mv 8), .ref (Ma 7), .int (Mv 9), .ref (Ma 8), .int (Mv 10), .ref (Ma 9), .ref (Ma 10), .int (Mv 11), .int (Mv 12), .int (Mv 13), .ref (Ma 11), .int (Mv 14), .ref (Ma 12), .ref (Ma 13), .ref (Ma 14), .ref (Ma 15), .ref (Ma 16), .long (Mj 0), .ref (Ma 17), .ref (Ma 18), .ref (Ma 19), .ref (Ma 20)])), ((Ma 10), .inl (tc 0, 126, .inl (Mf 10)))] := hD₀
        replace hS := hS₀
        clear hP₀ hD₀ hS₀
        have yl_he_22_0 : (0 : Int64).toInt = 0 := by decide
        have yl_he_22_1 : (1 : Int64).toInt = 1 := by decide
        simp only [i32_64] at he_22
        refine lv_if_eq (tgt := 57) hx hb dX12_note_42 (by decide) (fun c_24 => ?_) (fun c_24 => ?_)
        · skip
          refine lv_bipush (v := (-2)) hx hb dX12_note_57 (by decide) ?_
          have hp_25 : ((x1.toInt = -1 ∧ ((-2) : Int32).toInt = 0 ∧ ((Mf 10) 125).toInt = 0) ∨ (¬ x1.toInt = -1 ∧ (x1.toInt < 0 ∨ 60 < x1.toInt ∨ x2.toInt < 0 ∨ ((Mf 10) 3).toInt ≤ x2.toInt ∨ x3.toInt < 0 ∨ 1 < x3.toInt ∨ ((Mf 10) 125).toInt < 0 ∨ 10 ≤ ((Mf 10) 125).toInt) ∧ ((-2) : Int32).toInt = -2 ∧ ((Mf 10) 125).toInt = ((Mf 10) 125).toInt) ∨ (0 ≤ x1.toInt ∧ x1.toInt ≤ 60 ∧ 0 ≤ x2.toInt ∧ x2.toInt < ((Mf 10) 3).toInt ∧ 0 ≤ x3.toInt ∧ x3.toInt ≤ 1 ∧ 0 ≤ ((Mf 10) 125).toInt ∧ ((Mf 10) 125).toInt < 10 ∧ ((-2) : Int32).toInt = ((Mf 10) 125).toInt + 1 ∧ ((Mf 10) 125).toInt = ((Mf 10) 125).toInt + 1)) := by
            have z_1 : ¬ (x1 : Int32).toInt = ((-1) : Int32).toInt := fun z => c_1 (Int32.toInt_inj.mp z)
            have z_2 : ¬ (r_5 : Int32).toInt = (0 : Int32).toInt := fun z => c_8 (Int32.toInt_inj.mp z)
            have z_3 : ¬ (r_13 : Int32).toInt = (0 : Int32).toInt := fun z => c_16 (Int32.toInt_inj.mp z)
            have z_4 := congrArg Int32.toInt c_24
            have y_m1 : (-1 : Int32).toInt = -1 := by decide
            have y_0 : (0 : Int32).toInt = 0 := by decide
            have y_m2 : (-2 : Int32).toInt = -2 := by decide
            have yr : (-2 : Int32).toInt = -2 := by decide
            omega
          exact retI (v := (-2)) hx hb hr hlk (rfl) hP hD hS (Mf 10) ⟨_, rfl, hp_25, (NtO.rf h_said)⟩ [0, 1] rfl rfl dX12_note_59 (Nat.le_of_ble_eq_true rfl) (Nat.le_of_ble_eq_true rfl) rfl
        · skip
          refine lv_aload_n hx hb dX12_note_45 rfl (lv_at hl 0 rfl) ?_
          refine gf_X12_39 hx hb hts hown hK hP 0 rfl rfl dX12_note_46 ?_
          refine lv_bipush (v := 125) hx hb dX12_note_49 (by decide) ?_
          refine va_iald hx hb hK hP 1 0 rfl rfl (vin_dec (by decide +kernel)) dX12_note_51 ?_
          refine lv_topi (fun x_26 ex_26 => ?_)
          have lx_26 : x_26.toInt = ((Mf 10) 125).toInt := congrArg Int32.toInt ex_26
          refine lv_bipush (v := 10) hx hb dX12_note_52 (by decide) ?_
          refine lv_icmp_ne (tgt := 60) hx hb dX12_note_54 (by decide) (fun c_27 => ?_) (fun c_27 => ?_)
          · skip
            refine lv_bipush (v := 95) hx hb dX12_note_60 (by decide) ?_
            refine lv_iconst (v := 3) hx hb dX12_note_62 (by decide) ?_
            refine lv_aload_n hx hb dX12_note_63 rfl (lv_at hl 0 rfl) ?_
            refine gf_X12_39 hx hb hts hown hK hP 0 rfl rfl dX12_note_64 ?_
            refine lv_bipush (v := 125) hx hb dX12_note_67 (by decide) ?_
            refine va_iald hx hb hK hP 1 0 rfl rfl (vin_dec (by decide +kernel)) dX12_note_69 ?_
            refine lv_topi (fun x_28 ex_28 => ?_)
            have lx_28 : x_28.toInt = ((Mf 10) 125).toInt := congrArg Int32.toInt ex_28
            refine lv_imul hx hb dX12_note_70 ?_
            refine lv_topi (fun x_29 ex_29 => ?_)
            refine lv_iadd hx hb dX12_note_71 ?_
            refine lv_topi (fun x_30 ex_30 => ?_)
            refine lv_istore (lv' := [(4, .int x_30), (0, .ref (Ma 0)), (1, .int x1), (2, .int x2), (3, .int x3)]) hx hb dX12_note_72 hl (by decide) rfl (fun ls hl₀ => ?_)
            replace hl := hl₀
            clear hl₀
            refine lv_aload_n hx hb dX12_note_74 rfl (lv_at hl 1 rfl) ?_
            refine gf_X12_39 hx hb hts hown hK hP 0 rfl rfl dX12_note_75 ?_
            refine lv_iload hx hb dX12_note_78 (lv_at hl 0 rfl) ?_
            refine lv_iload_n hx hb dX12_note_80 rfl (lv_at hl 2 rfl) ?_
            have hi_31 : vp_in x_30 126 := by
              have z_1 : ¬ (x1 : Int32).toInt = ((-1) : Int32).toInt := fun z => c_1 (Int32.toInt_inj.mp z)
              have z_2 : ¬ (r_5 : Int32).toInt = (0 : Int32).toInt := fun z => c_8 (Int32.toInt_inj.mp z)
              have z_3 : ¬ (r_13 : Int32).toInt = (0 : Int32).toInt := fun z => c_16 (Int32.toInt_inj.mp z)
              have z_4 : ¬ (r_21 : Int32).toInt = (0 : Int32).toInt := fun z => c_24 (Int32.toInt_inj.mp z)
              have z_5 : ¬ (x_26 : Int32).toInt = (10 : Int32).toInt := fun z => c_27 (Int32.toInt_inj.mp z)
              have y_m1 : (-1 : Int32).toInt = -1 := by decide
              have y_0 : (0 : Int32).toInt = 0 := by decide
              have y_10 : (10 : Int32).toInt = 10 := by decide
              have y_3 : (3 : Int32).toInt = 3 := by decide
              have y_95 : (95 : Int32).toInt = 95 := by decide
              have t_x_29 : x_29.toInt = (3 : Int32).toInt * (x_28 : Int32).toInt := by rw [ex_29]; exact mul_toInt (by first | omega | (rw [y_3]; omega)) (by first | omega | (rw [y_3]; omega))
              rw [y_3] at t_x_29
              have t_x_30 : x_30.toInt = (95 : Int32).toInt + (x_29 : Int32).toInt := by rw [ex_30]; exact add_toInt (by omega) (by omega)
              refine vp_in_iff.mpr ⟨?_, ?_⟩ <;> omega
            refine st_int hx hb hK hP hD hS 1 0 rfl rfl hi_31 dX12_note_81 (fun g_32 H locs eg_32 hP₀ hD₀ hS₀ => ?_)
            replace hP : va_P D classes [((Ma 0), .inr (12, [.ref (Ma 1), .int (Mv 0), .int (Mv 1), .ref (Ma 2), .ref (Ma 3), .ref (Ma 4), .ref (Ma 5), .ref (Ma 6), .int (Mv 2), .int (Mv 3), .int (Mv 4), .int (Mv 5), .int (Mv 6), .int (Mv 7), .int (Mv 8), .ref (Ma 7), .int (Mv 9), .ref (Ma 8), .int (Mv 10), .ref (Ma 9), .ref (Ma 10), .int (Mv 11), .int (Mv 12), .int (Mv 13), .ref (Ma 11), .int (Mv 14), .ref (Ma 12), .ref (Ma 13), .ref (Ma 14), .ref (Ma 15), .ref (Ma 16), .long (Mj 0), .ref (Ma 17), .ref (Ma 18), .ref (Ma 19), .ref (Ma 20)])), ((Ma 10), .inl (tc 0, 126, .inl g_32))] H := hP₀
            replace hD : va_D A [((Ma 0), .inr (12, [.ref (Ma 1), .int (Mv 0), .int (Mv 1), .ref (Ma 2), .ref (Ma 3), .ref (Ma 4), .ref (Ma 5), .ref (Ma 6), .int (Mv 2), .int (Mv 3), .int (Mv 4), .int (Mv 5), .int (Mv 6), .int (Mv 7), .int (Mv 8), .ref (Ma 7), .int (Mv 9), .ref (Ma 8), .int (Mv 10), .ref (Ma 9), .ref (Ma 10), .int (Mv 11), .int (Mv 12), .int (Mv 13), .ref (Ma 11), .int (Mv 14), .ref (Ma 12), .ref (Ma 13), .ref (Ma 14), .ref (Ma 15), .ref (Ma 16), .long (Mj 0), .ref (Ma 17), .ref (Ma 18), .ref (Ma 19), .ref (Ma 20)])), ((Ma 10), .inl (tc 0, 126, .inl g_32))] := hD₀
            replace hS := hS₀
            clear hP₀ hD₀ hS₀
            have pf_33 : NtO (Mf 10) (Mf 10) := NtO.rf h_said
            have hr_35 : 95 ≤ (x_30 : Int32).toInt ∧ (x_30 : Int32).toInt < 125 := by
              have z_1 : ¬ (x1 : Int32).toInt = ((-1) : Int32).toInt := fun z => c_1 (Int32.toInt_inj.mp z)
              have z_2 : ¬ (r_5 : Int32).toInt = (0 : Int32).toInt := fun z => c_8 (Int32.toInt_inj.mp z)
              have z_3 : ¬ (r_13 : Int32).toInt = (0 : Int32).toInt := fun z => c_16 (Int32.toInt_inj.mp z)
              have z_4 : ¬ (r_21 : Int32).toInt = (0 : Int32).toInt := fun z => c_24 (Int32.toInt_inj.mp z)
              have z_5 : ¬ (x_26 : Int32).toInt = (10 : Int32).toInt := fun z => c_27 (Int32.toInt_inj.mp z)
              have y_m1 : (-1 : Int32).toInt = -1 := by decide
              have y_0 : (0 : Int32).toInt = 0 := by decide
              have y_10 : (10 : Int32).toInt = 10 := by decide
              have y_3 : (3 : Int32).toInt = 3 := by decide
              have y_95 : (95 : Int32).toInt = 95 := by decide
              have t_x_29 : x_29.toInt = (3 : Int32).toInt * (x_28 : Int32).toInt := by rw [ex_29]; exact mul_toInt (by first | omega | (rw [y_3]; omega)) (by first | omega | (rw [y_3]; omega))
              rw [y_3] at t_x_29
              have t_x_30 : x_30.toInt = (95 : Int32).toInt + (x_29 : Int32).toInt := by rw [ex_30]; exact add_toInt (by omega) (by omega)
              omega
            have hr_36 : 0 ≤ (x1 : Int32).toInt ∧ (x1 : Int32).toInt ≤ 60 := by
              have z_1 : ¬ (x1 : Int32).toInt = ((-1) : Int32).toInt := fun z => c_1 (Int32.toInt_inj.mp z)
              have z_2 : ¬ (r_5 : Int32).toInt = (0 : Int32).toInt := fun z => c_8 (Int32.toInt_inj.mp z)
              have z_3 : ¬ (r_13 : Int32).toInt = (0 : Int32).toInt := fun z => c_16 (Int32.toInt_inj.mp z)
              have z_4 : ¬ (r_21 : Int32).toInt = (0 : Int32).toInt := fun z => c_24 (Int32.toInt_inj.mp z)
              have z_5 : ¬ (x_26 : Int32).toInt = (10 : Int32).toInt := fun z => c_27 (Int32.toInt_inj.mp z)
              have y_m1 : (-1 : Int32).toInt = -1 := by decide
              have y_0 : (0 : Int32).toInt = 0 := by decide
              have y_10 : (10 : Int32).toInt = 10 := by decide
              omega
            have pf_34 : NtO (Mf 10) g_32 := NtO.note1 pf_33 eg_32 hr_35 hr_36
            have ar_pf_34 := NtO.ar pf_34
            have hr_37 : 125 ≠ (x_30 : Int32).toNatClampNeg := by
              have z_1 : ¬ (x1 : Int32).toInt = ((-1) : Int32).toInt := fun z => c_1 (Int32.toInt_inj.mp z)
              have z_2 : ¬ (r_5 : Int32).toInt = (0 : Int32).toInt := fun z => c_8 (Int32.toInt_inj.mp z)
              have z_3 : ¬ (r_13 : Int32).toInt = (0 : Int32).toInt := fun z => c_16 (Int32.toInt_inj.mp z)
              have z_4 : ¬ (r_21 : Int32).toInt = (0 : Int32).toInt := fun z => c_24 (Int32.toInt_inj.mp z)
              have z_5 : ¬ (x_26 : Int32).toInt = (10 : Int32).toInt := fun z => c_27 (Int32.toInt_inj.mp z)
              have y_m1 : (-1 : Int32).toInt = -1 := by decide
              have y_0 : (0 : Int32).toInt = 0 := by decide
              have y_10 : (10 : Int32).toInt = 10 := by decide
              have y_3 : (3 : Int32).toInt = 3 := by decide
              have y_95 : (95 : Int32).toInt = 95 := by decide
              have t_x_29 : x_29.toInt = (3 : Int32).toInt * (x_28 : Int32).toInt := by rw [ex_29]; exact mul_toInt (by first | omega | (rw [y_3]; omega)) (by first | omega | (rw [y_3]; omega))
              rw [y_3] at t_x_29
              have t_x_30 : x_30.toInt = (95 : Int32).toInt + (x_29 : Int32).toInt := by rw [ex_30]; exact add_toInt (by omega) (by omega)
              have hcl : (x_30 : Int32).toNatClampNeg = (x_30 : Int32).toInt.toNat := rfl
              omega
            have kn_g_32 := upd_tn eg_32 hr_37
            refine lv_aload_n hx hb dX12_note_82 rfl (lv_at hl 1 rfl) ?_
            refine gf_X12_39 hx hb hts hown hK hP 0 rfl rfl dX12_note_83 ?_
            refine lv_iload hx hb dX12_note_86 (lv_at hl 0 rfl) ?_
            refine lv_iconst (v := 1) hx hb dX12_note_88 (by decide) ?_
            refine lv_iadd hx hb dX12_note_89 ?_
            refine lv_topi (fun x_38 ex_38 => ?_)
            refine lv_iload_n hx hb dX12_note_90 rfl (lv_at hl 3 rfl) ?_
            have hi_39 : vp_in x_38 126 := by
              have z_1 : ¬ (x1 : Int32).toInt = ((-1) : Int32).toInt := fun z => c_1 (Int32.toInt_inj.mp z)
              have z_2 : ¬ (r_5 : Int32).toInt = (0 : Int32).toInt := fun z => c_8 (Int32.toInt_inj.mp z)
              have z_3 : ¬ (r_13 : Int32).toInt = (0 : Int32).toInt := fun z => c_16 (Int32.toInt_inj.mp z)
              have z_4 : ¬ (r_21 : Int32).toInt = (0 : Int32).toInt := fun z => c_24 (Int32.toInt_inj.mp z)
              have z_5 : ¬ (x_26 : Int32).toInt = (10 : Int32).toInt := fun z => c_27 (Int32.toInt_inj.mp z)
              have y_m1 : (-1 : Int32).toInt = -1 := by decide
              have y_0 : (0 : Int32).toInt = 0 := by decide
              have y_10 : (10 : Int32).toInt = 10 := by decide
              have y_1 : (1 : Int32).toInt = 1 := by decide
              have y_3 : (3 : Int32).toInt = 3 := by decide
              have y_95 : (95 : Int32).toInt = 95 := by decide
              have t_x_29 : x_29.toInt = (3 : Int32).toInt * (x_28 : Int32).toInt := by rw [ex_29]; exact mul_toInt (by first | omega | (rw [y_3]; omega)) (by first | omega | (rw [y_3]; omega))
              rw [y_3] at t_x_29
              have t_x_30 : x_30.toInt = (95 : Int32).toInt + (x_29 : Int32).toInt := by rw [ex_30]; exact add_toInt (by omega) (by omega)
              have t_x_38 : x_38.toInt = (x_30 : Int32).toInt + (1 : Int32).toInt := by rw [ex_38]; exact add_toInt (by omega) (by omega)
              refine vp_in_iff.mpr ⟨?_, ?_⟩ <;> omega
            refine st_int hx hb hK hP hD hS 1 0 rfl rfl hi_39 dX12_note_91 (fun g_40 H locs eg_40 hP₀ hD₀ hS₀ => ?_)
            replace hP : va_P D classes [((Ma 0), .inr (12, [.ref (Ma 1), .int (Mv 0), .int (Mv 1), .ref (Ma 2), .ref (Ma 3), .ref (Ma 4), .ref (Ma 5), .ref (Ma 6), .int (Mv 2), .int (Mv 3), .int (Mv 4), .int (Mv 5), .int (Mv 6), .int (Mv 7), .int (Mv 8), .ref (Ma 7), .int (Mv 9), .ref (Ma 8), .int (Mv 10), .ref (Ma 9), .ref (Ma 10), .int (Mv 11), .int (Mv 12), .int (Mv 13), .ref (Ma 11), .int (Mv 14), .ref (Ma 12), .ref (Ma 13), .ref (Ma 14), .ref (Ma 15), .ref (Ma 16), .long (Mj 0), .ref (Ma 17), .ref (Ma 18), .ref (Ma 19), .ref (Ma 20)])), ((Ma 10), .inl (tc 0, 126, .inl g_40))] H := hP₀
            replace hD : va_D A [((Ma 0), .inr (12, [.ref (Ma 1), .int (Mv 0), .int (Mv 1), .ref (Ma 2), .ref (Ma 3), .ref (Ma 4), .ref (Ma 5), .ref (Ma 6), .int (Mv 2), .int (Mv 3), .int (Mv 4), .int (Mv 5), .int (Mv 6), .int (Mv 7), .int (Mv 8), .ref (Ma 7), .int (Mv 9), .ref (Ma 8), .int (Mv 10), .ref (Ma 9), .ref (Ma 10), .int (Mv 11), .int (Mv 12), .int (Mv 13), .ref (Ma 11), .int (Mv 14), .ref (Ma 12), .ref (Ma 13), .ref (Ma 14), .ref (Ma 15), .ref (Ma 16), .long (Mj 0), .ref (Ma 17), .ref (Ma 18), .ref (Ma 19), .ref (Ma 20)])), ((Ma 10), .inl (tc 0, 126, .inl g_40))] := hD₀
            replace hS := hS₀
            clear hP₀ hD₀ hS₀
            have hr_42 : 95 ≤ (x_38 : Int32).toInt ∧ (x_38 : Int32).toInt < 125 ∧ (x_38 : Int32).toInt % 3 ≠ 2 := by
              have z_1 : ¬ (x1 : Int32).toInt = ((-1) : Int32).toInt := fun z => c_1 (Int32.toInt_inj.mp z)
              have z_2 : ¬ (r_5 : Int32).toInt = (0 : Int32).toInt := fun z => c_8 (Int32.toInt_inj.mp z)
              have z_3 : ¬ (r_13 : Int32).toInt = (0 : Int32).toInt := fun z => c_16 (Int32.toInt_inj.mp z)
              have z_4 : ¬ (r_21 : Int32).toInt = (0 : Int32).toInt := fun z => c_24 (Int32.toInt_inj.mp z)
              have z_5 : ¬ (x_26 : Int32).toInt = (10 : Int32).toInt := fun z => c_27 (Int32.toInt_inj.mp z)
              have y_m1 : (-1 : Int32).toInt = -1 := by decide
              have y_0 : (0 : Int32).toInt = 0 := by decide
              have y_10 : (10 : Int32).toInt = 10 := by decide
              have y_1 : (1 : Int32).toInt = 1 := by decide
              have y_3 : (3 : Int32).toInt = 3 := by decide
              have y_95 : (95 : Int32).toInt = 95 := by decide
              have t_x_29 : x_29.toInt = (3 : Int32).toInt * (x_28 : Int32).toInt := by rw [ex_29]; exact mul_toInt (by first | omega | (rw [y_3]; omega)) (by first | omega | (rw [y_3]; omega))
              rw [y_3] at t_x_29
              have t_x_30 : x_30.toInt = (95 : Int32).toInt + (x_29 : Int32).toInt := by rw [ex_30]; exact add_toInt (by omega) (by omega)
              have t_x_38 : x_38.toInt = (x_30 : Int32).toInt + (1 : Int32).toInt := by rw [ex_38]; exact add_toInt (by omega) (by omega)
              omega
            have pf_41 : NtO (Mf 10) g_40 := NtO.note2 pf_34 eg_40 hr_42
            have ar_pf_41 := NtO.ar pf_41
            have hr_43 : 125 ≠ (x_38 : Int32).toNatClampNeg := by
              have z_1 : ¬ (x1 : Int32).toInt = ((-1) : Int32).toInt := fun z => c_1 (Int32.toInt_inj.mp z)
              have z_2 : ¬ (r_5 : Int32).toInt = (0 : Int32).toInt := fun z => c_8 (Int32.toInt_inj.mp z)
              have z_3 : ¬ (r_13 : Int32).toInt = (0 : Int32).toInt := fun z => c_16 (Int32.toInt_inj.mp z)
              have z_4 : ¬ (r_21 : Int32).toInt = (0 : Int32).toInt := fun z => c_24 (Int32.toInt_inj.mp z)
              have z_5 : ¬ (x_26 : Int32).toInt = (10 : Int32).toInt := fun z => c_27 (Int32.toInt_inj.mp z)
              have y_m1 : (-1 : Int32).toInt = -1 := by decide
              have y_0 : (0 : Int32).toInt = 0 := by decide
              have y_10 : (10 : Int32).toInt = 10 := by decide
              have y_1 : (1 : Int32).toInt = 1 := by decide
              have y_3 : (3 : Int32).toInt = 3 := by decide
              have y_95 : (95 : Int32).toInt = 95 := by decide
              have t_x_29 : x_29.toInt = (3 : Int32).toInt * (x_28 : Int32).toInt := by rw [ex_29]; exact mul_toInt (by first | omega | (rw [y_3]; omega)) (by first | omega | (rw [y_3]; omega))
              rw [y_3] at t_x_29
              have t_x_30 : x_30.toInt = (95 : Int32).toInt + (x_29 : Int32).toInt := by rw [ex_30]; exact add_toInt (by omega) (by omega)
              have t_x_38 : x_38.toInt = (x_30 : Int32).toInt + (1 : Int32).toInt := by rw [ex_38]; exact add_toInt (by omega) (by omega)
              have hcl : (x_38 : Int32).toNatClampNeg = (x_38 : Int32).toInt.toNat := rfl
              omega
            have kn_g_40 := upd_tn eg_40 hr_43
            refine lv_aload_n hx hb dX12_note_92 rfl (lv_at hl 1 rfl) ?_
            refine gf_X12_39 hx hb hts hown hK hP 0 rfl rfl dX12_note_93 ?_
            refine lv_iload hx hb dX12_note_96 (lv_at hl 0 rfl) ?_
            refine lv_iconst (v := 2) hx hb dX12_note_98 (by decide) ?_
            refine lv_iadd hx hb dX12_note_99 ?_
            refine lv_topi (fun x_44 ex_44 => ?_)
            refine lv_iload_n hx hb dX12_note_100 rfl (lv_at hl 4 rfl) ?_
            have hi_45 : vp_in x_44 126 := by
              have z_1 : ¬ (x1 : Int32).toInt = ((-1) : Int32).toInt := fun z => c_1 (Int32.toInt_inj.mp z)
              have z_2 : ¬ (r_5 : Int32).toInt = (0 : Int32).toInt := fun z => c_8 (Int32.toInt_inj.mp z)
              have z_3 : ¬ (r_13 : Int32).toInt = (0 : Int32).toInt := fun z => c_16 (Int32.toInt_inj.mp z)
              have z_4 : ¬ (r_21 : Int32).toInt = (0 : Int32).toInt := fun z => c_24 (Int32.toInt_inj.mp z)
              have z_5 : ¬ (x_26 : Int32).toInt = (10 : Int32).toInt := fun z => c_27 (Int32.toInt_inj.mp z)
              have y_m1 : (-1 : Int32).toInt = -1 := by decide
              have y_0 : (0 : Int32).toInt = 0 := by decide
              have y_10 : (10 : Int32).toInt = 10 := by decide
              have y_2 : (2 : Int32).toInt = 2 := by decide
              have y_3 : (3 : Int32).toInt = 3 := by decide
              have y_95 : (95 : Int32).toInt = 95 := by decide
              have t_x_29 : x_29.toInt = (3 : Int32).toInt * (x_28 : Int32).toInt := by rw [ex_29]; exact mul_toInt (by first | omega | (rw [y_3]; omega)) (by first | omega | (rw [y_3]; omega))
              rw [y_3] at t_x_29
              have t_x_30 : x_30.toInt = (95 : Int32).toInt + (x_29 : Int32).toInt := by rw [ex_30]; exact add_toInt (by omega) (by omega)
              have t_x_44 : x_44.toInt = (x_30 : Int32).toInt + (2 : Int32).toInt := by rw [ex_44]; exact add_toInt (by omega) (by omega)
              refine vp_in_iff.mpr ⟨?_, ?_⟩ <;> omega
            refine st_int hx hb hK hP hD hS 1 0 rfl rfl hi_45 dX12_note_101 (fun g_46 H locs eg_46 hP₀ hD₀ hS₀ => ?_)
            replace hP : va_P D classes [((Ma 0), .inr (12, [.ref (Ma 1), .int (Mv 0), .int (Mv 1), .ref (Ma 2), .ref (Ma 3), .ref (Ma 4), .ref (Ma 5), .ref (Ma 6), .int (Mv 2), .int (Mv 3), .int (Mv 4), .int (Mv 5), .int (Mv 6), .int (Mv 7), .int (Mv 8), .ref (Ma 7), .int (Mv 9), .ref (Ma 8), .int (Mv 10), .ref (Ma 9), .ref (Ma 10), .int (Mv 11), .int (Mv 12), .int (Mv 13), .ref (Ma 11), .int (Mv 14), .ref (Ma 12), .ref (Ma 13), .ref (Ma 14), .ref (Ma 15), .ref (Ma 16), .long (Mj 0), .ref (Ma 17), .ref (Ma 18), .ref (Ma 19), .ref (Ma 20)])), ((Ma 10), .inl (tc 0, 126, .inl g_46))] H := hP₀
            replace hD : va_D A [((Ma 0), .inr (12, [.ref (Ma 1), .int (Mv 0), .int (Mv 1), .ref (Ma 2), .ref (Ma 3), .ref (Ma 4), .ref (Ma 5), .ref (Ma 6), .int (Mv 2), .int (Mv 3), .int (Mv 4), .int (Mv 5), .int (Mv 6), .int (Mv 7), .int (Mv 8), .ref (Ma 7), .int (Mv 9), .ref (Ma 8), .int (Mv 10), .ref (Ma 9), .ref (Ma 10), .int (Mv 11), .int (Mv 12), .int (Mv 13), .ref (Ma 11), .int (Mv 14), .ref (Ma 12), .ref (Ma 13), .ref (Ma 14), .ref (Ma 15), .ref (Ma 16), .long (Mj 0), .ref (Ma 17), .ref (Ma 18), .ref (Ma 19), .ref (Ma 20)])), ((Ma 10), .inl (tc 0, 126, .inl g_46))] := hD₀
            replace hS := hS₀
            clear hP₀ hD₀ hS₀
            have hr_48 : 95 ≤ (x_44 : Int32).toInt ∧ (x_44 : Int32).toInt < 125 ∧ (x_44 : Int32).toInt % 3 ≠ 2 := by
              have z_1 : ¬ (x1 : Int32).toInt = ((-1) : Int32).toInt := fun z => c_1 (Int32.toInt_inj.mp z)
              have z_2 : ¬ (r_5 : Int32).toInt = (0 : Int32).toInt := fun z => c_8 (Int32.toInt_inj.mp z)
              have z_3 : ¬ (r_13 : Int32).toInt = (0 : Int32).toInt := fun z => c_16 (Int32.toInt_inj.mp z)
              have z_4 : ¬ (r_21 : Int32).toInt = (0 : Int32).toInt := fun z => c_24 (Int32.toInt_inj.mp z)
              have z_5 : ¬ (x_26 : Int32).toInt = (10 : Int32).toInt := fun z => c_27 (Int32.toInt_inj.mp z)
              have y_m1 : (-1 : Int32).toInt = -1 := by decide
              have y_0 : (0 : Int32).toInt = 0 := by decide
              have y_10 : (10 : Int32).toInt = 10 := by decide
              have y_2 : (2 : Int32).toInt = 2 := by decide
              have y_3 : (3 : Int32).toInt = 3 := by decide
              have y_95 : (95 : Int32).toInt = 95 := by decide
              have t_x_29 : x_29.toInt = (3 : Int32).toInt * (x_28 : Int32).toInt := by rw [ex_29]; exact mul_toInt (by first | omega | (rw [y_3]; omega)) (by first | omega | (rw [y_3]; omega))
              rw [y_3] at t_x_29
              have t_x_30 : x_30.toInt = (95 : Int32).toInt + (x_29 : Int32).toInt := by rw [ex_30]; exact add_toInt (by omega) (by omega)
              have t_x_44 : x_44.toInt = (x_30 : Int32).toInt + (2 : Int32).toInt := by rw [ex_44]; exact add_toInt (by omega) (by omega)
              omega
            have pf_47 : NtO (Mf 10) g_46 := NtO.note2 pf_41 eg_46 hr_48
            have ar_pf_47 := NtO.ar pf_47
            have hr_49 : 125 ≠ (x_44 : Int32).toNatClampNeg := by
              have z_1 : ¬ (x1 : Int32).toInt = ((-1) : Int32).toInt := fun z => c_1 (Int32.toInt_inj.mp z)
              have z_2 : ¬ (r_5 : Int32).toInt = (0 : Int32).toInt := fun z => c_8 (Int32.toInt_inj.mp z)
              have z_3 : ¬ (r_13 : Int32).toInt = (0 : Int32).toInt := fun z => c_16 (Int32.toInt_inj.mp z)
              have z_4 : ¬ (r_21 : Int32).toInt = (0 : Int32).toInt := fun z => c_24 (Int32.toInt_inj.mp z)
              have z_5 : ¬ (x_26 : Int32).toInt = (10 : Int32).toInt := fun z => c_27 (Int32.toInt_inj.mp z)
              have y_m1 : (-1 : Int32).toInt = -1 := by decide
              have y_0 : (0 : Int32).toInt = 0 := by decide
              have y_10 : (10 : Int32).toInt = 10 := by decide
              have y_2 : (2 : Int32).toInt = 2 := by decide
              have y_3 : (3 : Int32).toInt = 3 := by decide
              have y_95 : (95 : Int32).toInt = 95 := by decide
              have t_x_29 : x_29.toInt = (3 : Int32).toInt * (x_28 : Int32).toInt := by rw [ex_29]; exact mul_toInt (by first | omega | (rw [y_3]; omega)) (by first | omega | (rw [y_3]; omega))
              rw [y_3] at t_x_29
              have t_x_30 : x_30.toInt = (95 : Int32).toInt + (x_29 : Int32).toInt := by rw [ex_30]; exact add_toInt (by omega) (by omega)
              have t_x_44 : x_44.toInt = (x_30 : Int32).toInt + (2 : Int32).toInt := by rw [ex_44]; exact add_toInt (by omega) (by omega)
              have hcl : (x_44 : Int32).toNatClampNeg = (x_44 : Int32).toInt.toNat := rfl
              omega
            have kn_g_46 := upd_tn eg_46 hr_49
            refine lv_aload_n hx hb dX12_note_102 rfl (lv_at hl 1 rfl) ?_
            refine gf_X12_39 hx hb hts hown hK hP 0 rfl rfl dX12_note_103 ?_
            refine lv_bipush (v := 125) hx hb dX12_note_106 (by decide) ?_
            refine lv_dup2_11 hx hb dX12_note_108 rfl rfl ?_
            refine va_iald hx hb hK hP 1 0 rfl rfl (vin_dec (by decide +kernel)) dX12_note_109 ?_
            refine lv_topi (fun x_50 ex_50 => ?_)
            have lx_50 : x_50.toInt = (g_46 125).toInt := congrArg Int32.toInt ex_50
            refine lv_iconst (v := 1) hx hb dX12_note_110 (by decide) ?_
            refine lv_iadd hx hb dX12_note_111 ?_
            refine lv_topi (fun x_51 ex_51 => ?_)
            refine st_int hx hb hK hP hD hS 1 0 rfl rfl (vin_dec (by decide +kernel)) dX12_note_112 (fun g_52 H locs eg_52 hP₀ hD₀ hS₀ => ?_)
            replace hP : va_P D classes [((Ma 0), .inr (12, [.ref (Ma 1), .int (Mv 0), .int (Mv 1), .ref (Ma 2), .ref (Ma 3), .ref (Ma 4), .ref (Ma 5), .ref (Ma 6), .int (Mv 2), .int (Mv 3), .int (Mv 4), .int (Mv 5), .int (Mv 6), .int (Mv 7), .int (Mv 8), .ref (Ma 7), .int (Mv 9), .ref (Ma 8), .int (Mv 10), .ref (Ma 9), .ref (Ma 10), .int (Mv 11), .int (Mv 12), .int (Mv 13), .ref (Ma 11), .int (Mv 14), .ref (Ma 12), .ref (Ma 13), .ref (Ma 14), .ref (Ma 15), .ref (Ma 16), .long (Mj 0), .ref (Ma 17), .ref (Ma 18), .ref (Ma 19), .ref (Ma 20)])), ((Ma 10), .inl (tc 0, 126, .inl g_52))] H := hP₀
            replace hD : va_D A [((Ma 0), .inr (12, [.ref (Ma 1), .int (Mv 0), .int (Mv 1), .ref (Ma 2), .ref (Ma 3), .ref (Ma 4), .ref (Ma 5), .ref (Ma 6), .int (Mv 2), .int (Mv 3), .int (Mv 4), .int (Mv 5), .int (Mv 6), .int (Mv 7), .int (Mv 8), .ref (Ma 7), .int (Mv 9), .ref (Ma 8), .int (Mv 10), .ref (Ma 9), .ref (Ma 10), .int (Mv 11), .int (Mv 12), .int (Mv 13), .ref (Ma 11), .int (Mv 14), .ref (Ma 12), .ref (Ma 13), .ref (Ma 14), .ref (Ma 15), .ref (Ma 16), .long (Mj 0), .ref (Ma 17), .ref (Ma 18), .ref (Ma 19), .ref (Ma 20)])), ((Ma 10), .inl (tc 0, 126, .inl g_52))] := hD₀
            replace hS := hS₀
            clear hP₀ hD₀ hS₀
            have hr_54 : 0 ≤ (x_51 : Int32).toInt ∧ (x_51 : Int32).toInt ≤ 10 := by
              have z_1 : ¬ (x1 : Int32).toInt = ((-1) : Int32).toInt := fun z => c_1 (Int32.toInt_inj.mp z)
              have z_2 : ¬ (r_5 : Int32).toInt = (0 : Int32).toInt := fun z => c_8 (Int32.toInt_inj.mp z)
              have z_3 : ¬ (r_13 : Int32).toInt = (0 : Int32).toInt := fun z => c_16 (Int32.toInt_inj.mp z)
              have z_4 : ¬ (r_21 : Int32).toInt = (0 : Int32).toInt := fun z => c_24 (Int32.toInt_inj.mp z)
              have z_5 : ¬ (x_26 : Int32).toInt = (10 : Int32).toInt := fun z => c_27 (Int32.toInt_inj.mp z)
              have y_m1 : (-1 : Int32).toInt = -1 := by decide
              have y_0 : (0 : Int32).toInt = 0 := by decide
              have y_10 : (10 : Int32).toInt = 10 := by decide
              have y_1 : (1 : Int32).toInt = 1 := by decide
              have t_x_51 : x_51.toInt = (x_50 : Int32).toInt + (1 : Int32).toInt := by rw [ex_51]; exact add_toInt (by omega) (by omega)
              omega
            have pf_53 : NtO (Mf 10) g_52 := NtO.many pf_47 eg_52 (by decide) hr_54
            have ar_pf_53 := NtO.ar pf_53
            have kn_g_52 := upd_lit (j := 125) eg_52 (by decide)
            refine lv_aload_n hx hb dX12_note_113 rfl (lv_at hl 1 rfl) ?_
            refine gf_X12_39 hx hb hts hown hK hP 0 rfl rfl dX12_note_114 ?_
            refine lv_bipush (v := 125) hx hb dX12_note_117 (by decide) ?_
            refine va_iald hx hb hK hP 1 0 rfl rfl (vin_dec (by decide +kernel)) dX12_note_119 ?_
            refine lv_topi (fun x_55 ex_55 => ?_)
            have lx_55 : x_55.toInt = (g_52 125).toInt := congrArg Int32.toInt ex_55
            have hp_56 : ((x1.toInt = -1 ∧ (x_55 : Int32).toInt = 0 ∧ (g_52 125).toInt = 0) ∨ (¬ x1.toInt = -1 ∧ (x1.toInt < 0 ∨ 60 < x1.toInt ∨ x2.toInt < 0 ∨ ((Mf 10) 3).toInt ≤ x2.toInt ∨ x3.toInt < 0 ∨ 1 < x3.toInt ∨ ((Mf 10) 125).toInt < 0 ∨ 10 ≤ ((Mf 10) 125).toInt) ∧ (x_55 : Int32).toInt = -2 ∧ (g_52 125).toInt = ((Mf 10) 125).toInt) ∨ (0 ≤ x1.toInt ∧ x1.toInt ≤ 60 ∧ 0 ≤ x2.toInt ∧ x2.toInt < ((Mf 10) 3).toInt ∧ 0 ≤ x3.toInt ∧ x3.toInt ≤ 1 ∧ 0 ≤ ((Mf 10) 125).toInt ∧ ((Mf 10) 125).toInt < 10 ∧ (x_55 : Int32).toInt = ((Mf 10) 125).toInt + 1 ∧ (g_52 125).toInt = ((Mf 10) 125).toInt + 1)) := by
              have z_1 : ¬ (x1 : Int32).toInt = ((-1) : Int32).toInt := fun z => c_1 (Int32.toInt_inj.mp z)
              have z_2 : ¬ (r_5 : Int32).toInt = (0 : Int32).toInt := fun z => c_8 (Int32.toInt_inj.mp z)
              have z_3 : ¬ (r_13 : Int32).toInt = (0 : Int32).toInt := fun z => c_16 (Int32.toInt_inj.mp z)
              have z_4 : ¬ (r_21 : Int32).toInt = (0 : Int32).toInt := fun z => c_24 (Int32.toInt_inj.mp z)
              have z_5 : ¬ (x_26 : Int32).toInt = (10 : Int32).toInt := fun z => c_27 (Int32.toInt_inj.mp z)
              have y_m1 : (-1 : Int32).toInt = -1 := by decide
              have y_0 : (0 : Int32).toInt = 0 := by decide
              have y_10 : (10 : Int32).toInt = 10 := by decide
              have y_1 : (1 : Int32).toInt = 1 := by decide
              have t_x_51 : x_51.toInt = (x_50 : Int32).toInt + (1 : Int32).toInt := by rw [ex_51]; exact add_toInt (by omega) (by omega)
              omega
            exact retI (v := x_55) hx hb hr hlk (rfl) hP hD hS g_52 ⟨_, rfl, hp_56, pf_53⟩ [0, 1] rfl rfl dX12_note_120 (Nat.le_of_ble_eq_true rfl) (Nat.le_of_ble_eq_true rfl) rfl
          · skip
            refine lv_bipush (v := (-2)) hx hb dX12_note_57 (by decide) ?_
            have hp_57 : ((x1.toInt = -1 ∧ ((-2) : Int32).toInt = 0 ∧ ((Mf 10) 125).toInt = 0) ∨ (¬ x1.toInt = -1 ∧ (x1.toInt < 0 ∨ 60 < x1.toInt ∨ x2.toInt < 0 ∨ ((Mf 10) 3).toInt ≤ x2.toInt ∨ x3.toInt < 0 ∨ 1 < x3.toInt ∨ ((Mf 10) 125).toInt < 0 ∨ 10 ≤ ((Mf 10) 125).toInt) ∧ ((-2) : Int32).toInt = -2 ∧ ((Mf 10) 125).toInt = ((Mf 10) 125).toInt) ∨ (0 ≤ x1.toInt ∧ x1.toInt ≤ 60 ∧ 0 ≤ x2.toInt ∧ x2.toInt < ((Mf 10) 3).toInt ∧ 0 ≤ x3.toInt ∧ x3.toInt ≤ 1 ∧ 0 ≤ ((Mf 10) 125).toInt ∧ ((Mf 10) 125).toInt < 10 ∧ ((-2) : Int32).toInt = ((Mf 10) 125).toInt + 1 ∧ ((Mf 10) 125).toInt = ((Mf 10) 125).toInt + 1)) := by
              have z_1 : ¬ (x1 : Int32).toInt = ((-1) : Int32).toInt := fun z => c_1 (Int32.toInt_inj.mp z)
              have z_2 : ¬ (r_5 : Int32).toInt = (0 : Int32).toInt := fun z => c_8 (Int32.toInt_inj.mp z)
              have z_3 : ¬ (r_13 : Int32).toInt = (0 : Int32).toInt := fun z => c_16 (Int32.toInt_inj.mp z)
              have z_4 : ¬ (r_21 : Int32).toInt = (0 : Int32).toInt := fun z => c_24 (Int32.toInt_inj.mp z)
              have z_5 := congrArg Int32.toInt c_27
              have y_m1 : (-1 : Int32).toInt = -1 := by decide
              have y_0 : (0 : Int32).toInt = 0 := by decide
              have y_10 : (10 : Int32).toInt = 10 := by decide
              have y_m2 : (-2 : Int32).toInt = -2 := by decide
              have yr : (-2 : Int32).toInt = -2 := by decide
              omega
            exact retI (v := (-2)) hx hb hr hlk (rfl) hP hD hS (Mf 10) ⟨_, rfl, hp_57, (NtO.rf h_said)⟩ [0, 1] rfl rfl dX12_note_59 (Nat.le_of_ble_eq_true rfl) (Nat.le_of_ble_eq_true rfl) rfl
  · skip
    refine lv_aload_n hx hb dX12_note_5 rfl (lv_at hl 0 rfl) ?_
    refine gf_X12_39 hx hb hts hown hK hP 0 rfl rfl dX12_note_6 ?_
    refine lv_bipush (v := 125) hx hb dX12_note_9 (by decide) ?_
    refine lv_iconst (v := 0) hx hb dX12_note_11 (by decide) ?_
    refine st_int hx hb hK hP hD hS 1 0 rfl rfl (vin_dec (by decide +kernel)) dX12_note_12 (fun g_58 H locs eg_58 hP₀ hD₀ hS₀ => ?_)
    replace hP : va_P D classes [((Ma 0), .inr (12, [.ref (Ma 1), .int (Mv 0), .int (Mv 1), .ref (Ma 2), .ref (Ma 3), .ref (Ma 4), .ref (Ma 5), .ref (Ma 6), .int (Mv 2), .int (Mv 3), .int (Mv 4), .int (Mv 5), .int (Mv 6), .int (Mv 7), .int (Mv 8), .ref (Ma 7), .int (Mv 9), .ref (Ma 8), .int (Mv 10), .ref (Ma 9), .ref (Ma 10), .int (Mv 11), .int (Mv 12), .int (Mv 13), .ref (Ma 11), .int (Mv 14), .ref (Ma 12), .ref (Ma 13), .ref (Ma 14), .ref (Ma 15), .ref (Ma 16), .long (Mj 0), .ref (Ma 17), .ref (Ma 18), .ref (Ma 19), .ref (Ma 20)])), ((Ma 10), .inl (tc 0, 126, .inl g_58))] H := hP₀
    replace hD : va_D A [((Ma 0), .inr (12, [.ref (Ma 1), .int (Mv 0), .int (Mv 1), .ref (Ma 2), .ref (Ma 3), .ref (Ma 4), .ref (Ma 5), .ref (Ma 6), .int (Mv 2), .int (Mv 3), .int (Mv 4), .int (Mv 5), .int (Mv 6), .int (Mv 7), .int (Mv 8), .ref (Ma 7), .int (Mv 9), .ref (Ma 8), .int (Mv 10), .ref (Ma 9), .ref (Ma 10), .int (Mv 11), .int (Mv 12), .int (Mv 13), .ref (Ma 11), .int (Mv 14), .ref (Ma 12), .ref (Ma 13), .ref (Ma 14), .ref (Ma 15), .ref (Ma 16), .long (Mj 0), .ref (Ma 17), .ref (Ma 18), .ref (Ma 19), .ref (Ma 20)])), ((Ma 10), .inl (tc 0, 126, .inl g_58))] := hD₀
    replace hS := hS₀
    clear hP₀ hD₀ hS₀
    have pf_59 : NtO (Mf 10) (Mf 10) := NtO.rf h_said
    have hr_61 : 0 ≤ (0 : Int32).toInt ∧ (0 : Int32).toInt ≤ 10 := by
      have z_1 := congrArg Int32.toInt c_1
      have y_m1 : (-1 : Int32).toInt = -1 := by decide
      have y_0 : (0 : Int32).toInt = 0 := by decide
      omega
    have pf_60 : NtO (Mf 10) g_58 := NtO.many pf_59 eg_58 (by decide) hr_61
    have ar_pf_60 := NtO.ar pf_60
    have kn_g_58 := upd_lit (j := 125) eg_58 (by decide)
    refine lv_iconst (v := 0) hx hb dX12_note_13 (by decide) ?_
    have hp_62 : ((x1.toInt = -1 ∧ (0 : Int32).toInt = 0 ∧ (g_58 125).toInt = 0) ∨ (¬ x1.toInt = -1 ∧ (x1.toInt < 0 ∨ 60 < x1.toInt ∨ x2.toInt < 0 ∨ ((Mf 10) 3).toInt ≤ x2.toInt ∨ x3.toInt < 0 ∨ 1 < x3.toInt ∨ ((Mf 10) 125).toInt < 0 ∨ 10 ≤ ((Mf 10) 125).toInt) ∧ (0 : Int32).toInt = -2 ∧ (g_58 125).toInt = ((Mf 10) 125).toInt) ∨ (0 ≤ x1.toInt ∧ x1.toInt ≤ 60 ∧ 0 ≤ x2.toInt ∧ x2.toInt < ((Mf 10) 3).toInt ∧ 0 ≤ x3.toInt ∧ x3.toInt ≤ 1 ∧ 0 ≤ ((Mf 10) 125).toInt ∧ ((Mf 10) 125).toInt < 10 ∧ (0 : Int32).toInt = ((Mf 10) 125).toInt + 1 ∧ (g_58 125).toInt = ((Mf 10) 125).toInt + 1)) := by
      have z_1 := congrArg Int32.toInt c_1
      have y_m1 : (-1 : Int32).toInt = -1 := by decide
      have y_0 : (0 : Int32).toInt = 0 := by decide
      have yr : (0 : Int32).toInt = 0 := by decide
      omega
    exact retI (v := 0) hx hb hr hlk (rfl) hP hD hS g_58 ⟨_, rfl, hp_62, pf_60⟩ [0, 1] rfl rfl dX12_note_14 (Nat.le_of_ble_eq_true rfl) (Nat.le_of_ble_eq_true rfl) rfl
set_option maxHeartbeats 4000000 in
set_option maxRecDepth 100000 in
theorem ct_gX12_image_i {T : Nat → Int32} (l : Launch) (D : va_G) (tc : Nat → ClassId) (sk : (Nat → Nat) × (Nat → Nat)) (Ma : Nat → Nat) (Mv : Nat → Int32) (Mf : Nat → Nat → Int32) (Mj : Nat → Int64) (x1 : Int32) (h_k : 0 ≤ x1.toInt ∧ x1.toInt ≤ 3) (h_said : SaidD T (Mf 10) 999) (h_img : ImgD (Mf 17)) (h_frd : FrcD (Mf 18) (Mf 20) (Mv 1)) (h_frc : -1 ≤ (Mv 11).toInt ∧ (Mv 11).toInt < (Mv 1).toInt ∧ (Mv 1).toInt ≤ 6) : Ct l yX12_image cX12_image 3 (some .int) { frames := 1, cells := 0, slots := 0, locals := 25 } D tc sk [.ref (Ma 0), .int x1] [((Ma 0), .inr (12, [.ref (Ma 1), .int (Mv 0), .int (Mv 1), .ref (Ma 2), .ref (Ma 3), .ref (Ma 4), .ref (Ma 5), .ref (Ma 6), .int (Mv 2), .int (Mv 3), .int (Mv 4), .int (Mv 5), .int (Mv 6), .int (Mv 7), .int (Mv 8), .ref (Ma 7), .int (Mv 9), .ref (Ma 8), .int (Mv 10), .ref (Ma 9), .ref (Ma 10), .int (Mv 11), .int (Mv 12), .int (Mv 13), .ref (Ma 11), .int (Mv 14), .ref (Ma 12), .ref (Ma 13), .ref (Ma 14), .ref (Ma 15), .ref (Ma 16), .long (Mj 0), .ref (Ma 17), .ref (Ma 18), .ref (Ma 19), .ref (Ma 20)])), ((Ma 10), .inl (tc 0, 126, .inl (Mf 10))), ((Ma 17), .inl (tc 0, 504, .inl (Mf 17))), ((Ma 18), .inl (tc 0, 4, .inl (Mf 18))), ((Ma 19), .inl (tc 0, 4, .inl (Mf 19))), ((Ma 20), .inl (tc 3, 4, .inl (Mf 20)))] (fun (v : Option Value) (u : (Nat → Int32) × (Nat → Int32)) => match u with | (oo0x1, oo0x2) => ∃ r : Int32, v = some (.int r) ∧ (True) ∧ (ImgD oo0x1) ∧ (FrcD oo0x2 (upd (Mf 20) (x1 : Int32).toNatClampNeg 1) (Mv 1)) ∧ (ImX (Mf 17) oo0x1 (Mf 10) x1)) (fun (u : (Nat → Int32) × (Nat → Int32)) => match u with | (oo0x1, oo0x2) => [((Ma 0), .inr (12, [.ref (Ma 1), .int (Mv 0), .int (Mv 1), .ref (Ma 2), .ref (Ma 3), .ref (Ma 4), .ref (Ma 5), .ref (Ma 6), .int (Mv 2), .int (Mv 3), .int (Mv 4), .int (Mv 5), .int (Mv 6), .int (Mv 7), .int (Mv 8), .ref (Ma 7), .int (Mv 9), .ref (Ma 8), .int (Mv 10), .ref (Ma 9), .ref (Ma 10), .int (Mv 11), .int (Mv 12), .int (Mv 13), .ref (Ma 11), .int (Mv 14), .ref (Ma 12), .ref (Ma 13), .ref (Ma 14), .ref (Ma 15), .ref (Ma 16), .long (Mj 0), .ref (Ma 17), .ref (Ma 18), .ref (Ma 19), .ref (Ma 20)])), ((Ma 10), .inl (tc 0, 126, .inl (Mf 10))), ((Ma 17), .inl (tc 0, 504, .inl oo0x1)), ((Ma 18), .inl (tc 0, 4, .inl oo0x2)), ((Ma 19), .inl (tc 0, 4, .inl (upd (Mf 19) (x1 : Int32).toNatClampNeg (Mv 12)))), ((Ma 20), .inl (tc 3, 4, .inl (upd (Mf 20) (x1 : Int32).toNatClampNeg 1)))]) 0 0 := by
  refine Ct.start (by decide) (Nat.le_of_ble_eq_true rfl) (fun p e s m below meth c A ls hx hb hr hlk hin hml hown hts hK hX hP hD hA hl hS => ?_)
  have hl : lv_has ls 3 [(0, .ref (Ma 0)), (1, .int x1)] := hl
  have ar_h_said := SaidD.al h_said
  refine lv_iload_n hx hb dX12_image_0 rfl (lv_at hl 1 rfl) ?_
  refine lv_i2l (v := (x1).toInt64) hx hb dX12_image_1 rfl ?_
  refine lv_lconst (v := 0) hx hb dX12_image_2 (by decide) ?_
  refine lv_ldc2 hx hb hown (hts _ k_1651) dX12_image_3 ?_
  refine cS (As := [.long (x1).toInt64, .long 0, .long 3]) (rest := []) (wr := [((Ma 0), .inr (12, [.ref (Ma 1), .int (Mv 0), .int (Mv 1), .ref (Ma 2), .ref (Ma 3), .ref (Ma 4), .ref (Ma 5), .ref (Ma 6), .int (Mv 2), .int (Mv 3), .int (Mv 4), .int (Mv 5), .int (Mv 6), .int (Mv 7), .int (Mv 8), .ref (Ma 7), .int (Mv 9), .ref (Ma 8), .int (Mv 10), .ref (Ma 9), .ref (Ma 10), .int (Mv 11), .int (Mv 12), .int (Mv 13), .ref (Ma 11), .int (Mv 14), .ref (Ma 12), .ref (Ma 13), .ref (Ma 14), .ref (Ma 15), .ref (Ma 16), .long (Mj 0), .ref (Ma 17), .ref (Ma 18), .ref (Ma 19), .ref (Ma 20)])), ((Ma 10), .inl (tc 0, 126, .inl (Mf 10))), ((Ma 17), .inl (tc 0, 504, .inl (Mf 17))), ((Ma 18), .inl (tc 0, 4, .inl (Mf 18))), ((Ma 19), .inl (tc 0, 4, .inl (Mf 19))), ((Ma 20), .inl (tc 3, 4, .inl (Mf 20)))]) ⟨hx, hb, hml, hown, hts⟩ hK hX hA (ct_X12_in2 l D tc sk ((x1).toInt64) 0 3) k_1259 k_1257 k_1258 k_106 pl_X12_in ⟨Nat.le_of_ble_eq_true rfl, Nat.le_of_ble_eq_true rfl⟩ rfl rfl  hP hD hS [] [0, 1, 2, 3, 4, 5] rfl rfl rfl rfl rfl (by decide) rfl hl.1 rfl (Nat.le_of_ble_eq_true rfl) dX12_image_6 ⟨Nat.le_of_ble_eq_true rfl, Nat.le_of_ble_eq_true rfl⟩ (fun v_1 u_2 H locs hv_3 hP₀ hD₀ hS₀ => ?_)
  obtain ⟨r_4, rfl, he_5⟩ := hv_3
  have he_5 : ((r_4.toInt = 0 ∧ ((x1).toInt64.toInt < (0 : Int64).toInt ∨ (3 : Int64).toInt < (x1).toInt64.toInt)) ∨ (r_4.toInt = 1 ∧ (0 : Int64).toInt ≤ (x1).toInt64.toInt ∧ (x1).toInt64.toInt ≤ (3 : Int64).toInt)) := he_5
  refine W.eq (g2 := F0 m 9 ls [.int r_4]) rfl ?_
  replace hP : va_P D classes [((Ma 0), .inr (12, [.ref (Ma 1), .int (Mv 0), .int (Mv 1), .ref (Ma 2), .ref (Ma 3), .ref (Ma 4), .ref (Ma 5), .ref (Ma 6), .int (Mv 2), .int (Mv 3), .int (Mv 4), .int (Mv 5), .int (Mv 6), .int (Mv 7), .int (Mv 8), .ref (Ma 7), .int (Mv 9), .ref (Ma 8), .int (Mv 10), .ref (Ma 9), .ref (Ma 10), .int (Mv 11), .int (Mv 12), .int (Mv 13), .ref (Ma 11), .int (Mv 14), .ref (Ma 12), .ref (Ma 13), .ref (Ma 14), .ref (Ma 15), .ref (Ma 16), .long (Mj 0), .ref (Ma 17), .ref (Ma 18), .ref (Ma 19), .ref (Ma 20)])), ((Ma 10), .inl (tc 0, 126, .inl (Mf 10))), ((Ma 17), .inl (tc 0, 504, .inl (Mf 17))), ((Ma 18), .inl (tc 0, 4, .inl (Mf 18))), ((Ma 19), .inl (tc 0, 4, .inl (Mf 19))), ((Ma 20), .inl (tc 3, 4, .inl (Mf 20)))] H := hP₀
  replace hD : va_D A [((Ma 0), .inr (12, [.ref (Ma 1), .int (Mv 0), .int (Mv 1), .ref (Ma 2), .ref (Ma 3), .ref (Ma 4), .ref (Ma 5), .ref (Ma 6), .int (Mv 2), .int (Mv 3), .int (Mv 4), .int (Mv 5), .int (Mv 6), .int (Mv 7), .int (Mv 8), .ref (Ma 7), .int (Mv 9), .ref (Ma 8), .int (Mv 10), .ref (Ma 9), .ref (Ma 10), .int (Mv 11), .int (Mv 12), .int (Mv 13), .ref (Ma 11), .int (Mv 14), .ref (Ma 12), .ref (Ma 13), .ref (Ma 14), .ref (Ma 15), .ref (Ma 16), .long (Mj 0), .ref (Ma 17), .ref (Ma 18), .ref (Ma 19), .ref (Ma 20)])), ((Ma 10), .inl (tc 0, 126, .inl (Mf 10))), ((Ma 17), .inl (tc 0, 504, .inl (Mf 17))), ((Ma 18), .inl (tc 0, 4, .inl (Mf 18))), ((Ma 19), .inl (tc 0, 4, .inl (Mf 19))), ((Ma 20), .inl (tc 3, 4, .inl (Mf 20)))] := hD₀
  replace hS := hS₀
  clear hP₀ hD₀ hS₀
  have yl_he_5_0 : (0 : Int64).toInt = 0 := by decide
  have yl_he_5_3 : (3 : Int64).toInt = 3 := by decide
  simp only [i32_64] at he_5
  refine lv_if_ne (tgt := 14) hx hb dX12_image_9 (by decide) (fun c_7 => ?_) (fun c_7 => ?_)
  · skip
    refine lv_aload_n hx hb dX12_image_14 rfl (lv_at hl 0 rfl) ?_
    refine gf_X12_74 hx hb hts hown hK hP 0 rfl rfl dX12_image_15 ?_
    refine lv_iload_n hx hb dX12_image_18 rfl (lv_at hl 1 rfl) ?_
    refine lv_iconst (v := 1) hx hb dX12_image_19 (by decide) ?_
    have hi_8 : vp_in x1 4 := by
      have z_1 : ¬ (r_4 : Int32).toInt = (0 : Int32).toInt := fun z => c_7 (Int32.toInt_inj.mp z)
      have y_0 : (0 : Int32).toInt = 0 := by decide
      refine vp_in_iff.mpr ⟨?_, ?_⟩ <;> omega
    refine st_bool hx hb hK hP hD hS 5 3 rfl rfl hi_8 dX12_image_20 (fun g_9 H locs eg_9 hP₀ hD₀ hS₀ => ?_)
    replace hP : va_P D classes [((Ma 0), .inr (12, [.ref (Ma 1), .int (Mv 0), .int (Mv 1), .ref (Ma 2), .ref (Ma 3), .ref (Ma 4), .ref (Ma 5), .ref (Ma 6), .int (Mv 2), .int (Mv 3), .int (Mv 4), .int (Mv 5), .int (Mv 6), .int (Mv 7), .int (Mv 8), .ref (Ma 7), .int (Mv 9), .ref (Ma 8), .int (Mv 10), .ref (Ma 9), .ref (Ma 10), .int (Mv 11), .int (Mv 12), .int (Mv 13), .ref (Ma 11), .int (Mv 14), .ref (Ma 12), .ref (Ma 13), .ref (Ma 14), .ref (Ma 15), .ref (Ma 16), .long (Mj 0), .ref (Ma 17), .ref (Ma 18), .ref (Ma 19), .ref (Ma 20)])), ((Ma 10), .inl (tc 0, 126, .inl (Mf 10))), ((Ma 17), .inl (tc 0, 504, .inl (Mf 17))), ((Ma 18), .inl (tc 0, 4, .inl (Mf 18))), ((Ma 19), .inl (tc 0, 4, .inl (Mf 19))), ((Ma 20), .inl (tc 3, 4, .inl g_9))] H := hP₀
    replace hD : va_D A [((Ma 0), .inr (12, [.ref (Ma 1), .int (Mv 0), .int (Mv 1), .ref (Ma 2), .ref (Ma 3), .ref (Ma 4), .ref (Ma 5), .ref (Ma 6), .int (Mv 2), .int (Mv 3), .int (Mv 4), .int (Mv 5), .int (Mv 6), .int (Mv 7), .int (Mv 8), .ref (Ma 7), .int (Mv 9), .ref (Ma 8), .int (Mv 10), .ref (Ma 9), .ref (Ma 10), .int (Mv 11), .int (Mv 12), .int (Mv 13), .ref (Ma 11), .int (Mv 14), .ref (Ma 12), .ref (Ma 13), .ref (Ma 14), .ref (Ma 15), .ref (Ma 16), .long (Mj 0), .ref (Ma 17), .ref (Ma 18), .ref (Ma 19), .ref (Ma 20)])), ((Ma 10), .inl (tc 0, 126, .inl (Mf 10))), ((Ma 17), .inl (tc 0, 504, .inl (Mf 17))), ((Ma 18), .inl (tc 0, 4, .inl (Mf 18))), ((Ma 19), .inl (tc 0, 4, .inl (Mf 19))), ((Ma 20), .inl (tc 3, 4, .inl g_9))] := hD₀
    replace hS := hS₀
    clear hP₀ hD₀ hS₀
    have eg_9 : g_9 = upd (Mf 20) (x1 : Int32).toNatClampNeg 1 := eg_9
    subst eg_9
    replace hP : va_P D classes [((Ma 0), .inr (12, [.ref (Ma 1), .int (Mv 0), .int (Mv 1), .ref (Ma 2), .ref (Ma 3), .ref (Ma 4), .ref (Ma 5), .ref (Ma 6), .int (Mv 2), .int (Mv 3), .int (Mv 4), .int (Mv 5), .int (Mv 6), .int (Mv 7), .int (Mv 8), .ref (Ma 7), .int (Mv 9), .ref (Ma 8), .int (Mv 10), .ref (Ma 9), .ref (Ma 10), .int (Mv 11), .int (Mv 12), .int (Mv 13), .ref (Ma 11), .int (Mv 14), .ref (Ma 12), .ref (Ma 13), .ref (Ma 14), .ref (Ma 15), .ref (Ma 16), .long (Mj 0), .ref (Ma 17), .ref (Ma 18), .ref (Ma 19), .ref (Ma 20)])), ((Ma 10), .inl (tc 0, 126, .inl (Mf 10))), ((Ma 17), .inl (tc 0, 504, .inl (Mf 17))), ((Ma 18), .inl (tc 0, 4, .inl (Mf 18))), ((Ma 19), .inl (tc 0, 4, .inl (Mf 19))), ((Ma 20), .inl (tc 3, 4, .inl (upd (Mf 20) (x1 : Int32).toNatClampNeg 1)))] H := hP
    replace hD : va_D A [((Ma 0), .inr (12, [.ref (Ma 1), .int (Mv 0), .int (Mv 1), .ref (Ma 2), .ref (Ma 3), .ref (Ma 4), .ref (Ma 5), .ref (Ma 6), .int (Mv 2), .int (Mv 3), .int (Mv 4), .int (Mv 5), .int (Mv 6), .int (Mv 7), .int (Mv 8), .ref (Ma 7), .int (Mv 9), .ref (Ma 8), .int (Mv 10), .ref (Ma 9), .ref (Ma 10), .int (Mv 11), .int (Mv 12), .int (Mv 13), .ref (Ma 11), .int (Mv 14), .ref (Ma 12), .ref (Ma 13), .ref (Ma 14), .ref (Ma 15), .ref (Ma 16), .long (Mj 0), .ref (Ma 17), .ref (Ma 18), .ref (Ma 19), .ref (Ma 20)])), ((Ma 10), .inl (tc 0, 126, .inl (Mf 10))), ((Ma 17), .inl (tc 0, 504, .inl (Mf 17))), ((Ma 18), .inl (tc 0, 4, .inl (Mf 18))), ((Ma 19), .inl (tc 0, 4, .inl (Mf 19))), ((Ma 20), .inl (tc 3, 4, .inl (upd (Mf 20) (x1 : Int32).toNatClampNeg 1)))] := hD
    refine lv_aload_n hx hb dX12_image_21 rfl (lv_at hl 0 rfl) ?_
    refine gf_X12_68 hx hb hts hown hK hP 0 rfl rfl dX12_image_22 ?_
    refine lv_iload_n hx hb dX12_image_25 rfl (lv_at hl 1 rfl) ?_
    refine lv_aload_n hx hb dX12_image_26 rfl (lv_at hl 0 rfl) ?_
    refine gf_X12_42 hx hb hts hown hK hP 0 rfl rfl dX12_image_27 ?_
    have hi_10 : vp_in x1 4 := by
      have z_1 : ¬ (r_4 : Int32).toInt = (0 : Int32).toInt := fun z => c_7 (Int32.toInt_inj.mp z)
      have y_0 : (0 : Int32).toInt = 0 := by decide
      refine vp_in_iff.mpr ⟨?_, ?_⟩ <;> omega
    refine st_int hx hb hK hP hD hS 3 0 rfl rfl hi_10 dX12_image_30 (fun g_11 H locs eg_11 hP₀ hD₀ hS₀ => ?_)
    replace hP : va_P D classes [((Ma 0), .inr (12, [.ref (Ma 1), .int (Mv 0), .int (Mv 1), .ref (Ma 2), .ref (Ma 3), .ref (Ma 4), .ref (Ma 5), .ref (Ma 6), .int (Mv 2), .int (Mv 3), .int (Mv 4), .int (Mv 5), .int (Mv 6), .int (Mv 7), .int (Mv 8), .ref (Ma 7), .int (Mv 9), .ref (Ma 8), .int (Mv 10), .ref (Ma 9), .ref (Ma 10), .int (Mv 11), .int (Mv 12), .int (Mv 13), .ref (Ma 11), .int (Mv 14), .ref (Ma 12), .ref (Ma 13), .ref (Ma 14), .ref (Ma 15), .ref (Ma 16), .long (Mj 0), .ref (Ma 17), .ref (Ma 18), .ref (Ma 19), .ref (Ma 20)])), ((Ma 10), .inl (tc 0, 126, .inl (Mf 10))), ((Ma 17), .inl (tc 0, 504, .inl (Mf 17))), ((Ma 18), .inl (tc 0, 4, .inl g_11)), ((Ma 19), .inl (tc 0, 4, .inl (Mf 19))), ((Ma 20), .inl (tc 3, 4, .inl (upd (Mf 20) (x1 : Int32).toNatClampNeg 1)))] H := hP₀
    replace hD : va_D A [((Ma 0), .inr (12, [.ref (Ma 1), .int (Mv 0), .int (Mv 1), .ref (Ma 2), .ref (Ma 3), .ref (Ma 4), .ref (Ma 5), .ref (Ma 6), .int (Mv 2), .int (Mv 3), .int (Mv 4), .int (Mv 5), .int (Mv 6), .int (Mv 7), .int (Mv 8), .ref (Ma 7), .int (Mv 9), .ref (Ma 8), .int (Mv 10), .ref (Ma 9), .ref (Ma 10), .int (Mv 11), .int (Mv 12), .int (Mv 13), .ref (Ma 11), .int (Mv 14), .ref (Ma 12), .ref (Ma 13), .ref (Ma 14), .ref (Ma 15), .ref (Ma 16), .long (Mj 0), .ref (Ma 17), .ref (Ma 18), .ref (Ma 19), .ref (Ma 20)])), ((Ma 10), .inl (tc 0, 126, .inl (Mf 10))), ((Ma 17), .inl (tc 0, 504, .inl (Mf 17))), ((Ma 18), .inl (tc 0, 4, .inl g_11)), ((Ma 19), .inl (tc 0, 4, .inl (Mf 19))), ((Ma 20), .inl (tc 3, 4, .inl (upd (Mf 20) (x1 : Int32).toNatClampNeg 1)))] := hD₀
    replace hS := hS₀
    clear hP₀ hD₀ hS₀
    have hr_13 : -1 ≤ ((Mv 11) : Int32).toInt ∧ ((Mv 11) : Int32).toInt < (Mv 1).toInt := by
      have z_1 : ¬ (r_4 : Int32).toInt = (0 : Int32).toInt := fun z => c_7 (Int32.toInt_inj.mp z)
      have y_0 : (0 : Int32).toInt = 0 := by decide
      omega
    have pf_12 : FrcD g_11 (upd (Mf 20) (x1 : Int32).toNatClampNeg 1) (Mv 1) := FrcD.put h_frd rfl eg_11 hr_13
    refine lv_aload_n hx hb dX12_image_31 rfl (lv_at hl 0 rfl) ?_
    refine gf_X12_71 hx hb hts hown hK hP 0 rfl rfl dX12_image_32 ?_
    refine lv_iload_n hx hb dX12_image_35 rfl (lv_at hl 1 rfl) ?_
    refine lv_aload_n hx hb dX12_image_36 rfl (lv_at hl 0 rfl) ?_
    refine gf_X12_414 hx hb hts hown hK hP 0 rfl rfl dX12_image_37 ?_
    have hi_14 : vp_in x1 4 := by
      have z_1 : ¬ (r_4 : Int32).toInt = (0 : Int32).toInt := fun z => c_7 (Int32.toInt_inj.mp z)
      have y_0 : (0 : Int32).toInt = 0 := by decide
      refine vp_in_iff.mpr ⟨?_, ?_⟩ <;> omega
    refine st_int hx hb hK hP hD hS 4 0 rfl rfl hi_14 dX12_image_40 (fun g_15 H locs eg_15 hP₀ hD₀ hS₀ => ?_)
    replace hP : va_P D classes [((Ma 0), .inr (12, [.ref (Ma 1), .int (Mv 0), .int (Mv 1), .ref (Ma 2), .ref (Ma 3), .ref (Ma 4), .ref (Ma 5), .ref (Ma 6), .int (Mv 2), .int (Mv 3), .int (Mv 4), .int (Mv 5), .int (Mv 6), .int (Mv 7), .int (Mv 8), .ref (Ma 7), .int (Mv 9), .ref (Ma 8), .int (Mv 10), .ref (Ma 9), .ref (Ma 10), .int (Mv 11), .int (Mv 12), .int (Mv 13), .ref (Ma 11), .int (Mv 14), .ref (Ma 12), .ref (Ma 13), .ref (Ma 14), .ref (Ma 15), .ref (Ma 16), .long (Mj 0), .ref (Ma 17), .ref (Ma 18), .ref (Ma 19), .ref (Ma 20)])), ((Ma 10), .inl (tc 0, 126, .inl (Mf 10))), ((Ma 17), .inl (tc 0, 504, .inl (Mf 17))), ((Ma 18), .inl (tc 0, 4, .inl g_11)), ((Ma 19), .inl (tc 0, 4, .inl g_15)), ((Ma 20), .inl (tc 3, 4, .inl (upd (Mf 20) (x1 : Int32).toNatClampNeg 1)))] H := hP₀
    replace hD : va_D A [((Ma 0), .inr (12, [.ref (Ma 1), .int (Mv 0), .int (Mv 1), .ref (Ma 2), .ref (Ma 3), .ref (Ma 4), .ref (Ma 5), .ref (Ma 6), .int (Mv 2), .int (Mv 3), .int (Mv 4), .int (Mv 5), .int (Mv 6), .int (Mv 7), .int (Mv 8), .ref (Ma 7), .int (Mv 9), .ref (Ma 8), .int (Mv 10), .ref (Ma 9), .ref (Ma 10), .int (Mv 11), .int (Mv 12), .int (Mv 13), .ref (Ma 11), .int (Mv 14), .ref (Ma 12), .ref (Ma 13), .ref (Ma 14), .ref (Ma 15), .ref (Ma 16), .long (Mj 0), .ref (Ma 17), .ref (Ma 18), .ref (Ma 19), .ref (Ma 20)])), ((Ma 10), .inl (tc 0, 126, .inl (Mf 10))), ((Ma 17), .inl (tc 0, 504, .inl (Mf 17))), ((Ma 18), .inl (tc 0, 4, .inl g_11)), ((Ma 19), .inl (tc 0, 4, .inl g_15)), ((Ma 20), .inl (tc 3, 4, .inl (upd (Mf 20) (x1 : Int32).toNatClampNeg 1)))] := hD₀
    replace hS := hS₀
    clear hP₀ hD₀ hS₀
    subst eg_15
    replace hP : va_P D classes [((Ma 0), .inr (12, [.ref (Ma 1), .int (Mv 0), .int (Mv 1), .ref (Ma 2), .ref (Ma 3), .ref (Ma 4), .ref (Ma 5), .ref (Ma 6), .int (Mv 2), .int (Mv 3), .int (Mv 4), .int (Mv 5), .int (Mv 6), .int (Mv 7), .int (Mv 8), .ref (Ma 7), .int (Mv 9), .ref (Ma 8), .int (Mv 10), .ref (Ma 9), .ref (Ma 10), .int (Mv 11), .int (Mv 12), .int (Mv 13), .ref (Ma 11), .int (Mv 14), .ref (Ma 12), .ref (Ma 13), .ref (Ma 14), .ref (Ma 15), .ref (Ma 16), .long (Mj 0), .ref (Ma 17), .ref (Ma 18), .ref (Ma 19), .ref (Ma 20)])), ((Ma 10), .inl (tc 0, 126, .inl (Mf 10))), ((Ma 17), .inl (tc 0, 504, .inl (Mf 17))), ((Ma 18), .inl (tc 0, 4, .inl g_11)), ((Ma 19), .inl (tc 0, 4, .inl (upd (Mf 19) (x1 : Int32).toNatClampNeg (Mv 12)))), ((Ma 20), .inl (tc 3, 4, .inl (upd (Mf 20) (x1 : Int32).toNatClampNeg 1)))] H := hP
    replace hD : va_D A [((Ma 0), .inr (12, [.ref (Ma 1), .int (Mv 0), .int (Mv 1), .ref (Ma 2), .ref (Ma 3), .ref (Ma 4), .ref (Ma 5), .ref (Ma 6), .int (Mv 2), .int (Mv 3), .int (Mv 4), .int (Mv 5), .int (Mv 6), .int (Mv 7), .int (Mv 8), .ref (Ma 7), .int (Mv 9), .ref (Ma 8), .int (Mv 10), .ref (Ma 9), .ref (Ma 10), .int (Mv 11), .int (Mv 12), .int (Mv 13), .ref (Ma 11), .int (Mv 14), .ref (Ma 12), .ref (Ma 13), .ref (Ma 14), .ref (Ma 15), .ref (Ma 16), .long (Mj 0), .ref (Ma 17), .ref (Ma 18), .ref (Ma 19), .ref (Ma 20)])), ((Ma 10), .inl (tc 0, 126, .inl (Mf 10))), ((Ma 17), .inl (tc 0, 504, .inl (Mf 17))), ((Ma 18), .inl (tc 0, 4, .inl g_11)), ((Ma 19), .inl (tc 0, 4, .inl (upd (Mf 19) (x1 : Int32).toNatClampNeg (Mv 12)))), ((Ma 20), .inl (tc 3, 4, .inl (upd (Mf 20) (x1 : Int32).toNatClampNeg 1)))] := hD
    refine lv_iconst (v := 0) hx hb dX12_image_41 (by decide) ?_
    refine lv_istore_n (lv' := [(2, .int 0), (0, .ref (Ma 0)), (1, .int x1)]) hx hb dX12_image_42 rfl hl (by decide) rfl (fun ls hl₀ => ?_)
    replace hl := hl₀
    clear hl₀
    have loop_22 : ∀ (n_20 : Nat) (vy_18 : Int32) (vy_19 : Nat → Int32) (H : Heap) (locs : List Loc) (ls : Array Slot), (126 - (vy_18 : Int32).toInt).toNat < n_20 → (0 ≤ (vy_18 : Int32).toInt) → (ImG (Mf 17) vy_19 (Mf 10) x1 vy_18) → va_P D classes [((Ma 0), .inr (12, [.ref (Ma 1), .int (Mv 0), .int (Mv 1), .ref (Ma 2), .ref (Ma 3), .ref (Ma 4), .ref (Ma 5), .ref (Ma 6), .int (Mv 2), .int (Mv 3), .int (Mv 4), .int (Mv 5), .int (Mv 6), .int (Mv 7), .int (Mv 8), .ref (Ma 7), .int (Mv 9), .ref (Ma 8), .int (Mv 10), .ref (Ma 9), .ref (Ma 10), .int (Mv 11), .int (Mv 12), .int (Mv 13), .ref (Ma 11), .int (Mv 14), .ref (Ma 12), .ref (Ma 13), .ref (Ma 14), .ref (Ma 15), .ref (Ma 16), .long (Mj 0), .ref (Ma 17), .ref (Ma 18), .ref (Ma 19), .ref (Ma 20)])), ((Ma 10), .inl (tc 0, 126, .inl (Mf 10))), ((Ma 17), .inl (tc 0, 504, .inl vy_19)), ((Ma 18), .inl (tc 0, 4, .inl g_11)), ((Ma 19), .inl (tc 0, 4, .inl (upd (Mf 19) (x1 : Int32).toNatClampNeg (Mv 12)))), ((Ma 20), .inl (tc 3, 4, .inl (upd (Mf 20) (x1 : Int32).toNatClampNeg 1)))] H → va_D A [((Ma 0), .inr (12, [.ref (Ma 1), .int (Mv 0), .int (Mv 1), .ref (Ma 2), .ref (Ma 3), .ref (Ma 4), .ref (Ma 5), .ref (Ma 6), .int (Mv 2), .int (Mv 3), .int (Mv 4), .int (Mv 5), .int (Mv 6), .int (Mv 7), .int (Mv 8), .ref (Ma 7), .int (Mv 9), .ref (Ma 8), .int (Mv 10), .ref (Ma 9), .ref (Ma 10), .int (Mv 11), .int (Mv 12), .int (Mv 13), .ref (Ma 11), .int (Mv 14), .ref (Ma 12), .ref (Ma 13), .ref (Ma 14), .ref (Ma 15), .ref (Ma 16), .long (Mj 0), .ref (Ma 17), .ref (Ma 18), .ref (Ma 19), .ref (Ma 20)])), ((Ma 10), .inl (tc 0, 126, .inl (Mf 10))), ((Ma 17), .inl (tc 0, 504, .inl vy_19)), ((Ma 18), .inl (tc 0, 4, .inl g_11)), ((Ma 19), .inl (tc 0, 4, .inl (upd (Mf 19) (x1 : Int32).toNatClampNeg (Mv 12)))), ((Ma 20), .inl (tc 3, 4, .inl (upd (Mf 20) (x1 : Int32).toNatClampNeg 1)))] → va_S A s.heap H locs → lv_has ls 3 [(2, .int vy_18), (0, .ref (Ma 0)), (1, .int x1)] → W p l e ({ frames := 1, cells := 0, slots := 0, locals := 25 }) s m ([.ref (Ma 0), .int x1].toArray) below meth c H locs 0 0 (MQ below (QW (fun (v : Option Value) (u : (Nat → Int32) × (Nat → Int32)) => match u with | (oo0x1, oo0x2) => ∃ r : Int32, v = some (.int r) ∧ (True) ∧ (ImgD oo0x1) ∧ (FrcD oo0x2 (upd (Mf 20) (x1 : Int32).toNatClampNeg 1) (Mv 1)) ∧ (ImX (Mf 17) oo0x1 (Mf 10) x1)) (BW D (fun (u : (Nat → Int32) × (Nat → Int32)) => match u with | (oo0x1, oo0x2) => [((Ma 0), .inr (12, [.ref (Ma 1), .int (Mv 0), .int (Mv 1), .ref (Ma 2), .ref (Ma 3), .ref (Ma 4), .ref (Ma 5), .ref (Ma 6), .int (Mv 2), .int (Mv 3), .int (Mv 4), .int (Mv 5), .int (Mv 6), .int (Mv 7), .int (Mv 8), .ref (Ma 7), .int (Mv 9), .ref (Ma 8), .int (Mv 10), .ref (Ma 9), .ref (Ma 10), .int (Mv 11), .int (Mv 12), .int (Mv 13), .ref (Ma 11), .int (Mv 14), .ref (Ma 12), .ref (Ma 13), .ref (Ma 14), .ref (Ma 15), .ref (Ma 16), .long (Mj 0), .ref (Ma 17), .ref (Ma 18), .ref (Ma 19), .ref (Ma 20)])), ((Ma 10), .inl (tc 0, 126, .inl (Mf 10))), ((Ma 17), .inl (tc 0, 504, .inl oo0x1)), ((Ma 18), .inl (tc 0, 4, .inl oo0x2)), ((Ma 19), .inl (tc 0, 4, .inl (upd (Mf 19) (x1 : Int32).toNatClampNeg (Mv 12)))), ((Ma 20), .inl (tc 3, 4, .inl (upd (Mf 20) (x1 : Int32).toNatClampNeg 1)))]) A) A) ([.ref (Ma 0), .int x1].toArray) s 0 0 A) (F0 m 43 ls []) := by
      clear hP hD hS hl
      intro n_20
      induction n_20 with
      | zero =>
        intro vy_18 vy_19 H locs ls h1
        exact absurd h1 (Nat.not_lt_zero _)
      | succ n_20 ih_21 =>
        intro vy_18 vy_19 H locs ls hn_25 pf_23 pf_24 hP hD hS hl
        refine lv_iload_n hx hb dX12_image_43 rfl (lv_at hl 0 rfl) ?_
        refine lv_bipush (v := 126) hx hb dX12_image_44 (by decide) ?_
        refine lv_icmp_ge (tgt := 72) hx hb dX12_image_46 (by decide) (fun c_26 => ?_) (fun c_26 => ?_)
        · skip
          refine lv_aload_n hx hb dX12_image_72 rfl (lv_at hl 1 rfl) ?_
          refine gf_X12_39 hx hb hts hown hK hP 0 rfl rfl dX12_image_73 ?_
          refine lv_bipush (v := 10) hx hb dX12_image_76 (by decide) ?_
          refine va_iald hx hb hK hP 1 0 rfl rfl (vin_dec (by decide +kernel)) dX12_image_78 ?_
          refine lv_topi (fun x_27 ex_27 => ?_)
          have lx_27 : x_27.toInt = ((Mf 10) 10).toInt := congrArg Int32.toInt ex_27
          have hr_28 : 126 ≤ (vy_18 : Int32).toInt := by
            have z_1 : ¬ (r_4 : Int32).toInt = (0 : Int32).toInt := fun z => c_7 (Int32.toInt_inj.mp z)
            have z_2 := Int32.le_iff_toInt_le.mp c_26
            have y_0 : (0 : Int32).toInt = 0 := by decide
            have y_126 : (126 : Int32).toInt = 126 := by decide
            omega
          have hr_29 : 126 ≤ (vy_18 : Int32).toInt := by
            have z_1 : ¬ (r_4 : Int32).toInt = (0 : Int32).toInt := fun z => c_7 (Int32.toInt_inj.mp z)
            have z_2 := Int32.le_iff_toInt_le.mp c_26
            have y_0 : (0 : Int32).toInt = 0 := by decide
            have y_126 : (126 : Int32).toInt = 126 := by decide
            omega
          exact retI (v := x_27) hx hb hr hlk (rfl) hP hD hS (vy_19, g_11) ⟨_, rfl, trivial, (ImG.done pf_24 h_img (SaidD.o h_said) hr_28), pf_12, (ImG.x pf_24 hr_29)⟩ [0, 1, 2, 3, 4, 5] rfl rfl dX12_image_79 (Nat.le_of_ble_eq_true rfl) (Nat.le_of_ble_eq_true rfl) rfl
        · skip
          refine lv_aload_n hx hb dX12_image_49 rfl (lv_at hl 1 rfl) ?_
          refine gf_X12_65 hx hb hts hown hK hP 0 rfl rfl dX12_image_50 ?_
          refine lv_bipush (v := 126) hx hb dX12_image_53 (by decide) ?_
          refine lv_iload_n hx hb dX12_image_55 rfl (lv_at hl 2 rfl) ?_
          refine lv_imul hx hb dX12_image_56 ?_
          refine lv_topi (fun x_30 ex_30 => ?_)
          refine lv_iload_n hx hb dX12_image_57 rfl (lv_at hl 0 rfl) ?_
          refine lv_iadd hx hb dX12_image_58 ?_
          refine lv_topi (fun x_31 ex_31 => ?_)
          refine lv_aload_n hx hb dX12_image_59 rfl (lv_at hl 1 rfl) ?_
          refine gf_X12_39 hx hb hts hown hK hP 0 rfl rfl dX12_image_60 ?_
          refine lv_iload_n hx hb dX12_image_63 rfl (lv_at hl 0 rfl) ?_
          have hi_32 : vp_in vy_18 126 := by
            have z_1 : ¬ (r_4 : Int32).toInt = (0 : Int32).toInt := fun z => c_7 (Int32.toInt_inj.mp z)
            have z_2 := Int32.lt_iff_toInt_lt.mp (Int32.not_le.mp c_26)
            have y_0 : (0 : Int32).toInt = 0 := by decide
            have y_126 : (126 : Int32).toInt = 126 := by decide
            refine vp_in_iff.mpr ⟨?_, ?_⟩ <;> omega
          refine va_iald hx hb hK hP 1 0 rfl rfl hi_32 dX12_image_64 ?_
          refine lv_topi (fun x_33 ex_33 => ?_)
          have hi_34 : vp_in x_31 504 := by
            have z_1 : ¬ (r_4 : Int32).toInt = (0 : Int32).toInt := fun z => c_7 (Int32.toInt_inj.mp z)
            have z_2 := Int32.lt_iff_toInt_lt.mp (Int32.not_le.mp c_26)
            have y_0 : (0 : Int32).toInt = 0 := by decide
            have y_126 : (126 : Int32).toInt = 126 := by decide
            have t_x_30 : x_30.toInt = (126 : Int32).toInt * (x1 : Int32).toInt := by rw [ex_30]; exact mul_toInt (by first | omega | (rw [y_126]; omega)) (by first | omega | (rw [y_126]; omega))
            rw [y_126] at t_x_30
            have t_x_31 : x_31.toInt = (x_30 : Int32).toInt + (vy_18 : Int32).toInt := by rw [ex_31]; exact add_toInt (by omega) (by omega)
            refine vp_in_iff.mpr ⟨?_, ?_⟩ <;> omega
          refine st_int hx hb hK hP hD hS 2 0 rfl rfl hi_34 dX12_image_65 (fun g_35 H locs eg_35 hP₀ hD₀ hS₀ => ?_)
          replace hP : va_P D classes [((Ma 0), .inr (12, [.ref (Ma 1), .int (Mv 0), .int (Mv 1), .ref (Ma 2), .ref (Ma 3), .ref (Ma 4), .ref (Ma 5), .ref (Ma 6), .int (Mv 2), .int (Mv 3), .int (Mv 4), .int (Mv 5), .int (Mv 6), .int (Mv 7), .int (Mv 8), .ref (Ma 7), .int (Mv 9), .ref (Ma 8), .int (Mv 10), .ref (Ma 9), .ref (Ma 10), .int (Mv 11), .int (Mv 12), .int (Mv 13), .ref (Ma 11), .int (Mv 14), .ref (Ma 12), .ref (Ma 13), .ref (Ma 14), .ref (Ma 15), .ref (Ma 16), .long (Mj 0), .ref (Ma 17), .ref (Ma 18), .ref (Ma 19), .ref (Ma 20)])), ((Ma 10), .inl (tc 0, 126, .inl (Mf 10))), ((Ma 17), .inl (tc 0, 504, .inl g_35)), ((Ma 18), .inl (tc 0, 4, .inl g_11)), ((Ma 19), .inl (tc 0, 4, .inl (upd (Mf 19) (x1 : Int32).toNatClampNeg (Mv 12)))), ((Ma 20), .inl (tc 3, 4, .inl (upd (Mf 20) (x1 : Int32).toNatClampNeg 1)))] H := hP₀
          replace hD : va_D A [((Ma 0), .inr (12, [.ref (Ma 1), .int (Mv 0), .int (Mv 1), .ref (Ma 2), .ref (Ma 3), .ref (Ma 4), .ref (Ma 5), .ref (Ma 6), .int (Mv 2), .int (Mv 3), .int (Mv 4), .int (Mv 5), .int (Mv 6), .int (Mv 7), .int (Mv 8), .ref (Ma 7), .int (Mv 9), .ref (Ma 8), .int (Mv 10), .ref (Ma 9), .ref (Ma 10), .int (Mv 11), .int (Mv 12), .int (Mv 13), .ref (Ma 11), .int (Mv 14), .ref (Ma 12), .ref (Ma 13), .ref (Ma 14), .ref (Ma 15), .ref (Ma 16), .long (Mj 0), .ref (Ma 17), .ref (Ma 18), .ref (Ma 19), .ref (Ma 20)])), ((Ma 10), .inl (tc 0, 126, .inl (Mf 10))), ((Ma 17), .inl (tc 0, 504, .inl g_35)), ((Ma 18), .inl (tc 0, 4, .inl g_11)), ((Ma 19), .inl (tc 0, 4, .inl (upd (Mf 19) (x1 : Int32).toNatClampNeg (Mv 12)))), ((Ma 20), .inl (tc 3, 4, .inl (upd (Mf 20) (x1 : Int32).toNatClampNeg 1)))] := hD₀
          replace hS := hS₀
          clear hP₀ hD₀ hS₀
          obtain ⟨x_36, ex_36⟩ : ∃ y : Int32, y = vy_18 + 1 := ⟨_, rfl⟩
          refine lv_iinc (v := x_36) (lv' := [(2, .int x_36), (0, .ref (Ma 0)), (1, .int x1)]) hx hb dX12_image_66 hl (k := 0) rfl (by rw [ex_36]; rfl) (by decide) rfl (fun ls hl₀ => ?_)
          replace hl := hl₀
          clear hl₀
          refine lv_goto (tgt := 43) hx hb dX12_image_69 (by decide) ?_
          have hb_37 : 126 - (x_36 : Int32).toInt < 126 - (vy_18 : Int32).toInt ∧ 1 ≤ 126 - (vy_18 : Int32).toInt := by
            have z_1 : ¬ (r_4 : Int32).toInt = (0 : Int32).toInt := fun z => c_7 (Int32.toInt_inj.mp z)
            have z_2 := Int32.lt_iff_toInt_lt.mp (Int32.not_le.mp c_26)
            have y_0 : (0 : Int32).toInt = 0 := by decide
            have y_126 : (126 : Int32).toInt = 126 := by decide
            have y_1 : (1 : Int32).toInt = 1 := by decide
            have t_x_36 : x_36.toInt = (vy_18 : Int32).toInt + (1 : Int32).toInt := by rw [ex_36]; exact add_toInt (by omega) (by omega)
            omega
          have ha_38 : 0 ≤ (x_36 : Int32).toInt := by
            have z_1 : ¬ (r_4 : Int32).toInt = (0 : Int32).toInt := fun z => c_7 (Int32.toInt_inj.mp z)
            have z_2 := Int32.lt_iff_toInt_lt.mp (Int32.not_le.mp c_26)
            have y_0 : (0 : Int32).toInt = 0 := by decide
            have y_126 : (126 : Int32).toInt = 126 := by decide
            have y_1 : (1 : Int32).toInt = 1 := by decide
            have t_x_36 : x_36.toInt = (vy_18 : Int32).toInt + (1 : Int32).toInt := by rw [ex_36]; exact add_toInt (by omega) (by omega)
            omega
          have hi_40 : (x_31 : Int32).toInt = 126 * x1.toInt + (vy_18 : Int32).toInt := by
            have z_1 : ¬ (r_4 : Int32).toInt = (0 : Int32).toInt := fun z => c_7 (Int32.toInt_inj.mp z)
            have z_2 := Int32.lt_iff_toInt_lt.mp (Int32.not_le.mp c_26)
            have y_0 : (0 : Int32).toInt = 0 := by decide
            have y_126 : (126 : Int32).toInt = 126 := by decide
            have t_x_30 : x_30.toInt = (126 : Int32).toInt * (x1 : Int32).toInt := by rw [ex_30]; exact mul_toInt (by first | omega | (rw [y_126]; omega)) (by first | omega | (rw [y_126]; omega))
            rw [y_126] at t_x_30
            have t_x_31 : x_31.toInt = (x_30 : Int32).toInt + (vy_18 : Int32).toInt := by rw [ex_31]; exact add_toInt (by omega) (by omega)
            omega
          have hr_41 : 0 ≤ (vy_18 : Int32).toInt ∧ (vy_18 : Int32).toInt < 126 := by
            have z_1 : ¬ (r_4 : Int32).toInt = (0 : Int32).toInt := fun z => c_7 (Int32.toInt_inj.mp z)
            have z_2 := Int32.lt_iff_toInt_lt.mp (Int32.not_le.mp c_26)
            have y_0 : (0 : Int32).toInt = 0 := by decide
            have y_126 : (126 : Int32).toInt = 126 := by decide
            omega
          have hi_42 : (x_36 : Int32).toInt = (vy_18 : Int32).toInt + 1 := by
            have z_1 : ¬ (r_4 : Int32).toInt = (0 : Int32).toInt := fun z => c_7 (Int32.toInt_inj.mp z)
            have z_2 := Int32.lt_iff_toInt_lt.mp (Int32.not_le.mp c_26)
            have y_0 : (0 : Int32).toInt = 0 := by decide
            have y_126 : (126 : Int32).toInt = 126 := by decide
            have y_1 : (1 : Int32).toInt = 1 := by decide
            have t_x_36 : x_36.toInt = (vy_18 : Int32).toInt + (1 : Int32).toInt := by rw [ex_36]; exact add_toInt (by omega) (by omega)
            omega
          have hr_43 : 0 ≤ x1.toInt ∧ x1.toInt < 4 := by
            have z_1 : ¬ (r_4 : Int32).toInt = (0 : Int32).toInt := fun z => c_7 (Int32.toInt_inj.mp z)
            have z_2 := Int32.lt_iff_toInt_lt.mp (Int32.not_le.mp c_26)
            have y_0 : (0 : Int32).toInt = 0 := by decide
            have y_126 : (126 : Int32).toInt = 126 := by decide
            omega
          have ha_39 : ImG (Mf 17) g_35 (Mf 10) x1 x_36 := ImG.step pf_24 eg_35 ex_33 hi_40 hr_41 hi_42 hr_43
          exact ih_21 x_36 g_35 _ _ _ (by omega) ha_38 ha_39 (hP.sub [0, 1, 2, 3, 4, 5] rfl) (hD.sub [0, 1, 2, 3, 4, 5] rfl rfl) hS (lv_sub hl [0, 1, 2] rfl)
    have ha_44 : 0 ≤ (0 : Int32).toInt := by
      have z_1 : ¬ (r_4 : Int32).toInt = (0 : Int32).toInt := fun z => c_7 (Int32.toInt_inj.mp z)
      have y_0 : (0 : Int32).toInt = 0 := by decide
      omega
    have ha_45 : ImG (Mf 17) (Mf 17) (Mf 10) x1 0 := ImG.start (by decide)
    exact loop_22 _ 0 (Mf 17) _ _ _ (Nat.lt_succ_self _) ha_44 ha_45 hP hD hS hl
  · skip
    exfalso
    have z_1 := congrArg Int32.toInt c_7
    have y_0 : (0 : Int32).toInt = 0 := by decide
    omega
set_option maxHeartbeats 4000000 in
set_option maxRecDepth 100000 in
theorem ct_gX12_back_m (l : Launch) (D : va_G) (tc : Nat → ClassId) (sk : (Nat → Nat) × (Nat → Nat)) (Ma : Nat → Nat) (Mv : Nat → Int32) (Mf : Nat → Nat → Int32) (Mj : Nat → Int64) (x1 : Int32) (h_k : 0 ≤ x1.toInt ∧ x1.toInt ≤ 3) (h_m : ¬ ((Mf 20) x1.toNatClampNeg).toInt = 0) (h_img : ImgD (Mf 17)) (h_frd : FrcD (Mf 18) (Mf 20) (Mv 1)) (h_frc : -1 ≤ (Mv 11).toInt ∧ (Mv 11).toInt < (Mv 1).toInt ∧ (Mv 1).toInt ≤ 6) : Ct l yX12_back cX12_back 3 (some .int) { frames := 1, cells := 0, slots := 0, locals := 25 } D tc sk [.ref (Ma 0), .int x1] [((Ma 0), .inr (12, [.ref (Ma 1), .int (Mv 0), .int (Mv 1), .ref (Ma 2), .ref (Ma 3), .ref (Ma 4), .ref (Ma 5), .ref (Ma 6), .int (Mv 2), .int (Mv 3), .int (Mv 4), .int (Mv 5), .int (Mv 6), .int (Mv 7), .int (Mv 8), .ref (Ma 7), .int (Mv 9), .ref (Ma 8), .int (Mv 10), .ref (Ma 9), .ref (Ma 10), .int (Mv 11), .int (Mv 12), .int (Mv 13), .ref (Ma 11), .int (Mv 14), .ref (Ma 12), .ref (Ma 13), .ref (Ma 14), .ref (Ma 15), .ref (Ma 16), .long (Mj 0), .ref (Ma 17), .ref (Ma 18), .ref (Ma 19), .ref (Ma 20)])), ((Ma 10), .inl (tc 0, 126, .inl (Mf 10))), ((Ma 17), .inl (tc 0, 504, .inl (Mf 17))), ((Ma 18), .inl (tc 0, 4, .inl (Mf 18))), ((Ma 19), .inl (tc 0, 4, .inl (Mf 19))), ((Ma 20), .inl (tc 3, 4, .inl (Mf 20)))] (fun (v : Option Value) (u : (Int32) × (Int32) × (Nat → Int32)) => match u with | (oo0x1, oo0x2, oo0x3) => ∃ r : Int32, v = some (.int r) ∧ (True) ∧ (SaiO oo0x3 999) ∧ (-1 ≤ (oo0x1 : Int32).toInt ∧ (oo0x1 : Int32).toInt < ((Mv 1) : Int32).toInt ∧ ((Mv 1) : Int32).toInt ≤ 6) ∧ (BkC oo0x3 (Mf 17) x1)) (fun (u : (Int32) × (Int32) × (Nat → Int32)) => match u with | (oo0x1, oo0x2, oo0x3) => [((Ma 0), .inr (12, [.ref (Ma 1), .int (Mv 0), .int (Mv 1), .ref (Ma 2), .ref (Ma 3), .ref (Ma 4), .ref (Ma 5), .ref (Ma 6), .int (Mv 2), .int (Mv 3), .int (Mv 4), .int (Mv 5), .int (Mv 6), .int (Mv 7), .int (Mv 8), .ref (Ma 7), .int (Mv 9), .ref (Ma 8), .int (Mv 10), .ref (Ma 9), .ref (Ma 10), .int oo0x1, .int oo0x2, .int (Mv 13), .ref (Ma 11), .int 0, .ref (Ma 12), .ref (Ma 13), .ref (Ma 14), .ref (Ma 15), .ref (Ma 16), .long (Mj 0), .ref (Ma 17), .ref (Ma 18), .ref (Ma 19), .ref (Ma 20)])), ((Ma 10), .inl (tc 0, 126, .inl oo0x3)), ((Ma 17), .inl (tc 0, 504, .inl (Mf 17))), ((Ma 18), .inl (tc 0, 4, .inl (Mf 18))), ((Ma 19), .inl (tc 0, 4, .inl (Mf 19))), ((Ma 20), .inl (tc 3, 4, .inl (Mf 20)))]) 0 0 := by
  refine Ct.start (by decide) (Nat.le_of_ble_eq_true rfl) (fun p e s m below meth c A ls hx hb hr hlk hin hml hown hts hK hX hP hD hA hl hS => ?_)
  have hl : lv_has ls 3 [(0, .ref (Ma 0)), (1, .int x1)] := hl
  refine lv_iload_n hx hb dX12_back_0 rfl (lv_at hl 1 rfl) ?_
  refine lv_i2l (v := (x1).toInt64) hx hb dX12_back_1 rfl ?_
  refine lv_lconst (v := 0) hx hb dX12_back_2 (by decide) ?_
  refine lv_ldc2 hx hb hown (hts _ k_1651) dX12_back_3 ?_
  refine cS (As := [.long (x1).toInt64, .long 0, .long 3]) (rest := []) (wr := [((Ma 0), .inr (12, [.ref (Ma 1), .int (Mv 0), .int (Mv 1), .ref (Ma 2), .ref (Ma 3), .ref (Ma 4), .ref (Ma 5), .ref (Ma 6), .int (Mv 2), .int (Mv 3), .int (Mv 4), .int (Mv 5), .int (Mv 6), .int (Mv 7), .int (Mv 8), .ref (Ma 7), .int (Mv 9), .ref (Ma 8), .int (Mv 10), .ref (Ma 9), .ref (Ma 10), .int (Mv 11), .int (Mv 12), .int (Mv 13), .ref (Ma 11), .int (Mv 14), .ref (Ma 12), .ref (Ma 13), .ref (Ma 14), .ref (Ma 15), .ref (Ma 16), .long (Mj 0), .ref (Ma 17), .ref (Ma 18), .ref (Ma 19), .ref (Ma 20)])), ((Ma 10), .inl (tc 0, 126, .inl (Mf 10))), ((Ma 17), .inl (tc 0, 504, .inl (Mf 17))), ((Ma 18), .inl (tc 0, 4, .inl (Mf 18))), ((Ma 19), .inl (tc 0, 4, .inl (Mf 19))), ((Ma 20), .inl (tc 3, 4, .inl (Mf 20)))]) ⟨hx, hb, hml, hown, hts⟩ hK hX hA (ct_X12_in2 l D tc sk ((x1).toInt64) 0 3) k_1259 k_1257 k_1258 k_106 pl_X12_in ⟨Nat.le_of_ble_eq_true rfl, Nat.le_of_ble_eq_true rfl⟩ rfl rfl  hP hD hS [] [0, 1, 2, 3, 4, 5] rfl rfl rfl rfl rfl (by decide) rfl hl.1 rfl (Nat.le_of_ble_eq_true rfl) dX12_back_6 ⟨Nat.le_of_ble_eq_true rfl, Nat.le_of_ble_eq_true rfl⟩ (fun v_1 u_2 H locs hv_3 hP₀ hD₀ hS₀ => ?_)
  obtain ⟨r_4, rfl, he_5⟩ := hv_3
  have he_5 : ((r_4.toInt = 0 ∧ ((x1).toInt64.toInt < (0 : Int64).toInt ∨ (3 : Int64).toInt < (x1).toInt64.toInt)) ∨ (r_4.toInt = 1 ∧ (0 : Int64).toInt ≤ (x1).toInt64.toInt ∧ (x1).toInt64.toInt ≤ (3 : Int64).toInt)) := he_5
  refine W.eq (g2 := F0 m 9 ls [.int r_4]) rfl ?_
  replace hP : va_P D classes [((Ma 0), .inr (12, [.ref (Ma 1), .int (Mv 0), .int (Mv 1), .ref (Ma 2), .ref (Ma 3), .ref (Ma 4), .ref (Ma 5), .ref (Ma 6), .int (Mv 2), .int (Mv 3), .int (Mv 4), .int (Mv 5), .int (Mv 6), .int (Mv 7), .int (Mv 8), .ref (Ma 7), .int (Mv 9), .ref (Ma 8), .int (Mv 10), .ref (Ma 9), .ref (Ma 10), .int (Mv 11), .int (Mv 12), .int (Mv 13), .ref (Ma 11), .int (Mv 14), .ref (Ma 12), .ref (Ma 13), .ref (Ma 14), .ref (Ma 15), .ref (Ma 16), .long (Mj 0), .ref (Ma 17), .ref (Ma 18), .ref (Ma 19), .ref (Ma 20)])), ((Ma 10), .inl (tc 0, 126, .inl (Mf 10))), ((Ma 17), .inl (tc 0, 504, .inl (Mf 17))), ((Ma 18), .inl (tc 0, 4, .inl (Mf 18))), ((Ma 19), .inl (tc 0, 4, .inl (Mf 19))), ((Ma 20), .inl (tc 3, 4, .inl (Mf 20)))] H := hP₀
  replace hD : va_D A [((Ma 0), .inr (12, [.ref (Ma 1), .int (Mv 0), .int (Mv 1), .ref (Ma 2), .ref (Ma 3), .ref (Ma 4), .ref (Ma 5), .ref (Ma 6), .int (Mv 2), .int (Mv 3), .int (Mv 4), .int (Mv 5), .int (Mv 6), .int (Mv 7), .int (Mv 8), .ref (Ma 7), .int (Mv 9), .ref (Ma 8), .int (Mv 10), .ref (Ma 9), .ref (Ma 10), .int (Mv 11), .int (Mv 12), .int (Mv 13), .ref (Ma 11), .int (Mv 14), .ref (Ma 12), .ref (Ma 13), .ref (Ma 14), .ref (Ma 15), .ref (Ma 16), .long (Mj 0), .ref (Ma 17), .ref (Ma 18), .ref (Ma 19), .ref (Ma 20)])), ((Ma 10), .inl (tc 0, 126, .inl (Mf 10))), ((Ma 17), .inl (tc 0, 504, .inl (Mf 17))), ((Ma 18), .inl (tc 0, 4, .inl (Mf 18))), ((Ma 19), .inl (tc 0, 4, .inl (Mf 19))), ((Ma 20), .inl (tc 3, 4, .inl (Mf 20)))] := hD₀
  replace hS := hS₀
  clear hP₀ hD₀ hS₀
  have yl_he_5_0 : (0 : Int64).toInt = 0 := by decide
  have yl_he_5_3 : (3 : Int64).toInt = 3 := by decide
  simp only [i32_64] at he_5
  refine lv_if_eq (tgt := 21) hx hb dX12_back_9 (by decide) (fun c_7 => ?_) (fun c_7 => ?_)
  · skip
    exfalso
    have z_1 := congrArg Int32.toInt c_7
    have y_0 : (0 : Int32).toInt = 0 := by decide
    omega
  · skip
    refine lv_aload_n hx hb dX12_back_12 rfl (lv_at hl 0 rfl) ?_
    refine gf_X12_74 hx hb hts hown hK hP 0 rfl rfl dX12_back_13 ?_
    refine lv_iload_n hx hb dX12_back_16 rfl (lv_at hl 1 rfl) ?_
    have hi_8 : vp_in x1 4 := by
      have z_1 : ¬ (r_4 : Int32).toInt = (0 : Int32).toInt := fun z => c_7 (Int32.toInt_inj.mp z)
      have y_0 : (0 : Int32).toInt = 0 := by decide
      refine vp_in_iff.mpr ⟨?_, ?_⟩ <;> omega
    refine va_zald hx hb hK hP 5 3 rfl rfl hi_8 dX12_back_17 ?_
    refine lv_topi (fun x_9 ex_9 => ?_)
    have kx_9 : x_9.toInt = ((Mf 20) x1.toNatClampNeg).toInt := congrArg Int32.toInt ex_9
    refine lv_if_ne (tgt := 23) hx hb dX12_back_18 (by decide) (fun c_10 => ?_) (fun c_10 => ?_)
    · skip
      refine lv_aload_n hx hb dX12_back_23 rfl (lv_at hl 0 rfl) ?_
      refine lv_aload_n hx hb dX12_back_24 rfl (lv_at hl 0 rfl) ?_
      refine gf_X12_68 hx hb hts hown hK hP 0 rfl rfl dX12_back_25 ?_
      refine lv_iload_n hx hb dX12_back_28 rfl (lv_at hl 1 rfl) ?_
      have hi_11 : vp_in x1 4 := by
        have z_1 : ¬ (r_4 : Int32).toInt = (0 : Int32).toInt := fun z => c_7 (Int32.toInt_inj.mp z)
        have z_2 : ¬ (x_9 : Int32).toInt = (0 : Int32).toInt := fun z => c_10 (Int32.toInt_inj.mp z)
        have y_0 : (0 : Int32).toInt = 0 := by decide
        refine vp_in_iff.mpr ⟨?_, ?_⟩ <;> omega
      refine va_iald hx hb hK hP 3 0 rfl rfl hi_11 dX12_back_29 ?_
      refine lv_topi (fun x_12 ex_12 => ?_)
      have hr_13 : ¬ (x_9 : Int32).toInt = 0 := by
        have z_1 : ¬ (r_4 : Int32).toInt = (0 : Int32).toInt := fun z => c_7 (Int32.toInt_inj.mp z)
        have z_2 : ¬ (x_9 : Int32).toInt = (0 : Int32).toInt := fun z => c_10 (Int32.toInt_inj.mp z)
        have y_0 : (0 : Int32).toInt = 0 := by decide
        omega
      have hr_14 : 0 ≤ x1.toInt ∧ x1.toInt < 4 := by
        have z_1 : ¬ (r_4 : Int32).toInt = (0 : Int32).toInt := fun z => c_7 (Int32.toInt_inj.mp z)
        have z_2 : ¬ (x_9 : Int32).toInt = (0 : Int32).toInt := fun z => c_10 (Int32.toInt_inj.mp z)
        have y_0 : (0 : Int32).toInt = 0 := by decide
        omega
      have fkx_12 := FrcD.x h_frd ex_9 hr_13 ex_12 hr_14
      refine pf_X12_42 hx hb hts hown hK hP hD hS 0 rfl (Nat.le_of_ble_eq_true rfl) rfl rfl dX12_back_30 (fun H locs hP₀ hD₀ hS₀ => ?_)
      replace hP : va_P D classes [((Ma 0), .inr (12, [.ref (Ma 1), .int (Mv 0), .int (Mv 1), .ref (Ma 2), .ref (Ma 3), .ref (Ma 4), .ref (Ma 5), .ref (Ma 6), .int (Mv 2), .int (Mv 3), .int (Mv 4), .int (Mv 5), .int (Mv 6), .int (Mv 7), .int (Mv 8), .ref (Ma 7), .int (Mv 9), .ref (Ma 8), .int (Mv 10), .ref (Ma 9), .ref (Ma 10), .int x_12, .int (Mv 12), .int (Mv 13), .ref (Ma 11), .int (Mv 14), .ref (Ma 12), .ref (Ma 13), .ref (Ma 14), .ref (Ma 15), .ref (Ma 16), .long (Mj 0), .ref (Ma 17), .ref (Ma 18), .ref (Ma 19), .ref (Ma 20)])), ((Ma 10), .inl (tc 0, 126, .inl (Mf 10))), ((Ma 17), .inl (tc 0, 504, .inl (Mf 17))), ((Ma 18), .inl (tc 0, 4, .inl (Mf 18))), ((Ma 19), .inl (tc 0, 4, .inl (Mf 19))), ((Ma 20), .inl (tc 3, 4, .inl (Mf 20)))] H := hP₀
      replace hD : va_D A [((Ma 0), .inr (12, [.ref (Ma 1), .int (Mv 0), .int (Mv 1), .ref (Ma 2), .ref (Ma 3), .ref (Ma 4), .ref (Ma 5), .ref (Ma 6), .int (Mv 2), .int (Mv 3), .int (Mv 4), .int (Mv 5), .int (Mv 6), .int (Mv 7), .int (Mv 8), .ref (Ma 7), .int (Mv 9), .ref (Ma 8), .int (Mv 10), .ref (Ma 9), .ref (Ma 10), .int x_12, .int (Mv 12), .int (Mv 13), .ref (Ma 11), .int (Mv 14), .ref (Ma 12), .ref (Ma 13), .ref (Ma 14), .ref (Ma 15), .ref (Ma 16), .long (Mj 0), .ref (Ma 17), .ref (Ma 18), .ref (Ma 19), .ref (Ma 20)])), ((Ma 10), .inl (tc 0, 126, .inl (Mf 10))), ((Ma 17), .inl (tc 0, 504, .inl (Mf 17))), ((Ma 18), .inl (tc 0, 4, .inl (Mf 18))), ((Ma 19), .inl (tc 0, 4, .inl (Mf 19))), ((Ma 20), .inl (tc 3, 4, .inl (Mf 20)))] := hD₀
      replace hS := hS₀
      clear hP₀ hD₀ hS₀
      refine lv_aload_n hx hb dX12_back_33 rfl (lv_at hl 0 rfl) ?_
      refine lv_aload_n hx hb dX12_back_34 rfl (lv_at hl 0 rfl) ?_
      refine gf_X12_71 hx hb hts hown hK hP 0 rfl rfl dX12_back_35 ?_
      refine lv_iload_n hx hb dX12_back_38 rfl (lv_at hl 1 rfl) ?_
      have hi_15 : vp_in x1 4 := by
        have z_1 : ¬ (r_4 : Int32).toInt = (0 : Int32).toInt := fun z => c_7 (Int32.toInt_inj.mp z)
        have z_2 : ¬ (x_9 : Int32).toInt = (0 : Int32).toInt := fun z => c_10 (Int32.toInt_inj.mp z)
        have y_0 : (0 : Int32).toInt = 0 := by decide
        refine vp_in_iff.mpr ⟨?_, ?_⟩ <;> omega
      refine va_iald hx hb hK hP 4 0 rfl rfl hi_15 dX12_back_39 ?_
      refine lv_topi (fun x_16 ex_16 => ?_)
      have kx_16 : x_16.toInt = ((Mf 19) x1.toNatClampNeg).toInt := congrArg Int32.toInt ex_16
      refine pf_X12_414 hx hb hts hown hK hP hD hS 0 rfl (Nat.le_of_ble_eq_true rfl) rfl rfl dX12_back_40 (fun H locs hP₀ hD₀ hS₀ => ?_)
      replace hP : va_P D classes [((Ma 0), .inr (12, [.ref (Ma 1), .int (Mv 0), .int (Mv 1), .ref (Ma 2), .ref (Ma 3), .ref (Ma 4), .ref (Ma 5), .ref (Ma 6), .int (Mv 2), .int (Mv 3), .int (Mv 4), .int (Mv 5), .int (Mv 6), .int (Mv 7), .int (Mv 8), .ref (Ma 7), .int (Mv 9), .ref (Ma 8), .int (Mv 10), .ref (Ma 9), .ref (Ma 10), .int x_12, .int x_16, .int (Mv 13), .ref (Ma 11), .int (Mv 14), .ref (Ma 12), .ref (Ma 13), .ref (Ma 14), .ref (Ma 15), .ref (Ma 16), .long (Mj 0), .ref (Ma 17), .ref (Ma 18), .ref (Ma 19), .ref (Ma 20)])), ((Ma 10), .inl (tc 0, 126, .inl (Mf 10))), ((Ma 17), .inl (tc 0, 504, .inl (Mf 17))), ((Ma 18), .inl (tc 0, 4, .inl (Mf 18))), ((Ma 19), .inl (tc 0, 4, .inl (Mf 19))), ((Ma 20), .inl (tc 3, 4, .inl (Mf 20)))] H := hP₀
      replace hD : va_D A [((Ma 0), .inr (12, [.ref (Ma 1), .int (Mv 0), .int (Mv 1), .ref (Ma 2), .ref (Ma 3), .ref (Ma 4), .ref (Ma 5), .ref (Ma 6), .int (Mv 2), .int (Mv 3), .int (Mv 4), .int (Mv 5), .int (Mv 6), .int (Mv 7), .int (Mv 8), .ref (Ma 7), .int (Mv 9), .ref (Ma 8), .int (Mv 10), .ref (Ma 9), .ref (Ma 10), .int x_12, .int x_16, .int (Mv 13), .ref (Ma 11), .int (Mv 14), .ref (Ma 12), .ref (Ma 13), .ref (Ma 14), .ref (Ma 15), .ref (Ma 16), .long (Mj 0), .ref (Ma 17), .ref (Ma 18), .ref (Ma 19), .ref (Ma 20)])), ((Ma 10), .inl (tc 0, 126, .inl (Mf 10))), ((Ma 17), .inl (tc 0, 504, .inl (Mf 17))), ((Ma 18), .inl (tc 0, 4, .inl (Mf 18))), ((Ma 19), .inl (tc 0, 4, .inl (Mf 19))), ((Ma 20), .inl (tc 3, 4, .inl (Mf 20)))] := hD₀
      replace hS := hS₀
      clear hP₀ hD₀ hS₀
      refine lv_aload_n hx hb dX12_back_43 rfl (lv_at hl 0 rfl) ?_
      refine lv_iconst (v := 0) hx hb dX12_back_44 (by decide) ?_
      refine pf_X12_265 hx hb hts hown hK hP hD hS 0 rfl (Nat.le_of_ble_eq_true rfl) rfl rfl dX12_back_45 (fun H locs hP₀ hD₀ hS₀ => ?_)
      replace hP : va_P D classes [((Ma 0), .inr (12, [.ref (Ma 1), .int (Mv 0), .int (Mv 1), .ref (Ma 2), .ref (Ma 3), .ref (Ma 4), .ref (Ma 5), .ref (Ma 6), .int (Mv 2), .int (Mv 3), .int (Mv 4), .int (Mv 5), .int (Mv 6), .int (Mv 7), .int (Mv 8), .ref (Ma 7), .int (Mv 9), .ref (Ma 8), .int (Mv 10), .ref (Ma 9), .ref (Ma 10), .int x_12, .int x_16, .int (Mv 13), .ref (Ma 11), .int 0, .ref (Ma 12), .ref (Ma 13), .ref (Ma 14), .ref (Ma 15), .ref (Ma 16), .long (Mj 0), .ref (Ma 17), .ref (Ma 18), .ref (Ma 19), .ref (Ma 20)])), ((Ma 10), .inl (tc 0, 126, .inl (Mf 10))), ((Ma 17), .inl (tc 0, 504, .inl (Mf 17))), ((Ma 18), .inl (tc 0, 4, .inl (Mf 18))), ((Ma 19), .inl (tc 0, 4, .inl (Mf 19))), ((Ma 20), .inl (tc 3, 4, .inl (Mf 20)))] H := hP₀
      replace hD : va_D A [((Ma 0), .inr (12, [.ref (Ma 1), .int (Mv 0), .int (Mv 1), .ref (Ma 2), .ref (Ma 3), .ref (Ma 4), .ref (Ma 5), .ref (Ma 6), .int (Mv 2), .int (Mv 3), .int (Mv 4), .int (Mv 5), .int (Mv 6), .int (Mv 7), .int (Mv 8), .ref (Ma 7), .int (Mv 9), .ref (Ma 8), .int (Mv 10), .ref (Ma 9), .ref (Ma 10), .int x_12, .int x_16, .int (Mv 13), .ref (Ma 11), .int 0, .ref (Ma 12), .ref (Ma 13), .ref (Ma 14), .ref (Ma 15), .ref (Ma 16), .long (Mj 0), .ref (Ma 17), .ref (Ma 18), .ref (Ma 19), .ref (Ma 20)])), ((Ma 10), .inl (tc 0, 126, .inl (Mf 10))), ((Ma 17), .inl (tc 0, 504, .inl (Mf 17))), ((Ma 18), .inl (tc 0, 4, .inl (Mf 18))), ((Ma 19), .inl (tc 0, 4, .inl (Mf 19))), ((Ma 20), .inl (tc 3, 4, .inl (Mf 20)))] := hD₀
      replace hS := hS₀
      clear hP₀ hD₀ hS₀
      refine lv_iconst (v := 0) hx hb dX12_back_48 (by decide) ?_
      refine lv_istore_n (lv' := [(2, .int 0), (0, .ref (Ma 0)), (1, .int x1)]) hx hb dX12_back_49 rfl hl (by decide) rfl (fun ls hl₀ => ?_)
      replace hl := hl₀
      clear hl₀
      have loop_23 : ∀ (n_21 : Nat) (vy_19 : Int32) (vy_20 : Nat → Int32) (H : Heap) (locs : List Loc) (ls : Array Slot), (126 - (vy_19 : Int32).toInt).toNat < n_21 → (0 ≤ (vy_19 : Int32).toInt) → (BkK vy_20 (Mf 17) x1 vy_19) → va_P D classes [((Ma 0), .inr (12, [.ref (Ma 1), .int (Mv 0), .int (Mv 1), .ref (Ma 2), .ref (Ma 3), .ref (Ma 4), .ref (Ma 5), .ref (Ma 6), .int (Mv 2), .int (Mv 3), .int (Mv 4), .int (Mv 5), .int (Mv 6), .int (Mv 7), .int (Mv 8), .ref (Ma 7), .int (Mv 9), .ref (Ma 8), .int (Mv 10), .ref (Ma 9), .ref (Ma 10), .int x_12, .int x_16, .int (Mv 13), .ref (Ma 11), .int 0, .ref (Ma 12), .ref (Ma 13), .ref (Ma 14), .ref (Ma 15), .ref (Ma 16), .long (Mj 0), .ref (Ma 17), .ref (Ma 18), .ref (Ma 19), .ref (Ma 20)])), ((Ma 10), .inl (tc 0, 126, .inl vy_20)), ((Ma 17), .inl (tc 0, 504, .inl (Mf 17))), ((Ma 18), .inl (tc 0, 4, .inl (Mf 18))), ((Ma 19), .inl (tc 0, 4, .inl (Mf 19))), ((Ma 20), .inl (tc 3, 4, .inl (Mf 20)))] H → va_D A [((Ma 0), .inr (12, [.ref (Ma 1), .int (Mv 0), .int (Mv 1), .ref (Ma 2), .ref (Ma 3), .ref (Ma 4), .ref (Ma 5), .ref (Ma 6), .int (Mv 2), .int (Mv 3), .int (Mv 4), .int (Mv 5), .int (Mv 6), .int (Mv 7), .int (Mv 8), .ref (Ma 7), .int (Mv 9), .ref (Ma 8), .int (Mv 10), .ref (Ma 9), .ref (Ma 10), .int x_12, .int x_16, .int (Mv 13), .ref (Ma 11), .int 0, .ref (Ma 12), .ref (Ma 13), .ref (Ma 14), .ref (Ma 15), .ref (Ma 16), .long (Mj 0), .ref (Ma 17), .ref (Ma 18), .ref (Ma 19), .ref (Ma 20)])), ((Ma 10), .inl (tc 0, 126, .inl vy_20)), ((Ma 17), .inl (tc 0, 504, .inl (Mf 17))), ((Ma 18), .inl (tc 0, 4, .inl (Mf 18))), ((Ma 19), .inl (tc 0, 4, .inl (Mf 19))), ((Ma 20), .inl (tc 3, 4, .inl (Mf 20)))] → va_S A s.heap H locs → lv_has ls 3 [(2, .int vy_19), (0, .ref (Ma 0)), (1, .int x1)] → W p l e ({ frames := 1, cells := 0, slots := 0, locals := 25 }) s m ([.ref (Ma 0), .int x1].toArray) below meth c H locs 0 0 (MQ below (QW (fun (v : Option Value) (u : (Int32) × (Int32) × (Nat → Int32)) => match u with | (oo0x1, oo0x2, oo0x3) => ∃ r : Int32, v = some (.int r) ∧ (True) ∧ (SaiO oo0x3 999) ∧ (-1 ≤ (oo0x1 : Int32).toInt ∧ (oo0x1 : Int32).toInt < ((Mv 1) : Int32).toInt ∧ ((Mv 1) : Int32).toInt ≤ 6) ∧ (BkC oo0x3 (Mf 17) x1)) (BW D (fun (u : (Int32) × (Int32) × (Nat → Int32)) => match u with | (oo0x1, oo0x2, oo0x3) => [((Ma 0), .inr (12, [.ref (Ma 1), .int (Mv 0), .int (Mv 1), .ref (Ma 2), .ref (Ma 3), .ref (Ma 4), .ref (Ma 5), .ref (Ma 6), .int (Mv 2), .int (Mv 3), .int (Mv 4), .int (Mv 5), .int (Mv 6), .int (Mv 7), .int (Mv 8), .ref (Ma 7), .int (Mv 9), .ref (Ma 8), .int (Mv 10), .ref (Ma 9), .ref (Ma 10), .int oo0x1, .int oo0x2, .int (Mv 13), .ref (Ma 11), .int 0, .ref (Ma 12), .ref (Ma 13), .ref (Ma 14), .ref (Ma 15), .ref (Ma 16), .long (Mj 0), .ref (Ma 17), .ref (Ma 18), .ref (Ma 19), .ref (Ma 20)])), ((Ma 10), .inl (tc 0, 126, .inl oo0x3)), ((Ma 17), .inl (tc 0, 504, .inl (Mf 17))), ((Ma 18), .inl (tc 0, 4, .inl (Mf 18))), ((Ma 19), .inl (tc 0, 4, .inl (Mf 19))), ((Ma 20), .inl (tc 3, 4, .inl (Mf 20)))]) A) A) ([.ref (Ma 0), .int x1].toArray) s 0 0 A) (F0 m 50 ls []) := by
        clear hP hD hS hl
        intro n_21
        induction n_21 with
        | zero =>
          intro vy_19 vy_20 H locs ls h1
          exact absurd h1 (Nat.not_lt_zero _)
        | succ n_21 ih_22 =>
          intro vy_19 vy_20 H locs ls hn_26 pf_24 pf_25 hP hD hS hl
          refine lv_iload_n hx hb dX12_back_50 rfl (lv_at hl 0 rfl) ?_
          refine lv_bipush (v := 126) hx hb dX12_back_51 (by decide) ?_
          refine lv_icmp_ge (tgt := 79) hx hb dX12_back_53 (by decide) (fun c_27 => ?_) (fun c_27 => ?_)
          · skip
            refine lv_aload_n hx hb dX12_back_79 rfl (lv_at hl 1 rfl) ?_
            refine gf_X12_39 hx hb hts hown hK hP 0 rfl rfl dX12_back_80 ?_
            refine lv_bipush (v := 10) hx hb dX12_back_83 (by decide) ?_
            refine va_iald hx hb hK hP 1 0 rfl rfl (vin_dec (by decide +kernel)) dX12_back_85 ?_
            refine lv_topi (fun x_28 ex_28 => ?_)
            have lx_28 : x_28.toInt = (vy_20 10).toInt := congrArg Int32.toInt ex_28
            have hr_29 : 126 ≤ (vy_19 : Int32).toInt := by
              have z_1 : ¬ (r_4 : Int32).toInt = (0 : Int32).toInt := fun z => c_7 (Int32.toInt_inj.mp z)
              have z_2 : ¬ (x_9 : Int32).toInt = (0 : Int32).toInt := fun z => c_10 (Int32.toInt_inj.mp z)
              have z_3 := Int32.le_iff_toInt_le.mp c_27
              have y_0 : (0 : Int32).toInt = 0 := by decide
              have y_126 : (126 : Int32).toInt = 126 := by decide
              omega
            have hr_30 : 0 ≤ x1.toInt ∧ x1.toInt < 4 := by
              have z_1 : ¬ (r_4 : Int32).toInt = (0 : Int32).toInt := fun z => c_7 (Int32.toInt_inj.mp z)
              have z_2 : ¬ (x_9 : Int32).toInt = (0 : Int32).toInt := fun z => c_10 (Int32.toInt_inj.mp z)
              have z_3 := Int32.le_iff_toInt_le.mp c_27
              have y_0 : (0 : Int32).toInt = 0 := by decide
              have y_126 : (126 : Int32).toInt = 126 := by decide
              omega
            have ha_31 : -1 ≤ (x_12 : Int32).toInt ∧ (x_12 : Int32).toInt < ((Mv 1) : Int32).toInt ∧ ((Mv 1) : Int32).toInt ≤ 6 := by
              have z_1 : ¬ (r_4 : Int32).toInt = (0 : Int32).toInt := fun z => c_7 (Int32.toInt_inj.mp z)
              have z_2 : ¬ (x_9 : Int32).toInt = (0 : Int32).toInt := fun z => c_10 (Int32.toInt_inj.mp z)
              have z_3 := Int32.le_iff_toInt_le.mp c_27
              have y_0 : (0 : Int32).toInt = 0 := by decide
              have y_126 : (126 : Int32).toInt = 126 := by decide
              omega
            have hr_32 : 126 ≤ (vy_19 : Int32).toInt := by
              have z_1 : ¬ (r_4 : Int32).toInt = (0 : Int32).toInt := fun z => c_7 (Int32.toInt_inj.mp z)
              have z_2 : ¬ (x_9 : Int32).toInt = (0 : Int32).toInt := fun z => c_10 (Int32.toInt_inj.mp z)
              have z_3 := Int32.le_iff_toInt_le.mp c_27
              have y_0 : (0 : Int32).toInt = 0 := by decide
              have y_126 : (126 : Int32).toInt = 126 := by decide
              omega
            exact retI (v := x_28) hx hb hr hlk (rfl) hP hD hS (x_12, x_16, vy_20) ⟨_, rfl, trivial, (BkK.done pf_25 h_img hr_29 hr_30), ha_31, (BkK.c pf_25 hr_32)⟩ [0, 1, 2, 3, 4, 5] rfl rfl dX12_back_86 (Nat.le_of_ble_eq_true rfl) (Nat.le_of_ble_eq_true rfl) rfl
          · skip
            refine lv_aload_n hx hb dX12_back_56 rfl (lv_at hl 1 rfl) ?_
            refine gf_X12_39 hx hb hts hown hK hP 0 rfl rfl dX12_back_57 ?_
            refine lv_iload_n hx hb dX12_back_60 rfl (lv_at hl 0 rfl) ?_
            refine lv_aload_n hx hb dX12_back_61 rfl (lv_at hl 1 rfl) ?_
            refine gf_X12_65 hx hb hts hown hK hP 0 rfl rfl dX12_back_62 ?_
            refine lv_bipush (v := 126) hx hb dX12_back_65 (by decide) ?_
            refine lv_iload_n hx hb dX12_back_67 rfl (lv_at hl 2 rfl) ?_
            refine lv_imul hx hb dX12_back_68 ?_
            refine lv_topi (fun x_33 ex_33 => ?_)
            refine lv_iload_n hx hb dX12_back_69 rfl (lv_at hl 0 rfl) ?_
            refine lv_iadd hx hb dX12_back_70 ?_
            refine lv_topi (fun x_34 ex_34 => ?_)
            have hi_35 : vp_in x_34 504 := by
              have z_1 : ¬ (r_4 : Int32).toInt = (0 : Int32).toInt := fun z => c_7 (Int32.toInt_inj.mp z)
              have z_2 : ¬ (x_9 : Int32).toInt = (0 : Int32).toInt := fun z => c_10 (Int32.toInt_inj.mp z)
              have z_3 := Int32.lt_iff_toInt_lt.mp (Int32.not_le.mp c_27)
              have y_0 : (0 : Int32).toInt = 0 := by decide
              have y_126 : (126 : Int32).toInt = 126 := by decide
              have t_x_33 : x_33.toInt = (126 : Int32).toInt * (x1 : Int32).toInt := by rw [ex_33]; exact mul_toInt (by first | omega | (rw [y_126]; omega)) (by first | omega | (rw [y_126]; omega))
              rw [y_126] at t_x_33
              have t_x_34 : x_34.toInt = (x_33 : Int32).toInt + (vy_19 : Int32).toInt := by rw [ex_34]; exact add_toInt (by omega) (by omega)
              refine vp_in_iff.mpr ⟨?_, ?_⟩ <;> omega
            refine va_iald hx hb hK hP 2 0 rfl rfl hi_35 dX12_back_71 ?_
            refine lv_topi (fun x_36 ex_36 => ?_)
            have hi_37 : vp_in vy_19 126 := by
              have z_1 : ¬ (r_4 : Int32).toInt = (0 : Int32).toInt := fun z => c_7 (Int32.toInt_inj.mp z)
              have z_2 : ¬ (x_9 : Int32).toInt = (0 : Int32).toInt := fun z => c_10 (Int32.toInt_inj.mp z)
              have z_3 := Int32.lt_iff_toInt_lt.mp (Int32.not_le.mp c_27)
              have y_0 : (0 : Int32).toInt = 0 := by decide
              have y_126 : (126 : Int32).toInt = 126 := by decide
              refine vp_in_iff.mpr ⟨?_, ?_⟩ <;> omega
            refine st_int hx hb hK hP hD hS 1 0 rfl rfl hi_37 dX12_back_72 (fun g_38 H locs eg_38 hP₀ hD₀ hS₀ => ?_)
            replace hP : va_P D classes [((Ma 0), .inr (12, [.ref (Ma 1), .int (Mv 0), .int (Mv 1), .ref (Ma 2), .ref (Ma 3), .ref (Ma 4), .ref (Ma 5), .ref (Ma 6), .int (Mv 2), .int (Mv 3), .int (Mv 4), .int (Mv 5), .int (Mv 6), .int (Mv 7), .int (Mv 8), .ref (Ma 7), .int (Mv 9), .ref (Ma 8), .int (Mv 10), .ref (Ma 9), .ref (Ma 10), .int x_12, .int x_16, .int (Mv 13), .ref (Ma 11), .int 0, .ref (Ma 12), .ref (Ma 13), .ref (Ma 14), .ref (Ma 15), .ref (Ma 16), .long (Mj 0), .ref (Ma 17), .ref (Ma 18), .ref (Ma 19), .ref (Ma 20)])), ((Ma 10), .inl (tc 0, 126, .inl g_38)), ((Ma 17), .inl (tc 0, 504, .inl (Mf 17))), ((Ma 18), .inl (tc 0, 4, .inl (Mf 18))), ((Ma 19), .inl (tc 0, 4, .inl (Mf 19))), ((Ma 20), .inl (tc 3, 4, .inl (Mf 20)))] H := hP₀
            replace hD : va_D A [((Ma 0), .inr (12, [.ref (Ma 1), .int (Mv 0), .int (Mv 1), .ref (Ma 2), .ref (Ma 3), .ref (Ma 4), .ref (Ma 5), .ref (Ma 6), .int (Mv 2), .int (Mv 3), .int (Mv 4), .int (Mv 5), .int (Mv 6), .int (Mv 7), .int (Mv 8), .ref (Ma 7), .int (Mv 9), .ref (Ma 8), .int (Mv 10), .ref (Ma 9), .ref (Ma 10), .int x_12, .int x_16, .int (Mv 13), .ref (Ma 11), .int 0, .ref (Ma 12), .ref (Ma 13), .ref (Ma 14), .ref (Ma 15), .ref (Ma 16), .long (Mj 0), .ref (Ma 17), .ref (Ma 18), .ref (Ma 19), .ref (Ma 20)])), ((Ma 10), .inl (tc 0, 126, .inl g_38)), ((Ma 17), .inl (tc 0, 504, .inl (Mf 17))), ((Ma 18), .inl (tc 0, 4, .inl (Mf 18))), ((Ma 19), .inl (tc 0, 4, .inl (Mf 19))), ((Ma 20), .inl (tc 3, 4, .inl (Mf 20)))] := hD₀
            replace hS := hS₀
            clear hP₀ hD₀ hS₀
            obtain ⟨x_39, ex_39⟩ : ∃ y : Int32, y = vy_19 + 1 := ⟨_, rfl⟩
            refine lv_iinc (v := x_39) (lv' := [(2, .int x_39), (0, .ref (Ma 0)), (1, .int x1)]) hx hb dX12_back_73 hl (k := 0) rfl (by rw [ex_39]; rfl) (by decide) rfl (fun ls hl₀ => ?_)
            replace hl := hl₀
            clear hl₀
            refine lv_goto (tgt := 50) hx hb dX12_back_76 (by decide) ?_
            have hb_40 : 126 - (x_39 : Int32).toInt < 126 - (vy_19 : Int32).toInt ∧ 1 ≤ 126 - (vy_19 : Int32).toInt := by
              have z_1 : ¬ (r_4 : Int32).toInt = (0 : Int32).toInt := fun z => c_7 (Int32.toInt_inj.mp z)
              have z_2 : ¬ (x_9 : Int32).toInt = (0 : Int32).toInt := fun z => c_10 (Int32.toInt_inj.mp z)
              have z_3 := Int32.lt_iff_toInt_lt.mp (Int32.not_le.mp c_27)
              have y_0 : (0 : Int32).toInt = 0 := by decide
              have y_126 : (126 : Int32).toInt = 126 := by decide
              have y_1 : (1 : Int32).toInt = 1 := by decide
              have t_x_39 : x_39.toInt = (vy_19 : Int32).toInt + (1 : Int32).toInt := by rw [ex_39]; exact add_toInt (by omega) (by omega)
              omega
            have ha_41 : 0 ≤ (x_39 : Int32).toInt := by
              have z_1 : ¬ (r_4 : Int32).toInt = (0 : Int32).toInt := fun z => c_7 (Int32.toInt_inj.mp z)
              have z_2 : ¬ (x_9 : Int32).toInt = (0 : Int32).toInt := fun z => c_10 (Int32.toInt_inj.mp z)
              have z_3 := Int32.lt_iff_toInt_lt.mp (Int32.not_le.mp c_27)
              have y_0 : (0 : Int32).toInt = 0 := by decide
              have y_126 : (126 : Int32).toInt = 126 := by decide
              have y_1 : (1 : Int32).toInt = 1 := by decide
              have t_x_39 : x_39.toInt = (vy_19 : Int32).toInt + (1 : Int32).toInt := by rw [ex_39]; exact add_toInt (by omega) (by omega)
              omega
            have hi_43 : (x_34 : Int32).toInt = 126 * x1.toInt + (vy_19 : Int32).toInt := by
              have z_1 : ¬ (r_4 : Int32).toInt = (0 : Int32).toInt := fun z => c_7 (Int32.toInt_inj.mp z)
              have z_2 : ¬ (x_9 : Int32).toInt = (0 : Int32).toInt := fun z => c_10 (Int32.toInt_inj.mp z)
              have z_3 := Int32.lt_iff_toInt_lt.mp (Int32.not_le.mp c_27)
              have y_0 : (0 : Int32).toInt = 0 := by decide
              have y_126 : (126 : Int32).toInt = 126 := by decide
              have t_x_33 : x_33.toInt = (126 : Int32).toInt * (x1 : Int32).toInt := by rw [ex_33]; exact mul_toInt (by first | omega | (rw [y_126]; omega)) (by first | omega | (rw [y_126]; omega))
              rw [y_126] at t_x_33
              have t_x_34 : x_34.toInt = (x_33 : Int32).toInt + (vy_19 : Int32).toInt := by rw [ex_34]; exact add_toInt (by omega) (by omega)
              omega
            have hr_44 : 0 ≤ (vy_19 : Int32).toInt ∧ (vy_19 : Int32).toInt < 126 := by
              have z_1 : ¬ (r_4 : Int32).toInt = (0 : Int32).toInt := fun z => c_7 (Int32.toInt_inj.mp z)
              have z_2 : ¬ (x_9 : Int32).toInt = (0 : Int32).toInt := fun z => c_10 (Int32.toInt_inj.mp z)
              have z_3 := Int32.lt_iff_toInt_lt.mp (Int32.not_le.mp c_27)
              have y_0 : (0 : Int32).toInt = 0 := by decide
              have y_126 : (126 : Int32).toInt = 126 := by decide
              omega
            have hi_45 : (x_39 : Int32).toInt = (vy_19 : Int32).toInt + 1 := by
              have z_1 : ¬ (r_4 : Int32).toInt = (0 : Int32).toInt := fun z => c_7 (Int32.toInt_inj.mp z)
              have z_2 : ¬ (x_9 : Int32).toInt = (0 : Int32).toInt := fun z => c_10 (Int32.toInt_inj.mp z)
              have z_3 := Int32.lt_iff_toInt_lt.mp (Int32.not_le.mp c_27)
              have y_0 : (0 : Int32).toInt = 0 := by decide
              have y_126 : (126 : Int32).toInt = 126 := by decide
              have y_1 : (1 : Int32).toInt = 1 := by decide
              have t_x_39 : x_39.toInt = (vy_19 : Int32).toInt + (1 : Int32).toInt := by rw [ex_39]; exact add_toInt (by omega) (by omega)
              omega
            have hr_46 : 0 ≤ x1.toInt ∧ x1.toInt < 4 := by
              have z_1 : ¬ (r_4 : Int32).toInt = (0 : Int32).toInt := fun z => c_7 (Int32.toInt_inj.mp z)
              have z_2 : ¬ (x_9 : Int32).toInt = (0 : Int32).toInt := fun z => c_10 (Int32.toInt_inj.mp z)
              have z_3 := Int32.lt_iff_toInt_lt.mp (Int32.not_le.mp c_27)
              have y_0 : (0 : Int32).toInt = 0 := by decide
              have y_126 : (126 : Int32).toInt = 126 := by decide
              omega
            have ha_42 : BkK g_38 (Mf 17) x1 x_39 := BkK.step pf_25 eg_38 ex_36 hi_43 hr_44 hi_45 hr_46
            exact ih_22 x_39 g_38 _ _ _ (by omega) ha_41 ha_42 (hP.sub [0, 1, 2, 3, 4, 5] rfl) (hD.sub [0, 1, 2, 3, 4, 5] rfl rfl) hS (lv_sub hl [0, 1, 2] rfl)
      have ha_47 : 0 ≤ (0 : Int32).toInt := by
        have z_1 : ¬ (r_4 : Int32).toInt = (0 : Int32).toInt := fun z => c_7 (Int32.toInt_inj.mp z)
        have z_2 : ¬ (x_9 : Int32).toInt = (0 : Int32).toInt := fun z => c_10 (Int32.toInt_inj.mp z)
        have y_0 : (0 : Int32).toInt = 0 := by decide
        omega
      have ha_48 : BkK (Mf 10) (Mf 17) x1 0 := BkK.start (by decide)
      exact loop_23 _ 0 (Mf 10) _ _ _ (Nat.lt_succ_self _) ha_47 ha_48 hP hD hS hl
    · skip
      exfalso
      have z_1 : ¬ (r_4 : Int32).toInt = (0 : Int32).toInt := fun z => c_7 (Int32.toInt_inj.mp z)
      have z_2 := congrArg Int32.toInt c_10
      have y_0 : (0 : Int32).toInt = 0 := by decide
      omega
set_option maxHeartbeats 4000000 in
set_option maxRecDepth 100000 in
theorem ct_gX12_book {T : Nat → Int32} (l : Launch) (D : va_G) (tc : Nat → ClassId) (sk : (Nat → Nat) × (Nat → Nat)) (Ma : Nat → Nat) (Mv : Nat → Int32) (Mf : Nat → Nat → Int32) (Mj : Nat → Int64) (h_tp : 0 ≤ ((Mv 0) : Int32).toInt ∧ ((Mv 0) : Int32).toInt ≤ 400) (h_said : SaidD T (Mf 10) 999) (h_un : 0 ≤ ((Mv 14) : Int32).toInt ∧ ((Mv 14) : Int32).toInt ≤ 20) (h_bs : ByS (Mf 1)) : Ct l yX12_book cX12_book 2 (some .int) { frames := 7, cells := 0, slots := 0, locals := 158 } D tc sk [.ref (Ma 0)] [((Ma 0), .inr (12, [.ref (Ma 1), .int (Mv 0), .int (Mv 1), .ref (Ma 2), .ref (Ma 3), .ref (Ma 4), .ref (Ma 5), .ref (Ma 6), .int (Mv 2), .int (Mv 3), .int (Mv 4), .int (Mv 5), .int (Mv 6), .int (Mv 7), .int (Mv 8), .ref (Ma 7), .int (Mv 9), .ref (Ma 8), .int (Mv 10), .ref (Ma 9), .ref (Ma 10), .int (Mv 11), .int (Mv 12), .int (Mv 13), .ref (Ma 11), .int (Mv 14), .ref (Ma 12), .ref (Ma 13), .ref (Ma 14), .ref (Ma 15), .ref (Ma 16), .long (Mj 0), .ref (Ma 17), .ref (Ma 18), .ref (Ma 19), .ref (Ma 20)])), ((Ma 1), .inl (tc 2, 400, .inl (Mf 1))), ((Ma 3), .inl (tc 0, 7, .inl (Mf 3))), ((Ma 6), .inl (tc 0, 95, .inl (Mf 6))), ((Ma 10), .inl (tc 0, 126, .inl (Mf 10)))] (fun (v : Option Value) (u : (Int32) × (Int32) × (Int32) × (Int32) × (Int32) × (Nat → Int32) × (Nat → Int32) × (Nat → Int32)) => match u with | (oo0x1, oo0x2, oo0x3, oo0x4, oo0x5, oo0x6, oo0x7, oo0x8) => ∃ r : Int32, v = some (.int r) ∧ (BkX (rB (Mf 1) (Mv 0)) r ((Mf 10) 3) ((Mf 10) 125) (oo0x8 3) (oo0x8 125)) ∧ (0 ≤ (0 : Int32).toInt ∧ (0 : Int32).toInt ≤ 400) ∧ (SaiO oo0x8 999) ∧ (0 ≤ (oo0x5 : Int32).toInt ∧ (oo0x5 : Int32).toInt ≤ 20)) (fun (u : (Int32) × (Int32) × (Int32) × (Int32) × (Int32) × (Nat → Int32) × (Nat → Int32) × (Nat → Int32)) => match u with | (oo0x1, oo0x2, oo0x3, oo0x4, oo0x5, oo0x6, oo0x7, oo0x8) => [((Ma 0), .inr (12, [.ref (Ma 1), .int 0, .int (Mv 1), .ref (Ma 2), .ref (Ma 3), .ref (Ma 4), .ref (Ma 5), .ref (Ma 6), .int oo0x1, .int oo0x2, .int oo0x3, .int 6, .int 0, .int (Mv 7), .int oo0x4, .ref (Ma 7), .int (Mv 9), .ref (Ma 8), .int (Mv 10), .ref (Ma 9), .ref (Ma 10), .int (Mv 11), .int (Mv 12), .int (Mv 13), .ref (Ma 11), .int oo0x5, .ref (Ma 12), .ref (Ma 13), .ref (Ma 14), .ref (Ma 15), .ref (Ma 16), .long (Mj 0), .ref (Ma 17), .ref (Ma 18), .ref (Ma 19), .ref (Ma 20)])), ((Ma 1), .inl (tc 2, 400, .inl (Mf 1))), ((Ma 3), .inl (tc 0, 7, .inl oo0x6)), ((Ma 6), .inl (tc 0, 95, .inl oo0x7)), ((Ma 10), .inl (tc 0, 126, .inl oo0x8))]) 0 0 := by
  refine Ct.start (by decide) (Nat.le_of_ble_eq_true rfl) (fun p e s m below meth c A ls hx hb hr hlk hin hml hown hts hK hX hP hD hA hl hS => ?_)
  have hl : lv_has ls 2 [(0, .ref (Ma 0))] := hl
  have ar_h_said := SaidD.al h_said
  refine lv_aload_n hx hb dX12_book_0 rfl (lv_at hl 0 rfl) ?_
  refine lv_bipush (v := 6) hx hb dX12_book_1 (by decide) ?_
  refine pf_X12_145 hx hb hts hown hK hP hD hS 0 rfl (Nat.le_of_ble_eq_true rfl) rfl rfl dX12_book_3 (fun H locs hP₀ hD₀ hS₀ => ?_)
  replace hP : va_P D classes [((Ma 0), .inr (12, [.ref (Ma 1), .int (Mv 0), .int (Mv 1), .ref (Ma 2), .ref (Ma 3), .ref (Ma 4), .ref (Ma 5), .ref (Ma 6), .int (Mv 2), .int (Mv 3), .int (Mv 4), .int 6, .int (Mv 6), .int (Mv 7), .int (Mv 8), .ref (Ma 7), .int (Mv 9), .ref (Ma 8), .int (Mv 10), .ref (Ma 9), .ref (Ma 10), .int (Mv 11), .int (Mv 12), .int (Mv 13), .ref (Ma 11), .int (Mv 14), .ref (Ma 12), .ref (Ma 13), .ref (Ma 14), .ref (Ma 15), .ref (Ma 16), .long (Mj 0), .ref (Ma 17), .ref (Ma 18), .ref (Ma 19), .ref (Ma 20)])), ((Ma 1), .inl (tc 2, 400, .inl (Mf 1))), ((Ma 3), .inl (tc 0, 7, .inl (Mf 3))), ((Ma 6), .inl (tc 0, 95, .inl (Mf 6))), ((Ma 10), .inl (tc 0, 126, .inl (Mf 10)))] H := hP₀
  replace hD : va_D A [((Ma 0), .inr (12, [.ref (Ma 1), .int (Mv 0), .int (Mv 1), .ref (Ma 2), .ref (Ma 3), .ref (Ma 4), .ref (Ma 5), .ref (Ma 6), .int (Mv 2), .int (Mv 3), .int (Mv 4), .int 6, .int (Mv 6), .int (Mv 7), .int (Mv 8), .ref (Ma 7), .int (Mv 9), .ref (Ma 8), .int (Mv 10), .ref (Ma 9), .ref (Ma 10), .int (Mv 11), .int (Mv 12), .int (Mv 13), .ref (Ma 11), .int (Mv 14), .ref (Ma 12), .ref (Ma 13), .ref (Ma 14), .ref (Ma 15), .ref (Ma 16), .long (Mj 0), .ref (Ma 17), .ref (Ma 18), .ref (Ma 19), .ref (Ma 20)])), ((Ma 1), .inl (tc 2, 400, .inl (Mf 1))), ((Ma 3), .inl (tc 0, 7, .inl (Mf 3))), ((Ma 6), .inl (tc 0, 95, .inl (Mf 6))), ((Ma 10), .inl (tc 0, 126, .inl (Mf 10)))] := hD₀
  replace hS := hS₀
  clear hP₀ hD₀ hS₀
  refine lv_iconst (v := 0) hx hb dX12_book_6 (by decide) ?_
  refine lv_istore_n (lv' := [(1, .int 0), (0, .ref (Ma 0))]) hx hb dX12_book_7 rfl hl (by decide) rfl (fun ls hl₀ => ?_)
  replace hl := hl₀
  clear hl₀
  have loop_7 : ∀ (n_5 : Nat) (vy_3 : Int32) (vy_4 : Nat → Int32) (H : Heap) (locs : List Loc) (ls : Array Slot), (95 - (vy_3 : Int32).toInt).toNat < n_5 → (0 ≤ (vy_3 : Int32).toInt) → (Rd0 vy_4 vy_3) → va_P D classes [((Ma 0), .inr (12, [.ref (Ma 1), .int (Mv 0), .int (Mv 1), .ref (Ma 2), .ref (Ma 3), .ref (Ma 4), .ref (Ma 5), .ref (Ma 6), .int (Mv 2), .int (Mv 3), .int (Mv 4), .int 6, .int (Mv 6), .int (Mv 7), .int (Mv 8), .ref (Ma 7), .int (Mv 9), .ref (Ma 8), .int (Mv 10), .ref (Ma 9), .ref (Ma 10), .int (Mv 11), .int (Mv 12), .int (Mv 13), .ref (Ma 11), .int (Mv 14), .ref (Ma 12), .ref (Ma 13), .ref (Ma 14), .ref (Ma 15), .ref (Ma 16), .long (Mj 0), .ref (Ma 17), .ref (Ma 18), .ref (Ma 19), .ref (Ma 20)])), ((Ma 1), .inl (tc 2, 400, .inl (Mf 1))), ((Ma 3), .inl (tc 0, 7, .inl (Mf 3))), ((Ma 6), .inl (tc 0, 95, .inl vy_4)), ((Ma 10), .inl (tc 0, 126, .inl (Mf 10)))] H → va_D A [((Ma 0), .inr (12, [.ref (Ma 1), .int (Mv 0), .int (Mv 1), .ref (Ma 2), .ref (Ma 3), .ref (Ma 4), .ref (Ma 5), .ref (Ma 6), .int (Mv 2), .int (Mv 3), .int (Mv 4), .int 6, .int (Mv 6), .int (Mv 7), .int (Mv 8), .ref (Ma 7), .int (Mv 9), .ref (Ma 8), .int (Mv 10), .ref (Ma 9), .ref (Ma 10), .int (Mv 11), .int (Mv 12), .int (Mv 13), .ref (Ma 11), .int (Mv 14), .ref (Ma 12), .ref (Ma 13), .ref (Ma 14), .ref (Ma 15), .ref (Ma 16), .long (Mj 0), .ref (Ma 17), .ref (Ma 18), .ref (Ma 19), .ref (Ma 20)])), ((Ma 1), .inl (tc 2, 400, .inl (Mf 1))), ((Ma 3), .inl (tc 0, 7, .inl (Mf 3))), ((Ma 6), .inl (tc 0, 95, .inl vy_4)), ((Ma 10), .inl (tc 0, 126, .inl (Mf 10)))] → va_S A s.heap H locs → lv_has ls 2 [(1, .int vy_3), (0, .ref (Ma 0))] → W p l e ({ frames := 7, cells := 0, slots := 0, locals := 158 }) s m ([.ref (Ma 0)].toArray) below meth c H locs 0 0 (MQ below (QW (fun (v : Option Value) (u : (Int32) × (Int32) × (Int32) × (Int32) × (Int32) × (Nat → Int32) × (Nat → Int32) × (Nat → Int32)) => match u with | (oo0x1, oo0x2, oo0x3, oo0x4, oo0x5, oo0x6, oo0x7, oo0x8) => ∃ r : Int32, v = some (.int r) ∧ (BkX (rB (Mf 1) (Mv 0)) r ((Mf 10) 3) ((Mf 10) 125) (oo0x8 3) (oo0x8 125)) ∧ (0 ≤ (0 : Int32).toInt ∧ (0 : Int32).toInt ≤ 400) ∧ (SaiO oo0x8 999) ∧ (0 ≤ (oo0x5 : Int32).toInt ∧ (oo0x5 : Int32).toInt ≤ 20)) (BW D (fun (u : (Int32) × (Int32) × (Int32) × (Int32) × (Int32) × (Nat → Int32) × (Nat → Int32) × (Nat → Int32)) => match u with | (oo0x1, oo0x2, oo0x3, oo0x4, oo0x5, oo0x6, oo0x7, oo0x8) => [((Ma 0), .inr (12, [.ref (Ma 1), .int 0, .int (Mv 1), .ref (Ma 2), .ref (Ma 3), .ref (Ma 4), .ref (Ma 5), .ref (Ma 6), .int oo0x1, .int oo0x2, .int oo0x3, .int 6, .int 0, .int (Mv 7), .int oo0x4, .ref (Ma 7), .int (Mv 9), .ref (Ma 8), .int (Mv 10), .ref (Ma 9), .ref (Ma 10), .int (Mv 11), .int (Mv 12), .int (Mv 13), .ref (Ma 11), .int oo0x5, .ref (Ma 12), .ref (Ma 13), .ref (Ma 14), .ref (Ma 15), .ref (Ma 16), .long (Mj 0), .ref (Ma 17), .ref (Ma 18), .ref (Ma 19), .ref (Ma 20)])), ((Ma 1), .inl (tc 2, 400, .inl (Mf 1))), ((Ma 3), .inl (tc 0, 7, .inl oo0x6)), ((Ma 6), .inl (tc 0, 95, .inl oo0x7)), ((Ma 10), .inl (tc 0, 126, .inl oo0x8))]) A) A) ([.ref (Ma 0)].toArray) s 0 0 A) (F0 m 8 ls []) := by
    clear hP hD hS hl
    intro n_5
    induction n_5 with
    | zero =>
      intro vy_3 vy_4 H locs ls h1
      exact absurd h1 (Nat.not_lt_zero _)
    | succ n_5 ih_6 =>
      intro vy_3 vy_4 H locs ls hn_10 pf_8 pf_9 hP hD hS hl
      refine lv_iload_n hx hb dX12_book_8 rfl (lv_at hl 0 rfl) ?_
      refine lv_bipush (v := 95) hx hb dX12_book_9 (by decide) ?_
      refine lv_icmp_ge (tgt := 27) hx hb dX12_book_11 (by decide) (fun c_11 => ?_) (fun c_11 => ?_)
      · skip
        refine lv_aload_n hx hb dX12_book_27 rfl (lv_at hl 1 rfl) ?_
        have hr_12 : 95 ≤ (vy_3 : Int32).toInt := by
          have z_1 := Int32.le_iff_toInt_le.mp c_11
          have y_95 : (95 : Int32).toInt = 95 := by decide
          omega
        have hr_13 : 95 ≤ (vy_3 : Int32).toInt := by
          have z_1 := Int32.le_iff_toInt_le.mp c_11
          have y_95 : (95 : Int32).toInt = 95 := by decide
          omega
        have hz_14 : (vy_4 0).toInt = 0 ∧ (vy_4 2).toInt = 0 ∧ (vy_4 3).toInt = 0 := ⟨pf_9 0 (by omega), pf_9 2 (by omega), pf_9 3 (by omega)⟩
        refine cV (a := (Ma 0)) (As := []) (rest := []) (wr := [((Ma 10), .inl (tc 0, 126, .inl (Mf 10)))]) ⟨hx, hb, hml, hown, hts⟩ hK hX hA (cu_fX12_readsAll_b l D tc sk (Ma 0) (Ma 1) (Ma 2) (Ma 3) (Ma 4) (Ma 5) (Ma 6) (Ma 7) (Ma 8) (Ma 9) (Ma 10) (Ma 11) (Ma 12) (Ma 13) (Ma 14) (Ma 15) (Ma 16) (Ma 17) (Ma 18) (Ma 19) (Ma 20) (Mv 0) (Mv 1) (Mv 2) (Mv 3) (Mv 4) (Mv 6) (Mv 7) (Mv 8) (Mv 9) (Mv 10) (Mv 11) (Mv 12) (Mv 13) (Mv 14) (Mf 1) (Mf 3) vy_4 (Mj 0) h_tp (Rd0.done pf_9 hr_12) h_bs hz_14) k_1203 k_1200 k_1202 k_25 k_106 pl_X12_readsAll ⟨Nat.le_of_ble_eq_true rfl, Nat.le_of_ble_eq_true rfl⟩ rfl rfl (va_recv hK hP (ci := 12) (q0 := 0) rfl rfl) hP hD hS [0, 1, 2, 3] [4] rfl rfl rfl rfl rfl (by decide) rfl hl.1 rfl (Nat.le_of_ble_eq_true rfl) dX12_book_28 ⟨Nat.le_of_ble_eq_true rfl, Nat.le_of_ble_eq_true rfl⟩ (fun v_15 u_16 H locs hv_17 hP₀ hD₀ hS₀ => ?_)
        obtain ⟨sv_18, sv_19, sv_20, sv_21, sv_22, sv_23⟩ := u_16
        obtain ⟨r_25, rfl, he_26, pf_24, hm_28⟩ := hv_17
        have he_26 : ((r_25.toInt = 0 ∧ ¬ (sv_19 : Int32).toInt = 0) ∨ (r_25.toInt = 1 ∧ (sv_19 : Int32).toInt = 0)) := he_26
        have pf_24 : BkR (rB (Mf 1) (Mv 0)) sv_19 (sv_23 3) := pf_24
        refine W.eq (g2 := F0 m 31 ls [.int r_25]) rfl ?_
        replace hP : va_P D classes [((Ma 10), .inl (tc 0, 126, .inl (Mf 10))), ((Ma 0), .inr (12, [.ref (Ma 1), .int 0, .int (Mv 1), .ref (Ma 2), .ref (Ma 3), .ref (Ma 4), .ref (Ma 5), .ref (Ma 6), .int sv_18, .int sv_19, .int sv_20, .int 6, .int 0, .int (Mv 7), .int sv_21, .ref (Ma 7), .int (Mv 9), .ref (Ma 8), .int (Mv 10), .ref (Ma 9), .ref (Ma 10), .int (Mv 11), .int (Mv 12), .int (Mv 13), .ref (Ma 11), .int (Mv 14), .ref (Ma 12), .ref (Ma 13), .ref (Ma 14), .ref (Ma 15), .ref (Ma 16), .long (Mj 0), .ref (Ma 17), .ref (Ma 18), .ref (Ma 19), .ref (Ma 20)])), ((Ma 1), .inl (tc 2, 400, .inl (Mf 1))), ((Ma 3), .inl (tc 0, 7, .inl sv_22)), ((Ma 6), .inl (tc 0, 95, .inl sv_23))] H := hP₀
        replace hD : va_D A [((Ma 10), .inl (tc 0, 126, .inl (Mf 10))), ((Ma 0), .inr (12, [.ref (Ma 1), .int 0, .int (Mv 1), .ref (Ma 2), .ref (Ma 3), .ref (Ma 4), .ref (Ma 5), .ref (Ma 6), .int sv_18, .int sv_19, .int sv_20, .int 6, .int 0, .int (Mv 7), .int sv_21, .ref (Ma 7), .int (Mv 9), .ref (Ma 8), .int (Mv 10), .ref (Ma 9), .ref (Ma 10), .int (Mv 11), .int (Mv 12), .int (Mv 13), .ref (Ma 11), .int (Mv 14), .ref (Ma 12), .ref (Ma 13), .ref (Ma 14), .ref (Ma 15), .ref (Ma 16), .long (Mj 0), .ref (Ma 17), .ref (Ma 18), .ref (Ma 19), .ref (Ma 20)])), ((Ma 1), .inl (tc 2, 400, .inl (Mf 1))), ((Ma 3), .inl (tc 0, 7, .inl sv_22)), ((Ma 6), .inl (tc 0, 95, .inl sv_23))] := hD₀
        replace hS := hS₀
        clear hP₀ hD₀ hS₀
        refine lv_if_ne (tgt := 42) hx hb dX12_book_31 (by decide) (fun c_29 => ?_) (fun c_29 => ?_)
        · skip
          have hz_31 : (r_25 : Int32).toInt = 1 := by
            have z_1 := Int32.le_iff_toInt_le.mp c_11
            have z_2 : ¬ (r_25 : Int32).toInt = (0 : Int32).toInt := fun z => c_29 (Int32.toInt_inj.mp z)
            have y_0 : (0 : Int32).toInt = 0 := by decide
            have y_95 : (95 : Int32).toInt = 95 := by decide
            omega
          obtain pf_30 := hm_28 hz_31
          have pf_30 : RdO sv_23 := pf_30
          have ar_pf_30 := RdO.ar pf_30
          refine lv_iconst (v := 0) hx hb dX12_book_42 (by decide) ?_
          refine lv_istore_n (lv' := [(1, .int 0), (0, .ref (Ma 0))]) hx hb dX12_book_43 rfl hl (by decide) rfl (fun ls hl₀ => ?_)
          replace hl := hl₀
          clear hl₀
          have loop_38 : ∀ (n_36 : Nat) (vy_34 : Int32) (vy_35 : Nat → Int32) (H : Heap) (locs : List Loc) (ls : Array Slot), (126 - (vy_34 : Int32).toInt).toNat < n_36 → (0 ≤ (vy_34 : Int32).toInt) → (SdK vy_35 sv_23 vy_34) → va_P D classes [((Ma 10), .inl (tc 0, 126, .inl vy_35)), ((Ma 0), .inr (12, [.ref (Ma 1), .int 0, .int (Mv 1), .ref (Ma 2), .ref (Ma 3), .ref (Ma 4), .ref (Ma 5), .ref (Ma 6), .int sv_18, .int sv_19, .int sv_20, .int 6, .int 0, .int (Mv 7), .int sv_21, .ref (Ma 7), .int (Mv 9), .ref (Ma 8), .int (Mv 10), .ref (Ma 9), .ref (Ma 10), .int (Mv 11), .int (Mv 12), .int (Mv 13), .ref (Ma 11), .int (Mv 14), .ref (Ma 12), .ref (Ma 13), .ref (Ma 14), .ref (Ma 15), .ref (Ma 16), .long (Mj 0), .ref (Ma 17), .ref (Ma 18), .ref (Ma 19), .ref (Ma 20)])), ((Ma 1), .inl (tc 2, 400, .inl (Mf 1))), ((Ma 3), .inl (tc 0, 7, .inl sv_22)), ((Ma 6), .inl (tc 0, 95, .inl sv_23))] H → va_D A [((Ma 10), .inl (tc 0, 126, .inl vy_35)), ((Ma 0), .inr (12, [.ref (Ma 1), .int 0, .int (Mv 1), .ref (Ma 2), .ref (Ma 3), .ref (Ma 4), .ref (Ma 5), .ref (Ma 6), .int sv_18, .int sv_19, .int sv_20, .int 6, .int 0, .int (Mv 7), .int sv_21, .ref (Ma 7), .int (Mv 9), .ref (Ma 8), .int (Mv 10), .ref (Ma 9), .ref (Ma 10), .int (Mv 11), .int (Mv 12), .int (Mv 13), .ref (Ma 11), .int (Mv 14), .ref (Ma 12), .ref (Ma 13), .ref (Ma 14), .ref (Ma 15), .ref (Ma 16), .long (Mj 0), .ref (Ma 17), .ref (Ma 18), .ref (Ma 19), .ref (Ma 20)])), ((Ma 1), .inl (tc 2, 400, .inl (Mf 1))), ((Ma 3), .inl (tc 0, 7, .inl sv_22)), ((Ma 6), .inl (tc 0, 95, .inl sv_23))] → va_S A s.heap H locs → lv_has ls 2 [(1, .int vy_34), (0, .ref (Ma 0))] → W p l e ({ frames := 7, cells := 0, slots := 0, locals := 158 }) s m ([.ref (Ma 0)].toArray) below meth c H locs 0 0 (MQ below (QW (fun (v : Option Value) (u : (Int32) × (Int32) × (Int32) × (Int32) × (Int32) × (Nat → Int32) × (Nat → Int32) × (Nat → Int32)) => match u with | (oo0x1, oo0x2, oo0x3, oo0x4, oo0x5, oo0x6, oo0x7, oo0x8) => ∃ r : Int32, v = some (.int r) ∧ (BkX (rB (Mf 1) (Mv 0)) r ((Mf 10) 3) ((Mf 10) 125) (oo0x8 3) (oo0x8 125)) ∧ (0 ≤ (0 : Int32).toInt ∧ (0 : Int32).toInt ≤ 400) ∧ (SaiO oo0x8 999) ∧ (0 ≤ (oo0x5 : Int32).toInt ∧ (oo0x5 : Int32).toInt ≤ 20)) (BW D (fun (u : (Int32) × (Int32) × (Int32) × (Int32) × (Int32) × (Nat → Int32) × (Nat → Int32) × (Nat → Int32)) => match u with | (oo0x1, oo0x2, oo0x3, oo0x4, oo0x5, oo0x6, oo0x7, oo0x8) => [((Ma 0), .inr (12, [.ref (Ma 1), .int 0, .int (Mv 1), .ref (Ma 2), .ref (Ma 3), .ref (Ma 4), .ref (Ma 5), .ref (Ma 6), .int oo0x1, .int oo0x2, .int oo0x3, .int 6, .int 0, .int (Mv 7), .int oo0x4, .ref (Ma 7), .int (Mv 9), .ref (Ma 8), .int (Mv 10), .ref (Ma 9), .ref (Ma 10), .int (Mv 11), .int (Mv 12), .int (Mv 13), .ref (Ma 11), .int oo0x5, .ref (Ma 12), .ref (Ma 13), .ref (Ma 14), .ref (Ma 15), .ref (Ma 16), .long (Mj 0), .ref (Ma 17), .ref (Ma 18), .ref (Ma 19), .ref (Ma 20)])), ((Ma 1), .inl (tc 2, 400, .inl (Mf 1))), ((Ma 3), .inl (tc 0, 7, .inl oo0x6)), ((Ma 6), .inl (tc 0, 95, .inl oo0x7)), ((Ma 10), .inl (tc 0, 126, .inl oo0x8))]) A) A) ([.ref (Ma 0)].toArray) s 0 0 A) (F0 m 44 ls []) := by
            clear hP hD hS hl
            intro n_36
            induction n_36 with
            | zero =>
              intro vy_34 vy_35 H locs ls h1
              exact absurd h1 (Nat.not_lt_zero _)
            | succ n_36 ih_37 =>
              intro vy_34 vy_35 H locs ls hn_41 pf_39 pf_40 hP hD hS hl
              refine lv_iload_n hx hb dX12_book_44 rfl (lv_at hl 0 rfl) ?_
              refine lv_bipush (v := 126) hx hb dX12_book_45 (by decide) ?_
              refine lv_icmp_ge (tgt := 78) hx hb dX12_book_47 (by decide) (fun c_42 => ?_) (fun c_42 => ?_)
              · skip
                refine lv_aload_n hx hb dX12_book_78 rfl (lv_at hl 1 rfl) ?_
                have hr_43 : 126 ≤ (vy_34 : Int32).toInt := by
                  have z_1 := Int32.le_iff_toInt_le.mp c_11
                  have z_2 : ¬ (r_25 : Int32).toInt = (0 : Int32).toInt := fun z => c_29 (Int32.toInt_inj.mp z)
                  have z_3 := Int32.le_iff_toInt_le.mp c_42
                  have y_0 : (0 : Int32).toInt = 0 := by decide
                  have y_95 : (95 : Int32).toInt = 95 := by decide
                  have y_126 : (126 : Int32).toInt = 126 := by decide
                  omega
                refine cV (a := (Ma 0)) (As := []) (rest := []) (wr := [((Ma 1), .inl (tc 2, 400, .inl (Mf 1))), ((Ma 3), .inl (tc 0, 7, .inl sv_22)), ((Ma 6), .inl (tc 0, 95, .inl sv_23))]) ⟨hx, hb, hml, hown, hts⟩ hK hX hA (cu_X12_begins l D tc sk (Ma 0) (Ma 1) (Ma 2) (Ma 3) (Ma 4) (Ma 5) (Ma 6) (Ma 7) (Ma 8) (Ma 9) (Ma 10) (Ma 11) (Ma 12) (Ma 13) (Ma 14) (Ma 15) (Ma 16) (Ma 17) (Ma 18) (Ma 19) (Ma 20) 0 (Mv 1) sv_18 sv_19 sv_20 6 0 (Mv 7) sv_21 (Mv 9) (Mv 10) (Mv 11) (Mv 12) (Mv 13) (Mv 14) vy_35 (Mj 0) (SaiB.tt (SdK.done pf_40 pf_30 hr_43))) k_1359 k_1356 k_1358 k_56 k_106 pl_X12_begins ⟨Nat.le_of_ble_eq_true rfl, Nat.le_of_ble_eq_true rfl⟩ rfl rfl (va_recv hK hP (ci := 12) (q0 := 1) rfl rfl) hP hD hS [1, 0] [2, 3, 4] rfl rfl rfl rfl rfl (by decide) rfl hl.1 rfl (Nat.le_of_ble_eq_true rfl) dX12_book_79 ⟨Nat.le_of_ble_eq_true rfl, Nat.le_of_ble_eq_true rfl⟩ (fun v_44 u_45 H locs hv_46 hP₀ hD₀ hS₀ => ?_)
                obtain ⟨sv_47, rfl⟩ : ∃ z, z = u_45 := ⟨_, rfl⟩
                obtain ⟨rfl, pf_48⟩ := hv_46
                skip
                have ar_pf_48 := SaidD.al pf_48
                refine W.eq (g2 := F0 m 82 ls []) rfl ?_
                replace hP : va_P D classes [((Ma 1), .inl (tc 2, 400, .inl (Mf 1))), ((Ma 3), .inl (tc 0, 7, .inl sv_22)), ((Ma 6), .inl (tc 0, 95, .inl sv_23)), ((Ma 0), .inr (12, [.ref (Ma 1), .int 0, .int (Mv 1), .ref (Ma 2), .ref (Ma 3), .ref (Ma 4), .ref (Ma 5), .ref (Ma 6), .int sv_18, .int sv_19, .int sv_20, .int 6, .int 0, .int (Mv 7), .int sv_21, .ref (Ma 7), .int (Mv 9), .ref (Ma 8), .int (Mv 10), .ref (Ma 9), .ref (Ma 10), .int (Mv 11), .int (Mv 12), .int (Mv 13), .ref (Ma 11), .int (Mv 14), .ref (Ma 12), .ref (Ma 13), .ref (Ma 14), .ref (Ma 15), .ref (Ma 16), .long (Mj 0), .ref (Ma 17), .ref (Ma 18), .ref (Ma 19), .ref (Ma 20)])), ((Ma 10), .inl (tc 0, 126, .inl sv_47))] H := hP₀
                replace hD : va_D A [((Ma 1), .inl (tc 2, 400, .inl (Mf 1))), ((Ma 3), .inl (tc 0, 7, .inl sv_22)), ((Ma 6), .inl (tc 0, 95, .inl sv_23)), ((Ma 0), .inr (12, [.ref (Ma 1), .int 0, .int (Mv 1), .ref (Ma 2), .ref (Ma 3), .ref (Ma 4), .ref (Ma 5), .ref (Ma 6), .int sv_18, .int sv_19, .int sv_20, .int 6, .int 0, .int (Mv 7), .int sv_21, .ref (Ma 7), .int (Mv 9), .ref (Ma 8), .int (Mv 10), .ref (Ma 9), .ref (Ma 10), .int (Mv 11), .int (Mv 12), .int (Mv 13), .ref (Ma 11), .int (Mv 14), .ref (Ma 12), .ref (Ma 13), .ref (Ma 14), .ref (Ma 15), .ref (Ma 16), .long (Mj 0), .ref (Ma 17), .ref (Ma 18), .ref (Ma 19), .ref (Ma 20)])), ((Ma 10), .inl (tc 0, 126, .inl sv_47))] := hD₀
                replace hS := hS₀
                clear hP₀ hD₀ hS₀
                refine lv_aload_n hx hb dX12_book_82 rfl (lv_at hl 1 rfl) ?_
                refine lv_iconst (v := 0) hx hb dX12_book_83 (by decide) ?_
                refine pf_X12_265 hx hb hts hown hK hP hD hS 3 rfl (Nat.le_of_ble_eq_true rfl) rfl rfl dX12_book_84 (fun H locs hP₀ hD₀ hS₀ => ?_)
                replace hP : va_P D classes [((Ma 1), .inl (tc 2, 400, .inl (Mf 1))), ((Ma 3), .inl (tc 0, 7, .inl sv_22)), ((Ma 6), .inl (tc 0, 95, .inl sv_23)), ((Ma 0), .inr (12, [.ref (Ma 1), .int 0, .int (Mv 1), .ref (Ma 2), .ref (Ma 3), .ref (Ma 4), .ref (Ma 5), .ref (Ma 6), .int sv_18, .int sv_19, .int sv_20, .int 6, .int 0, .int (Mv 7), .int sv_21, .ref (Ma 7), .int (Mv 9), .ref (Ma 8), .int (Mv 10), .ref (Ma 9), .ref (Ma 10), .int (Mv 11), .int (Mv 12), .int (Mv 13), .ref (Ma 11), .int 0, .ref (Ma 12), .ref (Ma 13), .ref (Ma 14), .ref (Ma 15), .ref (Ma 16), .long (Mj 0), .ref (Ma 17), .ref (Ma 18), .ref (Ma 19), .ref (Ma 20)])), ((Ma 10), .inl (tc 0, 126, .inl sv_47))] H := hP₀
                replace hD : va_D A [((Ma 1), .inl (tc 2, 400, .inl (Mf 1))), ((Ma 3), .inl (tc 0, 7, .inl sv_22)), ((Ma 6), .inl (tc 0, 95, .inl sv_23)), ((Ma 0), .inr (12, [.ref (Ma 1), .int 0, .int (Mv 1), .ref (Ma 2), .ref (Ma 3), .ref (Ma 4), .ref (Ma 5), .ref (Ma 6), .int sv_18, .int sv_19, .int sv_20, .int 6, .int 0, .int (Mv 7), .int sv_21, .ref (Ma 7), .int (Mv 9), .ref (Ma 8), .int (Mv 10), .ref (Ma 9), .ref (Ma 10), .int (Mv 11), .int (Mv 12), .int (Mv 13), .ref (Ma 11), .int 0, .ref (Ma 12), .ref (Ma 13), .ref (Ma 14), .ref (Ma 15), .ref (Ma 16), .long (Mj 0), .ref (Ma 17), .ref (Ma 18), .ref (Ma 19), .ref (Ma 20)])), ((Ma 10), .inl (tc 0, 126, .inl sv_47))] := hD₀
                replace hS := hS₀
                clear hP₀ hD₀ hS₀
                refine lv_aload_n hx hb dX12_book_87 rfl (lv_at hl 1 rfl) ?_
                refine gf_X12_39 hx hb hts hown hK hP 3 rfl rfl dX12_book_88 ?_
                refine lv_iconst (v := 3) hx hb dX12_book_91 (by decide) ?_
                refine va_iald hx hb hK hP 4 0 rfl rfl (vin_dec (by decide +kernel)) dX12_book_92 ?_
                refine lv_topi (fun x_49 ex_49 => ?_)
                have lx_49 : x_49.toInt = (sv_47 3).toInt := congrArg Int32.toInt ex_49
                have ha_50 : 0 ≤ (0 : Int32).toInt ∧ (0 : Int32).toInt ≤ 400 := by
                  have z_1 := Int32.le_iff_toInt_le.mp c_11
                  have z_2 : ¬ (r_25 : Int32).toInt = (0 : Int32).toInt := fun z => c_29 (Int32.toInt_inj.mp z)
                  have z_3 := Int32.le_iff_toInt_le.mp c_42
                  have y_0 : (0 : Int32).toInt = 0 := by decide
                  have y_95 : (95 : Int32).toInt = 95 := by decide
                  have y_126 : (126 : Int32).toInt = 126 := by decide
                  omega
                have ha_51 : 0 ≤ (0 : Int32).toInt ∧ (0 : Int32).toInt ≤ 20 := by
                  have z_1 := Int32.le_iff_toInt_le.mp c_11
                  have z_2 : ¬ (r_25 : Int32).toInt = (0 : Int32).toInt := fun z => c_29 (Int32.toInt_inj.mp z)
                  have z_3 := Int32.le_iff_toInt_le.mp c_42
                  have y_0 : (0 : Int32).toInt = 0 := by decide
                  have y_95 : (95 : Int32).toInt = 95 := by decide
                  have y_126 : (126 : Int32).toInt = 126 := by decide
                  omega
                have hr_52 : 126 ≤ (vy_34 : Int32).toInt := by
                  have z_1 := Int32.le_iff_toInt_le.mp c_11
                  have z_2 : ¬ (r_25 : Int32).toInt = (0 : Int32).toInt := fun z => c_29 (Int32.toInt_inj.mp z)
                  have z_3 := Int32.le_iff_toInt_le.mp c_42
                  have y_0 : (0 : Int32).toInt = 0 := by decide
                  have y_95 : (95 : Int32).toInt = 95 := by decide
                  have y_126 : (126 : Int32).toInt = 126 := by decide
                  omega
                have hr_53a : (sv_47 3).toInt = (x_49 : Int32).toInt := (congrArg Int32.toInt ex_49).symm
                have hr_53 : (x_49 : Int32).toInt = (sv_23 3).toInt := by
                  have he3 : vy_35 3 = sv_23 3 := (pf_40 3 (by omega)).1 (by decide)
                  have he5 : sv_47 3 = vy_35 3 := SaidD.at pf_48 (by decide)
                  rw [← hr_53a, he5, he3]
                have hr_53b : (sv_47 125).toInt = 0 := by
                  have he5 : sv_47 125 = vy_35 125 := SaidD.at pf_48 (by decide)
                  rw [he5]
                  exact (pf_40 125 (by omega)).2 (by decide)
                have hr_54 : (sv_19 : Int32).toInt = 0 := by
                  have z_1 := Int32.le_iff_toInt_le.mp c_11
                  have z_2 : ¬ (r_25 : Int32).toInt = (0 : Int32).toInt := fun z => c_29 (Int32.toInt_inj.mp z)
                  have z_3 := Int32.le_iff_toInt_le.mp c_42
                  have y_0 : (0 : Int32).toInt = 0 := by decide
                  have y_95 : (95 : Int32).toInt = 95 := by decide
                  have y_126 : (126 : Int32).toInt = 126 := by decide
                  omega
                exact retI (v := x_49) hx hb hr hlk (rfl) hP hD hS (sv_18, sv_19, sv_20, sv_21, 0, sv_22, sv_23, sv_47) ⟨_, rfl, (BkX.good pf_24 hr_54 hr_53 hr_53a hr_53b), ha_50, (SaidD.o (SaidD.mono pf_48 (by decide))), ha_51⟩ [3, 0, 1, 2, 4] rfl rfl dX12_book_93 (Nat.le_of_ble_eq_true rfl) (Nat.le_of_ble_eq_true rfl) rfl
              · skip
                refine lv_aload_n hx hb dX12_book_50 rfl (lv_at hl 1 rfl) ?_
                refine gf_X12_39 hx hb hts hown hK hP 1 rfl rfl dX12_book_51 ?_
                refine lv_iload_n hx hb dX12_book_54 rfl (lv_at hl 0 rfl) ?_
                refine lv_iload_n hx hb dX12_book_55 rfl (lv_at hl 0 rfl) ?_
                refine lv_bipush (v := 95) hx hb dX12_book_56 (by decide) ?_
                refine lv_icmp_ge (tgt := 70) hx hb dX12_book_58 (by decide) (fun c_55 => ?_) (fun c_55 => ?_)
                · skip
                  refine lv_iconst (v := 0) hx hb dX12_book_70 (by decide) ?_
                  have hi_56 : vp_in vy_34 126 := by
                    have z_1 := Int32.le_iff_toInt_le.mp c_11
                    have z_2 : ¬ (r_25 : Int32).toInt = (0 : Int32).toInt := fun z => c_29 (Int32.toInt_inj.mp z)
                    have z_3 := Int32.lt_iff_toInt_lt.mp (Int32.not_le.mp c_42)
                    have z_4 := Int32.le_iff_toInt_le.mp c_55
                    have y_0 : (0 : Int32).toInt = 0 := by decide
                    have y_95 : (95 : Int32).toInt = 95 := by decide
                    have y_126 : (126 : Int32).toInt = 126 := by decide
                    refine vp_in_iff.mpr ⟨?_, ?_⟩ <;> omega
                  refine st_int hx hb hK hP hD hS 0 0 rfl rfl hi_56 dX12_book_71 (fun g_57 H locs eg_57 hP₀ hD₀ hS₀ => ?_)
                  replace hP : va_P D classes [((Ma 10), .inl (tc 0, 126, .inl g_57)), ((Ma 0), .inr (12, [.ref (Ma 1), .int 0, .int (Mv 1), .ref (Ma 2), .ref (Ma 3), .ref (Ma 4), .ref (Ma 5), .ref (Ma 6), .int sv_18, .int sv_19, .int sv_20, .int 6, .int 0, .int (Mv 7), .int sv_21, .ref (Ma 7), .int (Mv 9), .ref (Ma 8), .int (Mv 10), .ref (Ma 9), .ref (Ma 10), .int (Mv 11), .int (Mv 12), .int (Mv 13), .ref (Ma 11), .int (Mv 14), .ref (Ma 12), .ref (Ma 13), .ref (Ma 14), .ref (Ma 15), .ref (Ma 16), .long (Mj 0), .ref (Ma 17), .ref (Ma 18), .ref (Ma 19), .ref (Ma 20)])), ((Ma 1), .inl (tc 2, 400, .inl (Mf 1))), ((Ma 3), .inl (tc 0, 7, .inl sv_22)), ((Ma 6), .inl (tc 0, 95, .inl sv_23))] H := hP₀
                  replace hD : va_D A [((Ma 10), .inl (tc 0, 126, .inl g_57)), ((Ma 0), .inr (12, [.ref (Ma 1), .int 0, .int (Mv 1), .ref (Ma 2), .ref (Ma 3), .ref (Ma 4), .ref (Ma 5), .ref (Ma 6), .int sv_18, .int sv_19, .int sv_20, .int 6, .int 0, .int (Mv 7), .int sv_21, .ref (Ma 7), .int (Mv 9), .ref (Ma 8), .int (Mv 10), .ref (Ma 9), .ref (Ma 10), .int (Mv 11), .int (Mv 12), .int (Mv 13), .ref (Ma 11), .int (Mv 14), .ref (Ma 12), .ref (Ma 13), .ref (Ma 14), .ref (Ma 15), .ref (Ma 16), .long (Mj 0), .ref (Ma 17), .ref (Ma 18), .ref (Ma 19), .ref (Ma 20)])), ((Ma 1), .inl (tc 2, 400, .inl (Mf 1))), ((Ma 3), .inl (tc 0, 7, .inl sv_22)), ((Ma 6), .inl (tc 0, 95, .inl sv_23))] := hD₀
                  replace hS := hS₀
                  clear hP₀ hD₀ hS₀
                  obtain ⟨x_58, ex_58⟩ : ∃ y : Int32, y = vy_34 + 1 := ⟨_, rfl⟩
                  refine lv_iinc (v := x_58) (lv' := [(1, .int x_58), (0, .ref (Ma 0))]) hx hb dX12_book_72 hl (k := 0) rfl (by rw [ex_58]; rfl) (by decide) rfl (fun ls hl₀ => ?_)
                  replace hl := hl₀
                  clear hl₀
                  refine lv_goto (tgt := 44) hx hb dX12_book_75 (by decide) ?_
                  have hb_59 : 126 - (x_58 : Int32).toInt < 126 - (vy_34 : Int32).toInt ∧ 1 ≤ 126 - (vy_34 : Int32).toInt := by
                    have z_1 := Int32.le_iff_toInt_le.mp c_11
                    have z_2 : ¬ (r_25 : Int32).toInt = (0 : Int32).toInt := fun z => c_29 (Int32.toInt_inj.mp z)
                    have z_3 := Int32.lt_iff_toInt_lt.mp (Int32.not_le.mp c_42)
                    have z_4 := Int32.le_iff_toInt_le.mp c_55
                    have y_0 : (0 : Int32).toInt = 0 := by decide
                    have y_95 : (95 : Int32).toInt = 95 := by decide
                    have y_126 : (126 : Int32).toInt = 126 := by decide
                    have y_1 : (1 : Int32).toInt = 1 := by decide
                    have t_x_58 : x_58.toInt = (vy_34 : Int32).toInt + (1 : Int32).toInt := by rw [ex_58]; exact add_toInt (by omega) (by omega)
                    omega
                  have ha_60 : 0 ≤ (x_58 : Int32).toInt := by
                    have z_1 := Int32.le_iff_toInt_le.mp c_11
                    have z_2 : ¬ (r_25 : Int32).toInt = (0 : Int32).toInt := fun z => c_29 (Int32.toInt_inj.mp z)
                    have z_3 := Int32.lt_iff_toInt_lt.mp (Int32.not_le.mp c_42)
                    have z_4 := Int32.le_iff_toInt_le.mp c_55
                    have y_0 : (0 : Int32).toInt = 0 := by decide
                    have y_95 : (95 : Int32).toInt = 95 := by decide
                    have y_126 : (126 : Int32).toInt = 126 := by decide
                    have y_1 : (1 : Int32).toInt = 1 := by decide
                    have t_x_58 : x_58.toInt = (vy_34 : Int32).toInt + (1 : Int32).toInt := by rw [ex_58]; exact add_toInt (by omega) (by omega)
                    omega
                  have hr_61 : 95 ≤ (vy_34 : Int32).toInt := by
                    have z_1 := Int32.le_iff_toInt_le.mp c_11
                    have z_2 : ¬ (r_25 : Int32).toInt = (0 : Int32).toInt := fun z => c_29 (Int32.toInt_inj.mp z)
                    have z_3 := Int32.lt_iff_toInt_lt.mp (Int32.not_le.mp c_42)
                    have z_4 := Int32.le_iff_toInt_le.mp c_55
                    have y_0 : (0 : Int32).toInt = 0 := by decide
                    have y_95 : (95 : Int32).toInt = 95 := by decide
                    have y_126 : (126 : Int32).toInt = 126 := by decide
                    omega
                  have hi_62 : (x_58 : Int32).toInt = (vy_34 : Int32).toInt + 1 := by
                    have z_1 := Int32.le_iff_toInt_le.mp c_11
                    have z_2 : ¬ (r_25 : Int32).toInt = (0 : Int32).toInt := fun z => c_29 (Int32.toInt_inj.mp z)
                    have z_3 := Int32.lt_iff_toInt_lt.mp (Int32.not_le.mp c_42)
                    have z_4 := Int32.le_iff_toInt_le.mp c_55
                    have y_0 : (0 : Int32).toInt = 0 := by decide
                    have y_95 : (95 : Int32).toInt = 95 := by decide
                    have y_126 : (126 : Int32).toInt = 126 := by decide
                    have y_1 : (1 : Int32).toInt = 1 := by decide
                    have t_x_58 : x_58.toInt = (vy_34 : Int32).toInt + (1 : Int32).toInt := by rw [ex_58]; exact add_toInt (by omega) (by omega)
                    omega
                  have hr_63 : 0 ≤ (vy_34 : Int32).toInt := by
                    have z_1 := Int32.le_iff_toInt_le.mp c_11
                    have z_2 : ¬ (r_25 : Int32).toInt = (0 : Int32).toInt := fun z => c_29 (Int32.toInt_inj.mp z)
                    have z_3 := Int32.lt_iff_toInt_lt.mp (Int32.not_le.mp c_42)
                    have z_4 := Int32.le_iff_toInt_le.mp c_55
                    have y_0 : (0 : Int32).toInt = 0 := by decide
                    have y_95 : (95 : Int32).toInt = 95 := by decide
                    have y_126 : (126 : Int32).toInt = 126 := by decide
                    omega
                  exact ih_37 x_58 g_57 _ _ _ (by omega) ha_60 (SdK.step pf_40 eg_57 (Or.inr ⟨hr_61, by decide⟩) hi_62 hr_63) (hP.sub [0, 1, 2, 3, 4] rfl) (hD.sub [0, 1, 2, 3, 4] rfl rfl) hS (lv_sub hl [0, 1] rfl)
                · skip
                  refine lv_aload_n hx hb dX12_book_61 rfl (lv_at hl 1 rfl) ?_
                  refine gf_X12_26 hx hb hts hown hK hP 1 rfl rfl dX12_book_62 ?_
                  refine lv_iload_n hx hb dX12_book_65 rfl (lv_at hl 0 rfl) ?_
                  have hi_64 : vp_in vy_34 95 := by
                    have z_1 := Int32.le_iff_toInt_le.mp c_11
                    have z_2 : ¬ (r_25 : Int32).toInt = (0 : Int32).toInt := fun z => c_29 (Int32.toInt_inj.mp z)
                    have z_3 := Int32.lt_iff_toInt_lt.mp (Int32.not_le.mp c_42)
                    have z_4 := Int32.lt_iff_toInt_lt.mp (Int32.not_le.mp c_55)
                    have y_0 : (0 : Int32).toInt = 0 := by decide
                    have y_95 : (95 : Int32).toInt = 95 := by decide
                    have y_126 : (126 : Int32).toInt = 126 := by decide
                    refine vp_in_iff.mpr ⟨?_, ?_⟩ <;> omega
                  refine va_iald hx hb hK hP 4 0 rfl rfl hi_64 dX12_book_66 ?_
                  refine lv_topi (fun x_65 ex_65 => ?_)
                  refine lv_goto (tgt := 71) hx hb dX12_book_67 (by decide) ?_
                  have hi_66 : vp_in vy_34 126 := by
                    have z_1 := Int32.le_iff_toInt_le.mp c_11
                    have z_2 : ¬ (r_25 : Int32).toInt = (0 : Int32).toInt := fun z => c_29 (Int32.toInt_inj.mp z)
                    have z_3 := Int32.lt_iff_toInt_lt.mp (Int32.not_le.mp c_42)
                    have z_4 := Int32.lt_iff_toInt_lt.mp (Int32.not_le.mp c_55)
                    have y_0 : (0 : Int32).toInt = 0 := by decide
                    have y_95 : (95 : Int32).toInt = 95 := by decide
                    have y_126 : (126 : Int32).toInt = 126 := by decide
                    refine vp_in_iff.mpr ⟨?_, ?_⟩ <;> omega
                  refine st_int hx hb hK hP hD hS 0 0 rfl rfl hi_66 dX12_book_71 (fun g_67 H locs eg_67 hP₀ hD₀ hS₀ => ?_)
                  replace hP : va_P D classes [((Ma 10), .inl (tc 0, 126, .inl g_67)), ((Ma 0), .inr (12, [.ref (Ma 1), .int 0, .int (Mv 1), .ref (Ma 2), .ref (Ma 3), .ref (Ma 4), .ref (Ma 5), .ref (Ma 6), .int sv_18, .int sv_19, .int sv_20, .int 6, .int 0, .int (Mv 7), .int sv_21, .ref (Ma 7), .int (Mv 9), .ref (Ma 8), .int (Mv 10), .ref (Ma 9), .ref (Ma 10), .int (Mv 11), .int (Mv 12), .int (Mv 13), .ref (Ma 11), .int (Mv 14), .ref (Ma 12), .ref (Ma 13), .ref (Ma 14), .ref (Ma 15), .ref (Ma 16), .long (Mj 0), .ref (Ma 17), .ref (Ma 18), .ref (Ma 19), .ref (Ma 20)])), ((Ma 1), .inl (tc 2, 400, .inl (Mf 1))), ((Ma 3), .inl (tc 0, 7, .inl sv_22)), ((Ma 6), .inl (tc 0, 95, .inl sv_23))] H := hP₀
                  replace hD : va_D A [((Ma 10), .inl (tc 0, 126, .inl g_67)), ((Ma 0), .inr (12, [.ref (Ma 1), .int 0, .int (Mv 1), .ref (Ma 2), .ref (Ma 3), .ref (Ma 4), .ref (Ma 5), .ref (Ma 6), .int sv_18, .int sv_19, .int sv_20, .int 6, .int 0, .int (Mv 7), .int sv_21, .ref (Ma 7), .int (Mv 9), .ref (Ma 8), .int (Mv 10), .ref (Ma 9), .ref (Ma 10), .int (Mv 11), .int (Mv 12), .int (Mv 13), .ref (Ma 11), .int (Mv 14), .ref (Ma 12), .ref (Ma 13), .ref (Ma 14), .ref (Ma 15), .ref (Ma 16), .long (Mj 0), .ref (Ma 17), .ref (Ma 18), .ref (Ma 19), .ref (Ma 20)])), ((Ma 1), .inl (tc 2, 400, .inl (Mf 1))), ((Ma 3), .inl (tc 0, 7, .inl sv_22)), ((Ma 6), .inl (tc 0, 95, .inl sv_23))] := hD₀
                  replace hS := hS₀
                  clear hP₀ hD₀ hS₀
                  obtain ⟨x_68, ex_68⟩ : ∃ y : Int32, y = vy_34 + 1 := ⟨_, rfl⟩
                  refine lv_iinc (v := x_68) (lv' := [(1, .int x_68), (0, .ref (Ma 0))]) hx hb dX12_book_72 hl (k := 0) rfl (by rw [ex_68]; rfl) (by decide) rfl (fun ls hl₀ => ?_)
                  replace hl := hl₀
                  clear hl₀
                  refine lv_goto (tgt := 44) hx hb dX12_book_75 (by decide) ?_
                  have hb_69 : 126 - (x_68 : Int32).toInt < 126 - (vy_34 : Int32).toInt ∧ 1 ≤ 126 - (vy_34 : Int32).toInt := by
                    have z_1 := Int32.le_iff_toInt_le.mp c_11
                    have z_2 : ¬ (r_25 : Int32).toInt = (0 : Int32).toInt := fun z => c_29 (Int32.toInt_inj.mp z)
                    have z_3 := Int32.lt_iff_toInt_lt.mp (Int32.not_le.mp c_42)
                    have z_4 := Int32.lt_iff_toInt_lt.mp (Int32.not_le.mp c_55)
                    have y_0 : (0 : Int32).toInt = 0 := by decide
                    have y_95 : (95 : Int32).toInt = 95 := by decide
                    have y_126 : (126 : Int32).toInt = 126 := by decide
                    have y_1 : (1 : Int32).toInt = 1 := by decide
                    have t_x_68 : x_68.toInt = (vy_34 : Int32).toInt + (1 : Int32).toInt := by rw [ex_68]; exact add_toInt (by omega) (by omega)
                    omega
                  have ha_70 : 0 ≤ (x_68 : Int32).toInt := by
                    have z_1 := Int32.le_iff_toInt_le.mp c_11
                    have z_2 : ¬ (r_25 : Int32).toInt = (0 : Int32).toInt := fun z => c_29 (Int32.toInt_inj.mp z)
                    have z_3 := Int32.lt_iff_toInt_lt.mp (Int32.not_le.mp c_42)
                    have z_4 := Int32.lt_iff_toInt_lt.mp (Int32.not_le.mp c_55)
                    have y_0 : (0 : Int32).toInt = 0 := by decide
                    have y_95 : (95 : Int32).toInt = 95 := by decide
                    have y_126 : (126 : Int32).toInt = 126 := by decide
                    have y_1 : (1 : Int32).toInt = 1 := by decide
                    have t_x_68 : x_68.toInt = (vy_34 : Int32).toInt + (1 : Int32).toInt := by rw [ex_68]; exact add_toInt (by omega) (by omega)
                    omega
                  have hr_71 : (vy_34 : Int32).toInt < 95 := by
                    have z_1 := Int32.le_iff_toInt_le.mp c_11
                    have z_2 : ¬ (r_25 : Int32).toInt = (0 : Int32).toInt := fun z => c_29 (Int32.toInt_inj.mp z)
                    have z_3 := Int32.lt_iff_toInt_lt.mp (Int32.not_le.mp c_42)
                    have z_4 := Int32.lt_iff_toInt_lt.mp (Int32.not_le.mp c_55)
                    have y_0 : (0 : Int32).toInt = 0 := by decide
                    have y_95 : (95 : Int32).toInt = 95 := by decide
                    have y_126 : (126 : Int32).toInt = 126 := by decide
                    omega
                  have hi_72 : (x_68 : Int32).toInt = (vy_34 : Int32).toInt + 1 := by
                    have z_1 := Int32.le_iff_toInt_le.mp c_11
                    have z_2 : ¬ (r_25 : Int32).toInt = (0 : Int32).toInt := fun z => c_29 (Int32.toInt_inj.mp z)
                    have z_3 := Int32.lt_iff_toInt_lt.mp (Int32.not_le.mp c_42)
                    have z_4 := Int32.lt_iff_toInt_lt.mp (Int32.not_le.mp c_55)
                    have y_0 : (0 : Int32).toInt = 0 := by decide
                    have y_95 : (95 : Int32).toInt = 95 := by decide
                    have y_126 : (126 : Int32).toInt = 126 := by decide
                    have y_1 : (1 : Int32).toInt = 1 := by decide
                    have t_x_68 : x_68.toInt = (vy_34 : Int32).toInt + (1 : Int32).toInt := by rw [ex_68]; exact add_toInt (by omega) (by omega)
                    omega
                  have hr_73 : 0 ≤ (vy_34 : Int32).toInt := by
                    have z_1 := Int32.le_iff_toInt_le.mp c_11
                    have z_2 : ¬ (r_25 : Int32).toInt = (0 : Int32).toInt := fun z => c_29 (Int32.toInt_inj.mp z)
                    have z_3 := Int32.lt_iff_toInt_lt.mp (Int32.not_le.mp c_42)
                    have z_4 := Int32.lt_iff_toInt_lt.mp (Int32.not_le.mp c_55)
                    have y_0 : (0 : Int32).toInt = 0 := by decide
                    have y_95 : (95 : Int32).toInt = 95 := by decide
                    have y_126 : (126 : Int32).toInt = 126 := by decide
                    omega
                  exact ih_37 x_68 g_67 _ _ _ (by omega) ha_70 (SdK.step pf_40 eg_67 (Or.inl ⟨hr_71, ex_65⟩) hi_72 hr_73) (hP.sub [0, 1, 2, 3, 4] rfl) (hD.sub [0, 1, 2, 3, 4] rfl rfl) hS (lv_sub hl [0, 1] rfl)
          have ha_74 : 0 ≤ (0 : Int32).toInt := by
            have z_1 := Int32.le_iff_toInt_le.mp c_11
            have z_2 : ¬ (r_25 : Int32).toInt = (0 : Int32).toInt := fun z => c_29 (Int32.toInt_inj.mp z)
            have y_0 : (0 : Int32).toInt = 0 := by decide
            have y_95 : (95 : Int32).toInt = 95 := by decide
            omega
          have ha_75 : SdK (Mf 10) sv_23 0 := fun i hi => absurd hi (by have h0z : (0 : Int32).toInt = 0 := (by decide); omega)
          exact loop_38 _ 0 (Mf 10) _ _ _ (Nat.lt_succ_self _) ha_74 ha_75 hP hD hS hl
        · skip
          refine lv_bipush (v := (-2)) hx hb dX12_book_34 (by decide) ?_
          refine lv_aload_n hx hb dX12_book_36 rfl (lv_at hl 1 rfl) ?_
          refine gf_X12_84 hx hb hts hown hK hP 1 rfl rfl dX12_book_37 ?_
          refine lv_isub hx hb dX12_book_40 ?_
          refine lv_topi (fun x_76 ex_76 => ?_)
          have ha_77 : 0 ≤ (0 : Int32).toInt ∧ (0 : Int32).toInt ≤ 400 := by
            have z_1 := Int32.le_iff_toInt_le.mp c_11
            have z_2 := congrArg Int32.toInt c_29
            have y_0 : (0 : Int32).toInt = 0 := by decide
            have y_95 : (95 : Int32).toInt = 95 := by decide
            omega
          have hr_78 : ¬ (sv_19 : Int32).toInt = 0 := by
            have z_1 := Int32.le_iff_toInt_le.mp c_11
            have z_2 := congrArg Int32.toInt c_29
            have y_0 : (0 : Int32).toInt = 0 := by decide
            have y_95 : (95 : Int32).toInt = 95 := by decide
            omega
          exact retI (v := x_76) hx hb hr hlk (rfl) hP hD hS (sv_18, sv_19, sv_20, sv_21, (Mv 14), sv_22, sv_23, (Mf 10)) ⟨_, rfl, (BkX.bad pf_24 hr_78 ex_76), ha_77, (SaidD.o h_said), h_un⟩ [1, 2, 3, 4, 0] rfl rfl dX12_book_41 (Nat.le_of_ble_eq_true rfl) (Nat.le_of_ble_eq_true rfl) rfl
      · skip
        refine lv_aload_n hx hb dX12_book_14 rfl (lv_at hl 1 rfl) ?_
        refine gf_X12_26 hx hb hts hown hK hP 0 rfl rfl dX12_book_15 ?_
        refine lv_iload_n hx hb dX12_book_18 rfl (lv_at hl 0 rfl) ?_
        refine lv_iconst (v := 0) hx hb dX12_book_19 (by decide) ?_
        have hi_79 : vp_in vy_3 95 := by
          have z_1 := Int32.lt_iff_toInt_lt.mp (Int32.not_le.mp c_11)
          have y_95 : (95 : Int32).toInt = 95 := by decide
          refine vp_in_iff.mpr ⟨?_, ?_⟩ <;> omega
        refine st_int hx hb hK hP hD hS 3 0 rfl rfl hi_79 dX12_book_20 (fun g_80 H locs eg_80 hP₀ hD₀ hS₀ => ?_)
        replace hP : va_P D classes [((Ma 0), .inr (12, [.ref (Ma 1), .int (Mv 0), .int (Mv 1), .ref (Ma 2), .ref (Ma 3), .ref (Ma 4), .ref (Ma 5), .ref (Ma 6), .int (Mv 2), .int (Mv 3), .int (Mv 4), .int 6, .int (Mv 6), .int (Mv 7), .int (Mv 8), .ref (Ma 7), .int (Mv 9), .ref (Ma 8), .int (Mv 10), .ref (Ma 9), .ref (Ma 10), .int (Mv 11), .int (Mv 12), .int (Mv 13), .ref (Ma 11), .int (Mv 14), .ref (Ma 12), .ref (Ma 13), .ref (Ma 14), .ref (Ma 15), .ref (Ma 16), .long (Mj 0), .ref (Ma 17), .ref (Ma 18), .ref (Ma 19), .ref (Ma 20)])), ((Ma 1), .inl (tc 2, 400, .inl (Mf 1))), ((Ma 3), .inl (tc 0, 7, .inl (Mf 3))), ((Ma 6), .inl (tc 0, 95, .inl g_80)), ((Ma 10), .inl (tc 0, 126, .inl (Mf 10)))] H := hP₀
        replace hD : va_D A [((Ma 0), .inr (12, [.ref (Ma 1), .int (Mv 0), .int (Mv 1), .ref (Ma 2), .ref (Ma 3), .ref (Ma 4), .ref (Ma 5), .ref (Ma 6), .int (Mv 2), .int (Mv 3), .int (Mv 4), .int 6, .int (Mv 6), .int (Mv 7), .int (Mv 8), .ref (Ma 7), .int (Mv 9), .ref (Ma 8), .int (Mv 10), .ref (Ma 9), .ref (Ma 10), .int (Mv 11), .int (Mv 12), .int (Mv 13), .ref (Ma 11), .int (Mv 14), .ref (Ma 12), .ref (Ma 13), .ref (Ma 14), .ref (Ma 15), .ref (Ma 16), .long (Mj 0), .ref (Ma 17), .ref (Ma 18), .ref (Ma 19), .ref (Ma 20)])), ((Ma 1), .inl (tc 2, 400, .inl (Mf 1))), ((Ma 3), .inl (tc 0, 7, .inl (Mf 3))), ((Ma 6), .inl (tc 0, 95, .inl g_80)), ((Ma 10), .inl (tc 0, 126, .inl (Mf 10)))] := hD₀
        replace hS := hS₀
        clear hP₀ hD₀ hS₀
        obtain ⟨x_81, ex_81⟩ : ∃ y : Int32, y = vy_3 + 1 := ⟨_, rfl⟩
        refine lv_iinc (v := x_81) (lv' := [(1, .int x_81), (0, .ref (Ma 0))]) hx hb dX12_book_21 hl (k := 0) rfl (by rw [ex_81]; rfl) (by decide) rfl (fun ls hl₀ => ?_)
        replace hl := hl₀
        clear hl₀
        refine lv_goto (tgt := 8) hx hb dX12_book_24 (by decide) ?_
        have hb_82 : 95 - (x_81 : Int32).toInt < 95 - (vy_3 : Int32).toInt ∧ 1 ≤ 95 - (vy_3 : Int32).toInt := by
          have z_1 := Int32.lt_iff_toInt_lt.mp (Int32.not_le.mp c_11)
          have y_95 : (95 : Int32).toInt = 95 := by decide
          have y_1 : (1 : Int32).toInt = 1 := by decide
          have t_x_81 : x_81.toInt = (vy_3 : Int32).toInt + (1 : Int32).toInt := by rw [ex_81]; exact add_toInt (by omega) (by omega)
          omega
        have ha_83 : 0 ≤ (x_81 : Int32).toInt := by
          have z_1 := Int32.lt_iff_toInt_lt.mp (Int32.not_le.mp c_11)
          have y_95 : (95 : Int32).toInt = 95 := by decide
          have y_1 : (1 : Int32).toInt = 1 := by decide
          have t_x_81 : x_81.toInt = (vy_3 : Int32).toInt + (1 : Int32).toInt := by rw [ex_81]; exact add_toInt (by omega) (by omega)
          omega
        have hi_84 : (x_81 : Int32).toInt = (vy_3 : Int32).toInt + 1 := by
          have z_1 := Int32.lt_iff_toInt_lt.mp (Int32.not_le.mp c_11)
          have y_95 : (95 : Int32).toInt = 95 := by decide
          have y_1 : (1 : Int32).toInt = 1 := by decide
          have t_x_81 : x_81.toInt = (vy_3 : Int32).toInt + (1 : Int32).toInt := by rw [ex_81]; exact add_toInt (by omega) (by omega)
          omega
        have hr_85 : 0 ≤ (vy_3 : Int32).toInt := by
          have z_1 := Int32.lt_iff_toInt_lt.mp (Int32.not_le.mp c_11)
          have y_95 : (95 : Int32).toInt = 95 := by decide
          omega
        exact ih_6 x_81 g_80 _ _ _ (by omega) ha_83 (Rd0.step pf_9 eg_80 hi_84 hr_85) (hP.sub [0, 1, 2, 3, 4] rfl) (hD.sub [0, 1, 2, 3, 4] rfl rfl) hS (lv_sub hl [0, 1] rfl)
  have ha_86 : 0 ≤ (0 : Int32).toInt := by
    have y_0 : (0 : Int32).toInt = 0 := by decide
    omega
  have ha_87 : Rd0 (Mf 6) 0 := fun i hi => absurd hi (by have h0z : (0 : Int32).toInt = 0 := (by decide); omega)
  exact loop_7 _ 0 (Mf 6) _ _ _ (Nat.lt_succ_self _) ha_86 ha_87 hP hD hS hl
