set_option maxHeartbeats 4000000 in
set_option maxRecDepth 100000 in
theorem ct_fX11_force (l : Launch) (D : va_G) (tc : Nat → ClassId) (sk : (Nat → Nat) × (Nat → Nat)) (Ga : Nat → Nat) (Gv : Nat → Int32) (Sa : Nat → Nat) (Sv : Nat → Int32) (x1 : Int32)  : Ct l yX11_force cX11_force 3 (some .int) { frames := 0, cells := 0, slots := 0, locals := 0 } D tc sk [.ref (Ga 0), .int x1] [((Ga 0), .inr (11, [.ref (Ga 1), .ref (Ga 2), .ref (Ga 3), .ref (Ga 4), .int (Gv 0), .ref (Sa 0), .ref (Ga 6), .ref (Ga 7), .ref (Ga 8), .ref (Ga 9), .ref (Ga 10), .ref (Ga 11)])), ((Sa 0), .inr (8, [.ref (Sa 1), .ref (Sa 2), .ref (Sa 3), .int (Sv 0), .int (Sv 1)]))] (fun (v : Option Value) (oo0x1 : Int32) => ∃ r : Int32, v = some (.int r) ∧ (TFo x1 r (Gv 0) (Sv 0) oo0x1)) (fun (oo0x1 : Int32) => [((Ga 0), .inr (11, [.ref (Ga 1), .ref (Ga 2), .ref (Ga 3), .ref (Ga 4), .int (Gv 0), .ref (Sa 0), .ref (Ga 6), .ref (Ga 7), .ref (Ga 8), .ref (Ga 9), .ref (Ga 10), .ref (Ga 11)])), ((Sa 0), .inr (8, [.ref (Sa 1), .ref (Sa 2), .ref (Sa 3), .int oo0x1, .int (Sv 1)]))]) 0 0 := by
  refine Ct.start (by decide) (Nat.le_of_ble_eq_true rfl) (fun p e s m below meth c A ls hx hb hr hlk hin hml hown hts hK hX hP hD hA hl hS => ?_)
  have hl : lv_has ls 3 [(0, .ref (Ga 0)), (1, .int x1)] := hl
  refine lv_iload_n hx hb dX11_force_0 rfl (lv_at hl 1 rfl) ?_
  refine lv_iconst (v := (-1)) hx hb dX11_force_1 (by decide) ?_
  refine lv_icmp_lt (tgt := 13) hx hb dX11_force_2 (by decide) (fun c_1 => ?_) (fun c_1 => ?_)
  · skip
    refine lv_bipush (v := (-2)) hx hb dX11_force_13 (by decide) ?_
    have hr_2 : x1.toInt < -1 ∨ (Gv 0).toInt ≤ x1.toInt := by
      have z_1 := Int32.lt_iff_toInt_lt.mp c_1
      have y_m1 : (-1 : Int32).toInt = -1 := by decide
      omega
    have hr_3 : ((-2) : Int32).toInt = -2 := by
      have z_1 := Int32.lt_iff_toInt_lt.mp c_1
      have y_m1 : (-1 : Int32).toInt = -1 := by decide
      have y_m2 : (-2 : Int32).toInt = -2 := by decide
      omega
    exact retI (v := (-2)) hx hb hr hlk (rfl) hP hD hS (Sv 0) ⟨_, rfl, (Or.inl ⟨hr_2, hr_3, rfl⟩)⟩ [0, 1] rfl rfl dX11_force_15 (Nat.le_of_ble_eq_true rfl) (Nat.le_of_ble_eq_true rfl) rfl
  · skip
    refine lv_iload_n hx hb dX11_force_5 rfl (lv_at hl 1 rfl) ?_
    refine lv_aload_n hx hb dX11_force_6 rfl (lv_at hl 0 rfl) ?_
    refine gf_X11_36 hx hb hts hown hK hP 0 rfl rfl dX11_force_7 ?_
    refine lv_icmp_lt (tgt := 16) hx hb dX11_force_10 (by decide) (fun c_4 => ?_) (fun c_4 => ?_)
    · skip
      refine lv_aload_n hx hb dX11_force_16 rfl (lv_at hl 0 rfl) ?_
      refine gf_X11_43 hx hb hts hown hK hP 0 rfl rfl dX11_force_17 ?_
      refine gf_X11_130 hx hb hts hown hK hP 1 rfl rfl dX11_force_20 ?_
      refine lv_istore_n (lv' := [(2, .int (Sv 0)), (0, .ref (Ga 0)), (1, .int x1)]) hx hb dX11_force_23 rfl hl (by decide) rfl (fun ls hl₀ => ?_)
      replace hl := hl₀
      clear hl₀
      refine lv_aload_n hx hb dX11_force_24 rfl (lv_at hl 1 rfl) ?_
      refine gf_X11_43 hx hb hts hown hK hP 0 rfl rfl dX11_force_25 ?_
      refine lv_iload_n hx hb dX11_force_28 rfl (lv_at hl 2 rfl) ?_
      refine pf_X11_130 hx hb hts hown hK hP hD hS 1 rfl (Nat.le_of_ble_eq_true rfl) rfl rfl dX11_force_29 (fun H locs hP₀ hD₀ hS₀ => ?_)
      replace hP : va_P D classes [((Ga 0), .inr (11, [.ref (Ga 1), .ref (Ga 2), .ref (Ga 3), .ref (Ga 4), .int (Gv 0), .ref (Sa 0), .ref (Ga 6), .ref (Ga 7), .ref (Ga 8), .ref (Ga 9), .ref (Ga 10), .ref (Ga 11)])), ((Sa 0), .inr (8, [.ref (Sa 1), .ref (Sa 2), .ref (Sa 3), .int x1, .int (Sv 1)]))] H := hP₀
      replace hD : va_D A [((Ga 0), .inr (11, [.ref (Ga 1), .ref (Ga 2), .ref (Ga 3), .ref (Ga 4), .int (Gv 0), .ref (Sa 0), .ref (Ga 6), .ref (Ga 7), .ref (Ga 8), .ref (Ga 9), .ref (Ga 10), .ref (Ga 11)])), ((Sa 0), .inr (8, [.ref (Sa 1), .ref (Sa 2), .ref (Sa 3), .int x1, .int (Sv 1)]))] := hD₀
      replace hS := hS₀
      clear hP₀ hD₀ hS₀
      refine lv_iload_n hx hb dX11_force_32 rfl (lv_at hl 0 rfl) ?_
      have hr_5 : -1 ≤ x1.toInt ∧ x1.toInt < (Gv 0).toInt := by
        have z_1 := Int32.le_iff_toInt_le.mp (Int32.not_lt.mp c_1)
        have z_2 := Int32.lt_iff_toInt_lt.mp c_4
        have y_m1 : (-1 : Int32).toInt = -1 := by decide
        omega
      exact retI (v := (Sv 0)) hx hb hr hlk (rfl) hP hD hS x1 ⟨_, rfl, (Or.inr ⟨hr_5, rfl, rfl⟩)⟩ [0, 1] rfl rfl dX11_force_33 (Nat.le_of_ble_eq_true rfl) (Nat.le_of_ble_eq_true rfl) rfl
    · skip
      refine lv_bipush (v := (-2)) hx hb dX11_force_13 (by decide) ?_
      have hr_6 : x1.toInt < -1 ∨ (Gv 0).toInt ≤ x1.toInt := by
        have z_1 := Int32.le_iff_toInt_le.mp (Int32.not_lt.mp c_1)
        have z_2 := Int32.le_iff_toInt_le.mp (Int32.not_lt.mp c_4)
        have y_m1 : (-1 : Int32).toInt = -1 := by decide
        omega
      have hr_7 : ((-2) : Int32).toInt = -2 := by
        have z_1 := Int32.le_iff_toInt_le.mp (Int32.not_lt.mp c_1)
        have z_2 := Int32.le_iff_toInt_le.mp (Int32.not_lt.mp c_4)
        have y_m1 : (-1 : Int32).toInt = -1 := by decide
        have y_m2 : (-2 : Int32).toInt = -2 := by decide
        omega
      exact retI (v := (-2)) hx hb hr hlk (rfl) hP hD hS (Sv 0) ⟨_, rfl, (Or.inl ⟨hr_6, hr_7, rfl⟩)⟩ [0, 1] rfl rfl dX11_force_15 (Nat.le_of_ble_eq_true rfl) (Nat.le_of_ble_eq_true rfl) rfl
set_option maxRecDepth 100000 in
theorem cu_fX11_force (l : Launch) (D : va_G) (tc : Nat → ClassId) (sk : (Nat → Nat) × (Nat → Nat)) (Ga_0 : Nat) (Ga_1 : Nat) (Ga_2 : Nat) (Ga_3 : Nat) (Ga_4 : Nat) (Ga_6 : Nat) (Ga_7 : Nat) (Ga_8 : Nat) (Ga_9 : Nat) (Ga_10 : Nat) (Ga_11 : Nat) (Gv_0 : Int32) (Sa_0 : Nat) (Sa_1 : Nat) (Sa_2 : Nat) (Sa_3 : Nat) (Sv_0 : Int32) (Sv_1 : Int32) (x1 : Int32)  : Ct l yX11_force cX11_force 3 (some .int) { frames := 0, cells := 0, slots := 0, locals := 0 } D tc sk [.ref Ga_0, .int x1] [(Ga_0, .inr (11, [.ref Ga_1, .ref Ga_2, .ref Ga_3, .ref Ga_4, .int Gv_0, .ref Sa_0, .ref Ga_6, .ref Ga_7, .ref Ga_8, .ref Ga_9, .ref Ga_10, .ref Ga_11])), (Sa_0, .inr (8, [.ref Sa_1, .ref Sa_2, .ref Sa_3, .int Sv_0, .int Sv_1]))] (fun (v : Option Value) (oo0x1 : Int32) => ∃ r : Int32, v = some (.int r) ∧ (TFo x1 r Gv_0 Sv_0 oo0x1)) (fun (oo0x1 : Int32) => [(Ga_0, .inr (11, [.ref Ga_1, .ref Ga_2, .ref Ga_3, .ref Ga_4, .int Gv_0, .ref Sa_0, .ref Ga_6, .ref Ga_7, .ref Ga_8, .ref Ga_9, .ref Ga_10, .ref Ga_11])), (Sa_0, .inr (8, [.ref Sa_1, .ref Sa_2, .ref Sa_3, .int oo0x1, .int Sv_1]))]) 0 0 :=
  ct_fX11_force l D tc sk (fun k => ([Ga_0, Ga_1, Ga_2, Ga_3, Ga_4, 0, Ga_6, Ga_7, Ga_8, Ga_9, Ga_10, Ga_11] : List (Nat)).getD k 0) (fun k => ([Gv_0] : List (Int32)).getD k 0) (fun k => ([Sa_0, Sa_1, Sa_2, Sa_3] : List (Nat)).getD k 0) (fun k => ([Sv_0, Sv_1] : List (Int32)).getD k 0) x1 
set_option maxHeartbeats 4000000 in
set_option maxRecDepth 100000 in
theorem ct_fX12_isRule (l : Launch) (D : va_G) (tc : Nat → ClassId) (sk : (Nat → Nat) × (Nat → Nat)) (Ma : Nat → Nat) (Mv : Nat → Int32) (Mj : Nat → Int64) (x1 : Int32)  : Ct l yX12_isRule cX12_isRule 2 (some .boolean) { frames := 0, cells := 0, slots := 0, locals := 0 } D tc sk [.ref (Ma 0), .int x1] [((Ma 0), .inr (12, [.ref (Ma 1), .int (Mv 0), .int (Mv 1), .ref (Ma 2), .ref (Ma 3), .ref (Ma 4), .ref (Ma 5), .ref (Ma 6), .int (Mv 2), .int (Mv 3), .int (Mv 4), .int (Mv 5), .int (Mv 6), .int (Mv 7), .int (Mv 8), .ref (Ma 7), .int (Mv 9), .ref (Ma 8), .int (Mv 10), .ref (Ma 9), .ref (Ma 10), .int (Mv 11), .int (Mv 12), .int (Mv 13), .ref (Ma 11), .int (Mv 14), .ref (Ma 12), .ref (Ma 13), .ref (Ma 14), .ref (Ma 15), .ref (Ma 16), .long (Mj 0), .ref (Ma 17), .ref (Ma 18), .ref (Ma 19), .ref (Ma 20)]))] (fun (v : Option Value) (_ : Unit) => ∃ r : Int32, v = some (.int r) ∧ (((r.toInt = 0 ∧ ¬ (0 ≤ x1.toInt ∧ x1.toInt < (Mv 1).toInt)) ∨ (r.toInt = 1 ∧ 0 ≤ x1.toInt ∧ x1.toInt < (Mv 1).toInt)))) (fun (_ : Unit) => [((Ma 0), .inr (12, [.ref (Ma 1), .int (Mv 0), .int (Mv 1), .ref (Ma 2), .ref (Ma 3), .ref (Ma 4), .ref (Ma 5), .ref (Ma 6), .int (Mv 2), .int (Mv 3), .int (Mv 4), .int (Mv 5), .int (Mv 6), .int (Mv 7), .int (Mv 8), .ref (Ma 7), .int (Mv 9), .ref (Ma 8), .int (Mv 10), .ref (Ma 9), .ref (Ma 10), .int (Mv 11), .int (Mv 12), .int (Mv 13), .ref (Ma 11), .int (Mv 14), .ref (Ma 12), .ref (Ma 13), .ref (Ma 14), .ref (Ma 15), .ref (Ma 16), .long (Mj 0), .ref (Ma 17), .ref (Ma 18), .ref (Ma 19), .ref (Ma 20)]))]) 0 0 := by
  refine Ct.start (by decide) (Nat.le_of_ble_eq_true rfl) (fun p e s m below meth c A ls hx hb hr hlk hin hml hown hts hK hX hP hD hA hl hS => ?_)
  have hl : lv_has ls 2 [(0, .ref (Ma 0)), (1, .int x1)] := hl
  refine lv_iload_n hx hb dX12_isRule_0 rfl (lv_at hl 1 rfl) ?_
  refine lv_if_lt (tgt := 16) hx hb dX12_isRule_1 (by decide) (fun c_1 => ?_) (fun c_1 => ?_)
  · skip
    refine lv_iconst (v := 0) hx hb dX12_isRule_16 (by decide) ?_
    have hp_2 : (((0 : Int32).toInt = 0 ∧ ¬ (0 ≤ x1.toInt ∧ x1.toInt < (Mv 1).toInt)) ∨ ((0 : Int32).toInt = 1 ∧ 0 ≤ x1.toInt ∧ x1.toInt < (Mv 1).toInt)) := by
      have z_1 := Int32.lt_iff_toInt_lt.mp c_1
      have y_0 : (0 : Int32).toInt = 0 := by decide
      omega
    exact retI (v := 0) hx hb hr hlk (rfl) hP hD hS () ⟨_, rfl, hp_2⟩ [0] rfl rfl dX12_isRule_17 (Nat.le_of_ble_eq_true rfl) (Nat.le_of_ble_eq_true rfl) rfl
  · skip
    refine lv_iload_n hx hb dX12_isRule_4 rfl (lv_at hl 1 rfl) ?_
    refine lv_aload_n hx hb dX12_isRule_5 rfl (lv_at hl 0 rfl) ?_
    refine gf_X12_256 hx hb hts hown hK hP 0 rfl rfl dX12_isRule_6 ?_
    refine lv_icmp_ge (tgt := 16) hx hb dX12_isRule_9 (by decide) (fun c_3 => ?_) (fun c_3 => ?_)
    · skip
      refine lv_iconst (v := 0) hx hb dX12_isRule_16 (by decide) ?_
      have hp_4 : (((0 : Int32).toInt = 0 ∧ ¬ (0 ≤ x1.toInt ∧ x1.toInt < (Mv 1).toInt)) ∨ ((0 : Int32).toInt = 1 ∧ 0 ≤ x1.toInt ∧ x1.toInt < (Mv 1).toInt)) := by
        have z_1 := Int32.le_iff_toInt_le.mp (Int32.not_lt.mp c_1)
        have z_2 := Int32.le_iff_toInt_le.mp c_3
        have y_0 : (0 : Int32).toInt = 0 := by decide
        omega
      exact retI (v := 0) hx hb hr hlk (rfl) hP hD hS () ⟨_, rfl, hp_4⟩ [0] rfl rfl dX12_isRule_17 (Nat.le_of_ble_eq_true rfl) (Nat.le_of_ble_eq_true rfl) rfl
    · skip
      refine lv_iconst (v := 1) hx hb dX12_isRule_12 (by decide) ?_
      refine lv_goto (tgt := 17) hx hb dX12_isRule_13 (by decide) ?_
      have hp_5 : (((1 : Int32).toInt = 0 ∧ ¬ (0 ≤ x1.toInt ∧ x1.toInt < (Mv 1).toInt)) ∨ ((1 : Int32).toInt = 1 ∧ 0 ≤ x1.toInt ∧ x1.toInt < (Mv 1).toInt)) := by
        have z_1 := Int32.le_iff_toInt_le.mp (Int32.not_lt.mp c_1)
        have z_2 := Int32.lt_iff_toInt_lt.mp (Int32.not_le.mp c_3)
        have y_0 : (0 : Int32).toInt = 0 := by decide
        have y_1 : (1 : Int32).toInt = 1 := by decide
        have yr : (1 : Int32).toInt = 1 := by decide
        omega
      exact retI (v := 1) hx hb hr hlk (rfl) hP hD hS () ⟨_, rfl, hp_5⟩ [0] rfl rfl dX12_isRule_17 (Nat.le_of_ble_eq_true rfl) (Nat.le_of_ble_eq_true rfl) rfl
set_option maxRecDepth 100000 in
theorem cu_fX12_isRule (l : Launch) (D : va_G) (tc : Nat → ClassId) (sk : (Nat → Nat) × (Nat → Nat)) (Ma_0 : Nat) (Ma_1 : Nat) (Ma_2 : Nat) (Ma_3 : Nat) (Ma_4 : Nat) (Ma_5 : Nat) (Ma_6 : Nat) (Ma_7 : Nat) (Ma_8 : Nat) (Ma_9 : Nat) (Ma_10 : Nat) (Ma_11 : Nat) (Ma_12 : Nat) (Ma_13 : Nat) (Ma_14 : Nat) (Ma_15 : Nat) (Ma_16 : Nat) (Ma_17 : Nat) (Ma_18 : Nat) (Ma_19 : Nat) (Ma_20 : Nat) (Mv_0 : Int32) (Mv_1 : Int32) (Mv_2 : Int32) (Mv_3 : Int32) (Mv_4 : Int32) (Mv_5 : Int32) (Mv_6 : Int32) (Mv_7 : Int32) (Mv_8 : Int32) (Mv_9 : Int32) (Mv_10 : Int32) (Mv_11 : Int32) (Mv_12 : Int32) (Mv_13 : Int32) (Mv_14 : Int32) (Mj_0 : Int64) (x1 : Int32)  : Ct l yX12_isRule cX12_isRule 2 (some .boolean) { frames := 0, cells := 0, slots := 0, locals := 0 } D tc sk [.ref Ma_0, .int x1] [(Ma_0, .inr (12, [.ref Ma_1, .int Mv_0, .int Mv_1, .ref Ma_2, .ref Ma_3, .ref Ma_4, .ref Ma_5, .ref Ma_6, .int Mv_2, .int Mv_3, .int Mv_4, .int Mv_5, .int Mv_6, .int Mv_7, .int Mv_8, .ref Ma_7, .int Mv_9, .ref Ma_8, .int Mv_10, .ref Ma_9, .ref Ma_10, .int Mv_11, .int Mv_12, .int Mv_13, .ref Ma_11, .int Mv_14, .ref Ma_12, .ref Ma_13, .ref Ma_14, .ref Ma_15, .ref Ma_16, .long Mj_0, .ref Ma_17, .ref Ma_18, .ref Ma_19, .ref Ma_20]))] (fun (v : Option Value) (_ : Unit) => ∃ r : Int32, v = some (.int r) ∧ (((r.toInt = 0 ∧ ¬ (0 ≤ x1.toInt ∧ x1.toInt < Mv_1.toInt)) ∨ (r.toInt = 1 ∧ 0 ≤ x1.toInt ∧ x1.toInt < Mv_1.toInt)))) (fun (_ : Unit) => [(Ma_0, .inr (12, [.ref Ma_1, .int Mv_0, .int Mv_1, .ref Ma_2, .ref Ma_3, .ref Ma_4, .ref Ma_5, .ref Ma_6, .int Mv_2, .int Mv_3, .int Mv_4, .int Mv_5, .int Mv_6, .int Mv_7, .int Mv_8, .ref Ma_7, .int Mv_9, .ref Ma_8, .int Mv_10, .ref Ma_9, .ref Ma_10, .int Mv_11, .int Mv_12, .int Mv_13, .ref Ma_11, .int Mv_14, .ref Ma_12, .ref Ma_13, .ref Ma_14, .ref Ma_15, .ref Ma_16, .long Mj_0, .ref Ma_17, .ref Ma_18, .ref Ma_19, .ref Ma_20]))]) 0 0 :=
  ct_fX12_isRule l D tc sk (fun k => ([Ma_0, Ma_1, Ma_2, Ma_3, Ma_4, Ma_5, Ma_6, Ma_7, Ma_8, Ma_9, Ma_10, Ma_11, Ma_12, Ma_13, Ma_14, Ma_15, Ma_16, Ma_17, Ma_18, Ma_19, Ma_20] : List (Nat)).getD k 0) (fun k => ([Mv_0, Mv_1, Mv_2, Mv_3, Mv_4, Mv_5, Mv_6, Mv_7, Mv_8, Mv_9, Mv_10, Mv_11, Mv_12, Mv_13, Mv_14] : List (Int32)).getD k 0) (fun k => ([Mj_0] : List (Int64)).getD k 0) x1 
set_option maxHeartbeats 4000000 in
set_option maxRecDepth 100000 in
theorem ct_fX12_force (l : Launch) (D : va_G) (tc : Nat → ClassId) (sk : (Nat → Nat) × (Nat → Nat)) (Ma : Nat → Nat) (Mv : Nat → Int32) (Mj : Nat → Int64) (x1 : Int32) (h_frc : -1 ≤ ((Mv 11) : Int32).toInt ∧ ((Mv 11) : Int32).toInt < ((Mv 1) : Int32).toInt ∧ ((Mv 1) : Int32).toInt ≤ 6) (h_r0 : 0 ≤ (Mv 1).toInt) : Ct l yX12_force cX12_force 3 (some .int) { frames := 1, cells := 0, slots := 0, locals := 21 } D tc sk [.ref (Ma 0), .int x1] [((Ma 0), .inr (12, [.ref (Ma 1), .int (Mv 0), .int (Mv 1), .ref (Ma 2), .ref (Ma 3), .ref (Ma 4), .ref (Ma 5), .ref (Ma 6), .int (Mv 2), .int (Mv 3), .int (Mv 4), .int (Mv 5), .int (Mv 6), .int (Mv 7), .int (Mv 8), .ref (Ma 7), .int (Mv 9), .ref (Ma 8), .int (Mv 10), .ref (Ma 9), .ref (Ma 10), .int (Mv 11), .int (Mv 12), .int (Mv 13), .ref (Ma 11), .int (Mv 14), .ref (Ma 12), .ref (Ma 13), .ref (Ma 14), .ref (Ma 15), .ref (Ma 16), .long (Mj 0), .ref (Ma 17), .ref (Ma 18), .ref (Ma 19), .ref (Ma 20)]))] (fun (v : Option Value) (oo0x1 : Int32) => ∃ r : Int32, v = some (.int r) ∧ (TFo x1 r (Mv 1) (Mv 11) oo0x1) ∧ (-1 ≤ (oo0x1 : Int32).toInt ∧ (oo0x1 : Int32).toInt < ((Mv 1) : Int32).toInt ∧ ((Mv 1) : Int32).toInt ≤ 6)) (fun (oo0x1 : Int32) => [((Ma 0), .inr (12, [.ref (Ma 1), .int (Mv 0), .int (Mv 1), .ref (Ma 2), .ref (Ma 3), .ref (Ma 4), .ref (Ma 5), .ref (Ma 6), .int (Mv 2), .int (Mv 3), .int (Mv 4), .int (Mv 5), .int (Mv 6), .int (Mv 7), .int (Mv 8), .ref (Ma 7), .int (Mv 9), .ref (Ma 8), .int (Mv 10), .ref (Ma 9), .ref (Ma 10), .int oo0x1, .int (Mv 12), .int (Mv 13), .ref (Ma 11), .int (Mv 14), .ref (Ma 12), .ref (Ma 13), .ref (Ma 14), .ref (Ma 15), .ref (Ma 16), .long (Mj 0), .ref (Ma 17), .ref (Ma 18), .ref (Ma 19), .ref (Ma 20)]))]) 0 0 := by
  refine Ct.start (by decide) (Nat.le_of_ble_eq_true rfl) (fun p e s m below meth c A ls hx hb hr hlk hin hml hown hts hK hX hP hD hA hl hS => ?_)
  have hl : lv_has ls 3 [(0, .ref (Ma 0)), (1, .int x1)] := hl
  refine lv_iload_n hx hb dX12_force_0 rfl (lv_at hl 1 rfl) ?_
  refine lv_iconst (v := (-1)) hx hb dX12_force_1 (by decide) ?_
  refine lv_icmp_eq (tgt := 16) hx hb dX12_force_2 (by decide) (fun c_1 => ?_) (fun c_1 => ?_)
  · skip
    refine lv_aload_n hx hb dX12_force_16 rfl (lv_at hl 0 rfl) ?_
    refine gf_X12_42 hx hb hts hown hK hP 0 rfl rfl dX12_force_17 ?_
    refine lv_istore_n (lv' := [(2, .int (Mv 11)), (0, .ref (Ma 0)), (1, .int x1)]) hx hb dX12_force_20 rfl hl (by decide) rfl (fun ls hl₀ => ?_)
    replace hl := hl₀
    clear hl₀
    refine lv_aload_n hx hb dX12_force_21 rfl (lv_at hl 1 rfl) ?_
    refine lv_iload_n hx hb dX12_force_22 rfl (lv_at hl 2 rfl) ?_
    refine pf_X12_42 hx hb hts hown hK hP hD hS 0 rfl (Nat.le_of_ble_eq_true rfl) rfl rfl dX12_force_23 (fun H locs hP₀ hD₀ hS₀ => ?_)
    replace hP : va_P D classes [((Ma 0), .inr (12, [.ref (Ma 1), .int (Mv 0), .int (Mv 1), .ref (Ma 2), .ref (Ma 3), .ref (Ma 4), .ref (Ma 5), .ref (Ma 6), .int (Mv 2), .int (Mv 3), .int (Mv 4), .int (Mv 5), .int (Mv 6), .int (Mv 7), .int (Mv 8), .ref (Ma 7), .int (Mv 9), .ref (Ma 8), .int (Mv 10), .ref (Ma 9), .ref (Ma 10), .int x1, .int (Mv 12), .int (Mv 13), .ref (Ma 11), .int (Mv 14), .ref (Ma 12), .ref (Ma 13), .ref (Ma 14), .ref (Ma 15), .ref (Ma 16), .long (Mj 0), .ref (Ma 17), .ref (Ma 18), .ref (Ma 19), .ref (Ma 20)]))] H := hP₀
    replace hD : va_D A [((Ma 0), .inr (12, [.ref (Ma 1), .int (Mv 0), .int (Mv 1), .ref (Ma 2), .ref (Ma 3), .ref (Ma 4), .ref (Ma 5), .ref (Ma 6), .int (Mv 2), .int (Mv 3), .int (Mv 4), .int (Mv 5), .int (Mv 6), .int (Mv 7), .int (Mv 8), .ref (Ma 7), .int (Mv 9), .ref (Ma 8), .int (Mv 10), .ref (Ma 9), .ref (Ma 10), .int x1, .int (Mv 12), .int (Mv 13), .ref (Ma 11), .int (Mv 14), .ref (Ma 12), .ref (Ma 13), .ref (Ma 14), .ref (Ma 15), .ref (Ma 16), .long (Mj 0), .ref (Ma 17), .ref (Ma 18), .ref (Ma 19), .ref (Ma 20)]))] := hD₀
    replace hS := hS₀
    clear hP₀ hD₀ hS₀
    refine lv_iload_n hx hb dX12_force_26 rfl (lv_at hl 0 rfl) ?_
    have ha_2 : -1 ≤ (x1 : Int32).toInt ∧ (x1 : Int32).toInt < ((Mv 1) : Int32).toInt ∧ ((Mv 1) : Int32).toInt ≤ 6 := by
      have z_1 := congrArg Int32.toInt c_1
      have y_m1 : (-1 : Int32).toInt = -1 := by decide
      omega
    have hr_3 : -1 ≤ x1.toInt ∧ x1.toInt < (Mv 1).toInt := by
      have z_1 := congrArg Int32.toInt c_1
      have y_m1 : (-1 : Int32).toInt = -1 := by decide
      omega
    exact retI (v := (Mv 11)) hx hb hr hlk (rfl) hP hD hS x1 ⟨_, rfl, (Or.inr ⟨hr_3, rfl, rfl⟩), ha_2⟩ [0] rfl rfl dX12_force_27 (Nat.le_of_ble_eq_true rfl) (Nat.le_of_ble_eq_true rfl) rfl
  · skip
    refine lv_aload_n hx hb dX12_force_5 rfl (lv_at hl 0 rfl) ?_
    refine lv_iload_n hx hb dX12_force_6 rfl (lv_at hl 1 rfl) ?_
    refine cV (a := (Ma 0)) (As := [.int x1]) (rest := []) (wr := []) ⟨hx, hb, hml, hown, hts⟩ hK hX hA (cu_fX12_isRule l D tc sk (Ma 0) (Ma 1) (Ma 2) (Ma 3) (Ma 4) (Ma 5) (Ma 6) (Ma 7) (Ma 8) (Ma 9) (Ma 10) (Ma 11) (Ma 12) (Ma 13) (Ma 14) (Ma 15) (Ma 16) (Ma 17) (Ma 18) (Ma 19) (Ma 20) (Mv 0) (Mv 1) (Mv 2) (Mv 3) (Mv 4) (Mv 5) (Mv 6) (Mv 7) (Mv 8) (Mv 9) (Mv 10) (Mv 11) (Mv 12) (Mv 13) (Mv 14) (Mj 0) x1) k_1367 k_1364 k_1366 k_57 k_106 pl_X12_isRule ⟨Nat.le_of_ble_eq_true rfl, Nat.le_of_ble_eq_true rfl⟩ rfl rfl (va_recv hK hP (ci := 12) (q0 := 0) rfl rfl) hP hD hS [0] [] rfl rfl rfl rfl rfl (by decide) rfl hl.1 rfl (Nat.le_of_ble_eq_true rfl) dX12_force_7 ⟨Nat.le_of_ble_eq_true rfl, Nat.le_of_ble_eq_true rfl⟩ (fun v_4 u_5 H locs hv_6 hP₀ hD₀ hS₀ => ?_)
    obtain ⟨r_7, rfl, he_8⟩ := hv_6
    have he_8 : ((r_7.toInt = 0 ∧ ¬ (0 ≤ x1.toInt ∧ x1.toInt < (Mv 1).toInt)) ∨ (r_7.toInt = 1 ∧ 0 ≤ x1.toInt ∧ x1.toInt < (Mv 1).toInt)) := he_8
    refine W.eq (g2 := F0 m 10 ls [.int r_7]) rfl ?_
    replace hP : va_P D classes [((Ma 0), .inr (12, [.ref (Ma 1), .int (Mv 0), .int (Mv 1), .ref (Ma 2), .ref (Ma 3), .ref (Ma 4), .ref (Ma 5), .ref (Ma 6), .int (Mv 2), .int (Mv 3), .int (Mv 4), .int (Mv 5), .int (Mv 6), .int (Mv 7), .int (Mv 8), .ref (Ma 7), .int (Mv 9), .ref (Ma 8), .int (Mv 10), .ref (Ma 9), .ref (Ma 10), .int (Mv 11), .int (Mv 12), .int (Mv 13), .ref (Ma 11), .int (Mv 14), .ref (Ma 12), .ref (Ma 13), .ref (Ma 14), .ref (Ma 15), .ref (Ma 16), .long (Mj 0), .ref (Ma 17), .ref (Ma 18), .ref (Ma 19), .ref (Ma 20)]))] H := hP₀
    replace hD : va_D A [((Ma 0), .inr (12, [.ref (Ma 1), .int (Mv 0), .int (Mv 1), .ref (Ma 2), .ref (Ma 3), .ref (Ma 4), .ref (Ma 5), .ref (Ma 6), .int (Mv 2), .int (Mv 3), .int (Mv 4), .int (Mv 5), .int (Mv 6), .int (Mv 7), .int (Mv 8), .ref (Ma 7), .int (Mv 9), .ref (Ma 8), .int (Mv 10), .ref (Ma 9), .ref (Ma 10), .int (Mv 11), .int (Mv 12), .int (Mv 13), .ref (Ma 11), .int (Mv 14), .ref (Ma 12), .ref (Ma 13), .ref (Ma 14), .ref (Ma 15), .ref (Ma 16), .long (Mj 0), .ref (Ma 17), .ref (Ma 18), .ref (Ma 19), .ref (Ma 20)]))] := hD₀
    replace hS := hS₀
    clear hP₀ hD₀ hS₀
    refine lv_if_ne (tgt := 16) hx hb dX12_force_10 (by decide) (fun c_10 => ?_) (fun c_10 => ?_)
    · skip
      refine lv_aload_n hx hb dX12_force_16 rfl (lv_at hl 0 rfl) ?_
      refine gf_X12_42 hx hb hts hown hK hP 0 rfl rfl dX12_force_17 ?_
      refine lv_istore_n (lv' := [(2, .int (Mv 11)), (0, .ref (Ma 0)), (1, .int x1)]) hx hb dX12_force_20 rfl hl (by decide) rfl (fun ls hl₀ => ?_)
      replace hl := hl₀
      clear hl₀
      refine lv_aload_n hx hb dX12_force_21 rfl (lv_at hl 1 rfl) ?_
      refine lv_iload_n hx hb dX12_force_22 rfl (lv_at hl 2 rfl) ?_
      refine pf_X12_42 hx hb hts hown hK hP hD hS 0 rfl (Nat.le_of_ble_eq_true rfl) rfl rfl dX12_force_23 (fun H locs hP₀ hD₀ hS₀ => ?_)
      replace hP : va_P D classes [((Ma 0), .inr (12, [.ref (Ma 1), .int (Mv 0), .int (Mv 1), .ref (Ma 2), .ref (Ma 3), .ref (Ma 4), .ref (Ma 5), .ref (Ma 6), .int (Mv 2), .int (Mv 3), .int (Mv 4), .int (Mv 5), .int (Mv 6), .int (Mv 7), .int (Mv 8), .ref (Ma 7), .int (Mv 9), .ref (Ma 8), .int (Mv 10), .ref (Ma 9), .ref (Ma 10), .int x1, .int (Mv 12), .int (Mv 13), .ref (Ma 11), .int (Mv 14), .ref (Ma 12), .ref (Ma 13), .ref (Ma 14), .ref (Ma 15), .ref (Ma 16), .long (Mj 0), .ref (Ma 17), .ref (Ma 18), .ref (Ma 19), .ref (Ma 20)]))] H := hP₀
      replace hD : va_D A [((Ma 0), .inr (12, [.ref (Ma 1), .int (Mv 0), .int (Mv 1), .ref (Ma 2), .ref (Ma 3), .ref (Ma 4), .ref (Ma 5), .ref (Ma 6), .int (Mv 2), .int (Mv 3), .int (Mv 4), .int (Mv 5), .int (Mv 6), .int (Mv 7), .int (Mv 8), .ref (Ma 7), .int (Mv 9), .ref (Ma 8), .int (Mv 10), .ref (Ma 9), .ref (Ma 10), .int x1, .int (Mv 12), .int (Mv 13), .ref (Ma 11), .int (Mv 14), .ref (Ma 12), .ref (Ma 13), .ref (Ma 14), .ref (Ma 15), .ref (Ma 16), .long (Mj 0), .ref (Ma 17), .ref (Ma 18), .ref (Ma 19), .ref (Ma 20)]))] := hD₀
      replace hS := hS₀
      clear hP₀ hD₀ hS₀
      refine lv_iload_n hx hb dX12_force_26 rfl (lv_at hl 0 rfl) ?_
      have ha_11 : -1 ≤ (x1 : Int32).toInt ∧ (x1 : Int32).toInt < ((Mv 1) : Int32).toInt ∧ ((Mv 1) : Int32).toInt ≤ 6 := by
        have z_1 : ¬ (x1 : Int32).toInt = ((-1) : Int32).toInt := fun z => c_1 (Int32.toInt_inj.mp z)
        have z_2 : ¬ (r_7 : Int32).toInt = (0 : Int32).toInt := fun z => c_10 (Int32.toInt_inj.mp z)
        have y_m1 : (-1 : Int32).toInt = -1 := by decide
        have y_0 : (0 : Int32).toInt = 0 := by decide
        omega
      have hr_12 : -1 ≤ x1.toInt ∧ x1.toInt < (Mv 1).toInt := by
        have z_1 : ¬ (x1 : Int32).toInt = ((-1) : Int32).toInt := fun z => c_1 (Int32.toInt_inj.mp z)
        have z_2 : ¬ (r_7 : Int32).toInt = (0 : Int32).toInt := fun z => c_10 (Int32.toInt_inj.mp z)
        have y_m1 : (-1 : Int32).toInt = -1 := by decide
        have y_0 : (0 : Int32).toInt = 0 := by decide
        omega
      exact retI (v := (Mv 11)) hx hb hr hlk (rfl) hP hD hS x1 ⟨_, rfl, (Or.inr ⟨hr_12, rfl, rfl⟩), ha_11⟩ [0] rfl rfl dX12_force_27 (Nat.le_of_ble_eq_true rfl) (Nat.le_of_ble_eq_true rfl) rfl
    · skip
      refine lv_bipush (v := (-2)) hx hb dX12_force_13 (by decide) ?_
      have hr_13 : x1.toInt < -1 ∨ (Mv 1).toInt ≤ x1.toInt := by
        have z_1 : ¬ (x1 : Int32).toInt = ((-1) : Int32).toInt := fun z => c_1 (Int32.toInt_inj.mp z)
        have z_2 := congrArg Int32.toInt c_10
        have y_m1 : (-1 : Int32).toInt = -1 := by decide
        have y_0 : (0 : Int32).toInt = 0 := by decide
        omega
      have hr_14 : ((-2) : Int32).toInt = -2 := by
        have z_1 : ¬ (x1 : Int32).toInt = ((-1) : Int32).toInt := fun z => c_1 (Int32.toInt_inj.mp z)
        have z_2 := congrArg Int32.toInt c_10
        have y_m1 : (-1 : Int32).toInt = -1 := by decide
        have y_0 : (0 : Int32).toInt = 0 := by decide
        have y_m2 : (-2 : Int32).toInt = -2 := by decide
        omega
      exact retI (v := (-2)) hx hb hr hlk (rfl) hP hD hS (Mv 11) ⟨_, rfl, (Or.inl ⟨hr_13, hr_14, rfl⟩), h_frc⟩ [0] rfl rfl dX12_force_15 (Nat.le_of_ble_eq_true rfl) (Nat.le_of_ble_eq_true rfl) rfl
set_option maxRecDepth 100000 in
theorem cu_fX12_force (l : Launch) (D : va_G) (tc : Nat → ClassId) (sk : (Nat → Nat) × (Nat → Nat)) (Ma_0 : Nat) (Ma_1 : Nat) (Ma_2 : Nat) (Ma_3 : Nat) (Ma_4 : Nat) (Ma_5 : Nat) (Ma_6 : Nat) (Ma_7 : Nat) (Ma_8 : Nat) (Ma_9 : Nat) (Ma_10 : Nat) (Ma_11 : Nat) (Ma_12 : Nat) (Ma_13 : Nat) (Ma_14 : Nat) (Ma_15 : Nat) (Ma_16 : Nat) (Ma_17 : Nat) (Ma_18 : Nat) (Ma_19 : Nat) (Ma_20 : Nat) (Mv_0 : Int32) (Mv_1 : Int32) (Mv_2 : Int32) (Mv_3 : Int32) (Mv_4 : Int32) (Mv_5 : Int32) (Mv_6 : Int32) (Mv_7 : Int32) (Mv_8 : Int32) (Mv_9 : Int32) (Mv_10 : Int32) (Mv_11 : Int32) (Mv_12 : Int32) (Mv_13 : Int32) (Mv_14 : Int32) (Mj_0 : Int64) (x1 : Int32) (h_frc : -1 ≤ (Mv_11 : Int32).toInt ∧ (Mv_11 : Int32).toInt < (Mv_1 : Int32).toInt ∧ (Mv_1 : Int32).toInt ≤ 6) (h_r0 : 0 ≤ Mv_1.toInt) : Ct l yX12_force cX12_force 3 (some .int) { frames := 1, cells := 0, slots := 0, locals := 21 } D tc sk [.ref Ma_0, .int x1] [(Ma_0, .inr (12, [.ref Ma_1, .int Mv_0, .int Mv_1, .ref Ma_2, .ref Ma_3, .ref Ma_4, .ref Ma_5, .ref Ma_6, .int Mv_2, .int Mv_3, .int Mv_4, .int Mv_5, .int Mv_6, .int Mv_7, .int Mv_8, .ref Ma_7, .int Mv_9, .ref Ma_8, .int Mv_10, .ref Ma_9, .ref Ma_10, .int Mv_11, .int Mv_12, .int Mv_13, .ref Ma_11, .int Mv_14, .ref Ma_12, .ref Ma_13, .ref Ma_14, .ref Ma_15, .ref Ma_16, .long Mj_0, .ref Ma_17, .ref Ma_18, .ref Ma_19, .ref Ma_20]))] (fun (v : Option Value) (oo0x1 : Int32) => ∃ r : Int32, v = some (.int r) ∧ (TFo x1 r Mv_1 Mv_11 oo0x1) ∧ (-1 ≤ (oo0x1 : Int32).toInt ∧ (oo0x1 : Int32).toInt < (Mv_1 : Int32).toInt ∧ (Mv_1 : Int32).toInt ≤ 6)) (fun (oo0x1 : Int32) => [(Ma_0, .inr (12, [.ref Ma_1, .int Mv_0, .int Mv_1, .ref Ma_2, .ref Ma_3, .ref Ma_4, .ref Ma_5, .ref Ma_6, .int Mv_2, .int Mv_3, .int Mv_4, .int Mv_5, .int Mv_6, .int Mv_7, .int Mv_8, .ref Ma_7, .int Mv_9, .ref Ma_8, .int Mv_10, .ref Ma_9, .ref Ma_10, .int oo0x1, .int Mv_12, .int Mv_13, .ref Ma_11, .int Mv_14, .ref Ma_12, .ref Ma_13, .ref Ma_14, .ref Ma_15, .ref Ma_16, .long Mj_0, .ref Ma_17, .ref Ma_18, .ref Ma_19, .ref Ma_20]))]) 0 0 :=
  ct_fX12_force l D tc sk (fun k => ([Ma_0, Ma_1, Ma_2, Ma_3, Ma_4, Ma_5, Ma_6, Ma_7, Ma_8, Ma_9, Ma_10, Ma_11, Ma_12, Ma_13, Ma_14, Ma_15, Ma_16, Ma_17, Ma_18, Ma_19, Ma_20] : List (Nat)).getD k 0) (fun k => ([Mv_0, Mv_1, Mv_2, Mv_3, Mv_4, Mv_5, Mv_6, Mv_7, Mv_8, Mv_9, Mv_10, Mv_11, Mv_12, Mv_13, Mv_14] : List (Int32)).getD k 0) (fun k => ([Mj_0] : List (Int64)).getD k 0) x1 h_frc h_r0
set_option maxHeartbeats 4000000 in
set_option maxRecDepth 100000 in
theorem ct_fX12_image_i (l : Launch) (D : va_G) (tc : Nat → ClassId) (sk : (Nat → Nat) × (Nat → Nat)) (Ma : Nat → Nat) (Mv : Nat → Int32) (Mf : Nat → Nat → Int32) (Mj : Nat → Int64) (x1 : Int32) (h_k : 0 ≤ x1.toInt ∧ x1.toInt ≤ 3) (h_said : SaidD (Mf 10) 999) (h_img : ImgD (Mf 17)) (h_frd : FrcD (Mf 18) (Mf 20) (Mv 1)) (h_frc : -1 ≤ (Mv 11).toInt ∧ (Mv 11).toInt < (Mv 1).toInt ∧ (Mv 1).toInt ≤ 6) : Ct l yX12_image cX12_image 3 (some .int) { frames := 1, cells := 0, slots := 0, locals := 25 } D tc sk [.ref (Ma 0), .int x1] [((Ma 0), .inr (12, [.ref (Ma 1), .int (Mv 0), .int (Mv 1), .ref (Ma 2), .ref (Ma 3), .ref (Ma 4), .ref (Ma 5), .ref (Ma 6), .int (Mv 2), .int (Mv 3), .int (Mv 4), .int (Mv 5), .int (Mv 6), .int (Mv 7), .int (Mv 8), .ref (Ma 7), .int (Mv 9), .ref (Ma 8), .int (Mv 10), .ref (Ma 9), .ref (Ma 10), .int (Mv 11), .int (Mv 12), .int (Mv 13), .ref (Ma 11), .int (Mv 14), .ref (Ma 12), .ref (Ma 13), .ref (Ma 14), .ref (Ma 15), .ref (Ma 16), .long (Mj 0), .ref (Ma 17), .ref (Ma 18), .ref (Ma 19), .ref (Ma 20)])), ((Ma 10), .inl (tc 0, 126, .inl (Mf 10))), ((Ma 17), .inl (tc 0, 504, .inl (Mf 17))), ((Ma 18), .inl (tc 0, 4, .inl (Mf 18))), ((Ma 19), .inl (tc 0, 4, .inl (Mf 19))), ((Ma 20), .inl (tc 3, 4, .inl (Mf 20)))] (fun (v : Option Value) (oo0x1 : Nat → Int32) => ∃ r : Int32, v = some (.int r) ∧ (True) ∧ (ImgD oo0x1) ∧ (FrcD (upd (Mf 18) (x1 : Int32).toNatClampNeg (Mv 11)) (upd (Mf 20) (x1 : Int32).toNatClampNeg 1) (Mv 1))) (fun (oo0x1 : Nat → Int32) => [((Ma 0), .inr (12, [.ref (Ma 1), .int (Mv 0), .int (Mv 1), .ref (Ma 2), .ref (Ma 3), .ref (Ma 4), .ref (Ma 5), .ref (Ma 6), .int (Mv 2), .int (Mv 3), .int (Mv 4), .int (Mv 5), .int (Mv 6), .int (Mv 7), .int (Mv 8), .ref (Ma 7), .int (Mv 9), .ref (Ma 8), .int (Mv 10), .ref (Ma 9), .ref (Ma 10), .int (Mv 11), .int (Mv 12), .int (Mv 13), .ref (Ma 11), .int (Mv 14), .ref (Ma 12), .ref (Ma 13), .ref (Ma 14), .ref (Ma 15), .ref (Ma 16), .long (Mj 0), .ref (Ma 17), .ref (Ma 18), .ref (Ma 19), .ref (Ma 20)])), ((Ma 10), .inl (tc 0, 126, .inl (Mf 10))), ((Ma 17), .inl (tc 0, 504, .inl oo0x1)), ((Ma 18), .inl (tc 0, 4, .inl (upd (Mf 18) (x1 : Int32).toNatClampNeg (Mv 11)))), ((Ma 19), .inl (tc 0, 4, .inl (upd (Mf 19) (x1 : Int32).toNatClampNeg (Mv 12)))), ((Ma 20), .inl (tc 3, 4, .inl (upd (Mf 20) (x1 : Int32).toNatClampNeg 1)))]) 0 0 := by
  refine Ct.start (by decide) (Nat.le_of_ble_eq_true rfl) (fun p e s m below meth c A ls hx hb hr hlk hin hml hown hts hK hX hP hD hA hl hS => ?_)
  have hl : lv_has ls 3 [(0, .ref (Ma 0)), (1, .int x1)] := hl
  have ar_h_said := SaidD.al h_said
  refine lv_iload_n hx hb dX12_image_0 rfl (lv_at hl 1 rfl) ?_
  refine lv_i2l (v := (x1).toInt64) hx hb dX12_image_1 rfl ?_
  refine lv_lconst (v := 0) hx hb dX12_image_2 (by decide) ?_
  refine lv_ldc2 hx hb hown (hts _ k_1651) dX12_image_3 ?_
  refine cS (As := [.long (x1).toInt64, .long 0, .long 3]) (rest := []) (wr := [((Ma 0), .inr (12, [.ref (Ma 1), .int (Mv 0), .int (Mv 1), .ref (Ma 2), .ref (Ma 3), .ref (Ma 4), .ref (Ma 5), .ref (Ma 6), .int (Mv 2), .int (Mv 3), .int (Mv 4), .int (Mv 5), .int (Mv 6), .int (Mv 7), .int (Mv 8), .ref (Ma 7), .int (Mv 9), .ref (Ma 8), .int (Mv 10), .ref (Ma 9), .ref (Ma 10), .int (Mv 11), .int (Mv 12), .int (Mv 13), .ref (Ma 11), .int (Mv 14), .ref (Ma 12), .ref (Ma 13), .ref (Ma 14), .ref (Ma 15), .ref (Ma 16), .long (Mj 0), .ref (Ma 17), .ref (Ma 18), .ref (Ma 19), .ref (Ma 20)])), ((Ma 10), .inl (tc 0, 126, .inl (Mf 10))), ((Ma 17), .inl (tc 0, 504, .inl (Mf 17))), ((Ma 18), .inl (tc 0, 4, .inl (Mf 18))), ((Ma 19), .inl (tc 0, 4, .inl (Mf 19))), ((Ma 20), .inl (tc 3, 4, .inl (Mf 20)))]) ⟨hx, hb, hml, hown, hts⟩ hK hX hA (ct_X12_in2 l D tc sk ((x1).toInt64) 0 3) k_1259 k_1257 k_1258 k_106 pl_X12_in ⟨Nat.le_of_ble_eq_true rfl, Nat.le_of_ble_eq_true rfl⟩ rfl rfl  hP hD hS [] [0, 1, 2, 3, 4, 5] rfl rfl rfl rfl rfl (by decide) rfl hl.1 rfl (Nat.le_of_ble_eq_true rfl) dX12_image_6 ⟨Nat.le_of_ble_eq_true rfl, Nat.le_of_ble_eq_true rfl⟩ (fun v_1 u_2 H locs hv_3 hP₀ hD₀ hS₀ => ?_)
  obtain ⟨r_4, rfl, he_5⟩ := hv_3
  have he_5 : ((r_4.toInt = 0 ∧ ((x1).toInt64.toInt < (0 : Int64).toInt ∨ (3 : Int64).toInt < (x1).toInt64.toInt)) ∨ (r_4.toInt = 1 ∧ (0 : Int64).toInt ≤ (x1).toInt64.toInt ∧ (x1).toInt64.toInt ≤ (3 : Int64).toInt)) := he_5
  refine W.eq (g2 := F0 m 9 ls [.int r_4]) rfl ?_
  replace hP : va_P D classes [((Ma 0), .inr (12, [.ref (Ma 1), .int (Mv 0), .int (Mv 1), .ref (Ma 2), .ref (Ma 3), .ref (Ma 4), .ref (Ma 5), .ref (Ma 6), .int (Mv 2), .int (Mv 3), .int (Mv 4), .int (Mv 5), .int (Mv 6), .int (Mv 7), .int (Mv 8), .ref (Ma 7), .int (Mv 9), .ref (Ma 8), .int (Mv 10), .ref (Ma 9), .ref (Ma 10), .int (Mv 11), .int (Mv 12), .int (Mv 13), .ref (Ma 11), .int (Mv 14), .ref (Ma 12), .ref (Ma 13), .ref (Ma 14), .ref (Ma 15), .ref (Ma 16), .long (Mj 0), .ref (Ma 17), .ref (Ma 18), .ref (Ma 19), .ref (Ma 20)])), ((Ma 10), .inl (tc 0, 126, .inl (Mf 10))), ((Ma 17), .inl (tc 0, 504, .inl (Mf 17))), ((Ma 18), .inl (tc 0, 4, .inl (Mf 18))), ((Ma 19), .inl (tc 0, 4, .inl (Mf 19))), ((Ma 20), .inl (tc 3, 4, .inl (Mf 20)))] H := hP₀
  replace hD : va_D A [((Ma 0), .inr (12, [.ref (Ma 1), .int (Mv 0), .int (Mv 1), .ref (Ma 2), .ref (Ma 3), .ref (Ma 4), .ref (Ma 5), .ref (Ma 6), .int (Mv 2), .int (Mv 3), .int (Mv 4), .int (Mv 5), .int (Mv 6), .int (Mv 7), .int (Mv 8), .ref (Ma 7), .int (Mv 9), .ref (Ma 8), .int (Mv 10), .ref (Ma 9), .ref (Ma 10), .int (Mv 11), .int (Mv 12), .int (Mv 13), .ref (Ma 11), .int (Mv 14), .ref (Ma 12), .ref (Ma 13), .ref (Ma 14), .ref (Ma 15), .ref (Ma 16), .long (Mj 0), .ref (Ma 17), .ref (Ma 18), .ref (Ma 19), .ref (Ma 20)])), ((Ma 10), .inl (tc 0, 126, .inl (Mf 10))), ((Ma 17), .inl (tc 0, 504, .inl (Mf 17))), ((Ma 18), .inl (tc 0, 4, .inl (Mf 18))), ((Ma 19), .inl (tc 0, 4, .inl (Mf 19))), ((Ma 20), .inl (tc 3, 4, .inl (Mf 20)))] := hD₀
  replace hS := hS₀
  clear hP₀ hD₀ hS₀
  have yl_he_5_0 : (0 : Int64).toInt = 0 := by decide
  have yl_he_5_3 : (3 : Int64).toInt = 3 := by decide
  simp only [i32_64] at he_5
  refine lv_if_ne (tgt := 14) hx hb dX12_image_9 (by decide) (fun c_7 => ?_) (fun c_7 => ?_)
  · skip
    refine lv_aload_n hx hb dX12_image_14 rfl (lv_at hl 0 rfl) ?_
    refine gf_X12_74 hx hb hts hown hK hP 0 rfl rfl dX12_image_15 ?_
    refine lv_iload_n hx hb dX12_image_18 rfl (lv_at hl 1 rfl) ?_
    refine lv_iconst (v := 1) hx hb dX12_image_19 (by decide) ?_
    have hi_8 : vp_in x1 4 := by
      have z_1 : ¬ (r_4 : Int32).toInt = (0 : Int32).toInt := fun z => c_7 (Int32.toInt_inj.mp z)
      have y_0 : (0 : Int32).toInt = 0 := by decide
      refine vp_in_iff.mpr ⟨?_, ?_⟩ <;> omega
    refine st_bool hx hb hK hP hD hS 5 3 rfl rfl hi_8 dX12_image_20 (fun g_9 H locs eg_9 hP₀ hD₀ hS₀ => ?_)
    replace hP : va_P D classes [((Ma 0), .inr (12, [.ref (Ma 1), .int (Mv 0), .int (Mv 1), .ref (Ma 2), .ref (Ma 3), .ref (Ma 4), .ref (Ma 5), .ref (Ma 6), .int (Mv 2), .int (Mv 3), .int (Mv 4), .int (Mv 5), .int (Mv 6), .int (Mv 7), .int (Mv 8), .ref (Ma 7), .int (Mv 9), .ref (Ma 8), .int (Mv 10), .ref (Ma 9), .ref (Ma 10), .int (Mv 11), .int (Mv 12), .int (Mv 13), .ref (Ma 11), .int (Mv 14), .ref (Ma 12), .ref (Ma 13), .ref (Ma 14), .ref (Ma 15), .ref (Ma 16), .long (Mj 0), .ref (Ma 17), .ref (Ma 18), .ref (Ma 19), .ref (Ma 20)])), ((Ma 10), .inl (tc 0, 126, .inl (Mf 10))), ((Ma 17), .inl (tc 0, 504, .inl (Mf 17))), ((Ma 18), .inl (tc 0, 4, .inl (Mf 18))), ((Ma 19), .inl (tc 0, 4, .inl (Mf 19))), ((Ma 20), .inl (tc 3, 4, .inl g_9))] H := hP₀
    replace hD : va_D A [((Ma 0), .inr (12, [.ref (Ma 1), .int (Mv 0), .int (Mv 1), .ref (Ma 2), .ref (Ma 3), .ref (Ma 4), .ref (Ma 5), .ref (Ma 6), .int (Mv 2), .int (Mv 3), .int (Mv 4), .int (Mv 5), .int (Mv 6), .int (Mv 7), .int (Mv 8), .ref (Ma 7), .int (Mv 9), .ref (Ma 8), .int (Mv 10), .ref (Ma 9), .ref (Ma 10), .int (Mv 11), .int (Mv 12), .int (Mv 13), .ref (Ma 11), .int (Mv 14), .ref (Ma 12), .ref (Ma 13), .ref (Ma 14), .ref (Ma 15), .ref (Ma 16), .long (Mj 0), .ref (Ma 17), .ref (Ma 18), .ref (Ma 19), .ref (Ma 20)])), ((Ma 10), .inl (tc 0, 126, .inl (Mf 10))), ((Ma 17), .inl (tc 0, 504, .inl (Mf 17))), ((Ma 18), .inl (tc 0, 4, .inl (Mf 18))), ((Ma 19), .inl (tc 0, 4, .inl (Mf 19))), ((Ma 20), .inl (tc 3, 4, .inl g_9))] := hD₀
    replace hS := hS₀
    clear hP₀ hD₀ hS₀
    have eg_9 : g_9 = upd (Mf 20) (x1 : Int32).toNatClampNeg 1 := eg_9
    subst eg_9
    replace hP : va_P D classes [((Ma 0), .inr (12, [.ref (Ma 1), .int (Mv 0), .int (Mv 1), .ref (Ma 2), .ref (Ma 3), .ref (Ma 4), .ref (Ma 5), .ref (Ma 6), .int (Mv 2), .int (Mv 3), .int (Mv 4), .int (Mv 5), .int (Mv 6), .int (Mv 7), .int (Mv 8), .ref (Ma 7), .int (Mv 9), .ref (Ma 8), .int (Mv 10), .ref (Ma 9), .ref (Ma 10), .int (Mv 11), .int (Mv 12), .int (Mv 13), .ref (Ma 11), .int (Mv 14), .ref (Ma 12), .ref (Ma 13), .ref (Ma 14), .ref (Ma 15), .ref (Ma 16), .long (Mj 0), .ref (Ma 17), .ref (Ma 18), .ref (Ma 19), .ref (Ma 20)])), ((Ma 10), .inl (tc 0, 126, .inl (Mf 10))), ((Ma 17), .inl (tc 0, 504, .inl (Mf 17))), ((Ma 18), .inl (tc 0, 4, .inl (Mf 18))), ((Ma 19), .inl (tc 0, 4, .inl (Mf 19))), ((Ma 20), .inl (tc 3, 4, .inl (upd (Mf 20) (x1 : Int32).toNatClampNeg 1)))] H := hP
    replace hD : va_D A [((Ma 0), .inr (12, [.ref (Ma 1), .int (Mv 0), .int (Mv 1), .ref (Ma 2), .ref (Ma 3), .ref (Ma 4), .ref (Ma 5), .ref (Ma 6), .int (Mv 2), .int (Mv 3), .int (Mv 4), .int (Mv 5), .int (Mv 6), .int (Mv 7), .int (Mv 8), .ref (Ma 7), .int (Mv 9), .ref (Ma 8), .int (Mv 10), .ref (Ma 9), .ref (Ma 10), .int (Mv 11), .int (Mv 12), .int (Mv 13), .ref (Ma 11), .int (Mv 14), .ref (Ma 12), .ref (Ma 13), .ref (Ma 14), .ref (Ma 15), .ref (Ma 16), .long (Mj 0), .ref (Ma 17), .ref (Ma 18), .ref (Ma 19), .ref (Ma 20)])), ((Ma 10), .inl (tc 0, 126, .inl (Mf 10))), ((Ma 17), .inl (tc 0, 504, .inl (Mf 17))), ((Ma 18), .inl (tc 0, 4, .inl (Mf 18))), ((Ma 19), .inl (tc 0, 4, .inl (Mf 19))), ((Ma 20), .inl (tc 3, 4, .inl (upd (Mf 20) (x1 : Int32).toNatClampNeg 1)))] := hD
    refine lv_aload_n hx hb dX12_image_21 rfl (lv_at hl 0 rfl) ?_
    refine gf_X12_68 hx hb hts hown hK hP 0 rfl rfl dX12_image_22 ?_
    refine lv_iload_n hx hb dX12_image_25 rfl (lv_at hl 1 rfl) ?_
    refine lv_aload_n hx hb dX12_image_26 rfl (lv_at hl 0 rfl) ?_
    refine gf_X12_42 hx hb hts hown hK hP 0 rfl rfl dX12_image_27 ?_
    have hi_10 : vp_in x1 4 := by
      have z_1 : ¬ (r_4 : Int32).toInt = (0 : Int32).toInt := fun z => c_7 (Int32.toInt_inj.mp z)
      have y_0 : (0 : Int32).toInt = 0 := by decide
      refine vp_in_iff.mpr ⟨?_, ?_⟩ <;> omega
    refine st_int hx hb hK hP hD hS 3 0 rfl rfl hi_10 dX12_image_30 (fun g_11 H locs eg_11 hP₀ hD₀ hS₀ => ?_)
    replace hP : va_P D classes [((Ma 0), .inr (12, [.ref (Ma 1), .int (Mv 0), .int (Mv 1), .ref (Ma 2), .ref (Ma 3), .ref (Ma 4), .ref (Ma 5), .ref (Ma 6), .int (Mv 2), .int (Mv 3), .int (Mv 4), .int (Mv 5), .int (Mv 6), .int (Mv 7), .int (Mv 8), .ref (Ma 7), .int (Mv 9), .ref (Ma 8), .int (Mv 10), .ref (Ma 9), .ref (Ma 10), .int (Mv 11), .int (Mv 12), .int (Mv 13), .ref (Ma 11), .int (Mv 14), .ref (Ma 12), .ref (Ma 13), .ref (Ma 14), .ref (Ma 15), .ref (Ma 16), .long (Mj 0), .ref (Ma 17), .ref (Ma 18), .ref (Ma 19), .ref (Ma 20)])), ((Ma 10), .inl (tc 0, 126, .inl (Mf 10))), ((Ma 17), .inl (tc 0, 504, .inl (Mf 17))), ((Ma 18), .inl (tc 0, 4, .inl g_11)), ((Ma 19), .inl (tc 0, 4, .inl (Mf 19))), ((Ma 20), .inl (tc 3, 4, .inl (upd (Mf 20) (x1 : Int32).toNatClampNeg 1)))] H := hP₀
    replace hD : va_D A [((Ma 0), .inr (12, [.ref (Ma 1), .int (Mv 0), .int (Mv 1), .ref (Ma 2), .ref (Ma 3), .ref (Ma 4), .ref (Ma 5), .ref (Ma 6), .int (Mv 2), .int (Mv 3), .int (Mv 4), .int (Mv 5), .int (Mv 6), .int (Mv 7), .int (Mv 8), .ref (Ma 7), .int (Mv 9), .ref (Ma 8), .int (Mv 10), .ref (Ma 9), .ref (Ma 10), .int (Mv 11), .int (Mv 12), .int (Mv 13), .ref (Ma 11), .int (Mv 14), .ref (Ma 12), .ref (Ma 13), .ref (Ma 14), .ref (Ma 15), .ref (Ma 16), .long (Mj 0), .ref (Ma 17), .ref (Ma 18), .ref (Ma 19), .ref (Ma 20)])), ((Ma 10), .inl (tc 0, 126, .inl (Mf 10))), ((Ma 17), .inl (tc 0, 504, .inl (Mf 17))), ((Ma 18), .inl (tc 0, 4, .inl g_11)), ((Ma 19), .inl (tc 0, 4, .inl (Mf 19))), ((Ma 20), .inl (tc 3, 4, .inl (upd (Mf 20) (x1 : Int32).toNatClampNeg 1)))] := hD₀
    replace hS := hS₀
    clear hP₀ hD₀ hS₀
    have hr_13 : -1 ≤ ((Mv 11) : Int32).toInt ∧ ((Mv 11) : Int32).toInt < (Mv 1).toInt := by
      have z_1 : ¬ (r_4 : Int32).toInt = (0 : Int32).toInt := fun z => c_7 (Int32.toInt_inj.mp z)
      have y_0 : (0 : Int32).toInt = 0 := by decide
      omega
    have pf_12 : FrcD g_11 (upd (Mf 20) (x1 : Int32).toNatClampNeg 1) (Mv 1) := FrcD.put h_frd rfl eg_11 hr_13
    subst eg_11
    replace hP : va_P D classes [((Ma 0), .inr (12, [.ref (Ma 1), .int (Mv 0), .int (Mv 1), .ref (Ma 2), .ref (Ma 3), .ref (Ma 4), .ref (Ma 5), .ref (Ma 6), .int (Mv 2), .int (Mv 3), .int (Mv 4), .int (Mv 5), .int (Mv 6), .int (Mv 7), .int (Mv 8), .ref (Ma 7), .int (Mv 9), .ref (Ma 8), .int (Mv 10), .ref (Ma 9), .ref (Ma 10), .int (Mv 11), .int (Mv 12), .int (Mv 13), .ref (Ma 11), .int (Mv 14), .ref (Ma 12), .ref (Ma 13), .ref (Ma 14), .ref (Ma 15), .ref (Ma 16), .long (Mj 0), .ref (Ma 17), .ref (Ma 18), .ref (Ma 19), .ref (Ma 20)])), ((Ma 10), .inl (tc 0, 126, .inl (Mf 10))), ((Ma 17), .inl (tc 0, 504, .inl (Mf 17))), ((Ma 18), .inl (tc 0, 4, .inl (upd (Mf 18) (x1 : Int32).toNatClampNeg (Mv 11)))), ((Ma 19), .inl (tc 0, 4, .inl (Mf 19))), ((Ma 20), .inl (tc 3, 4, .inl (upd (Mf 20) (x1 : Int32).toNatClampNeg 1)))] H := hP
    replace hD : va_D A [((Ma 0), .inr (12, [.ref (Ma 1), .int (Mv 0), .int (Mv 1), .ref (Ma 2), .ref (Ma 3), .ref (Ma 4), .ref (Ma 5), .ref (Ma 6), .int (Mv 2), .int (Mv 3), .int (Mv 4), .int (Mv 5), .int (Mv 6), .int (Mv 7), .int (Mv 8), .ref (Ma 7), .int (Mv 9), .ref (Ma 8), .int (Mv 10), .ref (Ma 9), .ref (Ma 10), .int (Mv 11), .int (Mv 12), .int (Mv 13), .ref (Ma 11), .int (Mv 14), .ref (Ma 12), .ref (Ma 13), .ref (Ma 14), .ref (Ma 15), .ref (Ma 16), .long (Mj 0), .ref (Ma 17), .ref (Ma 18), .ref (Ma 19), .ref (Ma 20)])), ((Ma 10), .inl (tc 0, 126, .inl (Mf 10))), ((Ma 17), .inl (tc 0, 504, .inl (Mf 17))), ((Ma 18), .inl (tc 0, 4, .inl (upd (Mf 18) (x1 : Int32).toNatClampNeg (Mv 11)))), ((Ma 19), .inl (tc 0, 4, .inl (Mf 19))), ((Ma 20), .inl (tc 3, 4, .inl (upd (Mf 20) (x1 : Int32).toNatClampNeg 1)))] := hD
    refine lv_aload_n hx hb dX12_image_31 rfl (lv_at hl 0 rfl) ?_
    refine gf_X12_71 hx hb hts hown hK hP 0 rfl rfl dX12_image_32 ?_
    refine lv_iload_n hx hb dX12_image_35 rfl (lv_at hl 1 rfl) ?_
    refine lv_aload_n hx hb dX12_image_36 rfl (lv_at hl 0 rfl) ?_
    refine gf_X12_414 hx hb hts hown hK hP 0 rfl rfl dX12_image_37 ?_
    have hi_14 : vp_in x1 4 := by
      have z_1 : ¬ (r_4 : Int32).toInt = (0 : Int32).toInt := fun z => c_7 (Int32.toInt_inj.mp z)
      have y_0 : (0 : Int32).toInt = 0 := by decide
      refine vp_in_iff.mpr ⟨?_, ?_⟩ <;> omega
    refine st_int hx hb hK hP hD hS 4 0 rfl rfl hi_14 dX12_image_40 (fun g_15 H locs eg_15 hP₀ hD₀ hS₀ => ?_)
    replace hP : va_P D classes [((Ma 0), .inr (12, [.ref (Ma 1), .int (Mv 0), .int (Mv 1), .ref (Ma 2), .ref (Ma 3), .ref (Ma 4), .ref (Ma 5), .ref (Ma 6), .int (Mv 2), .int (Mv 3), .int (Mv 4), .int (Mv 5), .int (Mv 6), .int (Mv 7), .int (Mv 8), .ref (Ma 7), .int (Mv 9), .ref (Ma 8), .int (Mv 10), .ref (Ma 9), .ref (Ma 10), .int (Mv 11), .int (Mv 12), .int (Mv 13), .ref (Ma 11), .int (Mv 14), .ref (Ma 12), .ref (Ma 13), .ref (Ma 14), .ref (Ma 15), .ref (Ma 16), .long (Mj 0), .ref (Ma 17), .ref (Ma 18), .ref (Ma 19), .ref (Ma 20)])), ((Ma 10), .inl (tc 0, 126, .inl (Mf 10))), ((Ma 17), .inl (tc 0, 504, .inl (Mf 17))), ((Ma 18), .inl (tc 0, 4, .inl (upd (Mf 18) (x1 : Int32).toNatClampNeg (Mv 11)))), ((Ma 19), .inl (tc 0, 4, .inl g_15)), ((Ma 20), .inl (tc 3, 4, .inl (upd (Mf 20) (x1 : Int32).toNatClampNeg 1)))] H := hP₀
    replace hD : va_D A [((Ma 0), .inr (12, [.ref (Ma 1), .int (Mv 0), .int (Mv 1), .ref (Ma 2), .ref (Ma 3), .ref (Ma 4), .ref (Ma 5), .ref (Ma 6), .int (Mv 2), .int (Mv 3), .int (Mv 4), .int (Mv 5), .int (Mv 6), .int (Mv 7), .int (Mv 8), .ref (Ma 7), .int (Mv 9), .ref (Ma 8), .int (Mv 10), .ref (Ma 9), .ref (Ma 10), .int (Mv 11), .int (Mv 12), .int (Mv 13), .ref (Ma 11), .int (Mv 14), .ref (Ma 12), .ref (Ma 13), .ref (Ma 14), .ref (Ma 15), .ref (Ma 16), .long (Mj 0), .ref (Ma 17), .ref (Ma 18), .ref (Ma 19), .ref (Ma 20)])), ((Ma 10), .inl (tc 0, 126, .inl (Mf 10))), ((Ma 17), .inl (tc 0, 504, .inl (Mf 17))), ((Ma 18), .inl (tc 0, 4, .inl (upd (Mf 18) (x1 : Int32).toNatClampNeg (Mv 11)))), ((Ma 19), .inl (tc 0, 4, .inl g_15)), ((Ma 20), .inl (tc 3, 4, .inl (upd (Mf 20) (x1 : Int32).toNatClampNeg 1)))] := hD₀
    replace hS := hS₀
    clear hP₀ hD₀ hS₀
    subst eg_15
    replace hP : va_P D classes [((Ma 0), .inr (12, [.ref (Ma 1), .int (Mv 0), .int (Mv 1), .ref (Ma 2), .ref (Ma 3), .ref (Ma 4), .ref (Ma 5), .ref (Ma 6), .int (Mv 2), .int (Mv 3), .int (Mv 4), .int (Mv 5), .int (Mv 6), .int (Mv 7), .int (Mv 8), .ref (Ma 7), .int (Mv 9), .ref (Ma 8), .int (Mv 10), .ref (Ma 9), .ref (Ma 10), .int (Mv 11), .int (Mv 12), .int (Mv 13), .ref (Ma 11), .int (Mv 14), .ref (Ma 12), .ref (Ma 13), .ref (Ma 14), .ref (Ma 15), .ref (Ma 16), .long (Mj 0), .ref (Ma 17), .ref (Ma 18), .ref (Ma 19), .ref (Ma 20)])), ((Ma 10), .inl (tc 0, 126, .inl (Mf 10))), ((Ma 17), .inl (tc 0, 504, .inl (Mf 17))), ((Ma 18), .inl (tc 0, 4, .inl (upd (Mf 18) (x1 : Int32).toNatClampNeg (Mv 11)))), ((Ma 19), .inl (tc 0, 4, .inl (upd (Mf 19) (x1 : Int32).toNatClampNeg (Mv 12)))), ((Ma 20), .inl (tc 3, 4, .inl (upd (Mf 20) (x1 : Int32).toNatClampNeg 1)))] H := hP
    replace hD : va_D A [((Ma 0), .inr (12, [.ref (Ma 1), .int (Mv 0), .int (Mv 1), .ref (Ma 2), .ref (Ma 3), .ref (Ma 4), .ref (Ma 5), .ref (Ma 6), .int (Mv 2), .int (Mv 3), .int (Mv 4), .int (Mv 5), .int (Mv 6), .int (Mv 7), .int (Mv 8), .ref (Ma 7), .int (Mv 9), .ref (Ma 8), .int (Mv 10), .ref (Ma 9), .ref (Ma 10), .int (Mv 11), .int (Mv 12), .int (Mv 13), .ref (Ma 11), .int (Mv 14), .ref (Ma 12), .ref (Ma 13), .ref (Ma 14), .ref (Ma 15), .ref (Ma 16), .long (Mj 0), .ref (Ma 17), .ref (Ma 18), .ref (Ma 19), .ref (Ma 20)])), ((Ma 10), .inl (tc 0, 126, .inl (Mf 10))), ((Ma 17), .inl (tc 0, 504, .inl (Mf 17))), ((Ma 18), .inl (tc 0, 4, .inl (upd (Mf 18) (x1 : Int32).toNatClampNeg (Mv 11)))), ((Ma 19), .inl (tc 0, 4, .inl (upd (Mf 19) (x1 : Int32).toNatClampNeg (Mv 12)))), ((Ma 20), .inl (tc 3, 4, .inl (upd (Mf 20) (x1 : Int32).toNatClampNeg 1)))] := hD
    refine lv_iconst (v := 0) hx hb dX12_image_41 (by decide) ?_
    refine lv_istore_n (lv' := [(2, .int 0), (0, .ref (Ma 0)), (1, .int x1)]) hx hb dX12_image_42 rfl hl (by decide) rfl (fun ls hl₀ => ?_)
    replace hl := hl₀
    clear hl₀
    have loop_22 : ∀ (n_20 : Nat) (vy_18 : Int32) (vy_19 : Nat → Int32) (H : Heap) (locs : List Loc) (ls : Array Slot), (126 - (vy_18 : Int32).toInt).toNat < n_20 → (0 ≤ (vy_18 : Int32).toInt) → (ImK vy_19 (Mf 10) x1 vy_18) → va_P D classes [((Ma 0), .inr (12, [.ref (Ma 1), .int (Mv 0), .int (Mv 1), .ref (Ma 2), .ref (Ma 3), .ref (Ma 4), .ref (Ma 5), .ref (Ma 6), .int (Mv 2), .int (Mv 3), .int (Mv 4), .int (Mv 5), .int (Mv 6), .int (Mv 7), .int (Mv 8), .ref (Ma 7), .int (Mv 9), .ref (Ma 8), .int (Mv 10), .ref (Ma 9), .ref (Ma 10), .int (Mv 11), .int (Mv 12), .int (Mv 13), .ref (Ma 11), .int (Mv 14), .ref (Ma 12), .ref (Ma 13), .ref (Ma 14), .ref (Ma 15), .ref (Ma 16), .long (Mj 0), .ref (Ma 17), .ref (Ma 18), .ref (Ma 19), .ref (Ma 20)])), ((Ma 10), .inl (tc 0, 126, .inl (Mf 10))), ((Ma 17), .inl (tc 0, 504, .inl vy_19)), ((Ma 18), .inl (tc 0, 4, .inl (upd (Mf 18) (x1 : Int32).toNatClampNeg (Mv 11)))), ((Ma 19), .inl (tc 0, 4, .inl (upd (Mf 19) (x1 : Int32).toNatClampNeg (Mv 12)))), ((Ma 20), .inl (tc 3, 4, .inl (upd (Mf 20) (x1 : Int32).toNatClampNeg 1)))] H → va_D A [((Ma 0), .inr (12, [.ref (Ma 1), .int (Mv 0), .int (Mv 1), .ref (Ma 2), .ref (Ma 3), .ref (Ma 4), .ref (Ma 5), .ref (Ma 6), .int (Mv 2), .int (Mv 3), .int (Mv 4), .int (Mv 5), .int (Mv 6), .int (Mv 7), .int (Mv 8), .ref (Ma 7), .int (Mv 9), .ref (Ma 8), .int (Mv 10), .ref (Ma 9), .ref (Ma 10), .int (Mv 11), .int (Mv 12), .int (Mv 13), .ref (Ma 11), .int (Mv 14), .ref (Ma 12), .ref (Ma 13), .ref (Ma 14), .ref (Ma 15), .ref (Ma 16), .long (Mj 0), .ref (Ma 17), .ref (Ma 18), .ref (Ma 19), .ref (Ma 20)])), ((Ma 10), .inl (tc 0, 126, .inl (Mf 10))), ((Ma 17), .inl (tc 0, 504, .inl vy_19)), ((Ma 18), .inl (tc 0, 4, .inl (upd (Mf 18) (x1 : Int32).toNatClampNeg (Mv 11)))), ((Ma 19), .inl (tc 0, 4, .inl (upd (Mf 19) (x1 : Int32).toNatClampNeg (Mv 12)))), ((Ma 20), .inl (tc 3, 4, .inl (upd (Mf 20) (x1 : Int32).toNatClampNeg 1)))] → va_S A s.heap H locs → lv_has ls 3 [(2, .int vy_18), (0, .ref (Ma 0)), (1, .int x1)] → W p l e ({ frames := 1, cells := 0, slots := 0, locals := 25 }) s m ([.ref (Ma 0), .int x1].toArray) below meth c H locs 0 0 (MQ below (QW (fun (v : Option Value) (oo0x1 : Nat → Int32) => ∃ r : Int32, v = some (.int r) ∧ (True) ∧ (ImgD oo0x1) ∧ (FrcD (upd (Mf 18) (x1 : Int32).toNatClampNeg (Mv 11)) (upd (Mf 20) (x1 : Int32).toNatClampNeg 1) (Mv 1))) (BW D (fun (oo0x1 : Nat → Int32) => [((Ma 0), .inr (12, [.ref (Ma 1), .int (Mv 0), .int (Mv 1), .ref (Ma 2), .ref (Ma 3), .ref (Ma 4), .ref (Ma 5), .ref (Ma 6), .int (Mv 2), .int (Mv 3), .int (Mv 4), .int (Mv 5), .int (Mv 6), .int (Mv 7), .int (Mv 8), .ref (Ma 7), .int (Mv 9), .ref (Ma 8), .int (Mv 10), .ref (Ma 9), .ref (Ma 10), .int (Mv 11), .int (Mv 12), .int (Mv 13), .ref (Ma 11), .int (Mv 14), .ref (Ma 12), .ref (Ma 13), .ref (Ma 14), .ref (Ma 15), .ref (Ma 16), .long (Mj 0), .ref (Ma 17), .ref (Ma 18), .ref (Ma 19), .ref (Ma 20)])), ((Ma 10), .inl (tc 0, 126, .inl (Mf 10))), ((Ma 17), .inl (tc 0, 504, .inl oo0x1)), ((Ma 18), .inl (tc 0, 4, .inl (upd (Mf 18) (x1 : Int32).toNatClampNeg (Mv 11)))), ((Ma 19), .inl (tc 0, 4, .inl (upd (Mf 19) (x1 : Int32).toNatClampNeg (Mv 12)))), ((Ma 20), .inl (tc 3, 4, .inl (upd (Mf 20) (x1 : Int32).toNatClampNeg 1)))]) A) A) ([.ref (Ma 0), .int x1].toArray) s 0 0 A) (F0 m 43 ls []) := by
      clear hP hD hS hl
      intro n_20
      induction n_20 with
      | zero =>
        intro vy_18 vy_19 H locs ls h1
        exact absurd h1 (Nat.not_lt_zero _)
      | succ n_20 ih_21 =>
        intro vy_18 vy_19 H locs ls hn_25 pf_23 pf_24 hP hD hS hl
        refine lv_iload_n hx hb dX12_image_43 rfl (lv_at hl 0 rfl) ?_
        refine lv_bipush (v := 126) hx hb dX12_image_44 (by decide) ?_
        refine lv_icmp_ge (tgt := 72) hx hb dX12_image_46 (by decide) (fun c_26 => ?_) (fun c_26 => ?_)
        · skip
          refine lv_aload_n hx hb dX12_image_72 rfl (lv_at hl 1 rfl) ?_
          refine gf_X12_39 hx hb hts hown hK hP 0 rfl rfl dX12_image_73 ?_
          refine lv_bipush (v := 10) hx hb dX12_image_76 (by decide) ?_
          refine va_iald hx hb hK hP 1 0 rfl rfl (vin_dec (by decide +kernel)) dX12_image_78 ?_
          refine lv_topi (fun x_27 ex_27 => ?_)
          have lx_27 : x_27.toInt = ((Mf 10) 10).toInt := congrArg Int32.toInt ex_27
          have hr_28 : 126 ≤ (vy_18 : Int32).toInt := by
            have z_1 : ¬ (r_4 : Int32).toInt = (0 : Int32).toInt := fun z => c_7 (Int32.toInt_inj.mp z)
            have z_2 := Int32.le_iff_toInt_le.mp c_26
            have y_0 : (0 : Int32).toInt = 0 := by decide
            have y_126 : (126 : Int32).toInt = 126 := by decide
            omega
          exact retI (v := x_27) hx hb hr hlk (rfl) hP hD hS vy_19 ⟨_, rfl, trivial, (ImK.done pf_24 h_said hr_28), pf_12⟩ [0, 1, 2, 3, 4, 5] rfl rfl dX12_image_79 (Nat.le_of_ble_eq_true rfl) (Nat.le_of_ble_eq_true rfl) rfl
        · skip
          refine lv_aload_n hx hb dX12_image_49 rfl (lv_at hl 1 rfl) ?_
          refine gf_X12_65 hx hb hts hown hK hP 0 rfl rfl dX12_image_50 ?_
          refine lv_bipush (v := 126) hx hb dX12_image_53 (by decide) ?_
          refine lv_iload_n hx hb dX12_image_55 rfl (lv_at hl 2 rfl) ?_
          refine lv_imul hx hb dX12_image_56 ?_
          refine lv_topi (fun x_29 ex_29 => ?_)
          refine lv_iload_n hx hb dX12_image_57 rfl (lv_at hl 0 rfl) ?_
          refine lv_iadd hx hb dX12_image_58 ?_
          refine lv_topi (fun x_30 ex_30 => ?_)
          refine lv_aload_n hx hb dX12_image_59 rfl (lv_at hl 1 rfl) ?_
          refine gf_X12_39 hx hb hts hown hK hP 0 rfl rfl dX12_image_60 ?_
          refine lv_iload_n hx hb dX12_image_63 rfl (lv_at hl 0 rfl) ?_
          have hi_31 : vp_in vy_18 126 := by
            have z_1 : ¬ (r_4 : Int32).toInt = (0 : Int32).toInt := fun z => c_7 (Int32.toInt_inj.mp z)
            have z_2 := Int32.lt_iff_toInt_lt.mp (Int32.not_le.mp c_26)
            have y_0 : (0 : Int32).toInt = 0 := by decide
            have y_126 : (126 : Int32).toInt = 126 := by decide
            refine vp_in_iff.mpr ⟨?_, ?_⟩ <;> omega
          refine va_iald hx hb hK hP 1 0 rfl rfl hi_31 dX12_image_64 ?_
          refine lv_topi (fun x_32 ex_32 => ?_)
          have hi_33 : vp_in x_30 504 := by
            have z_1 : ¬ (r_4 : Int32).toInt = (0 : Int32).toInt := fun z => c_7 (Int32.toInt_inj.mp z)
            have z_2 := Int32.lt_iff_toInt_lt.mp (Int32.not_le.mp c_26)
            have y_0 : (0 : Int32).toInt = 0 := by decide
            have y_126 : (126 : Int32).toInt = 126 := by decide
            have t_x_29 : x_29.toInt = (126 : Int32).toInt * (x1 : Int32).toInt := by rw [ex_29]; exact mul_toInt (by first | omega | (rw [y_126]; omega)) (by first | omega | (rw [y_126]; omega))
            rw [y_126] at t_x_29
            have t_x_30 : x_30.toInt = (x_29 : Int32).toInt + (vy_18 : Int32).toInt := by rw [ex_30]; exact add_toInt (by omega) (by omega)
            refine vp_in_iff.mpr ⟨?_, ?_⟩ <;> omega
          refine st_int hx hb hK hP hD hS 2 0 rfl rfl hi_33 dX12_image_65 (fun g_34 H locs eg_34 hP₀ hD₀ hS₀ => ?_)
          replace hP : va_P D classes [((Ma 0), .inr (12, [.ref (Ma 1), .int (Mv 0), .int (Mv 1), .ref (Ma 2), .ref (Ma 3), .ref (Ma 4), .ref (Ma 5), .ref (Ma 6), .int (Mv 2), .int (Mv 3), .int (Mv 4), .int (Mv 5), .int (Mv 6), .int (Mv 7), .int (Mv 8), .ref (Ma 7), .int (Mv 9), .ref (Ma 8), .int (Mv 10), .ref (Ma 9), .ref (Ma 10), .int (Mv 11), .int (Mv 12), .int (Mv 13), .ref (Ma 11), .int (Mv 14), .ref (Ma 12), .ref (Ma 13), .ref (Ma 14), .ref (Ma 15), .ref (Ma 16), .long (Mj 0), .ref (Ma 17), .ref (Ma 18), .ref (Ma 19), .ref (Ma 20)])), ((Ma 10), .inl (tc 0, 126, .inl (Mf 10))), ((Ma 17), .inl (tc 0, 504, .inl g_34)), ((Ma 18), .inl (tc 0, 4, .inl (upd (Mf 18) (x1 : Int32).toNatClampNeg (Mv 11)))), ((Ma 19), .inl (tc 0, 4, .inl (upd (Mf 19) (x1 : Int32).toNatClampNeg (Mv 12)))), ((Ma 20), .inl (tc 3, 4, .inl (upd (Mf 20) (x1 : Int32).toNatClampNeg 1)))] H := hP₀
          replace hD : va_D A [((Ma 0), .inr (12, [.ref (Ma 1), .int (Mv 0), .int (Mv 1), .ref (Ma 2), .ref (Ma 3), .ref (Ma 4), .ref (Ma 5), .ref (Ma 6), .int (Mv 2), .int (Mv 3), .int (Mv 4), .int (Mv 5), .int (Mv 6), .int (Mv 7), .int (Mv 8), .ref (Ma 7), .int (Mv 9), .ref (Ma 8), .int (Mv 10), .ref (Ma 9), .ref (Ma 10), .int (Mv 11), .int (Mv 12), .int (Mv 13), .ref (Ma 11), .int (Mv 14), .ref (Ma 12), .ref (Ma 13), .ref (Ma 14), .ref (Ma 15), .ref (Ma 16), .long (Mj 0), .ref (Ma 17), .ref (Ma 18), .ref (Ma 19), .ref (Ma 20)])), ((Ma 10), .inl (tc 0, 126, .inl (Mf 10))), ((Ma 17), .inl (tc 0, 504, .inl g_34)), ((Ma 18), .inl (tc 0, 4, .inl (upd (Mf 18) (x1 : Int32).toNatClampNeg (Mv 11)))), ((Ma 19), .inl (tc 0, 4, .inl (upd (Mf 19) (x1 : Int32).toNatClampNeg (Mv 12)))), ((Ma 20), .inl (tc 3, 4, .inl (upd (Mf 20) (x1 : Int32).toNatClampNeg 1)))] := hD₀
          replace hS := hS₀
          clear hP₀ hD₀ hS₀
          obtain ⟨x_35, ex_35⟩ : ∃ y : Int32, y = vy_18 + 1 := ⟨_, rfl⟩
          refine lv_iinc (v := x_35) (lv' := [(2, .int x_35), (0, .ref (Ma 0)), (1, .int x1)]) hx hb dX12_image_66 hl (k := 0) rfl (by rw [ex_35]; rfl) (by decide) rfl (fun ls hl₀ => ?_)
          replace hl := hl₀
          clear hl₀
          refine lv_goto (tgt := 43) hx hb dX12_image_69 (by decide) ?_
          have hb_36 : 126 - (x_35 : Int32).toInt < 126 - (vy_18 : Int32).toInt ∧ 1 ≤ 126 - (vy_18 : Int32).toInt := by
            have z_1 : ¬ (r_4 : Int32).toInt = (0 : Int32).toInt := fun z => c_7 (Int32.toInt_inj.mp z)
            have z_2 := Int32.lt_iff_toInt_lt.mp (Int32.not_le.mp c_26)
            have y_0 : (0 : Int32).toInt = 0 := by decide
            have y_126 : (126 : Int32).toInt = 126 := by decide
            have y_1 : (1 : Int32).toInt = 1 := by decide
            have t_x_35 : x_35.toInt = (vy_18 : Int32).toInt + (1 : Int32).toInt := by rw [ex_35]; exact add_toInt (by omega) (by omega)
            omega
          have ha_37 : 0 ≤ (x_35 : Int32).toInt := by
            have z_1 : ¬ (r_4 : Int32).toInt = (0 : Int32).toInt := fun z => c_7 (Int32.toInt_inj.mp z)
            have z_2 := Int32.lt_iff_toInt_lt.mp (Int32.not_le.mp c_26)
            have y_0 : (0 : Int32).toInt = 0 := by decide
            have y_126 : (126 : Int32).toInt = 126 := by decide
            have y_1 : (1 : Int32).toInt = 1 := by decide
            have t_x_35 : x_35.toInt = (vy_18 : Int32).toInt + (1 : Int32).toInt := by rw [ex_35]; exact add_toInt (by omega) (by omega)
            omega
          have hi_39 : (x_30 : Int32).toInt = 126 * x1.toInt + (vy_18 : Int32).toInt := by
            have z_1 : ¬ (r_4 : Int32).toInt = (0 : Int32).toInt := fun z => c_7 (Int32.toInt_inj.mp z)
            have z_2 := Int32.lt_iff_toInt_lt.mp (Int32.not_le.mp c_26)
            have y_0 : (0 : Int32).toInt = 0 := by decide
            have y_126 : (126 : Int32).toInt = 126 := by decide
            have t_x_29 : x_29.toInt = (126 : Int32).toInt * (x1 : Int32).toInt := by rw [ex_29]; exact mul_toInt (by first | omega | (rw [y_126]; omega)) (by first | omega | (rw [y_126]; omega))
            rw [y_126] at t_x_29
            have t_x_30 : x_30.toInt = (x_29 : Int32).toInt + (vy_18 : Int32).toInt := by rw [ex_30]; exact add_toInt (by omega) (by omega)
            omega
          have hr_40 : 0 ≤ (vy_18 : Int32).toInt ∧ (vy_18 : Int32).toInt < 126 := by
            have z_1 : ¬ (r_4 : Int32).toInt = (0 : Int32).toInt := fun z => c_7 (Int32.toInt_inj.mp z)
            have z_2 := Int32.lt_iff_toInt_lt.mp (Int32.not_le.mp c_26)
            have y_0 : (0 : Int32).toInt = 0 := by decide
            have y_126 : (126 : Int32).toInt = 126 := by decide
            omega
          have hi_41 : (x_35 : Int32).toInt = (vy_18 : Int32).toInt + 1 := by
            have z_1 : ¬ (r_4 : Int32).toInt = (0 : Int32).toInt := fun z => c_7 (Int32.toInt_inj.mp z)
            have z_2 := Int32.lt_iff_toInt_lt.mp (Int32.not_le.mp c_26)
            have y_0 : (0 : Int32).toInt = 0 := by decide
            have y_126 : (126 : Int32).toInt = 126 := by decide
            have y_1 : (1 : Int32).toInt = 1 := by decide
            have t_x_35 : x_35.toInt = (vy_18 : Int32).toInt + (1 : Int32).toInt := by rw [ex_35]; exact add_toInt (by omega) (by omega)
            omega
          have hr_42 : 0 ≤ x1.toInt ∧ x1.toInt < 4 := by
            have z_1 : ¬ (r_4 : Int32).toInt = (0 : Int32).toInt := fun z => c_7 (Int32.toInt_inj.mp z)
            have z_2 := Int32.lt_iff_toInt_lt.mp (Int32.not_le.mp c_26)
            have y_0 : (0 : Int32).toInt = 0 := by decide
            have y_126 : (126 : Int32).toInt = 126 := by decide
            omega
          have ha_38 : ImK g_34 (Mf 10) x1 x_35 := ImK.step pf_24 eg_34 ex_32 hi_39 hr_40 hi_41 hr_42
          exact ih_21 x_35 g_34 _ _ _ (by omega) ha_37 ha_38 (hP.sub [0, 1, 2, 3, 4, 5] rfl) (hD.sub [0, 1, 2, 3, 4, 5] rfl rfl) hS (lv_sub hl [0, 1, 2] rfl)
    have ha_43 : 0 ≤ (0 : Int32).toInt := by
      have z_1 : ¬ (r_4 : Int32).toInt = (0 : Int32).toInt := fun z => c_7 (Int32.toInt_inj.mp z)
      have y_0 : (0 : Int32).toInt = 0 := by decide
      omega
    have ha_44 : ImK (Mf 17) (Mf 10) x1 0 := ImK.start h_img (by decide)
    exact loop_22 _ 0 (Mf 17) _ _ _ (Nat.lt_succ_self _) ha_43 ha_44 hP hD hS hl
  · skip
    exfalso
    have z_1 := congrArg Int32.toInt c_7
    have y_0 : (0 : Int32).toInt = 0 := by decide
    omega
set_option maxRecDepth 100000 in
theorem cu_fX12_image_i (l : Launch) (D : va_G) (tc : Nat → ClassId) (sk : (Nat → Nat) × (Nat → Nat)) (Ma_0 : Nat) (Ma_1 : Nat) (Ma_2 : Nat) (Ma_3 : Nat) (Ma_4 : Nat) (Ma_5 : Nat) (Ma_6 : Nat) (Ma_7 : Nat) (Ma_8 : Nat) (Ma_9 : Nat) (Ma_10 : Nat) (Ma_11 : Nat) (Ma_12 : Nat) (Ma_13 : Nat) (Ma_14 : Nat) (Ma_15 : Nat) (Ma_16 : Nat) (Ma_17 : Nat) (Ma_18 : Nat) (Ma_19 : Nat) (Ma_20 : Nat) (Mv_0 : Int32) (Mv_1 : Int32) (Mv_2 : Int32) (Mv_3 : Int32) (Mv_4 : Int32) (Mv_5 : Int32) (Mv_6 : Int32) (Mv_7 : Int32) (Mv_8 : Int32) (Mv_9 : Int32) (Mv_10 : Int32) (Mv_11 : Int32) (Mv_12 : Int32) (Mv_13 : Int32) (Mv_14 : Int32) (Mf_10 : Nat → Int32) (Mf_17 : Nat → Int32) (Mf_18 : Nat → Int32) (Mf_19 : Nat → Int32) (Mf_20 : Nat → Int32) (Mj_0 : Int64) (x1 : Int32) (h_k : 0 ≤ x1.toInt ∧ x1.toInt ≤ 3) (h_said : SaidD Mf_10 999) (h_img : ImgD Mf_17) (h_frd : FrcD Mf_18 Mf_20 Mv_1) (h_frc : -1 ≤ Mv_11.toInt ∧ Mv_11.toInt < Mv_1.toInt ∧ Mv_1.toInt ≤ 6) : Ct l yX12_image cX12_image 3 (some .int) { frames := 1, cells := 0, slots := 0, locals := 25 } D tc sk [.ref Ma_0, .int x1] [(Ma_0, .inr (12, [.ref Ma_1, .int Mv_0, .int Mv_1, .ref Ma_2, .ref Ma_3, .ref Ma_4, .ref Ma_5, .ref Ma_6, .int Mv_2, .int Mv_3, .int Mv_4, .int Mv_5, .int Mv_6, .int Mv_7, .int Mv_8, .ref Ma_7, .int Mv_9, .ref Ma_8, .int Mv_10, .ref Ma_9, .ref Ma_10, .int Mv_11, .int Mv_12, .int Mv_13, .ref Ma_11, .int Mv_14, .ref Ma_12, .ref Ma_13, .ref Ma_14, .ref Ma_15, .ref Ma_16, .long Mj_0, .ref Ma_17, .ref Ma_18, .ref Ma_19, .ref Ma_20])), (Ma_10, .inl (tc 0, 126, .inl Mf_10)), (Ma_17, .inl (tc 0, 504, .inl Mf_17)), (Ma_18, .inl (tc 0, 4, .inl Mf_18)), (Ma_19, .inl (tc 0, 4, .inl Mf_19)), (Ma_20, .inl (tc 3, 4, .inl Mf_20))] (fun (v : Option Value) (oo0x1 : Nat → Int32) => ∃ r : Int32, v = some (.int r) ∧ (True) ∧ (ImgD oo0x1) ∧ (FrcD (upd Mf_18 (x1 : Int32).toNatClampNeg Mv_11) (upd Mf_20 (x1 : Int32).toNatClampNeg 1) Mv_1)) (fun (oo0x1 : Nat → Int32) => [(Ma_0, .inr (12, [.ref Ma_1, .int Mv_0, .int Mv_1, .ref Ma_2, .ref Ma_3, .ref Ma_4, .ref Ma_5, .ref Ma_6, .int Mv_2, .int Mv_3, .int Mv_4, .int Mv_5, .int Mv_6, .int Mv_7, .int Mv_8, .ref Ma_7, .int Mv_9, .ref Ma_8, .int Mv_10, .ref Ma_9, .ref Ma_10, .int Mv_11, .int Mv_12, .int Mv_13, .ref Ma_11, .int Mv_14, .ref Ma_12, .ref Ma_13, .ref Ma_14, .ref Ma_15, .ref Ma_16, .long Mj_0, .ref Ma_17, .ref Ma_18, .ref Ma_19, .ref Ma_20])), (Ma_10, .inl (tc 0, 126, .inl Mf_10)), (Ma_17, .inl (tc 0, 504, .inl oo0x1)), (Ma_18, .inl (tc 0, 4, .inl (upd Mf_18 (x1 : Int32).toNatClampNeg Mv_11))), (Ma_19, .inl (tc 0, 4, .inl (upd Mf_19 (x1 : Int32).toNatClampNeg Mv_12))), (Ma_20, .inl (tc 3, 4, .inl (upd Mf_20 (x1 : Int32).toNatClampNeg 1)))]) 0 0 :=
  ct_fX12_image_i l D tc sk (fun k => ([Ma_0, Ma_1, Ma_2, Ma_3, Ma_4, Ma_5, Ma_6, Ma_7, Ma_8, Ma_9, Ma_10, Ma_11, Ma_12, Ma_13, Ma_14, Ma_15, Ma_16, Ma_17, Ma_18, Ma_19, Ma_20] : List (Nat)).getD k 0) (fun k => ([Mv_0, Mv_1, Mv_2, Mv_3, Mv_4, Mv_5, Mv_6, Mv_7, Mv_8, Mv_9, Mv_10, Mv_11, Mv_12, Mv_13, Mv_14] : List (Int32)).getD k 0) (fun k => ([(fun _ => 0), (fun _ => 0), (fun _ => 0), (fun _ => 0), (fun _ => 0), (fun _ => 0), (fun _ => 0), (fun _ => 0), (fun _ => 0), (fun _ => 0), Mf_10, (fun _ => 0), (fun _ => 0), (fun _ => 0), (fun _ => 0), (fun _ => 0), (fun _ => 0), Mf_17, Mf_18, Mf_19, Mf_20] : List (Nat → Int32)).getD k (fun _ => 0)) (fun k => ([Mj_0] : List (Int64)).getD k 0) x1 h_k h_said h_img h_frd h_frc
set_option maxHeartbeats 4000000 in
set_option maxRecDepth 100000 in
theorem ct_fX12_back_m (l : Launch) (D : va_G) (tc : Nat → ClassId) (sk : (Nat → Nat) × (Nat → Nat)) (Ma : Nat → Nat) (Mv : Nat → Int32) (Mf : Nat → Nat → Int32) (Mj : Nat → Int64) (x1 : Int32) (h_k : 0 ≤ x1.toInt ∧ x1.toInt ≤ 3) (h_m : ¬ ((Mf 20) x1.toNatClampNeg).toInt = 0) (h_said : SaidD (Mf 10) 999) (h_img : ImgD (Mf 17)) (h_frd : FrcD (Mf 18) (Mf 20) (Mv 1)) (h_frc : -1 ≤ (Mv 11).toInt ∧ (Mv 11).toInt < (Mv 1).toInt ∧ (Mv 1).toInt ≤ 6) : Ct l yX12_back cX12_back 3 (some .int) { frames := 1, cells := 0, slots := 0, locals := 25 } D tc sk [.ref (Ma 0), .int x1] [((Ma 0), .inr (12, [.ref (Ma 1), .int (Mv 0), .int (Mv 1), .ref (Ma 2), .ref (Ma 3), .ref (Ma 4), .ref (Ma 5), .ref (Ma 6), .int (Mv 2), .int (Mv 3), .int (Mv 4), .int (Mv 5), .int (Mv 6), .int (Mv 7), .int (Mv 8), .ref (Ma 7), .int (Mv 9), .ref (Ma 8), .int (Mv 10), .ref (Ma 9), .ref (Ma 10), .int (Mv 11), .int (Mv 12), .int (Mv 13), .ref (Ma 11), .int (Mv 14), .ref (Ma 12), .ref (Ma 13), .ref (Ma 14), .ref (Ma 15), .ref (Ma 16), .long (Mj 0), .ref (Ma 17), .ref (Ma 18), .ref (Ma 19), .ref (Ma 20)])), ((Ma 10), .inl (tc 0, 126, .inl (Mf 10))), ((Ma 17), .inl (tc 0, 504, .inl (Mf 17))), ((Ma 18), .inl (tc 0, 4, .inl (Mf 18))), ((Ma 19), .inl (tc 0, 4, .inl (Mf 19))), ((Ma 20), .inl (tc 3, 4, .inl (Mf 20)))] (fun (v : Option Value) (u : (Int32) × (Int32) × (Nat → Int32)) => match u with | (oo0x1, oo0x2, oo0x3) => ∃ r : Int32, v = some (.int r) ∧ (True) ∧ (SaidD oo0x3 999) ∧ (-1 ≤ (oo0x1 : Int32).toInt ∧ (oo0x1 : Int32).toInt < ((Mv 1) : Int32).toInt ∧ ((Mv 1) : Int32).toInt ≤ 6) ∧ ((oo0x1 : Int32).toInt = ((Mf 18) x1.toNatClampNeg).toInt)) (fun (u : (Int32) × (Int32) × (Nat → Int32)) => match u with | (oo0x1, oo0x2, oo0x3) => [((Ma 0), .inr (12, [.ref (Ma 1), .int (Mv 0), .int (Mv 1), .ref (Ma 2), .ref (Ma 3), .ref (Ma 4), .ref (Ma 5), .ref (Ma 6), .int (Mv 2), .int (Mv 3), .int (Mv 4), .int (Mv 5), .int (Mv 6), .int (Mv 7), .int (Mv 8), .ref (Ma 7), .int (Mv 9), .ref (Ma 8), .int (Mv 10), .ref (Ma 9), .ref (Ma 10), .int oo0x1, .int oo0x2, .int (Mv 13), .ref (Ma 11), .int 0, .ref (Ma 12), .ref (Ma 13), .ref (Ma 14), .ref (Ma 15), .ref (Ma 16), .long (Mj 0), .ref (Ma 17), .ref (Ma 18), .ref (Ma 19), .ref (Ma 20)])), ((Ma 10), .inl (tc 0, 126, .inl oo0x3)), ((Ma 17), .inl (tc 0, 504, .inl (Mf 17))), ((Ma 18), .inl (tc 0, 4, .inl (Mf 18))), ((Ma 19), .inl (tc 0, 4, .inl (Mf 19))), ((Ma 20), .inl (tc 3, 4, .inl (Mf 20)))]) 0 0 := by
  refine Ct.start (by decide) (Nat.le_of_ble_eq_true rfl) (fun p e s m below meth c A ls hx hb hr hlk hin hml hown hts hK hX hP hD hA hl hS => ?_)
  have hl : lv_has ls 3 [(0, .ref (Ma 0)), (1, .int x1)] := hl
  have ar_h_said := SaidD.al h_said
  refine lv_iload_n hx hb dX12_back_0 rfl (lv_at hl 1 rfl) ?_
  refine lv_i2l (v := (x1).toInt64) hx hb dX12_back_1 rfl ?_
  refine lv_lconst (v := 0) hx hb dX12_back_2 (by decide) ?_
  refine lv_ldc2 hx hb hown (hts _ k_1651) dX12_back_3 ?_
  refine cS (As := [.long (x1).toInt64, .long 0, .long 3]) (rest := []) (wr := [((Ma 0), .inr (12, [.ref (Ma 1), .int (Mv 0), .int (Mv 1), .ref (Ma 2), .ref (Ma 3), .ref (Ma 4), .ref (Ma 5), .ref (Ma 6), .int (Mv 2), .int (Mv 3), .int (Mv 4), .int (Mv 5), .int (Mv 6), .int (Mv 7), .int (Mv 8), .ref (Ma 7), .int (Mv 9), .ref (Ma 8), .int (Mv 10), .ref (Ma 9), .ref (Ma 10), .int (Mv 11), .int (Mv 12), .int (Mv 13), .ref (Ma 11), .int (Mv 14), .ref (Ma 12), .ref (Ma 13), .ref (Ma 14), .ref (Ma 15), .ref (Ma 16), .long (Mj 0), .ref (Ma 17), .ref (Ma 18), .ref (Ma 19), .ref (Ma 20)])), ((Ma 10), .inl (tc 0, 126, .inl (Mf 10))), ((Ma 17), .inl (tc 0, 504, .inl (Mf 17))), ((Ma 18), .inl (tc 0, 4, .inl (Mf 18))), ((Ma 19), .inl (tc 0, 4, .inl (Mf 19))), ((Ma 20), .inl (tc 3, 4, .inl (Mf 20)))]) ⟨hx, hb, hml, hown, hts⟩ hK hX hA (ct_X12_in2 l D tc sk ((x1).toInt64) 0 3) k_1259 k_1257 k_1258 k_106 pl_X12_in ⟨Nat.le_of_ble_eq_true rfl, Nat.le_of_ble_eq_true rfl⟩ rfl rfl  hP hD hS [] [0, 1, 2, 3, 4, 5] rfl rfl rfl rfl rfl (by decide) rfl hl.1 rfl (Nat.le_of_ble_eq_true rfl) dX12_back_6 ⟨Nat.le_of_ble_eq_true rfl, Nat.le_of_ble_eq_true rfl⟩ (fun v_1 u_2 H locs hv_3 hP₀ hD₀ hS₀ => ?_)
  obtain ⟨r_4, rfl, he_5⟩ := hv_3
  have he_5 : ((r_4.toInt = 0 ∧ ((x1).toInt64.toInt < (0 : Int64).toInt ∨ (3 : Int64).toInt < (x1).toInt64.toInt)) ∨ (r_4.toInt = 1 ∧ (0 : Int64).toInt ≤ (x1).toInt64.toInt ∧ (x1).toInt64.toInt ≤ (3 : Int64).toInt)) := he_5
  refine W.eq (g2 := F0 m 9 ls [.int r_4]) rfl ?_
  replace hP : va_P D classes [((Ma 0), .inr (12, [.ref (Ma 1), .int (Mv 0), .int (Mv 1), .ref (Ma 2), .ref (Ma 3), .ref (Ma 4), .ref (Ma 5), .ref (Ma 6), .int (Mv 2), .int (Mv 3), .int (Mv 4), .int (Mv 5), .int (Mv 6), .int (Mv 7), .int (Mv 8), .ref (Ma 7), .int (Mv 9), .ref (Ma 8), .int (Mv 10), .ref (Ma 9), .ref (Ma 10), .int (Mv 11), .int (Mv 12), .int (Mv 13), .ref (Ma 11), .int (Mv 14), .ref (Ma 12), .ref (Ma 13), .ref (Ma 14), .ref (Ma 15), .ref (Ma 16), .long (Mj 0), .ref (Ma 17), .ref (Ma 18), .ref (Ma 19), .ref (Ma 20)])), ((Ma 10), .inl (tc 0, 126, .inl (Mf 10))), ((Ma 17), .inl (tc 0, 504, .inl (Mf 17))), ((Ma 18), .inl (tc 0, 4, .inl (Mf 18))), ((Ma 19), .inl (tc 0, 4, .inl (Mf 19))), ((Ma 20), .inl (tc 3, 4, .inl (Mf 20)))] H := hP₀
  replace hD : va_D A [((Ma 0), .inr (12, [.ref (Ma 1), .int (Mv 0), .int (Mv 1), .ref (Ma 2), .ref (Ma 3), .ref (Ma 4), .ref (Ma 5), .ref (Ma 6), .int (Mv 2), .int (Mv 3), .int (Mv 4), .int (Mv 5), .int (Mv 6), .int (Mv 7), .int (Mv 8), .ref (Ma 7), .int (Mv 9), .ref (Ma 8), .int (Mv 10), .ref (Ma 9), .ref (Ma 10), .int (Mv 11), .int (Mv 12), .int (Mv 13), .ref (Ma 11), .int (Mv 14), .ref (Ma 12), .ref (Ma 13), .ref (Ma 14), .ref (Ma 15), .ref (Ma 16), .long (Mj 0), .ref (Ma 17), .ref (Ma 18), .ref (Ma 19), .ref (Ma 20)])), ((Ma 10), .inl (tc 0, 126, .inl (Mf 10))), ((Ma 17), .inl (tc 0, 504, .inl (Mf 17))), ((Ma 18), .inl (tc 0, 4, .inl (Mf 18))), ((Ma 19), .inl (tc 0, 4, .inl (Mf 19))), ((Ma 20), .inl (tc 3, 4, .inl (Mf 20)))] := hD₀
  replace hS := hS₀
  clear hP₀ hD₀ hS₀
  have yl_he_5_0 : (0 : Int64).toInt = 0 := by decide
  have yl_he_5_3 : (3 : Int64).toInt = 3 := by decide
  simp only [i32_64] at he_5
  refine lv_if_eq (tgt := 21) hx hb dX12_back_9 (by decide) (fun c_7 => ?_) (fun c_7 => ?_)
  · skip
    exfalso
    have z_1 := congrArg Int32.toInt c_7
    have y_0 : (0 : Int32).toInt = 0 := by decide
    omega
  · skip
    refine lv_aload_n hx hb dX12_back_12 rfl (lv_at hl 0 rfl) ?_
    refine gf_X12_74 hx hb hts hown hK hP 0 rfl rfl dX12_back_13 ?_
    refine lv_iload_n hx hb dX12_back_16 rfl (lv_at hl 1 rfl) ?_
    have hi_8 : vp_in x1 4 := by
      have z_1 : ¬ (r_4 : Int32).toInt = (0 : Int32).toInt := fun z => c_7 (Int32.toInt_inj.mp z)
      have y_0 : (0 : Int32).toInt = 0 := by decide
      refine vp_in_iff.mpr ⟨?_, ?_⟩ <;> omega
    refine va_zald hx hb hK hP 5 3 rfl rfl hi_8 dX12_back_17 ?_
    refine lv_topi (fun x_9 ex_9 => ?_)
    have kx_9 : x_9.toInt = ((Mf 20) x1.toNatClampNeg).toInt := congrArg Int32.toInt ex_9
    refine lv_if_ne (tgt := 23) hx hb dX12_back_18 (by decide) (fun c_10 => ?_) (fun c_10 => ?_)
    · skip
      refine lv_aload_n hx hb dX12_back_23 rfl (lv_at hl 0 rfl) ?_
      refine lv_aload_n hx hb dX12_back_24 rfl (lv_at hl 0 rfl) ?_
      refine gf_X12_68 hx hb hts hown hK hP 0 rfl rfl dX12_back_25 ?_
      refine lv_iload_n hx hb dX12_back_28 rfl (lv_at hl 1 rfl) ?_
      have hi_11 : vp_in x1 4 := by
        have z_1 : ¬ (r_4 : Int32).toInt = (0 : Int32).toInt := fun z => c_7 (Int32.toInt_inj.mp z)
        have z_2 : ¬ (x_9 : Int32).toInt = (0 : Int32).toInt := fun z => c_10 (Int32.toInt_inj.mp z)
        have y_0 : (0 : Int32).toInt = 0 := by decide
        refine vp_in_iff.mpr ⟨?_, ?_⟩ <;> omega
      refine va_iald hx hb hK hP 3 0 rfl rfl hi_11 dX12_back_29 ?_
      refine lv_topi (fun x_12 ex_12 => ?_)
      have hr_13 : ¬ (x_9 : Int32).toInt = 0 := by
        have z_1 : ¬ (r_4 : Int32).toInt = (0 : Int32).toInt := fun z => c_7 (Int32.toInt_inj.mp z)
        have z_2 : ¬ (x_9 : Int32).toInt = (0 : Int32).toInt := fun z => c_10 (Int32.toInt_inj.mp z)
        have y_0 : (0 : Int32).toInt = 0 := by decide
        omega
      have hr_14 : 0 ≤ x1.toInt ∧ x1.toInt < 4 := by
        have z_1 : ¬ (r_4 : Int32).toInt = (0 : Int32).toInt := fun z => c_7 (Int32.toInt_inj.mp z)
        have z_2 : ¬ (x_9 : Int32).toInt = (0 : Int32).toInt := fun z => c_10 (Int32.toInt_inj.mp z)
        have y_0 : (0 : Int32).toInt = 0 := by decide
        omega
      have fkx_12 := FrcD.x h_frd ex_9 hr_13 ex_12 hr_14
      have kx_12 : x_12.toInt = ((Mf 18) x1.toNatClampNeg).toInt := congrArg Int32.toInt ex_12
      refine pf_X12_42 hx hb hts hown hK hP hD hS 0 rfl (Nat.le_of_ble_eq_true rfl) rfl rfl dX12_back_30 (fun H locs hP₀ hD₀ hS₀ => ?_)
      replace hP : va_P D classes [((Ma 0), .inr (12, [.ref (Ma 1), .int (Mv 0), .int (Mv 1), .ref (Ma 2), .ref (Ma 3), .ref (Ma 4), .ref (Ma 5), .ref (Ma 6), .int (Mv 2), .int (Mv 3), .int (Mv 4), .int (Mv 5), .int (Mv 6), .int (Mv 7), .int (Mv 8), .ref (Ma 7), .int (Mv 9), .ref (Ma 8), .int (Mv 10), .ref (Ma 9), .ref (Ma 10), .int x_12, .int (Mv 12), .int (Mv 13), .ref (Ma 11), .int (Mv 14), .ref (Ma 12), .ref (Ma 13), .ref (Ma 14), .ref (Ma 15), .ref (Ma 16), .long (Mj 0), .ref (Ma 17), .ref (Ma 18), .ref (Ma 19), .ref (Ma 20)])), ((Ma 10), .inl (tc 0, 126, .inl (Mf 10))), ((Ma 17), .inl (tc 0, 504, .inl (Mf 17))), ((Ma 18), .inl (tc 0, 4, .inl (Mf 18))), ((Ma 19), .inl (tc 0, 4, .inl (Mf 19))), ((Ma 20), .inl (tc 3, 4, .inl (Mf 20)))] H := hP₀
      replace hD : va_D A [((Ma 0), .inr (12, [.ref (Ma 1), .int (Mv 0), .int (Mv 1), .ref (Ma 2), .ref (Ma 3), .ref (Ma 4), .ref (Ma 5), .ref (Ma 6), .int (Mv 2), .int (Mv 3), .int (Mv 4), .int (Mv 5), .int (Mv 6), .int (Mv 7), .int (Mv 8), .ref (Ma 7), .int (Mv 9), .ref (Ma 8), .int (Mv 10), .ref (Ma 9), .ref (Ma 10), .int x_12, .int (Mv 12), .int (Mv 13), .ref (Ma 11), .int (Mv 14), .ref (Ma 12), .ref (Ma 13), .ref (Ma 14), .ref (Ma 15), .ref (Ma 16), .long (Mj 0), .ref (Ma 17), .ref (Ma 18), .ref (Ma 19), .ref (Ma 20)])), ((Ma 10), .inl (tc 0, 126, .inl (Mf 10))), ((Ma 17), .inl (tc 0, 504, .inl (Mf 17))), ((Ma 18), .inl (tc 0, 4, .inl (Mf 18))), ((Ma 19), .inl (tc 0, 4, .inl (Mf 19))), ((Ma 20), .inl (tc 3, 4, .inl (Mf 20)))] := hD₀
      replace hS := hS₀
      clear hP₀ hD₀ hS₀
      refine lv_aload_n hx hb dX12_back_33 rfl (lv_at hl 0 rfl) ?_
      refine lv_aload_n hx hb dX12_back_34 rfl (lv_at hl 0 rfl) ?_
      refine gf_X12_71 hx hb hts hown hK hP 0 rfl rfl dX12_back_35 ?_
      refine lv_iload_n hx hb dX12_back_38 rfl (lv_at hl 1 rfl) ?_
      have hi_15 : vp_in x1 4 := by
        have z_1 : ¬ (r_4 : Int32).toInt = (0 : Int32).toInt := fun z => c_7 (Int32.toInt_inj.mp z)
        have z_2 : ¬ (x_9 : Int32).toInt = (0 : Int32).toInt := fun z => c_10 (Int32.toInt_inj.mp z)
        have y_0 : (0 : Int32).toInt = 0 := by decide
        refine vp_in_iff.mpr ⟨?_, ?_⟩ <;> omega
      refine va_iald hx hb hK hP 4 0 rfl rfl hi_15 dX12_back_39 ?_
      refine lv_topi (fun x_16 ex_16 => ?_)
      have kx_16 : x_16.toInt = ((Mf 19) x1.toNatClampNeg).toInt := congrArg Int32.toInt ex_16
      refine pf_X12_414 hx hb hts hown hK hP hD hS 0 rfl (Nat.le_of_ble_eq_true rfl) rfl rfl dX12_back_40 (fun H locs hP₀ hD₀ hS₀ => ?_)
      replace hP : va_P D classes [((Ma 0), .inr (12, [.ref (Ma 1), .int (Mv 0), .int (Mv 1), .ref (Ma 2), .ref (Ma 3), .ref (Ma 4), .ref (Ma 5), .ref (Ma 6), .int (Mv 2), .int (Mv 3), .int (Mv 4), .int (Mv 5), .int (Mv 6), .int (Mv 7), .int (Mv 8), .ref (Ma 7), .int (Mv 9), .ref (Ma 8), .int (Mv 10), .ref (Ma 9), .ref (Ma 10), .int x_12, .int x_16, .int (Mv 13), .ref (Ma 11), .int (Mv 14), .ref (Ma 12), .ref (Ma 13), .ref (Ma 14), .ref (Ma 15), .ref (Ma 16), .long (Mj 0), .ref (Ma 17), .ref (Ma 18), .ref (Ma 19), .ref (Ma 20)])), ((Ma 10), .inl (tc 0, 126, .inl (Mf 10))), ((Ma 17), .inl (tc 0, 504, .inl (Mf 17))), ((Ma 18), .inl (tc 0, 4, .inl (Mf 18))), ((Ma 19), .inl (tc 0, 4, .inl (Mf 19))), ((Ma 20), .inl (tc 3, 4, .inl (Mf 20)))] H := hP₀
      replace hD : va_D A [((Ma 0), .inr (12, [.ref (Ma 1), .int (Mv 0), .int (Mv 1), .ref (Ma 2), .ref (Ma 3), .ref (Ma 4), .ref (Ma 5), .ref (Ma 6), .int (Mv 2), .int (Mv 3), .int (Mv 4), .int (Mv 5), .int (Mv 6), .int (Mv 7), .int (Mv 8), .ref (Ma 7), .int (Mv 9), .ref (Ma 8), .int (Mv 10), .ref (Ma 9), .ref (Ma 10), .int x_12, .int x_16, .int (Mv 13), .ref (Ma 11), .int (Mv 14), .ref (Ma 12), .ref (Ma 13), .ref (Ma 14), .ref (Ma 15), .ref (Ma 16), .long (Mj 0), .ref (Ma 17), .ref (Ma 18), .ref (Ma 19), .ref (Ma 20)])), ((Ma 10), .inl (tc 0, 126, .inl (Mf 10))), ((Ma 17), .inl (tc 0, 504, .inl (Mf 17))), ((Ma 18), .inl (tc 0, 4, .inl (Mf 18))), ((Ma 19), .inl (tc 0, 4, .inl (Mf 19))), ((Ma 20), .inl (tc 3, 4, .inl (Mf 20)))] := hD₀
      replace hS := hS₀
      clear hP₀ hD₀ hS₀
      refine lv_aload_n hx hb dX12_back_43 rfl (lv_at hl 0 rfl) ?_
      refine lv_iconst (v := 0) hx hb dX12_back_44 (by decide) ?_
      refine pf_X12_265 hx hb hts hown hK hP hD hS 0 rfl (Nat.le_of_ble_eq_true rfl) rfl rfl dX12_back_45 (fun H locs hP₀ hD₀ hS₀ => ?_)
      replace hP : va_P D classes [((Ma 0), .inr (12, [.ref (Ma 1), .int (Mv 0), .int (Mv 1), .ref (Ma 2), .ref (Ma 3), .ref (Ma 4), .ref (Ma 5), .ref (Ma 6), .int (Mv 2), .int (Mv 3), .int (Mv 4), .int (Mv 5), .int (Mv 6), .int (Mv 7), .int (Mv 8), .ref (Ma 7), .int (Mv 9), .ref (Ma 8), .int (Mv 10), .ref (Ma 9), .ref (Ma 10), .int x_12, .int x_16, .int (Mv 13), .ref (Ma 11), .int 0, .ref (Ma 12), .ref (Ma 13), .ref (Ma 14), .ref (Ma 15), .ref (Ma 16), .long (Mj 0), .ref (Ma 17), .ref (Ma 18), .ref (Ma 19), .ref (Ma 20)])), ((Ma 10), .inl (tc 0, 126, .inl (Mf 10))), ((Ma 17), .inl (tc 0, 504, .inl (Mf 17))), ((Ma 18), .inl (tc 0, 4, .inl (Mf 18))), ((Ma 19), .inl (tc 0, 4, .inl (Mf 19))), ((Ma 20), .inl (tc 3, 4, .inl (Mf 20)))] H := hP₀
      replace hD : va_D A [((Ma 0), .inr (12, [.ref (Ma 1), .int (Mv 0), .int (Mv 1), .ref (Ma 2), .ref (Ma 3), .ref (Ma 4), .ref (Ma 5), .ref (Ma 6), .int (Mv 2), .int (Mv 3), .int (Mv 4), .int (Mv 5), .int (Mv 6), .int (Mv 7), .int (Mv 8), .ref (Ma 7), .int (Mv 9), .ref (Ma 8), .int (Mv 10), .ref (Ma 9), .ref (Ma 10), .int x_12, .int x_16, .int (Mv 13), .ref (Ma 11), .int 0, .ref (Ma 12), .ref (Ma 13), .ref (Ma 14), .ref (Ma 15), .ref (Ma 16), .long (Mj 0), .ref (Ma 17), .ref (Ma 18), .ref (Ma 19), .ref (Ma 20)])), ((Ma 10), .inl (tc 0, 126, .inl (Mf 10))), ((Ma 17), .inl (tc 0, 504, .inl (Mf 17))), ((Ma 18), .inl (tc 0, 4, .inl (Mf 18))), ((Ma 19), .inl (tc 0, 4, .inl (Mf 19))), ((Ma 20), .inl (tc 3, 4, .inl (Mf 20)))] := hD₀
      replace hS := hS₀
      clear hP₀ hD₀ hS₀
      refine lv_iconst (v := 0) hx hb dX12_back_48 (by decide) ?_
      refine lv_istore_n (lv' := [(2, .int 0), (0, .ref (Ma 0)), (1, .int x1)]) hx hb dX12_back_49 rfl hl (by decide) rfl (fun ls hl₀ => ?_)
      replace hl := hl₀
      clear hl₀
      have loop_23 : ∀ (n_21 : Nat) (vy_19 : Int32) (vy_20 : Nat → Int32) (H : Heap) (locs : List Loc) (ls : Array Slot), (126 - (vy_19 : Int32).toInt).toNat < n_21 → (0 ≤ (vy_19 : Int32).toInt) → (BkK vy_20 (Mf 17) x1 vy_19) → va_P D classes [((Ma 0), .inr (12, [.ref (Ma 1), .int (Mv 0), .int (Mv 1), .ref (Ma 2), .ref (Ma 3), .ref (Ma 4), .ref (Ma 5), .ref (Ma 6), .int (Mv 2), .int (Mv 3), .int (Mv 4), .int (Mv 5), .int (Mv 6), .int (Mv 7), .int (Mv 8), .ref (Ma 7), .int (Mv 9), .ref (Ma 8), .int (Mv 10), .ref (Ma 9), .ref (Ma 10), .int x_12, .int x_16, .int (Mv 13), .ref (Ma 11), .int 0, .ref (Ma 12), .ref (Ma 13), .ref (Ma 14), .ref (Ma 15), .ref (Ma 16), .long (Mj 0), .ref (Ma 17), .ref (Ma 18), .ref (Ma 19), .ref (Ma 20)])), ((Ma 10), .inl (tc 0, 126, .inl vy_20)), ((Ma 17), .inl (tc 0, 504, .inl (Mf 17))), ((Ma 18), .inl (tc 0, 4, .inl (Mf 18))), ((Ma 19), .inl (tc 0, 4, .inl (Mf 19))), ((Ma 20), .inl (tc 3, 4, .inl (Mf 20)))] H → va_D A [((Ma 0), .inr (12, [.ref (Ma 1), .int (Mv 0), .int (Mv 1), .ref (Ma 2), .ref (Ma 3), .ref (Ma 4), .ref (Ma 5), .ref (Ma 6), .int (Mv 2), .int (Mv 3), .int (Mv 4), .int (Mv 5), .int (Mv 6), .int (Mv 7), .int (Mv 8), .ref (Ma 7), .int (Mv 9), .ref (Ma 8), .int (Mv 10), .ref (Ma 9), .ref (Ma 10), .int x_12, .int x_16, .int (Mv 13), .ref (Ma 11), .int 0, .ref (Ma 12), .ref (Ma 13), .ref (Ma 14), .ref (Ma 15), .ref (Ma 16), .long (Mj 0), .ref (Ma 17), .ref (Ma 18), .ref (Ma 19), .ref (Ma 20)])), ((Ma 10), .inl (tc 0, 126, .inl vy_20)), ((Ma 17), .inl (tc 0, 504, .inl (Mf 17))), ((Ma 18), .inl (tc 0, 4, .inl (Mf 18))), ((Ma 19), .inl (tc 0, 4, .inl (Mf 19))), ((Ma 20), .inl (tc 3, 4, .inl (Mf 20)))] → va_S A s.heap H locs → lv_has ls 3 [(2, .int vy_19), (0, .ref (Ma 0)), (1, .int x1)] → W p l e ({ frames := 1, cells := 0, slots := 0, locals := 25 }) s m ([.ref (Ma 0), .int x1].toArray) below meth c H locs 0 0 (MQ below (QW (fun (v : Option Value) (u : (Int32) × (Int32) × (Nat → Int32)) => match u with | (oo0x1, oo0x2, oo0x3) => ∃ r : Int32, v = some (.int r) ∧ (True) ∧ (SaidD oo0x3 999) ∧ (-1 ≤ (oo0x1 : Int32).toInt ∧ (oo0x1 : Int32).toInt < ((Mv 1) : Int32).toInt ∧ ((Mv 1) : Int32).toInt ≤ 6) ∧ ((oo0x1 : Int32).toInt = ((Mf 18) x1.toNatClampNeg).toInt)) (BW D (fun (u : (Int32) × (Int32) × (Nat → Int32)) => match u with | (oo0x1, oo0x2, oo0x3) => [((Ma 0), .inr (12, [.ref (Ma 1), .int (Mv 0), .int (Mv 1), .ref (Ma 2), .ref (Ma 3), .ref (Ma 4), .ref (Ma 5), .ref (Ma 6), .int (Mv 2), .int (Mv 3), .int (Mv 4), .int (Mv 5), .int (Mv 6), .int (Mv 7), .int (Mv 8), .ref (Ma 7), .int (Mv 9), .ref (Ma 8), .int (Mv 10), .ref (Ma 9), .ref (Ma 10), .int oo0x1, .int oo0x2, .int (Mv 13), .ref (Ma 11), .int 0, .ref (Ma 12), .ref (Ma 13), .ref (Ma 14), .ref (Ma 15), .ref (Ma 16), .long (Mj 0), .ref (Ma 17), .ref (Ma 18), .ref (Ma 19), .ref (Ma 20)])), ((Ma 10), .inl (tc 0, 126, .inl oo0x3)), ((Ma 17), .inl (tc 0, 504, .inl (Mf 17))), ((Ma 18), .inl (tc 0, 4, .inl (Mf 18))), ((Ma 19), .inl (tc 0, 4, .inl (Mf 19))), ((Ma 20), .inl (tc 3, 4, .inl (Mf 20)))]) A) A) ([.ref (Ma 0), .int x1].toArray) s 0 0 A) (F0 m 50 ls []) := by
        clear hP hD hS hl
        intro n_21
        induction n_21 with
        | zero =>
          intro vy_19 vy_20 H locs ls h1
          exact absurd h1 (Nat.not_lt_zero _)
        | succ n_21 ih_22 =>
          intro vy_19 vy_20 H locs ls hn_26 pf_24 pf_25 hP hD hS hl
          refine lv_iload_n hx hb dX12_back_50 rfl (lv_at hl 0 rfl) ?_
          refine lv_bipush (v := 126) hx hb dX12_back_51 (by decide) ?_
          refine lv_icmp_ge (tgt := 79) hx hb dX12_back_53 (by decide) (fun c_27 => ?_) (fun c_27 => ?_)
          · skip
            refine lv_aload_n hx hb dX12_back_79 rfl (lv_at hl 1 rfl) ?_
            refine gf_X12_39 hx hb hts hown hK hP 0 rfl rfl dX12_back_80 ?_
            refine lv_bipush (v := 10) hx hb dX12_back_83 (by decide) ?_
            refine va_iald hx hb hK hP 1 0 rfl rfl (vin_dec (by decide +kernel)) dX12_back_85 ?_
            refine lv_topi (fun x_28 ex_28 => ?_)
            have lx_28 : x_28.toInt = (vy_20 10).toInt := congrArg Int32.toInt ex_28
            have hr_29 : 126 ≤ (vy_19 : Int32).toInt := by
              have z_1 : ¬ (r_4 : Int32).toInt = (0 : Int32).toInt := fun z => c_7 (Int32.toInt_inj.mp z)
              have z_2 : ¬ (x_9 : Int32).toInt = (0 : Int32).toInt := fun z => c_10 (Int32.toInt_inj.mp z)
              have z_3 := Int32.le_iff_toInt_le.mp c_27
              have y_0 : (0 : Int32).toInt = 0 := by decide
              have y_126 : (126 : Int32).toInt = 126 := by decide
              omega
            have hr_30 : 0 ≤ x1.toInt ∧ x1.toInt < 4 := by
              have z_1 : ¬ (r_4 : Int32).toInt = (0 : Int32).toInt := fun z => c_7 (Int32.toInt_inj.mp z)
              have z_2 : ¬ (x_9 : Int32).toInt = (0 : Int32).toInt := fun z => c_10 (Int32.toInt_inj.mp z)
              have z_3 := Int32.le_iff_toInt_le.mp c_27
              have y_0 : (0 : Int32).toInt = 0 := by decide
              have y_126 : (126 : Int32).toInt = 126 := by decide
              omega
            have ha_31 : -1 ≤ (x_12 : Int32).toInt ∧ (x_12 : Int32).toInt < ((Mv 1) : Int32).toInt ∧ ((Mv 1) : Int32).toInt ≤ 6 := by
              have z_1 : ¬ (r_4 : Int32).toInt = (0 : Int32).toInt := fun z => c_7 (Int32.toInt_inj.mp z)
              have z_2 : ¬ (x_9 : Int32).toInt = (0 : Int32).toInt := fun z => c_10 (Int32.toInt_inj.mp z)
              have z_3 := Int32.le_iff_toInt_le.mp c_27
              have y_0 : (0 : Int32).toInt = 0 := by decide
              have y_126 : (126 : Int32).toInt = 126 := by decide
              omega
            have ha_32 : (x_12 : Int32).toInt = ((Mf 18) x1.toNatClampNeg).toInt := by
              have z_1 : ¬ (r_4 : Int32).toInt = (0 : Int32).toInt := fun z => c_7 (Int32.toInt_inj.mp z)
              have z_2 : ¬ (x_9 : Int32).toInt = (0 : Int32).toInt := fun z => c_10 (Int32.toInt_inj.mp z)
              have z_3 := Int32.le_iff_toInt_le.mp c_27
              have y_0 : (0 : Int32).toInt = 0 := by decide
              have y_126 : (126 : Int32).toInt = 126 := by decide
              omega
            exact retI (v := x_28) hx hb hr hlk (rfl) hP hD hS (x_12, x_16, vy_20) ⟨_, rfl, trivial, (BkK.done pf_25 h_img hr_29 hr_30), ha_31, ha_32⟩ [0, 1, 2, 3, 4, 5] rfl rfl dX12_back_86 (Nat.le_of_ble_eq_true rfl) (Nat.le_of_ble_eq_true rfl) rfl
          · skip
            refine lv_aload_n hx hb dX12_back_56 rfl (lv_at hl 1 rfl) ?_
            refine gf_X12_39 hx hb hts hown hK hP 0 rfl rfl dX12_back_57 ?_
            refine lv_iload_n hx hb dX12_back_60 rfl (lv_at hl 0 rfl) ?_
            refine lv_aload_n hx hb dX12_back_61 rfl (lv_at hl 1 rfl) ?_
            refine gf_X12_65 hx hb hts hown hK hP 0 rfl rfl dX12_back_62 ?_
            refine lv_bipush (v := 126) hx hb dX12_back_65 (by decide) ?_
            refine lv_iload_n hx hb dX12_back_67 rfl (lv_at hl 2 rfl) ?_
            refine lv_imul hx hb dX12_back_68 ?_
            refine lv_topi (fun x_33 ex_33 => ?_)
            refine lv_iload_n hx hb dX12_back_69 rfl (lv_at hl 0 rfl) ?_
            refine lv_iadd hx hb dX12_back_70 ?_
            refine lv_topi (fun x_34 ex_34 => ?_)
            have hi_35 : vp_in x_34 504 := by
              have z_1 : ¬ (r_4 : Int32).toInt = (0 : Int32).toInt := fun z => c_7 (Int32.toInt_inj.mp z)
              have z_2 : ¬ (x_9 : Int32).toInt = (0 : Int32).toInt := fun z => c_10 (Int32.toInt_inj.mp z)
              have z_3 := Int32.lt_iff_toInt_lt.mp (Int32.not_le.mp c_27)
              have y_0 : (0 : Int32).toInt = 0 := by decide
              have y_126 : (126 : Int32).toInt = 126 := by decide
              have t_x_33 : x_33.toInt = (126 : Int32).toInt * (x1 : Int32).toInt := by rw [ex_33]; exact mul_toInt (by first | omega | (rw [y_126]; omega)) (by first | omega | (rw [y_126]; omega))
              rw [y_126] at t_x_33
              have t_x_34 : x_34.toInt = (x_33 : Int32).toInt + (vy_19 : Int32).toInt := by rw [ex_34]; exact add_toInt (by omega) (by omega)
              refine vp_in_iff.mpr ⟨?_, ?_⟩ <;> omega
            refine va_iald hx hb hK hP 2 0 rfl rfl hi_35 dX12_back_71 ?_
            refine lv_topi (fun x_36 ex_36 => ?_)
            have hi_37 : vp_in vy_19 126 := by
              have z_1 : ¬ (r_4 : Int32).toInt = (0 : Int32).toInt := fun z => c_7 (Int32.toInt_inj.mp z)
              have z_2 : ¬ (x_9 : Int32).toInt = (0 : Int32).toInt := fun z => c_10 (Int32.toInt_inj.mp z)
              have z_3 := Int32.lt_iff_toInt_lt.mp (Int32.not_le.mp c_27)
              have y_0 : (0 : Int32).toInt = 0 := by decide
              have y_126 : (126 : Int32).toInt = 126 := by decide
              refine vp_in_iff.mpr ⟨?_, ?_⟩ <;> omega
            refine st_int hx hb hK hP hD hS 1 0 rfl rfl hi_37 dX12_back_72 (fun g_38 H locs eg_38 hP₀ hD₀ hS₀ => ?_)
            replace hP : va_P D classes [((Ma 0), .inr (12, [.ref (Ma 1), .int (Mv 0), .int (Mv 1), .ref (Ma 2), .ref (Ma 3), .ref (Ma 4), .ref (Ma 5), .ref (Ma 6), .int (Mv 2), .int (Mv 3), .int (Mv 4), .int (Mv 5), .int (Mv 6), .int (Mv 7), .int (Mv 8), .ref (Ma 7), .int (Mv 9), .ref (Ma 8), .int (Mv 10), .ref (Ma 9), .ref (Ma 10), .int x_12, .int x_16, .int (Mv 13), .ref (Ma 11), .int 0, .ref (Ma 12), .ref (Ma 13), .ref (Ma 14), .ref (Ma 15), .ref (Ma 16), .long (Mj 0), .ref (Ma 17), .ref (Ma 18), .ref (Ma 19), .ref (Ma 20)])), ((Ma 10), .inl (tc 0, 126, .inl g_38)), ((Ma 17), .inl (tc 0, 504, .inl (Mf 17))), ((Ma 18), .inl (tc 0, 4, .inl (Mf 18))), ((Ma 19), .inl (tc 0, 4, .inl (Mf 19))), ((Ma 20), .inl (tc 3, 4, .inl (Mf 20)))] H := hP₀
            replace hD : va_D A [((Ma 0), .inr (12, [.ref (Ma 1), .int (Mv 0), .int (Mv 1), .ref (Ma 2), .ref (Ma 3), .ref (Ma 4), .ref (Ma 5), .ref (Ma 6), .int (Mv 2), .int (Mv 3), .int (Mv 4), .int (Mv 5), .int (Mv 6), .int (Mv 7), .int (Mv 8), .ref (Ma 7), .int (Mv 9), .ref (Ma 8), .int (Mv 10), .ref (Ma 9), .ref (Ma 10), .int x_12, .int x_16, .int (Mv 13), .ref (Ma 11), .int 0, .ref (Ma 12), .ref (Ma 13), .ref (Ma 14), .ref (Ma 15), .ref (Ma 16), .long (Mj 0), .ref (Ma 17), .ref (Ma 18), .ref (Ma 19), .ref (Ma 20)])), ((Ma 10), .inl (tc 0, 126, .inl g_38)), ((Ma 17), .inl (tc 0, 504, .inl (Mf 17))), ((Ma 18), .inl (tc 0, 4, .inl (Mf 18))), ((Ma 19), .inl (tc 0, 4, .inl (Mf 19))), ((Ma 20), .inl (tc 3, 4, .inl (Mf 20)))] := hD₀
            replace hS := hS₀
            clear hP₀ hD₀ hS₀
            obtain ⟨x_39, ex_39⟩ : ∃ y : Int32, y = vy_19 + 1 := ⟨_, rfl⟩
            refine lv_iinc (v := x_39) (lv' := [(2, .int x_39), (0, .ref (Ma 0)), (1, .int x1)]) hx hb dX12_back_73 hl (k := 0) rfl (by rw [ex_39]; rfl) (by decide) rfl (fun ls hl₀ => ?_)
            replace hl := hl₀
            clear hl₀
            refine lv_goto (tgt := 50) hx hb dX12_back_76 (by decide) ?_
            have hb_40 : 126 - (x_39 : Int32).toInt < 126 - (vy_19 : Int32).toInt ∧ 1 ≤ 126 - (vy_19 : Int32).toInt := by
              have z_1 : ¬ (r_4 : Int32).toInt = (0 : Int32).toInt := fun z => c_7 (Int32.toInt_inj.mp z)
              have z_2 : ¬ (x_9 : Int32).toInt = (0 : Int32).toInt := fun z => c_10 (Int32.toInt_inj.mp z)
              have z_3 := Int32.lt_iff_toInt_lt.mp (Int32.not_le.mp c_27)
              have y_0 : (0 : Int32).toInt = 0 := by decide
              have y_126 : (126 : Int32).toInt = 126 := by decide
              have y_1 : (1 : Int32).toInt = 1 := by decide
              have t_x_39 : x_39.toInt = (vy_19 : Int32).toInt + (1 : Int32).toInt := by rw [ex_39]; exact add_toInt (by omega) (by omega)
              omega
            have ha_41 : 0 ≤ (x_39 : Int32).toInt := by
              have z_1 : ¬ (r_4 : Int32).toInt = (0 : Int32).toInt := fun z => c_7 (Int32.toInt_inj.mp z)
              have z_2 : ¬ (x_9 : Int32).toInt = (0 : Int32).toInt := fun z => c_10 (Int32.toInt_inj.mp z)
              have z_3 := Int32.lt_iff_toInt_lt.mp (Int32.not_le.mp c_27)
              have y_0 : (0 : Int32).toInt = 0 := by decide
              have y_126 : (126 : Int32).toInt = 126 := by decide
              have y_1 : (1 : Int32).toInt = 1 := by decide
              have t_x_39 : x_39.toInt = (vy_19 : Int32).toInt + (1 : Int32).toInt := by rw [ex_39]; exact add_toInt (by omega) (by omega)
              omega
            have hi_43 : (x_34 : Int32).toInt = 126 * x1.toInt + (vy_19 : Int32).toInt := by
              have z_1 : ¬ (r_4 : Int32).toInt = (0 : Int32).toInt := fun z => c_7 (Int32.toInt_inj.mp z)
              have z_2 : ¬ (x_9 : Int32).toInt = (0 : Int32).toInt := fun z => c_10 (Int32.toInt_inj.mp z)
              have z_3 := Int32.lt_iff_toInt_lt.mp (Int32.not_le.mp c_27)
              have y_0 : (0 : Int32).toInt = 0 := by decide
              have y_126 : (126 : Int32).toInt = 126 := by decide
              have t_x_33 : x_33.toInt = (126 : Int32).toInt * (x1 : Int32).toInt := by rw [ex_33]; exact mul_toInt (by first | omega | (rw [y_126]; omega)) (by first | omega | (rw [y_126]; omega))
              rw [y_126] at t_x_33
              have t_x_34 : x_34.toInt = (x_33 : Int32).toInt + (vy_19 : Int32).toInt := by rw [ex_34]; exact add_toInt (by omega) (by omega)
              omega
            have hr_44 : 0 ≤ (vy_19 : Int32).toInt ∧ (vy_19 : Int32).toInt < 126 := by
              have z_1 : ¬ (r_4 : Int32).toInt = (0 : Int32).toInt := fun z => c_7 (Int32.toInt_inj.mp z)
              have z_2 : ¬ (x_9 : Int32).toInt = (0 : Int32).toInt := fun z => c_10 (Int32.toInt_inj.mp z)
              have z_3 := Int32.lt_iff_toInt_lt.mp (Int32.not_le.mp c_27)
              have y_0 : (0 : Int32).toInt = 0 := by decide
              have y_126 : (126 : Int32).toInt = 126 := by decide
              omega
            have hi_45 : (x_39 : Int32).toInt = (vy_19 : Int32).toInt + 1 := by
              have z_1 : ¬ (r_4 : Int32).toInt = (0 : Int32).toInt := fun z => c_7 (Int32.toInt_inj.mp z)
              have z_2 : ¬ (x_9 : Int32).toInt = (0 : Int32).toInt := fun z => c_10 (Int32.toInt_inj.mp z)
              have z_3 := Int32.lt_iff_toInt_lt.mp (Int32.not_le.mp c_27)
              have y_0 : (0 : Int32).toInt = 0 := by decide
              have y_126 : (126 : Int32).toInt = 126 := by decide
              have y_1 : (1 : Int32).toInt = 1 := by decide
              have t_x_39 : x_39.toInt = (vy_19 : Int32).toInt + (1 : Int32).toInt := by rw [ex_39]; exact add_toInt (by omega) (by omega)
              omega
            have hr_46 : 0 ≤ x1.toInt ∧ x1.toInt < 4 := by
              have z_1 : ¬ (r_4 : Int32).toInt = (0 : Int32).toInt := fun z => c_7 (Int32.toInt_inj.mp z)
              have z_2 : ¬ (x_9 : Int32).toInt = (0 : Int32).toInt := fun z => c_10 (Int32.toInt_inj.mp z)
              have z_3 := Int32.lt_iff_toInt_lt.mp (Int32.not_le.mp c_27)
              have y_0 : (0 : Int32).toInt = 0 := by decide
              have y_126 : (126 : Int32).toInt = 126 := by decide
              omega
            have ha_42 : BkK g_38 (Mf 17) x1 x_39 := BkK.step pf_25 eg_38 ex_36 hi_43 hr_44 hi_45 hr_46
            exact ih_22 x_39 g_38 _ _ _ (by omega) ha_41 ha_42 (hP.sub [0, 1, 2, 3, 4, 5] rfl) (hD.sub [0, 1, 2, 3, 4, 5] rfl rfl) hS (lv_sub hl [0, 1, 2] rfl)
      have ha_47 : 0 ≤ (0 : Int32).toInt := by
        have z_1 : ¬ (r_4 : Int32).toInt = (0 : Int32).toInt := fun z => c_7 (Int32.toInt_inj.mp z)
        have z_2 : ¬ (x_9 : Int32).toInt = (0 : Int32).toInt := fun z => c_10 (Int32.toInt_inj.mp z)
        have y_0 : (0 : Int32).toInt = 0 := by decide
        omega
      have ha_48 : BkK (Mf 10) (Mf 17) x1 0 := BkK.start (by decide)
      exact loop_23 _ 0 (Mf 10) _ _ _ (Nat.lt_succ_self _) ha_47 ha_48 hP hD hS hl
    · skip
      exfalso
      have z_1 : ¬ (r_4 : Int32).toInt = (0 : Int32).toInt := fun z => c_7 (Int32.toInt_inj.mp z)
      have z_2 := congrArg Int32.toInt c_10
      have y_0 : (0 : Int32).toInt = 0 := by decide
      omega
set_option maxRecDepth 100000 in
theorem cu_fX12_back_m (l : Launch) (D : va_G) (tc : Nat → ClassId) (sk : (Nat → Nat) × (Nat → Nat)) (Ma_0 : Nat) (Ma_1 : Nat) (Ma_2 : Nat) (Ma_3 : Nat) (Ma_4 : Nat) (Ma_5 : Nat) (Ma_6 : Nat) (Ma_7 : Nat) (Ma_8 : Nat) (Ma_9 : Nat) (Ma_10 : Nat) (Ma_11 : Nat) (Ma_12 : Nat) (Ma_13 : Nat) (Ma_14 : Nat) (Ma_15 : Nat) (Ma_16 : Nat) (Ma_17 : Nat) (Ma_18 : Nat) (Ma_19 : Nat) (Ma_20 : Nat) (Mv_0 : Int32) (Mv_1 : Int32) (Mv_2 : Int32) (Mv_3 : Int32) (Mv_4 : Int32) (Mv_5 : Int32) (Mv_6 : Int32) (Mv_7 : Int32) (Mv_8 : Int32) (Mv_9 : Int32) (Mv_10 : Int32) (Mv_11 : Int32) (Mv_12 : Int32) (Mv_13 : Int32) (Mv_14 : Int32) (Mf_10 : Nat → Int32) (Mf_17 : Nat → Int32) (Mf_18 : Nat → Int32) (Mf_19 : Nat → Int32) (Mf_20 : Nat → Int32) (Mj_0 : Int64) (x1 : Int32) (h_k : 0 ≤ x1.toInt ∧ x1.toInt ≤ 3) (h_m : ¬ (Mf_20 x1.toNatClampNeg).toInt = 0) (h_said : SaidD Mf_10 999) (h_img : ImgD Mf_17) (h_frd : FrcD Mf_18 Mf_20 Mv_1) (h_frc : -1 ≤ Mv_11.toInt ∧ Mv_11.toInt < Mv_1.toInt ∧ Mv_1.toInt ≤ 6) : Ct l yX12_back cX12_back 3 (some .int) { frames := 1, cells := 0, slots := 0, locals := 25 } D tc sk [.ref Ma_0, .int x1] [(Ma_0, .inr (12, [.ref Ma_1, .int Mv_0, .int Mv_1, .ref Ma_2, .ref Ma_3, .ref Ma_4, .ref Ma_5, .ref Ma_6, .int Mv_2, .int Mv_3, .int Mv_4, .int Mv_5, .int Mv_6, .int Mv_7, .int Mv_8, .ref Ma_7, .int Mv_9, .ref Ma_8, .int Mv_10, .ref Ma_9, .ref Ma_10, .int Mv_11, .int Mv_12, .int Mv_13, .ref Ma_11, .int Mv_14, .ref Ma_12, .ref Ma_13, .ref Ma_14, .ref Ma_15, .ref Ma_16, .long Mj_0, .ref Ma_17, .ref Ma_18, .ref Ma_19, .ref Ma_20])), (Ma_10, .inl (tc 0, 126, .inl Mf_10)), (Ma_17, .inl (tc 0, 504, .inl Mf_17)), (Ma_18, .inl (tc 0, 4, .inl Mf_18)), (Ma_19, .inl (tc 0, 4, .inl Mf_19)), (Ma_20, .inl (tc 3, 4, .inl Mf_20))] (fun (v : Option Value) (u : (Int32) × (Int32) × (Nat → Int32)) => match u with | (oo0x1, oo0x2, oo0x3) => ∃ r : Int32, v = some (.int r) ∧ (True) ∧ (SaidD oo0x3 999) ∧ (-1 ≤ (oo0x1 : Int32).toInt ∧ (oo0x1 : Int32).toInt < (Mv_1 : Int32).toInt ∧ (Mv_1 : Int32).toInt ≤ 6) ∧ ((oo0x1 : Int32).toInt = (Mf_18 x1.toNatClampNeg).toInt)) (fun (u : (Int32) × (Int32) × (Nat → Int32)) => match u with | (oo0x1, oo0x2, oo0x3) => [(Ma_0, .inr (12, [.ref Ma_1, .int Mv_0, .int Mv_1, .ref Ma_2, .ref Ma_3, .ref Ma_4, .ref Ma_5, .ref Ma_6, .int Mv_2, .int Mv_3, .int Mv_4, .int Mv_5, .int Mv_6, .int Mv_7, .int Mv_8, .ref Ma_7, .int Mv_9, .ref Ma_8, .int Mv_10, .ref Ma_9, .ref Ma_10, .int oo0x1, .int oo0x2, .int Mv_13, .ref Ma_11, .int 0, .ref Ma_12, .ref Ma_13, .ref Ma_14, .ref Ma_15, .ref Ma_16, .long Mj_0, .ref Ma_17, .ref Ma_18, .ref Ma_19, .ref Ma_20])), (Ma_10, .inl (tc 0, 126, .inl oo0x3)), (Ma_17, .inl (tc 0, 504, .inl Mf_17)), (Ma_18, .inl (tc 0, 4, .inl Mf_18)), (Ma_19, .inl (tc 0, 4, .inl Mf_19)), (Ma_20, .inl (tc 3, 4, .inl Mf_20))]) 0 0 :=
  ct_fX12_back_m l D tc sk (fun k => ([Ma_0, Ma_1, Ma_2, Ma_3, Ma_4, Ma_5, Ma_6, Ma_7, Ma_8, Ma_9, Ma_10, Ma_11, Ma_12, Ma_13, Ma_14, Ma_15, Ma_16, Ma_17, Ma_18, Ma_19, Ma_20] : List (Nat)).getD k 0) (fun k => ([Mv_0, Mv_1, Mv_2, Mv_3, Mv_4, Mv_5, Mv_6, Mv_7, Mv_8, Mv_9, Mv_10, Mv_11, Mv_12, Mv_13, Mv_14] : List (Int32)).getD k 0) (fun k => ([(fun _ => 0), (fun _ => 0), (fun _ => 0), (fun _ => 0), (fun _ => 0), (fun _ => 0), (fun _ => 0), (fun _ => 0), (fun _ => 0), (fun _ => 0), Mf_10, (fun _ => 0), (fun _ => 0), (fun _ => 0), (fun _ => 0), (fun _ => 0), (fun _ => 0), Mf_17, Mf_18, Mf_19, Mf_20] : List (Nat → Int32)).getD k (fun _ => 0)) (fun k => ([Mj_0] : List (Int64)).getD k 0) x1 h_k h_m h_said h_img h_frd h_frc
