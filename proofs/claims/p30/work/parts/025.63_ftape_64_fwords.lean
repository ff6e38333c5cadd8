set_option maxRecDepth 100000 in
theorem cu_fX10_step (l : Launch) (D : va_G) (tc : Nat → ClassId) (sk : (Nat → Nat) × (Nat → Nat)) (Ta_0 : Nat) (Ta_1 : Nat) (Tv_0 : Int32) (Tv_1 : Int32) (Tv_2 : Int32) (Tv_3 : Int32) (Tv_4 : Int32) (Tf_1 : Nat → Int32) (rr : Except Int (Nat × Nat)) (h_tape : 0 ≤ (Tv_0 : Int32).toInt ∧ (Tv_0 : Int32).toInt ≤ 400 ∧ 0 ≤ (Tv_1 : Int32).toInt ∧ (Tv_1 : Int32).toInt ≤ 400 ∧ 0 ≤ (Tv_2 : Int32).toInt ∧ (Tv_2 : Int32).toInt ≤ 400) (h_by : Byt Tf_1) (h_tb : TpB rr Tv_2 Tv_4) : Ct l yX10_step cX10_step 2 none { frames := 1, cells := 0, slots := 0, locals := 21 } D tc sk [.ref Ta_0] [(Ta_0, .inr (10, [.ref Ta_1, .int Tv_0, .int Tv_1, .int Tv_2, .int Tv_3, .int Tv_4])), (Ta_1, .inl (tc 0, 400, .inl Tf_1))] (fun (v : Option Value) (u : (Int32) × (Int32) × (Int32)) => match u with | (oo0x1, oo0x2, oo0x3) => v = none ∧ (0 ≤ (Tv_0 : Int32).toInt ∧ (Tv_0 : Int32).toInt ≤ 400 ∧ 0 ≤ (oo0x1 : Int32).toInt ∧ (oo0x1 : Int32).toInt ≤ 400 ∧ 0 ≤ (oo0x2 : Int32).toInt ∧ (oo0x2 : Int32).toInt ≤ 400) ∧ (TpR Tf_1 Tv_0 (rSK (cB Tf_1 Tv_0) rr) oo0x1 oo0x2 oo0x3 Tv_4)) (fun (u : (Int32) × (Int32) × (Int32)) => match u with | (oo0x1, oo0x2, oo0x3) => [(Ta_0, .inr (10, [.ref Ta_1, .int Tv_0, .int oo0x1, .int oo0x2, .int oo0x3, .int Tv_4])), (Ta_1, .inl (tc 0, 400, .inl Tf_1))]) 0 0 :=
  ct_fX10_step l D tc sk (fun k => ([Ta_0, Ta_1] : List (Nat)).getD k 0) (fun k => ([Tv_0, Tv_1, Tv_2, Tv_3, Tv_4] : List (Int32)).getD k 0) (fun k => ([(fun _ => 0), Tf_1] : List (Nat → Int32)).getD k (fun _ => 0)) rr h_tape h_by h_tb
set_option maxHeartbeats 4000000 in
set_option maxRecDepth 100000 in
theorem ct_fX10_begin (l : Launch) (D : va_G) (tc : Nat → ClassId) (sk : (Nat → Nat) × (Nat → Nat)) (Ta : Nat → Nat) (Tv : Nat → Int32) (Tf : Nat → Nat → Int32) (h_tape : 0 ≤ ((Tv 0) : Int32).toInt ∧ ((Tv 0) : Int32).toInt ≤ 400 ∧ 0 ≤ ((Tv 1) : Int32).toInt ∧ ((Tv 1) : Int32).toInt ≤ 400 ∧ 0 ≤ ((Tv 2) : Int32).toInt ∧ ((Tv 2) : Int32).toInt ≤ 400) (h_by : Byt (Tf 1)) : Ct l yX10_begin cX10_begin 1 none { frames := 2, cells := 0, slots := 0, locals := 42 } D tc sk [.ref (Ta 0)] [((Ta 0), .inr (10, [.ref (Ta 1), .int (Tv 0), .int (Tv 1), .int (Tv 2), .int (Tv 3), .int (Tv 4)])), ((Ta 1), .inl (tc 0, 400, .inl (Tf 1)))] (fun (v : Option Value) (u : (Int32) × (Int32) × (Int32)) => match u with | (oo0x1, oo0x2, oo0x3) => v = none ∧ (0 ≤ ((Tv 0) : Int32).toInt ∧ ((Tv 0) : Int32).toInt ≤ 400 ∧ 0 ≤ (oo0x1 : Int32).toInt ∧ (oo0x1 : Int32).toInt ≤ 400 ∧ 0 ≤ (oo0x2 : Int32).toInt ∧ (oo0x2 : Int32).toInt ≤ 400) ∧ (TpR (Tf 1) (Tv 0) (rSK (cB (Tf 1) (Tv 0)) (.ok (0, 0))) oo0x1 oo0x2 oo0x3 0)) (fun (u : (Int32) × (Int32) × (Int32)) => match u with | (oo0x1, oo0x2, oo0x3) => [((Ta 0), .inr (10, [.ref (Ta 1), .int (Tv 0), .int oo0x1, .int oo0x2, .int oo0x3, .int 0])), ((Ta 1), .inl (tc 0, 400, .inl (Tf 1)))]) 0 0 := by
  refine Ct.start (by decide) (Nat.le_of_ble_eq_true rfl) (fun p e s m below meth c A ls hx hb hr hlk hin hml hown hts hK hX hP hD hA hl hS => ?_)
  have hl : lv_has ls 1 [(0, .ref (Ta 0))] := hl
  refine lv_aload_n hx hb dX10_begin_0 rfl (lv_at hl 0 rfl) ?_
  refine lv_iconst (v := 0) hx hb dX10_begin_1 (by decide) ?_
  refine pf_X10_28 hx hb hts hown hK hP hD hS 0 rfl (Nat.le_of_ble_eq_true rfl) rfl rfl dX10_begin_2 (fun H locs hP₀ hD₀ hS₀ => ?_)
  replace hP : va_P D classes [((Ta 0), .inr (10, [.ref (Ta 1), .int (Tv 0), .int (Tv 1), .int (Tv 2), .int (Tv 3), .int 0])), ((Ta 1), .inl (tc 0, 400, .inl (Tf 1)))] H := hP₀
  replace hD : va_D A [((Ta 0), .inr (10, [.ref (Ta 1), .int (Tv 0), .int (Tv 1), .int (Tv 2), .int (Tv 3), .int 0])), ((Ta 1), .inl (tc 0, 400, .inl (Tf 1)))] := hD₀
  replace hS := hS₀
  clear hP₀ hD₀ hS₀
  refine lv_aload_n hx hb dX10_begin_5 rfl (lv_at hl 0 rfl) ?_
  refine lv_iconst (v := 0) hx hb dX10_begin_6 (by decide) ?_
  refine pf_X10_22 hx hb hts hown hK hP hD hS 0 rfl (Nat.le_of_ble_eq_true rfl) rfl rfl dX10_begin_7 (fun H locs hP₀ hD₀ hS₀ => ?_)
  replace hP : va_P D classes [((Ta 0), .inr (10, [.ref (Ta 1), .int (Tv 0), .int (Tv 1), .int 0, .int (Tv 3), .int 0])), ((Ta 1), .inl (tc 0, 400, .inl (Tf 1)))] H := hP₀
  replace hD : va_D A [((Ta 0), .inr (10, [.ref (Ta 1), .int (Tv 0), .int (Tv 1), .int 0, .int (Tv 3), .int 0])), ((Ta 1), .inl (tc 0, 400, .inl (Tf 1)))] := hD₀
  replace hS := hS₀
  clear hP₀ hD₀ hS₀
  refine lv_aload_n hx hb dX10_begin_10 rfl (lv_at hl 0 rfl) ?_
  have ha_1 : 0 ≤ ((Tv 0) : Int32).toInt ∧ ((Tv 0) : Int32).toInt ≤ 400 ∧ 0 ≤ ((Tv 1) : Int32).toInt ∧ ((Tv 1) : Int32).toInt ≤ 400 ∧ 0 ≤ ((0 : Int32) : Int32).toInt ∧ ((0 : Int32) : Int32).toInt ≤ 400 := by
    have y_0 : (0 : Int32).toInt = 0 := by decide
    omega
  refine cV (a := (Ta 0)) (As := []) (rest := []) (wr := []) ⟨hx, hb, hml, hown, hts⟩ hK hX hA (cu_fX10_step l D tc sk (Ta 0) (Ta 1) (Tv 0) (Tv 1) 0 (Tv 3) 0 (Tf 1) (.ok (0, 0)) ha_1 h_by (⟨by decide, by decide⟩)) k_478 k_475 k_476 k_477 k_96 pl_X10_step ⟨Nat.le_of_ble_eq_true rfl, Nat.le_of_ble_eq_true rfl⟩ rfl rfl (va_recv hK hP (ci := 10) (q0 := 0) rfl rfl) hP hD hS [0, 1] [] rfl rfl rfl rfl rfl (by decide) rfl hl.1 rfl (Nat.le_of_ble_eq_true rfl) dX10_begin_11 ⟨Nat.le_of_ble_eq_true rfl, Nat.le_of_ble_eq_true rfl⟩ (fun v_2 u_3 H locs hv_4 hP₀ hD₀ hS₀ => ?_)
  obtain ⟨sv_5, sv_6, sv_7⟩ := u_3
  obtain ⟨rfl, pf_8, pf_9⟩ := hv_4
  have pf_8 : 0 ≤ ((Tv 0) : Int32).toInt ∧ ((Tv 0) : Int32).toInt ≤ 400 ∧ 0 ≤ (sv_5 : Int32).toInt ∧ (sv_5 : Int32).toInt ≤ 400 ∧ 0 ≤ (sv_6 : Int32).toInt ∧ (sv_6 : Int32).toInt ≤ 400 := pf_8
  have pf_9 : TpR (Tf 1) (Tv 0) (rSK (cB (Tf 1) (Tv 0)) (.ok (0, 0))) sv_5 sv_6 sv_7 (0 : Int32) := pf_9
  obtain ⟨ro_10, ero_10⟩ : ∃ z : Except Int (Nat × Nat), z = (rSK (cB (Tf 1) (Tv 0)) (.ok (0, 0))) := ⟨_, rfl⟩
  rw [← ero_10] at pf_9
  have tb_11 : TpB (rTE (cB (Tf 1) (Tv 0)) ro_10) sv_6 (0 : Int32) := TpR.tb pf_9
  refine W.eq (g2 := F0 m 14 ls []) rfl ?_
  replace hP : va_P D classes [((Ta 0), .inr (10, [.ref (Ta 1), .int (Tv 0), .int sv_5, .int sv_6, .int sv_7, .int 0])), ((Ta 1), .inl (tc 0, 400, .inl (Tf 1)))] H := hP₀
  replace hD : va_D A [((Ta 0), .inr (10, [.ref (Ta 1), .int (Tv 0), .int sv_5, .int sv_6, .int sv_7, .int 0])), ((Ta 1), .inl (tc 0, 400, .inl (Tf 1)))] := hD₀
  replace hS := hS₀
  clear hP₀ hD₀ hS₀
  have hf_12 : TpR (Tf 1) (Tv 0) (rSK (cB (Tf 1) (Tv 0)) (.ok (0, 0))) sv_5 sv_6 sv_7 0 := by
    have hE_13 : (rSK (cB (Tf 1) (Tv 0)) (.ok (0, 0))) = ro_10 := by
      rw [ero_10]
    rw [hE_13]
    exact pf_9
  exact retV hx hb hr hlk hP hD hS (sv_5, sv_6, sv_7) ⟨rfl, pf_8, hf_12⟩ [0, 1] rfl rfl dX10_begin_14 (Nat.le_of_ble_eq_true rfl) (Nat.le_of_ble_eq_true rfl) rfl
set_option maxRecDepth 100000 in
theorem cu_fX10_begin (l : Launch) (D : va_G) (tc : Nat → ClassId) (sk : (Nat → Nat) × (Nat → Nat)) (Ta_0 : Nat) (Ta_1 : Nat) (Tv_0 : Int32) (Tv_1 : Int32) (Tv_2 : Int32) (Tv_3 : Int32) (Tv_4 : Int32) (Tf_1 : Nat → Int32) (h_tape : 0 ≤ (Tv_0 : Int32).toInt ∧ (Tv_0 : Int32).toInt ≤ 400 ∧ 0 ≤ (Tv_1 : Int32).toInt ∧ (Tv_1 : Int32).toInt ≤ 400 ∧ 0 ≤ (Tv_2 : Int32).toInt ∧ (Tv_2 : Int32).toInt ≤ 400) (h_by : Byt Tf_1) : Ct l yX10_begin cX10_begin 1 none { frames := 2, cells := 0, slots := 0, locals := 42 } D tc sk [.ref Ta_0] [(Ta_0, .inr (10, [.ref Ta_1, .int Tv_0, .int Tv_1, .int Tv_2, .int Tv_3, .int Tv_4])), (Ta_1, .inl (tc 0, 400, .inl Tf_1))] (fun (v : Option Value) (u : (Int32) × (Int32) × (Int32)) => match u with | (oo0x1, oo0x2, oo0x3) => v = none ∧ (0 ≤ (Tv_0 : Int32).toInt ∧ (Tv_0 : Int32).toInt ≤ 400 ∧ 0 ≤ (oo0x1 : Int32).toInt ∧ (oo0x1 : Int32).toInt ≤ 400 ∧ 0 ≤ (oo0x2 : Int32).toInt ∧ (oo0x2 : Int32).toInt ≤ 400) ∧ (TpR Tf_1 Tv_0 (rSK (cB Tf_1 Tv_0) (.ok (0, 0))) oo0x1 oo0x2 oo0x3 0)) (fun (u : (Int32) × (Int32) × (Int32)) => match u with | (oo0x1, oo0x2, oo0x3) => [(Ta_0, .inr (10, [.ref Ta_1, .int Tv_0, .int oo0x1, .int oo0x2, .int oo0x3, .int 0])), (Ta_1, .inl (tc 0, 400, .inl Tf_1))]) 0 0 :=
  ct_fX10_begin l D tc sk (fun k => ([Ta_0, Ta_1] : List (Nat)).getD k 0) (fun k => ([Tv_0, Tv_1, Tv_2, Tv_3, Tv_4] : List (Int32)).getD k 0) (fun k => ([(fun _ => 0), Tf_1] : List (Nat → Int32)).getD k (fun _ => 0)) h_tape h_by
set_option maxHeartbeats 4000000 in
set_option maxRecDepth 100000 in
theorem ct_fX10_fail (l : Launch) (D : va_G) (tc : Nat → ClassId) (sk : (Nat → Nat) × (Nat → Nat)) (Ta : Nat → Nat) (Tv : Nat → Int32) (Tf : Nat → Nat → Int32) (x1 : Int32) (rr : Except Int (Nat × Nat)) (k : Int) (h_tape : 0 ≤ ((Tv 0) : Int32).toInt ∧ ((Tv 0) : Int32).toInt ≤ 400 ∧ 0 ≤ ((Tv 1) : Int32).toInt ∧ ((Tv 1) : Int32).toInt ≤ 400 ∧ 0 ≤ ((Tv 2) : Int32).toInt ∧ ((Tv 2) : Int32).toInt ≤ 400) (h_r : TpR (Tf 1) (Tv 0) rr (Tv 1) (Tv 2) (Tv 3) (Tv 4)) (h_k : 0 ≤ x1.toInt ∧ x1.toInt ≤ 4) (h_kk : x1.toInt = k) : Ct l yX10_fail cX10_fail 2 none { frames := 0, cells := 0, slots := 0, locals := 0 } D tc sk [.ref (Ta 0), .int x1] [((Ta 0), .inr (10, [.ref (Ta 1), .int (Tv 0), .int (Tv 1), .int (Tv 2), .int (Tv 3), .int (Tv 4)])), ((Ta 1), .inl (tc 0, 400, .inl (Tf 1)))] (fun (v : Option Value) (u : (Int32) × (Int32)) => match u with | (oo0x1, oo0x2) => v = none ∧ (0 ≤ ((Tv 0) : Int32).toInt ∧ ((Tv 0) : Int32).toInt ≤ 400 ∧ 0 ≤ ((Tv 1) : Int32).toInt ∧ ((Tv 1) : Int32).toInt ≤ 400 ∧ 0 ≤ ((Tv 2) : Int32).toInt ∧ ((Tv 2) : Int32).toInt ≤ 400) ∧ (TpR (Tf 1) (Tv 0) (rER k rr) (Tv 1) (Tv 2) oo0x1 oo0x2)) (fun (u : (Int32) × (Int32)) => match u with | (oo0x1, oo0x2) => [((Ta 0), .inr (10, [.ref (Ta 1), .int (Tv 0), .int (Tv 1), .int (Tv 2), .int oo0x1, .int oo0x2])), ((Ta 1), .inl (tc 0, 400, .inl (Tf 1)))]) 0 0 := by
  refine Ct.start (by decide) (Nat.le_of_ble_eq_true rfl) (fun p e s m below meth c A ls hx hb hr hlk hin hml hown hts hK hX hP hD hA hl hS => ?_)
  have hl : lv_has ls 2 [(0, .ref (Ta 0)), (1, .int x1)] := hl
  have tb_1 : TpB (rTE (cB (Tf 1) (Tv 0)) rr) (Tv 2) (Tv 4) := TpR.tb h_r
  refine lv_aload_n hx hb dX10_fail_0 rfl (lv_at hl 0 rfl) ?_
  refine gf_X10_28 hx hb hts hown hK hP 0 rfl rfl dX10_fail_1 ?_
  refine lv_if_ne (tgt := 27) hx hb dX10_fail_4 (by decide) (fun c_2 => ?_) (fun c_2 => ?_)
  · skip
    have hr_3 : ¬ (Tv 4).toInt = 0 := by
      have z_1 : ¬ ((Tv 4) : Int32).toInt = (0 : Int32).toInt := fun z => c_2 (Int32.toInt_inj.mp z)
      have y_0 : (0 : Int32).toInt = 0 := by decide
      omega
    exact retV hx hb hr hlk hP hD hS ((Tv 3), (Tv 4)) ⟨rfl, h_tape, (TpR.er h_r hr_3)⟩ [0, 1] rfl rfl dX10_fail_27 (Nat.le_of_ble_eq_true rfl) (Nat.le_of_ble_eq_true rfl) rfl
  · skip
    refine lv_aload_n hx hb dX10_fail_7 rfl (lv_at hl 0 rfl) ?_
    refine lv_iconst (v := 1) hx hb dX10_fail_8 (by decide) ?_
    refine lv_bipush (v := 8) hx hb dX10_fail_9 (by decide) ?_
    refine lv_aload_n hx hb dX10_fail_11 rfl (lv_at hl 0 rfl) ?_
    refine gf_X10_19 hx hb hts hown hK hP 0 rfl rfl dX10_fail_12 ?_
    refine lv_imul hx hb dX10_fail_15 ?_
    refine lv_topi (fun x_4 ex_4 => ?_)
    refine lv_iadd hx hb dX10_fail_16 ?_
    refine lv_topi (fun x_5 ex_5 => ?_)
    refine lv_iload_n hx hb dX10_fail_17 rfl (lv_at hl 1 rfl) ?_
    refine lv_iadd hx hb dX10_fail_18 ?_
    refine lv_topi (fun x_6 ex_6 => ?_)
    refine pf_X10_28 hx hb hts hown hK hP hD hS 0 rfl (Nat.le_of_ble_eq_true rfl) rfl rfl dX10_fail_19 (fun H locs hP₀ hD₀ hS₀ => ?_)
    replace hP : va_P D classes [((Ta 0), .inr (10, [.ref (Ta 1), .int (Tv 0), .int (Tv 1), .int (Tv 2), .int (Tv 3), .int x_6])), ((Ta 1), .inl (tc 0, 400, .inl (Tf 1)))] H := hP₀
    replace hD : va_D A [((Ta 0), .inr (10, [.ref (Ta 1), .int (Tv 0), .int (Tv 1), .int (Tv 2), .int (Tv 3), .int x_6])), ((Ta 1), .inl (tc 0, 400, .inl (Tf 1)))] := hD₀
    replace hS := hS₀
    clear hP₀ hD₀ hS₀
    refine lv_aload_n hx hb dX10_fail_22 rfl (lv_at hl 0 rfl) ?_
    refine lv_iconst (v := (-1)) hx hb dX10_fail_23 (by decide) ?_
    refine pf_X10_25 hx hb hts hown hK hP hD hS 0 rfl (Nat.le_of_ble_eq_true rfl) rfl rfl dX10_fail_24 (fun H locs hP₀ hD₀ hS₀ => ?_)
    replace hP : va_P D classes [((Ta 0), .inr (10, [.ref (Ta 1), .int (Tv 0), .int (Tv 1), .int (Tv 2), .int (-1), .int x_6])), ((Ta 1), .inl (tc 0, 400, .inl (Tf 1)))] H := hP₀
    replace hD : va_D A [((Ta 0), .inr (10, [.ref (Ta 1), .int (Tv 0), .int (Tv 1), .int (Tv 2), .int (-1), .int x_6])), ((Ta 1), .inl (tc 0, 400, .inl (Tf 1)))] := hD₀
    replace hS := hS₀
    clear hP₀ hD₀ hS₀
    have hr_7 : (Tv 4).toInt = 0 := by
      have z_1 := congrArg Int32.toInt c_2
      have y_0 : (0 : Int32).toInt = 0 := by decide
      omega
    have hr_8 : 0 ≤ k := by
      have z_1 := congrArg Int32.toInt c_2
      have y_0 : (0 : Int32).toInt = 0 := by decide
      omega
    have hi_9 : (x_6 : Int32).toInt = 1 + 8 * (Tv 1).toInt + k := by
      have z_1 := congrArg Int32.toInt c_2
      have y_0 : (0 : Int32).toInt = 0 := by decide
      have y_1 : (1 : Int32).toInt = 1 := by decide
      have y_8 : (8 : Int32).toInt = 8 := by decide
      have t_x_4 : x_4.toInt = (8 : Int32).toInt * ((Tv 1) : Int32).toInt := by rw [ex_4]; exact mul_toInt (by first | omega | (rw [y_8]; omega)) (by first | omega | (rw [y_8]; omega))
      rw [y_8] at t_x_4
      have t_x_5 : x_5.toInt = (1 : Int32).toInt + (x_4 : Int32).toInt := by rw [ex_5]; exact add_toInt (by omega) (by omega)
      have t_x_6 : x_6.toInt = (x_5 : Int32).toInt + (x1 : Int32).toInt := by rw [ex_6]; exact add_toInt (by omega) (by omega)
      omega
    have hr_10 : ((-1) : Int32).toInt = -1 := by
      have z_1 := congrArg Int32.toInt c_2
      have y_0 : (0 : Int32).toInt = 0 := by decide
      have y_m1 : (-1 : Int32).toInt = -1 := by decide
      omega
    exact retV hx hb hr hlk hP hD hS ((-1), x_6) ⟨rfl, h_tape, (TpR.fail h_r hr_7 hr_8 hi_9 hr_10)⟩ [0, 1] rfl rfl dX10_fail_27 (Nat.le_of_ble_eq_true rfl) (Nat.le_of_ble_eq_true rfl) rfl
set_option maxRecDepth 100000 in
theorem cu_fX10_fail (l : Launch) (D : va_G) (tc : Nat → ClassId) (sk : (Nat → Nat) × (Nat → Nat)) (Ta_0 : Nat) (Ta_1 : Nat) (Tv_0 : Int32) (Tv_1 : Int32) (Tv_2 : Int32) (Tv_3 : Int32) (Tv_4 : Int32) (Tf_1 : Nat → Int32) (x1 : Int32) (rr : Except Int (Nat × Nat)) (k : Int) (h_tape : 0 ≤ (Tv_0 : Int32).toInt ∧ (Tv_0 : Int32).toInt ≤ 400 ∧ 0 ≤ (Tv_1 : Int32).toInt ∧ (Tv_1 : Int32).toInt ≤ 400 ∧ 0 ≤ (Tv_2 : Int32).toInt ∧ (Tv_2 : Int32).toInt ≤ 400) (h_r : TpR Tf_1 Tv_0 rr Tv_1 Tv_2 Tv_3 Tv_4) (h_k : 0 ≤ x1.toInt ∧ x1.toInt ≤ 4) (h_kk : x1.toInt = k) : Ct l yX10_fail cX10_fail 2 none { frames := 0, cells := 0, slots := 0, locals := 0 } D tc sk [.ref Ta_0, .int x1] [(Ta_0, .inr (10, [.ref Ta_1, .int Tv_0, .int Tv_1, .int Tv_2, .int Tv_3, .int Tv_4])), (Ta_1, .inl (tc 0, 400, .inl Tf_1))] (fun (v : Option Value) (u : (Int32) × (Int32)) => match u with | (oo0x1, oo0x2) => v = none ∧ (0 ≤ (Tv_0 : Int32).toInt ∧ (Tv_0 : Int32).toInt ≤ 400 ∧ 0 ≤ (Tv_1 : Int32).toInt ∧ (Tv_1 : Int32).toInt ≤ 400 ∧ 0 ≤ (Tv_2 : Int32).toInt ∧ (Tv_2 : Int32).toInt ≤ 400) ∧ (TpR Tf_1 Tv_0 (rER k rr) Tv_1 Tv_2 oo0x1 oo0x2)) (fun (u : (Int32) × (Int32)) => match u with | (oo0x1, oo0x2) => [(Ta_0, .inr (10, [.ref Ta_1, .int Tv_0, .int Tv_1, .int Tv_2, .int oo0x1, .int oo0x2])), (Ta_1, .inl (tc 0, 400, .inl Tf_1))]) 0 0 :=
  ct_fX10_fail l D tc sk (fun k => ([Ta_0, Ta_1] : List (Nat)).getD k 0) (fun k => ([Tv_0, Tv_1, Tv_2, Tv_3, Tv_4] : List (Int32)).getD k 0) (fun k => ([(fun _ => 0), Tf_1] : List (Nat → Int32)).getD k (fun _ => 0)) x1 rr k h_tape h_r h_k h_kk
set_option maxHeartbeats 4000000 in
set_option maxRecDepth 100000 in
theorem ct_fX10_finish (l : Launch) (D : va_G) (tc : Nat → ClassId) (sk : (Nat → Nat) × (Nat → Nat)) (Ta : Nat → Nat) (Tv : Nat → Int32) (Tf : Nat → Nat → Int32) (rr : Except Int (Nat × Nat)) (h_tape : 0 ≤ ((Tv 0) : Int32).toInt ∧ ((Tv 0) : Int32).toInt ≤ 400 ∧ 0 ≤ ((Tv 1) : Int32).toInt ∧ ((Tv 1) : Int32).toInt ≤ 400 ∧ 0 ≤ ((Tv 2) : Int32).toInt ∧ ((Tv 2) : Int32).toInt ≤ 400) (h_by : Byt (Tf 1)) (h_r : TpR (Tf 1) (Tv 0) rr (Tv 1) (Tv 2) (Tv 3) (Tv 4)) : Ct l yX10_finish cX10_finish 1 none { frames := 1, cells := 0, slots := 0, locals := 21 } D tc sk [.ref (Ta 0)] [((Ta 0), .inr (10, [.ref (Ta 1), .int (Tv 0), .int (Tv 1), .int (Tv 2), .int (Tv 3), .int (Tv 4)])), ((Ta 1), .inl (tc 0, 400, .inl (Tf 1)))] (fun (v : Option Value) (u : (Int32) × (Int32)) => match u with | (oo0x1, oo0x2) => v = none ∧ (0 ≤ ((Tv 0) : Int32).toInt ∧ ((Tv 0) : Int32).toInt ≤ 400 ∧ 0 ≤ ((Tv 1) : Int32).toInt ∧ ((Tv 1) : Int32).toInt ≤ 400 ∧ 0 ≤ ((Tv 2) : Int32).toInt ∧ ((Tv 2) : Int32).toInt ≤ 400) ∧ (TpR (Tf 1) (Tv 0) (rEN (cB (Tf 1) (Tv 0)) rr) (Tv 1) (Tv 2) oo0x1 oo0x2)) (fun (u : (Int32) × (Int32)) => match u with | (oo0x1, oo0x2) => [((Ta 0), .inr (10, [.ref (Ta 1), .int (Tv 0), .int (Tv 1), .int (Tv 2), .int oo0x1, .int oo0x2])), ((Ta 1), .inl (tc 0, 400, .inl (Tf 1)))]) 0 0 := by
  refine Ct.start (by decide) (Nat.le_of_ble_eq_true rfl) (fun p e s m below meth c A ls hx hb hr hlk hin hml hown hts hK hX hP hD hA hl hS => ?_)
  have hl : lv_has ls 1 [(0, .ref (Ta 0))] := hl
  have tb_1 : TpB (rTE (cB (Tf 1) (Tv 0)) rr) (Tv 2) (Tv 4) := TpR.tb h_r
  refine lv_aload_n hx hb dX10_finish_0 rfl (lv_at hl 0 rfl) ?_
  refine gf_X10_19 hx hb hts hown hK hP 0 rfl rfl dX10_finish_1 ?_
  refine lv_aload_n hx hb dX10_finish_4 rfl (lv_at hl 0 rfl) ?_
  refine gf_X10_15 hx hb hts hown hK hP 0 rfl rfl dX10_finish_5 ?_
  refine lv_icmp_ge (tgt := 16) hx hb dX10_finish_8 (by decide) (fun c_2 => ?_) (fun c_2 => ?_)
  · skip
    have hf_3 : TpR (Tf 1) (Tv 0) (rEN (cB (Tf 1) (Tv 0)) rr) (Tv 1) (Tv 2) (Tv 3) (Tv 4) := by
      by_cases hz : (Tv 4).toInt = 0
      · exact TpR.end0 h_r hz (by
          have z_1 := Int32.le_iff_toInt_le.mp c_2
          omega)
      · exact TpR.er h_r hz
    exact retV hx hb hr hlk hP hD hS ((Tv 3), (Tv 4)) ⟨rfl, h_tape, hf_3⟩ [0, 1] rfl rfl dX10_finish_16 (Nat.le_of_ble_eq_true rfl) (Nat.le_of_ble_eq_true rfl) rfl
  · skip
    refine lv_aload_n hx hb dX10_finish_11 rfl (lv_at hl 0 rfl) ?_
    refine lv_iconst (v := 0) hx hb dX10_finish_12 (by decide) ?_
    have ha_4 : 0 ≤ (0 : Int32).toInt ∧ (0 : Int32).toInt ≤ 4 := by
      have z_1 := Int32.lt_iff_toInt_lt.mp (Int32.not_le.mp c_2)
      have y_0 : (0 : Int32).toInt = 0 := by decide
      omega
    have ha_5 : (0 : Int32).toInt = (0 : Int) := by
      have z_1 := Int32.lt_iff_toInt_lt.mp (Int32.not_le.mp c_2)
      have y_0 : (0 : Int32).toInt = 0 := by decide
      omega
    refine cV (a := (Ta 0)) (As := [.int 0]) (rest := []) (wr := []) ⟨hx, hb, hml, hown, hts⟩ hK hX hA (cu_fX10_fail l D tc sk (Ta 0) (Ta 1) (Tv 0) (Tv 1) (Tv 2) (Tv 3) (Tv 4) (Tf 1) 0 rr 0 h_tape h_r ha_4 ha_5) k_557 k_571 k_555 k_556 k_96 pl_X10_fail ⟨Nat.le_of_ble_eq_true rfl, Nat.le_of_ble_eq_true rfl⟩ rfl rfl (va_recv hK hP (ci := 10) (q0 := 0) rfl rfl) hP hD hS [0, 1] [] rfl rfl rfl rfl rfl (by decide) rfl hl.1 rfl (Nat.le_of_ble_eq_true rfl) dX10_finish_13 ⟨Nat.le_of_ble_eq_true rfl, Nat.le_of_ble_eq_true rfl⟩ (fun v_6 u_7 H locs hv_8 hP₀ hD₀ hS₀ => ?_)
    obtain ⟨sv_9, sv_10⟩ := u_7
    obtain ⟨rfl, pf_11, pf_12⟩ := hv_8
    have pf_11 : 0 ≤ ((Tv 0) : Int32).toInt ∧ ((Tv 0) : Int32).toInt ≤ 400 ∧ 0 ≤ ((Tv 1) : Int32).toInt ∧ ((Tv 1) : Int32).toInt ≤ 400 ∧ 0 ≤ ((Tv 2) : Int32).toInt ∧ ((Tv 2) : Int32).toInt ≤ 400 := pf_11
    have pf_12 : TpR (Tf 1) (Tv 0) (rER (0 : Int) rr) (Tv 1) (Tv 2) sv_9 sv_10 := pf_12
    obtain ⟨ro_13, ero_13⟩ : ∃ z : Except Int (Nat × Nat), z = (rER (0 : Int) rr) := ⟨_, rfl⟩
    rw [← ero_13] at pf_12
    have tb_14 : TpB (rTE (cB (Tf 1) (Tv 0)) ro_13) (Tv 2) sv_10 := TpR.tb pf_12
    refine W.eq (g2 := F0 m 16 ls []) rfl ?_
    replace hP : va_P D classes [((Ta 0), .inr (10, [.ref (Ta 1), .int (Tv 0), .int (Tv 1), .int (Tv 2), .int sv_9, .int sv_10])), ((Ta 1), .inl (tc 0, 400, .inl (Tf 1)))] H := hP₀
    replace hD : va_D A [((Ta 0), .inr (10, [.ref (Ta 1), .int (Tv 0), .int (Tv 1), .int (Tv 2), .int sv_9, .int sv_10])), ((Ta 1), .inl (tc 0, 400, .inl (Tf 1)))] := hD₀
    replace hS := hS₀
    clear hP₀ hD₀ hS₀
    have hf_15 : TpR (Tf 1) (Tv 0) (rEN (cB (Tf 1) (Tv 0)) rr) (Tv 1) (Tv 2) sv_9 sv_10 := by
      rw [ero_13] at pf_12
      exact TpR.end1 h_by h_r (fun _ => by
          have z_1 := Int32.lt_iff_toInt_lt.mp (Int32.not_le.mp c_2)
          omega) pf_12
    exact retV hx hb hr hlk hP hD hS (sv_9, sv_10) ⟨rfl, pf_11, hf_15⟩ [0, 1] rfl rfl dX10_finish_16 (Nat.le_of_ble_eq_true rfl) (Nat.le_of_ble_eq_true rfl) rfl
set_option maxRecDepth 100000 in
theorem cu_fX10_finish (l : Launch) (D : va_G) (tc : Nat → ClassId) (sk : (Nat → Nat) × (Nat → Nat)) (Ta_0 : Nat) (Ta_1 : Nat) (Tv_0 : Int32) (Tv_1 : Int32) (Tv_2 : Int32) (Tv_3 : Int32) (Tv_4 : Int32) (Tf_1 : Nat → Int32) (rr : Except Int (Nat × Nat)) (h_tape : 0 ≤ (Tv_0 : Int32).toInt ∧ (Tv_0 : Int32).toInt ≤ 400 ∧ 0 ≤ (Tv_1 : Int32).toInt ∧ (Tv_1 : Int32).toInt ≤ 400 ∧ 0 ≤ (Tv_2 : Int32).toInt ∧ (Tv_2 : Int32).toInt ≤ 400) (h_by : Byt Tf_1) (h_r : TpR Tf_1 Tv_0 rr Tv_1 Tv_2 Tv_3 Tv_4) : Ct l yX10_finish cX10_finish 1 none { frames := 1, cells := 0, slots := 0, locals := 21 } D tc sk [.ref Ta_0] [(Ta_0, .inr (10, [.ref Ta_1, .int Tv_0, .int Tv_1, .int Tv_2, .int Tv_3, .int Tv_4])), (Ta_1, .inl (tc 0, 400, .inl Tf_1))] (fun (v : Option Value) (u : (Int32) × (Int32)) => match u with | (oo0x1, oo0x2) => v = none ∧ (0 ≤ (Tv_0 : Int32).toInt ∧ (Tv_0 : Int32).toInt ≤ 400 ∧ 0 ≤ (Tv_1 : Int32).toInt ∧ (Tv_1 : Int32).toInt ≤ 400 ∧ 0 ≤ (Tv_2 : Int32).toInt ∧ (Tv_2 : Int32).toInt ≤ 400) ∧ (TpR Tf_1 Tv_0 (rEN (cB Tf_1 Tv_0) rr) Tv_1 Tv_2 oo0x1 oo0x2)) (fun (u : (Int32) × (Int32)) => match u with | (oo0x1, oo0x2) => [(Ta_0, .inr (10, [.ref Ta_1, .int Tv_0, .int Tv_1, .int Tv_2, .int oo0x1, .int oo0x2])), (Ta_1, .inl (tc 0, 400, .inl Tf_1))]) 0 0 :=
  ct_fX10_finish l D tc sk (fun k => ([Ta_0, Ta_1] : List (Nat)).getD k 0) (fun k => ([Tv_0, Tv_1, Tv_2, Tv_3, Tv_4] : List (Int32)).getD k 0) (fun k => ([(fun _ => 0), Tf_1] : List (Nat → Int32)).getD k (fun _ => 0)) rr h_tape h_by h_r
set_option maxHeartbeats 4000000 in
set_option maxRecDepth 100000 in
theorem ct_fX10_takes (l : Launch) (D : va_G) (tc : Nat → ClassId) (sk : (Nat → Nat) × (Nat → Nat)) (Ta : Nat → Nat) (Tv : Nat → Int32) (Tf : Nat → Nat → Int32) (x1 : Int32) (rr : Except Int (Nat × Nat)) (xx : Int) (h_tape : 0 ≤ ((Tv 0) : Int32).toInt ∧ ((Tv 0) : Int32).toInt ≤ 400 ∧ 0 ≤ ((Tv 1) : Int32).toInt ∧ ((Tv 1) : Int32).toInt ≤ 400 ∧ 0 ≤ ((Tv 2) : Int32).toInt ∧ ((Tv 2) : Int32).toInt ≤ 400) (h_by : Byt (Tf 1)) (h_r : TpR (Tf 1) (Tv 0) rr (Tv 1) (Tv 2) (Tv 3) (Tv 4)) (h_c : 0 ≤ x1.toInt) (h_xx : x1.toInt = xx) : Ct l yX10_takes cX10_takes 2 (some .boolean) { frames := 2, cells := 0, slots := 0, locals := 42 } D tc sk [.ref (Ta 0), .int x1] [((Ta 0), .inr (10, [.ref (Ta 1), .int (Tv 0), .int (Tv 1), .int (Tv 2), .int (Tv 3), .int (Tv 4)])), ((Ta 1), .inl (tc 0, 400, .inl (Tf 1)))] (fun (v : Option Value) (u : (Int32) × (Int32) × (Int32)) => match u with | (oo0x1, oo0x2, oo0x3) => ∃ r : Int32, v = some (.int r) ∧ ((r.toInt = 0 ∨ r.toInt = 1)) ∧ (0 ≤ ((Tv 0) : Int32).toInt ∧ ((Tv 0) : Int32).toInt ≤ 400 ∧ 0 ≤ (oo0x1 : Int32).toInt ∧ (oo0x1 : Int32).toInt ≤ 400 ∧ 0 ≤ (oo0x2 : Int32).toInt ∧ (oo0x2 : Int32).toInt ≤ 400) ∧ (r.toInt = 1 → (Sg (cB (Tf 1) (Tv 0)) xx rr) ∧ (TpR (Tf 1) (Tv 0) (rNX (cB (Tf 1) (Tv 0)) rr) oo0x1 oo0x2 oo0x3 (Tv 4))) ∧ (r.toInt = 0 → (NSg (cB (Tf 1) (Tv 0)) xx rr) ∧ (TpR (Tf 1) (Tv 0) rr oo0x1 oo0x2 oo0x3 (Tv 4)))) (fun (u : (Int32) × (Int32) × (Int32)) => match u with | (oo0x1, oo0x2, oo0x3) => [((Ta 0), .inr (10, [.ref (Ta 1), .int (Tv 0), .int oo0x1, .int oo0x2, .int oo0x3, .int (Tv 4)])), ((Ta 1), .inl (tc 0, 400, .inl (Tf 1)))]) 0 0 := by
  refine Ct.start (by decide) (Nat.le_of_ble_eq_true rfl) (fun p e s m below meth c A ls hx hb hr hlk hin hml hown hts hK hX hP hD hA hl hS => ?_)
  have hl : lv_has ls 2 [(0, .ref (Ta 0)), (1, .int x1)] := hl
  have tb_1 : TpB (rTE (cB (Tf 1) (Tv 0)) rr) (Tv 2) (Tv 4) := TpR.tb h_r
  refine lv_aload_n hx hb dX10_takes_0 rfl (lv_at hl 0 rfl) ?_
  refine gf_X10_25 hx hb hts hown hK hP 0 rfl rfl dX10_takes_1 ?_
  refine lv_iload_n hx hb dX10_takes_4 rfl (lv_at hl 1 rfl) ?_
  refine lv_icmp_eq (tgt := 10) hx hb dX10_takes_5 (by decide) (fun c_2 => ?_) (fun c_2 => ?_)
  · skip
    refine lv_aload_n hx hb dX10_takes_10 rfl (lv_at hl 0 rfl) ?_
    refine cV (a := (Ta 0)) (As := []) (rest := []) (wr := []) ⟨hx, hb, hml, hown, hts⟩ hK hX hA (cu_fX10_step l D tc sk (Ta 0) (Ta 1) (Tv 0) (Tv 1) (Tv 2) (Tv 3) (Tv 4) (Tf 1) (rTE (cB (Tf 1) (Tv 0)) rr) h_tape h_by tb_1) k_478 k_475 k_476 k_477 k_96 pl_X10_step ⟨Nat.le_of_ble_eq_true rfl, Nat.le_of_ble_eq_true rfl⟩ rfl rfl (va_recv hK hP (ci := 10) (q0 := 0) rfl rfl) hP hD hS [0, 1] [] rfl rfl rfl rfl rfl (by decide) rfl hl.1 rfl (Nat.le_of_ble_eq_true rfl) dX10_takes_11 ⟨Nat.le_of_ble_eq_true rfl, Nat.le_of_ble_eq_true rfl⟩ (fun v_3 u_4 H locs hv_5 hP₀ hD₀ hS₀ => ?_)
    obtain ⟨sv_6, sv_7, sv_8⟩ := u_4
    obtain ⟨rfl, pf_9, pf_10⟩ := hv_5
    have pf_9 : 0 ≤ ((Tv 0) : Int32).toInt ∧ ((Tv 0) : Int32).toInt ≤ 400 ∧ 0 ≤ (sv_6 : Int32).toInt ∧ (sv_6 : Int32).toInt ≤ 400 ∧ 0 ≤ (sv_7 : Int32).toInt ∧ (sv_7 : Int32).toInt ≤ 400 := pf_9
    have pf_10 : TpR (Tf 1) (Tv 0) (rSK (cB (Tf 1) (Tv 0)) (rTE (cB (Tf 1) (Tv 0)) rr)) sv_6 sv_7 sv_8 (Tv 4) := pf_10
    rw [rNX_eq] at pf_10
    obtain ⟨ro_11, ero_11⟩ : ∃ z : Except Int (Nat × Nat), z = (rNX (cB (Tf 1) (Tv 0)) rr) := ⟨_, rfl⟩
    rw [← ero_11] at pf_10
    have tb_12 : TpB (rTE (cB (Tf 1) (Tv 0)) ro_11) sv_7 (Tv 4) := TpR.tb pf_10
    refine W.eq (g2 := F0 m 14 ls []) rfl ?_
    replace hP : va_P D classes [((Ta 0), .inr (10, [.ref (Ta 1), .int (Tv 0), .int sv_6, .int sv_7, .int sv_8, .int (Tv 4)])), ((Ta 1), .inl (tc 0, 400, .inl (Tf 1)))] H := hP₀
    replace hD : va_D A [((Ta 0), .inr (10, [.ref (Ta 1), .int (Tv 0), .int sv_6, .int sv_7, .int sv_8, .int (Tv 4)])), ((Ta 1), .inl (tc 0, 400, .inl (Tf 1)))] := hD₀
    replace hS := hS₀
    clear hP₀ hD₀ hS₀
    refine lv_iconst (v := 1) hx hb dX10_takes_14 (by decide) ?_
    have hp_13 : ((1 : Int32).toInt = 0 ∨ (1 : Int32).toInt = 1) := by
      have z_1 := congrArg Int32.toInt c_2
      have y_1 : (1 : Int32).toInt = 1 := by decide
      have yr : (1 : Int32).toInt = 1 := by decide
      omega
    have hm_14 : (1 : Int32).toInt = 1 → (Sg (cB (Tf 1) (Tv 0)) xx rr) ∧ (TpR (Tf 1) (Tv 0) (rNX (cB (Tf 1) (Tv 0)) rr) sv_6 sv_7 sv_8 (Tv 4)) := by
      intro h1r
      have hr_15 : (Tv 3).toInt = xx := by
        have z_1 := congrArg Int32.toInt c_2
        omega
      have hr_16 : 0 ≤ xx := by
        have z_1 := congrArg Int32.toInt c_2
        omega
      have hf_17 : TpR (Tf 1) (Tv 0) (rNX (cB (Tf 1) (Tv 0)) rr) sv_6 sv_7 sv_8 (Tv 4) := by
        have hE_18 : (rNX (cB (Tf 1) (Tv 0)) rr) = ro_11 := by
          rw [ero_11]
        rw [hE_18]
        exact pf_10
      exact ⟨(TpR.sg h_r hr_15 hr_16), hf_17⟩
    exact retI (v := 1) hx hb hr hlk (rfl) hP hD hS (sv_6, sv_7, sv_8) ⟨_, rfl, hp_13, pf_9, hm_14, (fun h => absurd h (by decide))⟩ [0, 1] rfl rfl dX10_takes_15 (Nat.le_of_ble_eq_true rfl) (Nat.le_of_ble_eq_true rfl) rfl
  · skip
    refine lv_iconst (v := 0) hx hb dX10_takes_8 (by decide) ?_
    have hp_19 : ((0 : Int32).toInt = 0 ∨ (0 : Int32).toInt = 1) := by
      have z_1 : ¬ ((Tv 3) : Int32).toInt = (x1 : Int32).toInt := fun z => c_2 (Int32.toInt_inj.mp z)
      have y_0 : (0 : Int32).toInt = 0 := by decide
      have yr : (0 : Int32).toInt = 0 := by decide
      omega
    have hm_20 : (0 : Int32).toInt = 0 → (NSg (cB (Tf 1) (Tv 0)) xx rr) ∧ (TpR (Tf 1) (Tv 0) rr (Tv 1) (Tv 2) (Tv 3) (Tv 4)) := by
      intro h1r
      have hr_21 : ¬ (Tv 3).toInt = xx := by
        have z_1 : ¬ ((Tv 3) : Int32).toInt = (x1 : Int32).toInt := fun z => c_2 (Int32.toInt_inj.mp z)
        omega
      exact ⟨(TpR.nsg h_r hr_21), h_r⟩
    exact retI (v := 0) hx hb hr hlk (rfl) hP hD hS ((Tv 1), (Tv 2), (Tv 3)) ⟨_, rfl, hp_19, h_tape, (fun h => absurd h (by decide)), hm_20⟩ [0, 1] rfl rfl dX10_takes_9 (Nat.le_of_ble_eq_true rfl) (Nat.le_of_ble_eq_true rfl) rfl
set_option maxRecDepth 100000 in
theorem cu_fX10_takes (l : Launch) (D : va_G) (tc : Nat → ClassId) (sk : (Nat → Nat) × (Nat → Nat)) (Ta_0 : Nat) (Ta_1 : Nat) (Tv_0 : Int32) (Tv_1 : Int32) (Tv_2 : Int32) (Tv_3 : Int32) (Tv_4 : Int32) (Tf_1 : Nat → Int32) (x1 : Int32) (rr : Except Int (Nat × Nat)) (xx : Int) (h_tape : 0 ≤ (Tv_0 : Int32).toInt ∧ (Tv_0 : Int32).toInt ≤ 400 ∧ 0 ≤ (Tv_1 : Int32).toInt ∧ (Tv_1 : Int32).toInt ≤ 400 ∧ 0 ≤ (Tv_2 : Int32).toInt ∧ (Tv_2 : Int32).toInt ≤ 400) (h_by : Byt Tf_1) (h_r : TpR Tf_1 Tv_0 rr Tv_1 Tv_2 Tv_3 Tv_4) (h_c : 0 ≤ x1.toInt) (h_xx : x1.toInt = xx) : Ct l yX10_takes cX10_takes 2 (some .boolean) { frames := 2, cells := 0, slots := 0, locals := 42 } D tc sk [.ref Ta_0, .int x1] [(Ta_0, .inr (10, [.ref Ta_1, .int Tv_0, .int Tv_1, .int Tv_2, .int Tv_3, .int Tv_4])), (Ta_1, .inl (tc 0, 400, .inl Tf_1))] (fun (v : Option Value) (u : (Int32) × (Int32) × (Int32)) => match u with | (oo0x1, oo0x2, oo0x3) => ∃ r : Int32, v = some (.int r) ∧ ((r.toInt = 0 ∨ r.toInt = 1)) ∧ (0 ≤ (Tv_0 : Int32).toInt ∧ (Tv_0 : Int32).toInt ≤ 400 ∧ 0 ≤ (oo0x1 : Int32).toInt ∧ (oo0x1 : Int32).toInt ≤ 400 ∧ 0 ≤ (oo0x2 : Int32).toInt ∧ (oo0x2 : Int32).toInt ≤ 400) ∧ (r.toInt = 1 → (Sg (cB Tf_1 Tv_0) xx rr) ∧ (TpR Tf_1 Tv_0 (rNX (cB Tf_1 Tv_0) rr) oo0x1 oo0x2 oo0x3 Tv_4)) ∧ (r.toInt = 0 → (NSg (cB Tf_1 Tv_0) xx rr) ∧ (TpR Tf_1 Tv_0 rr oo0x1 oo0x2 oo0x3 Tv_4))) (fun (u : (Int32) × (Int32) × (Int32)) => match u with | (oo0x1, oo0x2, oo0x3) => [(Ta_0, .inr (10, [.ref Ta_1, .int Tv_0, .int oo0x1, .int oo0x2, .int oo0x3, .int Tv_4])), (Ta_1, .inl (tc 0, 400, .inl Tf_1))]) 0 0 :=
  ct_fX10_takes l D tc sk (fun k => ([Ta_0, Ta_1] : List (Nat)).getD k 0) (fun k => ([Tv_0, Tv_1, Tv_2, Tv_3, Tv_4] : List (Int32)).getD k 0) (fun k => ([(fun _ => 0), Tf_1] : List (Nat → Int32)).getD k (fun _ => 0)) x1 rr xx h_tape h_by h_r h_c h_xx
set_option maxRecDepth 100000 in
theorem chS_all : ∀ i, i < 7 → ∀ k, k < 75 → (((((bytS.getD i []).getD k 0) &&& 255).toUInt32 % 65536).toInt32 : Int32) = (bytS.getD i []).getD k 0 := by decide +kernel
theorem chS_eq {i : Nat} (hi : i < 7) {x y z : Int32} (hx : 0 ≤ x.toInt ∧ x.toInt < ((lenS.getD i 0 : Nat) : Int)) (ey : y = (bytS.getD i []).getD x.toNatClampNeg 0 &&& 255) (ez : z = (y.toUInt32 % 65536).toInt32) : narrow .char (.int z) = .int z ∧ z.toInt = stB i x.toInt.toNat := by
  subst ey
  refine ⟨by rw [ez]; exact nar_ch _, ?_⟩
  rw [ez]
  have h1 := lenS_le hi
  have h2 : x.toNatClampNeg = x.toInt.toNat := rfl
  rw [h2, chS_all i hi x.toInt.toNat (by omega)]
  rfl
set_option maxHeartbeats 4000000 in
set_option maxRecDepth 100000 in
theorem ct_fJ0_coder (l : Launch) (D : va_G) (tc : Nat → ClassId) (sk : (Nat → Nat) × (Nat → Nat)) (i : Nat) (hi : i < 7) : Ct l yJ0_coder_7d493 cJ0_coder_7d493 1 (some .byte) { frames := 0, cells := 0, slots := 0, locals := 0 } D tc sk [.ref (sk.1 i)] [] (fun (v : Option Value) (_ : Unit) => ∃ r : Int32, v = some (.int r) ∧ (r.toInt = 0)) (fun (_ : Unit) => []) 0 0 := by
  refine Ct.start (by decide) (Nat.le_of_ble_eq_true rfl) (fun p e s m below meth c A ls hx hb hr hlk hin hml hown hts hK hX hP hD hA hl hS => ?_)
  have hl : lv_has ls 1 [(0, .ref (sk.1 i))] := hl
  refine va_gets hx hb hX.2.1 hS hown (hts _ k_510) (fun _ h9 => h9) dJ0_coder_7d493_0 ?_
  refine lv_if_eq (tgt := 13) hx hb dJ0_coder_7d493_3 (by decide) (fun c_1 => absurd c_1 (by decide)) (fun c_1 => ?_)
  refine lv_aload_n hx hb dJ0_coder_7d493_6 rfl (lv_at hl 0 rfl) ?_
  refine vk_getf hx hb (hX.1.1 i hi).2.1 hS hown (hts _ k_1657) (fun _ h9 => h9) dJ0_coder_7d493_7 ?_
  refine lv_goto (tgt := 14) hx hb dJ0_coder_7d493_10 (by decide) ?_
  have hp_2 : (0 : Int32).toInt = 0 := by
    have y_0 : (0 : Int32).toInt = 0 := by decide
    have yr : (0 : Int32).toInt = 0 := by decide
    omega
  exact retI (v := 0) hx hb hr hlk (rfl) hP hD hS () ⟨_, rfl, hp_2⟩ [] rfl rfl dJ0_coder_7d493_14 (Nat.le_of_ble_eq_true rfl) (Nat.le_of_ble_eq_true rfl) rfl
set_option maxHeartbeats 4000000 in
set_option maxRecDepth 100000 in
theorem ct_fJ0_isLatin1 (l : Launch) (D : va_G) (tc : Nat → ClassId) (sk : (Nat → Nat) × (Nat → Nat)) (i : Nat) (hi : i < 7) : Ct l yJ0_isLatin1_aae02 cJ0_isLatin1_aae02 1 (some .boolean) { frames := 0, cells := 0, slots := 0, locals := 0 } D tc sk [.ref (sk.1 i)] [] (fun (v : Option Value) (_ : Unit) => ∃ r : Int32, v = some (.int r) ∧ (r.toInt = 1)) (fun (_ : Unit) => []) 0 0 := by
  refine Ct.start (by decide) (Nat.le_of_ble_eq_true rfl) (fun p e s m below meth c A ls hx hb hr hlk hin hml hown hts hK hX hP hD hA hl hS => ?_)
  have hl : lv_has ls 1 [(0, .ref (sk.1 i))] := hl
  refine va_gets hx hb hX.2.1 hS hown (hts _ k_510) (fun _ h9 => h9) dJ0_isLatin1_aae02_0 ?_
  refine lv_if_eq (tgt := 17) hx hb dJ0_isLatin1_aae02_3 (by decide) (fun c_1 => absurd c_1 (by decide)) (fun c_1 => ?_)
  refine lv_aload_n hx hb dJ0_isLatin1_aae02_6 rfl (lv_at hl 0 rfl) ?_
  refine vk_getf hx hb (hX.1.1 i hi).2.1 hS hown (hts _ k_1657) (fun _ h9 => h9) dJ0_isLatin1_aae02_7 ?_
  refine lv_if_ne (tgt := 17) hx hb dJ0_isLatin1_aae02_10 (by decide) (fun c_2 => absurd c_2 (by decide)) (fun c_2 => ?_)
  refine lv_iconst (v := 1) hx hb dJ0_isLatin1_aae02_13 (by decide) ?_
  refine lv_goto (tgt := 18) hx hb dJ0_isLatin1_aae02_14 (by decide) ?_
  have hp_3 : (1 : Int32).toInt = 1 := by
    have y_1 : (1 : Int32).toInt = 1 := by decide
    have yr : (1 : Int32).toInt = 1 := by decide
    omega
  exact retI (v := 1) hx hb hr hlk (rfl) hP hD hS () ⟨_, rfl, hp_3⟩ [] rfl rfl dJ0_isLatin1_aae02_18 (Nat.le_of_ble_eq_true rfl) (Nat.le_of_ble_eq_true rfl) rfl
set_option maxHeartbeats 4000000 in
set_option maxRecDepth 100000 in
theorem ct_fJ0_length (l : Launch) (D : va_G) (tc : Nat → ClassId) (sk : (Nat → Nat) × (Nat → Nat)) (i : Nat) (hi : i < 7) : Ct l yJ0_length_8abf5 cJ0_length_8abf5 1 (some .int) { frames := 1, cells := 0, slots := 0, locals := 20 } D tc sk [.ref (sk.1 i)] [] (fun (v : Option Value) (_ : Unit) => ∃ r : Int32, v = some (.int r) ∧ (r.toInt = ((lenS.getD i 0 : Nat) : Int))) (fun (_ : Unit) => []) 0 0 := by
  refine Ct.start (by decide) (Nat.le_of_ble_eq_true rfl) (fun p e s m below meth c A ls hx hb hr hlk hin hml hown hts hK hX hP hD hA hl hS => ?_)
  have hl : lv_has ls 1 [(0, .ref (sk.1 i))] := hl
  refine lv_aload_n hx hb dJ0_length_8abf5_0 rfl (lv_at hl 0 rfl) ?_
  refine vk_getf hx hb (hX.1.1 i hi).2.2.1 hS hown (hts _ k_1656) (fun _ h9 => h9) dJ0_length_8abf5_1 ?_
  refine va_tlen hx hb (hX.1.1 i hi).2.2.2 hS (v := nI (lenS.getD i 0)) rfl dJ0_length_8abf5_4 ?_
  refine lv_aload_n hx hb dJ0_length_8abf5_5 rfl (lv_at hl 0 rfl) ?_
  refine cV (a := (sk.1 i)) (As := []) (rest := [.int (nI (lenS.getD i 0))]) (wr := []) ⟨hx, hb, hml, hown, hts⟩ hK hX hA (ct_fJ0_coder l D tc sk i hi) k_509 k_506 k_507 k_508 k_107 pl_J0_coder_7d493 ⟨Nat.le_of_ble_eq_true rfl, Nat.le_of_ble_eq_true rfl⟩ rfl rfl (vk_recv hX.1 hi hS) hP hD hS [] [] rfl rfl rfl rfl rfl (by decide) rfl hl.1 rfl (Nat.le_of_ble_eq_true rfl) dJ0_length_8abf5_6 ⟨Nat.le_of_ble_eq_true rfl, Nat.le_of_ble_eq_true rfl⟩ (fun v_1 u_2 H locs hv_3 hP₀ hD₀ hS₀ => ?_)
  obtain ⟨r_4, rfl, he_5⟩ := hv_3
  have he_5 : r_4.toInt = 0 := he_5
  refine W.eq (g2 := F0 m 9 ls [.int r_4, .int (nI (lenS.getD i 0))]) rfl ?_
  replace hP : va_P D classes [] H := hP₀
  replace hD : va_D A [] := hD₀
  replace hS := hS₀
  clear hP₀ hD₀ hS₀
  obtain rfl : r_4 = 0 := Int32.toInt_inj.mp (he_5.trans (by decide))
  have hP := hP
  refine lv_ishr hx hb dJ0_length_8abf5_9 ?_
  refine lv_topi (fun x_7 ex_7 => ?_)
  have hp_8 : (x_7 : Int32).toInt = ((lenS.getD i 0 : Nat) : Int) := by rw [ex_7, sc_shr0 (by have := lenS_le hi; omega)]; exact nI_toInt (by have := lenS_le hi; omega)
  exact retI (v := x_7) hx hb hr hlk (rfl) hP hD hS () ⟨_, rfl, hp_8⟩ [] rfl rfl dJ0_length_8abf5_10 (Nat.le_of_ble_eq_true rfl) (Nat.le_of_ble_eq_true rfl) rfl
set_option maxHeartbeats 4000000 in
set_option maxRecDepth 100000 in
theorem ct_fJ3_checkIndex_n (l : Launch) (D : va_G) (tc : Nat → ClassId) (sk : (Nat → Nat) × (Nat → Nat)) (x1 : Int32) (x2 : Int32) (hk : 0 ≤ x1.toInt ∧ x1.toInt < x2.toInt) : Ct l yJ3_checkIndex_8e157 cJ3_checkIndex_8e157 3 (some .int) { frames := 0, cells := 0, slots := 0, locals := 0 } D tc sk [.int x1, .int x2, .null] [] (fun (v : Option Value) (_ : Unit) => ∃ r : Int32, v = some (.int r) ∧ (True)) (fun (_ : Unit) => []) 0 0 := by
  refine Ct.start (by decide) (Nat.le_of_ble_eq_true rfl) (fun p e s m below meth c A ls hx hb hr hlk hin hml hown hts hK hX hP hD hA hl hS => ?_)
  have hl : lv_has ls 3 [(0, .int x1), (1, .int x2), (2, .null)] := hl
  refine lv_iload_n hx hb dJ3_checkIndex_8e157_0 rfl (lv_at hl 0 rfl) ?_
  refine lv_if_lt (tgt := 9) hx hb dJ3_checkIndex_8e157_1 (by decide) (fun c_1 => ?_) (fun c_1 => ?_)
  · skip
    exfalso
    have z_1 := Int32.lt_iff_toInt_lt.mp c_1
    have y_0 : (0 : Int32).toInt = 0 := by decide
    omega
  · skip
    refine lv_iload_n hx hb dJ3_checkIndex_8e157_4 rfl (lv_at hl 0 rfl) ?_
    refine lv_iload_n hx hb dJ3_checkIndex_8e157_5 rfl (lv_at hl 1 rfl) ?_
    refine lv_icmp_lt (tgt := 16) hx hb dJ3_checkIndex_8e157_6 (by decide) (fun c_2 => ?_) (fun c_2 => ?_)
    · skip
      refine lv_iload_n hx hb dJ3_checkIndex_8e157_16 rfl (lv_at hl 0 rfl) ?_
      exact retI (v := x1) hx hb hr hlk (rfl) hP hD hS () ⟨_, rfl, trivial⟩ [] rfl rfl dJ3_checkIndex_8e157_17 (Nat.le_of_ble_eq_true rfl) (Nat.le_of_ble_eq_true rfl) rfl
    · skip
      exfalso
      have z_1 := Int32.le_iff_toInt_le.mp (Int32.not_lt.mp c_1)
      have z_2 := Int32.le_iff_toInt_le.mp (Int32.not_lt.mp c_2)
      have y_0 : (0 : Int32).toInt = 0 := by decide
      omega
set_option maxHeartbeats 4000000 in
set_option maxRecDepth 100000 in
theorem ct_fJ3_checkIndex_r (l : Launch) (D : va_G) (tc : Nat → ClassId) (sk : (Nat → Nat) × (Nat → Nat)) (tz : Nat) (x1 : Int32) (x2 : Int32) (hk : 0 ≤ x1.toInt ∧ x1.toInt < x2.toInt) : Ct l yJ3_checkIndex_8e157 cJ3_checkIndex_8e157 3 (some .int) { frames := 0, cells := 0, slots := 0, locals := 0 } D tc sk [.int x1, .int x2, .ref tz] [] (fun (v : Option Value) (_ : Unit) => ∃ r : Int32, v = some (.int r) ∧ (True)) (fun (_ : Unit) => []) 0 0 := by
  refine Ct.start (by decide) (Nat.le_of_ble_eq_true rfl) (fun p e s m below meth c A ls hx hb hr hlk hin hml hown hts hK hX hP hD hA hl hS => ?_)
  have hl : lv_has ls 3 [(0, .int x1), (1, .int x2), (2, .ref tz)] := hl
  refine lv_iload_n hx hb dJ3_checkIndex_8e157_0 rfl (lv_at hl 0 rfl) ?_
  refine lv_if_lt (tgt := 9) hx hb dJ3_checkIndex_8e157_1 (by decide) (fun c_1 => ?_) (fun c_1 => ?_)
  · skip
    exfalso
    have z_1 := Int32.lt_iff_toInt_lt.mp c_1
    have y_0 : (0 : Int32).toInt = 0 := by decide
    omega
  · skip
    refine lv_iload_n hx hb dJ3_checkIndex_8e157_4 rfl (lv_at hl 0 rfl) ?_
    refine lv_iload_n hx hb dJ3_checkIndex_8e157_5 rfl (lv_at hl 1 rfl) ?_
    refine lv_icmp_lt (tgt := 16) hx hb dJ3_checkIndex_8e157_6 (by decide) (fun c_2 => ?_) (fun c_2 => ?_)
    · skip
      refine lv_iload_n hx hb dJ3_checkIndex_8e157_16 rfl (lv_at hl 0 rfl) ?_
      exact retI (v := x1) hx hb hr hlk (rfl) hP hD hS () ⟨_, rfl, trivial⟩ [] rfl rfl dJ3_checkIndex_8e157_17 (Nat.le_of_ble_eq_true rfl) (Nat.le_of_ble_eq_true rfl) rfl
    · skip
      exfalso
      have z_1 := Int32.le_iff_toInt_le.mp (Int32.not_lt.mp c_1)
      have z_2 := Int32.le_iff_toInt_le.mp (Int32.not_lt.mp c_2)
      have y_0 : (0 : Int32).toInt = 0 := by decide
      omega
set_option maxHeartbeats 4000000 in
set_option maxRecDepth 100000 in
theorem ct_fJ0_checkIndex (l : Launch) (D : va_G) (tc : Nat → ClassId) (sk : (Nat → Nat) × (Nat → Nat)) (x1 : Int32) (x2 : Int32) (hk : 0 ≤ x1.toInt ∧ x1.toInt < x2.toInt) : Ct l yJ0_checkIndex_df160 cJ0_checkIndex_df160 2 none { frames := 1, cells := 0, slots := 0, locals := 22 } D tc sk [.int x1, .int x2] [] (fun (v : Option Value) (_ : Unit) => v = none) (fun (_ : Unit) => []) 0 0 := by
  refine Ct.start (by decide) (Nat.le_of_ble_eq_true rfl) (fun p e s m below meth c A ls hx hb hr hlk hin hml hown hts hK hX hP hD hA hl hS => ?_)
  have hl : lv_has ls 2 [(0, .int x1), (1, .int x2)] := hl
  refine lv_iload_n hx hb dJ0_checkIndex_df160_0 rfl (lv_at hl 0 rfl) ?_
  refine lv_iload_n hx hb dJ0_checkIndex_df160_1 rfl (lv_at hl 1 rfl) ?_
  rcases hX.2.2.1 with hz_1 | ⟨tz_2, hz_1⟩
  · skip
    refine va_gets hx hb hz_1 hS hown (hts _ k_526) (fun _ h9 => h9) dJ0_checkIndex_df160_2 ?_
    refine cS (As := [.int x1, .int x2, .null]) (rest := []) (wr := []) ⟨hx, hb, hml, hown, hts⟩ hK hX hA (ct_fJ3_checkIndex_n l D tc sk x1 x2 hk) k_530 k_528 k_529 k_109 pl_J3_checkIndex_8e157 ⟨Nat.le_of_ble_eq_true rfl, Nat.le_of_ble_eq_true rfl⟩ rfl rfl  hP hD hS [] [] rfl rfl rfl rfl rfl (by decide) rfl hl.1 rfl (Nat.le_of_ble_eq_true rfl) dJ0_checkIndex_df160_5 ⟨Nat.le_of_ble_eq_true rfl, Nat.le_of_ble_eq_true rfl⟩ (fun v_3 u_4 H locs hv_5 hP₀ hD₀ hS₀ => ?_)
    obtain ⟨r_6, rfl, he_7⟩ := hv_5
    refine W.eq (g2 := F0 m 8 ls [.int r_6]) rfl ?_
    replace hP : va_P D classes [] H := hP₀
    replace hD : va_D A [] := hD₀
    replace hS := hS₀
    clear hP₀ hD₀ hS₀
    refine lv_pop hx hb dJ0_checkIndex_df160_8 rfl ?_
    exact retV hx hb hr hlk hP hD hS () rfl [] rfl rfl dJ0_checkIndex_df160_9 (Nat.le_of_ble_eq_true rfl) (Nat.le_of_ble_eq_true rfl) rfl
  · skip
    refine va_gets hx hb hz_1 hS hown (hts _ k_526) (fun _ h9 => h9) dJ0_checkIndex_df160_2 ?_
    refine cS (As := [.int x1, .int x2, .ref tz_2]) (rest := []) (wr := []) ⟨hx, hb, hml, hown, hts⟩ hK hX hA (ct_fJ3_checkIndex_r l D tc sk tz_2 x1 x2 hk) k_530 k_528 k_529 k_109 pl_J3_checkIndex_8e157 ⟨Nat.le_of_ble_eq_true rfl, Nat.le_of_ble_eq_true rfl⟩ rfl rfl  hP hD hS [] [] rfl rfl rfl rfl rfl (by decide) rfl hl.1 rfl (Nat.le_of_ble_eq_true rfl) dJ0_checkIndex_df160_5 ⟨Nat.le_of_ble_eq_true rfl, Nat.le_of_ble_eq_true rfl⟩ (fun v_9 u_10 H locs hv_11 hP₀ hD₀ hS₀ => ?_)
    obtain ⟨r_12, rfl, he_13⟩ := hv_11
    refine W.eq (g2 := F0 m 8 ls [.int r_12]) rfl ?_
    replace hP : va_P D classes [] H := hP₀
    replace hD : va_D A [] := hD₀
    replace hS := hS₀
    clear hP₀ hD₀ hS₀
    refine lv_pop hx hb dJ0_checkIndex_df160_8 rfl ?_
    exact retV hx hb hr hlk hP hD hS () rfl [] rfl rfl dJ0_checkIndex_df160_9 (Nat.le_of_ble_eq_true rfl) (Nat.le_of_ble_eq_true rfl) rfl
set_option maxHeartbeats 4000000 in
set_option maxRecDepth 100000 in
theorem ct_fJ1_charAt (l : Launch) (D : va_G) (tc : Nat → ClassId) (sk : (Nat → Nat) × (Nat → Nat)) (i : Nat) (x1 : Int32) (hi : i < 7) (hk : 0 ≤ x1.toInt ∧ x1.toInt < ((lenS.getD i 0 : Nat) : Int)) : Ct l yJ1_charAt_3b067 cJ1_charAt_3b067 2 (some .char) { frames := 2, cells := 0, slots := 0, locals := 43 } D tc sk [.ref (sk.2 i), .int x1] [] (fun (v : Option Value) (_ : Unit) => ∃ r : Int32, v = some (.int r) ∧ ((narrow .char (.int r) = .int r ∧ r.toInt = stB i x1.toInt.toNat))) (fun (_ : Unit) => []) 0 0 := by
  refine Ct.start (by decide) (Nat.le_of_ble_eq_true rfl) (fun p e s m below meth c A ls hx hb hr hlk hin hml hown hts hK hX hP hD hA hl hS => ?_)
  have hl : lv_has ls 2 [(0, .ref (sk.2 i)), (1, .int x1)] := hl
  have hl75 := lenS_le hi
  refine lv_iload_n hx hb dJ1_charAt_3b067_0 rfl (lv_at hl 1 rfl) ?_
  refine lv_aload_n hx hb dJ1_charAt_3b067_1 rfl (lv_at hl 0 rfl) ?_
  refine va_tlen hx hb (hX.1.1 i hi).2.2.2 hS (v := nI (lenS.getD i 0)) rfl dJ1_charAt_3b067_2 ?_
  have ha_1 : 0 ≤ x1.toInt ∧ x1.toInt < (nI (lenS.getD i 0)).toInt := by
    have n_0 : (nI (lenS.getD i 0)).toInt = (((lenS.getD i 0) : Nat) : Int) := nI_toInt (by omega)
    omega
  refine cS (As := [.int x1, .int (nI (lenS.getD i 0))]) (rest := []) (wr := []) ⟨hx, hb, hml, hown, hts⟩ hK hX hA (ct_fJ0_checkIndex l D tc sk x1 (nI (lenS.getD i 0)) ha_1) k_525 k_523 k_524 k_107 pl_J0_checkIndex_df160 ⟨Nat.le_of_ble_eq_true rfl, Nat.le_of_ble_eq_true rfl⟩ rfl rfl  hP hD hS [] [] rfl rfl rfl rfl rfl (by decide) rfl hl.1 rfl (Nat.le_of_ble_eq_true rfl) dJ1_charAt_3b067_3 ⟨Nat.le_of_ble_eq_true rfl, Nat.le_of_ble_eq_true rfl⟩ (fun v_2 u_3 H locs hv_4 hP₀ hD₀ hS₀ => ?_)
  obtain rfl : v_2 = none := hv_4
  refine W.eq (g2 := F0 m 6 ls []) rfl ?_
  replace hP : va_P D classes [] H := hP₀
  replace hD : va_D A [] := hD₀
  replace hS := hS₀
  clear hP₀ hD₀ hS₀
  refine lv_aload_n hx hb dJ1_charAt_3b067_6 rfl (lv_at hl 0 rfl) ?_
  refine lv_iload_n hx hb dJ1_charAt_3b067_7 rfl (lv_at hl 1 rfl) ?_
  have hi_5 : vp_in x1 (lenS.getD i 0) := by
    refine vp_in_iff.mpr ⟨?_, ?_⟩ <;> omega
  refine va_tb hx hb (hX.1.1 i hi).2.2.2 hS hi_5 (v := .int ((bytS.getD i []).getD (x1 : Int32).toNatClampNeg 0)) rfl dJ1_charAt_3b067_8 ?_
  refine lv_sipush (v := 255) hx hb dJ1_charAt_3b067_9 (by decide) ?_
  refine lv_iand hx hb dJ1_charAt_3b067_12 ?_
  refine lv_topi (fun x_6 ex_6 => ?_)
  obtain ⟨x_7, ex_7⟩ : ∃ y : Int32, y = ((x_6 : Int32).toUInt32 % 65536).toInt32 := ⟨_, rfl⟩
  refine lv_i2c (v := x_7) hx hb dJ1_charAt_3b067_13 ex_7.symm ?_
  exact retI (v := x_7) hx hb hr hlk ((chS_eq hi hk ex_6 ex_7).1) hP hD hS () ⟨_, rfl, (chS_eq hi hk ex_6 ex_7)⟩ [] rfl rfl dJ1_charAt_3b067_14 (Nat.le_of_ble_eq_true rfl) (Nat.le_of_ble_eq_true rfl) rfl
set_option maxHeartbeats 4000000 in
set_option maxRecDepth 100000 in
theorem ct_fJ0_charAt (l : Launch) (D : va_G) (tc : Nat → ClassId) (sk : (Nat → Nat) × (Nat → Nat)) (i : Nat) (x1 : Int32) (hi : i < 7) (hk : 0 ≤ x1.toInt ∧ x1.toInt < ((lenS.getD i 0 : Nat) : Int)) : Ct l yJ0_charAt_5068e cJ0_charAt_5068e 2 (some .char) { frames := 3, cells := 0, slots := 0, locals := 64 } D tc sk [.ref (sk.1 i), .int x1] [] (fun (v : Option Value) (_ : Unit) => ∃ r : Int32, v = some (.int r) ∧ ((narrow .char (.int r) = .int r ∧ r.toInt = stB i x1.toInt.toNat))) (fun (_ : Unit) => []) 0 0 := by
  refine Ct.start (by decide) (Nat.le_of_ble_eq_true rfl) (fun p e s m below meth c A ls hx hb hr hlk hin hml hown hts hK hX hP hD hA hl hS => ?_)
  have hl : lv_has ls 2 [(0, .ref (sk.1 i)), (1, .int x1)] := hl
  refine lv_aload_n hx hb dJ0_charAt_5068e_0 rfl (lv_at hl 0 rfl) ?_
  refine cV (a := (sk.1 i)) (As := []) (rest := []) (wr := []) ⟨hx, hb, hml, hown, hts⟩ hK hX hA (ct_fJ0_isLatin1 l D tc sk i hi) k_519 k_516 k_517 k_518 k_107 pl_J0_isLatin1_aae02 ⟨Nat.le_of_ble_eq_true rfl, Nat.le_of_ble_eq_true rfl⟩ rfl rfl (vk_recv hX.1 hi hS) hP hD hS [] [] rfl rfl rfl rfl rfl (by decide) rfl hl.1 rfl (Nat.le_of_ble_eq_true rfl) dJ0_charAt_5068e_1 ⟨Nat.le_of_ble_eq_true rfl, Nat.le_of_ble_eq_true rfl⟩ (fun v_1 u_2 H locs hv_3 hP₀ hD₀ hS₀ => ?_)
  obtain ⟨r_4, rfl, he_5⟩ := hv_3
  have he_5 : r_4.toInt = 1 := he_5
  refine W.eq (g2 := F0 m 4 ls [.int r_4]) rfl ?_
  replace hP : va_P D classes [] H := hP₀
  replace hD : va_D A [] := hD₀
  replace hS := hS₀
  clear hP₀ hD₀ hS₀
  obtain rfl : r_4 = 1 := Int32.toInt_inj.mp (he_5.trans (by decide))
  have hP := hP
  refine lv_if_eq (tgt := 16) hx hb dJ0_charAt_5068e_4 (by decide) (fun c_7 => absurd c_7 (by decide)) (fun c_7 => ?_)
  refine lv_aload_n hx hb dJ0_charAt_5068e_7 rfl (lv_at hl 0 rfl) ?_
  refine vk_getf hx hb (hX.1.1 i hi).2.2.1 hS hown (hts _ k_1656) (fun _ h9 => h9) dJ0_charAt_5068e_8 ?_
  refine lv_iload_n hx hb dJ0_charAt_5068e_11 rfl (lv_at hl 1 rfl) ?_
  refine cS (As := [.ref (sk.2 i), .int x1]) (rest := []) (wr := []) ⟨hx, hb, hml, hown, hts⟩ hK hX hA (ct_fJ1_charAt l D tc sk i x1 hi hk) k_522 k_520 k_521 k_108 pl_J1_charAt_3b067 ⟨Nat.le_of_ble_eq_true rfl, Nat.le_of_ble_eq_true rfl⟩ rfl rfl  hP hD hS [] [] rfl rfl rfl rfl rfl (by decide) rfl hl.1 rfl (Nat.le_of_ble_eq_true rfl) dJ0_charAt_5068e_12 ⟨Nat.le_of_ble_eq_true rfl, Nat.le_of_ble_eq_true rfl⟩ (fun v_8 u_9 H locs hv_10 hP₀ hD₀ hS₀ => ?_)
  obtain ⟨r_11, rfl, he_12⟩ := hv_10
  have he_12 : (narrow .char (.int r_11) = .int r_11 ∧ r_11.toInt = stB i x1.toInt.toNat) := he_12
  refine W.eq (g2 := F0 m 15 ls [.int r_11]) rfl ?_
  replace hP : va_P D classes [] H := hP₀
  replace hD : va_D A [] := hD₀
  replace hS := hS₀
  clear hP₀ hD₀ hS₀
  exact retI (v := r_11) hx hb hr hlk (he_12.1) hP hD hS () ⟨_, rfl, he_12⟩ [] rfl rfl dJ0_charAt_5068e_15 (Nat.le_of_ble_eq_true rfl) (Nat.le_of_ble_eq_true rfl) rfl
set_option maxHeartbeats 4000000 in
set_option maxRecDepth 100000 in
theorem ct_fX10_isPartOf (l : Launch) (D : va_G) (tc : Nat → ClassId) (sk : (Nat → Nat) × (Nat → Nat)) (Ta : Nat → Nat) (Tv : Nat → Int32) (Tf : Nat → Nat → Int32) (i : Nat) (x2 : Int32) (x3 : Int32) (rr : Except Int (Nat × Nat)) (hi : i < 7) (h_tape : 0 ≤ ((Tv 0) : Int32).toInt ∧ ((Tv 0) : Int32).toInt ≤ 400 ∧ 0 ≤ ((Tv 1) : Int32).toInt ∧ ((Tv 1) : Int32).toInt ≤ 400 ∧ 0 ≤ ((Tv 2) : Int32).toInt ∧ ((Tv 2) : Int32).toInt ≤ 400) (h_by : Byt (Tf 1)) (h_r : TpR (Tf 1) (Tv 0) rr (Tv 1) (Tv 2) (Tv 3) (Tv 4)) (hft : 0 ≤ x2.toInt ∧ x2.toInt ≤ x3.toInt ∧ x3.toInt ≤ ((lenS.getD i 0 : Nat) : Int)) : Ct l yX10_isPartOf cX10_isPartOf 5 (some .boolean) { frames := 4, cells := 0, slots := 0, locals := 85 } D tc sk [.ref (Ta 0), .ref (sk.1 i), .int x2, .int x3] [((Ta 0), .inr (10, [.ref (Ta 1), .int (Tv 0), .int (Tv 1), .int (Tv 2), .int (Tv 3), .int (Tv 4)])), ((Ta 1), .inl (tc 0, 400, .inl (Tf 1)))] (fun (v : Option Value) (_ : Unit) => ∃ r : Int32, v = some (.int r) ∧ ((r.toInt = 0 ∨ r.toInt = 1)) ∧ (r.toInt = 1 → (TWd (cB (Tf 1) (Tv 0)) (sbS i x2.toInt.toNat x3.toInt.toNat) rr)) ∧ (r.toInt = 0 → (NWd (cB (Tf 1) (Tv 0)) (sbS i x2.toInt.toNat x3.toInt.toNat) rr))) (fun (_ : Unit) => [((Ta 0), .inr (10, [.ref (Ta 1), .int (Tv 0), .int (Tv 1), .int (Tv 2), .int (Tv 3), .int (Tv 4)])), ((Ta 1), .inl (tc 0, 400, .inl (Tf 1)))]) 0 0 := by
  refine Ct.start (by decide) (Nat.le_of_ble_eq_true rfl) (fun p e s m below meth c A ls hx hb hr hlk hin hml hown hts hK hX hP hD hA hl hS => ?_)
  have hl : lv_has ls 5 [(0, .ref (Ta 0)), (1, .ref (sk.1 i)), (2, .int x2), (3, .int x3)] := hl
  have tb_1 : TpB (rTE (cB (Tf 1) (Tv 0)) rr) (Tv 2) (Tv 4) := TpR.tb h_r
  have hl75 := lenS_le hi
  refine lv_aload_n hx hb dX10_isPartOf_0 rfl (lv_at hl 0 rfl) ?_
  refine gf_X10_28 hx hb hts hown hK hP 0 rfl rfl dX10_isPartOf_1 ?_
  refine lv_if_ne (tgt := 34) hx hb dX10_isPartOf_4 (by decide) (fun c_2 => ?_) (fun c_2 => ?_)
  · skip
    refine lv_iconst (v := 0) hx hb dX10_isPartOf_34 (by decide) ?_
    have hp_3 : ((0 : Int32).toInt = 0 ∨ (0 : Int32).toInt = 1) := by
      have z_1 : ¬ ((Tv 4) : Int32).toInt = (0 : Int32).toInt := fun z => c_2 (Int32.toInt_inj.mp z)
      have y_0 : (0 : Int32).toInt = 0 := by decide
      omega
    have hm_4 : (0 : Int32).toInt = 0 → (NWd (cB (Tf 1) (Tv 0)) (sbS i x2.toInt.toNat x3.toInt.toNat) rr) := by
      intro h1r
      have hr_5 : ¬ (Tv 4).toInt = 0 := by
        have z_1 : ¬ ((Tv 4) : Int32).toInt = (0 : Int32).toInt := fun z => c_2 (Int32.toInt_inj.mp z)
        have y_0 : (0 : Int32).toInt = 0 := by decide
        omega
      exact (NWd.er h_r hr_5)
    exact retI (v := 0) hx hb hr hlk (rfl) hP hD hS () ⟨_, rfl, hp_3, (fun h => absurd h (by decide)), hm_4⟩ [0, 1] rfl rfl dX10_isPartOf_35 (Nat.le_of_ble_eq_true rfl) (Nat.le_of_ble_eq_true rfl) rfl
  · skip
    refine lv_aload_n hx hb dX10_isPartOf_7 rfl (lv_at hl 0 rfl) ?_
    refine gf_X10_22 hx hb hts hown hK hP 0 rfl rfl dX10_isPartOf_8 ?_
    refine lv_aload_n hx hb dX10_isPartOf_11 rfl (lv_at hl 0 rfl) ?_
    refine gf_X10_19 hx hb hts hown hK hP 0 rfl rfl dX10_isPartOf_12 ?_
    refine lv_isub hx hb dX10_isPartOf_15 ?_
    refine lv_topi (fun x_6 ex_6 => ?_)
    refine lv_iload_n hx hb dX10_isPartOf_16 rfl (lv_at hl 3 rfl) ?_
    refine lv_iload_n hx hb dX10_isPartOf_17 rfl (lv_at hl 2 rfl) ?_
    refine lv_isub hx hb dX10_isPartOf_18 ?_
    refine lv_topi (fun x_7 ex_7 => ?_)
    refine lv_icmp_ne (tgt := 34) hx hb dX10_isPartOf_19 (by decide) (fun c_8 => ?_) (fun c_8 => ?_)
    · skip
      refine lv_iconst (v := 0) hx hb dX10_isPartOf_34 (by decide) ?_
      have hp_9 : ((0 : Int32).toInt = 0 ∨ (0 : Int32).toInt = 1) := by
        have z_1 := congrArg Int32.toInt c_2
        have z_2 : ¬ (x_6 : Int32).toInt = (x_7 : Int32).toInt := fun z => c_8 (Int32.toInt_inj.mp z)
        have y_0 : (0 : Int32).toInt = 0 := by decide
        have t_x_6 : x_6.toInt = ((Tv 2) : Int32).toInt - ((Tv 1) : Int32).toInt := by rw [ex_6]; exact sub_toInt (by omega) (by omega)
        have t_x_7 : x_7.toInt = (x3 : Int32).toInt - (x2 : Int32).toInt := by rw [ex_7]; exact sub_toInt (by omega) (by omega)
        omega
      have hm_10 : (0 : Int32).toInt = 0 → (NWd (cB (Tf 1) (Tv 0)) (sbS i x2.toInt.toNat x3.toInt.toNat) rr) := by
        intro h1r
        have hl_11 : NWd (cB (Tf 1) (Tv 0)) (sbS i x2.toInt.toNat x3.toInt.toNat) rr := NWd.len h_r (by
          rw [sbS_len]
          have z_1 := congrArg Int32.toInt c_2
          have z_2 : ¬ (x_6 : Int32).toInt = (x_7 : Int32).toInt := fun z => c_8 (Int32.toInt_inj.mp z)
          have y_0 : (0 : Int32).toInt = 0 := by decide
          have t_x_6 : x_6.toInt = ((Tv 2) : Int32).toInt - ((Tv 1) : Int32).toInt := by rw [ex_6]; exact sub_toInt (by omega) (by omega)
          have t_x_7 : x_7.toInt = (x3 : Int32).toInt - (x2 : Int32).toInt := by rw [ex_7]; exact sub_toInt (by omega) (by omega)
          omega)
        exact hl_11
      exact retI (v := 0) hx hb hr hlk (rfl) hP hD hS () ⟨_, rfl, hp_9, (fun h => absurd h (by decide)), hm_10⟩ [0, 1] rfl rfl dX10_isPartOf_35 (Nat.le_of_ble_eq_true rfl) (Nat.le_of_ble_eq_true rfl) rfl
    · skip
      refine lv_iload_n hx hb dX10_isPartOf_22 rfl (lv_at hl 2 rfl) ?_
      refine lv_if_lt (tgt := 34) hx hb dX10_isPartOf_23 (by decide) (fun c_12 => ?_) (fun c_12 => ?_)
      · skip
        refine lv_iconst (v := 0) hx hb dX10_isPartOf_34 (by decide) ?_
        have hp_13 : ((0 : Int32).toInt = 0 ∨ (0 : Int32).toInt = 1) := by
          have z_1 := congrArg Int32.toInt c_2
          have z_2 := congrArg Int32.toInt c_8
          have z_3 := Int32.lt_iff_toInt_lt.mp c_12
          have y_0 : (0 : Int32).toInt = 0 := by decide
          have t_x_6 : x_6.toInt = ((Tv 2) : Int32).toInt - ((Tv 1) : Int32).toInt := by rw [ex_6]; exact sub_toInt (by omega) (by omega)
          have t_x_7 : x_7.toInt = (x3 : Int32).toInt - (x2 : Int32).toInt := by rw [ex_7]; exact sub_toInt (by omega) (by omega)
          omega
        have hm_14 : (0 : Int32).toInt = 0 → (NWd (cB (Tf 1) (Tv 0)) (sbS i x2.toInt.toNat x3.toInt.toNat) rr) := by
          intro h1r
          have hl_15 : NWd (cB (Tf 1) (Tv 0)) (sbS i x2.toInt.toNat x3.toInt.toNat) rr := NWd.len h_r (by
            rw [sbS_len]
            have z_1 := congrArg Int32.toInt c_2
            have z_2 := congrArg Int32.toInt c_8
            have z_3 := Int32.lt_iff_toInt_lt.mp c_12
            have y_0 : (0 : Int32).toInt = 0 := by decide
            have t_x_6 : x_6.toInt = ((Tv 2) : Int32).toInt - ((Tv 1) : Int32).toInt := by rw [ex_6]; exact sub_toInt (by omega) (by omega)
            have t_x_7 : x_7.toInt = (x3 : Int32).toInt - (x2 : Int32).toInt := by rw [ex_7]; exact sub_toInt (by omega) (by omega)
            omega)
          exact hl_15
        exact retI (v := 0) hx hb hr hlk (rfl) hP hD hS () ⟨_, rfl, hp_13, (fun h => absurd h (by decide)), hm_14⟩ [0, 1] rfl rfl dX10_isPartOf_35 (Nat.le_of_ble_eq_true rfl) (Nat.le_of_ble_eq_true rfl) rfl
      · skip
        refine lv_iload_n hx hb dX10_isPartOf_26 rfl (lv_at hl 3 rfl) ?_
        refine lv_aload_n hx hb dX10_isPartOf_27 rfl (lv_at hl 1 rfl) ?_
        refine cV (a := (sk.1 i)) (As := []) (rest := [.int x3]) (wr := [((Ta 0), .inr (10, [.ref (Ta 1), .int (Tv 0), .int (Tv 1), .int (Tv 2), .int (Tv 3), .int (Tv 4)])), ((Ta 1), .inl (tc 0, 400, .inl (Tf 1)))]) ⟨hx, hb, hml, hown, hts⟩ hK hX hA (ct_fJ0_length l D tc sk i hi) k_505 k_502 k_503 k_504 k_107 pl_J0_length_8abf5 ⟨Nat.le_of_ble_eq_true rfl, Nat.le_of_ble_eq_true rfl⟩ rfl rfl (vk_recv hX.1 hi hS) hP hD hS [] [0, 1] rfl rfl rfl rfl rfl (by decide) rfl hl.1 rfl (Nat.le_of_ble_eq_true rfl) dX10_isPartOf_28 ⟨Nat.le_of_ble_eq_true rfl, Nat.le_of_ble_eq_true rfl⟩ (fun v_16 u_17 H locs hv_18 hP₀ hD₀ hS₀ => ?_)
        obtain ⟨r_19, rfl, he_20⟩ := hv_18
        have he_20 : r_19.toInt = ((lenS.getD i 0 : Nat) : Int) := he_20
        refine W.eq (g2 := F0 m 31 ls [.int r_19, .int x3]) rfl ?_
        replace hP : va_P D classes [((Ta 0), .inr (10, [.ref (Ta 1), .int (Tv 0), .int (Tv 1), .int (Tv 2), .int (Tv 3), .int (Tv 4)])), ((Ta 1), .inl (tc 0, 400, .inl (Tf 1)))] H := hP₀
        replace hD : va_D A [((Ta 0), .inr (10, [.ref (Ta 1), .int (Tv 0), .int (Tv 1), .int (Tv 2), .int (Tv 3), .int (Tv 4)])), ((Ta 1), .inl (tc 0, 400, .inl (Tf 1)))] := hD₀
        replace hS := hS₀
        clear hP₀ hD₀ hS₀
        refine lv_icmp_le (tgt := 36) hx hb dX10_isPartOf_31 (by decide) (fun c_22 => ?_) (fun c_22 => ?_)
        · skip
          refine lv_aload_n hx hb dX10_isPartOf_36 rfl (lv_at hl 0 rfl) ?_
          refine gf_X10_19 hx hb hts hown hK hP 0 rfl rfl dX10_isPartOf_37 ?_
          refine lv_if_lt (tgt := 55) hx hb dX10_isPartOf_40 (by decide) (fun c_23 => ?_) (fun c_23 => ?_)
          · skip
            refine lv_iconst (v := 0) hx hb dX10_isPartOf_55 (by decide) ?_
            have hp_24 : ((0 : Int32).toInt = 0 ∨ (0 : Int32).toInt = 1) := by
              have z_1 := congrArg Int32.toInt c_2
              have z_2 := congrArg Int32.toInt c_8
              have z_3 := Int32.le_iff_toInt_le.mp (Int32.not_lt.mp c_12)
              have z_4 := Int32.le_iff_toInt_le.mp c_22
              have z_5 := Int32.lt_iff_toInt_lt.mp c_23
              have y_0 : (0 : Int32).toInt = 0 := by decide
              have t_x_6 : x_6.toInt = ((Tv 2) : Int32).toInt - ((Tv 1) : Int32).toInt := by rw [ex_6]; exact sub_toInt (by omega) (by omega)
              have t_x_7 : x_7.toInt = (x3 : Int32).toInt - (x2 : Int32).toInt := by rw [ex_7]; exact sub_toInt (by omega) (by omega)
              omega
            have hm_25 : (0 : Int32).toInt = 0 → (NWd (cB (Tf 1) (Tv 0)) (sbS i x2.toInt.toNat x3.toInt.toNat) rr) := by
              intro h1r
              have hl_26 : NWd (cB (Tf 1) (Tv 0)) (sbS i x2.toInt.toNat x3.toInt.toNat) rr := NWd.len h_r (by
                rw [sbS_len]
                have z_1 := congrArg Int32.toInt c_2
                have z_2 := congrArg Int32.toInt c_8
                have z_3 := Int32.le_iff_toInt_le.mp (Int32.not_lt.mp c_12)
                have z_4 := Int32.le_iff_toInt_le.mp c_22
                have z_5 := Int32.lt_iff_toInt_lt.mp c_23
                have y_0 : (0 : Int32).toInt = 0 := by decide
                have t_x_6 : x_6.toInt = ((Tv 2) : Int32).toInt - ((Tv 1) : Int32).toInt := by rw [ex_6]; exact sub_toInt (by omega) (by omega)
                have t_x_7 : x_7.toInt = (x3 : Int32).toInt - (x2 : Int32).toInt := by rw [ex_7]; exact sub_toInt (by omega) (by omega)
                omega)
              exact hl_26
            exact retI (v := 0) hx hb hr hlk (rfl) hP hD hS () ⟨_, rfl, hp_24, (fun h => absurd h (by decide)), hm_25⟩ [0, 1] rfl rfl dX10_isPartOf_56 (Nat.le_of_ble_eq_true rfl) (Nat.le_of_ble_eq_true rfl) rfl
          · skip
            refine lv_aload_n hx hb dX10_isPartOf_43 rfl (lv_at hl 0 rfl) ?_
            refine gf_X10_22 hx hb hts hown hK hP 0 rfl rfl dX10_isPartOf_44 ?_
            refine lv_aload_n hx hb dX10_isPartOf_47 rfl (lv_at hl 0 rfl) ?_
            refine gf_X10_9 hx hb hts hown hK hP 0 rfl rfl dX10_isPartOf_48 ?_
            refine va_alen hx hb hK hP 1 0 rfl rfl (v := 400) rfl dX10_isPartOf_51 ?_
            refine lv_icmp_le (tgt := 57) hx hb dX10_isPartOf_52 (by decide) (fun c_27 => ?_) (fun c_27 => ?_)
            · skip
              refine lv_iload_n hx hb dX10_isPartOf_57 rfl (lv_at hl 2 rfl) ?_
              refine lv_istore (lv' := [(4, .int x2), (0, .ref (Ta 0)), (1, .ref (sk.1 i)), (2, .int x2), (3, .int x3)]) hx hb dX10_isPartOf_58 hl (by decide) rfl (fun ls hl₀ => ?_)
              replace hl := hl₀
              clear hl₀
              have loop_32 : ∀ (n_30 : Nat) (vy_29 : Int32) (H : Heap) (locs : List Loc) (ls : Array Slot), (76 - (vy_29 : Int32).toInt).toNat < n_30 → (x2.toInt ≤ (vy_29 : Int32).toInt ∧ (vy_29 : Int32).toInt ≤ x3.toInt) → (Mt (Tf 1) i (Tv 1) x2 vy_29) → va_P D classes [((Ta 0), .inr (10, [.ref (Ta 1), .int (Tv 0), .int (Tv 1), .int (Tv 2), .int (Tv 3), .int (Tv 4)])), ((Ta 1), .inl (tc 0, 400, .inl (Tf 1)))] H → va_D A [((Ta 0), .inr (10, [.ref (Ta 1), .int (Tv 0), .int (Tv 1), .int (Tv 2), .int (Tv 3), .int (Tv 4)])), ((Ta 1), .inl (tc 0, 400, .inl (Tf 1)))] → va_S A s.heap H locs → lv_has ls 5 [(4, .int vy_29), (0, .ref (Ta 0)), (1, .ref (sk.1 i)), (2, .int x2), (3, .int x3)] → W p l e ({ frames := 4, cells := 0, slots := 0, locals := 85 }) s m ([.ref (Ta 0), .ref (sk.1 i), .int x2, .int x3].toArray) below meth c H locs 0 0 (MQ below (QW (fun (v : Option Value) (_ : Unit) => ∃ r : Int32, v = some (.int r) ∧ ((r.toInt = 0 ∨ r.toInt = 1)) ∧ (r.toInt = 1 → (TWd (cB (Tf 1) (Tv 0)) (sbS i x2.toInt.toNat x3.toInt.toNat) rr)) ∧ (r.toInt = 0 → (NWd (cB (Tf 1) (Tv 0)) (sbS i x2.toInt.toNat x3.toInt.toNat) rr))) (BW D (fun (_ : Unit) => [((Ta 0), .inr (10, [.ref (Ta 1), .int (Tv 0), .int (Tv 1), .int (Tv 2), .int (Tv 3), .int (Tv 4)])), ((Ta 1), .inl (tc 0, 400, .inl (Tf 1)))]) A) A) ([.ref (Ta 0), .ref (sk.1 i), .int x2, .int x3].toArray) s 0 0 A) (F0 m 60 ls []) := by
                clear hP hD hS hl
                intro n_30
                induction n_30 with
                | zero =>
                  intro vy_29 H locs ls h1
                  exact absurd h1 (Nat.not_lt_zero _)
                | succ n_30 ih_31 =>
                  intro vy_29 H locs ls hn_35 pf_33 pf_34 hP hD hS hl
                  refine lv_iload hx hb dX10_isPartOf_60 (lv_at hl 0 rfl) ?_
                  refine lv_iload_n hx hb dX10_isPartOf_62 rfl (lv_at hl 4 rfl) ?_
                  refine lv_icmp_ge (tgt := 97) hx hb dX10_isPartOf_63 (by decide) (fun c_36 => ?_) (fun c_36 => ?_)
                  · skip
                    refine lv_iconst (v := 1) hx hb dX10_isPartOf_97 (by decide) ?_
                    have hp_37 : ((1 : Int32).toInt = 0 ∨ (1 : Int32).toInt = 1) := by
                      have z_1 := congrArg Int32.toInt c_2
                      have z_2 := congrArg Int32.toInt c_8
                      have z_3 := Int32.le_iff_toInt_le.mp (Int32.not_lt.mp c_12)
                      have z_4 := Int32.le_iff_toInt_le.mp c_22
                      have z_5 := Int32.le_iff_toInt_le.mp (Int32.not_lt.mp c_23)
                      have z_6 := Int32.le_iff_toInt_le.mp c_27
                      have z_7 := Int32.le_iff_toInt_le.mp c_36
                      have y_0 : (0 : Int32).toInt = 0 := by decide
                      have y_400 : (400 : Int32).toInt = 400 := by decide
                      have y_1 : (1 : Int32).toInt = 1 := by decide
                      have t_x_6 : x_6.toInt = ((Tv 2) : Int32).toInt - ((Tv 1) : Int32).toInt := by rw [ex_6]; exact sub_toInt (by omega) (by omega)
                      have t_x_7 : x_7.toInt = (x3 : Int32).toInt - (x2 : Int32).toInt := by rw [ex_7]; exact sub_toInt (by omega) (by omega)
                      have yr : (1 : Int32).toInt = 1 := by decide
                      omega
                    have hm_38 : (1 : Int32).toInt = 1 → (TWd (cB (Tf 1) (Tv 0)) (sbS i x2.toInt.toNat x3.toInt.toNat) rr) := by
                      intro h1r
                      have hk_39 : vy_29 = x3 := Int32.toInt_inj.mp (by
                        have z_1 := congrArg Int32.toInt c_2
                        have z_2 := congrArg Int32.toInt c_8
                        have z_3 := Int32.le_iff_toInt_le.mp (Int32.not_lt.mp c_12)
                        have z_4 := Int32.le_iff_toInt_le.mp c_22
                        have z_5 := Int32.le_iff_toInt_le.mp (Int32.not_lt.mp c_23)
                        have z_6 := Int32.le_iff_toInt_le.mp c_27
                        have z_7 := Int32.le_iff_toInt_le.mp c_36
                        have y_0 : (0 : Int32).toInt = 0 := by decide
                        have y_400 : (400 : Int32).toInt = 400 := by decide
                        have t_x_6 : x_6.toInt = ((Tv 2) : Int32).toInt - ((Tv 1) : Int32).toInt := by rw [ex_6]; exact sub_toInt (by omega) (by omega)
                        have t_x_7 : x_7.toInt = (x3 : Int32).toInt - (x2 : Int32).toInt := by rw [ex_7]; exact sub_toInt (by omega) (by omega)
                        omega)
                      have hr_40 : (Tv 4).toInt = 0 := by
                        have z_1 := congrArg Int32.toInt c_2
                        have z_2 := congrArg Int32.toInt c_8
                        have z_3 := Int32.le_iff_toInt_le.mp (Int32.not_lt.mp c_12)
                        have z_4 := Int32.le_iff_toInt_le.mp c_22
                        have z_5 := Int32.le_iff_toInt_le.mp (Int32.not_lt.mp c_23)
                        have z_6 := Int32.le_iff_toInt_le.mp c_27
                        have z_7 := Int32.le_iff_toInt_le.mp c_36
                        have y_0 : (0 : Int32).toInt = 0 := by decide
                        have y_400 : (400 : Int32).toInt = 400 := by decide
                        have t_x_6 : x_6.toInt = ((Tv 2) : Int32).toInt - ((Tv 1) : Int32).toInt := by rw [ex_6]; exact sub_toInt (by omega) (by omega)
                        have t_x_7 : x_7.toInt = (x3 : Int32).toInt - (x2 : Int32).toInt := by rw [ex_7]; exact sub_toInt (by omega) (by omega)
                        omega
                      have hr_41 : (Tv 2).toInt - (Tv 1).toInt = x3.toInt - x2.toInt := by
                        have z_1 := congrArg Int32.toInt c_2
                        have z_2 := congrArg Int32.toInt c_8
                        have z_3 := Int32.le_iff_toInt_le.mp (Int32.not_lt.mp c_12)
                        have z_4 := Int32.le_iff_toInt_le.mp c_22
                        have z_5 := Int32.le_iff_toInt_le.mp (Int32.not_lt.mp c_23)
                        have z_6 := Int32.le_iff_toInt_le.mp c_27
                        have z_7 := Int32.le_iff_toInt_le.mp c_36
                        have y_0 : (0 : Int32).toInt = 0 := by decide
                        have y_400 : (400 : Int32).toInt = 400 := by decide
                        have t_x_6 : x_6.toInt = ((Tv 2) : Int32).toInt - ((Tv 1) : Int32).toInt := by rw [ex_6]; exact sub_toInt (by omega) (by omega)
                        have t_x_7 : x_7.toInt = (x3 : Int32).toInt - (x2 : Int32).toInt := by rw [ex_7]; exact sub_toInt (by omega) (by omega)
                        omega
                      exact (TWd.of h_r hr_40 hr_41 ⟨hft.1, hft.2.1⟩ (hk_39 ▸ pf_34))
                    exact retI (v := 1) hx hb hr hlk (rfl) hP hD hS () ⟨_, rfl, hp_37, hm_38, (fun h => absurd h (by decide))⟩ [0, 1] rfl rfl dX10_isPartOf_98 (Nat.le_of_ble_eq_true rfl) (Nat.le_of_ble_eq_true rfl) rfl
                  · skip
                    refine lv_aload_n hx hb dX10_isPartOf_66 rfl (lv_at hl 1 rfl) ?_
                    refine gf_X10_9 hx hb hts hown hK hP 0 rfl rfl dX10_isPartOf_67 ?_
                    refine lv_aload_n hx hb dX10_isPartOf_70 rfl (lv_at hl 1 rfl) ?_
                    refine gf_X10_19 hx hb hts hown hK hP 0 rfl rfl dX10_isPartOf_71 ?_
                    refine lv_iload hx hb dX10_isPartOf_74 (lv_at hl 0 rfl) ?_
                    refine lv_iadd hx hb dX10_isPartOf_76 ?_
                    refine lv_topi (fun x_42 ex_42 => ?_)
                    refine lv_iload_n hx hb dX10_isPartOf_77 rfl (lv_at hl 3 rfl) ?_
                    refine lv_isub hx hb dX10_isPartOf_78 ?_
                    refine lv_topi (fun x_43 ex_43 => ?_)
                    have hi_44 : vp_in x_43 400 := by
                      have z_1 := congrArg Int32.toInt c_2
                      have z_2 := congrArg Int32.toInt c_8
                      have z_3 := Int32.le_iff_toInt_le.mp (Int32.not_lt.mp c_12)
                      have z_4 := Int32.le_iff_toInt_le.mp c_22
                      have z_5 := Int32.le_iff_toInt_le.mp (Int32.not_lt.mp c_23)
                      have z_6 := Int32.le_iff_toInt_le.mp c_27
                      have z_7 := Int32.lt_iff_toInt_lt.mp (Int32.not_le.mp c_36)
                      have y_0 : (0 : Int32).toInt = 0 := by decide
                      have y_400 : (400 : Int32).toInt = 400 := by decide
                      have t_x_42 : x_42.toInt = ((Tv 1) : Int32).toInt + (vy_29 : Int32).toInt := by rw [ex_42]; exact add_toInt (by omega) (by omega)
                      have t_x_43 : x_43.toInt = (x_42 : Int32).toInt - (x2 : Int32).toInt := by rw [ex_43]; exact sub_toInt (by omega) (by omega)
                      have t_x_6 : x_6.toInt = ((Tv 2) : Int32).toInt - ((Tv 1) : Int32).toInt := by rw [ex_6]; exact sub_toInt (by omega) (by omega)
                      have t_x_7 : x_7.toInt = (x3 : Int32).toInt - (x2 : Int32).toInt := by rw [ex_7]; exact sub_toInt (by omega) (by omega)
                      refine vp_in_iff.mpr ⟨?_, ?_⟩ <;> omega
                    refine va_iald hx hb hK hP 1 0 rfl rfl hi_44 dX10_isPartOf_79 ?_
                    refine lv_topi (fun x_45 ex_45 => ?_)
                    refine lv_aload_n hx hb dX10_isPartOf_80 rfl (lv_at hl 2 rfl) ?_
                    refine lv_iload hx hb dX10_isPartOf_81 (lv_at hl 0 rfl) ?_
                    have ha_46 : 0 ≤ vy_29.toInt ∧ vy_29.toInt < ((lenS.getD i 0 : Nat) : Int) := by
                      have z_1 := congrArg Int32.toInt c_2
                      have z_2 := congrArg Int32.toInt c_8
                      have z_3 := Int32.le_iff_toInt_le.mp (Int32.not_lt.mp c_12)
                      have z_4 := Int32.le_iff_toInt_le.mp c_22
                      have z_5 := Int32.le_iff_toInt_le.mp (Int32.not_lt.mp c_23)
                      have z_6 := Int32.le_iff_toInt_le.mp c_27
                      have z_7 := Int32.lt_iff_toInt_lt.mp (Int32.not_le.mp c_36)
                      have y_0 : (0 : Int32).toInt = 0 := by decide
                      have y_400 : (400 : Int32).toInt = 400 := by decide
                      have t_x_6 : x_6.toInt = ((Tv 2) : Int32).toInt - ((Tv 1) : Int32).toInt := by rw [ex_6]; exact sub_toInt (by omega) (by omega)
                      have t_x_7 : x_7.toInt = (x3 : Int32).toInt - (x2 : Int32).toInt := by rw [ex_7]; exact sub_toInt (by omega) (by omega)
                      omega
                    refine cV (a := (sk.1 i)) (As := [.int vy_29]) (rest := [.int x_45]) (wr := [((Ta 0), .inr (10, [.ref (Ta 1), .int (Tv 0), .int (Tv 1), .int (Tv 2), .int (Tv 3), .int (Tv 4)])), ((Ta 1), .inl (tc 0, 400, .inl (Tf 1)))]) ⟨hx, hb, hml, hown, hts⟩ hK hX hA (ct_fJ0_charAt l D tc sk i vy_29 hi ha_46) k_515 k_512 k_513 k_514 k_107 pl_J0_charAt_5068e ⟨Nat.le_of_ble_eq_true rfl, Nat.le_of_ble_eq_true rfl⟩ rfl rfl (vk_recv hX.1 hi hS) hP hD hS [] [0, 1] rfl rfl rfl rfl rfl (by decide) rfl hl.1 rfl (Nat.le_of_ble_eq_true rfl) dX10_isPartOf_83 ⟨Nat.le_of_ble_eq_true rfl, Nat.le_of_ble_eq_true rfl⟩ (fun v_47 u_48 H locs hv_49 hP₀ hD₀ hS₀ => ?_)
                    obtain ⟨r_50, rfl, he_51⟩ := hv_49
                    have he_51 : (narrow .char (.int r_50) = .int r_50 ∧ r_50.toInt = stB i vy_29.toInt.toNat) := he_51
                    refine W.eq (g2 := F0 m 86 ls [.int r_50, .int x_45]) rfl ?_
                    replace hP : va_P D classes [((Ta 0), .inr (10, [.ref (Ta 1), .int (Tv 0), .int (Tv 1), .int (Tv 2), .int (Tv 3), .int (Tv 4)])), ((Ta 1), .inl (tc 0, 400, .inl (Tf 1)))] H := hP₀
                    replace hD : va_D A [((Ta 0), .inr (10, [.ref (Ta 1), .int (Tv 0), .int (Tv 1), .int (Tv 2), .int (Tv 3), .int (Tv 4)])), ((Ta 1), .inl (tc 0, 400, .inl (Tf 1)))] := hD₀
                    replace hS := hS₀
                    clear hP₀ hD₀ hS₀
                    refine lv_icmp_eq (tgt := 91) hx hb dX10_isPartOf_86 (by decide) (fun c_53 => ?_) (fun c_53 => ?_)
                    · skip
                      obtain ⟨x_54, ex_54⟩ : ∃ y : Int32, y = vy_29 + 1 := ⟨_, rfl⟩
                      refine lv_iinc (v := x_54) (lv' := [(4, .int x_54), (0, .ref (Ta 0)), (1, .ref (sk.1 i)), (2, .int x2), (3, .int x3)]) hx hb dX10_isPartOf_91 hl (k := 0) rfl (by rw [ex_54]; rfl) (by decide) rfl (fun ls hl₀ => ?_)
                      replace hl := hl₀
                      clear hl₀
                      refine lv_goto (tgt := 60) hx hb dX10_isPartOf_94 (by decide) ?_
                      have hb_55 : 76 - (x_54 : Int32).toInt < 76 - (vy_29 : Int32).toInt ∧ 1 ≤ 76 - (vy_29 : Int32).toInt := by
                        have z_1 := congrArg Int32.toInt c_2
                        have z_2 := congrArg Int32.toInt c_8
                        have z_3 := Int32.le_iff_toInt_le.mp (Int32.not_lt.mp c_12)
                        have z_4 := Int32.le_iff_toInt_le.mp c_22
                        have z_5 := Int32.le_iff_toInt_le.mp (Int32.not_lt.mp c_23)
                        have z_6 := Int32.le_iff_toInt_le.mp c_27
                        have z_7 := Int32.lt_iff_toInt_lt.mp (Int32.not_le.mp c_36)
                        have z_8 := congrArg Int32.toInt c_53
                        have y_0 : (0 : Int32).toInt = 0 := by decide
                        have y_400 : (400 : Int32).toInt = 400 := by decide
                        have y_1 : (1 : Int32).toInt = 1 := by decide
                        have t_x_54 : x_54.toInt = (vy_29 : Int32).toInt + (1 : Int32).toInt := by rw [ex_54]; exact add_toInt (by omega) (by omega)
                        have t_x_6 : x_6.toInt = ((Tv 2) : Int32).toInt - ((Tv 1) : Int32).toInt := by rw [ex_6]; exact sub_toInt (by omega) (by omega)
                        have t_x_7 : x_7.toInt = (x3 : Int32).toInt - (x2 : Int32).toInt := by rw [ex_7]; exact sub_toInt (by omega) (by omega)
                        omega
                      have ha_56 : x2.toInt ≤ (x_54 : Int32).toInt ∧ (x_54 : Int32).toInt ≤ x3.toInt := by
                        have z_1 := congrArg Int32.toInt c_2
                        have z_2 := congrArg Int32.toInt c_8
                        have z_3 := Int32.le_iff_toInt_le.mp (Int32.not_lt.mp c_12)
                        have z_4 := Int32.le_iff_toInt_le.mp c_22
                        have z_5 := Int32.le_iff_toInt_le.mp (Int32.not_lt.mp c_23)
                        have z_6 := Int32.le_iff_toInt_le.mp c_27
                        have z_7 := Int32.lt_iff_toInt_lt.mp (Int32.not_le.mp c_36)
                        have z_8 := congrArg Int32.toInt c_53
                        have y_0 : (0 : Int32).toInt = 0 := by decide
                        have y_400 : (400 : Int32).toInt = 400 := by decide
                        have y_1 : (1 : Int32).toInt = 1 := by decide
                        have t_x_54 : x_54.toInt = (vy_29 : Int32).toInt + (1 : Int32).toInt := by rw [ex_54]; exact add_toInt (by omega) (by omega)
                        have t_x_6 : x_6.toInt = ((Tv 2) : Int32).toInt - ((Tv 1) : Int32).toInt := by rw [ex_6]; exact sub_toInt (by omega) (by omega)
                        have t_x_7 : x_7.toInt = (x3 : Int32).toInt - (x2 : Int32).toInt := by rw [ex_7]; exact sub_toInt (by omega) (by omega)
                        omega
                      have hr_57 : 0 ≤ x2.toInt ∧ x2.toInt ≤ (vy_29 : Int32).toInt ∧ 0 ≤ (Tv 1).toInt := by
                        have z_1 := congrArg Int32.toInt c_2
                        have z_2 := congrArg Int32.toInt c_8
                        have z_3 := Int32.le_iff_toInt_le.mp (Int32.not_lt.mp c_12)
                        have z_4 := Int32.le_iff_toInt_le.mp c_22
                        have z_5 := Int32.le_iff_toInt_le.mp (Int32.not_lt.mp c_23)
                        have z_6 := Int32.le_iff_toInt_le.mp c_27
                        have z_7 := Int32.lt_iff_toInt_lt.mp (Int32.not_le.mp c_36)
                        have z_8 := congrArg Int32.toInt c_53
                        have y_0 : (0 : Int32).toInt = 0 := by decide
                        have y_400 : (400 : Int32).toInt = 400 := by decide
                        have t_x_6 : x_6.toInt = ((Tv 2) : Int32).toInt - ((Tv 1) : Int32).toInt := by rw [ex_6]; exact sub_toInt (by omega) (by omega)
                        have t_x_7 : x_7.toInt = (x3 : Int32).toInt - (x2 : Int32).toInt := by rw [ex_7]; exact sub_toInt (by omega) (by omega)
                        omega
                      have hi_58 : (x_43 : Int32).toInt = (Tv 1).toInt + (vy_29 : Int32).toInt - x2.toInt := by
                        have z_1 := congrArg Int32.toInt c_2
                        have z_2 := congrArg Int32.toInt c_8
                        have z_3 := Int32.le_iff_toInt_le.mp (Int32.not_lt.mp c_12)
                        have z_4 := Int32.le_iff_toInt_le.mp c_22
                        have z_5 := Int32.le_iff_toInt_le.mp (Int32.not_lt.mp c_23)
                        have z_6 := Int32.le_iff_toInt_le.mp c_27
                        have z_7 := Int32.lt_iff_toInt_lt.mp (Int32.not_le.mp c_36)
                        have z_8 := congrArg Int32.toInt c_53
                        have y_0 : (0 : Int32).toInt = 0 := by decide
                        have y_400 : (400 : Int32).toInt = 400 := by decide
                        have t_x_42 : x_42.toInt = ((Tv 1) : Int32).toInt + (vy_29 : Int32).toInt := by rw [ex_42]; exact add_toInt (by omega) (by omega)
                        have t_x_43 : x_43.toInt = (x_42 : Int32).toInt - (x2 : Int32).toInt := by rw [ex_43]; exact sub_toInt (by omega) (by omega)
                        have t_x_6 : x_6.toInt = ((Tv 2) : Int32).toInt - ((Tv 1) : Int32).toInt := by rw [ex_6]; exact sub_toInt (by omega) (by omega)
                        have t_x_7 : x_7.toInt = (x3 : Int32).toInt - (x2 : Int32).toInt := by rw [ex_7]; exact sub_toInt (by omega) (by omega)
                        omega
                      have hr_59 : (x_45 : Int32).toInt = (r_50 : Int32).toInt := by
                        have z_1 := congrArg Int32.toInt c_2
                        have z_2 := congrArg Int32.toInt c_8
                        have z_3 := Int32.le_iff_toInt_le.mp (Int32.not_lt.mp c_12)
                        have z_4 := Int32.le_iff_toInt_le.mp c_22
                        have z_5 := Int32.le_iff_toInt_le.mp (Int32.not_lt.mp c_23)
                        have z_6 := Int32.le_iff_toInt_le.mp c_27
                        have z_7 := Int32.lt_iff_toInt_lt.mp (Int32.not_le.mp c_36)
                        have z_8 := congrArg Int32.toInt c_53
                        have y_0 : (0 : Int32).toInt = 0 := by decide
                        have y_400 : (400 : Int32).toInt = 400 := by decide
                        have t_x_6 : x_6.toInt = ((Tv 2) : Int32).toInt - ((Tv 1) : Int32).toInt := by rw [ex_6]; exact sub_toInt (by omega) (by omega)
                        have t_x_7 : x_7.toInt = (x3 : Int32).toInt - (x2 : Int32).toInt := by rw [ex_7]; exact sub_toInt (by omega) (by omega)
                        omega
                      have hi_60 : (x_54 : Int32).toInt = (vy_29 : Int32).toInt + 1 := by
                        have z_1 := congrArg Int32.toInt c_2
                        have z_2 := congrArg Int32.toInt c_8
                        have z_3 := Int32.le_iff_toInt_le.mp (Int32.not_lt.mp c_12)
                        have z_4 := Int32.le_iff_toInt_le.mp c_22
                        have z_5 := Int32.le_iff_toInt_le.mp (Int32.not_lt.mp c_23)
                        have z_6 := Int32.le_iff_toInt_le.mp c_27
                        have z_7 := Int32.lt_iff_toInt_lt.mp (Int32.not_le.mp c_36)
                        have z_8 := congrArg Int32.toInt c_53
                        have y_0 : (0 : Int32).toInt = 0 := by decide
                        have y_400 : (400 : Int32).toInt = 400 := by decide
                        have y_1 : (1 : Int32).toInt = 1 := by decide
                        have t_x_54 : x_54.toInt = (vy_29 : Int32).toInt + (1 : Int32).toInt := by rw [ex_54]; exact add_toInt (by omega) (by omega)
                        have t_x_6 : x_6.toInt = ((Tv 2) : Int32).toInt - ((Tv 1) : Int32).toInt := by rw [ex_6]; exact sub_toInt (by omega) (by omega)
                        have t_x_7 : x_7.toInt = (x3 : Int32).toInt - (x2 : Int32).toInt := by rw [ex_7]; exact sub_toInt (by omega) (by omega)
                        omega
                      exact ih_31 x_54 _ _ _ (by omega) ha_56 (Mt.st pf_34 hr_57 ex_45 hi_58 he_51.2 hr_59 hi_60) (hP.sub [0, 1] rfl) (hD.sub [0, 1] rfl rfl) hS (lv_sub hl [0, 1, 2, 3, 4] rfl)
                    · skip
                      refine lv_iconst (v := 0) hx hb dX10_isPartOf_89 (by decide) ?_
                      have hp_61 : ((0 : Int32).toInt = 0 ∨ (0 : Int32).toInt = 1) := by
                        have z_1 := congrArg Int32.toInt c_2
                        have z_2 := congrArg Int32.toInt c_8
                        have z_3 := Int32.le_iff_toInt_le.mp (Int32.not_lt.mp c_12)
                        have z_4 := Int32.le_iff_toInt_le.mp c_22
                        have z_5 := Int32.le_iff_toInt_le.mp (Int32.not_lt.mp c_23)
                        have z_6 := Int32.le_iff_toInt_le.mp c_27
                        have z_7 := Int32.lt_iff_toInt_lt.mp (Int32.not_le.mp c_36)
                        have z_8 : ¬ (x_45 : Int32).toInt = (r_50 : Int32).toInt := fun z => c_53 (Int32.toInt_inj.mp z)
                        have y_0 : (0 : Int32).toInt = 0 := by decide
                        have y_400 : (400 : Int32).toInt = 400 := by decide
                        have t_x_6 : x_6.toInt = ((Tv 2) : Int32).toInt - ((Tv 1) : Int32).toInt := by rw [ex_6]; exact sub_toInt (by omega) (by omega)
                        have t_x_7 : x_7.toInt = (x3 : Int32).toInt - (x2 : Int32).toInt := by rw [ex_7]; exact sub_toInt (by omega) (by omega)
                        omega
                      have hm_62 : (0 : Int32).toInt = 0 → (NWd (cB (Tf 1) (Tv 0)) (sbS i x2.toInt.toNat x3.toInt.toNat) rr) := by
                        intro h1r
                        have hr_63 : (Tv 4).toInt = 0 := by
                          have z_1 := congrArg Int32.toInt c_2
                          have z_2 := congrArg Int32.toInt c_8
                          have z_3 := Int32.le_iff_toInt_le.mp (Int32.not_lt.mp c_12)
                          have z_4 := Int32.le_iff_toInt_le.mp c_22
                          have z_5 := Int32.le_iff_toInt_le.mp (Int32.not_lt.mp c_23)
                          have z_6 := Int32.le_iff_toInt_le.mp c_27
                          have z_7 := Int32.lt_iff_toInt_lt.mp (Int32.not_le.mp c_36)
                          have z_8 : ¬ (x_45 : Int32).toInt = (r_50 : Int32).toInt := fun z => c_53 (Int32.toInt_inj.mp z)
                          have y_0 : (0 : Int32).toInt = 0 := by decide
                          have y_400 : (400 : Int32).toInt = 400 := by decide
                          have t_x_6 : x_6.toInt = ((Tv 2) : Int32).toInt - ((Tv 1) : Int32).toInt := by rw [ex_6]; exact sub_toInt (by omega) (by omega)
                          have t_x_7 : x_7.toInt = (x3 : Int32).toInt - (x2 : Int32).toInt := by rw [ex_7]; exact sub_toInt (by omega) (by omega)
                          omega
                        have hr_64 : (Tv 2).toInt - (Tv 1).toInt = x3.toInt - x2.toInt := by
                          have z_1 := congrArg Int32.toInt c_2
                          have z_2 := congrArg Int32.toInt c_8
                          have z_3 := Int32.le_iff_toInt_le.mp (Int32.not_lt.mp c_12)
                          have z_4 := Int32.le_iff_toInt_le.mp c_22
                          have z_5 := Int32.le_iff_toInt_le.mp (Int32.not_lt.mp c_23)
                          have z_6 := Int32.le_iff_toInt_le.mp c_27
                          have z_7 := Int32.lt_iff_toInt_lt.mp (Int32.not_le.mp c_36)
                          have z_8 : ¬ (x_45 : Int32).toInt = (r_50 : Int32).toInt := fun z => c_53 (Int32.toInt_inj.mp z)
                          have y_0 : (0 : Int32).toInt = 0 := by decide
                          have y_400 : (400 : Int32).toInt = 400 := by decide
                          have t_x_6 : x_6.toInt = ((Tv 2) : Int32).toInt - ((Tv 1) : Int32).toInt := by rw [ex_6]; exact sub_toInt (by omega) (by omega)
                          have t_x_7 : x_7.toInt = (x3 : Int32).toInt - (x2 : Int32).toInt := by rw [ex_7]; exact sub_toInt (by omega) (by omega)
                          omega
                        have hr_65 : 0 ≤ x2.toInt ∧ x2.toInt ≤ (vy_29 : Int32).toInt ∧ (vy_29 : Int32).toInt < x3.toInt := by
                          have z_1 := congrArg Int32.toInt c_2
                          have z_2 := congrArg Int32.toInt c_8
                          have z_3 := Int32.le_iff_toInt_le.mp (Int32.not_lt.mp c_12)
                          have z_4 := Int32.le_iff_toInt_le.mp c_22
                          have z_5 := Int32.le_iff_toInt_le.mp (Int32.not_lt.mp c_23)
                          have z_6 := Int32.le_iff_toInt_le.mp c_27
                          have z_7 := Int32.lt_iff_toInt_lt.mp (Int32.not_le.mp c_36)
                          have z_8 : ¬ (x_45 : Int32).toInt = (r_50 : Int32).toInt := fun z => c_53 (Int32.toInt_inj.mp z)
                          have y_0 : (0 : Int32).toInt = 0 := by decide
                          have y_400 : (400 : Int32).toInt = 400 := by decide
                          have t_x_6 : x_6.toInt = ((Tv 2) : Int32).toInt - ((Tv 1) : Int32).toInt := by rw [ex_6]; exact sub_toInt (by omega) (by omega)
                          have t_x_7 : x_7.toInt = (x3 : Int32).toInt - (x2 : Int32).toInt := by rw [ex_7]; exact sub_toInt (by omega) (by omega)
                          omega
                        have hi_66 : (x_43 : Int32).toInt = (Tv 1).toInt + (vy_29 : Int32).toInt - x2.toInt := by
                          have z_1 := congrArg Int32.toInt c_2
                          have z_2 := congrArg Int32.toInt c_8
                          have z_3 := Int32.le_iff_toInt_le.mp (Int32.not_lt.mp c_12)
                          have z_4 := Int32.le_iff_toInt_le.mp c_22
                          have z_5 := Int32.le_iff_toInt_le.mp (Int32.not_lt.mp c_23)
                          have z_6 := Int32.le_iff_toInt_le.mp c_27
                          have z_7 := Int32.lt_iff_toInt_lt.mp (Int32.not_le.mp c_36)
                          have z_8 : ¬ (x_45 : Int32).toInt = (r_50 : Int32).toInt := fun z => c_53 (Int32.toInt_inj.mp z)
                          have y_0 : (0 : Int32).toInt = 0 := by decide
                          have y_400 : (400 : Int32).toInt = 400 := by decide
                          have t_x_42 : x_42.toInt = ((Tv 1) : Int32).toInt + (vy_29 : Int32).toInt := by rw [ex_42]; exact add_toInt (by omega) (by omega)
                          have t_x_43 : x_43.toInt = (x_42 : Int32).toInt - (x2 : Int32).toInt := by rw [ex_43]; exact sub_toInt (by omega) (by omega)
                          have t_x_6 : x_6.toInt = ((Tv 2) : Int32).toInt - ((Tv 1) : Int32).toInt := by rw [ex_6]; exact sub_toInt (by omega) (by omega)
                          have t_x_7 : x_7.toInt = (x3 : Int32).toInt - (x2 : Int32).toInt := by rw [ex_7]; exact sub_toInt (by omega) (by omega)
                          omega
                        have hr_67 : ¬ (x_45 : Int32).toInt = (r_50 : Int32).toInt := by
                          have z_1 := congrArg Int32.toInt c_2
                          have z_2 := congrArg Int32.toInt c_8
                          have z_3 := Int32.le_iff_toInt_le.mp (Int32.not_lt.mp c_12)
                          have z_4 := Int32.le_iff_toInt_le.mp c_22
                          have z_5 := Int32.le_iff_toInt_le.mp (Int32.not_lt.mp c_23)
                          have z_6 := Int32.le_iff_toInt_le.mp c_27
                          have z_7 := Int32.lt_iff_toInt_lt.mp (Int32.not_le.mp c_36)
                          have z_8 : ¬ (x_45 : Int32).toInt = (r_50 : Int32).toInt := fun z => c_53 (Int32.toInt_inj.mp z)
                          have y_0 : (0 : Int32).toInt = 0 := by decide
                          have y_400 : (400 : Int32).toInt = 400 := by decide
                          have t_x_6 : x_6.toInt = ((Tv 2) : Int32).toInt - ((Tv 1) : Int32).toInt := by rw [ex_6]; exact sub_toInt (by omega) (by omega)
                          have t_x_7 : x_7.toInt = (x3 : Int32).toInt - (x2 : Int32).toInt := by rw [ex_7]; exact sub_toInt (by omega) (by omega)
                          omega
                        exact (NWd.ch h_r hr_63 hr_64 hr_65 ex_45 hi_66 he_51.2 hr_67)
                      exact retI (v := 0) hx hb hr hlk (rfl) hP hD hS () ⟨_, rfl, hp_61, (fun h => absurd h (by decide)), hm_62⟩ [0, 1] rfl rfl dX10_isPartOf_90 (Nat.le_of_ble_eq_true rfl) (Nat.le_of_ble_eq_true rfl) rfl
              have ha_68 : x2.toInt ≤ (x2 : Int32).toInt ∧ (x2 : Int32).toInt ≤ x3.toInt := by
                have z_1 := congrArg Int32.toInt c_2
                have z_2 := congrArg Int32.toInt c_8
                have z_3 := Int32.le_iff_toInt_le.mp (Int32.not_lt.mp c_12)
                have z_4 := Int32.le_iff_toInt_le.mp c_22
                have z_5 := Int32.le_iff_toInt_le.mp (Int32.not_lt.mp c_23)
                have z_6 := Int32.le_iff_toInt_le.mp c_27
                have y_0 : (0 : Int32).toInt = 0 := by decide
                have y_400 : (400 : Int32).toInt = 400 := by decide
                have t_x_6 : x_6.toInt = ((Tv 2) : Int32).toInt - ((Tv 1) : Int32).toInt := by rw [ex_6]; exact sub_toInt (by omega) (by omega)
                have t_x_7 : x_7.toInt = (x3 : Int32).toInt - (x2 : Int32).toInt := by rw [ex_7]; exact sub_toInt (by omega) (by omega)
                omega
              exact loop_32 _ x2 _ _ _ (Nat.lt_succ_self _) ha_68 (Mt.nil) hP hD hS hl
            · skip
              refine lv_iconst (v := 0) hx hb dX10_isPartOf_55 (by decide) ?_
              have hp_69 : ((0 : Int32).toInt = 0 ∨ (0 : Int32).toInt = 1) := by
                have z_1 := congrArg Int32.toInt c_2
                have z_2 := congrArg Int32.toInt c_8
                have z_3 := Int32.le_iff_toInt_le.mp (Int32.not_lt.mp c_12)
                have z_4 := Int32.le_iff_toInt_le.mp c_22
                have z_5 := Int32.le_iff_toInt_le.mp (Int32.not_lt.mp c_23)
                have z_6 := Int32.lt_iff_toInt_lt.mp (Int32.not_le.mp c_27)
                have y_0 : (0 : Int32).toInt = 0 := by decide
                have y_400 : (400 : Int32).toInt = 400 := by decide
                have t_x_6 : x_6.toInt = ((Tv 2) : Int32).toInt - ((Tv 1) : Int32).toInt := by rw [ex_6]; exact sub_toInt (by omega) (by omega)
                have t_x_7 : x_7.toInt = (x3 : Int32).toInt - (x2 : Int32).toInt := by rw [ex_7]; exact sub_toInt (by omega) (by omega)
                omega
              have hm_70 : (0 : Int32).toInt = 0 → (NWd (cB (Tf 1) (Tv 0)) (sbS i x2.toInt.toNat x3.toInt.toNat) rr) := by
                intro h1r
                have hl_71 : NWd (cB (Tf 1) (Tv 0)) (sbS i x2.toInt.toNat x3.toInt.toNat) rr := NWd.len h_r (by
                  rw [sbS_len]
                  have z_1 := congrArg Int32.toInt c_2
                  have z_2 := congrArg Int32.toInt c_8
                  have z_3 := Int32.le_iff_toInt_le.mp (Int32.not_lt.mp c_12)
                  have z_4 := Int32.le_iff_toInt_le.mp c_22
                  have z_5 := Int32.le_iff_toInt_le.mp (Int32.not_lt.mp c_23)
                  have z_6 := Int32.lt_iff_toInt_lt.mp (Int32.not_le.mp c_27)
                  have y_0 : (0 : Int32).toInt = 0 := by decide
                  have y_400 : (400 : Int32).toInt = 400 := by decide
                  have t_x_6 : x_6.toInt = ((Tv 2) : Int32).toInt - ((Tv 1) : Int32).toInt := by rw [ex_6]; exact sub_toInt (by omega) (by omega)
                  have t_x_7 : x_7.toInt = (x3 : Int32).toInt - (x2 : Int32).toInt := by rw [ex_7]; exact sub_toInt (by omega) (by omega)
                  omega)
                exact hl_71
              exact retI (v := 0) hx hb hr hlk (rfl) hP hD hS () ⟨_, rfl, hp_69, (fun h => absurd h (by decide)), hm_70⟩ [0, 1] rfl rfl dX10_isPartOf_56 (Nat.le_of_ble_eq_true rfl) (Nat.le_of_ble_eq_true rfl) rfl
        · skip
          refine lv_iconst (v := 0) hx hb dX10_isPartOf_34 (by decide) ?_
          have hp_72 : ((0 : Int32).toInt = 0 ∨ (0 : Int32).toInt = 1) := by
            have z_1 := congrArg Int32.toInt c_2
            have z_2 := congrArg Int32.toInt c_8
            have z_3 := Int32.le_iff_toInt_le.mp (Int32.not_lt.mp c_12)
            have z_4 := Int32.lt_iff_toInt_lt.mp (Int32.not_le.mp c_22)
            have y_0 : (0 : Int32).toInt = 0 := by decide
            have t_x_6 : x_6.toInt = ((Tv 2) : Int32).toInt - ((Tv 1) : Int32).toInt := by rw [ex_6]; exact sub_toInt (by omega) (by omega)
            have t_x_7 : x_7.toInt = (x3 : Int32).toInt - (x2 : Int32).toInt := by rw [ex_7]; exact sub_toInt (by omega) (by omega)
            omega
          have hm_73 : (0 : Int32).toInt = 0 → (NWd (cB (Tf 1) (Tv 0)) (sbS i x2.toInt.toNat x3.toInt.toNat) rr) := by
            intro h1r
            have hl_74 : NWd (cB (Tf 1) (Tv 0)) (sbS i x2.toInt.toNat x3.toInt.toNat) rr := NWd.len h_r (by
              rw [sbS_len]
              have z_1 := congrArg Int32.toInt c_2
              have z_2 := congrArg Int32.toInt c_8
              have z_3 := Int32.le_iff_toInt_le.mp (Int32.not_lt.mp c_12)
              have z_4 := Int32.lt_iff_toInt_lt.mp (Int32.not_le.mp c_22)
              have y_0 : (0 : Int32).toInt = 0 := by decide
              have t_x_6 : x_6.toInt = ((Tv 2) : Int32).toInt - ((Tv 1) : Int32).toInt := by rw [ex_6]; exact sub_toInt (by omega) (by omega)
              have t_x_7 : x_7.toInt = (x3 : Int32).toInt - (x2 : Int32).toInt := by rw [ex_7]; exact sub_toInt (by omega) (by omega)
              omega)
            exact hl_74
          exact retI (v := 0) hx hb hr hlk (rfl) hP hD hS () ⟨_, rfl, hp_72, (fun h => absurd h (by decide)), hm_73⟩ [0, 1] rfl rfl dX10_isPartOf_35 (Nat.le_of_ble_eq_true rfl) (Nat.le_of_ble_eq_true rfl) rfl
set_option maxRecDepth 100000 in
theorem cu_fX10_isPartOf (l : Launch) (D : va_G) (tc : Nat → ClassId) (sk : (Nat → Nat) × (Nat → Nat)) (Ta_0 : Nat) (Ta_1 : Nat) (Tv_0 : Int32) (Tv_1 : Int32) (Tv_2 : Int32) (Tv_3 : Int32) (Tv_4 : Int32) (Tf_1 : Nat → Int32) (i : Nat) (x2 : Int32) (x3 : Int32) (rr : Except Int (Nat × Nat)) (hi : i < 7) (h_tape : 0 ≤ (Tv_0 : Int32).toInt ∧ (Tv_0 : Int32).toInt ≤ 400 ∧ 0 ≤ (Tv_1 : Int32).toInt ∧ (Tv_1 : Int32).toInt ≤ 400 ∧ 0 ≤ (Tv_2 : Int32).toInt ∧ (Tv_2 : Int32).toInt ≤ 400) (h_by : Byt Tf_1) (h_r : TpR Tf_1 Tv_0 rr Tv_1 Tv_2 Tv_3 Tv_4) (hft : 0 ≤ x2.toInt ∧ x2.toInt ≤ x3.toInt ∧ x3.toInt ≤ ((lenS.getD i 0 : Nat) : Int)) : Ct l yX10_isPartOf cX10_isPartOf 5 (some .boolean) { frames := 4, cells := 0, slots := 0, locals := 85 } D tc sk [.ref Ta_0, .ref (sk.1 i), .int x2, .int x3] [(Ta_0, .inr (10, [.ref Ta_1, .int Tv_0, .int Tv_1, .int Tv_2, .int Tv_3, .int Tv_4])), (Ta_1, .inl (tc 0, 400, .inl Tf_1))] (fun (v : Option Value) (_ : Unit) => ∃ r : Int32, v = some (.int r) ∧ ((r.toInt = 0 ∨ r.toInt = 1)) ∧ (r.toInt = 1 → (TWd (cB Tf_1 Tv_0) (sbS i x2.toInt.toNat x3.toInt.toNat) rr)) ∧ (r.toInt = 0 → (NWd (cB Tf_1 Tv_0) (sbS i x2.toInt.toNat x3.toInt.toNat) rr))) (fun (_ : Unit) => [(Ta_0, .inr (10, [.ref Ta_1, .int Tv_0, .int Tv_1, .int Tv_2, .int Tv_3, .int Tv_4])), (Ta_1, .inl (tc 0, 400, .inl Tf_1))]) 0 0 :=
  ct_fX10_isPartOf l D tc sk (fun k => ([Ta_0, Ta_1] : List (Nat)).getD k 0) (fun k => ([Tv_0, Tv_1, Tv_2, Tv_3, Tv_4] : List (Int32)).getD k 0) (fun k => ([(fun _ => 0), Tf_1] : List (Nat → Int32)).getD k (fun _ => 0)) i x2 x3 rr hi h_tape h_by h_r hft
set_option maxHeartbeats 4000000 in
set_option maxRecDepth 100000 in
theorem ct_fX10_isWord (l : Launch) (D : va_G) (tc : Nat → ClassId) (sk : (Nat → Nat) × (Nat → Nat)) (Ta : Nat → Nat) (Tv : Nat → Int32) (Tf : Nat → Nat → Int32) (i : Nat) (rr : Except Int (Nat × Nat)) (hi : i < 7) (h_tape : 0 ≤ ((Tv 0) : Int32).toInt ∧ ((Tv 0) : Int32).toInt ≤ 400 ∧ 0 ≤ ((Tv 1) : Int32).toInt ∧ ((Tv 1) : Int32).toInt ≤ 400 ∧ 0 ≤ ((Tv 2) : Int32).toInt ∧ ((Tv 2) : Int32).toInt ≤ 400) (h_by : Byt (Tf 1)) (h_r : TpR (Tf 1) (Tv 0) rr (Tv 1) (Tv 2) (Tv 3) (Tv 4)) : Ct l yX10_isWord cX10_isWord 2 (some .boolean) { frames := 5, cells := 0, slots := 0, locals := 109 } D tc sk [.ref (Ta 0), .ref (sk.1 i)] [((Ta 0), .inr (10, [.ref (Ta 1), .int (Tv 0), .int (Tv 1), .int (Tv 2), .int (Tv 3), .int (Tv 4)])), ((Ta 1), .inl (tc 0, 400, .inl (Tf 1)))] (fun (v : Option Value) (_ : Unit) => ∃ r : Int32, v = some (.int r) ∧ ((r.toInt = 0 ∨ r.toInt = 1)) ∧ (r.toInt = 1 → (TWd (cB (Tf 1) (Tv 0)) (wS i) rr)) ∧ (r.toInt = 0 → (NWd (cB (Tf 1) (Tv 0)) (wS i) rr))) (fun (_ : Unit) => [((Ta 0), .inr (10, [.ref (Ta 1), .int (Tv 0), .int (Tv 1), .int (Tv 2), .int (Tv 3), .int (Tv 4)])), ((Ta 1), .inl (tc 0, 400, .inl (Tf 1)))]) 0 0 := by
  refine Ct.start (by decide) (Nat.le_of_ble_eq_true rfl) (fun p e s m below meth c A ls hx hb hr hlk hin hml hown hts hK hX hP hD hA hl hS => ?_)
  have hl : lv_has ls 2 [(0, .ref (Ta 0)), (1, .ref (sk.1 i))] := hl
  have tb_1 : TpB (rTE (cB (Tf 1) (Tv 0)) rr) (Tv 2) (Tv 4) := TpR.tb h_r
  have hl75 := lenS_le hi
  refine lv_aload_n hx hb dX10_isWord_0 rfl (lv_at hl 0 rfl) ?_
  refine lv_aload_n hx hb dX10_isWord_1 rfl (lv_at hl 1 rfl) ?_
  refine lv_iconst (v := 0) hx hb dX10_isWord_2 (by decide) ?_
  refine lv_aload_n hx hb dX10_isWord_3 rfl (lv_at hl 1 rfl) ?_
  refine cV (a := (sk.1 i)) (As := []) (rest := [.int 0, .ref (sk.1 i), .ref (Ta 0)]) (wr := [((Ta 0), .inr (10, [.ref (Ta 1), .int (Tv 0), .int (Tv 1), .int (Tv 2), .int (Tv 3), .int (Tv 4)])), ((Ta 1), .inl (tc 0, 400, .inl (Tf 1)))]) ⟨hx, hb, hml, hown, hts⟩ hK hX hA (ct_fJ0_length l D tc sk i hi) k_505 k_502 k_503 k_504 k_107 pl_J0_length_8abf5 ⟨Nat.le_of_ble_eq_true rfl, Nat.le_of_ble_eq_true rfl⟩ rfl rfl (vk_recv hX.1 hi hS) hP hD hS [] [0, 1] rfl rfl rfl rfl rfl (by decide) rfl hl.1 rfl (Nat.le_of_ble_eq_true rfl) dX10_isWord_4 ⟨Nat.le_of_ble_eq_true rfl, Nat.le_of_ble_eq_true rfl⟩ (fun v_2 u_3 H locs hv_4 hP₀ hD₀ hS₀ => ?_)
  obtain ⟨r_5, rfl, he_6⟩ := hv_4
  have he_6 : r_5.toInt = ((lenS.getD i 0 : Nat) : Int) := he_6
  refine W.eq (g2 := F0 m 7 ls [.int r_5, .int 0, .ref (sk.1 i), .ref (Ta 0)]) rfl ?_
  replace hP : va_P D classes [((Ta 0), .inr (10, [.ref (Ta 1), .int (Tv 0), .int (Tv 1), .int (Tv 2), .int (Tv 3), .int (Tv 4)])), ((Ta 1), .inl (tc 0, 400, .inl (Tf 1)))] H := hP₀
  replace hD : va_D A [((Ta 0), .inr (10, [.ref (Ta 1), .int (Tv 0), .int (Tv 1), .int (Tv 2), .int (Tv 3), .int (Tv 4)])), ((Ta 1), .inl (tc 0, 400, .inl (Tf 1)))] := hD₀
  replace hS := hS₀
  clear hP₀ hD₀ hS₀
  have ha_8 : 0 ≤ (0 : Int32).toInt ∧ (0 : Int32).toInt ≤ r_5.toInt ∧ r_5.toInt ≤ ((lenS.getD i 0 : Nat) : Int) := by
    have y_0 : (0 : Int32).toInt = 0 := by decide
    omega
  refine cV (a := (Ta 0)) (As := [.ref (sk.1 i), .int 0, .int r_5]) (rest := []) (wr := []) ⟨hx, hb, hml, hown, hts⟩ hK hX hA (cu_fX10_isPartOf l D tc sk (Ta 0) (Ta 1) (Tv 0) (Tv 1) (Tv 2) (Tv 3) (Tv 4) (Tf 1) i 0 r_5 rr hi h_tape h_by h_r ha_8) k_553 k_550 k_552 k_2 k_96 pl_X10_isPartOf ⟨Nat.le_of_ble_eq_true rfl, Nat.le_of_ble_eq_true rfl⟩ rfl rfl (va_recv hK hP (ci := 10) (q0 := 0) rfl rfl) hP hD hS [0, 1] [] rfl rfl rfl rfl rfl (by decide) rfl hl.1 rfl (Nat.le_of_ble_eq_true rfl) dX10_isWord_7 ⟨Nat.le_of_ble_eq_true rfl, Nat.le_of_ble_eq_true rfl⟩ (fun v_9 u_10 H locs hv_11 hP₀ hD₀ hS₀ => ?_)
  obtain ⟨r_12, rfl, he_13, hm_15, hm_16⟩ := hv_11
  have he_13 : (r_12.toInt = 0 ∨ r_12.toInt = 1) := he_13
  refine W.eq (g2 := F0 m 10 ls [.int r_12]) rfl ?_
  replace hP : va_P D classes [((Ta 0), .inr (10, [.ref (Ta 1), .int (Tv 0), .int (Tv 1), .int (Tv 2), .int (Tv 3), .int (Tv 4)])), ((Ta 1), .inl (tc 0, 400, .inl (Tf 1)))] H := hP₀
  replace hD : va_D A [((Ta 0), .inr (10, [.ref (Ta 1), .int (Tv 0), .int (Tv 1), .int (Tv 2), .int (Tv 3), .int (Tv 4)])), ((Ta 1), .inl (tc 0, 400, .inl (Tf 1)))] := hD₀
  replace hS := hS₀
  clear hP₀ hD₀ hS₀
  have hb_17 : (r_12 : Int32).toInt = 0 ∨ (r_12 : Int32).toInt = 1 := by
    omega
  have hp_18 : ((r_12 : Int32).toInt = 0 ∨ (r_12 : Int32).toInt = 1) := by
    omega
  have hm_19 : (r_12 : Int32).toInt = 1 → (TWd (cB (Tf 1) (Tv 0)) (wS i) rr) := by
    intro h1r
    obtain pf_20 := hm_15 h1r
    have pf_20 : TWd (cB (Tf 1) (Tv 0)) (sbS i (0 : Int32).toInt.toNat r_5.toInt.toNat) rr := pf_20
    have hw_21 : TWd (cB (Tf 1) (Tv 0)) (wS i) rr := by
      have hz0 : (0 : Int32).toInt.toNat = 0 := by decide
      have hz1 : (r_5 : Int32).toInt.toNat = lenS.getD i 0 := by
        omega
      have hh := pf_20
      rw [hz0, hz1] at hh
      exact hh
    exact hw_21
  have hm_22 : (r_12 : Int32).toInt = 0 → (NWd (cB (Tf 1) (Tv 0)) (wS i) rr) := by
    intro h1r
    obtain pf_23 := hm_16 h1r
    have pf_23 : NWd (cB (Tf 1) (Tv 0)) (sbS i (0 : Int32).toInt.toNat r_5.toInt.toNat) rr := pf_23
    have hw_24 : NWd (cB (Tf 1) (Tv 0)) (wS i) rr := by
      have hz0 : (0 : Int32).toInt.toNat = 0 := by decide
      have hz1 : (r_5 : Int32).toInt.toNat = lenS.getD i 0 := by
        omega
      have hh := pf_23
      rw [hz0, hz1] at hh
      exact hh
    exact hw_24
  exact retI (v := r_12) hx hb hr hlk (nar01 hb_17) hP hD hS () ⟨_, rfl, hp_18, hm_19, hm_22⟩ [0, 1] rfl rfl dX10_isWord_10 (Nat.le_of_ble_eq_true rfl) (Nat.le_of_ble_eq_true rfl) rfl
set_option maxRecDepth 100000 in
theorem cu_fX10_isWord (l : Launch) (D : va_G) (tc : Nat → ClassId) (sk : (Nat → Nat) × (Nat → Nat)) (Ta_0 : Nat) (Ta_1 : Nat) (Tv_0 : Int32) (Tv_1 : Int32) (Tv_2 : Int32) (Tv_3 : Int32) (Tv_4 : Int32) (Tf_1 : Nat → Int32) (i : Nat) (rr : Except Int (Nat × Nat)) (hi : i < 7) (h_tape : 0 ≤ (Tv_0 : Int32).toInt ∧ (Tv_0 : Int32).toInt ≤ 400 ∧ 0 ≤ (Tv_1 : Int32).toInt ∧ (Tv_1 : Int32).toInt ≤ 400 ∧ 0 ≤ (Tv_2 : Int32).toInt ∧ (Tv_2 : Int32).toInt ≤ 400) (h_by : Byt Tf_1) (h_r : TpR Tf_1 Tv_0 rr Tv_1 Tv_2 Tv_3 Tv_4) : Ct l yX10_isWord cX10_isWord 2 (some .boolean) { frames := 5, cells := 0, slots := 0, locals := 109 } D tc sk [.ref Ta_0, .ref (sk.1 i)] [(Ta_0, .inr (10, [.ref Ta_1, .int Tv_0, .int Tv_1, .int Tv_2, .int Tv_3, .int Tv_4])), (Ta_1, .inl (tc 0, 400, .inl Tf_1))] (fun (v : Option Value) (_ : Unit) => ∃ r : Int32, v = some (.int r) ∧ ((r.toInt = 0 ∨ r.toInt = 1)) ∧ (r.toInt = 1 → (TWd (cB Tf_1 Tv_0) (wS i) rr)) ∧ (r.toInt = 0 → (NWd (cB Tf_1 Tv_0) (wS i) rr))) (fun (_ : Unit) => [(Ta_0, .inr (10, [.ref Ta_1, .int Tv_0, .int Tv_1, .int Tv_2, .int Tv_3, .int Tv_4])), (Ta_1, .inl (tc 0, 400, .inl Tf_1))]) 0 0 :=
  ct_fX10_isWord l D tc sk (fun k => ([Ta_0, Ta_1] : List (Nat)).getD k 0) (fun k => ([Tv_0, Tv_1, Tv_2, Tv_3, Tv_4] : List (Int32)).getD k 0) (fun k => ([(fun _ => 0), Tf_1] : List (Nat → Int32)).getD k (fun _ => 0)) i rr hi h_tape h_by h_r
set_option maxHeartbeats 4000000 in
set_option maxRecDepth 100000 in
theorem ct_fX10_takesWord (l : Launch) (D : va_G) (tc : Nat → ClassId) (sk : (Nat → Nat) × (Nat → Nat)) (Ta : Nat → Nat) (Tv : Nat → Int32) (Tf : Nat → Nat → Int32) (i : Nat) (rr : Except Int (Nat × Nat)) (hi : i < 7) (h_tape : 0 ≤ ((Tv 0) : Int32).toInt ∧ ((Tv 0) : Int32).toInt ≤ 400 ∧ 0 ≤ ((Tv 1) : Int32).toInt ∧ ((Tv 1) : Int32).toInt ≤ 400 ∧ 0 ≤ ((Tv 2) : Int32).toInt ∧ ((Tv 2) : Int32).toInt ≤ 400) (h_by : Byt (Tf 1)) (h_r : TpR (Tf 1) (Tv 0) rr (Tv 1) (Tv 2) (Tv 3) (Tv 4)) : Ct l yX10_takesWord cX10_takesWord 2 (some .boolean) { frames := 6, cells := 0, slots := 0, locals := 130 } D tc sk [.ref (Ta 0), .ref (sk.1 i)] [((Ta 0), .inr (10, [.ref (Ta 1), .int (Tv 0), .int (Tv 1), .int (Tv 2), .int (Tv 3), .int (Tv 4)])), ((Ta 1), .inl (tc 0, 400, .inl (Tf 1)))] (fun (v : Option Value) (u : (Int32) × (Int32) × (Int32)) => match u with | (oo0x1, oo0x2, oo0x3) => ∃ r : Int32, v = some (.int r) ∧ ((r.toInt = 0 ∨ r.toInt = 1)) ∧ (0 ≤ ((Tv 0) : Int32).toInt ∧ ((Tv 0) : Int32).toInt ≤ 400 ∧ 0 ≤ (oo0x1 : Int32).toInt ∧ (oo0x1 : Int32).toInt ≤ 400 ∧ 0 ≤ (oo0x2 : Int32).toInt ∧ (oo0x2 : Int32).toInt ≤ 400) ∧ (r.toInt = 1 → (TWd (cB (Tf 1) (Tv 0)) (wS i) rr) ∧ (TpR (Tf 1) (Tv 0) (rNX (cB (Tf 1) (Tv 0)) rr) oo0x1 oo0x2 oo0x3 (Tv 4))) ∧ (r.toInt = 0 → (NWd (cB (Tf 1) (Tv 0)) (wS i) rr) ∧ (TpR (Tf 1) (Tv 0) rr oo0x1 oo0x2 oo0x3 (Tv 4)))) (fun (u : (Int32) × (Int32) × (Int32)) => match u with | (oo0x1, oo0x2, oo0x3) => [((Ta 0), .inr (10, [.ref (Ta 1), .int (Tv 0), .int oo0x1, .int oo0x2, .int oo0x3, .int (Tv 4)])), ((Ta 1), .inl (tc 0, 400, .inl (Tf 1)))]) 0 0 := by
  refine Ct.start (by decide) (Nat.le_of_ble_eq_true rfl) (fun p e s m below meth c A ls hx hb hr hlk hin hml hown hts hK hX hP hD hA hl hS => ?_)
  have hl : lv_has ls 2 [(0, .ref (Ta 0)), (1, .ref (sk.1 i))] := hl
  have tb_1 : TpB (rTE (cB (Tf 1) (Tv 0)) rr) (Tv 2) (Tv 4) := TpR.tb h_r
  refine lv_aload_n hx hb dX10_takesWord_0 rfl (lv_at hl 0 rfl) ?_
  refine lv_aload_n hx hb dX10_takesWord_1 rfl (lv_at hl 1 rfl) ?_
  refine cV (a := (Ta 0)) (As := [.ref (sk.1 i)]) (rest := []) (wr := []) ⟨hx, hb, hml, hown, hts⟩ hK hX hA (cu_fX10_isWord l D tc sk (Ta 0) (Ta 1) (Tv 0) (Tv 1) (Tv 2) (Tv 3) (Tv 4) (Tf 1) i rr hi h_tape h_by h_r) k_618 k_651 k_616 k_617 k_96 pl_X10_isWord ⟨Nat.le_of_ble_eq_true rfl, Nat.le_of_ble_eq_true rfl⟩ rfl rfl (va_recv hK hP (ci := 10) (q0 := 0) rfl rfl) hP hD hS [0, 1] [] rfl rfl rfl rfl rfl (by decide) rfl hl.1 rfl (Nat.le_of_ble_eq_true rfl) dX10_takesWord_2 ⟨Nat.le_of_ble_eq_true rfl, Nat.le_of_ble_eq_true rfl⟩ (fun v_2 u_3 H locs hv_4 hP₀ hD₀ hS₀ => ?_)
  obtain ⟨r_5, rfl, he_6, hm_8, hm_9⟩ := hv_4
  have he_6 : (r_5.toInt = 0 ∨ r_5.toInt = 1) := he_6
  refine W.eq (g2 := F0 m 5 ls [.int r_5]) rfl ?_
  replace hP : va_P D classes [((Ta 0), .inr (10, [.ref (Ta 1), .int (Tv 0), .int (Tv 1), .int (Tv 2), .int (Tv 3), .int (Tv 4)])), ((Ta 1), .inl (tc 0, 400, .inl (Tf 1)))] H := hP₀
  replace hD : va_D A [((Ta 0), .inr (10, [.ref (Ta 1), .int (Tv 0), .int (Tv 1), .int (Tv 2), .int (Tv 3), .int (Tv 4)])), ((Ta 1), .inl (tc 0, 400, .inl (Tf 1)))] := hD₀
  replace hS := hS₀
  clear hP₀ hD₀ hS₀
  refine lv_if_ne (tgt := 10) hx hb dX10_takesWord_5 (by decide) (fun c_10 => ?_) (fun c_10 => ?_)
  · skip
    have hz_12 : (r_5 : Int32).toInt = 1 := by
      have z_1 : ¬ (r_5 : Int32).toInt = (0 : Int32).toInt := fun z => c_10 (Int32.toInt_inj.mp z)
      have y_0 : (0 : Int32).toInt = 0 := by decide
      omega
    obtain pf_11 := hm_8 hz_12
    have pf_11 : TWd (cB (Tf 1) (Tv 0)) (wS i) rr := pf_11
    refine lv_aload_n hx hb dX10_takesWord_10 rfl (lv_at hl 0 rfl) ?_
    refine cV (a := (Ta 0)) (As := []) (rest := []) (wr := []) ⟨hx, hb, hml, hown, hts⟩ hK hX hA (cu_fX10_step l D tc sk (Ta 0) (Ta 1) (Tv 0) (Tv 1) (Tv 2) (Tv 3) (Tv 4) (Tf 1) (rTE (cB (Tf 1) (Tv 0)) rr) h_tape h_by tb_1) k_478 k_475 k_476 k_477 k_96 pl_X10_step ⟨Nat.le_of_ble_eq_true rfl, Nat.le_of_ble_eq_true rfl⟩ rfl rfl (va_recv hK hP (ci := 10) (q0 := 0) rfl rfl) hP hD hS [0, 1] [] rfl rfl rfl rfl rfl (by decide) rfl hl.1 rfl (Nat.le_of_ble_eq_true rfl) dX10_takesWord_11 ⟨Nat.le_of_ble_eq_true rfl, Nat.le_of_ble_eq_true rfl⟩ (fun v_13 u_14 H locs hv_15 hP₀ hD₀ hS₀ => ?_)
    obtain ⟨sv_16, sv_17, sv_18⟩ := u_14
    obtain ⟨rfl, pf_19, pf_20⟩ := hv_15
    have pf_19 : 0 ≤ ((Tv 0) : Int32).toInt ∧ ((Tv 0) : Int32).toInt ≤ 400 ∧ 0 ≤ (sv_16 : Int32).toInt ∧ (sv_16 : Int32).toInt ≤ 400 ∧ 0 ≤ (sv_17 : Int32).toInt ∧ (sv_17 : Int32).toInt ≤ 400 := pf_19
    have pf_20 : TpR (Tf 1) (Tv 0) (rSK (cB (Tf 1) (Tv 0)) (rTE (cB (Tf 1) (Tv 0)) rr)) sv_16 sv_17 sv_18 (Tv 4) := pf_20
    rw [rNX_eq] at pf_20
    obtain ⟨ro_21, ero_21⟩ : ∃ z : Except Int (Nat × Nat), z = (rNX (cB (Tf 1) (Tv 0)) rr) := ⟨_, rfl⟩
    rw [← ero_21] at pf_20
    have tb_22 : TpB (rTE (cB (Tf 1) (Tv 0)) ro_21) sv_17 (Tv 4) := TpR.tb pf_20
    refine W.eq (g2 := F0 m 14 ls []) rfl ?_
    replace hP : va_P D classes [((Ta 0), .inr (10, [.ref (Ta 1), .int (Tv 0), .int sv_16, .int sv_17, .int sv_18, .int (Tv 4)])), ((Ta 1), .inl (tc 0, 400, .inl (Tf 1)))] H := hP₀
    replace hD : va_D A [((Ta 0), .inr (10, [.ref (Ta 1), .int (Tv 0), .int sv_16, .int sv_17, .int sv_18, .int (Tv 4)])), ((Ta 1), .inl (tc 0, 400, .inl (Tf 1)))] := hD₀
    replace hS := hS₀
    clear hP₀ hD₀ hS₀
    refine lv_iconst (v := 1) hx hb dX10_takesWord_14 (by decide) ?_
    have hp_23 : ((1 : Int32).toInt = 0 ∨ (1 : Int32).toInt = 1) := by
      have z_1 : ¬ (r_5 : Int32).toInt = (0 : Int32).toInt := fun z => c_10 (Int32.toInt_inj.mp z)
      have y_0 : (0 : Int32).toInt = 0 := by decide
      have y_1 : (1 : Int32).toInt = 1 := by decide
      have yr : (1 : Int32).toInt = 1 := by decide
      omega
    have hm_24 : (1 : Int32).toInt = 1 → (TWd (cB (Tf 1) (Tv 0)) (wS i) rr) ∧ (TpR (Tf 1) (Tv 0) (rNX (cB (Tf 1) (Tv 0)) rr) sv_16 sv_17 sv_18 (Tv 4)) := by
      intro h1r
      have hf_25 : TpR (Tf 1) (Tv 0) (rNX (cB (Tf 1) (Tv 0)) rr) sv_16 sv_17 sv_18 (Tv 4) := by
        have hE_26 : (rNX (cB (Tf 1) (Tv 0)) rr) = ro_21 := by
          rw [ero_21]
        rw [hE_26]
        exact pf_20
      exact ⟨pf_11, hf_25⟩
    exact retI (v := 1) hx hb hr hlk (rfl) hP hD hS (sv_16, sv_17, sv_18) ⟨_, rfl, hp_23, pf_19, hm_24, (fun h => absurd h (by decide))⟩ [0, 1] rfl rfl dX10_takesWord_15 (Nat.le_of_ble_eq_true rfl) (Nat.le_of_ble_eq_true rfl) rfl
  · skip
    have hz_28 : (r_5 : Int32).toInt = 0 := by
      have z_1 := congrArg Int32.toInt c_10
      have y_0 : (0 : Int32).toInt = 0 := by decide
      omega
    obtain pf_27 := hm_9 hz_28
    have pf_27 : NWd (cB (Tf 1) (Tv 0)) (wS i) rr := pf_27
    refine lv_iconst (v := 0) hx hb dX10_takesWord_8 (by decide) ?_
    have hp_29 : ((0 : Int32).toInt = 0 ∨ (0 : Int32).toInt = 1) := by
      have z_1 := congrArg Int32.toInt c_10
      have y_0 : (0 : Int32).toInt = 0 := by decide
      omega
    have hm_30 : (0 : Int32).toInt = 0 → (NWd (cB (Tf 1) (Tv 0)) (wS i) rr) ∧ (TpR (Tf 1) (Tv 0) rr (Tv 1) (Tv 2) (Tv 3) (Tv 4)) := by
      intro h1r
      exact ⟨pf_27, h_r⟩
    exact retI (v := 0) hx hb hr hlk (rfl) hP hD hS ((Tv 1), (Tv 2), (Tv 3)) ⟨_, rfl, hp_29, h_tape, (fun h => absurd h (by decide)), hm_30⟩ [0, 1] rfl rfl dX10_takesWord_9 (Nat.le_of_ble_eq_true rfl) (Nat.le_of_ble_eq_true rfl) rfl
set_option maxRecDepth 100000 in
theorem cu_fX10_takesWord (l : Launch) (D : va_G) (tc : Nat → ClassId) (sk : (Nat → Nat) × (Nat → Nat)) (Ta_0 : Nat) (Ta_1 : Nat) (Tv_0 : Int32) (Tv_1 : Int32) (Tv_2 : Int32) (Tv_3 : Int32) (Tv_4 : Int32) (Tf_1 : Nat → Int32) (i : Nat) (rr : Except Int (Nat × Nat)) (hi : i < 7) (h_tape : 0 ≤ (Tv_0 : Int32).toInt ∧ (Tv_0 : Int32).toInt ≤ 400 ∧ 0 ≤ (Tv_1 : Int32).toInt ∧ (Tv_1 : Int32).toInt ≤ 400 ∧ 0 ≤ (Tv_2 : Int32).toInt ∧ (Tv_2 : Int32).toInt ≤ 400) (h_by : Byt Tf_1) (h_r : TpR Tf_1 Tv_0 rr Tv_1 Tv_2 Tv_3 Tv_4) : Ct l yX10_takesWord cX10_takesWord 2 (some .boolean) { frames := 6, cells := 0, slots := 0, locals := 130 } D tc sk [.ref Ta_0, .ref (sk.1 i)] [(Ta_0, .inr (10, [.ref Ta_1, .int Tv_0, .int Tv_1, .int Tv_2, .int Tv_3, .int Tv_4])), (Ta_1, .inl (tc 0, 400, .inl Tf_1))] (fun (v : Option Value) (u : (Int32) × (Int32) × (Int32)) => match u with | (oo0x1, oo0x2, oo0x3) => ∃ r : Int32, v = some (.int r) ∧ ((r.toInt = 0 ∨ r.toInt = 1)) ∧ (0 ≤ (Tv_0 : Int32).toInt ∧ (Tv_0 : Int32).toInt ≤ 400 ∧ 0 ≤ (oo0x1 : Int32).toInt ∧ (oo0x1 : Int32).toInt ≤ 400 ∧ 0 ≤ (oo0x2 : Int32).toInt ∧ (oo0x2 : Int32).toInt ≤ 400) ∧ (r.toInt = 1 → (TWd (cB Tf_1 Tv_0) (wS i) rr) ∧ (TpR Tf_1 Tv_0 (rNX (cB Tf_1 Tv_0) rr) oo0x1 oo0x2 oo0x3 Tv_4)) ∧ (r.toInt = 0 → (NWd (cB Tf_1 Tv_0) (wS i) rr) ∧ (TpR Tf_1 Tv_0 rr oo0x1 oo0x2 oo0x3 Tv_4))) (fun (u : (Int32) × (Int32) × (Int32)) => match u with | (oo0x1, oo0x2, oo0x3) => [(Ta_0, .inr (10, [.ref Ta_1, .int Tv_0, .int oo0x1, .int oo0x2, .int oo0x3, .int Tv_4])), (Ta_1, .inl (tc 0, 400, .inl Tf_1))]) 0 0 :=
  ct_fX10_takesWord l D tc sk (fun k => ([Ta_0, Ta_1] : List (Nat)).getD k 0) (fun k => ([Tv_0, Tv_1, Tv_2, Tv_3, Tv_4] : List (Int32)).getD k 0) (fun k => ([(fun _ => 0), Tf_1] : List (Nat → Int32)).getD k (fun _ => 0)) i rr hi h_tape h_by h_r
set_option maxHeartbeats 4000000 in
set_option maxRecDepth 100000 in
theorem ct_fX10_wordAmong (l : Launch) (D : va_G) (tc : Nat → ClassId) (sk : (Nat → Nat) × (Nat → Nat)) (Ta : Nat → Nat) (Tv : Nat → Int32) (Tf : Nat → Nat → Int32) (i : Nat) (rr : Except Int (Nat × Nat)) (hi : i < 7) (h_tape : 0 ≤ ((Tv 0) : Int32).toInt ∧ ((Tv 0) : Int32).toInt ≤ 400 ∧ 0 ≤ ((Tv 1) : Int32).toInt ∧ ((Tv 1) : Int32).toInt ≤ 400 ∧ 0 ≤ ((Tv 2) : Int32).toInt ∧ ((Tv 2) : Int32).toInt ≤ 400) (h_by : Byt (Tf 1)) (h_r : TpR (Tf 1) (Tv 0) rr (Tv 1) (Tv 2) (Tv 3) (Tv 4)) : Ct l yX10_wordAmong cX10_wordAmong 5 (some .int) { frames := 5, cells := 0, slots := 0, locals := 109 } D tc sk [.ref (Ta 0), .ref (sk.1 i)] [((Ta 0), .inr (10, [.ref (Ta 1), .int (Tv 0), .int (Tv 1), .int (Tv 2), .int (Tv 3), .int (Tv 4)])), ((Ta 1), .inl (tc 0, 400, .inl (Tf 1)))] (fun (v : Option Value) (_ : Unit) => ∃ r : Int32, v = some (.int r) ∧ (r.toInt = waR (cB (Tf 1) (Tv 0)) (wL i) 0 rr)) (fun (_ : Unit) => [((Ta 0), .inr (10, [.ref (Ta 1), .int (Tv 0), .int (Tv 1), .int (Tv 2), .int (Tv 3), .int (Tv 4)])), ((Ta 1), .inl (tc 0, 400, .inl (Tf 1)))]) 0 0 := by
  refine Ct.start (by decide) (Nat.le_of_ble_eq_true rfl) (fun p e s m below meth c A ls hx hb hr hlk hin hml hown hts hK hX hP hD hA hl hS => ?_)
  have hl : lv_has ls 5 [(0, .ref (Ta 0)), (1, .ref (sk.1 i))] := hl
  have tb_1 : TpB (rTE (cB (Tf 1) (Tv 0)) rr) (Tv 2) (Tv 4) := TpR.tb h_r
  have hl75 := lenS_le hi
  refine lv_iconst (v := 0) hx hb dX10_wordAmong_0 (by decide) ?_
  refine lv_istore_n (lv' := [(2, .int 0), (0, .ref (Ta 0)), (1, .ref (sk.1 i))]) hx hb dX10_wordAmong_1 rfl hl (by decide) rfl (fun ls hl₀ => ?_)
  replace hl := hl₀
  clear hl₀
  refine lv_iconst (v := 0) hx hb dX10_wordAmong_2 (by decide) ?_
  refine lv_istore_n (lv' := [(3, .int 0), (2, .int 0), (0, .ref (Ta 0)), (1, .ref (sk.1 i))]) hx hb dX10_wordAmong_3 rfl hl (by decide) rfl (fun ls hl₀ => ?_)
  replace hl := hl₀
  clear hl₀
  refine lv_iconst (v := 0) hx hb dX10_wordAmong_4 (by decide) ?_
  refine lv_istore (lv' := [(4, .int 0), (3, .int 0), (2, .int 0), (0, .ref (Ta 0)), (1, .ref (sk.1 i))]) hx hb dX10_wordAmong_5 hl (by decide) rfl (fun ls hl₀ => ?_)
  replace hl := hl₀
  clear hl₀
  have loop_10 : ∀ (n_8 : Nat) (vy_5 : Int32) (vy_6 : Int32) (vy_7 : Int32) (H : Heap) (locs : List Loc) (ls : Array Slot), (76 - (vy_5 : Int32).toInt).toNat < n_8 → (0 ≤ (vy_7 : Int32).toInt ∧ (vy_7 : Int32).toInt ≤ (vy_5 : Int32).toInt ∧ 0 ≤ (vy_6 : Int32).toInt ∧ (vy_6 : Int32).toInt ≤ (vy_5 : Int32).toInt ∧ (vy_5 : Int32).toInt ≤ ((lenS.getD i 0 : Nat) : Int)) → (Wa (cB (Tf 1) (Tv 0)) i rr vy_7 vy_6 vy_5) → va_P D classes [((Ta 0), .inr (10, [.ref (Ta 1), .int (Tv 0), .int (Tv 1), .int (Tv 2), .int (Tv 3), .int (Tv 4)])), ((Ta 1), .inl (tc 0, 400, .inl (Tf 1)))] H → va_D A [((Ta 0), .inr (10, [.ref (Ta 1), .int (Tv 0), .int (Tv 1), .int (Tv 2), .int (Tv 3), .int (Tv 4)])), ((Ta 1), .inl (tc 0, 400, .inl (Tf 1)))] → va_S A s.heap H locs → lv_has ls 5 [(4, .int vy_5), (3, .int vy_6), (2, .int vy_7), (0, .ref (Ta 0)), (1, .ref (sk.1 i))] → W p l e ({ frames := 5, cells := 0, slots := 0, locals := 109 }) s m ([.ref (Ta 0), .ref (sk.1 i)].toArray) below meth c H locs 0 0 (MQ below (QW (fun (v : Option Value) (_ : Unit) => ∃ r : Int32, v = some (.int r) ∧ (r.toInt = waR (cB (Tf 1) (Tv 0)) (wL i) 0 rr)) (BW D (fun (_ : Unit) => [((Ta 0), .inr (10, [.ref (Ta 1), .int (Tv 0), .int (Tv 1), .int (Tv 2), .int (Tv 3), .int (Tv 4)])), ((Ta 1), .inl (tc 0, 400, .inl (Tf 1)))]) A) A) ([.ref (Ta 0), .ref (sk.1 i)].toArray) s 0 0 A) (F0 m 7 ls []) := by
    clear hP hD hS hl
    intro n_8
    induction n_8 with
    | zero =>
      intro vy_5 vy_6 vy_7 H locs ls h1
      exact absurd h1 (Nat.not_lt_zero _)
    | succ n_8 ih_9 =>
      intro vy_5 vy_6 vy_7 H locs ls hn_13 pf_11 pf_12 hP hD hS hl
      refine lv_iload hx hb dX10_wordAmong_7 (lv_at hl 0 rfl) ?_
      refine lv_aload_n hx hb dX10_wordAmong_9 rfl (lv_at hl 4 rfl) ?_
      refine cV (a := (sk.1 i)) (As := []) (rest := [.int vy_5]) (wr := [((Ta 0), .inr (10, [.ref (Ta 1), .int (Tv 0), .int (Tv 1), .int (Tv 2), .int (Tv 3), .int (Tv 4)])), ((Ta 1), .inl (tc 0, 400, .inl (Tf 1)))]) ⟨hx, hb, hml, hown, hts⟩ hK hX hA (ct_fJ0_length l D tc sk i hi) k_505 k_502 k_503 k_504 k_107 pl_J0_length_8abf5 ⟨Nat.le_of_ble_eq_true rfl, Nat.le_of_ble_eq_true rfl⟩ rfl rfl (vk_recv hX.1 hi hS) hP hD hS [] [0, 1] rfl rfl rfl rfl rfl (by decide) rfl hl.1 rfl (Nat.le_of_ble_eq_true rfl) dX10_wordAmong_10 ⟨Nat.le_of_ble_eq_true rfl, Nat.le_of_ble_eq_true rfl⟩ (fun v_14 u_15 H locs hv_16 hP₀ hD₀ hS₀ => ?_)
      obtain ⟨r_17, rfl, he_18⟩ := hv_16
      have he_18 : r_17.toInt = ((lenS.getD i 0 : Nat) : Int) := he_18
      refine W.eq (g2 := F0 m 13 ls [.int r_17, .int vy_5]) rfl ?_
      replace hP : va_P D classes [((Ta 0), .inr (10, [.ref (Ta 1), .int (Tv 0), .int (Tv 1), .int (Tv 2), .int (Tv 3), .int (Tv 4)])), ((Ta 1), .inl (tc 0, 400, .inl (Tf 1)))] H := hP₀
      replace hD : va_D A [((Ta 0), .inr (10, [.ref (Ta 1), .int (Tv 0), .int (Tv 1), .int (Tv 2), .int (Tv 3), .int (Tv 4)])), ((Ta 1), .inl (tc 0, 400, .inl (Tf 1)))] := hD₀
      replace hS := hS₀
      clear hP₀ hD₀ hS₀
      refine lv_icmp_ge (tgt := 54) hx hb dX10_wordAmong_13 (by decide) (fun c_20 => ?_) (fun c_20 => ?_)
      · skip
        refine lv_iconst (v := (-1)) hx hb dX10_wordAmong_54 (by decide) ?_
        have hr_21 : ((lenS.getD i 0 : Nat) : Int) ≤ (vy_5 : Int32).toInt := by
          have z_1 := Int32.le_iff_toInt_le.mp c_20
          omega
        exact retI (v := (-1)) hx hb hr hlk (rfl) hP hD hS () ⟨_, rfl, ((Wa.end pf_12 hr_21).trans (by decide)).symm⟩ [0, 1] rfl rfl dX10_wordAmong_55 (Nat.le_of_ble_eq_true rfl) (Nat.le_of_ble_eq_true rfl) rfl
      · skip
        refine lv_aload_n hx hb dX10_wordAmong_16 rfl (lv_at hl 4 rfl) ?_
        refine lv_iload hx hb dX10_wordAmong_17 (lv_at hl 0 rfl) ?_
        have ha_22 : 0 ≤ vy_5.toInt ∧ vy_5.toInt < ((lenS.getD i 0 : Nat) : Int) := by
          have z_1 := Int32.lt_iff_toInt_lt.mp (Int32.not_le.mp c_20)
          omega
        refine cV (a := (sk.1 i)) (As := [.int vy_5]) (rest := []) (wr := [((Ta 0), .inr (10, [.ref (Ta 1), .int (Tv 0), .int (Tv 1), .int (Tv 2), .int (Tv 3), .int (Tv 4)])), ((Ta 1), .inl (tc 0, 400, .inl (Tf 1)))]) ⟨hx, hb, hml, hown, hts⟩ hK hX hA (ct_fJ0_charAt l D tc sk i vy_5 hi ha_22) k_515 k_512 k_513 k_514 k_107 pl_J0_charAt_5068e ⟨Nat.le_of_ble_eq_true rfl, Nat.le_of_ble_eq_true rfl⟩ rfl rfl (vk_recv hX.1 hi hS) hP hD hS [] [0, 1] rfl rfl rfl rfl rfl (by decide) rfl hl.1 rfl (Nat.le_of_ble_eq_true rfl) dX10_wordAmong_19 ⟨Nat.le_of_ble_eq_true rfl, Nat.le_of_ble_eq_true rfl⟩ (fun v_23 u_24 H locs hv_25 hP₀ hD₀ hS₀ => ?_)
        obtain ⟨r_26, rfl, he_27⟩ := hv_25
        have he_27 : (narrow .char (.int r_26) = .int r_26 ∧ r_26.toInt = stB i vy_5.toInt.toNat) := he_27
        refine W.eq (g2 := F0 m 22 ls [.int r_26]) rfl ?_
        replace hP : va_P D classes [((Ta 0), .inr (10, [.ref (Ta 1), .int (Tv 0), .int (Tv 1), .int (Tv 2), .int (Tv 3), .int (Tv 4)])), ((Ta 1), .inl (tc 0, 400, .inl (Tf 1)))] H := hP₀
        replace hD : va_D A [((Ta 0), .inr (10, [.ref (Ta 1), .int (Tv 0), .int (Tv 1), .int (Tv 2), .int (Tv 3), .int (Tv 4)])), ((Ta 1), .inl (tc 0, 400, .inl (Tf 1)))] := hD₀
        replace hS := hS₀
        clear hP₀ hD₀ hS₀
        refine lv_bipush (v := 32) hx hb dX10_wordAmong_22 (by decide) ?_
        refine lv_icmp_ne (tgt := 48) hx hb dX10_wordAmong_24 (by decide) (fun c_29 => ?_) (fun c_29 => ?_)
        · skip
          obtain ⟨x_30, ex_30⟩ : ∃ y : Int32, y = vy_5 + 1 := ⟨_, rfl⟩
          refine lv_iinc (v := x_30) (lv' := [(4, .int x_30), (3, .int vy_6), (2, .int vy_7), (0, .ref (Ta 0)), (1, .ref (sk.1 i))]) hx hb dX10_wordAmong_48 hl (k := 0) rfl (by rw [ex_30]; rfl) (by decide) rfl (fun ls hl₀ => ?_)
          replace hl := hl₀
          clear hl₀
          refine lv_goto (tgt := 7) hx hb dX10_wordAmong_51 (by decide) ?_
          have hb_31 : 76 - (x_30 : Int32).toInt < 76 - (vy_5 : Int32).toInt ∧ 1 ≤ 76 - (vy_5 : Int32).toInt := by
            have z_1 := Int32.lt_iff_toInt_lt.mp (Int32.not_le.mp c_20)
            have z_2 : ¬ (r_26 : Int32).toInt = (32 : Int32).toInt := fun z => c_29 (Int32.toInt_inj.mp z)
            have y_32 : (32 : Int32).toInt = 32 := by decide
            have y_1 : (1 : Int32).toInt = 1 := by decide
            have t_x_30 : x_30.toInt = (vy_5 : Int32).toInt + (1 : Int32).toInt := by rw [ex_30]; exact add_toInt (by omega) (by omega)
            omega
          have ha_32 : 0 ≤ (vy_7 : Int32).toInt ∧ (vy_7 : Int32).toInt ≤ (x_30 : Int32).toInt ∧ 0 ≤ (vy_6 : Int32).toInt ∧ (vy_6 : Int32).toInt ≤ (x_30 : Int32).toInt ∧ (x_30 : Int32).toInt ≤ ((lenS.getD i 0 : Nat) : Int) := by
            have z_1 := Int32.lt_iff_toInt_lt.mp (Int32.not_le.mp c_20)
            have z_2 : ¬ (r_26 : Int32).toInt = (32 : Int32).toInt := fun z => c_29 (Int32.toInt_inj.mp z)
            have y_32 : (32 : Int32).toInt = 32 := by decide
            have y_1 : (1 : Int32).toInt = 1 := by decide
            have t_x_30 : x_30.toInt = (vy_5 : Int32).toInt + (1 : Int32).toInt := by rw [ex_30]; exact add_toInt (by omega) (by omega)
            omega
          have hr_33 : 0 ≤ (vy_5 : Int32).toInt ∧ (vy_5 : Int32).toInt < ((lenS.getD i 0 : Nat) : Int) := by
            have z_1 := Int32.lt_iff_toInt_lt.mp (Int32.not_le.mp c_20)
            have z_2 : ¬ (r_26 : Int32).toInt = (32 : Int32).toInt := fun z => c_29 (Int32.toInt_inj.mp z)
            have y_32 : (32 : Int32).toInt = 32 := by decide
            omega
          have hi_34 : (x_30 : Int32).toInt = (vy_5 : Int32).toInt + 1 := by
            have z_1 := Int32.lt_iff_toInt_lt.mp (Int32.not_le.mp c_20)
            have z_2 : ¬ (r_26 : Int32).toInt = (32 : Int32).toInt := fun z => c_29 (Int32.toInt_inj.mp z)
            have y_32 : (32 : Int32).toInt = 32 := by decide
            have y_1 : (1 : Int32).toInt = 1 := by decide
            have t_x_30 : x_30.toInt = (vy_5 : Int32).toInt + (1 : Int32).toInt := by rw [ex_30]; exact add_toInt (by omega) (by omega)
            omega
          have hr_35 : ¬ (r_26 : Int32).toInt = 32 := by
            have z_1 := Int32.lt_iff_toInt_lt.mp (Int32.not_le.mp c_20)
            have z_2 : ¬ (r_26 : Int32).toInt = (32 : Int32).toInt := fun z => c_29 (Int32.toInt_inj.mp z)
            have y_32 : (32 : Int32).toInt = 32 := by decide
            omega
          exact ih_9 x_30 vy_6 vy_7 _ _ _ (by omega) ha_32 (Wa.go pf_12 hr_33 he_27.2 hr_35 hi_34) (hP.sub [0, 1] rfl) (hD.sub [0, 1] rfl rfl) hS (lv_sub hl [0, 1, 2, 3, 4] rfl)
        · skip
          refine lv_aload_n hx hb dX10_wordAmong_27 rfl (lv_at hl 3 rfl) ?_
          refine lv_aload_n hx hb dX10_wordAmong_28 rfl (lv_at hl 4 rfl) ?_
          refine lv_iload_n hx hb dX10_wordAmong_29 rfl (lv_at hl 1 rfl) ?_
          refine lv_iload hx hb dX10_wordAmong_30 (lv_at hl 0 rfl) ?_
          have ha_36 : 0 ≤ vy_6.toInt ∧ vy_6.toInt ≤ vy_5.toInt ∧ vy_5.toInt ≤ ((lenS.getD i 0 : Nat) : Int) := by
            have z_1 := Int32.lt_iff_toInt_lt.mp (Int32.not_le.mp c_20)
            have z_2 := congrArg Int32.toInt c_29
            have y_32 : (32 : Int32).toInt = 32 := by decide
            omega
          refine cV (a := (Ta 0)) (As := [.ref (sk.1 i), .int vy_6, .int vy_5]) (rest := []) (wr := []) ⟨hx, hb, hml, hown, hts⟩ hK hX hA (cu_fX10_isPartOf l D tc sk (Ta 0) (Ta 1) (Tv 0) (Tv 1) (Tv 2) (Tv 3) (Tv 4) (Tf 1) i vy_6 vy_5 rr hi h_tape h_by h_r ha_36) k_553 k_550 k_552 k_2 k_96 pl_X10_isPartOf ⟨Nat.le_of_ble_eq_true rfl, Nat.le_of_ble_eq_true rfl⟩ rfl rfl (va_recv hK hP (ci := 10) (q0 := 0) rfl rfl) hP hD hS [0, 1] [] rfl rfl rfl rfl rfl (by decide) rfl hl.1 rfl (Nat.le_of_ble_eq_true rfl) dX10_wordAmong_32 ⟨Nat.le_of_ble_eq_true rfl, Nat.le_of_ble_eq_true rfl⟩ (fun v_37 u_38 H locs hv_39 hP₀ hD₀ hS₀ => ?_)
          obtain ⟨r_40, rfl, he_41, hm_43, hm_44⟩ := hv_39
          have he_41 : (r_40.toInt = 0 ∨ r_40.toInt = 1) := he_41
          refine W.eq (g2 := F0 m 35 ls [.int r_40]) rfl ?_
          replace hP : va_P D classes [((Ta 0), .inr (10, [.ref (Ta 1), .int (Tv 0), .int (Tv 1), .int (Tv 2), .int (Tv 3), .int (Tv 4)])), ((Ta 1), .inl (tc 0, 400, .inl (Tf 1)))] H := hP₀
          replace hD : va_D A [((Ta 0), .inr (10, [.ref (Ta 1), .int (Tv 0), .int (Tv 1), .int (Tv 2), .int (Tv 3), .int (Tv 4)])), ((Ta 1), .inl (tc 0, 400, .inl (Tf 1)))] := hD₀
          replace hS := hS₀
          clear hP₀ hD₀ hS₀
          refine lv_if_eq (tgt := 40) hx hb dX10_wordAmong_35 (by decide) (fun c_45 => ?_) (fun c_45 => ?_)
          · skip
            have hz_47 : (r_40 : Int32).toInt = 0 := by
              have z_1 := Int32.lt_iff_toInt_lt.mp (Int32.not_le.mp c_20)
              have z_2 := congrArg Int32.toInt c_29
              have z_3 := congrArg Int32.toInt c_45
              have y_0 : (0 : Int32).toInt = 0 := by decide
              have y_32 : (32 : Int32).toInt = 32 := by decide
              omega
            obtain pf_46 := hm_44 hz_47
            have pf_46 : NWd (cB (Tf 1) (Tv 0)) (sbS i vy_6.toInt.toNat vy_5.toInt.toNat) rr := pf_46
            obtain ⟨x_48, ex_48⟩ : ∃ y : Int32, y = vy_7 + 1 := ⟨_, rfl⟩
            refine lv_iinc (v := x_48) (lv' := [(2, .int x_48), (4, .int vy_5), (3, .int vy_6), (0, .ref (Ta 0)), (1, .ref (sk.1 i))]) hx hb dX10_wordAmong_40 hl (k := 2) rfl (by rw [ex_48]; rfl) (by decide) rfl (fun ls hl₀ => ?_)
            replace hl := hl₀
            clear hl₀
            refine lv_iload hx hb dX10_wordAmong_43 (lv_at hl 1 rfl) ?_
            refine lv_iconst (v := 1) hx hb dX10_wordAmong_45 (by decide) ?_
            refine lv_iadd hx hb dX10_wordAmong_46 ?_
            refine lv_topi (fun x_49 ex_49 => ?_)
            refine lv_istore_n (lv' := [(3, .int x_49), (2, .int x_48), (4, .int vy_5), (0, .ref (Ta 0)), (1, .ref (sk.1 i))]) hx hb dX10_wordAmong_47 rfl hl (by decide) rfl (fun ls hl₀ => ?_)
            replace hl := hl₀
            clear hl₀
            obtain ⟨x_50, ex_50⟩ : ∃ y : Int32, y = vy_5 + 1 := ⟨_, rfl⟩
            refine lv_iinc (v := x_50) (lv' := [(4, .int x_50), (3, .int x_49), (2, .int x_48), (0, .ref (Ta 0)), (1, .ref (sk.1 i))]) hx hb dX10_wordAmong_48 hl (k := 2) rfl (by rw [ex_50]; rfl) (by decide) rfl (fun ls hl₀ => ?_)
            replace hl := hl₀
            clear hl₀
            refine lv_goto (tgt := 7) hx hb dX10_wordAmong_51 (by decide) ?_
            have hb_51 : 76 - (x_50 : Int32).toInt < 76 - (vy_5 : Int32).toInt ∧ 1 ≤ 76 - (vy_5 : Int32).toInt := by
              have z_1 := Int32.lt_iff_toInt_lt.mp (Int32.not_le.mp c_20)
              have z_2 := congrArg Int32.toInt c_29
              have z_3 := congrArg Int32.toInt c_45
              have y_0 : (0 : Int32).toInt = 0 := by decide
              have y_32 : (32 : Int32).toInt = 32 := by decide
              have y_1 : (1 : Int32).toInt = 1 := by decide
              have t_x_50 : x_50.toInt = (vy_5 : Int32).toInt + (1 : Int32).toInt := by rw [ex_50]; exact add_toInt (by omega) (by omega)
              omega
            have ha_52 : 0 ≤ (x_48 : Int32).toInt ∧ (x_48 : Int32).toInt ≤ (x_50 : Int32).toInt ∧ 0 ≤ (x_49 : Int32).toInt ∧ (x_49 : Int32).toInt ≤ (x_50 : Int32).toInt ∧ (x_50 : Int32).toInt ≤ ((lenS.getD i 0 : Nat) : Int) := by
              have z_1 := Int32.lt_iff_toInt_lt.mp (Int32.not_le.mp c_20)
              have z_2 := congrArg Int32.toInt c_29
              have z_3 := congrArg Int32.toInt c_45
              have y_0 : (0 : Int32).toInt = 0 := by decide
              have y_32 : (32 : Int32).toInt = 32 := by decide
              have y_1 : (1 : Int32).toInt = 1 := by decide
              have t_x_48 : x_48.toInt = (vy_7 : Int32).toInt + (1 : Int32).toInt := by rw [ex_48]; exact add_toInt (by omega) (by omega)
              have t_x_50 : x_50.toInt = (vy_5 : Int32).toInt + (1 : Int32).toInt := by rw [ex_50]; exact add_toInt (by omega) (by omega)
              have t_x_49 : x_49.toInt = (vy_5 : Int32).toInt + (1 : Int32).toInt := by rw [ex_49]; exact add_toInt (by omega) (by omega)
              omega
            have hr_53 : 0 ≤ (vy_5 : Int32).toInt ∧ (vy_5 : Int32).toInt < ((lenS.getD i 0 : Nat) : Int) := by
              have z_1 := Int32.lt_iff_toInt_lt.mp (Int32.not_le.mp c_20)
              have z_2 := congrArg Int32.toInt c_29
              have z_3 := congrArg Int32.toInt c_45
              have y_0 : (0 : Int32).toInt = 0 := by decide
              have y_32 : (32 : Int32).toInt = 32 := by decide
              omega
            have hi_54 : (x_50 : Int32).toInt = (vy_5 : Int32).toInt + 1 := by
              have z_1 := Int32.lt_iff_toInt_lt.mp (Int32.not_le.mp c_20)
              have z_2 := congrArg Int32.toInt c_29
              have z_3 := congrArg Int32.toInt c_45
              have y_0 : (0 : Int32).toInt = 0 := by decide
              have y_32 : (32 : Int32).toInt = 32 := by decide
              have y_1 : (1 : Int32).toInt = 1 := by decide
              have t_x_50 : x_50.toInt = (vy_5 : Int32).toInt + (1 : Int32).toInt := by rw [ex_50]; exact add_toInt (by omega) (by omega)
              omega
            have hr_55 : (r_26 : Int32).toInt = 32 := by
              have z_1 := Int32.lt_iff_toInt_lt.mp (Int32.not_le.mp c_20)
              have z_2 := congrArg Int32.toInt c_29
              have z_3 := congrArg Int32.toInt c_45
              have y_0 : (0 : Int32).toInt = 0 := by decide
              have y_32 : (32 : Int32).toInt = 32 := by decide
              omega
            have hi_56 : (x_49 : Int32).toInt = (vy_5 : Int32).toInt + 1 := by
              have z_1 := Int32.lt_iff_toInt_lt.mp (Int32.not_le.mp c_20)
              have z_2 := congrArg Int32.toInt c_29
              have z_3 := congrArg Int32.toInt c_45
              have y_0 : (0 : Int32).toInt = 0 := by decide
              have y_32 : (32 : Int32).toInt = 32 := by decide
              have y_1 : (1 : Int32).toInt = 1 := by decide
              have t_x_49 : x_49.toInt = (vy_5 : Int32).toInt + (1 : Int32).toInt := by rw [ex_49]; exact add_toInt (by omega) (by omega)
              omega
            have hi_57 : (x_48 : Int32).toInt = (vy_7 : Int32).toInt + 1 := by
              have z_1 := Int32.lt_iff_toInt_lt.mp (Int32.not_le.mp c_20)
              have z_2 := congrArg Int32.toInt c_29
              have z_3 := congrArg Int32.toInt c_45
              have y_0 : (0 : Int32).toInt = 0 := by decide
              have y_32 : (32 : Int32).toInt = 32 := by decide
              have y_1 : (1 : Int32).toInt = 1 := by decide
              have t_x_48 : x_48.toInt = (vy_7 : Int32).toInt + (1 : Int32).toInt := by rw [ex_48]; exact add_toInt (by omega) (by omega)
              omega
            exact ih_9 x_50 x_49 x_48 _ _ _ (by omega) ha_52 (Wa.no pf_12 hr_53 he_27.2 hr_55 pf_46 hi_54 hi_56 hi_57) (hP.sub [0, 1] rfl) (hD.sub [0, 1] rfl rfl) hS (lv_sub hl [0, 1, 2, 3, 4] rfl)
          · skip
            have hz_59 : (r_40 : Int32).toInt = 1 := by
              have z_1 := Int32.lt_iff_toInt_lt.mp (Int32.not_le.mp c_20)
              have z_2 := congrArg Int32.toInt c_29
              have z_3 : ¬ (r_40 : Int32).toInt = (0 : Int32).toInt := fun z => c_45 (Int32.toInt_inj.mp z)
              have y_0 : (0 : Int32).toInt = 0 := by decide
              have y_32 : (32 : Int32).toInt = 32 := by decide
              omega
            obtain pf_58 := hm_43 hz_59
            have pf_58 : TWd (cB (Tf 1) (Tv 0)) (sbS i vy_6.toInt.toNat vy_5.toInt.toNat) rr := pf_58
            refine lv_iload_n hx hb dX10_wordAmong_38 rfl (lv_at hl 2 rfl) ?_
            have hr_60 : 0 ≤ (vy_5 : Int32).toInt ∧ (vy_5 : Int32).toInt < ((lenS.getD i 0 : Nat) : Int) := by
              have z_1 := Int32.lt_iff_toInt_lt.mp (Int32.not_le.mp c_20)
              have z_2 := congrArg Int32.toInt c_29
              have z_3 : ¬ (r_40 : Int32).toInt = (0 : Int32).toInt := fun z => c_45 (Int32.toInt_inj.mp z)
              have y_0 : (0 : Int32).toInt = 0 := by decide
              have y_32 : (32 : Int32).toInt = 32 := by decide
              omega
            have hr_61 : (r_26 : Int32).toInt = 32 := by
              have z_1 := Int32.lt_iff_toInt_lt.mp (Int32.not_le.mp c_20)
              have z_2 := congrArg Int32.toInt c_29
              have z_3 : ¬ (r_40 : Int32).toInt = (0 : Int32).toInt := fun z => c_45 (Int32.toInt_inj.mp z)
              have y_0 : (0 : Int32).toInt = 0 := by decide
              have y_32 : (32 : Int32).toInt = 32 := by decide
              omega
            exact retI (v := vy_7) hx hb hr hlk (rfl) hP hD hS () ⟨_, rfl, (Wa.yes pf_12 hr_60 he_27.2 hr_61 pf_58).symm⟩ [0, 1] rfl rfl dX10_wordAmong_39 (Nat.le_of_ble_eq_true rfl) (Nat.le_of_ble_eq_true rfl) rfl
  have ha_62 : 0 ≤ (0 : Int32).toInt ∧ (0 : Int32).toInt ≤ (0 : Int32).toInt ∧ 0 ≤ (0 : Int32).toInt ∧ (0 : Int32).toInt ≤ (0 : Int32).toInt ∧ (0 : Int32).toInt ≤ ((lenS.getD i 0 : Nat) : Int) := by
    have y_0 : (0 : Int32).toInt = 0 := by decide
    omega
  exact loop_10 _ 0 0 0 _ _ _ (Nat.lt_succ_self _) ha_62 (Wa.nil) hP hD hS hl
set_option maxRecDepth 100000 in
theorem cu_fX10_wordAmong (l : Launch) (D : va_G) (tc : Nat → ClassId) (sk : (Nat → Nat) × (Nat → Nat)) (Ta_0 : Nat) (Ta_1 : Nat) (Tv_0 : Int32) (Tv_1 : Int32) (Tv_2 : Int32) (Tv_3 : Int32) (Tv_4 : Int32) (Tf_1 : Nat → Int32) (i : Nat) (rr : Except Int (Nat × Nat)) (hi : i < 7) (h_tape : 0 ≤ (Tv_0 : Int32).toInt ∧ (Tv_0 : Int32).toInt ≤ 400 ∧ 0 ≤ (Tv_1 : Int32).toInt ∧ (Tv_1 : Int32).toInt ≤ 400 ∧ 0 ≤ (Tv_2 : Int32).toInt ∧ (Tv_2 : Int32).toInt ≤ 400) (h_by : Byt Tf_1) (h_r : TpR Tf_1 Tv_0 rr Tv_1 Tv_2 Tv_3 Tv_4) : Ct l yX10_wordAmong cX10_wordAmong 5 (some .int) { frames := 5, cells := 0, slots := 0, locals := 109 } D tc sk [.ref Ta_0, .ref (sk.1 i)] [(Ta_0, .inr (10, [.ref Ta_1, .int Tv_0, .int Tv_1, .int Tv_2, .int Tv_3, .int Tv_4])), (Ta_1, .inl (tc 0, 400, .inl Tf_1))] (fun (v : Option Value) (_ : Unit) => ∃ r : Int32, v = some (.int r) ∧ (r.toInt = waR (cB Tf_1 Tv_0) (wL i) 0 rr)) (fun (_ : Unit) => [(Ta_0, .inr (10, [.ref Ta_1, .int Tv_0, .int Tv_1, .int Tv_2, .int Tv_3, .int Tv_4])), (Ta_1, .inl (tc 0, 400, .inl Tf_1))]) 0 0 :=
  ct_fX10_wordAmong l D tc sk (fun k => ([Ta_0, Ta_1] : List (Nat)).getD k 0) (fun k => ([Tv_0, Tv_1, Tv_2, Tv_3, Tv_4] : List (Int32)).getD k 0) (fun k => ([(fun _ => 0), Tf_1] : List (Nat → Int32)).getD k (fun _ => 0)) i rr hi h_tape h_by h_r
