set_option maxRecDepth 16384
def dX12_isOf (x1 : Int32) (x2 : Int32) : Int32 := (if ((x1 >>> (x2 &&& 31)) &&& (1 : Int32)) = (1 : Int32) then (1 : Int32) else (0 : Int32))
set_option maxHeartbeats 4000000 in
set_option maxRecDepth 100000 in
theorem ct_dX12_isOf (l : Launch) (D : va_G) (tc : Nat → ClassId) (sk : (Nat → Nat) × (Nat → Nat)) (x1 : Int32) (x2 : Int32)  : Ct l yX12_isOf cX12_isOf 2 (some .boolean) { frames := 0, cells := 0, slots := 0, locals := 0 } D tc sk [.int x1, .int x2] [] (fun (v : Option Value) (_ : Unit) => ∃ r : Int32, v = some (.int r) ∧ (((r.toInt = 0 ∨ r.toInt = 1)) ∧ r = (dX12_isOf x1 x2))) (fun (_ : Unit) => []) 0 0 := by
  refine Ct.start (by decide) (Nat.le_of_ble_eq_true rfl) (fun p e s m below meth c A ls hx hb hr hlk hin hml hown hts hK hX hP hD hA hl hS => ?_)
  have hl : lv_has ls 2 [(0, .int x1), (1, .int x2)] := hl
  refine lv_iload_n hx hb dX12_isOf_0 rfl (lv_at hl 0 rfl) ?_
  refine lv_iload_n hx hb dX12_isOf_1 rfl (lv_at hl 1 rfl) ?_
  refine lv_ishr hx hb dX12_isOf_2 ?_
  refine lv_topi (fun x_1 ex_1 => ?_)
  refine lv_iconst (v := 1) hx hb dX12_isOf_3 (by decide) ?_
  refine lv_iand hx hb dX12_isOf_4 ?_
  refine lv_topi (fun x_2 ex_2 => ?_)
  refine lv_iconst (v := 1) hx hb dX12_isOf_5 (by decide) ?_
  refine lv_icmp_ne (tgt := 13) hx hb dX12_isOf_6 (by decide) (fun c_3 => ?_) (fun c_3 => ?_)
  · skip
    refine lv_iconst (v := 0) hx hb dX12_isOf_13 (by decide) ?_
    have hp_4 : ((0 : Int32).toInt = 0 ∨ (0 : Int32).toInt = 1) := by
      have z_1 : ¬ (x_2 : Int32).toInt = (1 : Int32).toInt := fun z => c_3 (Int32.toInt_inj.mp z)
      have y_1 : (1 : Int32).toInt = 1 := by decide
      have y_0 : (0 : Int32).toInt = 0 := by decide
      have yr : (0 : Int32).toInt = 0 := by decide
      omega
    have hF_5 : (0 : Int32) = (dX12_isOf x1 x2) := by
      clear hP hD hS hl
      replace ex_1 := ex_1.symm; subst ex_1
      replace ex_2 := ex_2.symm; subst ex_2
      unfold dX12_isOf
      rw [if_neg c_3]
      try rfl
    exact retI (v := 0) hx hb hr hlk (rfl) hP hD hS () ⟨_, rfl, ⟨hp_4, hF_5⟩⟩ [] rfl rfl dX12_isOf_14 (Nat.le_of_ble_eq_true rfl) (Nat.le_of_ble_eq_true rfl) rfl
  · skip
    refine lv_iconst (v := 1) hx hb dX12_isOf_9 (by decide) ?_
    refine lv_goto (tgt := 14) hx hb dX12_isOf_10 (by decide) ?_
    have hp_6 : ((1 : Int32).toInt = 0 ∨ (1 : Int32).toInt = 1) := by
      have z_1 := congrArg Int32.toInt c_3
      have y_1 : (1 : Int32).toInt = 1 := by decide
      omega
    have hF_7 : (1 : Int32) = (dX12_isOf x1 x2) := by
      clear hP hD hS hl
      replace ex_1 := ex_1.symm; subst ex_1
      replace ex_2 := ex_2.symm; subst ex_2
      unfold dX12_isOf
      rw [if_pos c_3]
      try rfl
    exact retI (v := 1) hx hb hr hlk (rfl) hP hD hS () ⟨_, rfl, ⟨hp_6, hF_7⟩⟩ [] rfl rfl dX12_isOf_14 (Nat.le_of_ble_eq_true rfl) (Nat.le_of_ble_eq_true rfl) rfl
def dX12_isBook (Mf_10 : Nat → Int32) : Int32 := (if (Mf_10 ((0 : Int32)).toNatClampNeg) = (1 : Int32) then (1 : Int32) else (0 : Int32))
set_option maxHeartbeats 4000000 in
set_option maxRecDepth 100000 in
theorem ct_dX12_isBook {T : Nat → Option Int32} (l : Launch) (D : va_G) (tc : Nat → ClassId) (sk : (Nat → Nat) × (Nat → Nat)) (Ma : Nat → Nat) (Mv : Nat → Int32) (Mf : Nat → Nat → Int32) (Mj : Nat → Int64) (h_said : SaidB T (Mf 10)) : Ct l yX12_isBook cX12_isBook 1 (some .boolean) { frames := 0, cells := 0, slots := 0, locals := 0 } D tc sk [.ref (Ma 0)] [((Ma 0), .inr (12, [.ref (Ma 1), .int (Mv 0), .int (Mv 1), .ref (Ma 2), .ref (Ma 3), .ref (Ma 4), .ref (Ma 5), .ref (Ma 6), .int (Mv 2), .int (Mv 3), .int (Mv 4), .int (Mv 5), .int (Mv 6), .int (Mv 7), .int (Mv 8), .ref (Ma 7), .int (Mv 9), .ref (Ma 8), .int (Mv 10), .ref (Ma 9), .ref (Ma 10), .int (Mv 11), .int (Mv 12), .int (Mv 13), .ref (Ma 11), .int (Mv 14), .ref (Ma 12), .ref (Ma 13), .ref (Ma 14), .ref (Ma 15), .ref (Ma 16), .long (Mj 0), .ref (Ma 17), .ref (Ma 18), .ref (Ma 19), .ref (Ma 20)])), ((Ma 10), .inl (tc 0, 126, .inl (Mf 10)))] (fun (v : Option Value) (_ : Unit) => ∃ r : Int32, v = some (.int r) ∧ (((r.toInt = 0 ∨ (r.toInt = 1 ∧ 1 ≤ ((Mf 10) 2).toInt ∧ ((Mf 10) 2).toInt ≤ 10))) ∧ r = (dX12_isBook (Mf 10)))) (fun (_ : Unit) => [((Ma 0), .inr (12, [.ref (Ma 1), .int (Mv 0), .int (Mv 1), .ref (Ma 2), .ref (Ma 3), .ref (Ma 4), .ref (Ma 5), .ref (Ma 6), .int (Mv 2), .int (Mv 3), .int (Mv 4), .int (Mv 5), .int (Mv 6), .int (Mv 7), .int (Mv 8), .ref (Ma 7), .int (Mv 9), .ref (Ma 8), .int (Mv 10), .ref (Ma 9), .ref (Ma 10), .int (Mv 11), .int (Mv 12), .int (Mv 13), .ref (Ma 11), .int (Mv 14), .ref (Ma 12), .ref (Ma 13), .ref (Ma 14), .ref (Ma 15), .ref (Ma 16), .long (Mj 0), .ref (Ma 17), .ref (Ma 18), .ref (Ma 19), .ref (Ma 20)])), ((Ma 10), .inl (tc 0, 126, .inl (Mf 10)))]) 0 0 := by
  refine Ct.start (by decide) (Nat.le_of_ble_eq_true rfl) (fun p e s m below meth c A ls hx hb hr hlk hin hml hown hts hK hX hP hD hA hl hS => ?_)
  have hl : lv_has ls 1 [(0, .ref (Ma 0))] := hl
  have ar_h_said := SaidB.ar h_said
  refine lv_aload_n hx hb dX12_isBook_0 rfl (lv_at hl 0 rfl) ?_
  refine gf_X12_39 hx hb hts hown hK hP 0 rfl rfl dX12_isBook_1 ?_
  refine lv_iconst (v := 0) hx hb dX12_isBook_4 (by decide) ?_
  refine va_iald hx hb hK hP 1 0 rfl rfl (vin_dec (by decide +kernel)) dX12_isBook_5 ?_
  refine lv_topi (fun x_1 ex_1 => ?_)
  have lx_1 : x_1.toInt = ((Mf 10) 0).toInt := congrArg Int32.toInt ex_1
  refine lv_iconst (v := 1) hx hb dX12_isBook_6 (by decide) ?_
  refine lv_icmp_ne (tgt := 14) hx hb dX12_isBook_7 (by decide) (fun c_2 => ?_) (fun c_2 => ?_)
  · skip
    refine lv_iconst (v := 0) hx hb dX12_isBook_14 (by decide) ?_
    have hp_3 : ((0 : Int32).toInt = 0 ∨ ((0 : Int32).toInt = 1 ∧ 1 ≤ ((Mf 10) 2).toInt ∧ ((Mf 10) 2).toInt ≤ 10)) := by
      have z_1 : ¬ (x_1 : Int32).toInt = (1 : Int32).toInt := fun z => c_2 (Int32.toInt_inj.mp z)
      have y_1 : (1 : Int32).toInt = 1 := by decide
      have y_0 : (0 : Int32).toInt = 0 := by decide
      have yr : (0 : Int32).toInt = 0 := by decide
      omega
    have hF_4 : (0 : Int32) = (dX12_isBook (Mf 10)) := by
      clear hP hD hS hl
      replace ex_1 := ex_1.symm; subst ex_1
      unfold dX12_isBook
      rw [if_neg c_2]
      try rfl
    exact retI (v := 0) hx hb hr hlk (rfl) hP hD hS () ⟨_, rfl, ⟨hp_3, hF_4⟩⟩ [0, 1] rfl rfl dX12_isBook_15 (Nat.le_of_ble_eq_true rfl) (Nat.le_of_ble_eq_true rfl) rfl
  · skip
    refine lv_iconst (v := 1) hx hb dX12_isBook_10 (by decide) ?_
    refine lv_goto (tgt := 15) hx hb dX12_isBook_11 (by decide) ?_
    have hp_5 : ((1 : Int32).toInt = 0 ∨ ((1 : Int32).toInt = 1 ∧ 1 ≤ ((Mf 10) 2).toInt ∧ ((Mf 10) 2).toInt ≤ 10)) := by
      have z_1 := congrArg Int32.toInt c_2
      have y_1 : (1 : Int32).toInt = 1 := by decide
      omega
    have hF_6 : (1 : Int32) = (dX12_isBook (Mf 10)) := by
      clear hP hD hS hl
      replace ex_1 := ex_1.symm; subst ex_1
      unfold dX12_isBook
      rw [if_pos c_2]
      try rfl
    exact retI (v := 1) hx hb hr hlk (rfl) hP hD hS () ⟨_, rfl, ⟨hp_5, hF_6⟩⟩ [0, 1] rfl rfl dX12_isBook_15 (Nat.le_of_ble_eq_true rfl) (Nat.le_of_ble_eq_true rfl) rfl
set_option maxRecDepth 100000 in
theorem cu_dX12_isBook {T : Nat → Option Int32} (l : Launch) (D : va_G) (tc : Nat → ClassId) (sk : (Nat → Nat) × (Nat → Nat)) (Ma_0 : Nat) (Ma_1 : Nat) (Ma_2 : Nat) (Ma_3 : Nat) (Ma_4 : Nat) (Ma_5 : Nat) (Ma_6 : Nat) (Ma_7 : Nat) (Ma_8 : Nat) (Ma_9 : Nat) (Ma_10 : Nat) (Ma_11 : Nat) (Ma_12 : Nat) (Ma_13 : Nat) (Ma_14 : Nat) (Ma_15 : Nat) (Ma_16 : Nat) (Ma_17 : Nat) (Ma_18 : Nat) (Ma_19 : Nat) (Ma_20 : Nat) (Mv_0 : Int32) (Mv_1 : Int32) (Mv_2 : Int32) (Mv_3 : Int32) (Mv_4 : Int32) (Mv_5 : Int32) (Mv_6 : Int32) (Mv_7 : Int32) (Mv_8 : Int32) (Mv_9 : Int32) (Mv_10 : Int32) (Mv_11 : Int32) (Mv_12 : Int32) (Mv_13 : Int32) (Mv_14 : Int32) (Mf_10 : Nat → Int32) (Mj_0 : Int64) (h_said : SaidB T Mf_10) : Ct l yX12_isBook cX12_isBook 1 (some .boolean) { frames := 0, cells := 0, slots := 0, locals := 0 } D tc sk [.ref Ma_0] [(Ma_0, .inr (12, [.ref Ma_1, .int Mv_0, .int Mv_1, .ref Ma_2, .ref Ma_3, .ref Ma_4, .ref Ma_5, .ref Ma_6, .int Mv_2, .int Mv_3, .int Mv_4, .int Mv_5, .int Mv_6, .int Mv_7, .int Mv_8, .ref Ma_7, .int Mv_9, .ref Ma_8, .int Mv_10, .ref Ma_9, .ref Ma_10, .int Mv_11, .int Mv_12, .int Mv_13, .ref Ma_11, .int Mv_14, .ref Ma_12, .ref Ma_13, .ref Ma_14, .ref Ma_15, .ref Ma_16, .long Mj_0, .ref Ma_17, .ref Ma_18, .ref Ma_19, .ref Ma_20])), (Ma_10, .inl (tc 0, 126, .inl Mf_10))] (fun (v : Option Value) (_ : Unit) => ∃ r : Int32, v = some (.int r) ∧ (((r.toInt = 0 ∨ (r.toInt = 1 ∧ 1 ≤ (Mf_10 2).toInt ∧ (Mf_10 2).toInt ≤ 10))) ∧ r = (dX12_isBook Mf_10))) (fun (_ : Unit) => [(Ma_0, .inr (12, [.ref Ma_1, .int Mv_0, .int Mv_1, .ref Ma_2, .ref Ma_3, .ref Ma_4, .ref Ma_5, .ref Ma_6, .int Mv_2, .int Mv_3, .int Mv_4, .int Mv_5, .int Mv_6, .int Mv_7, .int Mv_8, .ref Ma_7, .int Mv_9, .ref Ma_8, .int Mv_10, .ref Ma_9, .ref Ma_10, .int Mv_11, .int Mv_12, .int Mv_13, .ref Ma_11, .int Mv_14, .ref Ma_12, .ref Ma_13, .ref Ma_14, .ref Ma_15, .ref Ma_16, .long Mj_0, .ref Ma_17, .ref Ma_18, .ref Ma_19, .ref Ma_20])), (Ma_10, .inl (tc 0, 126, .inl Mf_10))]) 0 0 :=
  ct_dX12_isBook l D tc sk (fun k => ([Ma_0, Ma_1, Ma_2, Ma_3, Ma_4, Ma_5, Ma_6, Ma_7, Ma_8, Ma_9, Ma_10, Ma_11, Ma_12, Ma_13, Ma_14, Ma_15, Ma_16, Ma_17, Ma_18, Ma_19, Ma_20] : List (Nat)).getD k 0) (fun k => ([Mv_0, Mv_1, Mv_2, Mv_3, Mv_4, Mv_5, Mv_6, Mv_7, Mv_8, Mv_9, Mv_10, Mv_11, Mv_12, Mv_13, Mv_14] : List (Int32)).getD k 0) (fun k => ([(fun _ => 0), (fun _ => 0), (fun _ => 0), (fun _ => 0), (fun _ => 0), (fun _ => 0), (fun _ => 0), (fun _ => 0), (fun _ => 0), (fun _ => 0), Mf_10] : List (Nat → Int32)).getD k (fun _ => 0)) (fun k => ([Mj_0] : List (Int64)).getD k 0) h_said
def dX12_temperOf (Mf_10 : Nat → Int32) (x1 : Int32) : Int32 := (Mf_10 (((12 : Int32) + ((4 : Int32) * x1))).toNatClampNeg)
set_option maxHeartbeats 4000000 in
set_option maxRecDepth 100000 in
theorem ct_dX12_temperOf (l : Launch) (D : va_G) (tc : Nat → ClassId) (sk : (Nat → Nat) × (Nat → Nat)) (Ma : Nat → Nat) (Mv : Nat → Int32) (Mf : Nat → Nat → Int32) (Mj : Nat → Int64) (x1 : Int32) (h_b : 0 ≤ x1.toInt ∧ x1.toInt < 6) : Ct l yX12_temperOf cX12_temperOf 2 (some .int) { frames := 0, cells := 0, slots := 0, locals := 0 } D tc sk [.ref (Ma 0), .int x1] [((Ma 0), .inr (12, [.ref (Ma 1), .int (Mv 0), .int (Mv 1), .ref (Ma 2), .ref (Ma 3), .ref (Ma 4), .ref (Ma 5), .ref (Ma 6), .int (Mv 2), .int (Mv 3), .int (Mv 4), .int (Mv 5), .int (Mv 6), .int (Mv 7), .int (Mv 8), .ref (Ma 7), .int (Mv 9), .ref (Ma 8), .int (Mv 10), .ref (Ma 9), .ref (Ma 10), .int (Mv 11), .int (Mv 12), .int (Mv 13), .ref (Ma 11), .int (Mv 14), .ref (Ma 12), .ref (Ma 13), .ref (Ma 14), .ref (Ma 15), .ref (Ma 16), .long (Mj 0), .ref (Ma 17), .ref (Ma 18), .ref (Ma 19), .ref (Ma 20)])), ((Ma 10), .inl (tc 0, 126, .inl (Mf 10)))] (fun (v : Option Value) (_ : Unit) => ∃ r : Int32, v = some (.int r) ∧ ((True) ∧ r = (dX12_temperOf (Mf 10) x1))) (fun (_ : Unit) => [((Ma 0), .inr (12, [.ref (Ma 1), .int (Mv 0), .int (Mv 1), .ref (Ma 2), .ref (Ma 3), .ref (Ma 4), .ref (Ma 5), .ref (Ma 6), .int (Mv 2), .int (Mv 3), .int (Mv 4), .int (Mv 5), .int (Mv 6), .int (Mv 7), .int (Mv 8), .ref (Ma 7), .int (Mv 9), .ref (Ma 8), .int (Mv 10), .ref (Ma 9), .ref (Ma 10), .int (Mv 11), .int (Mv 12), .int (Mv 13), .ref (Ma 11), .int (Mv 14), .ref (Ma 12), .ref (Ma 13), .ref (Ma 14), .ref (Ma 15), .ref (Ma 16), .long (Mj 0), .ref (Ma 17), .ref (Ma 18), .ref (Ma 19), .ref (Ma 20)])), ((Ma 10), .inl (tc 0, 126, .inl (Mf 10)))]) 0 0 := by
  refine Ct.start (by decide) (Nat.le_of_ble_eq_true rfl) (fun p e s m below meth c A ls hx hb hr hlk hin hml hown hts hK hX hP hD hA hl hS => ?_)
  have hl : lv_has ls 2 [(0, .ref (Ma 0)), (1, .int x1)] := hl
  refine lv_aload_n hx hb dX12_temperOf_0 rfl (lv_at hl 0 rfl) ?_
  refine gf_X12_39 hx hb hts hown hK hP 0 rfl rfl dX12_temperOf_1 ?_
  refine lv_bipush (v := 12) hx hb dX12_temperOf_4 (by decide) ?_
  refine lv_iconst (v := 4) hx hb dX12_temperOf_6 (by decide) ?_
  refine lv_iload_n hx hb dX12_temperOf_7 rfl (lv_at hl 1 rfl) ?_
  refine lv_imul hx hb dX12_temperOf_8 ?_
  refine lv_topi (fun x_1 ex_1 => ?_)
  refine lv_iadd hx hb dX12_temperOf_9 ?_
  refine lv_topi (fun x_2 ex_2 => ?_)
  have hi_3 : vp_in x_2 126 := by
    have y_4 : (4 : Int32).toInt = 4 := by decide
    have y_12 : (12 : Int32).toInt = 12 := by decide
    have t_x_1 : x_1.toInt = (4 : Int32).toInt * (x1 : Int32).toInt := by rw [ex_1]; exact mul_toInt (by first | omega | (rw [y_4]; omega)) (by first | omega | (rw [y_4]; omega))
    rw [y_4] at t_x_1
    have t_x_2 : x_2.toInt = (12 : Int32).toInt + (x_1 : Int32).toInt := by rw [ex_2]; exact add_toInt (by omega) (by omega)
    refine vp_in_iff.mpr ⟨?_, ?_⟩ <;> omega
  refine va_iald hx hb hK hP 1 0 rfl rfl hi_3 dX12_temperOf_10 ?_
  refine lv_topi (fun x_4 ex_4 => ?_)
  have hF_5 : x_4 = (dX12_temperOf (Mf 10) x1) := by
    clear hP hD hS hl
    replace ex_1 := ex_1.symm; subst ex_1
    replace ex_2 := ex_2.symm; subst ex_2
    replace ex_4 := ex_4.symm; subst ex_4
    unfold dX12_temperOf
    try rfl
  exact retI (v := x_4) hx hb hr hlk (rfl) hP hD hS () ⟨_, rfl, ⟨trivial, hF_5⟩⟩ [0, 1] rfl rfl dX12_temperOf_11 (Nat.le_of_ble_eq_true rfl) (Nat.le_of_ble_eq_true rfl) rfl
set_option maxRecDepth 100000 in
theorem cu_dX12_temperOf (l : Launch) (D : va_G) (tc : Nat → ClassId) (sk : (Nat → Nat) × (Nat → Nat)) (Ma_0 : Nat) (Ma_1 : Nat) (Ma_2 : Nat) (Ma_3 : Nat) (Ma_4 : Nat) (Ma_5 : Nat) (Ma_6 : Nat) (Ma_7 : Nat) (Ma_8 : Nat) (Ma_9 : Nat) (Ma_10 : Nat) (Ma_11 : Nat) (Ma_12 : Nat) (Ma_13 : Nat) (Ma_14 : Nat) (Ma_15 : Nat) (Ma_16 : Nat) (Ma_17 : Nat) (Ma_18 : Nat) (Ma_19 : Nat) (Ma_20 : Nat) (Mv_0 : Int32) (Mv_1 : Int32) (Mv_2 : Int32) (Mv_3 : Int32) (Mv_4 : Int32) (Mv_5 : Int32) (Mv_6 : Int32) (Mv_7 : Int32) (Mv_8 : Int32) (Mv_9 : Int32) (Mv_10 : Int32) (Mv_11 : Int32) (Mv_12 : Int32) (Mv_13 : Int32) (Mv_14 : Int32) (Mf_10 : Nat → Int32) (Mj_0 : Int64) (x1 : Int32) (h_b : 0 ≤ x1.toInt ∧ x1.toInt < 6) : Ct l yX12_temperOf cX12_temperOf 2 (some .int) { frames := 0, cells := 0, slots := 0, locals := 0 } D tc sk [.ref Ma_0, .int x1] [(Ma_0, .inr (12, [.ref Ma_1, .int Mv_0, .int Mv_1, .ref Ma_2, .ref Ma_3, .ref Ma_4, .ref Ma_5, .ref Ma_6, .int Mv_2, .int Mv_3, .int Mv_4, .int Mv_5, .int Mv_6, .int Mv_7, .int Mv_8, .ref Ma_7, .int Mv_9, .ref Ma_8, .int Mv_10, .ref Ma_9, .ref Ma_10, .int Mv_11, .int Mv_12, .int Mv_13, .ref Ma_11, .int Mv_14, .ref Ma_12, .ref Ma_13, .ref Ma_14, .ref Ma_15, .ref Ma_16, .long Mj_0, .ref Ma_17, .ref Ma_18, .ref Ma_19, .ref Ma_20])), (Ma_10, .inl (tc 0, 126, .inl Mf_10))] (fun (v : Option Value) (_ : Unit) => ∃ r : Int32, v = some (.int r) ∧ ((True) ∧ r = (dX12_temperOf Mf_10 x1))) (fun (_ : Unit) => [(Ma_0, .inr (12, [.ref Ma_1, .int Mv_0, .int Mv_1, .ref Ma_2, .ref Ma_3, .ref Ma_4, .ref Ma_5, .ref Ma_6, .int Mv_2, .int Mv_3, .int Mv_4, .int Mv_5, .int Mv_6, .int Mv_7, .int Mv_8, .ref Ma_7, .int Mv_9, .ref Ma_8, .int Mv_10, .ref Ma_9, .ref Ma_10, .int Mv_11, .int Mv_12, .int Mv_13, .ref Ma_11, .int Mv_14, .ref Ma_12, .ref Ma_13, .ref Ma_14, .ref Ma_15, .ref Ma_16, .long Mj_0, .ref Ma_17, .ref Ma_18, .ref Ma_19, .ref Ma_20])), (Ma_10, .inl (tc 0, 126, .inl Mf_10))]) 0 0 :=
  ct_dX12_temperOf l D tc sk (fun k => ([Ma_0, Ma_1, Ma_2, Ma_3, Ma_4, Ma_5, Ma_6, Ma_7, Ma_8, Ma_9, Ma_10, Ma_11, Ma_12, Ma_13, Ma_14, Ma_15, Ma_16, Ma_17, Ma_18, Ma_19, Ma_20] : List (Nat)).getD k 0) (fun k => ([Mv_0, Mv_1, Mv_2, Mv_3, Mv_4, Mv_5, Mv_6, Mv_7, Mv_8, Mv_9, Mv_10, Mv_11, Mv_12, Mv_13, Mv_14] : List (Int32)).getD k 0) (fun k => ([(fun _ => 0), (fun _ => 0), (fun _ => 0), (fun _ => 0), (fun _ => 0), (fun _ => 0), (fun _ => 0), (fun _ => 0), (fun _ => 0), (fun _ => 0), Mf_10] : List (Nat → Int32)).getD k (fun _ => 0)) (fun k => ([Mj_0] : List (Int64)).getD k 0) x1 h_b
def dX12_boughtBy (Mf_10 : Nat → Int32) (x1 : Int32) : Int32 := (Mf_10 ((((12 : Int32) + ((4 : Int32) * x1)) + (1 : Int32))).toNatClampNeg)
set_option maxHeartbeats 4000000 in
set_option maxRecDepth 100000 in
theorem ct_dX12_boughtBy (l : Launch) (D : va_G) (tc : Nat → ClassId) (sk : (Nat → Nat) × (Nat → Nat)) (Ma : Nat → Nat) (Mv : Nat → Int32) (Mf : Nat → Nat → Int32) (Mj : Nat → Int64) (x1 : Int32) (h_b : 0 ≤ x1.toInt ∧ x1.toInt < 6) : Ct l yX12_boughtBy cX12_boughtBy 2 (some .int) { frames := 0, cells := 0, slots := 0, locals := 0 } D tc sk [.ref (Ma 0), .int x1] [((Ma 0), .inr (12, [.ref (Ma 1), .int (Mv 0), .int (Mv 1), .ref (Ma 2), .ref (Ma 3), .ref (Ma 4), .ref (Ma 5), .ref (Ma 6), .int (Mv 2), .int (Mv 3), .int (Mv 4), .int (Mv 5), .int (Mv 6), .int (Mv 7), .int (Mv 8), .ref (Ma 7), .int (Mv 9), .ref (Ma 8), .int (Mv 10), .ref (Ma 9), .ref (Ma 10), .int (Mv 11), .int (Mv 12), .int (Mv 13), .ref (Ma 11), .int (Mv 14), .ref (Ma 12), .ref (Ma 13), .ref (Ma 14), .ref (Ma 15), .ref (Ma 16), .long (Mj 0), .ref (Ma 17), .ref (Ma 18), .ref (Ma 19), .ref (Ma 20)])), ((Ma 10), .inl (tc 0, 126, .inl (Mf 10)))] (fun (v : Option Value) (_ : Unit) => ∃ r : Int32, v = some (.int r) ∧ ((True) ∧ r = (dX12_boughtBy (Mf 10) x1))) (fun (_ : Unit) => [((Ma 0), .inr (12, [.ref (Ma 1), .int (Mv 0), .int (Mv 1), .ref (Ma 2), .ref (Ma 3), .ref (Ma 4), .ref (Ma 5), .ref (Ma 6), .int (Mv 2), .int (Mv 3), .int (Mv 4), .int (Mv 5), .int (Mv 6), .int (Mv 7), .int (Mv 8), .ref (Ma 7), .int (Mv 9), .ref (Ma 8), .int (Mv 10), .ref (Ma 9), .ref (Ma 10), .int (Mv 11), .int (Mv 12), .int (Mv 13), .ref (Ma 11), .int (Mv 14), .ref (Ma 12), .ref (Ma 13), .ref (Ma 14), .ref (Ma 15), .ref (Ma 16), .long (Mj 0), .ref (Ma 17), .ref (Ma 18), .ref (Ma 19), .ref (Ma 20)])), ((Ma 10), .inl (tc 0, 126, .inl (Mf 10)))]) 0 0 := by
  refine Ct.start (by decide) (Nat.le_of_ble_eq_true rfl) (fun p e s m below meth c A ls hx hb hr hlk hin hml hown hts hK hX hP hD hA hl hS => ?_)
  have hl : lv_has ls 2 [(0, .ref (Ma 0)), (1, .int x1)] := hl
  refine lv_aload_n hx hb dX12_boughtBy_0 rfl (lv_at hl 0 rfl) ?_
  refine gf_X12_39 hx hb hts hown hK hP 0 rfl rfl dX12_boughtBy_1 ?_
  refine lv_bipush (v := 12) hx hb dX12_boughtBy_4 (by decide) ?_
  refine lv_iconst (v := 4) hx hb dX12_boughtBy_6 (by decide) ?_
  refine lv_iload_n hx hb dX12_boughtBy_7 rfl (lv_at hl 1 rfl) ?_
  refine lv_imul hx hb dX12_boughtBy_8 ?_
  refine lv_topi (fun x_1 ex_1 => ?_)
  refine lv_iadd hx hb dX12_boughtBy_9 ?_
  refine lv_topi (fun x_2 ex_2 => ?_)
  refine lv_iconst (v := 1) hx hb dX12_boughtBy_10 (by decide) ?_
  refine lv_iadd hx hb dX12_boughtBy_11 ?_
  refine lv_topi (fun x_3 ex_3 => ?_)
  have hi_4 : vp_in x_3 126 := by
    have y_1 : (1 : Int32).toInt = 1 := by decide
    have y_4 : (4 : Int32).toInt = 4 := by decide
    have y_12 : (12 : Int32).toInt = 12 := by decide
    have t_x_1 : x_1.toInt = (4 : Int32).toInt * (x1 : Int32).toInt := by rw [ex_1]; exact mul_toInt (by first | omega | (rw [y_4]; omega)) (by first | omega | (rw [y_4]; omega))
    rw [y_4] at t_x_1
    have t_x_2 : x_2.toInt = (12 : Int32).toInt + (x_1 : Int32).toInt := by rw [ex_2]; exact add_toInt (by omega) (by omega)
    have t_x_3 : x_3.toInt = (x_2 : Int32).toInt + (1 : Int32).toInt := by rw [ex_3]; exact add_toInt (by omega) (by omega)
    refine vp_in_iff.mpr ⟨?_, ?_⟩ <;> omega
  refine va_iald hx hb hK hP 1 0 rfl rfl hi_4 dX12_boughtBy_12 ?_
  refine lv_topi (fun x_5 ex_5 => ?_)
  have hF_6 : x_5 = (dX12_boughtBy (Mf 10) x1) := by
    clear hP hD hS hl
    replace ex_1 := ex_1.symm; subst ex_1
    replace ex_2 := ex_2.symm; subst ex_2
    replace ex_3 := ex_3.symm; subst ex_3
    replace ex_5 := ex_5.symm; subst ex_5
    unfold dX12_boughtBy
    try rfl
  exact retI (v := x_5) hx hb hr hlk (rfl) hP hD hS () ⟨_, rfl, ⟨trivial, hF_6⟩⟩ [0, 1] rfl rfl dX12_boughtBy_13 (Nat.le_of_ble_eq_true rfl) (Nat.le_of_ble_eq_true rfl) rfl
set_option maxRecDepth 100000 in
theorem cu_dX12_boughtBy (l : Launch) (D : va_G) (tc : Nat → ClassId) (sk : (Nat → Nat) × (Nat → Nat)) (Ma_0 : Nat) (Ma_1 : Nat) (Ma_2 : Nat) (Ma_3 : Nat) (Ma_4 : Nat) (Ma_5 : Nat) (Ma_6 : Nat) (Ma_7 : Nat) (Ma_8 : Nat) (Ma_9 : Nat) (Ma_10 : Nat) (Ma_11 : Nat) (Ma_12 : Nat) (Ma_13 : Nat) (Ma_14 : Nat) (Ma_15 : Nat) (Ma_16 : Nat) (Ma_17 : Nat) (Ma_18 : Nat) (Ma_19 : Nat) (Ma_20 : Nat) (Mv_0 : Int32) (Mv_1 : Int32) (Mv_2 : Int32) (Mv_3 : Int32) (Mv_4 : Int32) (Mv_5 : Int32) (Mv_6 : Int32) (Mv_7 : Int32) (Mv_8 : Int32) (Mv_9 : Int32) (Mv_10 : Int32) (Mv_11 : Int32) (Mv_12 : Int32) (Mv_13 : Int32) (Mv_14 : Int32) (Mf_10 : Nat → Int32) (Mj_0 : Int64) (x1 : Int32) (h_b : 0 ≤ x1.toInt ∧ x1.toInt < 6) : Ct l yX12_boughtBy cX12_boughtBy 2 (some .int) { frames := 0, cells := 0, slots := 0, locals := 0 } D tc sk [.ref Ma_0, .int x1] [(Ma_0, .inr (12, [.ref Ma_1, .int Mv_0, .int Mv_1, .ref Ma_2, .ref Ma_3, .ref Ma_4, .ref Ma_5, .ref Ma_6, .int Mv_2, .int Mv_3, .int Mv_4, .int Mv_5, .int Mv_6, .int Mv_7, .int Mv_8, .ref Ma_7, .int Mv_9, .ref Ma_8, .int Mv_10, .ref Ma_9, .ref Ma_10, .int Mv_11, .int Mv_12, .int Mv_13, .ref Ma_11, .int Mv_14, .ref Ma_12, .ref Ma_13, .ref Ma_14, .ref Ma_15, .ref Ma_16, .long Mj_0, .ref Ma_17, .ref Ma_18, .ref Ma_19, .ref Ma_20])), (Ma_10, .inl (tc 0, 126, .inl Mf_10))] (fun (v : Option Value) (_ : Unit) => ∃ r : Int32, v = some (.int r) ∧ ((True) ∧ r = (dX12_boughtBy Mf_10 x1))) (fun (_ : Unit) => [(Ma_0, .inr (12, [.ref Ma_1, .int Mv_0, .int Mv_1, .ref Ma_2, .ref Ma_3, .ref Ma_4, .ref Ma_5, .ref Ma_6, .int Mv_2, .int Mv_3, .int Mv_4, .int Mv_5, .int Mv_6, .int Mv_7, .int Mv_8, .ref Ma_7, .int Mv_9, .ref Ma_8, .int Mv_10, .ref Ma_9, .ref Ma_10, .int Mv_11, .int Mv_12, .int Mv_13, .ref Ma_11, .int Mv_14, .ref Ma_12, .ref Ma_13, .ref Ma_14, .ref Ma_15, .ref Ma_16, .long Mj_0, .ref Ma_17, .ref Ma_18, .ref Ma_19, .ref Ma_20])), (Ma_10, .inl (tc 0, 126, .inl Mf_10))]) 0 0 :=
  ct_dX12_boughtBy l D tc sk (fun k => ([Ma_0, Ma_1, Ma_2, Ma_3, Ma_4, Ma_5, Ma_6, Ma_7, Ma_8, Ma_9, Ma_10, Ma_11, Ma_12, Ma_13, Ma_14, Ma_15, Ma_16, Ma_17, Ma_18, Ma_19, Ma_20] : List (Nat)).getD k 0) (fun k => ([Mv_0, Mv_1, Mv_2, Mv_3, Mv_4, Mv_5, Mv_6, Mv_7, Mv_8, Mv_9, Mv_10, Mv_11, Mv_12, Mv_13, Mv_14] : List (Int32)).getD k 0) (fun k => ([(fun _ => 0), (fun _ => 0), (fun _ => 0), (fun _ => 0), (fun _ => 0), (fun _ => 0), (fun _ => 0), (fun _ => 0), (fun _ => 0), (fun _ => 0), Mf_10] : List (Nat → Int32)).getD k (fun _ => 0)) (fun k => ([Mj_0] : List (Int64)).getD k 0) x1 h_b
def dX12_metOf (Mf_10 : Nat → Int32) (x1 : Int32) : Int32 := (Mf_10 ((((12 : Int32) + ((4 : Int32) * x1)) + (2 : Int32))).toNatClampNeg)
set_option maxHeartbeats 4000000 in
set_option maxRecDepth 100000 in
theorem ct_dX12_metOf (l : Launch) (D : va_G) (tc : Nat → ClassId) (sk : (Nat → Nat) × (Nat → Nat)) (Ma : Nat → Nat) (Mv : Nat → Int32) (Mf : Nat → Nat → Int32) (Mj : Nat → Int64) (x1 : Int32) (h_b : 0 ≤ x1.toInt ∧ x1.toInt < 6) : Ct l yX12_metOf cX12_metOf 2 (some .int) { frames := 0, cells := 0, slots := 0, locals := 0 } D tc sk [.ref (Ma 0), .int x1] [((Ma 0), .inr (12, [.ref (Ma 1), .int (Mv 0), .int (Mv 1), .ref (Ma 2), .ref (Ma 3), .ref (Ma 4), .ref (Ma 5), .ref (Ma 6), .int (Mv 2), .int (Mv 3), .int (Mv 4), .int (Mv 5), .int (Mv 6), .int (Mv 7), .int (Mv 8), .ref (Ma 7), .int (Mv 9), .ref (Ma 8), .int (Mv 10), .ref (Ma 9), .ref (Ma 10), .int (Mv 11), .int (Mv 12), .int (Mv 13), .ref (Ma 11), .int (Mv 14), .ref (Ma 12), .ref (Ma 13), .ref (Ma 14), .ref (Ma 15), .ref (Ma 16), .long (Mj 0), .ref (Ma 17), .ref (Ma 18), .ref (Ma 19), .ref (Ma 20)])), ((Ma 10), .inl (tc 0, 126, .inl (Mf 10)))] (fun (v : Option Value) (_ : Unit) => ∃ r : Int32, v = some (.int r) ∧ ((True) ∧ r = (dX12_metOf (Mf 10) x1))) (fun (_ : Unit) => [((Ma 0), .inr (12, [.ref (Ma 1), .int (Mv 0), .int (Mv 1), .ref (Ma 2), .ref (Ma 3), .ref (Ma 4), .ref (Ma 5), .ref (Ma 6), .int (Mv 2), .int (Mv 3), .int (Mv 4), .int (Mv 5), .int (Mv 6), .int (Mv 7), .int (Mv 8), .ref (Ma 7), .int (Mv 9), .ref (Ma 8), .int (Mv 10), .ref (Ma 9), .ref (Ma 10), .int (Mv 11), .int (Mv 12), .int (Mv 13), .ref (Ma 11), .int (Mv 14), .ref (Ma 12), .ref (Ma 13), .ref (Ma 14), .ref (Ma 15), .ref (Ma 16), .long (Mj 0), .ref (Ma 17), .ref (Ma 18), .ref (Ma 19), .ref (Ma 20)])), ((Ma 10), .inl (tc 0, 126, .inl (Mf 10)))]) 0 0 := by
  refine Ct.start (by decide) (Nat.le_of_ble_eq_true rfl) (fun p e s m below meth c A ls hx hb hr hlk hin hml hown hts hK hX hP hD hA hl hS => ?_)
  have hl : lv_has ls 2 [(0, .ref (Ma 0)), (1, .int x1)] := hl
  refine lv_aload_n hx hb dX12_metOf_0 rfl (lv_at hl 0 rfl) ?_
  refine gf_X12_39 hx hb hts hown hK hP 0 rfl rfl dX12_metOf_1 ?_
  refine lv_bipush (v := 12) hx hb dX12_metOf_4 (by decide) ?_
  refine lv_iconst (v := 4) hx hb dX12_metOf_6 (by decide) ?_
  refine lv_iload_n hx hb dX12_metOf_7 rfl (lv_at hl 1 rfl) ?_
  refine lv_imul hx hb dX12_metOf_8 ?_
  refine lv_topi (fun x_1 ex_1 => ?_)
  refine lv_iadd hx hb dX12_metOf_9 ?_
  refine lv_topi (fun x_2 ex_2 => ?_)
  refine lv_iconst (v := 2) hx hb dX12_metOf_10 (by decide) ?_
  refine lv_iadd hx hb dX12_metOf_11 ?_
  refine lv_topi (fun x_3 ex_3 => ?_)
  have hi_4 : vp_in x_3 126 := by
    have y_2 : (2 : Int32).toInt = 2 := by decide
    have y_4 : (4 : Int32).toInt = 4 := by decide
    have y_12 : (12 : Int32).toInt = 12 := by decide
    have t_x_1 : x_1.toInt = (4 : Int32).toInt * (x1 : Int32).toInt := by rw [ex_1]; exact mul_toInt (by first | omega | (rw [y_4]; omega)) (by first | omega | (rw [y_4]; omega))
    rw [y_4] at t_x_1
    have t_x_2 : x_2.toInt = (12 : Int32).toInt + (x_1 : Int32).toInt := by rw [ex_2]; exact add_toInt (by omega) (by omega)
    have t_x_3 : x_3.toInt = (x_2 : Int32).toInt + (2 : Int32).toInt := by rw [ex_3]; exact add_toInt (by omega) (by omega)
    refine vp_in_iff.mpr ⟨?_, ?_⟩ <;> omega
  refine va_iald hx hb hK hP 1 0 rfl rfl hi_4 dX12_metOf_12 ?_
  refine lv_topi (fun x_5 ex_5 => ?_)
  have hF_6 : x_5 = (dX12_metOf (Mf 10) x1) := by
    clear hP hD hS hl
    replace ex_1 := ex_1.symm; subst ex_1
    replace ex_2 := ex_2.symm; subst ex_2
    replace ex_3 := ex_3.symm; subst ex_3
    replace ex_5 := ex_5.symm; subst ex_5
    unfold dX12_metOf
    try rfl
  exact retI (v := x_5) hx hb hr hlk (rfl) hP hD hS () ⟨_, rfl, ⟨trivial, hF_6⟩⟩ [0, 1] rfl rfl dX12_metOf_13 (Nat.le_of_ble_eq_true rfl) (Nat.le_of_ble_eq_true rfl) rfl
set_option maxRecDepth 100000 in
theorem cu_dX12_metOf (l : Launch) (D : va_G) (tc : Nat → ClassId) (sk : (Nat → Nat) × (Nat → Nat)) (Ma_0 : Nat) (Ma_1 : Nat) (Ma_2 : Nat) (Ma_3 : Nat) (Ma_4 : Nat) (Ma_5 : Nat) (Ma_6 : Nat) (Ma_7 : Nat) (Ma_8 : Nat) (Ma_9 : Nat) (Ma_10 : Nat) (Ma_11 : Nat) (Ma_12 : Nat) (Ma_13 : Nat) (Ma_14 : Nat) (Ma_15 : Nat) (Ma_16 : Nat) (Ma_17 : Nat) (Ma_18 : Nat) (Ma_19 : Nat) (Ma_20 : Nat) (Mv_0 : Int32) (Mv_1 : Int32) (Mv_2 : Int32) (Mv_3 : Int32) (Mv_4 : Int32) (Mv_5 : Int32) (Mv_6 : Int32) (Mv_7 : Int32) (Mv_8 : Int32) (Mv_9 : Int32) (Mv_10 : Int32) (Mv_11 : Int32) (Mv_12 : Int32) (Mv_13 : Int32) (Mv_14 : Int32) (Mf_10 : Nat → Int32) (Mj_0 : Int64) (x1 : Int32) (h_b : 0 ≤ x1.toInt ∧ x1.toInt < 6) : Ct l yX12_metOf cX12_metOf 2 (some .int) { frames := 0, cells := 0, slots := 0, locals := 0 } D tc sk [.ref Ma_0, .int x1] [(Ma_0, .inr (12, [.ref Ma_1, .int Mv_0, .int Mv_1, .ref Ma_2, .ref Ma_3, .ref Ma_4, .ref Ma_5, .ref Ma_6, .int Mv_2, .int Mv_3, .int Mv_4, .int Mv_5, .int Mv_6, .int Mv_7, .int Mv_8, .ref Ma_7, .int Mv_9, .ref Ma_8, .int Mv_10, .ref Ma_9, .ref Ma_10, .int Mv_11, .int Mv_12, .int Mv_13, .ref Ma_11, .int Mv_14, .ref Ma_12, .ref Ma_13, .ref Ma_14, .ref Ma_15, .ref Ma_16, .long Mj_0, .ref Ma_17, .ref Ma_18, .ref Ma_19, .ref Ma_20])), (Ma_10, .inl (tc 0, 126, .inl Mf_10))] (fun (v : Option Value) (_ : Unit) => ∃ r : Int32, v = some (.int r) ∧ ((True) ∧ r = (dX12_metOf Mf_10 x1))) (fun (_ : Unit) => [(Ma_0, .inr (12, [.ref Ma_1, .int Mv_0, .int Mv_1, .ref Ma_2, .ref Ma_3, .ref Ma_4, .ref Ma_5, .ref Ma_6, .int Mv_2, .int Mv_3, .int Mv_4, .int Mv_5, .int Mv_6, .int Mv_7, .int Mv_8, .ref Ma_7, .int Mv_9, .ref Ma_8, .int Mv_10, .ref Ma_9, .ref Ma_10, .int Mv_11, .int Mv_12, .int Mv_13, .ref Ma_11, .int Mv_14, .ref Ma_12, .ref Ma_13, .ref Ma_14, .ref Ma_15, .ref Ma_16, .long Mj_0, .ref Ma_17, .ref Ma_18, .ref Ma_19, .ref Ma_20])), (Ma_10, .inl (tc 0, 126, .inl Mf_10))]) 0 0 :=
  ct_dX12_metOf l D tc sk (fun k => ([Ma_0, Ma_1, Ma_2, Ma_3, Ma_4, Ma_5, Ma_6, Ma_7, Ma_8, Ma_9, Ma_10, Ma_11, Ma_12, Ma_13, Ma_14, Ma_15, Ma_16, Ma_17, Ma_18, Ma_19, Ma_20] : List (Nat)).getD k 0) (fun k => ([Mv_0, Mv_1, Mv_2, Mv_3, Mv_4, Mv_5, Mv_6, Mv_7, Mv_8, Mv_9, Mv_10, Mv_11, Mv_12, Mv_13, Mv_14] : List (Int32)).getD k 0) (fun k => ([(fun _ => 0), (fun _ => 0), (fun _ => 0), (fun _ => 0), (fun _ => 0), (fun _ => 0), (fun _ => 0), (fun _ => 0), (fun _ => 0), (fun _ => 0), Mf_10] : List (Nat → Int32)).getD k (fun _ => 0)) (fun k => ([Mj_0] : List (Int64)).getD k 0) x1 h_b
def dX12_lastOf (Mf_10 : Nat → Int32) (x1 : Int32) : Int32 := (Mf_10 ((((12 : Int32) + ((4 : Int32) * x1)) + (3 : Int32))).toNatClampNeg)
set_option maxHeartbeats 4000000 in
set_option maxRecDepth 100000 in
theorem ct_dX12_lastOf (l : Launch) (D : va_G) (tc : Nat → ClassId) (sk : (Nat → Nat) × (Nat → Nat)) (Ma : Nat → Nat) (Mv : Nat → Int32) (Mf : Nat → Nat → Int32) (Mj : Nat → Int64) (x1 : Int32) (h_b : 0 ≤ x1.toInt ∧ x1.toInt < 6) : Ct l yX12_lastOf cX12_lastOf 2 (some .int) { frames := 0, cells := 0, slots := 0, locals := 0 } D tc sk [.ref (Ma 0), .int x1] [((Ma 0), .inr (12, [.ref (Ma 1), .int (Mv 0), .int (Mv 1), .ref (Ma 2), .ref (Ma 3), .ref (Ma 4), .ref (Ma 5), .ref (Ma 6), .int (Mv 2), .int (Mv 3), .int (Mv 4), .int (Mv 5), .int (Mv 6), .int (Mv 7), .int (Mv 8), .ref (Ma 7), .int (Mv 9), .ref (Ma 8), .int (Mv 10), .ref (Ma 9), .ref (Ma 10), .int (Mv 11), .int (Mv 12), .int (Mv 13), .ref (Ma 11), .int (Mv 14), .ref (Ma 12), .ref (Ma 13), .ref (Ma 14), .ref (Ma 15), .ref (Ma 16), .long (Mj 0), .ref (Ma 17), .ref (Ma 18), .ref (Ma 19), .ref (Ma 20)])), ((Ma 10), .inl (tc 0, 126, .inl (Mf 10)))] (fun (v : Option Value) (_ : Unit) => ∃ r : Int32, v = some (.int r) ∧ ((True) ∧ r = (dX12_lastOf (Mf 10) x1))) (fun (_ : Unit) => [((Ma 0), .inr (12, [.ref (Ma 1), .int (Mv 0), .int (Mv 1), .ref (Ma 2), .ref (Ma 3), .ref (Ma 4), .ref (Ma 5), .ref (Ma 6), .int (Mv 2), .int (Mv 3), .int (Mv 4), .int (Mv 5), .int (Mv 6), .int (Mv 7), .int (Mv 8), .ref (Ma 7), .int (Mv 9), .ref (Ma 8), .int (Mv 10), .ref (Ma 9), .ref (Ma 10), .int (Mv 11), .int (Mv 12), .int (Mv 13), .ref (Ma 11), .int (Mv 14), .ref (Ma 12), .ref (Ma 13), .ref (Ma 14), .ref (Ma 15), .ref (Ma 16), .long (Mj 0), .ref (Ma 17), .ref (Ma 18), .ref (Ma 19), .ref (Ma 20)])), ((Ma 10), .inl (tc 0, 126, .inl (Mf 10)))]) 0 0 := by
  refine Ct.start (by decide) (Nat.le_of_ble_eq_true rfl) (fun p e s m below meth c A ls hx hb hr hlk hin hml hown hts hK hX hP hD hA hl hS => ?_)
  have hl : lv_has ls 2 [(0, .ref (Ma 0)), (1, .int x1)] := hl
  refine lv_aload_n hx hb dX12_lastOf_0 rfl (lv_at hl 0 rfl) ?_
  refine gf_X12_39 hx hb hts hown hK hP 0 rfl rfl dX12_lastOf_1 ?_
  refine lv_bipush (v := 12) hx hb dX12_lastOf_4 (by decide) ?_
  refine lv_iconst (v := 4) hx hb dX12_lastOf_6 (by decide) ?_
  refine lv_iload_n hx hb dX12_lastOf_7 rfl (lv_at hl 1 rfl) ?_
  refine lv_imul hx hb dX12_lastOf_8 ?_
  refine lv_topi (fun x_1 ex_1 => ?_)
  refine lv_iadd hx hb dX12_lastOf_9 ?_
  refine lv_topi (fun x_2 ex_2 => ?_)
  refine lv_iconst (v := 3) hx hb dX12_lastOf_10 (by decide) ?_
  refine lv_iadd hx hb dX12_lastOf_11 ?_
  refine lv_topi (fun x_3 ex_3 => ?_)
  have hi_4 : vp_in x_3 126 := by
    have y_3 : (3 : Int32).toInt = 3 := by decide
    have y_4 : (4 : Int32).toInt = 4 := by decide
    have y_12 : (12 : Int32).toInt = 12 := by decide
    have t_x_1 : x_1.toInt = (4 : Int32).toInt * (x1 : Int32).toInt := by rw [ex_1]; exact mul_toInt (by first | omega | (rw [y_4]; omega)) (by first | omega | (rw [y_4]; omega))
    rw [y_4] at t_x_1
    have t_x_2 : x_2.toInt = (12 : Int32).toInt + (x_1 : Int32).toInt := by rw [ex_2]; exact add_toInt (by omega) (by omega)
    have t_x_3 : x_3.toInt = (x_2 : Int32).toInt + (3 : Int32).toInt := by rw [ex_3]; exact add_toInt (by omega) (by omega)
    refine vp_in_iff.mpr ⟨?_, ?_⟩ <;> omega
  refine va_iald hx hb hK hP 1 0 rfl rfl hi_4 dX12_lastOf_12 ?_
  refine lv_topi (fun x_5 ex_5 => ?_)
  have hF_6 : x_5 = (dX12_lastOf (Mf 10) x1) := by
    clear hP hD hS hl
    replace ex_1 := ex_1.symm; subst ex_1
    replace ex_2 := ex_2.symm; subst ex_2
    replace ex_3 := ex_3.symm; subst ex_3
    replace ex_5 := ex_5.symm; subst ex_5
    unfold dX12_lastOf
    try rfl
  exact retI (v := x_5) hx hb hr hlk (rfl) hP hD hS () ⟨_, rfl, ⟨trivial, hF_6⟩⟩ [0, 1] rfl rfl dX12_lastOf_13 (Nat.le_of_ble_eq_true rfl) (Nat.le_of_ble_eq_true rfl) rfl
set_option maxRecDepth 100000 in
theorem cu_dX12_lastOf (l : Launch) (D : va_G) (tc : Nat → ClassId) (sk : (Nat → Nat) × (Nat → Nat)) (Ma_0 : Nat) (Ma_1 : Nat) (Ma_2 : Nat) (Ma_3 : Nat) (Ma_4 : Nat) (Ma_5 : Nat) (Ma_6 : Nat) (Ma_7 : Nat) (Ma_8 : Nat) (Ma_9 : Nat) (Ma_10 : Nat) (Ma_11 : Nat) (Ma_12 : Nat) (Ma_13 : Nat) (Ma_14 : Nat) (Ma_15 : Nat) (Ma_16 : Nat) (Ma_17 : Nat) (Ma_18 : Nat) (Ma_19 : Nat) (Ma_20 : Nat) (Mv_0 : Int32) (Mv_1 : Int32) (Mv_2 : Int32) (Mv_3 : Int32) (Mv_4 : Int32) (Mv_5 : Int32) (Mv_6 : Int32) (Mv_7 : Int32) (Mv_8 : Int32) (Mv_9 : Int32) (Mv_10 : Int32) (Mv_11 : Int32) (Mv_12 : Int32) (Mv_13 : Int32) (Mv_14 : Int32) (Mf_10 : Nat → Int32) (Mj_0 : Int64) (x1 : Int32) (h_b : 0 ≤ x1.toInt ∧ x1.toInt < 6) : Ct l yX12_lastOf cX12_lastOf 2 (some .int) { frames := 0, cells := 0, slots := 0, locals := 0 } D tc sk [.ref Ma_0, .int x1] [(Ma_0, .inr (12, [.ref Ma_1, .int Mv_0, .int Mv_1, .ref Ma_2, .ref Ma_3, .ref Ma_4, .ref Ma_5, .ref Ma_6, .int Mv_2, .int Mv_3, .int Mv_4, .int Mv_5, .int Mv_6, .int Mv_7, .int Mv_8, .ref Ma_7, .int Mv_9, .ref Ma_8, .int Mv_10, .ref Ma_9, .ref Ma_10, .int Mv_11, .int Mv_12, .int Mv_13, .ref Ma_11, .int Mv_14, .ref Ma_12, .ref Ma_13, .ref Ma_14, .ref Ma_15, .ref Ma_16, .long Mj_0, .ref Ma_17, .ref Ma_18, .ref Ma_19, .ref Ma_20])), (Ma_10, .inl (tc 0, 126, .inl Mf_10))] (fun (v : Option Value) (_ : Unit) => ∃ r : Int32, v = some (.int r) ∧ ((True) ∧ r = (dX12_lastOf Mf_10 x1))) (fun (_ : Unit) => [(Ma_0, .inr (12, [.ref Ma_1, .int Mv_0, .int Mv_1, .ref Ma_2, .ref Ma_3, .ref Ma_4, .ref Ma_5, .ref Ma_6, .int Mv_2, .int Mv_3, .int Mv_4, .int Mv_5, .int Mv_6, .int Mv_7, .int Mv_8, .ref Ma_7, .int Mv_9, .ref Ma_8, .int Mv_10, .ref Ma_9, .ref Ma_10, .int Mv_11, .int Mv_12, .int Mv_13, .ref Ma_11, .int Mv_14, .ref Ma_12, .ref Ma_13, .ref Ma_14, .ref Ma_15, .ref Ma_16, .long Mj_0, .ref Ma_17, .ref Ma_18, .ref Ma_19, .ref Ma_20])), (Ma_10, .inl (tc 0, 126, .inl Mf_10))]) 0 0 :=
  ct_dX12_lastOf l D tc sk (fun k => ([Ma_0, Ma_1, Ma_2, Ma_3, Ma_4, Ma_5, Ma_6, Ma_7, Ma_8, Ma_9, Ma_10, Ma_11, Ma_12, Ma_13, Ma_14, Ma_15, Ma_16, Ma_17, Ma_18, Ma_19, Ma_20] : List (Nat)).getD k 0) (fun k => ([Mv_0, Mv_1, Mv_2, Mv_3, Mv_4, Mv_5, Mv_6, Mv_7, Mv_8, Mv_9, Mv_10, Mv_11, Mv_12, Mv_13, Mv_14] : List (Int32)).getD k 0) (fun k => ([(fun _ => 0), (fun _ => 0), (fun _ => 0), (fun _ => 0), (fun _ => 0), (fun _ => 0), (fun _ => 0), (fun _ => 0), (fun _ => 0), (fun _ => 0), Mf_10] : List (Nat → Int32)).getD k (fun _ => 0)) (fun k => ([Mj_0] : List (Int64)).getD k 0) x1 h_b
def dX12_sinceOf (Mf_10 : Nat → Int32) (x1 : Int32) : Int32 := (if (dX12_lastOf Mf_10 x1) < (0 : Int32) then (99 : Int32) else (if ((Mf_10 ((10 : Int32)).toNatClampNeg) - (dX12_lastOf Mf_10 x1)) ≤ (99 : Int32) then ((Mf_10 ((10 : Int32)).toNatClampNeg) - (dX12_lastOf Mf_10 x1)) else (99 : Int32)))
set_option maxHeartbeats 4000000 in
set_option maxRecDepth 100000 in
theorem ct_dX12_sinceOf (l : Launch) (D : va_G) (tc : Nat → ClassId) (sk : (Nat → Nat) × (Nat → Nat)) (Ma : Nat → Nat) (Mv : Nat → Int32) (Mf : Nat → Nat → Int32) (Mj : Nat → Int64) (x1 : Int32) (h_b : 0 ≤ x1.toInt ∧ x1.toInt < 6) : Ct l yX12_sinceOf cX12_sinceOf 3 (some .int) { frames := 1, cells := 0, slots := 0, locals := 21 } D tc sk [.ref (Ma 0), .int x1] [((Ma 0), .inr (12, [.ref (Ma 1), .int (Mv 0), .int (Mv 1), .ref (Ma 2), .ref (Ma 3), .ref (Ma 4), .ref (Ma 5), .ref (Ma 6), .int (Mv 2), .int (Mv 3), .int (Mv 4), .int (Mv 5), .int (Mv 6), .int (Mv 7), .int (Mv 8), .ref (Ma 7), .int (Mv 9), .ref (Ma 8), .int (Mv 10), .ref (Ma 9), .ref (Ma 10), .int (Mv 11), .int (Mv 12), .int (Mv 13), .ref (Ma 11), .int (Mv 14), .ref (Ma 12), .ref (Ma 13), .ref (Ma 14), .ref (Ma 15), .ref (Ma 16), .long (Mj 0), .ref (Ma 17), .ref (Ma 18), .ref (Ma 19), .ref (Ma 20)])), ((Ma 10), .inl (tc 0, 126, .inl (Mf 10)))] (fun (v : Option Value) (_ : Unit) => ∃ r : Int32, v = some (.int r) ∧ ((True) ∧ r = (dX12_sinceOf (Mf 10) x1))) (fun (_ : Unit) => [((Ma 0), .inr (12, [.ref (Ma 1), .int (Mv 0), .int (Mv 1), .ref (Ma 2), .ref (Ma 3), .ref (Ma 4), .ref (Ma 5), .ref (Ma 6), .int (Mv 2), .int (Mv 3), .int (Mv 4), .int (Mv 5), .int (Mv 6), .int (Mv 7), .int (Mv 8), .ref (Ma 7), .int (Mv 9), .ref (Ma 8), .int (Mv 10), .ref (Ma 9), .ref (Ma 10), .int (Mv 11), .int (Mv 12), .int (Mv 13), .ref (Ma 11), .int (Mv 14), .ref (Ma 12), .ref (Ma 13), .ref (Ma 14), .ref (Ma 15), .ref (Ma 16), .long (Mj 0), .ref (Ma 17), .ref (Ma 18), .ref (Ma 19), .ref (Ma 20)])), ((Ma 10), .inl (tc 0, 126, .inl (Mf 10)))]) 0 0 := by
  refine Ct.start (by decide) (Nat.le_of_ble_eq_true rfl) (fun p e s m below meth c A ls hx hb hr hlk hin hml hown hts hK hX hP hD hA hl hS => ?_)
  have hl : lv_has ls 3 [(0, .ref (Ma 0)), (1, .int x1)] := hl
  refine lv_aload_n hx hb dX12_sinceOf_0 rfl (lv_at hl 0 rfl) ?_
  refine gf_X12_39 hx hb hts hown hK hP 0 rfl rfl dX12_sinceOf_1 ?_
  refine lv_bipush (v := 10) hx hb dX12_sinceOf_4 (by decide) ?_
  refine va_iald hx hb hK hP 1 0 rfl rfl (vin_dec (by decide +kernel)) dX12_sinceOf_6 ?_
  refine lv_topi (fun x_1 ex_1 => ?_)
  refine lv_aload_n hx hb dX12_sinceOf_7 rfl (lv_at hl 0 rfl) ?_
  refine lv_iload_n hx hb dX12_sinceOf_8 rfl (lv_at hl 1 rfl) ?_
  refine cV (a := (Ma 0)) (As := [.int x1]) (rest := [.int x_1]) (wr := []) ⟨hx, hb, hml, hown, hts⟩ hK hX hA (cu_dX12_lastOf l D tc sk (Ma 0) (Ma 1) (Ma 2) (Ma 3) (Ma 4) (Ma 5) (Ma 6) (Ma 7) (Ma 8) (Ma 9) (Ma 10) (Ma 11) (Ma 12) (Ma 13) (Ma 14) (Ma 15) (Ma 16) (Ma 17) (Ma 18) (Ma 19) (Ma 20) (Mv 0) (Mv 1) (Mv 2) (Mv 3) (Mv 4) (Mv 5) (Mv 6) (Mv 7) (Mv 8) (Mv 9) (Mv 10) (Mv 11) (Mv 12) (Mv 13) (Mv 14) (Mf 10) (Mj 0) x1 h_b) k_1395 k_1392 k_1394 k_63 k_106 pl_X12_lastOf ⟨Nat.le_of_ble_eq_true rfl, Nat.le_of_ble_eq_true rfl⟩ rfl rfl (va_recv hK hP (ci := 12) (q0 := 0) rfl rfl) hP hD hS [0, 1] [] rfl rfl rfl rfl rfl (by decide) rfl hl.1 rfl (Nat.le_of_ble_eq_true rfl) dX12_sinceOf_9 ⟨Nat.le_of_ble_eq_true rfl, Nat.le_of_ble_eq_true rfl⟩ (fun v_2 u_3 H locs hv_4 hP₀ hD₀ hS₀ => ?_)
  obtain ⟨r_5, rfl, he_6⟩ := hv_4
  have he_6 : (True) ∧ r_5 = (dX12_lastOf (Mf 10) x1) := he_6
  refine W.eq (g2 := F0 m 12 ls [.int r_5, .int x_1]) rfl ?_
  replace hP : va_P D classes [((Ma 0), .inr (12, [.ref (Ma 1), .int (Mv 0), .int (Mv 1), .ref (Ma 2), .ref (Ma 3), .ref (Ma 4), .ref (Ma 5), .ref (Ma 6), .int (Mv 2), .int (Mv 3), .int (Mv 4), .int (Mv 5), .int (Mv 6), .int (Mv 7), .int (Mv 8), .ref (Ma 7), .int (Mv 9), .ref (Ma 8), .int (Mv 10), .ref (Ma 9), .ref (Ma 10), .int (Mv 11), .int (Mv 12), .int (Mv 13), .ref (Ma 11), .int (Mv 14), .ref (Ma 12), .ref (Ma 13), .ref (Ma 14), .ref (Ma 15), .ref (Ma 16), .long (Mj 0), .ref (Ma 17), .ref (Ma 18), .ref (Ma 19), .ref (Ma 20)])), ((Ma 10), .inl (tc 0, 126, .inl (Mf 10)))] H := hP₀
  replace hD : va_D A [((Ma 0), .inr (12, [.ref (Ma 1), .int (Mv 0), .int (Mv 1), .ref (Ma 2), .ref (Ma 3), .ref (Ma 4), .ref (Ma 5), .ref (Ma 6), .int (Mv 2), .int (Mv 3), .int (Mv 4), .int (Mv 5), .int (Mv 6), .int (Mv 7), .int (Mv 8), .ref (Ma 7), .int (Mv 9), .ref (Ma 8), .int (Mv 10), .ref (Ma 9), .ref (Ma 10), .int (Mv 11), .int (Mv 12), .int (Mv 13), .ref (Ma 11), .int (Mv 14), .ref (Ma 12), .ref (Ma 13), .ref (Ma 14), .ref (Ma 15), .ref (Ma 16), .long (Mj 0), .ref (Ma 17), .ref (Ma 18), .ref (Ma 19), .ref (Ma 20)])), ((Ma 10), .inl (tc 0, 126, .inl (Mf 10)))] := hD₀
  replace hS := hS₀
  clear hP₀ hD₀ hS₀
  obtain ⟨he_6, hq_8⟩ := he_6
  have er_5 : r_5 = (dX12_lastOf (Mf 10) x1) := hq_8
  refine lv_isub hx hb dX12_sinceOf_12 ?_
  refine lv_topi (fun x_9 ex_9 => ?_)
  refine lv_istore_n (lv' := [(2, .int x_9), (0, .ref (Ma 0)), (1, .int x1)]) hx hb dX12_sinceOf_13 rfl hl (by decide) rfl (fun ls hl₀ => ?_)
  replace hl := hl₀
  clear hl₀
  refine lv_aload_n hx hb dX12_sinceOf_14 rfl (lv_at hl 1 rfl) ?_
  refine lv_iload_n hx hb dX12_sinceOf_15 rfl (lv_at hl 2 rfl) ?_
  refine cV (a := (Ma 0)) (As := [.int x1]) (rest := []) (wr := []) ⟨hx, hb, hml, hown, hts⟩ hK hX hA (cu_dX12_lastOf l D tc sk (Ma 0) (Ma 1) (Ma 2) (Ma 3) (Ma 4) (Ma 5) (Ma 6) (Ma 7) (Ma 8) (Ma 9) (Ma 10) (Ma 11) (Ma 12) (Ma 13) (Ma 14) (Ma 15) (Ma 16) (Ma 17) (Ma 18) (Ma 19) (Ma 20) (Mv 0) (Mv 1) (Mv 2) (Mv 3) (Mv 4) (Mv 5) (Mv 6) (Mv 7) (Mv 8) (Mv 9) (Mv 10) (Mv 11) (Mv 12) (Mv 13) (Mv 14) (Mf 10) (Mj 0) x1 h_b) k_1395 k_1392 k_1394 k_63 k_106 pl_X12_lastOf ⟨Nat.le_of_ble_eq_true rfl, Nat.le_of_ble_eq_true rfl⟩ rfl rfl (va_recv hK hP (ci := 12) (q0 := 0) rfl rfl) hP hD hS [0, 1] [] rfl rfl rfl rfl rfl (by decide) rfl hl.1 rfl (Nat.le_of_ble_eq_true rfl) dX12_sinceOf_16 ⟨Nat.le_of_ble_eq_true rfl, Nat.le_of_ble_eq_true rfl⟩ (fun v_10 u_11 H locs hv_12 hP₀ hD₀ hS₀ => ?_)
  obtain ⟨r_13, rfl, he_14⟩ := hv_12
  have he_14 : (True) ∧ r_13 = (dX12_lastOf (Mf 10) x1) := he_14
  refine W.eq (g2 := F0 m 19 ls [.int r_13]) rfl ?_
  replace hP : va_P D classes [((Ma 0), .inr (12, [.ref (Ma 1), .int (Mv 0), .int (Mv 1), .ref (Ma 2), .ref (Ma 3), .ref (Ma 4), .ref (Ma 5), .ref (Ma 6), .int (Mv 2), .int (Mv 3), .int (Mv 4), .int (Mv 5), .int (Mv 6), .int (Mv 7), .int (Mv 8), .ref (Ma 7), .int (Mv 9), .ref (Ma 8), .int (Mv 10), .ref (Ma 9), .ref (Ma 10), .int (Mv 11), .int (Mv 12), .int (Mv 13), .ref (Ma 11), .int (Mv 14), .ref (Ma 12), .ref (Ma 13), .ref (Ma 14), .ref (Ma 15), .ref (Ma 16), .long (Mj 0), .ref (Ma 17), .ref (Ma 18), .ref (Ma 19), .ref (Ma 20)])), ((Ma 10), .inl (tc 0, 126, .inl (Mf 10)))] H := hP₀
  replace hD : va_D A [((Ma 0), .inr (12, [.ref (Ma 1), .int (Mv 0), .int (Mv 1), .ref (Ma 2), .ref (Ma 3), .ref (Ma 4), .ref (Ma 5), .ref (Ma 6), .int (Mv 2), .int (Mv 3), .int (Mv 4), .int (Mv 5), .int (Mv 6), .int (Mv 7), .int (Mv 8), .ref (Ma 7), .int (Mv 9), .ref (Ma 8), .int (Mv 10), .ref (Ma 9), .ref (Ma 10), .int (Mv 11), .int (Mv 12), .int (Mv 13), .ref (Ma 11), .int (Mv 14), .ref (Ma 12), .ref (Ma 13), .ref (Ma 14), .ref (Ma 15), .ref (Ma 16), .long (Mj 0), .ref (Ma 17), .ref (Ma 18), .ref (Ma 19), .ref (Ma 20)])), ((Ma 10), .inl (tc 0, 126, .inl (Mf 10)))] := hD₀
  replace hS := hS₀
  clear hP₀ hD₀ hS₀
  obtain ⟨he_14, hq_16⟩ := he_14
  have er_13 : r_13 = (dX12_lastOf (Mf 10) x1) := hq_16
  refine lv_if_lt (tgt := 28) hx hb dX12_sinceOf_19 (by decide) (fun c_17 => ?_) (fun c_17 => ?_)
  · skip
    refine lv_bipush (v := 99) hx hb dX12_sinceOf_28 (by decide) ?_
    refine lv_goto (tgt := 34) hx hb dX12_sinceOf_30 (by decide) ?_
    have hF_18 : (99 : Int32) = (dX12_sinceOf (Mf 10) x1) := by
      clear hP hD hS hl
      replace ex_1 := ex_1.symm; subst ex_1
      replace er_5 := er_5.symm; subst er_5
      replace ex_9 := ex_9.symm; subst ex_9
      replace er_13 := er_13.symm; subst er_13
      unfold dX12_sinceOf
      rw [if_pos c_17]
      try rfl
    exact retI (v := 99) hx hb hr hlk (rfl) hP hD hS () ⟨_, rfl, ⟨trivial, hF_18⟩⟩ [0, 1] rfl rfl dX12_sinceOf_34 (Nat.le_of_ble_eq_true rfl) (Nat.le_of_ble_eq_true rfl) rfl
  · skip
    refine lv_iload_n hx hb dX12_sinceOf_22 rfl (lv_at hl 0 rfl) ?_
    refine lv_bipush (v := 99) hx hb dX12_sinceOf_23 (by decide) ?_
    refine lv_icmp_le (tgt := 33) hx hb dX12_sinceOf_25 (by decide) (fun c_19 => ?_) (fun c_19 => ?_)
    · skip
      refine lv_iload_n hx hb dX12_sinceOf_33 rfl (lv_at hl 0 rfl) ?_
      have hF_20 : x_9 = (dX12_sinceOf (Mf 10) x1) := by
        clear hP hD hS hl
        replace ex_1 := ex_1.symm; subst ex_1
        replace er_5 := er_5.symm; subst er_5
        replace ex_9 := ex_9.symm; subst ex_9
        replace er_13 := er_13.symm; subst er_13
        unfold dX12_sinceOf
        rw [if_neg c_17, if_pos c_19]
        try rfl
      exact retI (v := x_9) hx hb hr hlk (rfl) hP hD hS () ⟨_, rfl, ⟨trivial, hF_20⟩⟩ [0, 1] rfl rfl dX12_sinceOf_34 (Nat.le_of_ble_eq_true rfl) (Nat.le_of_ble_eq_true rfl) rfl
    · skip
      refine lv_bipush (v := 99) hx hb dX12_sinceOf_28 (by decide) ?_
      refine lv_goto (tgt := 34) hx hb dX12_sinceOf_30 (by decide) ?_
      have hF_21 : (99 : Int32) = (dX12_sinceOf (Mf 10) x1) := by
        clear hP hD hS hl
        replace ex_1 := ex_1.symm; subst ex_1
        replace er_5 := er_5.symm; subst er_5
        replace ex_9 := ex_9.symm; subst ex_9
        replace er_13 := er_13.symm; subst er_13
        unfold dX12_sinceOf
        rw [if_neg c_17, if_neg c_19]
        try rfl
      exact retI (v := 99) hx hb hr hlk (rfl) hP hD hS () ⟨_, rfl, ⟨trivial, hF_21⟩⟩ [0, 1] rfl rfl dX12_sinceOf_34 (Nat.le_of_ble_eq_true rfl) (Nat.le_of_ble_eq_true rfl) rfl
set_option maxRecDepth 100000 in
theorem cu_dX12_sinceOf (l : Launch) (D : va_G) (tc : Nat → ClassId) (sk : (Nat → Nat) × (Nat → Nat)) (Ma_0 : Nat) (Ma_1 : Nat) (Ma_2 : Nat) (Ma_3 : Nat) (Ma_4 : Nat) (Ma_5 : Nat) (Ma_6 : Nat) (Ma_7 : Nat) (Ma_8 : Nat) (Ma_9 : Nat) (Ma_10 : Nat) (Ma_11 : Nat) (Ma_12 : Nat) (Ma_13 : Nat) (Ma_14 : Nat) (Ma_15 : Nat) (Ma_16 : Nat) (Ma_17 : Nat) (Ma_18 : Nat) (Ma_19 : Nat) (Ma_20 : Nat) (Mv_0 : Int32) (Mv_1 : Int32) (Mv_2 : Int32) (Mv_3 : Int32) (Mv_4 : Int32) (Mv_5 : Int32) (Mv_6 : Int32) (Mv_7 : Int32) (Mv_8 : Int32) (Mv_9 : Int32) (Mv_10 : Int32) (Mv_11 : Int32) (Mv_12 : Int32) (Mv_13 : Int32) (Mv_14 : Int32) (Mf_10 : Nat → Int32) (Mj_0 : Int64) (x1 : Int32) (h_b : 0 ≤ x1.toInt ∧ x1.toInt < 6) : Ct l yX12_sinceOf cX12_sinceOf 3 (some .int) { frames := 1, cells := 0, slots := 0, locals := 21 } D tc sk [.ref Ma_0, .int x1] [(Ma_0, .inr (12, [.ref Ma_1, .int Mv_0, .int Mv_1, .ref Ma_2, .ref Ma_3, .ref Ma_4, .ref Ma_5, .ref Ma_6, .int Mv_2, .int Mv_3, .int Mv_4, .int Mv_5, .int Mv_6, .int Mv_7, .int Mv_8, .ref Ma_7, .int Mv_9, .ref Ma_8, .int Mv_10, .ref Ma_9, .ref Ma_10, .int Mv_11, .int Mv_12, .int Mv_13, .ref Ma_11, .int Mv_14, .ref Ma_12, .ref Ma_13, .ref Ma_14, .ref Ma_15, .ref Ma_16, .long Mj_0, .ref Ma_17, .ref Ma_18, .ref Ma_19, .ref Ma_20])), (Ma_10, .inl (tc 0, 126, .inl Mf_10))] (fun (v : Option Value) (_ : Unit) => ∃ r : Int32, v = some (.int r) ∧ ((True) ∧ r = (dX12_sinceOf Mf_10 x1))) (fun (_ : Unit) => [(Ma_0, .inr (12, [.ref Ma_1, .int Mv_0, .int Mv_1, .ref Ma_2, .ref Ma_3, .ref Ma_4, .ref Ma_5, .ref Ma_6, .int Mv_2, .int Mv_3, .int Mv_4, .int Mv_5, .int Mv_6, .int Mv_7, .int Mv_8, .ref Ma_7, .int Mv_9, .ref Ma_8, .int Mv_10, .ref Ma_9, .ref Ma_10, .int Mv_11, .int Mv_12, .int Mv_13, .ref Ma_11, .int Mv_14, .ref Ma_12, .ref Ma_13, .ref Ma_14, .ref Ma_15, .ref Ma_16, .long Mj_0, .ref Ma_17, .ref Ma_18, .ref Ma_19, .ref Ma_20])), (Ma_10, .inl (tc 0, 126, .inl Mf_10))]) 0 0 :=
  ct_dX12_sinceOf l D tc sk (fun k => ([Ma_0, Ma_1, Ma_2, Ma_3, Ma_4, Ma_5, Ma_6, Ma_7, Ma_8, Ma_9, Ma_10, Ma_11, Ma_12, Ma_13, Ma_14, Ma_15, Ma_16, Ma_17, Ma_18, Ma_19, Ma_20] : List (Nat)).getD k 0) (fun k => ([Mv_0, Mv_1, Mv_2, Mv_3, Mv_4, Mv_5, Mv_6, Mv_7, Mv_8, Mv_9, Mv_10, Mv_11, Mv_12, Mv_13, Mv_14] : List (Int32)).getD k 0) (fun k => ([(fun _ => 0), (fun _ => 0), (fun _ => 0), (fun _ => 0), (fun _ => 0), (fun _ => 0), (fun _ => 0), (fun _ => 0), (fun _ => 0), (fun _ => 0), Mf_10] : List (Nat → Int32)).getD k (fun _ => 0)) (fun k => ([Mj_0] : List (Int64)).getD k 0) x1 h_b
def dX12_clock (Mf_10 : Nat → Int32) : Int32 := (if (dX12_isBook Mf_10) = (0 : Int32) then (0 : Int32) else ((Mf_10 ((10 : Int32)).toNatClampNeg) - (Mf_10 ((10 : Int32)).toNatClampNeg) / (Mf_10 ((2 : Int32)).toNatClampNeg) * (Mf_10 ((2 : Int32)).toNatClampNeg)))
set_option maxHeartbeats 4000000 in
set_option maxRecDepth 100000 in
theorem ct_dX12_clock {T : Nat → Option Int32} (l : Launch) (D : va_G) (tc : Nat → ClassId) (sk : (Nat → Nat) × (Nat → Nat)) (Ma : Nat → Nat) (Mv : Nat → Int32) (Mf : Nat → Nat → Int32) (Mj : Nat → Int64) (d : Int) (h_said : SaidD T (Mf 10) d) : Ct l yX12_clock cX12_clock 1 (some .int) { frames := 1, cells := 0, slots := 0, locals := 20 } D tc sk [.ref (Ma 0)] [((Ma 0), .inr (12, [.ref (Ma 1), .int (Mv 0), .int (Mv 1), .ref (Ma 2), .ref (Ma 3), .ref (Ma 4), .ref (Ma 5), .ref (Ma 6), .int (Mv 2), .int (Mv 3), .int (Mv 4), .int (Mv 5), .int (Mv 6), .int (Mv 7), .int (Mv 8), .ref (Ma 7), .int (Mv 9), .ref (Ma 8), .int (Mv 10), .ref (Ma 9), .ref (Ma 10), .int (Mv 11), .int (Mv 12), .int (Mv 13), .ref (Ma 11), .int (Mv 14), .ref (Ma 12), .ref (Ma 13), .ref (Ma 14), .ref (Ma 15), .ref (Ma 16), .long (Mj 0), .ref (Ma 17), .ref (Ma 18), .ref (Ma 19), .ref (Ma 20)])), ((Ma 10), .inl (tc 0, 126, .inl (Mf 10)))] (fun (v : Option Value) (_ : Unit) => ∃ r : Int32, v = some (.int r) ∧ (((0 ≤ r.toInt ∧ r.toInt < 10)) ∧ r = (dX12_clock (Mf 10)))) (fun (_ : Unit) => [((Ma 0), .inr (12, [.ref (Ma 1), .int (Mv 0), .int (Mv 1), .ref (Ma 2), .ref (Ma 3), .ref (Ma 4), .ref (Ma 5), .ref (Ma 6), .int (Mv 2), .int (Mv 3), .int (Mv 4), .int (Mv 5), .int (Mv 6), .int (Mv 7), .int (Mv 8), .ref (Ma 7), .int (Mv 9), .ref (Ma 8), .int (Mv 10), .ref (Ma 9), .ref (Ma 10), .int (Mv 11), .int (Mv 12), .int (Mv 13), .ref (Ma 11), .int (Mv 14), .ref (Ma 12), .ref (Ma 13), .ref (Ma 14), .ref (Ma 15), .ref (Ma 16), .long (Mj 0), .ref (Ma 17), .ref (Ma 18), .ref (Ma 19), .ref (Ma 20)])), ((Ma 10), .inl (tc 0, 126, .inl (Mf 10)))]) 0 0 := by
  refine Ct.start (by decide) (Nat.le_of_ble_eq_true rfl) (fun p e s m below meth c A ls hx hb hr hlk hin hml hown hts hK hX hP hD hA hl hS => ?_)
  have hl : lv_has ls 1 [(0, .ref (Ma 0))] := hl
  have ar_h_said := SaidD.ar h_said
  refine lv_aload_n hx hb dX12_clock_0 rfl (lv_at hl 0 rfl) ?_
  refine cV (a := (Ma 0)) (As := []) (rest := []) (wr := []) ⟨hx, hb, hml, hown, hts⟩ hK hX hA (cu_dX12_isBook l D tc sk (Ma 0) (Ma 1) (Ma 2) (Ma 3) (Ma 4) (Ma 5) (Ma 6) (Ma 7) (Ma 8) (Ma 9) (Ma 10) (Ma 11) (Ma 12) (Ma 13) (Ma 14) (Ma 15) (Ma 16) (Ma 17) (Ma 18) (Ma 19) (Ma 20) (Mv 0) (Mv 1) (Mv 2) (Mv 3) (Mv 4) (Mv 5) (Mv 6) (Mv 7) (Mv 8) (Mv 9) (Mv 10) (Mv 11) (Mv 12) (Mv 13) (Mv 14) (Mf 10) (Mj 0) h_said.1) k_1407 k_1404 k_1406 k_65 k_106 pl_X12_isBook ⟨Nat.le_of_ble_eq_true rfl, Nat.le_of_ble_eq_true rfl⟩ rfl rfl (va_recv hK hP (ci := 12) (q0 := 0) rfl rfl) hP hD hS [0, 1] [] rfl rfl rfl rfl rfl (by decide) rfl hl.1 rfl (Nat.le_of_ble_eq_true rfl) dX12_clock_1 ⟨Nat.le_of_ble_eq_true rfl, Nat.le_of_ble_eq_true rfl⟩ (fun v_1 u_2 H locs hv_3 hP₀ hD₀ hS₀ => ?_)
  obtain ⟨r_4, rfl, he_5⟩ := hv_3
  have he_5 : ((r_4.toInt = 0 ∨ (r_4.toInt = 1 ∧ 1 ≤ ((Mf 10) 2).toInt ∧ ((Mf 10) 2).toInt ≤ 10))) ∧ r_4 = (dX12_isBook (Mf 10)) := he_5
  refine W.eq (g2 := F0 m 4 ls [.int r_4]) rfl ?_
  replace hP : va_P D classes [((Ma 0), .inr (12, [.ref (Ma 1), .int (Mv 0), .int (Mv 1), .ref (Ma 2), .ref (Ma 3), .ref (Ma 4), .ref (Ma 5), .ref (Ma 6), .int (Mv 2), .int (Mv 3), .int (Mv 4), .int (Mv 5), .int (Mv 6), .int (Mv 7), .int (Mv 8), .ref (Ma 7), .int (Mv 9), .ref (Ma 8), .int (Mv 10), .ref (Ma 9), .ref (Ma 10), .int (Mv 11), .int (Mv 12), .int (Mv 13), .ref (Ma 11), .int (Mv 14), .ref (Ma 12), .ref (Ma 13), .ref (Ma 14), .ref (Ma 15), .ref (Ma 16), .long (Mj 0), .ref (Ma 17), .ref (Ma 18), .ref (Ma 19), .ref (Ma 20)])), ((Ma 10), .inl (tc 0, 126, .inl (Mf 10)))] H := hP₀
  replace hD : va_D A [((Ma 0), .inr (12, [.ref (Ma 1), .int (Mv 0), .int (Mv 1), .ref (Ma 2), .ref (Ma 3), .ref (Ma 4), .ref (Ma 5), .ref (Ma 6), .int (Mv 2), .int (Mv 3), .int (Mv 4), .int (Mv 5), .int (Mv 6), .int (Mv 7), .int (Mv 8), .ref (Ma 7), .int (Mv 9), .ref (Ma 8), .int (Mv 10), .ref (Ma 9), .ref (Ma 10), .int (Mv 11), .int (Mv 12), .int (Mv 13), .ref (Ma 11), .int (Mv 14), .ref (Ma 12), .ref (Ma 13), .ref (Ma 14), .ref (Ma 15), .ref (Ma 16), .long (Mj 0), .ref (Ma 17), .ref (Ma 18), .ref (Ma 19), .ref (Ma 20)])), ((Ma 10), .inl (tc 0, 126, .inl (Mf 10)))] := hD₀
  replace hS := hS₀
  clear hP₀ hD₀ hS₀
  obtain ⟨he_5, hq_7⟩ := he_5
  have er_4 : r_4 = (dX12_isBook (Mf 10)) := hq_7
  refine lv_if_eq (tgt := 24) hx hb dX12_clock_4 (by decide) (fun c_8 => ?_) (fun c_8 => ?_)
  · skip
    refine lv_iconst (v := 0) hx hb dX12_clock_24 (by decide) ?_
    have hp_9 : (0 ≤ (0 : Int32).toInt ∧ (0 : Int32).toInt < 10) := by
      have z_1 := congrArg Int32.toInt c_8
      have y_0 : (0 : Int32).toInt = 0 := by decide
      omega
    have hF_10 : (0 : Int32) = (dX12_clock (Mf 10)) := by
      clear hP hD hS hl
      replace er_4 := er_4.symm; subst er_4
      unfold dX12_clock
      rw [if_pos c_8]
      try rfl
    exact retI (v := 0) hx hb hr hlk (rfl) hP hD hS () ⟨_, rfl, ⟨hp_9, hF_10⟩⟩ [0, 1] rfl rfl dX12_clock_25 (Nat.le_of_ble_eq_true rfl) (Nat.le_of_ble_eq_true rfl) rfl
  · skip
    refine lv_aload_n hx hb dX12_clock_7 rfl (lv_at hl 0 rfl) ?_
    refine gf_X12_39 hx hb hts hown hK hP 0 rfl rfl dX12_clock_8 ?_
    refine lv_bipush (v := 10) hx hb dX12_clock_11 (by decide) ?_
    refine va_iald hx hb hK hP 1 0 rfl rfl (vin_dec (by decide +kernel)) dX12_clock_13 ?_
    refine lv_topi (fun x_11 ex_11 => ?_)
    have lx_11 : x_11.toInt = ((Mf 10) 10).toInt := congrArg Int32.toInt ex_11
    refine lv_aload_n hx hb dX12_clock_14 rfl (lv_at hl 0 rfl) ?_
    refine gf_X12_39 hx hb hts hown hK hP 0 rfl rfl dX12_clock_15 ?_
    refine lv_iconst (v := 2) hx hb dX12_clock_18 (by decide) ?_
    refine va_iald hx hb hK hP 1 0 rfl rfl (vin_dec (by decide +kernel)) dX12_clock_19 ?_
    refine lv_topi (fun x_12 ex_12 => ?_)
    have lx_12 : x_12.toInt = ((Mf 10) 2).toInt := congrArg Int32.toInt ex_12
    have hz_13 : ¬ x_12 = 0 := by
      intro z
      have zz : (x_12 : Int32).toInt = 0 := by rw [z]; decide
      have z_1 : ¬ (r_4 : Int32).toInt = (0 : Int32).toInt := fun z => c_8 (Int32.toInt_inj.mp z)
      have y_0 : (0 : Int32).toInt = 0 := by decide
      omega
    refine lv_irem hx hb dX12_clock_20 hz_13 ?_
    refine lv_topi (fun x_14 ex_14 => ?_)
    refine lv_goto (tgt := 25) hx hb dX12_clock_21 (by decide) ?_
    have hp_15 : (0 ≤ (x_14 : Int32).toInt ∧ (x_14 : Int32).toInt < 10) := by
      have z_1 : ¬ (r_4 : Int32).toInt = (0 : Int32).toInt := fun z => c_8 (Int32.toInt_inj.mp z)
      have y_0 : (0 : Int32).toInt = 0 := by decide
      have t_x_14 := rem_bounds (x := x_11) (y := x_12) (by omega)
      rw [← ex_14] at t_x_14
      omega
    have hF_16 : x_14 = (dX12_clock (Mf 10)) := by
      clear hP hD hS hl
      replace er_4 := er_4.symm; subst er_4
      replace ex_11 := ex_11.symm; subst ex_11
      replace ex_12 := ex_12.symm; subst ex_12
      replace ex_14 := ex_14.symm; subst ex_14
      unfold dX12_clock
      rw [if_neg c_8]
      try rfl
    exact retI (v := x_14) hx hb hr hlk (rfl) hP hD hS () ⟨_, rfl, ⟨hp_15, hF_16⟩⟩ [0, 1] rfl rfl dX12_clock_25 (Nat.le_of_ble_eq_true rfl) (Nat.le_of_ble_eq_true rfl) rfl
set_option maxRecDepth 100000 in
theorem cu_dX12_clock {T : Nat → Option Int32} (l : Launch) (D : va_G) (tc : Nat → ClassId) (sk : (Nat → Nat) × (Nat → Nat)) (Ma_0 : Nat) (Ma_1 : Nat) (Ma_2 : Nat) (Ma_3 : Nat) (Ma_4 : Nat) (Ma_5 : Nat) (Ma_6 : Nat) (Ma_7 : Nat) (Ma_8 : Nat) (Ma_9 : Nat) (Ma_10 : Nat) (Ma_11 : Nat) (Ma_12 : Nat) (Ma_13 : Nat) (Ma_14 : Nat) (Ma_15 : Nat) (Ma_16 : Nat) (Ma_17 : Nat) (Ma_18 : Nat) (Ma_19 : Nat) (Ma_20 : Nat) (Mv_0 : Int32) (Mv_1 : Int32) (Mv_2 : Int32) (Mv_3 : Int32) (Mv_4 : Int32) (Mv_5 : Int32) (Mv_6 : Int32) (Mv_7 : Int32) (Mv_8 : Int32) (Mv_9 : Int32) (Mv_10 : Int32) (Mv_11 : Int32) (Mv_12 : Int32) (Mv_13 : Int32) (Mv_14 : Int32) (Mf_10 : Nat → Int32) (Mj_0 : Int64) (d : Int) (h_said : SaidD T Mf_10 d) : Ct l yX12_clock cX12_clock 1 (some .int) { frames := 1, cells := 0, slots := 0, locals := 20 } D tc sk [.ref Ma_0] [(Ma_0, .inr (12, [.ref Ma_1, .int Mv_0, .int Mv_1, .ref Ma_2, .ref Ma_3, .ref Ma_4, .ref Ma_5, .ref Ma_6, .int Mv_2, .int Mv_3, .int Mv_4, .int Mv_5, .int Mv_6, .int Mv_7, .int Mv_8, .ref Ma_7, .int Mv_9, .ref Ma_8, .int Mv_10, .ref Ma_9, .ref Ma_10, .int Mv_11, .int Mv_12, .int Mv_13, .ref Ma_11, .int Mv_14, .ref Ma_12, .ref Ma_13, .ref Ma_14, .ref Ma_15, .ref Ma_16, .long Mj_0, .ref Ma_17, .ref Ma_18, .ref Ma_19, .ref Ma_20])), (Ma_10, .inl (tc 0, 126, .inl Mf_10))] (fun (v : Option Value) (_ : Unit) => ∃ r : Int32, v = some (.int r) ∧ (((0 ≤ r.toInt ∧ r.toInt < 10)) ∧ r = (dX12_clock Mf_10))) (fun (_ : Unit) => [(Ma_0, .inr (12, [.ref Ma_1, .int Mv_0, .int Mv_1, .ref Ma_2, .ref Ma_3, .ref Ma_4, .ref Ma_5, .ref Ma_6, .int Mv_2, .int Mv_3, .int Mv_4, .int Mv_5, .int Mv_6, .int Mv_7, .int Mv_8, .ref Ma_7, .int Mv_9, .ref Ma_8, .int Mv_10, .ref Ma_9, .ref Ma_10, .int Mv_11, .int Mv_12, .int Mv_13, .ref Ma_11, .int Mv_14, .ref Ma_12, .ref Ma_13, .ref Ma_14, .ref Ma_15, .ref Ma_16, .long Mj_0, .ref Ma_17, .ref Ma_18, .ref Ma_19, .ref Ma_20])), (Ma_10, .inl (tc 0, 126, .inl Mf_10))]) 0 0 :=
  ct_dX12_clock l D tc sk (fun k => ([Ma_0, Ma_1, Ma_2, Ma_3, Ma_4, Ma_5, Ma_6, Ma_7, Ma_8, Ma_9, Ma_10, Ma_11, Ma_12, Ma_13, Ma_14, Ma_15, Ma_16, Ma_17, Ma_18, Ma_19, Ma_20] : List (Nat)).getD k 0) (fun k => ([Mv_0, Mv_1, Mv_2, Mv_3, Mv_4, Mv_5, Mv_6, Mv_7, Mv_8, Mv_9, Mv_10, Mv_11, Mv_12, Mv_13, Mv_14] : List (Int32)).getD k 0) (fun k => ([(fun _ => 0), (fun _ => 0), (fun _ => 0), (fun _ => 0), (fun _ => 0), (fun _ => 0), (fun _ => 0), (fun _ => 0), (fun _ => 0), (fun _ => 0), Mf_10] : List (Nat → Int32)).getD k (fun _ => 0)) (fun k => ([Mj_0] : List (Int64)).getD k 0) d h_said
def dX12_soldAll_l4 (Mf_10 : Nat → Int32) : Nat → Int32 → Int32 → Int32 × Int32
  | 0, _, _ => (0, 0)
  | n + 1, yy_500, yy_501 => (if (Mf_10 ((3 : Int32)).toNatClampNeg) ≤ yy_500 then (yy_500, yy_501) else dX12_soldAll_l4 Mf_10 n (yy_500 + 1) (yy_501 + (dX12_boughtBy Mf_10 yy_500)))
theorem dX12_soldAll_l4_s {Mf_10 : Nat → Int32} {n : Nat} {yy_500 : Int32} {yy_501 : Int32} : dX12_soldAll_l4 Mf_10 (n + 1) yy_500 yy_501 = (if (Mf_10 ((3 : Int32)).toNatClampNeg) ≤ yy_500 then (yy_500, yy_501) else dX12_soldAll_l4 Mf_10 n (yy_500 + 1) (yy_501 + (dX12_boughtBy Mf_10 yy_500))) := rfl
def dX12_soldAll (Mf_10 : Nat → Int32) : Int32 := (dX12_soldAll_l4 Mf_10 ((6 - (0 : Int32).toInt).toNat + 1) (0 : Int32) (0 : Int32)).2
set_option maxHeartbeats 4000000 in
set_option maxRecDepth 100000 in
theorem ct_dX12_soldAll {T : Nat → Option Int32} (l : Launch) (D : va_G) (tc : Nat → ClassId) (sk : (Nat → Nat) × (Nat → Nat)) (Ma : Nat → Nat) (Mv : Nat → Int32) (Mf : Nat → Nat → Int32) (Mj : Nat → Int64) (h_said : SaidB T (Mf 10)) : Ct l yX12_soldAll cX12_soldAll 3 (some .int) { frames := 1, cells := 0, slots := 0, locals := 21 } D tc sk [.ref (Ma 0)] [((Ma 0), .inr (12, [.ref (Ma 1), .int (Mv 0), .int (Mv 1), .ref (Ma 2), .ref (Ma 3), .ref (Ma 4), .ref (Ma 5), .ref (Ma 6), .int (Mv 2), .int (Mv 3), .int (Mv 4), .int (Mv 5), .int (Mv 6), .int (Mv 7), .int (Mv 8), .ref (Ma 7), .int (Mv 9), .ref (Ma 8), .int (Mv 10), .ref (Ma 9), .ref (Ma 10), .int (Mv 11), .int (Mv 12), .int (Mv 13), .ref (Ma 11), .int (Mv 14), .ref (Ma 12), .ref (Ma 13), .ref (Ma 14), .ref (Ma 15), .ref (Ma 16), .long (Mj 0), .ref (Ma 17), .ref (Ma 18), .ref (Ma 19), .ref (Ma 20)])), ((Ma 10), .inl (tc 0, 126, .inl (Mf 10)))] (fun (v : Option Value) (_ : Unit) => ∃ r : Int32, v = some (.int r) ∧ ((True) ∧ r = (dX12_soldAll (Mf 10)))) (fun (_ : Unit) => [((Ma 0), .inr (12, [.ref (Ma 1), .int (Mv 0), .int (Mv 1), .ref (Ma 2), .ref (Ma 3), .ref (Ma 4), .ref (Ma 5), .ref (Ma 6), .int (Mv 2), .int (Mv 3), .int (Mv 4), .int (Mv 5), .int (Mv 6), .int (Mv 7), .int (Mv 8), .ref (Ma 7), .int (Mv 9), .ref (Ma 8), .int (Mv 10), .ref (Ma 9), .ref (Ma 10), .int (Mv 11), .int (Mv 12), .int (Mv 13), .ref (Ma 11), .int (Mv 14), .ref (Ma 12), .ref (Ma 13), .ref (Ma 14), .ref (Ma 15), .ref (Ma 16), .long (Mj 0), .ref (Ma 17), .ref (Ma 18), .ref (Ma 19), .ref (Ma 20)])), ((Ma 10), .inl (tc 0, 126, .inl (Mf 10)))]) 0 0 := by
  refine Ct.start (by decide) (Nat.le_of_ble_eq_true rfl) (fun p e s m below meth c A ls hx hb hr hlk hin hml hown hts hK hX hP hD hA hl hS => ?_)
  have hl : lv_has ls 3 [(0, .ref (Ma 0))] := hl
  have ar_h_said := SaidB.ar h_said
  refine lv_iconst (v := 0) hx hb dX12_soldAll_0 (by decide) ?_
  refine lv_istore_n (lv' := [(1, .int 0), (0, .ref (Ma 0))]) hx hb dX12_soldAll_1 rfl hl (by decide) rfl (fun ls hl₀ => ?_)
  replace hl := hl₀
  clear hl₀
  refine lv_iconst (v := 0) hx hb dX12_soldAll_2 (by decide) ?_
  refine lv_istore_n (lv' := [(2, .int 0), (1, .int 0), (0, .ref (Ma 0))]) hx hb dX12_soldAll_3 rfl hl (by decide) rfl (fun ls hl₀ => ?_)
  replace hl := hl₀
  clear hl₀
  have loop_3 : ∀ (n_1 : Nat) (yy_500 : Int32) (yy_501 : Int32) (H : Heap) (locs : List Loc) (ls : Array Slot), (6 - (yy_500 : Int32).toInt).toNat < n_1 → (dX12_soldAll_l4 (Mf 10) ((6 - (0 : Int32).toInt).toNat + 1) (0 : Int32) (0 : Int32)) = dX12_soldAll_l4 (Mf 10) ((6 - (yy_500 : Int32).toInt).toNat + 1) yy_500 yy_501 → (0 ≤ (yy_500 : Int32).toInt) → va_P D classes [((Ma 0), .inr (12, [.ref (Ma 1), .int (Mv 0), .int (Mv 1), .ref (Ma 2), .ref (Ma 3), .ref (Ma 4), .ref (Ma 5), .ref (Ma 6), .int (Mv 2), .int (Mv 3), .int (Mv 4), .int (Mv 5), .int (Mv 6), .int (Mv 7), .int (Mv 8), .ref (Ma 7), .int (Mv 9), .ref (Ma 8), .int (Mv 10), .ref (Ma 9), .ref (Ma 10), .int (Mv 11), .int (Mv 12), .int (Mv 13), .ref (Ma 11), .int (Mv 14), .ref (Ma 12), .ref (Ma 13), .ref (Ma 14), .ref (Ma 15), .ref (Ma 16), .long (Mj 0), .ref (Ma 17), .ref (Ma 18), .ref (Ma 19), .ref (Ma 20)])), ((Ma 10), .inl (tc 0, 126, .inl (Mf 10)))] H → va_D A [((Ma 0), .inr (12, [.ref (Ma 1), .int (Mv 0), .int (Mv 1), .ref (Ma 2), .ref (Ma 3), .ref (Ma 4), .ref (Ma 5), .ref (Ma 6), .int (Mv 2), .int (Mv 3), .int (Mv 4), .int (Mv 5), .int (Mv 6), .int (Mv 7), .int (Mv 8), .ref (Ma 7), .int (Mv 9), .ref (Ma 8), .int (Mv 10), .ref (Ma 9), .ref (Ma 10), .int (Mv 11), .int (Mv 12), .int (Mv 13), .ref (Ma 11), .int (Mv 14), .ref (Ma 12), .ref (Ma 13), .ref (Ma 14), .ref (Ma 15), .ref (Ma 16), .long (Mj 0), .ref (Ma 17), .ref (Ma 18), .ref (Ma 19), .ref (Ma 20)])), ((Ma 10), .inl (tc 0, 126, .inl (Mf 10)))] → va_S A s.heap H locs → lv_has ls 3 [(2, .int yy_500), (1, .int yy_501), (0, .ref (Ma 0))] → W p l e ({ frames := 1, cells := 0, slots := 0, locals := 21 }) s m ([.ref (Ma 0)].toArray) below meth c H locs 0 0 (MQ below (QW (fun (v : Option Value) (_ : Unit) => ∃ r : Int32, v = some (.int r) ∧ ((True) ∧ r = (dX12_soldAll (Mf 10)))) (BW D (fun (_ : Unit) => [((Ma 0), .inr (12, [.ref (Ma 1), .int (Mv 0), .int (Mv 1), .ref (Ma 2), .ref (Ma 3), .ref (Ma 4), .ref (Ma 5), .ref (Ma 6), .int (Mv 2), .int (Mv 3), .int (Mv 4), .int (Mv 5), .int (Mv 6), .int (Mv 7), .int (Mv 8), .ref (Ma 7), .int (Mv 9), .ref (Ma 8), .int (Mv 10), .ref (Ma 9), .ref (Ma 10), .int (Mv 11), .int (Mv 12), .int (Mv 13), .ref (Ma 11), .int (Mv 14), .ref (Ma 12), .ref (Ma 13), .ref (Ma 14), .ref (Ma 15), .ref (Ma 16), .long (Mj 0), .ref (Ma 17), .ref (Ma 18), .ref (Ma 19), .ref (Ma 20)])), ((Ma 10), .inl (tc 0, 126, .inl (Mf 10)))]) A) A) ([.ref (Ma 0)].toArray) s 0 0 A) (F0 m 4 ls []) := by
    clear hP hD hS hl
    intro n_1
    induction n_1 with
    | zero =>
      intro yy_500 yy_501 H locs ls h1
      exact absurd h1 (Nat.not_lt_zero _)
    | succ n_1 ih_2 =>
      intro yy_500 yy_501 H locs ls hn_6 hL_5 pf_4 hP hD hS hl
      refine lv_iload_n hx hb dX12_soldAll_4 rfl (lv_at hl 0 rfl) ?_
      refine lv_aload_n hx hb dX12_soldAll_5 rfl (lv_at hl 2 rfl) ?_
      refine gf_X12_39 hx hb hts hown hK hP 0 rfl rfl dX12_soldAll_6 ?_
      refine lv_iconst (v := 3) hx hb dX12_soldAll_9 (by decide) ?_
      refine va_iald hx hb hK hP 1 0 rfl rfl (vin_dec (by decide +kernel)) dX12_soldAll_10 ?_
      refine lv_topi (fun x_7 ex_7 => ?_)
      have lx_7 : x_7.toInt = ((Mf 10) 3).toInt := congrArg Int32.toInt ex_7
      refine lv_icmp_ge (tgt := 28) hx hb dX12_soldAll_11 (by decide) (fun c_8 => ?_) (fun c_8 => ?_)
      · skip
        have hb_10 : dX12_soldAll_l4 (Mf 10) ((6 - (yy_500 : Int32).toInt).toNat + 1) yy_500 yy_501 = (yy_500, yy_501) := by
          clear hP hD hS hl ih_2
          replace ex_7 := ex_7.symm; subst ex_7
          rw [dX12_soldAll_l4_s]
          rw [if_pos c_8]
          try rfl
        have hX_9 : (dX12_soldAll_l4 (Mf 10) ((6 - (0 : Int32).toInt).toNat + 1) (0 : Int32) (0 : Int32)) = (yy_500, yy_501) := hL_5.trans hb_10
        have hX_9_0 : (dX12_soldAll_l4 (Mf 10) ((6 - (0 : Int32).toInt).toNat + 1) (0 : Int32) (0 : Int32)).1 = yy_500 := congrArg (fun z => z.1) hX_9
        have hX_9_1 : (dX12_soldAll_l4 (Mf 10) ((6 - (0 : Int32).toInt).toNat + 1) (0 : Int32) (0 : Int32)).2 = yy_501 := congrArg (fun z => z.2) hX_9
        refine lv_iload_n hx hb dX12_soldAll_28 rfl (lv_at hl 1 rfl) ?_
        have hF_11 : yy_501 = (dX12_soldAll (Mf 10)) := by
          clear hP hD hS hl ih_2
          replace ex_7 := ex_7.symm; subst ex_7
          unfold dX12_soldAll
          try rw [hX_9_0]
          try rw [hX_9_1]
          try rfl
        exact retI (v := yy_501) hx hb hr hlk (rfl) hP hD hS () ⟨_, rfl, ⟨trivial, hF_11⟩⟩ [0, 1] rfl rfl dX12_soldAll_29 (Nat.le_of_ble_eq_true rfl) (Nat.le_of_ble_eq_true rfl) rfl
      · skip
        refine lv_iload_n hx hb dX12_soldAll_14 rfl (lv_at hl 1 rfl) ?_
        refine lv_aload_n hx hb dX12_soldAll_15 rfl (lv_at hl 2 rfl) ?_
        refine lv_iload_n hx hb dX12_soldAll_16 rfl (lv_at hl 0 rfl) ?_
        have ha_12 : 0 ≤ yy_500.toInt ∧ yy_500.toInt < 6 := by
          have z_1 := Int32.lt_iff_toInt_lt.mp (Int32.not_le.mp c_8)
          omega
        refine cV (a := (Ma 0)) (As := [.int yy_500]) (rest := [.int yy_501]) (wr := []) ⟨hx, hb, hml, hown, hts⟩ hK hX hA (cu_dX12_boughtBy l D tc sk (Ma 0) (Ma 1) (Ma 2) (Ma 3) (Ma 4) (Ma 5) (Ma 6) (Ma 7) (Ma 8) (Ma 9) (Ma 10) (Ma 11) (Ma 12) (Ma 13) (Ma 14) (Ma 15) (Ma 16) (Ma 17) (Ma 18) (Ma 19) (Ma 20) (Mv 0) (Mv 1) (Mv 2) (Mv 3) (Mv 4) (Mv 5) (Mv 6) (Mv 7) (Mv 8) (Mv 9) (Mv 10) (Mv 11) (Mv 12) (Mv 13) (Mv 14) (Mf 10) (Mj 0) yy_500 ha_12) k_1383 k_1380 k_1382 k_60 k_106 pl_X12_boughtBy ⟨Nat.le_of_ble_eq_true rfl, Nat.le_of_ble_eq_true rfl⟩ rfl rfl (va_recv hK hP (ci := 12) (q0 := 0) rfl rfl) hP hD hS [0, 1] [] rfl rfl rfl rfl rfl (by decide) rfl hl.1 rfl (Nat.le_of_ble_eq_true rfl) dX12_soldAll_17 ⟨Nat.le_of_ble_eq_true rfl, Nat.le_of_ble_eq_true rfl⟩ (fun v_13 u_14 H locs hv_15 hP₀ hD₀ hS₀ => ?_)
        obtain ⟨r_16, rfl, he_17⟩ := hv_15
        have he_17 : (True) ∧ r_16 = (dX12_boughtBy (Mf 10) yy_500) := he_17
        refine W.eq (g2 := F0 m 20 ls [.int r_16, .int yy_501]) rfl ?_
        replace hP : va_P D classes [((Ma 0), .inr (12, [.ref (Ma 1), .int (Mv 0), .int (Mv 1), .ref (Ma 2), .ref (Ma 3), .ref (Ma 4), .ref (Ma 5), .ref (Ma 6), .int (Mv 2), .int (Mv 3), .int (Mv 4), .int (Mv 5), .int (Mv 6), .int (Mv 7), .int (Mv 8), .ref (Ma 7), .int (Mv 9), .ref (Ma 8), .int (Mv 10), .ref (Ma 9), .ref (Ma 10), .int (Mv 11), .int (Mv 12), .int (Mv 13), .ref (Ma 11), .int (Mv 14), .ref (Ma 12), .ref (Ma 13), .ref (Ma 14), .ref (Ma 15), .ref (Ma 16), .long (Mj 0), .ref (Ma 17), .ref (Ma 18), .ref (Ma 19), .ref (Ma 20)])), ((Ma 10), .inl (tc 0, 126, .inl (Mf 10)))] H := hP₀
        replace hD : va_D A [((Ma 0), .inr (12, [.ref (Ma 1), .int (Mv 0), .int (Mv 1), .ref (Ma 2), .ref (Ma 3), .ref (Ma 4), .ref (Ma 5), .ref (Ma 6), .int (Mv 2), .int (Mv 3), .int (Mv 4), .int (Mv 5), .int (Mv 6), .int (Mv 7), .int (Mv 8), .ref (Ma 7), .int (Mv 9), .ref (Ma 8), .int (Mv 10), .ref (Ma 9), .ref (Ma 10), .int (Mv 11), .int (Mv 12), .int (Mv 13), .ref (Ma 11), .int (Mv 14), .ref (Ma 12), .ref (Ma 13), .ref (Ma 14), .ref (Ma 15), .ref (Ma 16), .long (Mj 0), .ref (Ma 17), .ref (Ma 18), .ref (Ma 19), .ref (Ma 20)])), ((Ma 10), .inl (tc 0, 126, .inl (Mf 10)))] := hD₀
        replace hS := hS₀
        clear hP₀ hD₀ hS₀
        obtain ⟨he_17, hq_19⟩ := he_17
        have er_16 : r_16 = (dX12_boughtBy (Mf 10) yy_500) := hq_19
        refine lv_iadd hx hb dX12_soldAll_20 ?_
        refine lv_topi (fun x_20 ex_20 => ?_)
        refine lv_istore_n (lv' := [(1, .int x_20), (2, .int yy_500), (0, .ref (Ma 0))]) hx hb dX12_soldAll_21 rfl hl (by decide) rfl (fun ls hl₀ => ?_)
        replace hl := hl₀
        clear hl₀
        obtain ⟨x_21, ex_21⟩ : ∃ y : Int32, y = yy_500 + 1 := ⟨_, rfl⟩
        refine lv_iinc (v := x_21) (lv' := [(2, .int x_21), (1, .int x_20), (0, .ref (Ma 0))]) hx hb dX12_soldAll_22 hl (k := 1) rfl (by rw [ex_21]; rfl) (by decide) rfl (fun ls hl₀ => ?_)
        replace hl := hl₀
        clear hl₀
        refine lv_goto (tgt := 4) hx hb dX12_soldAll_25 (by decide) ?_
        have hb_22 : 6 - (x_21 : Int32).toInt < 6 - (yy_500 : Int32).toInt ∧ 1 ≤ 6 - (yy_500 : Int32).toInt := by
          have z_1 := Int32.lt_iff_toInt_lt.mp (Int32.not_le.mp c_8)
          have y_1 : (1 : Int32).toInt = 1 := by decide
          have t_x_21 : x_21.toInt = (yy_500 : Int32).toInt + (1 : Int32).toInt := by rw [ex_21]; exact add_toInt (by omega) (by omega)
          omega
        have hm_23 : (6 - (yy_500 : Int32).toInt).toNat = (6 - (x_21 : Int32).toInt).toNat + 1 := by
          have z_1 := Int32.lt_iff_toInt_lt.mp (Int32.not_le.mp c_8)
          have y_1 : (1 : Int32).toInt = 1 := by decide
          have t_x_21 : x_21.toInt = (yy_500 : Int32).toInt + (1 : Int32).toInt := by rw [ex_21]; exact add_toInt (by omega) (by omega)
          omega
        have hb_24 : dX12_soldAll_l4 (Mf 10) ((6 - (yy_500 : Int32).toInt).toNat + 1) yy_500 yy_501 = dX12_soldAll_l4 (Mf 10) ((6 - (yy_500 : Int32).toInt).toNat) x_21 x_20 := by
          clear hP hD hS hl ih_2
          replace ex_7 := ex_7.symm; subst ex_7
          replace er_16 := er_16.symm; subst er_16
          replace ex_20 := ex_20.symm; subst ex_20
          replace ex_21 := ex_21.symm; subst ex_21
          rw [dX12_soldAll_l4_s]
          rw [if_neg c_8]
          try rfl
        have hL_25 : (dX12_soldAll_l4 (Mf 10) ((6 - (0 : Int32).toInt).toNat + 1) (0 : Int32) (0 : Int32)) = dX12_soldAll_l4 (Mf 10) ((6 - (x_21 : Int32).toInt).toNat + 1) x_21 x_20 := by
          rw [hL_5, hb_24, hm_23]
        have ha_26 : 0 ≤ (x_21 : Int32).toInt := by
          have z_1 := Int32.lt_iff_toInt_lt.mp (Int32.not_le.mp c_8)
          have y_1 : (1 : Int32).toInt = 1 := by decide
          have t_x_21 : x_21.toInt = (yy_500 : Int32).toInt + (1 : Int32).toInt := by rw [ex_21]; exact add_toInt (by omega) (by omega)
          omega
        exact ih_2 x_21 x_20 _ _ _ (by omega) hL_25 ha_26 (hP.sub [0, 1] rfl) (hD.sub [0, 1] rfl rfl) hS (lv_sub hl [0, 1, 2] rfl)
  have ha_27 : 0 ≤ (0 : Int32).toInt := by
    have y_0 : (0 : Int32).toInt = 0 := by decide
    omega
  exact loop_3 _ 0 0 _ _ _ (Nat.lt_succ_self _) rfl ha_27 hP hD hS hl
set_option maxRecDepth 100000 in
theorem cu_dX12_soldAll {T : Nat → Option Int32} (l : Launch) (D : va_G) (tc : Nat → ClassId) (sk : (Nat → Nat) × (Nat → Nat)) (Ma_0 : Nat) (Ma_1 : Nat) (Ma_2 : Nat) (Ma_3 : Nat) (Ma_4 : Nat) (Ma_5 : Nat) (Ma_6 : Nat) (Ma_7 : Nat) (Ma_8 : Nat) (Ma_9 : Nat) (Ma_10 : Nat) (Ma_11 : Nat) (Ma_12 : Nat) (Ma_13 : Nat) (Ma_14 : Nat) (Ma_15 : Nat) (Ma_16 : Nat) (Ma_17 : Nat) (Ma_18 : Nat) (Ma_19 : Nat) (Ma_20 : Nat) (Mv_0 : Int32) (Mv_1 : Int32) (Mv_2 : Int32) (Mv_3 : Int32) (Mv_4 : Int32) (Mv_5 : Int32) (Mv_6 : Int32) (Mv_7 : Int32) (Mv_8 : Int32) (Mv_9 : Int32) (Mv_10 : Int32) (Mv_11 : Int32) (Mv_12 : Int32) (Mv_13 : Int32) (Mv_14 : Int32) (Mf_10 : Nat → Int32) (Mj_0 : Int64) (h_said : SaidB T Mf_10) : Ct l yX12_soldAll cX12_soldAll 3 (some .int) { frames := 1, cells := 0, slots := 0, locals := 21 } D tc sk [.ref Ma_0] [(Ma_0, .inr (12, [.ref Ma_1, .int Mv_0, .int Mv_1, .ref Ma_2, .ref Ma_3, .ref Ma_4, .ref Ma_5, .ref Ma_6, .int Mv_2, .int Mv_3, .int Mv_4, .int Mv_5, .int Mv_6, .int Mv_7, .int Mv_8, .ref Ma_7, .int Mv_9, .ref Ma_8, .int Mv_10, .ref Ma_9, .ref Ma_10, .int Mv_11, .int Mv_12, .int Mv_13, .ref Ma_11, .int Mv_14, .ref Ma_12, .ref Ma_13, .ref Ma_14, .ref Ma_15, .ref Ma_16, .long Mj_0, .ref Ma_17, .ref Ma_18, .ref Ma_19, .ref Ma_20])), (Ma_10, .inl (tc 0, 126, .inl Mf_10))] (fun (v : Option Value) (_ : Unit) => ∃ r : Int32, v = some (.int r) ∧ ((True) ∧ r = (dX12_soldAll Mf_10))) (fun (_ : Unit) => [(Ma_0, .inr (12, [.ref Ma_1, .int Mv_0, .int Mv_1, .ref Ma_2, .ref Ma_3, .ref Ma_4, .ref Ma_5, .ref Ma_6, .int Mv_2, .int Mv_3, .int Mv_4, .int Mv_5, .int Mv_6, .int Mv_7, .int Mv_8, .ref Ma_7, .int Mv_9, .ref Ma_8, .int Mv_10, .ref Ma_9, .ref Ma_10, .int Mv_11, .int Mv_12, .int Mv_13, .ref Ma_11, .int Mv_14, .ref Ma_12, .ref Ma_13, .ref Ma_14, .ref Ma_15, .ref Ma_16, .long Mj_0, .ref Ma_17, .ref Ma_18, .ref Ma_19, .ref Ma_20])), (Ma_10, .inl (tc 0, 126, .inl Mf_10))]) 0 0 :=
  ct_dX12_soldAll l D tc sk (fun k => ([Ma_0, Ma_1, Ma_2, Ma_3, Ma_4, Ma_5, Ma_6, Ma_7, Ma_8, Ma_9, Ma_10, Ma_11, Ma_12, Ma_13, Ma_14, Ma_15, Ma_16, Ma_17, Ma_18, Ma_19, Ma_20] : List (Nat)).getD k 0) (fun k => ([Mv_0, Mv_1, Mv_2, Mv_3, Mv_4, Mv_5, Mv_6, Mv_7, Mv_8, Mv_9, Mv_10, Mv_11, Mv_12, Mv_13, Mv_14] : List (Int32)).getD k 0) (fun k => ([(fun _ => 0), (fun _ => 0), (fun _ => 0), (fun _ => 0), (fun _ => 0), (fun _ => 0), (fun _ => 0), (fun _ => 0), (fun _ => 0), (fun _ => 0), Mf_10] : List (Nat → Int32)).getD k (fun _ => 0)) (fun k => ([Mj_0] : List (Int64)).getD k 0) h_said
def dX12_canBuy (Mf_10 : Nat → Int32) (x1 : Int32) : Int32 := (if (Mf_10 ((11 : Int32)).toNatClampNeg) < (Mf_10 (((56 : Int32) + x1)).toNatClampNeg) then (0 : Int32) else (if (dX12_lastOf Mf_10 x1) < (0 : Int32) then (1 : Int32) else (if ((Mf_10 ((10 : Int32)).toNatClampNeg) - (dX12_lastOf Mf_10 x1)) ≤ (Mf_10 (((62 : Int32) + x1)).toNatClampNeg) then (0 : Int32) else (1 : Int32))))
set_option maxHeartbeats 4000000 in
set_option maxRecDepth 100000 in
theorem ct_dX12_canBuy (l : Launch) (D : va_G) (tc : Nat → ClassId) (sk : (Nat → Nat) × (Nat → Nat)) (Ma : Nat → Nat) (Mv : Nat → Int32) (Mf : Nat → Nat → Int32) (Mj : Nat → Int64) (x1 : Int32) (h_b : 0 ≤ x1.toInt ∧ x1.toInt < 6) : Ct l yX12_canBuy cX12_canBuy 2 (some .boolean) { frames := 1, cells := 0, slots := 0, locals := 21 } D tc sk [.ref (Ma 0), .int x1] [((Ma 0), .inr (12, [.ref (Ma 1), .int (Mv 0), .int (Mv 1), .ref (Ma 2), .ref (Ma 3), .ref (Ma 4), .ref (Ma 5), .ref (Ma 6), .int (Mv 2), .int (Mv 3), .int (Mv 4), .int (Mv 5), .int (Mv 6), .int (Mv 7), .int (Mv 8), .ref (Ma 7), .int (Mv 9), .ref (Ma 8), .int (Mv 10), .ref (Ma 9), .ref (Ma 10), .int (Mv 11), .int (Mv 12), .int (Mv 13), .ref (Ma 11), .int (Mv 14), .ref (Ma 12), .ref (Ma 13), .ref (Ma 14), .ref (Ma 15), .ref (Ma 16), .long (Mj 0), .ref (Ma 17), .ref (Ma 18), .ref (Ma 19), .ref (Ma 20)])), ((Ma 10), .inl (tc 0, 126, .inl (Mf 10)))] (fun (v : Option Value) (_ : Unit) => ∃ r : Int32, v = some (.int r) ∧ (((r.toInt = 0 ∨ r.toInt = 1)) ∧ r = (dX12_canBuy (Mf 10) x1))) (fun (_ : Unit) => [((Ma 0), .inr (12, [.ref (Ma 1), .int (Mv 0), .int (Mv 1), .ref (Ma 2), .ref (Ma 3), .ref (Ma 4), .ref (Ma 5), .ref (Ma 6), .int (Mv 2), .int (Mv 3), .int (Mv 4), .int (Mv 5), .int (Mv 6), .int (Mv 7), .int (Mv 8), .ref (Ma 7), .int (Mv 9), .ref (Ma 8), .int (Mv 10), .ref (Ma 9), .ref (Ma 10), .int (Mv 11), .int (Mv 12), .int (Mv 13), .ref (Ma 11), .int (Mv 14), .ref (Ma 12), .ref (Ma 13), .ref (Ma 14), .ref (Ma 15), .ref (Ma 16), .long (Mj 0), .ref (Ma 17), .ref (Ma 18), .ref (Ma 19), .ref (Ma 20)])), ((Ma 10), .inl (tc 0, 126, .inl (Mf 10)))]) 0 0 := by
  refine Ct.start (by decide) (Nat.le_of_ble_eq_true rfl) (fun p e s m below meth c A ls hx hb hr hlk hin hml hown hts hK hX hP hD hA hl hS => ?_)
  have hl : lv_has ls 2 [(0, .ref (Ma 0)), (1, .int x1)] := hl
  refine lv_aload_n hx hb dX12_canBuy_0 rfl (lv_at hl 0 rfl) ?_
  refine gf_X12_39 hx hb hts hown hK hP 0 rfl rfl dX12_canBuy_1 ?_
  refine lv_bipush (v := 11) hx hb dX12_canBuy_4 (by decide) ?_
  refine va_iald hx hb hK hP 1 0 rfl rfl (vin_dec (by decide +kernel)) dX12_canBuy_6 ?_
  refine lv_topi (fun x_1 ex_1 => ?_)
  refine lv_aload_n hx hb dX12_canBuy_7 rfl (lv_at hl 0 rfl) ?_
  refine gf_X12_39 hx hb hts hown hK hP 0 rfl rfl dX12_canBuy_8 ?_
  refine lv_bipush (v := 56) hx hb dX12_canBuy_11 (by decide) ?_
  refine lv_iload_n hx hb dX12_canBuy_13 rfl (lv_at hl 1 rfl) ?_
  refine lv_iadd hx hb dX12_canBuy_14 ?_
  refine lv_topi (fun x_2 ex_2 => ?_)
  have hi_3 : vp_in x_2 126 := by
    have y_56 : (56 : Int32).toInt = 56 := by decide
    have t_x_2 : x_2.toInt = (56 : Int32).toInt + (x1 : Int32).toInt := by rw [ex_2]; exact add_toInt (by omega) (by omega)
    refine vp_in_iff.mpr ⟨?_, ?_⟩ <;> omega
  refine va_iald hx hb hK hP 1 0 rfl rfl hi_3 dX12_canBuy_15 ?_
  refine lv_topi (fun x_4 ex_4 => ?_)
  refine lv_icmp_lt (tgt := 56) hx hb dX12_canBuy_16 (by decide) (fun c_5 => ?_) (fun c_5 => ?_)
  · skip
    refine lv_iconst (v := 0) hx hb dX12_canBuy_56 (by decide) ?_
    have hp_6 : ((0 : Int32).toInt = 0 ∨ (0 : Int32).toInt = 1) := by
      have z_1 := Int32.lt_iff_toInt_lt.mp c_5
      have y_0 : (0 : Int32).toInt = 0 := by decide
      have yr : (0 : Int32).toInt = 0 := by decide
      omega
    have hF_7 : (0 : Int32) = (dX12_canBuy (Mf 10) x1) := by
      clear hP hD hS hl
      replace ex_1 := ex_1.symm; subst ex_1
      replace ex_2 := ex_2.symm; subst ex_2
      replace ex_4 := ex_4.symm; subst ex_4
      unfold dX12_canBuy
      rw [if_pos c_5]
      try rfl
    exact retI (v := 0) hx hb hr hlk (rfl) hP hD hS () ⟨_, rfl, ⟨hp_6, hF_7⟩⟩ [0, 1] rfl rfl dX12_canBuy_57 (Nat.le_of_ble_eq_true rfl) (Nat.le_of_ble_eq_true rfl) rfl
  · skip
    refine lv_aload_n hx hb dX12_canBuy_19 rfl (lv_at hl 0 rfl) ?_
    refine lv_iload_n hx hb dX12_canBuy_20 rfl (lv_at hl 1 rfl) ?_
    refine cV (a := (Ma 0)) (As := [.int x1]) (rest := []) (wr := []) ⟨hx, hb, hml, hown, hts⟩ hK hX hA (cu_dX12_lastOf l D tc sk (Ma 0) (Ma 1) (Ma 2) (Ma 3) (Ma 4) (Ma 5) (Ma 6) (Ma 7) (Ma 8) (Ma 9) (Ma 10) (Ma 11) (Ma 12) (Ma 13) (Ma 14) (Ma 15) (Ma 16) (Ma 17) (Ma 18) (Ma 19) (Ma 20) (Mv 0) (Mv 1) (Mv 2) (Mv 3) (Mv 4) (Mv 5) (Mv 6) (Mv 7) (Mv 8) (Mv 9) (Mv 10) (Mv 11) (Mv 12) (Mv 13) (Mv 14) (Mf 10) (Mj 0) x1 h_b) k_1395 k_1392 k_1394 k_63 k_106 pl_X12_lastOf ⟨Nat.le_of_ble_eq_true rfl, Nat.le_of_ble_eq_true rfl⟩ rfl rfl (va_recv hK hP (ci := 12) (q0 := 0) rfl rfl) hP hD hS [0, 1] [] rfl rfl rfl rfl rfl (by decide) rfl hl.1 rfl (Nat.le_of_ble_eq_true rfl) dX12_canBuy_21 ⟨Nat.le_of_ble_eq_true rfl, Nat.le_of_ble_eq_true rfl⟩ (fun v_8 u_9 H locs hv_10 hP₀ hD₀ hS₀ => ?_)
    obtain ⟨r_11, rfl, he_12⟩ := hv_10
    have he_12 : (True) ∧ r_11 = (dX12_lastOf (Mf 10) x1) := he_12
    refine W.eq (g2 := F0 m 24 ls [.int r_11]) rfl ?_
    replace hP : va_P D classes [((Ma 0), .inr (12, [.ref (Ma 1), .int (Mv 0), .int (Mv 1), .ref (Ma 2), .ref (Ma 3), .ref (Ma 4), .ref (Ma 5), .ref (Ma 6), .int (Mv 2), .int (Mv 3), .int (Mv 4), .int (Mv 5), .int (Mv 6), .int (Mv 7), .int (Mv 8), .ref (Ma 7), .int (Mv 9), .ref (Ma 8), .int (Mv 10), .ref (Ma 9), .ref (Ma 10), .int (Mv 11), .int (Mv 12), .int (Mv 13), .ref (Ma 11), .int (Mv 14), .ref (Ma 12), .ref (Ma 13), .ref (Ma 14), .ref (Ma 15), .ref (Ma 16), .long (Mj 0), .ref (Ma 17), .ref (Ma 18), .ref (Ma 19), .ref (Ma 20)])), ((Ma 10), .inl (tc 0, 126, .inl (Mf 10)))] H := hP₀
    replace hD : va_D A [((Ma 0), .inr (12, [.ref (Ma 1), .int (Mv 0), .int (Mv 1), .ref (Ma 2), .ref (Ma 3), .ref (Ma 4), .ref (Ma 5), .ref (Ma 6), .int (Mv 2), .int (Mv 3), .int (Mv 4), .int (Mv 5), .int (Mv 6), .int (Mv 7), .int (Mv 8), .ref (Ma 7), .int (Mv 9), .ref (Ma 8), .int (Mv 10), .ref (Ma 9), .ref (Ma 10), .int (Mv 11), .int (Mv 12), .int (Mv 13), .ref (Ma 11), .int (Mv 14), .ref (Ma 12), .ref (Ma 13), .ref (Ma 14), .ref (Ma 15), .ref (Ma 16), .long (Mj 0), .ref (Ma 17), .ref (Ma 18), .ref (Ma 19), .ref (Ma 20)])), ((Ma 10), .inl (tc 0, 126, .inl (Mf 10)))] := hD₀
    replace hS := hS₀
    clear hP₀ hD₀ hS₀
    obtain ⟨he_12, hq_14⟩ := he_12
    have er_11 : r_11 = (dX12_lastOf (Mf 10) x1) := hq_14
    refine lv_if_lt (tgt := 52) hx hb dX12_canBuy_24 (by decide) (fun c_15 => ?_) (fun c_15 => ?_)
    · skip
      refine lv_iconst (v := 1) hx hb dX12_canBuy_52 (by decide) ?_
      refine lv_goto (tgt := 57) hx hb dX12_canBuy_53 (by decide) ?_
      have hp_16 : ((1 : Int32).toInt = 0 ∨ (1 : Int32).toInt = 1) := by
        have z_1 := Int32.le_iff_toInt_le.mp (Int32.not_lt.mp c_5)
        have z_2 := Int32.lt_iff_toInt_lt.mp c_15
        have y_0 : (0 : Int32).toInt = 0 := by decide
        have y_1 : (1 : Int32).toInt = 1 := by decide
        have yr : (1 : Int32).toInt = 1 := by decide
        omega
      have hF_17 : (1 : Int32) = (dX12_canBuy (Mf 10) x1) := by
        clear hP hD hS hl
        replace ex_1 := ex_1.symm; subst ex_1
        replace ex_2 := ex_2.symm; subst ex_2
        replace ex_4 := ex_4.symm; subst ex_4
        replace er_11 := er_11.symm; subst er_11
        unfold dX12_canBuy
        rw [if_neg c_5, if_pos c_15]
        try rfl
      exact retI (v := 1) hx hb hr hlk (rfl) hP hD hS () ⟨_, rfl, ⟨hp_16, hF_17⟩⟩ [0, 1] rfl rfl dX12_canBuy_57 (Nat.le_of_ble_eq_true rfl) (Nat.le_of_ble_eq_true rfl) rfl
    · skip
      refine lv_aload_n hx hb dX12_canBuy_27 rfl (lv_at hl 0 rfl) ?_
      refine gf_X12_39 hx hb hts hown hK hP 0 rfl rfl dX12_canBuy_28 ?_
      refine lv_bipush (v := 10) hx hb dX12_canBuy_31 (by decide) ?_
      refine va_iald hx hb hK hP 1 0 rfl rfl (vin_dec (by decide +kernel)) dX12_canBuy_33 ?_
      refine lv_topi (fun x_18 ex_18 => ?_)
      refine lv_aload_n hx hb dX12_canBuy_34 rfl (lv_at hl 0 rfl) ?_
      refine lv_iload_n hx hb dX12_canBuy_35 rfl (lv_at hl 1 rfl) ?_
      refine cV (a := (Ma 0)) (As := [.int x1]) (rest := [.int x_18]) (wr := []) ⟨hx, hb, hml, hown, hts⟩ hK hX hA (cu_dX12_lastOf l D tc sk (Ma 0) (Ma 1) (Ma 2) (Ma 3) (Ma 4) (Ma 5) (Ma 6) (Ma 7) (Ma 8) (Ma 9) (Ma 10) (Ma 11) (Ma 12) (Ma 13) (Ma 14) (Ma 15) (Ma 16) (Ma 17) (Ma 18) (Ma 19) (Ma 20) (Mv 0) (Mv 1) (Mv 2) (Mv 3) (Mv 4) (Mv 5) (Mv 6) (Mv 7) (Mv 8) (Mv 9) (Mv 10) (Mv 11) (Mv 12) (Mv 13) (Mv 14) (Mf 10) (Mj 0) x1 h_b) k_1395 k_1392 k_1394 k_63 k_106 pl_X12_lastOf ⟨Nat.le_of_ble_eq_true rfl, Nat.le_of_ble_eq_true rfl⟩ rfl rfl (va_recv hK hP (ci := 12) (q0 := 0) rfl rfl) hP hD hS [0, 1] [] rfl rfl rfl rfl rfl (by decide) rfl hl.1 rfl (Nat.le_of_ble_eq_true rfl) dX12_canBuy_36 ⟨Nat.le_of_ble_eq_true rfl, Nat.le_of_ble_eq_true rfl⟩ (fun v_19 u_20 H locs hv_21 hP₀ hD₀ hS₀ => ?_)
      obtain ⟨r_22, rfl, he_23⟩ := hv_21
      have he_23 : (True) ∧ r_22 = (dX12_lastOf (Mf 10) x1) := he_23
      refine W.eq (g2 := F0 m 39 ls [.int r_22, .int x_18]) rfl ?_
      replace hP : va_P D classes [((Ma 0), .inr (12, [.ref (Ma 1), .int (Mv 0), .int (Mv 1), .ref (Ma 2), .ref (Ma 3), .ref (Ma 4), .ref (Ma 5), .ref (Ma 6), .int (Mv 2), .int (Mv 3), .int (Mv 4), .int (Mv 5), .int (Mv 6), .int (Mv 7), .int (Mv 8), .ref (Ma 7), .int (Mv 9), .ref (Ma 8), .int (Mv 10), .ref (Ma 9), .ref (Ma 10), .int (Mv 11), .int (Mv 12), .int (Mv 13), .ref (Ma 11), .int (Mv 14), .ref (Ma 12), .ref (Ma 13), .ref (Ma 14), .ref (Ma 15), .ref (Ma 16), .long (Mj 0), .ref (Ma 17), .ref (Ma 18), .ref (Ma 19), .ref (Ma 20)])), ((Ma 10), .inl (tc 0, 126, .inl (Mf 10)))] H := hP₀
      replace hD : va_D A [((Ma 0), .inr (12, [.ref (Ma 1), .int (Mv 0), .int (Mv 1), .ref (Ma 2), .ref (Ma 3), .ref (Ma 4), .ref (Ma 5), .ref (Ma 6), .int (Mv 2), .int (Mv 3), .int (Mv 4), .int (Mv 5), .int (Mv 6), .int (Mv 7), .int (Mv 8), .ref (Ma 7), .int (Mv 9), .ref (Ma 8), .int (Mv 10), .ref (Ma 9), .ref (Ma 10), .int (Mv 11), .int (Mv 12), .int (Mv 13), .ref (Ma 11), .int (Mv 14), .ref (Ma 12), .ref (Ma 13), .ref (Ma 14), .ref (Ma 15), .ref (Ma 16), .long (Mj 0), .ref (Ma 17), .ref (Ma 18), .ref (Ma 19), .ref (Ma 20)])), ((Ma 10), .inl (tc 0, 126, .inl (Mf 10)))] := hD₀
      replace hS := hS₀
      clear hP₀ hD₀ hS₀
      obtain ⟨he_23, hq_25⟩ := he_23
      have er_22 : r_22 = (dX12_lastOf (Mf 10) x1) := hq_25
      refine lv_isub hx hb dX12_canBuy_39 ?_
      refine lv_topi (fun x_26 ex_26 => ?_)
      refine lv_aload_n hx hb dX12_canBuy_40 rfl (lv_at hl 0 rfl) ?_
      refine gf_X12_39 hx hb hts hown hK hP 0 rfl rfl dX12_canBuy_41 ?_
      refine lv_bipush (v := 62) hx hb dX12_canBuy_44 (by decide) ?_
      refine lv_iload_n hx hb dX12_canBuy_46 rfl (lv_at hl 1 rfl) ?_
      refine lv_iadd hx hb dX12_canBuy_47 ?_
      refine lv_topi (fun x_27 ex_27 => ?_)
      have hi_28 : vp_in x_27 126 := by
        have z_1 := Int32.le_iff_toInt_le.mp (Int32.not_lt.mp c_5)
        have z_2 := Int32.le_iff_toInt_le.mp (Int32.not_lt.mp c_15)
        have y_0 : (0 : Int32).toInt = 0 := by decide
        have y_62 : (62 : Int32).toInt = 62 := by decide
        have t_x_27 : x_27.toInt = (62 : Int32).toInt + (x1 : Int32).toInt := by rw [ex_27]; exact add_toInt (by omega) (by omega)
        refine vp_in_iff.mpr ⟨?_, ?_⟩ <;> omega
      refine va_iald hx hb hK hP 1 0 rfl rfl hi_28 dX12_canBuy_48 ?_
      refine lv_topi (fun x_29 ex_29 => ?_)
      refine lv_icmp_le (tgt := 56) hx hb dX12_canBuy_49 (by decide) (fun c_30 => ?_) (fun c_30 => ?_)
      · skip
        refine lv_iconst (v := 0) hx hb dX12_canBuy_56 (by decide) ?_
        have hp_31 : ((0 : Int32).toInt = 0 ∨ (0 : Int32).toInt = 1) := by
          have z_1 := Int32.le_iff_toInt_le.mp (Int32.not_lt.mp c_5)
          have z_2 := Int32.le_iff_toInt_le.mp (Int32.not_lt.mp c_15)
          have z_3 := Int32.le_iff_toInt_le.mp c_30
          have y_0 : (0 : Int32).toInt = 0 := by decide
          omega
        have hF_32 : (0 : Int32) = (dX12_canBuy (Mf 10) x1) := by
          clear hP hD hS hl
          replace ex_1 := ex_1.symm; subst ex_1
          replace ex_2 := ex_2.symm; subst ex_2
          replace ex_4 := ex_4.symm; subst ex_4
          replace er_11 := er_11.symm; subst er_11
          replace ex_18 := ex_18.symm; subst ex_18
          replace er_22 := er_22.symm; subst er_22
          replace ex_26 := ex_26.symm; subst ex_26
          replace ex_27 := ex_27.symm; subst ex_27
          replace ex_29 := ex_29.symm; subst ex_29
          unfold dX12_canBuy
          rw [if_neg c_5, if_neg c_15, if_pos c_30]
          try rfl
        exact retI (v := 0) hx hb hr hlk (rfl) hP hD hS () ⟨_, rfl, ⟨hp_31, hF_32⟩⟩ [0, 1] rfl rfl dX12_canBuy_57 (Nat.le_of_ble_eq_true rfl) (Nat.le_of_ble_eq_true rfl) rfl
      · skip
        refine lv_iconst (v := 1) hx hb dX12_canBuy_52 (by decide) ?_
        refine lv_goto (tgt := 57) hx hb dX12_canBuy_53 (by decide) ?_
        have hp_33 : ((1 : Int32).toInt = 0 ∨ (1 : Int32).toInt = 1) := by
          have z_1 := Int32.le_iff_toInt_le.mp (Int32.not_lt.mp c_5)
          have z_2 := Int32.le_iff_toInt_le.mp (Int32.not_lt.mp c_15)
          have z_3 := Int32.lt_iff_toInt_lt.mp (Int32.not_le.mp c_30)
          have y_0 : (0 : Int32).toInt = 0 := by decide
          have y_1 : (1 : Int32).toInt = 1 := by decide
          have yr : (1 : Int32).toInt = 1 := by decide
          omega
        have hF_34 : (1 : Int32) = (dX12_canBuy (Mf 10) x1) := by
          clear hP hD hS hl
          replace ex_1 := ex_1.symm; subst ex_1
          replace ex_2 := ex_2.symm; subst ex_2
          replace ex_4 := ex_4.symm; subst ex_4
          replace er_11 := er_11.symm; subst er_11
          replace ex_18 := ex_18.symm; subst ex_18
          replace er_22 := er_22.symm; subst er_22
          replace ex_26 := ex_26.symm; subst ex_26
          replace ex_27 := ex_27.symm; subst ex_27
          replace ex_29 := ex_29.symm; subst ex_29
          unfold dX12_canBuy
          rw [if_neg c_5, if_neg c_15, if_neg c_30]
          try rfl
        exact retI (v := 1) hx hb hr hlk (rfl) hP hD hS () ⟨_, rfl, ⟨hp_33, hF_34⟩⟩ [0, 1] rfl rfl dX12_canBuy_57 (Nat.le_of_ble_eq_true rfl) (Nat.le_of_ble_eq_true rfl) rfl
set_option maxRecDepth 100000 in
theorem cu_dX12_canBuy (l : Launch) (D : va_G) (tc : Nat → ClassId) (sk : (Nat → Nat) × (Nat → Nat)) (Ma_0 : Nat) (Ma_1 : Nat) (Ma_2 : Nat) (Ma_3 : Nat) (Ma_4 : Nat) (Ma_5 : Nat) (Ma_6 : Nat) (Ma_7 : Nat) (Ma_8 : Nat) (Ma_9 : Nat) (Ma_10 : Nat) (Ma_11 : Nat) (Ma_12 : Nat) (Ma_13 : Nat) (Ma_14 : Nat) (Ma_15 : Nat) (Ma_16 : Nat) (Ma_17 : Nat) (Ma_18 : Nat) (Ma_19 : Nat) (Ma_20 : Nat) (Mv_0 : Int32) (Mv_1 : Int32) (Mv_2 : Int32) (Mv_3 : Int32) (Mv_4 : Int32) (Mv_5 : Int32) (Mv_6 : Int32) (Mv_7 : Int32) (Mv_8 : Int32) (Mv_9 : Int32) (Mv_10 : Int32) (Mv_11 : Int32) (Mv_12 : Int32) (Mv_13 : Int32) (Mv_14 : Int32) (Mf_10 : Nat → Int32) (Mj_0 : Int64) (x1 : Int32) (h_b : 0 ≤ x1.toInt ∧ x1.toInt < 6) : Ct l yX12_canBuy cX12_canBuy 2 (some .boolean) { frames := 1, cells := 0, slots := 0, locals := 21 } D tc sk [.ref Ma_0, .int x1] [(Ma_0, .inr (12, [.ref Ma_1, .int Mv_0, .int Mv_1, .ref Ma_2, .ref Ma_3, .ref Ma_4, .ref Ma_5, .ref Ma_6, .int Mv_2, .int Mv_3, .int Mv_4, .int Mv_5, .int Mv_6, .int Mv_7, .int Mv_8, .ref Ma_7, .int Mv_9, .ref Ma_8, .int Mv_10, .ref Ma_9, .ref Ma_10, .int Mv_11, .int Mv_12, .int Mv_13, .ref Ma_11, .int Mv_14, .ref Ma_12, .ref Ma_13, .ref Ma_14, .ref Ma_15, .ref Ma_16, .long Mj_0, .ref Ma_17, .ref Ma_18, .ref Ma_19, .ref Ma_20])), (Ma_10, .inl (tc 0, 126, .inl Mf_10))] (fun (v : Option Value) (_ : Unit) => ∃ r : Int32, v = some (.int r) ∧ (((r.toInt = 0 ∨ r.toInt = 1)) ∧ r = (dX12_canBuy Mf_10 x1))) (fun (_ : Unit) => [(Ma_0, .inr (12, [.ref Ma_1, .int Mv_0, .int Mv_1, .ref Ma_2, .ref Ma_3, .ref Ma_4, .ref Ma_5, .ref Ma_6, .int Mv_2, .int Mv_3, .int Mv_4, .int Mv_5, .int Mv_6, .int Mv_7, .int Mv_8, .ref Ma_7, .int Mv_9, .ref Ma_8, .int Mv_10, .ref Ma_9, .ref Ma_10, .int Mv_11, .int Mv_12, .int Mv_13, .ref Ma_11, .int Mv_14, .ref Ma_12, .ref Ma_13, .ref Ma_14, .ref Ma_15, .ref Ma_16, .long Mj_0, .ref Ma_17, .ref Ma_18, .ref Ma_19, .ref Ma_20])), (Ma_10, .inl (tc 0, 126, .inl Mf_10))]) 0 0 :=
  ct_dX12_canBuy l D tc sk (fun k => ([Ma_0, Ma_1, Ma_2, Ma_3, Ma_4, Ma_5, Ma_6, Ma_7, Ma_8, Ma_9, Ma_10, Ma_11, Ma_12, Ma_13, Ma_14, Ma_15, Ma_16, Ma_17, Ma_18, Ma_19, Ma_20] : List (Nat)).getD k 0) (fun k => ([Mv_0, Mv_1, Mv_2, Mv_3, Mv_4, Mv_5, Mv_6, Mv_7, Mv_8, Mv_9, Mv_10, Mv_11, Mv_12, Mv_13, Mv_14] : List (Int32)).getD k 0) (fun k => ([(fun _ => 0), (fun _ => 0), (fun _ => 0), (fun _ => 0), (fun _ => 0), (fun _ => 0), (fun _ => 0), (fun _ => 0), (fun _ => 0), (fun _ => 0), Mf_10] : List (Nat → Int32)).getD k (fun _ => 0)) (fun k => ([Mj_0] : List (Int64)).getD k 0) x1 h_b
def dX12_begins_l24  : Nat → Int32 → (Nat → Int32) → Int32 × (Nat → Int32)
  | 0, _, _ => (0, (fun _ => 0))
  | n + 1, yy_2500, yy_2501 => (if (6 : Int32) ≤ yy_2500 then (yy_2500, yy_2501) else dX12_begins_l24 n (yy_2500 + 1) (upd (upd (upd (upd yy_2501 (((12 : Int32) + ((4 : Int32) * yy_2500))).toNatClampNeg (yy_2501 (((68 : Int32) + yy_2500)).toNatClampNeg)) ((((12 : Int32) + ((4 : Int32) * yy_2500)) + (1 : Int32))).toNatClampNeg (0 : Int32)) ((((12 : Int32) + ((4 : Int32) * yy_2500)) + (2 : Int32))).toNatClampNeg (0 : Int32)) ((((12 : Int32) + ((4 : Int32) * yy_2500)) + (3 : Int32))).toNatClampNeg (-1 : Int32)))
theorem dX12_begins_l24_s  {n : Nat} {yy_2500 : Int32} {yy_2501 : Nat → Int32} : dX12_begins_l24 (n + 1) yy_2500 yy_2501 = (if (6 : Int32) ≤ yy_2500 then (yy_2500, yy_2501) else dX12_begins_l24 n (yy_2500 + 1) (upd (upd (upd (upd yy_2501 (((12 : Int32) + ((4 : Int32) * yy_2500))).toNatClampNeg (yy_2501 (((68 : Int32) + yy_2500)).toNatClampNeg)) ((((12 : Int32) + ((4 : Int32) * yy_2500)) + (1 : Int32))).toNatClampNeg (0 : Int32)) ((((12 : Int32) + ((4 : Int32) * yy_2500)) + (2 : Int32))).toNatClampNeg (0 : Int32)) ((((12 : Int32) + ((4 : Int32) * yy_2500)) + (3 : Int32))).toNatClampNeg (-1 : Int32))) := rfl
def dX12_begins_l87  : Nat → Int32 → (Nat → Int32) → Int32 × (Nat → Int32)
  | 0, _, _ => (0, (fun _ => 0))
  | n + 1, yy_8800, yy_8801 => (if (10 : Int32) ≤ yy_8800 then (yy_8800, yy_8801) else dX12_begins_l87 n (yy_8800 + 1) (upd (upd yy_8801 (((36 : Int32) + yy_8800)).toNatClampNeg (yy_8801 (((74 : Int32) + yy_8800)).toNatClampNeg)) (((46 : Int32) + yy_8800)).toNatClampNeg ((upd yy_8801 (((36 : Int32) + yy_8800)).toNatClampNeg (yy_8801 (((74 : Int32) + yy_8800)).toNatClampNeg)) (((84 : Int32) + yy_8800)).toNatClampNeg)))
theorem dX12_begins_l87_s  {n : Nat} {yy_8800 : Int32} {yy_8801 : Nat → Int32} : dX12_begins_l87 (n + 1) yy_8800 yy_8801 = (if (10 : Int32) ≤ yy_8800 then (yy_8800, yy_8801) else dX12_begins_l87 n (yy_8800 + 1) (upd (upd yy_8801 (((36 : Int32) + yy_8800)).toNatClampNeg (yy_8801 (((74 : Int32) + yy_8800)).toNatClampNeg)) (((46 : Int32) + yy_8800)).toNatClampNeg ((upd yy_8801 (((36 : Int32) + yy_8800)).toNatClampNeg (yy_8801 (((74 : Int32) + yy_8800)).toNatClampNeg)) (((84 : Int32) + yy_8800)).toNatClampNeg))) := rfl
def dX12_begins (Mf_10 : Nat → Int32) : (Nat → Int32) := ((dX12_begins_l87 ((10 - (0 : Int32).toInt).toNat + 1) (0 : Int32) ((dX12_begins_l24 ((6 - (0 : Int32).toInt).toNat + 1) (0 : Int32) (upd (upd Mf_10 ((10 : Int32)).toNatClampNeg (0 : Int32)) ((11 : Int32)).toNatClampNeg ((upd Mf_10 ((10 : Int32)).toNatClampNeg (0 : Int32)) ((94 : Int32)).toNatClampNeg))).2)).2)
set_option maxHeartbeats 4000000 in
set_option maxRecDepth 100000 in
theorem ct_dX12_begins {T : Nat → Option Int32} (l : Launch) (D : va_G) (tc : Nat → ClassId) (sk : (Nat → Nat) × (Nat → Nat)) (Ma : Nat → Nat) (Mv : Nat → Int32) (Mf : Nat → Nat → Int32) (Mj : Nat → Int64) (h_said : SaidB T (Mf 10)) : Ct l yX12_begins cX12_begins 3 none { frames := 0, cells := 0, slots := 0, locals := 0 } D tc sk [.ref (Ma 0)] [((Ma 0), .inr (12, [.ref (Ma 1), .int (Mv 0), .int (Mv 1), .ref (Ma 2), .ref (Ma 3), .ref (Ma 4), .ref (Ma 5), .ref (Ma 6), .int (Mv 2), .int (Mv 3), .int (Mv 4), .int (Mv 5), .int (Mv 6), .int (Mv 7), .int (Mv 8), .ref (Ma 7), .int (Mv 9), .ref (Ma 8), .int (Mv 10), .ref (Ma 9), .ref (Ma 10), .int (Mv 11), .int (Mv 12), .int (Mv 13), .ref (Ma 11), .int (Mv 14), .ref (Ma 12), .ref (Ma 13), .ref (Ma 14), .ref (Ma 15), .ref (Ma 16), .long (Mj 0), .ref (Ma 17), .ref (Ma 18), .ref (Ma 19), .ref (Ma 20)])), ((Ma 10), .inl (tc 0, 126, .inl (Mf 10)))] (fun (v : Option Value) (oo0x1 : Nat → Int32) => v = none ∧ (SaidD T oo0x1 0) ∧ (DEq (oo0x1) (dX12_begins (Mf 10)))) (fun (oo0x1 : Nat → Int32) => [((Ma 0), .inr (12, [.ref (Ma 1), .int (Mv 0), .int (Mv 1), .ref (Ma 2), .ref (Ma 3), .ref (Ma 4), .ref (Ma 5), .ref (Ma 6), .int (Mv 2), .int (Mv 3), .int (Mv 4), .int (Mv 5), .int (Mv 6), .int (Mv 7), .int (Mv 8), .ref (Ma 7), .int (Mv 9), .ref (Ma 8), .int (Mv 10), .ref (Ma 9), .ref (Ma 10), .int (Mv 11), .int (Mv 12), .int (Mv 13), .ref (Ma 11), .int (Mv 14), .ref (Ma 12), .ref (Ma 13), .ref (Ma 14), .ref (Ma 15), .ref (Ma 16), .long (Mj 0), .ref (Ma 17), .ref (Ma 18), .ref (Ma 19), .ref (Ma 20)])), ((Ma 10), .inl (tc 0, 126, .inl oo0x1))]) 0 0 := by
  refine Ct.start (by decide) (Nat.le_of_ble_eq_true rfl) (fun p e s m below meth c A ls hx hb hr hlk hin hml hown hts hK hX hP hD hA hl hS => ?_)
  have hl : lv_has ls 3 [(0, .ref (Ma 0))] := hl
  have ar_h_said := SaidB.ar h_said
  refine lv_aload_n hx hb dX12_begins_0 rfl (lv_at hl 0 rfl) ?_
  refine gf_X12_39 hx hb hts hown hK hP 0 rfl rfl dX12_begins_1 ?_
  refine lv_bipush (v := 10) hx hb dX12_begins_4 (by decide) ?_
  refine lv_iconst (v := 0) hx hb dX12_begins_6 (by decide) ?_
  refine st_int hx hb hK hP hD hS 1 0 rfl rfl (vin_dec (by decide +kernel)) dX12_begins_7 (fun g_1 H locs eg_1 hP₀ hD₀ hS₀ => ?_)
  replace hP : va_P D classes [((Ma 0), .inr (12, [.ref (Ma 1), .int (Mv 0), .int (Mv 1), .ref (Ma 2), .ref (Ma 3), .ref (Ma 4), .ref (Ma 5), .ref (Ma 6), .int (Mv 2), .int (Mv 3), .int (Mv 4), .int (Mv 5), .int (Mv 6), .int (Mv 7), .int (Mv 8), .ref (Ma 7), .int (Mv 9), .ref (Ma 8), .int (Mv 10), .ref (Ma 9), .ref (Ma 10), .int (Mv 11), .int (Mv 12), .int (Mv 13), .ref (Ma 11), .int (Mv 14), .ref (Ma 12), .ref (Ma 13), .ref (Ma 14), .ref (Ma 15), .ref (Ma 16), .long (Mj 0), .ref (Ma 17), .ref (Ma 18), .ref (Ma 19), .ref (Ma 20)])), ((Ma 10), .inl (tc 0, 126, .inl g_1))] H := hP₀
  replace hD : va_D A [((Ma 0), .inr (12, [.ref (Ma 1), .int (Mv 0), .int (Mv 1), .ref (Ma 2), .ref (Ma 3), .ref (Ma 4), .ref (Ma 5), .ref (Ma 6), .int (Mv 2), .int (Mv 3), .int (Mv 4), .int (Mv 5), .int (Mv 6), .int (Mv 7), .int (Mv 8), .ref (Ma 7), .int (Mv 9), .ref (Ma 8), .int (Mv 10), .ref (Ma 9), .ref (Ma 10), .int (Mv 11), .int (Mv 12), .int (Mv 13), .ref (Ma 11), .int (Mv 14), .ref (Ma 12), .ref (Ma 13), .ref (Ma 14), .ref (Ma 15), .ref (Ma 16), .long (Mj 0), .ref (Ma 17), .ref (Ma 18), .ref (Ma 19), .ref (Ma 20)])), ((Ma 10), .inl (tc 0, 126, .inl g_1))] := hD₀
  replace hS := hS₀
  clear hP₀ hD₀ hS₀
  have pf_2 : SaidD T g_1 0 := SaidD.day h_said eg_1 (by decide) (by decide)
  have ar_pf_2 := SaidD.ar pf_2
  refine lv_aload_n hx hb dX12_begins_8 rfl (lv_at hl 0 rfl) ?_
  refine gf_X12_39 hx hb hts hown hK hP 0 rfl rfl dX12_begins_9 ?_
  refine lv_bipush (v := 11) hx hb dX12_begins_12 (by decide) ?_
  refine lv_aload_n hx hb dX12_begins_14 rfl (lv_at hl 0 rfl) ?_
  refine gf_X12_39 hx hb hts hown hK hP 0 rfl rfl dX12_begins_15 ?_
  refine lv_bipush (v := 94) hx hb dX12_begins_18 (by decide) ?_
  refine va_iald hx hb hK hP 1 0 rfl rfl (vin_dec (by decide +kernel)) dX12_begins_20 ?_
  refine lv_topi (fun x_3 ex_3 => ?_)
  have lx_3 : x_3.toInt = (g_1 94).toInt := congrArg Int32.toInt ex_3
  refine st_int hx hb hK hP hD hS 1 0 rfl rfl (vin_dec (by decide +kernel)) dX12_begins_21 (fun g_4 H locs eg_4 hP₀ hD₀ hS₀ => ?_)
  replace hP : va_P D classes [((Ma 0), .inr (12, [.ref (Ma 1), .int (Mv 0), .int (Mv 1), .ref (Ma 2), .ref (Ma 3), .ref (Ma 4), .ref (Ma 5), .ref (Ma 6), .int (Mv 2), .int (Mv 3), .int (Mv 4), .int (Mv 5), .int (Mv 6), .int (Mv 7), .int (Mv 8), .ref (Ma 7), .int (Mv 9), .ref (Ma 8), .int (Mv 10), .ref (Ma 9), .ref (Ma 10), .int (Mv 11), .int (Mv 12), .int (Mv 13), .ref (Ma 11), .int (Mv 14), .ref (Ma 12), .ref (Ma 13), .ref (Ma 14), .ref (Ma 15), .ref (Ma 16), .long (Mj 0), .ref (Ma 17), .ref (Ma 18), .ref (Ma 19), .ref (Ma 20)])), ((Ma 10), .inl (tc 0, 126, .inl g_4))] H := hP₀
  replace hD : va_D A [((Ma 0), .inr (12, [.ref (Ma 1), .int (Mv 0), .int (Mv 1), .ref (Ma 2), .ref (Ma 3), .ref (Ma 4), .ref (Ma 5), .ref (Ma 6), .int (Mv 2), .int (Mv 3), .int (Mv 4), .int (Mv 5), .int (Mv 6), .int (Mv 7), .int (Mv 8), .ref (Ma 7), .int (Mv 9), .ref (Ma 8), .int (Mv 10), .ref (Ma 9), .ref (Ma 10), .int (Mv 11), .int (Mv 12), .int (Mv 13), .ref (Ma 11), .int (Mv 14), .ref (Ma 12), .ref (Ma 13), .ref (Ma 14), .ref (Ma 15), .ref (Ma 16), .long (Mj 0), .ref (Ma 17), .ref (Ma 18), .ref (Ma 19), .ref (Ma 20)])), ((Ma 10), .inl (tc 0, 126, .inl g_4))] := hD₀
  replace hS := hS₀
  clear hP₀ hD₀ hS₀
  have pf_5 : SaidD T g_4 0 := SaidD.keep pf_2 eg_4 (by decide)
  have ar_pf_5 := SaidD.ar pf_5
  refine lv_iconst (v := 0) hx hb dX12_begins_22 (by decide) ?_
  refine lv_istore_n (lv' := [(1, .int 0), (0, .ref (Ma 0))]) hx hb dX12_begins_23 rfl hl (by decide) rfl (fun ls hl₀ => ?_)
  replace hl := hl₀
  clear hl₀
  have loop_8 : ∀ (n_6 : Nat) (yy_2500 : Int32) (yy_2501 : Nat → Int32) (H : Heap) (locs : List Loc) (ls : Array Slot), (6 - (yy_2500 : Int32).toInt).toNat < n_6 → (dX12_begins_l24 ((6 - (0 : Int32).toInt).toNat + 1) (0 : Int32) g_4) = dX12_begins_l24 ((6 - (yy_2500 : Int32).toInt).toNat + 1) yy_2500 yy_2501 → (0 ≤ (yy_2500 : Int32).toInt) → (SaidD T yy_2501 0) → va_P D classes [((Ma 0), .inr (12, [.ref (Ma 1), .int (Mv 0), .int (Mv 1), .ref (Ma 2), .ref (Ma 3), .ref (Ma 4), .ref (Ma 5), .ref (Ma 6), .int (Mv 2), .int (Mv 3), .int (Mv 4), .int (Mv 5), .int (Mv 6), .int (Mv 7), .int (Mv 8), .ref (Ma 7), .int (Mv 9), .ref (Ma 8), .int (Mv 10), .ref (Ma 9), .ref (Ma 10), .int (Mv 11), .int (Mv 12), .int (Mv 13), .ref (Ma 11), .int (Mv 14), .ref (Ma 12), .ref (Ma 13), .ref (Ma 14), .ref (Ma 15), .ref (Ma 16), .long (Mj 0), .ref (Ma 17), .ref (Ma 18), .ref (Ma 19), .ref (Ma 20)])), ((Ma 10), .inl (tc 0, 126, .inl yy_2501))] H → va_D A [((Ma 0), .inr (12, [.ref (Ma 1), .int (Mv 0), .int (Mv 1), .ref (Ma 2), .ref (Ma 3), .ref (Ma 4), .ref (Ma 5), .ref (Ma 6), .int (Mv 2), .int (Mv 3), .int (Mv 4), .int (Mv 5), .int (Mv 6), .int (Mv 7), .int (Mv 8), .ref (Ma 7), .int (Mv 9), .ref (Ma 8), .int (Mv 10), .ref (Ma 9), .ref (Ma 10), .int (Mv 11), .int (Mv 12), .int (Mv 13), .ref (Ma 11), .int (Mv 14), .ref (Ma 12), .ref (Ma 13), .ref (Ma 14), .ref (Ma 15), .ref (Ma 16), .long (Mj 0), .ref (Ma 17), .ref (Ma 18), .ref (Ma 19), .ref (Ma 20)])), ((Ma 10), .inl (tc 0, 126, .inl yy_2501))] → va_S A s.heap H locs → lv_has ls 3 [(1, .int yy_2500), (0, .ref (Ma 0))] → W p l e ({ frames := 0, cells := 0, slots := 0, locals := 0 }) s m ([.ref (Ma 0)].toArray) below meth c H locs 0 0 (MQ below (QW (fun (v : Option Value) (oo0x1 : Nat → Int32) => v = none ∧ (SaidD T oo0x1 0) ∧ (DEq (oo0x1) (dX12_begins (Mf 10)))) (BW D (fun (oo0x1 : Nat → Int32) => [((Ma 0), .inr (12, [.ref (Ma 1), .int (Mv 0), .int (Mv 1), .ref (Ma 2), .ref (Ma 3), .ref (Ma 4), .ref (Ma 5), .ref (Ma 6), .int (Mv 2), .int (Mv 3), .int (Mv 4), .int (Mv 5), .int (Mv 6), .int (Mv 7), .int (Mv 8), .ref (Ma 7), .int (Mv 9), .ref (Ma 8), .int (Mv 10), .ref (Ma 9), .ref (Ma 10), .int (Mv 11), .int (Mv 12), .int (Mv 13), .ref (Ma 11), .int (Mv 14), .ref (Ma 12), .ref (Ma 13), .ref (Ma 14), .ref (Ma 15), .ref (Ma 16), .long (Mj 0), .ref (Ma 17), .ref (Ma 18), .ref (Ma 19), .ref (Ma 20)])), ((Ma 10), .inl (tc 0, 126, .inl oo0x1))]) A) A) ([.ref (Ma 0)].toArray) s 0 0 A) (F0 m 24 ls []) := by
    clear hP hD hS hl
    intro n_6
    induction n_6 with
    | zero =>
      intro yy_2500 yy_2501 H locs ls h1
      exact absurd h1 (Nat.not_lt_zero _)
    | succ n_6 ih_7 =>
      intro yy_2500 yy_2501 H locs ls hn_12 hL_11 pf_9 pf_10 hP hD hS hl
      have ar_pf_10 := SaidD.ar pf_10
      refine lv_iload_n hx hb dX12_begins_24 rfl (lv_at hl 0 rfl) ?_
      refine lv_bipush (v := 6) hx hb dX12_begins_25 (by decide) ?_
      refine lv_icmp_ge (tgt := 85) hx hb dX12_begins_27 (by decide) (fun c_13 => ?_) (fun c_13 => ?_)
      · skip
        have hb_15 : dX12_begins_l24 ((6 - (yy_2500 : Int32).toInt).toNat + 1) yy_2500 yy_2501 = (yy_2500, yy_2501) := by
          clear hP hD hS hl ih_7
          replace eg_1 := eg_1.symm; subst eg_1
          replace ex_3 := ex_3.symm; subst ex_3
          replace eg_4 := eg_4.symm; subst eg_4
          rw [dX12_begins_l24_s]
          rw [if_pos c_13]
          try rfl
        have hX_14 : (dX12_begins_l24 ((6 - (0 : Int32).toInt).toNat + 1) (0 : Int32) g_4) = (yy_2500, yy_2501) := hL_11.trans hb_15
        have hX_14_0 : (dX12_begins_l24 ((6 - (0 : Int32).toInt).toNat + 1) (0 : Int32) g_4).1 = yy_2500 := congrArg (fun z => z.1) hX_14
        have hX_14_1 : (dX12_begins_l24 ((6 - (0 : Int32).toInt).toNat + 1) (0 : Int32) g_4).2 = yy_2501 := congrArg (fun z => z.2) hX_14
        refine lv_iconst (v := 0) hx hb dX12_begins_85 (by decide) ?_
        refine lv_istore_n (lv' := [(1, .int 0), (0, .ref (Ma 0))]) hx hb dX12_begins_86 rfl hl (by decide) rfl (fun ls hl₀ => ?_)
        replace hl := hl₀
        clear hl₀
        have loop_18 : ∀ (n_16 : Nat) (yy_8800 : Int32) (yy_8801 : Nat → Int32) (H : Heap) (locs : List Loc) (ls : Array Slot), (10 - (yy_8800 : Int32).toInt).toNat < n_16 → (dX12_begins_l87 ((10 - (0 : Int32).toInt).toNat + 1) (0 : Int32) yy_2501) = dX12_begins_l87 ((10 - (yy_8800 : Int32).toInt).toNat + 1) yy_8800 yy_8801 → (0 ≤ (yy_8800 : Int32).toInt) → (SaidD T yy_8801 0) → va_P D classes [((Ma 0), .inr (12, [.ref (Ma 1), .int (Mv 0), .int (Mv 1), .ref (Ma 2), .ref (Ma 3), .ref (Ma 4), .ref (Ma 5), .ref (Ma 6), .int (Mv 2), .int (Mv 3), .int (Mv 4), .int (Mv 5), .int (Mv 6), .int (Mv 7), .int (Mv 8), .ref (Ma 7), .int (Mv 9), .ref (Ma 8), .int (Mv 10), .ref (Ma 9), .ref (Ma 10), .int (Mv 11), .int (Mv 12), .int (Mv 13), .ref (Ma 11), .int (Mv 14), .ref (Ma 12), .ref (Ma 13), .ref (Ma 14), .ref (Ma 15), .ref (Ma 16), .long (Mj 0), .ref (Ma 17), .ref (Ma 18), .ref (Ma 19), .ref (Ma 20)])), ((Ma 10), .inl (tc 0, 126, .inl yy_8801))] H → va_D A [((Ma 0), .inr (12, [.ref (Ma 1), .int (Mv 0), .int (Mv 1), .ref (Ma 2), .ref (Ma 3), .ref (Ma 4), .ref (Ma 5), .ref (Ma 6), .int (Mv 2), .int (Mv 3), .int (Mv 4), .int (Mv 5), .int (Mv 6), .int (Mv 7), .int (Mv 8), .ref (Ma 7), .int (Mv 9), .ref (Ma 8), .int (Mv 10), .ref (Ma 9), .ref (Ma 10), .int (Mv 11), .int (Mv 12), .int (Mv 13), .ref (Ma 11), .int (Mv 14), .ref (Ma 12), .ref (Ma 13), .ref (Ma 14), .ref (Ma 15), .ref (Ma 16), .long (Mj 0), .ref (Ma 17), .ref (Ma 18), .ref (Ma 19), .ref (Ma 20)])), ((Ma 10), .inl (tc 0, 126, .inl yy_8801))] → va_S A s.heap H locs → lv_has ls 3 [(1, .int yy_8800), (0, .ref (Ma 0))] → W p l e ({ frames := 0, cells := 0, slots := 0, locals := 0 }) s m ([.ref (Ma 0)].toArray) below meth c H locs 0 0 (MQ below (QW (fun (v : Option Value) (oo0x1 : Nat → Int32) => v = none ∧ (SaidD T oo0x1 0) ∧ (DEq (oo0x1) (dX12_begins (Mf 10)))) (BW D (fun (oo0x1 : Nat → Int32) => [((Ma 0), .inr (12, [.ref (Ma 1), .int (Mv 0), .int (Mv 1), .ref (Ma 2), .ref (Ma 3), .ref (Ma 4), .ref (Ma 5), .ref (Ma 6), .int (Mv 2), .int (Mv 3), .int (Mv 4), .int (Mv 5), .int (Mv 6), .int (Mv 7), .int (Mv 8), .ref (Ma 7), .int (Mv 9), .ref (Ma 8), .int (Mv 10), .ref (Ma 9), .ref (Ma 10), .int (Mv 11), .int (Mv 12), .int (Mv 13), .ref (Ma 11), .int (Mv 14), .ref (Ma 12), .ref (Ma 13), .ref (Ma 14), .ref (Ma 15), .ref (Ma 16), .long (Mj 0), .ref (Ma 17), .ref (Ma 18), .ref (Ma 19), .ref (Ma 20)])), ((Ma 10), .inl (tc 0, 126, .inl oo0x1))]) A) A) ([.ref (Ma 0)].toArray) s 0 0 A) (F0 m 87 ls []) := by
          clear hP hD hS hl
          intro n_16
          induction n_16 with
          | zero =>
            intro yy_8800 yy_8801 H locs ls h1
            exact absurd h1 (Nat.not_lt_zero _)
          | succ n_16 ih_17 =>
            intro yy_8800 yy_8801 H locs ls hn_22 hL_21 pf_19 pf_20 hP hD hS hl
            have ar_pf_20 := SaidD.ar pf_20
            refine lv_iload_n hx hb dX12_begins_87 rfl (lv_at hl 0 rfl) ?_
            refine lv_bipush (v := 10) hx hb dX12_begins_88 (by decide) ?_
            refine lv_icmp_ge (tgt := 135) hx hb dX12_begins_90 (by decide) (fun c_23 => ?_) (fun c_23 => ?_)
            · skip
              have hb_25 : dX12_begins_l87 ((10 - (yy_8800 : Int32).toInt).toNat + 1) yy_8800 yy_8801 = (yy_8800, yy_8801) := by
                clear hP hD hS hl ih_17 ih_7
                replace eg_1 := eg_1.symm; subst eg_1
                replace ex_3 := ex_3.symm; subst ex_3
                replace eg_4 := eg_4.symm; subst eg_4
                rw [dX12_begins_l87_s]
                rw [if_pos c_23]
                try rfl
              have hX_24 : (dX12_begins_l87 ((10 - (0 : Int32).toInt).toNat + 1) (0 : Int32) yy_2501) = (yy_8800, yy_8801) := hL_21.trans hb_25
              have hX_24_0 : (dX12_begins_l87 ((10 - (0 : Int32).toInt).toNat + 1) (0 : Int32) yy_2501).1 = yy_8800 := congrArg (fun z => z.1) hX_24
              have hX_24_1 : (dX12_begins_l87 ((10 - (0 : Int32).toInt).toNat + 1) (0 : Int32) yy_2501).2 = yy_8801 := congrArg (fun z => z.2) hX_24
              have hF_26 : yy_8801 = (dX12_begins (Mf 10)) := by
                clear hP hD hS hl ih_17 ih_7
                replace eg_1 := eg_1.symm; subst eg_1
                replace ex_3 := ex_3.symm; subst ex_3
                replace eg_4 := eg_4.symm; subst eg_4
                unfold dX12_begins
                try rw [hX_14_0]
                try rw [hX_14_1]
                try rw [hX_24_0]
                try rw [hX_24_1]
                try rfl
              exact retV hx hb hr hlk hP hD hS yy_8801 ⟨rfl, pf_20, hF_26⟩ [0, 1] rfl rfl dX12_begins_135 (Nat.le_of_ble_eq_true rfl) (Nat.le_of_ble_eq_true rfl) rfl
            · skip
              refine lv_aload_n hx hb dX12_begins_93 rfl (lv_at hl 1 rfl) ?_
              refine gf_X12_39 hx hb hts hown hK hP 0 rfl rfl dX12_begins_94 ?_
              refine lv_bipush (v := 36) hx hb dX12_begins_97 (by decide) ?_
              refine lv_iload_n hx hb dX12_begins_99 rfl (lv_at hl 0 rfl) ?_
              refine lv_iadd hx hb dX12_begins_100 ?_
              refine lv_topi (fun x_27 ex_27 => ?_)
              refine lv_aload_n hx hb dX12_begins_101 rfl (lv_at hl 1 rfl) ?_
              refine gf_X12_39 hx hb hts hown hK hP 0 rfl rfl dX12_begins_102 ?_
              refine lv_bipush (v := 74) hx hb dX12_begins_105 (by decide) ?_
              refine lv_iload_n hx hb dX12_begins_107 rfl (lv_at hl 0 rfl) ?_
              refine lv_iadd hx hb dX12_begins_108 ?_
              refine lv_topi (fun x_28 ex_28 => ?_)
              have hi_29 : vp_in x_28 126 := by
                have z_1 := Int32.le_iff_toInt_le.mp c_13
                have z_2 := Int32.lt_iff_toInt_lt.mp (Int32.not_le.mp c_23)
                have y_6 : (6 : Int32).toInt = 6 := by decide
                have y_10 : (10 : Int32).toInt = 10 := by decide
                have y_74 : (74 : Int32).toInt = 74 := by decide
                have t_x_28 : x_28.toInt = (74 : Int32).toInt + (yy_8800 : Int32).toInt := by rw [ex_28]; exact add_toInt (by omega) (by omega)
                refine vp_in_iff.mpr ⟨?_, ?_⟩ <;> omega
              refine va_iald hx hb hK hP 1 0 rfl rfl hi_29 dX12_begins_109 ?_
              refine lv_topi (fun x_30 ex_30 => ?_)
              have hi_31 : vp_in x_27 126 := by
                have z_1 := Int32.le_iff_toInt_le.mp c_13
                have z_2 := Int32.lt_iff_toInt_lt.mp (Int32.not_le.mp c_23)
                have y_6 : (6 : Int32).toInt = 6 := by decide
                have y_10 : (10 : Int32).toInt = 10 := by decide
                have y_36 : (36 : Int32).toInt = 36 := by decide
                have t_x_27 : x_27.toInt = (36 : Int32).toInt + (yy_8800 : Int32).toInt := by rw [ex_27]; exact add_toInt (by omega) (by omega)
                refine vp_in_iff.mpr ⟨?_, ?_⟩ <;> omega
              refine st_int hx hb hK hP hD hS 1 0 rfl rfl hi_31 dX12_begins_110 (fun g_32 H locs eg_32 hP₀ hD₀ hS₀ => ?_)
              replace hP : va_P D classes [((Ma 0), .inr (12, [.ref (Ma 1), .int (Mv 0), .int (Mv 1), .ref (Ma 2), .ref (Ma 3), .ref (Ma 4), .ref (Ma 5), .ref (Ma 6), .int (Mv 2), .int (Mv 3), .int (Mv 4), .int (Mv 5), .int (Mv 6), .int (Mv 7), .int (Mv 8), .ref (Ma 7), .int (Mv 9), .ref (Ma 8), .int (Mv 10), .ref (Ma 9), .ref (Ma 10), .int (Mv 11), .int (Mv 12), .int (Mv 13), .ref (Ma 11), .int (Mv 14), .ref (Ma 12), .ref (Ma 13), .ref (Ma 14), .ref (Ma 15), .ref (Ma 16), .long (Mj 0), .ref (Ma 17), .ref (Ma 18), .ref (Ma 19), .ref (Ma 20)])), ((Ma 10), .inl (tc 0, 126, .inl g_32))] H := hP₀
              replace hD : va_D A [((Ma 0), .inr (12, [.ref (Ma 1), .int (Mv 0), .int (Mv 1), .ref (Ma 2), .ref (Ma 3), .ref (Ma 4), .ref (Ma 5), .ref (Ma 6), .int (Mv 2), .int (Mv 3), .int (Mv 4), .int (Mv 5), .int (Mv 6), .int (Mv 7), .int (Mv 8), .ref (Ma 7), .int (Mv 9), .ref (Ma 8), .int (Mv 10), .ref (Ma 9), .ref (Ma 10), .int (Mv 11), .int (Mv 12), .int (Mv 13), .ref (Ma 11), .int (Mv 14), .ref (Ma 12), .ref (Ma 13), .ref (Ma 14), .ref (Ma 15), .ref (Ma 16), .long (Mj 0), .ref (Ma 17), .ref (Ma 18), .ref (Ma 19), .ref (Ma 20)])), ((Ma 10), .inl (tc 0, 126, .inl g_32))] := hD₀
              replace hS := hS₀
              clear hP₀ hD₀ hS₀
              have hx_34 : 11 ≤ (x_27 : Int32).toNatClampNeg ∧ (x_27 : Int32).toNatClampNeg < 56 := by
                have z_1 := Int32.le_iff_toInt_le.mp c_13
                have z_2 := Int32.lt_iff_toInt_lt.mp (Int32.not_le.mp c_23)
                have y_6 : (6 : Int32).toInt = 6 := by decide
                have y_10 : (10 : Int32).toInt = 10 := by decide
                have y_36 : (36 : Int32).toInt = 36 := by decide
                have t_x_27 : x_27.toInt = (36 : Int32).toInt + (yy_8800 : Int32).toInt := by rw [ex_27]; exact add_toInt (by omega) (by omega)
                have hcl : (x_27 : Int32).toNatClampNeg = (x_27 : Int32).toInt.toNat := rfl
                omega
              have pf_33 : SaidD T g_32 0 := SaidD.keep pf_20 eg_32 hx_34
              have ar_pf_33 := SaidD.ar pf_33
              refine lv_aload_n hx hb dX12_begins_111 rfl (lv_at hl 1 rfl) ?_
              refine gf_X12_39 hx hb hts hown hK hP 0 rfl rfl dX12_begins_112 ?_
              refine lv_bipush (v := 46) hx hb dX12_begins_115 (by decide) ?_
              refine lv_iload_n hx hb dX12_begins_117 rfl (lv_at hl 0 rfl) ?_
              refine lv_iadd hx hb dX12_begins_118 ?_
              refine lv_topi (fun x_35 ex_35 => ?_)
              refine lv_aload_n hx hb dX12_begins_119 rfl (lv_at hl 1 rfl) ?_
              refine gf_X12_39 hx hb hts hown hK hP 0 rfl rfl dX12_begins_120 ?_
              refine lv_bipush (v := 84) hx hb dX12_begins_123 (by decide) ?_
              refine lv_iload_n hx hb dX12_begins_125 rfl (lv_at hl 0 rfl) ?_
              refine lv_iadd hx hb dX12_begins_126 ?_
              refine lv_topi (fun x_36 ex_36 => ?_)
              have hi_37 : vp_in x_36 126 := by
                have z_1 := Int32.le_iff_toInt_le.mp c_13
                have z_2 := Int32.lt_iff_toInt_lt.mp (Int32.not_le.mp c_23)
                have y_6 : (6 : Int32).toInt = 6 := by decide
                have y_10 : (10 : Int32).toInt = 10 := by decide
                have y_84 : (84 : Int32).toInt = 84 := by decide
                have t_x_36 : x_36.toInt = (84 : Int32).toInt + (yy_8800 : Int32).toInt := by rw [ex_36]; exact add_toInt (by omega) (by omega)
                refine vp_in_iff.mpr ⟨?_, ?_⟩ <;> omega
              refine va_iald hx hb hK hP 1 0 rfl rfl hi_37 dX12_begins_127 ?_
              refine lv_topi (fun x_38 ex_38 => ?_)
              have hi_39 : vp_in x_35 126 := by
                have z_1 := Int32.le_iff_toInt_le.mp c_13
                have z_2 := Int32.lt_iff_toInt_lt.mp (Int32.not_le.mp c_23)
                have y_6 : (6 : Int32).toInt = 6 := by decide
                have y_10 : (10 : Int32).toInt = 10 := by decide
                have y_46 : (46 : Int32).toInt = 46 := by decide
                have t_x_35 : x_35.toInt = (46 : Int32).toInt + (yy_8800 : Int32).toInt := by rw [ex_35]; exact add_toInt (by omega) (by omega)
                refine vp_in_iff.mpr ⟨?_, ?_⟩ <;> omega
              refine st_int hx hb hK hP hD hS 1 0 rfl rfl hi_39 dX12_begins_128 (fun g_40 H locs eg_40 hP₀ hD₀ hS₀ => ?_)
              replace hP : va_P D classes [((Ma 0), .inr (12, [.ref (Ma 1), .int (Mv 0), .int (Mv 1), .ref (Ma 2), .ref (Ma 3), .ref (Ma 4), .ref (Ma 5), .ref (Ma 6), .int (Mv 2), .int (Mv 3), .int (Mv 4), .int (Mv 5), .int (Mv 6), .int (Mv 7), .int (Mv 8), .ref (Ma 7), .int (Mv 9), .ref (Ma 8), .int (Mv 10), .ref (Ma 9), .ref (Ma 10), .int (Mv 11), .int (Mv 12), .int (Mv 13), .ref (Ma 11), .int (Mv 14), .ref (Ma 12), .ref (Ma 13), .ref (Ma 14), .ref (Ma 15), .ref (Ma 16), .long (Mj 0), .ref (Ma 17), .ref (Ma 18), .ref (Ma 19), .ref (Ma 20)])), ((Ma 10), .inl (tc 0, 126, .inl g_40))] H := hP₀
              replace hD : va_D A [((Ma 0), .inr (12, [.ref (Ma 1), .int (Mv 0), .int (Mv 1), .ref (Ma 2), .ref (Ma 3), .ref (Ma 4), .ref (Ma 5), .ref (Ma 6), .int (Mv 2), .int (Mv 3), .int (Mv 4), .int (Mv 5), .int (Mv 6), .int (Mv 7), .int (Mv 8), .ref (Ma 7), .int (Mv 9), .ref (Ma 8), .int (Mv 10), .ref (Ma 9), .ref (Ma 10), .int (Mv 11), .int (Mv 12), .int (Mv 13), .ref (Ma 11), .int (Mv 14), .ref (Ma 12), .ref (Ma 13), .ref (Ma 14), .ref (Ma 15), .ref (Ma 16), .long (Mj 0), .ref (Ma 17), .ref (Ma 18), .ref (Ma 19), .ref (Ma 20)])), ((Ma 10), .inl (tc 0, 126, .inl g_40))] := hD₀
              replace hS := hS₀
              clear hP₀ hD₀ hS₀
              have hx_42 : 11 ≤ (x_35 : Int32).toNatClampNeg ∧ (x_35 : Int32).toNatClampNeg < 56 := by
                have z_1 := Int32.le_iff_toInt_le.mp c_13
                have z_2 := Int32.lt_iff_toInt_lt.mp (Int32.not_le.mp c_23)
                have y_6 : (6 : Int32).toInt = 6 := by decide
                have y_10 : (10 : Int32).toInt = 10 := by decide
                have y_46 : (46 : Int32).toInt = 46 := by decide
                have t_x_35 : x_35.toInt = (46 : Int32).toInt + (yy_8800 : Int32).toInt := by rw [ex_35]; exact add_toInt (by omega) (by omega)
                have hcl : (x_35 : Int32).toNatClampNeg = (x_35 : Int32).toInt.toNat := rfl
                omega
              have pf_41 : SaidD T g_40 0 := SaidD.keep pf_33 eg_40 hx_42
              have ar_pf_41 := SaidD.ar pf_41
              obtain ⟨x_43, ex_43⟩ : ∃ y : Int32, y = yy_8800 + 1 := ⟨_, rfl⟩
              refine lv_iinc (v := x_43) (lv' := [(1, .int x_43), (0, .ref (Ma 0))]) hx hb dX12_begins_129 hl (k := 0) rfl (by rw [ex_43]; rfl) (by decide) rfl (fun ls hl₀ => ?_)
              replace hl := hl₀
              clear hl₀
              refine lv_goto (tgt := 87) hx hb dX12_begins_132 (by decide) ?_
              have hb_44 : 10 - (x_43 : Int32).toInt < 10 - (yy_8800 : Int32).toInt ∧ 1 ≤ 10 - (yy_8800 : Int32).toInt := by
                have z_1 := Int32.le_iff_toInt_le.mp c_13
                have z_2 := Int32.lt_iff_toInt_lt.mp (Int32.not_le.mp c_23)
                have y_6 : (6 : Int32).toInt = 6 := by decide
                have y_10 : (10 : Int32).toInt = 10 := by decide
                have y_1 : (1 : Int32).toInt = 1 := by decide
                have t_x_43 : x_43.toInt = (yy_8800 : Int32).toInt + (1 : Int32).toInt := by rw [ex_43]; exact add_toInt (by omega) (by omega)
                omega
              have hm_45 : (10 - (yy_8800 : Int32).toInt).toNat = (10 - (x_43 : Int32).toInt).toNat + 1 := by
                have z_1 := Int32.le_iff_toInt_le.mp c_13
                have z_2 := Int32.lt_iff_toInt_lt.mp (Int32.not_le.mp c_23)
                have y_6 : (6 : Int32).toInt = 6 := by decide
                have y_10 : (10 : Int32).toInt = 10 := by decide
                have y_1 : (1 : Int32).toInt = 1 := by decide
                have t_x_43 : x_43.toInt = (yy_8800 : Int32).toInt + (1 : Int32).toInt := by rw [ex_43]; exact add_toInt (by omega) (by omega)
                omega
              have hb_46 : dX12_begins_l87 ((10 - (yy_8800 : Int32).toInt).toNat + 1) yy_8800 yy_8801 = dX12_begins_l87 ((10 - (yy_8800 : Int32).toInt).toNat) x_43 g_40 := by
                clear hP hD hS hl ih_17 ih_7
                replace eg_1 := eg_1.symm; subst eg_1
                replace ex_3 := ex_3.symm; subst ex_3
                replace eg_4 := eg_4.symm; subst eg_4
                replace ex_27 := ex_27.symm; subst ex_27
                replace ex_28 := ex_28.symm; subst ex_28
                replace ex_30 := ex_30.symm; subst ex_30
                replace eg_32 := eg_32.symm; subst eg_32
                replace ex_35 := ex_35.symm; subst ex_35
                replace ex_36 := ex_36.symm; subst ex_36
                replace ex_38 := ex_38.symm; subst ex_38
                replace eg_40 := eg_40.symm; subst eg_40
                replace ex_43 := ex_43.symm; subst ex_43
                rw [dX12_begins_l87_s]
                rw [if_neg c_23]
                try rfl
              have hL_47 : (dX12_begins_l87 ((10 - (0 : Int32).toInt).toNat + 1) (0 : Int32) yy_2501) = dX12_begins_l87 ((10 - (x_43 : Int32).toInt).toNat + 1) x_43 g_40 := by
                rw [hL_21, hb_46, hm_45]
              have ha_48 : 0 ≤ (x_43 : Int32).toInt := by
                have z_1 := Int32.le_iff_toInt_le.mp c_13
                have z_2 := Int32.lt_iff_toInt_lt.mp (Int32.not_le.mp c_23)
                have y_6 : (6 : Int32).toInt = 6 := by decide
                have y_10 : (10 : Int32).toInt = 10 := by decide
                have y_1 : (1 : Int32).toInt = 1 := by decide
                have t_x_43 : x_43.toInt = (yy_8800 : Int32).toInt + (1 : Int32).toInt := by rw [ex_43]; exact add_toInt (by omega) (by omega)
                omega
              exact ih_17 x_43 g_40 _ _ _ (by omega) hL_47 ha_48 pf_41 (hP.sub [0, 1] rfl) (hD.sub [0, 1] rfl rfl) hS (lv_sub hl [0, 1] rfl)
        have ha_49 : 0 ≤ (0 : Int32).toInt := by
          have z_1 := Int32.le_iff_toInt_le.mp c_13
          have y_6 : (6 : Int32).toInt = 6 := by decide
          have y_0 : (0 : Int32).toInt = 0 := by decide
          omega
        exact loop_18 _ 0 yy_2501 _ _ _ (Nat.lt_succ_self _) rfl ha_49 pf_10 hP hD hS hl
      · skip
        refine lv_bipush (v := 12) hx hb dX12_begins_30 (by decide) ?_
        refine lv_iconst (v := 4) hx hb dX12_begins_32 (by decide) ?_
        refine lv_iload_n hx hb dX12_begins_33 rfl (lv_at hl 0 rfl) ?_
        refine lv_imul hx hb dX12_begins_34 ?_
        refine lv_topi (fun x_50 ex_50 => ?_)
        refine lv_iadd hx hb dX12_begins_35 ?_
        refine lv_topi (fun x_51 ex_51 => ?_)
        refine lv_istore_n (lv' := [(2, .int x_51), (1, .int yy_2500), (0, .ref (Ma 0))]) hx hb dX12_begins_36 rfl hl (by decide) rfl (fun ls hl₀ => ?_)
        replace hl := hl₀
        clear hl₀
        refine lv_aload_n hx hb dX12_begins_37 rfl (lv_at hl 2 rfl) ?_
        refine gf_X12_39 hx hb hts hown hK hP 0 rfl rfl dX12_begins_38 ?_
        refine lv_iload_n hx hb dX12_begins_41 rfl (lv_at hl 0 rfl) ?_
        refine lv_aload_n hx hb dX12_begins_42 rfl (lv_at hl 2 rfl) ?_
        refine gf_X12_39 hx hb hts hown hK hP 0 rfl rfl dX12_begins_43 ?_
        refine lv_bipush (v := 68) hx hb dX12_begins_46 (by decide) ?_
        refine lv_iload_n hx hb dX12_begins_48 rfl (lv_at hl 1 rfl) ?_
        refine lv_iadd hx hb dX12_begins_49 ?_
        refine lv_topi (fun x_52 ex_52 => ?_)
        have hi_53 : vp_in x_52 126 := by
          have z_1 := Int32.lt_iff_toInt_lt.mp (Int32.not_le.mp c_13)
          have y_6 : (6 : Int32).toInt = 6 := by decide
          have y_68 : (68 : Int32).toInt = 68 := by decide
          have t_x_52 : x_52.toInt = (68 : Int32).toInt + (yy_2500 : Int32).toInt := by rw [ex_52]; exact add_toInt (by omega) (by omega)
          refine vp_in_iff.mpr ⟨?_, ?_⟩ <;> omega
        refine va_iald hx hb hK hP 1 0 rfl rfl hi_53 dX12_begins_50 ?_
        refine lv_topi (fun x_54 ex_54 => ?_)
        have hi_55 : vp_in x_51 126 := by
          have z_1 := Int32.lt_iff_toInt_lt.mp (Int32.not_le.mp c_13)
          have y_6 : (6 : Int32).toInt = 6 := by decide
          have y_4 : (4 : Int32).toInt = 4 := by decide
          have y_12 : (12 : Int32).toInt = 12 := by decide
          have t_x_50 : x_50.toInt = (4 : Int32).toInt * (yy_2500 : Int32).toInt := by rw [ex_50]; exact mul_toInt (by first | omega | (rw [y_4]; omega)) (by first | omega | (rw [y_4]; omega))
          rw [y_4] at t_x_50
          have t_x_51 : x_51.toInt = (12 : Int32).toInt + (x_50 : Int32).toInt := by rw [ex_51]; exact add_toInt (by omega) (by omega)
          refine vp_in_iff.mpr ⟨?_, ?_⟩ <;> omega
        refine st_int hx hb hK hP hD hS 1 0 rfl rfl hi_55 dX12_begins_51 (fun g_56 H locs eg_56 hP₀ hD₀ hS₀ => ?_)
        replace hP : va_P D classes [((Ma 0), .inr (12, [.ref (Ma 1), .int (Mv 0), .int (Mv 1), .ref (Ma 2), .ref (Ma 3), .ref (Ma 4), .ref (Ma 5), .ref (Ma 6), .int (Mv 2), .int (Mv 3), .int (Mv 4), .int (Mv 5), .int (Mv 6), .int (Mv 7), .int (Mv 8), .ref (Ma 7), .int (Mv 9), .ref (Ma 8), .int (Mv 10), .ref (Ma 9), .ref (Ma 10), .int (Mv 11), .int (Mv 12), .int (Mv 13), .ref (Ma 11), .int (Mv 14), .ref (Ma 12), .ref (Ma 13), .ref (Ma 14), .ref (Ma 15), .ref (Ma 16), .long (Mj 0), .ref (Ma 17), .ref (Ma 18), .ref (Ma 19), .ref (Ma 20)])), ((Ma 10), .inl (tc 0, 126, .inl g_56))] H := hP₀
        replace hD : va_D A [((Ma 0), .inr (12, [.ref (Ma 1), .int (Mv 0), .int (Mv 1), .ref (Ma 2), .ref (Ma 3), .ref (Ma 4), .ref (Ma 5), .ref (Ma 6), .int (Mv 2), .int (Mv 3), .int (Mv 4), .int (Mv 5), .int (Mv 6), .int (Mv 7), .int (Mv 8), .ref (Ma 7), .int (Mv 9), .ref (Ma 8), .int (Mv 10), .ref (Ma 9), .ref (Ma 10), .int (Mv 11), .int (Mv 12), .int (Mv 13), .ref (Ma 11), .int (Mv 14), .ref (Ma 12), .ref (Ma 13), .ref (Ma 14), .ref (Ma 15), .ref (Ma 16), .long (Mj 0), .ref (Ma 17), .ref (Ma 18), .ref (Ma 19), .ref (Ma 20)])), ((Ma 10), .inl (tc 0, 126, .inl g_56))] := hD₀
        replace hS := hS₀
        clear hP₀ hD₀ hS₀
        have hx_58 : 11 ≤ (x_51 : Int32).toNatClampNeg ∧ (x_51 : Int32).toNatClampNeg < 56 := by
          have z_1 := Int32.lt_iff_toInt_lt.mp (Int32.not_le.mp c_13)
          have y_6 : (6 : Int32).toInt = 6 := by decide
          have y_4 : (4 : Int32).toInt = 4 := by decide
          have y_12 : (12 : Int32).toInt = 12 := by decide
          have t_x_50 : x_50.toInt = (4 : Int32).toInt * (yy_2500 : Int32).toInt := by rw [ex_50]; exact mul_toInt (by first | omega | (rw [y_4]; omega)) (by first | omega | (rw [y_4]; omega))
          rw [y_4] at t_x_50
          have t_x_51 : x_51.toInt = (12 : Int32).toInt + (x_50 : Int32).toInt := by rw [ex_51]; exact add_toInt (by omega) (by omega)
          have hcl : (x_51 : Int32).toNatClampNeg = (x_51 : Int32).toInt.toNat := rfl
          omega
        have pf_57 : SaidD T g_56 0 := SaidD.keep pf_10 eg_56 hx_58
        have ar_pf_57 := SaidD.ar pf_57
        refine lv_aload_n hx hb dX12_begins_52 rfl (lv_at hl 2 rfl) ?_
        refine gf_X12_39 hx hb hts hown hK hP 0 rfl rfl dX12_begins_53 ?_
        refine lv_iload_n hx hb dX12_begins_56 rfl (lv_at hl 0 rfl) ?_
        refine lv_iconst (v := 1) hx hb dX12_begins_57 (by decide) ?_
        refine lv_iadd hx hb dX12_begins_58 ?_
        refine lv_topi (fun x_59 ex_59 => ?_)
        refine lv_iconst (v := 0) hx hb dX12_begins_59 (by decide) ?_
        have hi_60 : vp_in x_59 126 := by
          have z_1 := Int32.lt_iff_toInt_lt.mp (Int32.not_le.mp c_13)
          have y_6 : (6 : Int32).toInt = 6 := by decide
          have y_1 : (1 : Int32).toInt = 1 := by decide
          have y_4 : (4 : Int32).toInt = 4 := by decide
          have y_12 : (12 : Int32).toInt = 12 := by decide
          have t_x_50 : x_50.toInt = (4 : Int32).toInt * (yy_2500 : Int32).toInt := by rw [ex_50]; exact mul_toInt (by first | omega | (rw [y_4]; omega)) (by first | omega | (rw [y_4]; omega))
          rw [y_4] at t_x_50
          have t_x_51 : x_51.toInt = (12 : Int32).toInt + (x_50 : Int32).toInt := by rw [ex_51]; exact add_toInt (by omega) (by omega)
          have t_x_59 : x_59.toInt = (x_51 : Int32).toInt + (1 : Int32).toInt := by rw [ex_59]; exact add_toInt (by omega) (by omega)
          refine vp_in_iff.mpr ⟨?_, ?_⟩ <;> omega
        refine st_int hx hb hK hP hD hS 1 0 rfl rfl hi_60 dX12_begins_60 (fun g_61 H locs eg_61 hP₀ hD₀ hS₀ => ?_)
        replace hP : va_P D classes [((Ma 0), .inr (12, [.ref (Ma 1), .int (Mv 0), .int (Mv 1), .ref (Ma 2), .ref (Ma 3), .ref (Ma 4), .ref (Ma 5), .ref (Ma 6), .int (Mv 2), .int (Mv 3), .int (Mv 4), .int (Mv 5), .int (Mv 6), .int (Mv 7), .int (Mv 8), .ref (Ma 7), .int (Mv 9), .ref (Ma 8), .int (Mv 10), .ref (Ma 9), .ref (Ma 10), .int (Mv 11), .int (Mv 12), .int (Mv 13), .ref (Ma 11), .int (Mv 14), .ref (Ma 12), .ref (Ma 13), .ref (Ma 14), .ref (Ma 15), .ref (Ma 16), .long (Mj 0), .ref (Ma 17), .ref (Ma 18), .ref (Ma 19), .ref (Ma 20)])), ((Ma 10), .inl (tc 0, 126, .inl g_61))] H := hP₀
        replace hD : va_D A [((Ma 0), .inr (12, [.ref (Ma 1), .int (Mv 0), .int (Mv 1), .ref (Ma 2), .ref (Ma 3), .ref (Ma 4), .ref (Ma 5), .ref (Ma 6), .int (Mv 2), .int (Mv 3), .int (Mv 4), .int (Mv 5), .int (Mv 6), .int (Mv 7), .int (Mv 8), .ref (Ma 7), .int (Mv 9), .ref (Ma 8), .int (Mv 10), .ref (Ma 9), .ref (Ma 10), .int (Mv 11), .int (Mv 12), .int (Mv 13), .ref (Ma 11), .int (Mv 14), .ref (Ma 12), .ref (Ma 13), .ref (Ma 14), .ref (Ma 15), .ref (Ma 16), .long (Mj 0), .ref (Ma 17), .ref (Ma 18), .ref (Ma 19), .ref (Ma 20)])), ((Ma 10), .inl (tc 0, 126, .inl g_61))] := hD₀
        replace hS := hS₀
        clear hP₀ hD₀ hS₀
        have hx_63 : 11 ≤ (x_59 : Int32).toNatClampNeg ∧ (x_59 : Int32).toNatClampNeg < 56 := by
          have z_1 := Int32.lt_iff_toInt_lt.mp (Int32.not_le.mp c_13)
          have y_6 : (6 : Int32).toInt = 6 := by decide
          have y_1 : (1 : Int32).toInt = 1 := by decide
          have y_4 : (4 : Int32).toInt = 4 := by decide
          have y_12 : (12 : Int32).toInt = 12 := by decide
          have t_x_50 : x_50.toInt = (4 : Int32).toInt * (yy_2500 : Int32).toInt := by rw [ex_50]; exact mul_toInt (by first | omega | (rw [y_4]; omega)) (by first | omega | (rw [y_4]; omega))
          rw [y_4] at t_x_50
          have t_x_51 : x_51.toInt = (12 : Int32).toInt + (x_50 : Int32).toInt := by rw [ex_51]; exact add_toInt (by omega) (by omega)
          have t_x_59 : x_59.toInt = (x_51 : Int32).toInt + (1 : Int32).toInt := by rw [ex_59]; exact add_toInt (by omega) (by omega)
          have hcl : (x_59 : Int32).toNatClampNeg = (x_59 : Int32).toInt.toNat := rfl
          omega
        have pf_62 : SaidD T g_61 0 := SaidD.keep pf_57 eg_61 hx_63
        have ar_pf_62 := SaidD.ar pf_62
        refine lv_aload_n hx hb dX12_begins_61 rfl (lv_at hl 2 rfl) ?_
        refine gf_X12_39 hx hb hts hown hK hP 0 rfl rfl dX12_begins_62 ?_
        refine lv_iload_n hx hb dX12_begins_65 rfl (lv_at hl 0 rfl) ?_
        refine lv_iconst (v := 2) hx hb dX12_begins_66 (by decide) ?_
        refine lv_iadd hx hb dX12_begins_67 ?_
        refine lv_topi (fun x_64 ex_64 => ?_)
        refine lv_iconst (v := 0) hx hb dX12_begins_68 (by decide) ?_
        have hi_65 : vp_in x_64 126 := by
          have z_1 := Int32.lt_iff_toInt_lt.mp (Int32.not_le.mp c_13)
          have y_6 : (6 : Int32).toInt = 6 := by decide
          have y_2 : (2 : Int32).toInt = 2 := by decide
          have y_4 : (4 : Int32).toInt = 4 := by decide
          have y_12 : (12 : Int32).toInt = 12 := by decide
          have t_x_50 : x_50.toInt = (4 : Int32).toInt * (yy_2500 : Int32).toInt := by rw [ex_50]; exact mul_toInt (by first | omega | (rw [y_4]; omega)) (by first | omega | (rw [y_4]; omega))
          rw [y_4] at t_x_50
          have t_x_51 : x_51.toInt = (12 : Int32).toInt + (x_50 : Int32).toInt := by rw [ex_51]; exact add_toInt (by omega) (by omega)
          have t_x_64 : x_64.toInt = (x_51 : Int32).toInt + (2 : Int32).toInt := by rw [ex_64]; exact add_toInt (by omega) (by omega)
          refine vp_in_iff.mpr ⟨?_, ?_⟩ <;> omega
        refine st_int hx hb hK hP hD hS 1 0 rfl rfl hi_65 dX12_begins_69 (fun g_66 H locs eg_66 hP₀ hD₀ hS₀ => ?_)
        replace hP : va_P D classes [((Ma 0), .inr (12, [.ref (Ma 1), .int (Mv 0), .int (Mv 1), .ref (Ma 2), .ref (Ma 3), .ref (Ma 4), .ref (Ma 5), .ref (Ma 6), .int (Mv 2), .int (Mv 3), .int (Mv 4), .int (Mv 5), .int (Mv 6), .int (Mv 7), .int (Mv 8), .ref (Ma 7), .int (Mv 9), .ref (Ma 8), .int (Mv 10), .ref (Ma 9), .ref (Ma 10), .int (Mv 11), .int (Mv 12), .int (Mv 13), .ref (Ma 11), .int (Mv 14), .ref (Ma 12), .ref (Ma 13), .ref (Ma 14), .ref (Ma 15), .ref (Ma 16), .long (Mj 0), .ref (Ma 17), .ref (Ma 18), .ref (Ma 19), .ref (Ma 20)])), ((Ma 10), .inl (tc 0, 126, .inl g_66))] H := hP₀
        replace hD : va_D A [((Ma 0), .inr (12, [.ref (Ma 1), .int (Mv 0), .int (Mv 1), .ref (Ma 2), .ref (Ma 3), .ref (Ma 4), .ref (Ma 5), .ref (Ma 6), .int (Mv 2), .int (Mv 3), .int (Mv 4), .int (Mv 5), .int (Mv 6), .int (Mv 7), .int (Mv 8), .ref (Ma 7), .int (Mv 9), .ref (Ma 8), .int (Mv 10), .ref (Ma 9), .ref (Ma 10), .int (Mv 11), .int (Mv 12), .int (Mv 13), .ref (Ma 11), .int (Mv 14), .ref (Ma 12), .ref (Ma 13), .ref (Ma 14), .ref (Ma 15), .ref (Ma 16), .long (Mj 0), .ref (Ma 17), .ref (Ma 18), .ref (Ma 19), .ref (Ma 20)])), ((Ma 10), .inl (tc 0, 126, .inl g_66))] := hD₀
        replace hS := hS₀
        clear hP₀ hD₀ hS₀
        have hx_68 : 11 ≤ (x_64 : Int32).toNatClampNeg ∧ (x_64 : Int32).toNatClampNeg < 56 := by
          have z_1 := Int32.lt_iff_toInt_lt.mp (Int32.not_le.mp c_13)
          have y_6 : (6 : Int32).toInt = 6 := by decide
          have y_2 : (2 : Int32).toInt = 2 := by decide
          have y_4 : (4 : Int32).toInt = 4 := by decide
          have y_12 : (12 : Int32).toInt = 12 := by decide
          have t_x_50 : x_50.toInt = (4 : Int32).toInt * (yy_2500 : Int32).toInt := by rw [ex_50]; exact mul_toInt (by first | omega | (rw [y_4]; omega)) (by first | omega | (rw [y_4]; omega))
          rw [y_4] at t_x_50
          have t_x_51 : x_51.toInt = (12 : Int32).toInt + (x_50 : Int32).toInt := by rw [ex_51]; exact add_toInt (by omega) (by omega)
          have t_x_64 : x_64.toInt = (x_51 : Int32).toInt + (2 : Int32).toInt := by rw [ex_64]; exact add_toInt (by omega) (by omega)
          have hcl : (x_64 : Int32).toNatClampNeg = (x_64 : Int32).toInt.toNat := rfl
          omega
        have pf_67 : SaidD T g_66 0 := SaidD.keep pf_62 eg_66 hx_68
        have ar_pf_67 := SaidD.ar pf_67
        refine lv_aload_n hx hb dX12_begins_70 rfl (lv_at hl 2 rfl) ?_
        refine gf_X12_39 hx hb hts hown hK hP 0 rfl rfl dX12_begins_71 ?_
        refine lv_iload_n hx hb dX12_begins_74 rfl (lv_at hl 0 rfl) ?_
        refine lv_iconst (v := 3) hx hb dX12_begins_75 (by decide) ?_
        refine lv_iadd hx hb dX12_begins_76 ?_
        refine lv_topi (fun x_69 ex_69 => ?_)
        refine lv_iconst (v := (-1)) hx hb dX12_begins_77 (by decide) ?_
        have hi_70 : vp_in x_69 126 := by
          have z_1 := Int32.lt_iff_toInt_lt.mp (Int32.not_le.mp c_13)
          have y_6 : (6 : Int32).toInt = 6 := by decide
          have y_3 : (3 : Int32).toInt = 3 := by decide
          have y_4 : (4 : Int32).toInt = 4 := by decide
          have y_12 : (12 : Int32).toInt = 12 := by decide
          have t_x_50 : x_50.toInt = (4 : Int32).toInt * (yy_2500 : Int32).toInt := by rw [ex_50]; exact mul_toInt (by first | omega | (rw [y_4]; omega)) (by first | omega | (rw [y_4]; omega))
          rw [y_4] at t_x_50
          have t_x_51 : x_51.toInt = (12 : Int32).toInt + (x_50 : Int32).toInt := by rw [ex_51]; exact add_toInt (by omega) (by omega)
          have t_x_69 : x_69.toInt = (x_51 : Int32).toInt + (3 : Int32).toInt := by rw [ex_69]; exact add_toInt (by omega) (by omega)
          refine vp_in_iff.mpr ⟨?_, ?_⟩ <;> omega
        refine st_int hx hb hK hP hD hS 1 0 rfl rfl hi_70 dX12_begins_78 (fun g_71 H locs eg_71 hP₀ hD₀ hS₀ => ?_)
        replace hP : va_P D classes [((Ma 0), .inr (12, [.ref (Ma 1), .int (Mv 0), .int (Mv 1), .ref (Ma 2), .ref (Ma 3), .ref (Ma 4), .ref (Ma 5), .ref (Ma 6), .int (Mv 2), .int (Mv 3), .int (Mv 4), .int (Mv 5), .int (Mv 6), .int (Mv 7), .int (Mv 8), .ref (Ma 7), .int (Mv 9), .ref (Ma 8), .int (Mv 10), .ref (Ma 9), .ref (Ma 10), .int (Mv 11), .int (Mv 12), .int (Mv 13), .ref (Ma 11), .int (Mv 14), .ref (Ma 12), .ref (Ma 13), .ref (Ma 14), .ref (Ma 15), .ref (Ma 16), .long (Mj 0), .ref (Ma 17), .ref (Ma 18), .ref (Ma 19), .ref (Ma 20)])), ((Ma 10), .inl (tc 0, 126, .inl g_71))] H := hP₀
        replace hD : va_D A [((Ma 0), .inr (12, [.ref (Ma 1), .int (Mv 0), .int (Mv 1), .ref (Ma 2), .ref (Ma 3), .ref (Ma 4), .ref (Ma 5), .ref (Ma 6), .int (Mv 2), .int (Mv 3), .int (Mv 4), .int (Mv 5), .int (Mv 6), .int (Mv 7), .int (Mv 8), .ref (Ma 7), .int (Mv 9), .ref (Ma 8), .int (Mv 10), .ref (Ma 9), .ref (Ma 10), .int (Mv 11), .int (Mv 12), .int (Mv 13), .ref (Ma 11), .int (Mv 14), .ref (Ma 12), .ref (Ma 13), .ref (Ma 14), .ref (Ma 15), .ref (Ma 16), .long (Mj 0), .ref (Ma 17), .ref (Ma 18), .ref (Ma 19), .ref (Ma 20)])), ((Ma 10), .inl (tc 0, 126, .inl g_71))] := hD₀
        replace hS := hS₀
        clear hP₀ hD₀ hS₀
        have hx_73 : 11 ≤ (x_69 : Int32).toNatClampNeg ∧ (x_69 : Int32).toNatClampNeg < 56 := by
          have z_1 := Int32.lt_iff_toInt_lt.mp (Int32.not_le.mp c_13)
          have y_6 : (6 : Int32).toInt = 6 := by decide
          have y_3 : (3 : Int32).toInt = 3 := by decide
          have y_4 : (4 : Int32).toInt = 4 := by decide
          have y_12 : (12 : Int32).toInt = 12 := by decide
          have t_x_50 : x_50.toInt = (4 : Int32).toInt * (yy_2500 : Int32).toInt := by rw [ex_50]; exact mul_toInt (by first | omega | (rw [y_4]; omega)) (by first | omega | (rw [y_4]; omega))
          rw [y_4] at t_x_50
          have t_x_51 : x_51.toInt = (12 : Int32).toInt + (x_50 : Int32).toInt := by rw [ex_51]; exact add_toInt (by omega) (by omega)
          have t_x_69 : x_69.toInt = (x_51 : Int32).toInt + (3 : Int32).toInt := by rw [ex_69]; exact add_toInt (by omega) (by omega)
          have hcl : (x_69 : Int32).toNatClampNeg = (x_69 : Int32).toInt.toNat := rfl
          omega
        have pf_72 : SaidD T g_71 0 := SaidD.keep pf_67 eg_71 hx_73
        have ar_pf_72 := SaidD.ar pf_72
        obtain ⟨x_74, ex_74⟩ : ∃ y : Int32, y = yy_2500 + 1 := ⟨_, rfl⟩
        refine lv_iinc (v := x_74) (lv' := [(1, .int x_74), (2, .int x_51), (0, .ref (Ma 0))]) hx hb dX12_begins_79 hl (k := 1) rfl (by rw [ex_74]; rfl) (by decide) rfl (fun ls hl₀ => ?_)
        replace hl := hl₀
        clear hl₀
        refine lv_goto (tgt := 24) hx hb dX12_begins_82 (by decide) ?_
        have hb_75 : 6 - (x_74 : Int32).toInt < 6 - (yy_2500 : Int32).toInt ∧ 1 ≤ 6 - (yy_2500 : Int32).toInt := by
          have z_1 := Int32.lt_iff_toInt_lt.mp (Int32.not_le.mp c_13)
          have y_6 : (6 : Int32).toInt = 6 := by decide
          have y_1 : (1 : Int32).toInt = 1 := by decide
          have t_x_74 : x_74.toInt = (yy_2500 : Int32).toInt + (1 : Int32).toInt := by rw [ex_74]; exact add_toInt (by omega) (by omega)
          omega
        have hm_76 : (6 - (yy_2500 : Int32).toInt).toNat = (6 - (x_74 : Int32).toInt).toNat + 1 := by
          have z_1 := Int32.lt_iff_toInt_lt.mp (Int32.not_le.mp c_13)
          have y_6 : (6 : Int32).toInt = 6 := by decide
          have y_1 : (1 : Int32).toInt = 1 := by decide
          have t_x_74 : x_74.toInt = (yy_2500 : Int32).toInt + (1 : Int32).toInt := by rw [ex_74]; exact add_toInt (by omega) (by omega)
          omega
        have hb_77 : dX12_begins_l24 ((6 - (yy_2500 : Int32).toInt).toNat + 1) yy_2500 yy_2501 = dX12_begins_l24 ((6 - (yy_2500 : Int32).toInt).toNat) x_74 g_71 := by
          clear hP hD hS hl ih_7
          replace eg_1 := eg_1.symm; subst eg_1
          replace ex_3 := ex_3.symm; subst ex_3
          replace eg_4 := eg_4.symm; subst eg_4
          replace ex_50 := ex_50.symm; subst ex_50
          replace ex_51 := ex_51.symm; subst ex_51
          replace ex_52 := ex_52.symm; subst ex_52
          replace ex_54 := ex_54.symm; subst ex_54
          replace eg_56 := eg_56.symm; subst eg_56
          replace ex_59 := ex_59.symm; subst ex_59
          replace eg_61 := eg_61.symm; subst eg_61
          replace ex_64 := ex_64.symm; subst ex_64
          replace eg_66 := eg_66.symm; subst eg_66
          replace ex_69 := ex_69.symm; subst ex_69
          replace eg_71 := eg_71.symm; subst eg_71
          replace ex_74 := ex_74.symm; subst ex_74
          rw [dX12_begins_l24_s]
          rw [if_neg c_13]
          try rfl
        have hL_78 : (dX12_begins_l24 ((6 - (0 : Int32).toInt).toNat + 1) (0 : Int32) g_4) = dX12_begins_l24 ((6 - (x_74 : Int32).toInt).toNat + 1) x_74 g_71 := by
          rw [hL_11, hb_77, hm_76]
        have ha_79 : 0 ≤ (x_74 : Int32).toInt := by
          have z_1 := Int32.lt_iff_toInt_lt.mp (Int32.not_le.mp c_13)
          have y_6 : (6 : Int32).toInt = 6 := by decide
          have y_1 : (1 : Int32).toInt = 1 := by decide
          have t_x_74 : x_74.toInt = (yy_2500 : Int32).toInt + (1 : Int32).toInt := by rw [ex_74]; exact add_toInt (by omega) (by omega)
          omega
        exact ih_7 x_74 g_71 _ _ _ (by omega) hL_78 ha_79 pf_72 (hP.sub [0, 1] rfl) (hD.sub [0, 1] rfl rfl) hS (lv_sub hl [0, 2] rfl)
  have ha_80 : 0 ≤ (0 : Int32).toInt := by
    have y_0 : (0 : Int32).toInt = 0 := by decide
    omega
  exact loop_8 _ 0 g_4 _ _ _ (Nat.lt_succ_self _) rfl ha_80 pf_5 hP hD hS hl
set_option maxRecDepth 100000 in
theorem cu_dX12_begins {T : Nat → Option Int32} (l : Launch) (D : va_G) (tc : Nat → ClassId) (sk : (Nat → Nat) × (Nat → Nat)) (Ma_0 : Nat) (Ma_1 : Nat) (Ma_2 : Nat) (Ma_3 : Nat) (Ma_4 : Nat) (Ma_5 : Nat) (Ma_6 : Nat) (Ma_7 : Nat) (Ma_8 : Nat) (Ma_9 : Nat) (Ma_10 : Nat) (Ma_11 : Nat) (Ma_12 : Nat) (Ma_13 : Nat) (Ma_14 : Nat) (Ma_15 : Nat) (Ma_16 : Nat) (Ma_17 : Nat) (Ma_18 : Nat) (Ma_19 : Nat) (Ma_20 : Nat) (Mv_0 : Int32) (Mv_1 : Int32) (Mv_2 : Int32) (Mv_3 : Int32) (Mv_4 : Int32) (Mv_5 : Int32) (Mv_6 : Int32) (Mv_7 : Int32) (Mv_8 : Int32) (Mv_9 : Int32) (Mv_10 : Int32) (Mv_11 : Int32) (Mv_12 : Int32) (Mv_13 : Int32) (Mv_14 : Int32) (Mf_10 : Nat → Int32) (Mj_0 : Int64) (h_said : SaidB T Mf_10) : Ct l yX12_begins cX12_begins 3 none { frames := 0, cells := 0, slots := 0, locals := 0 } D tc sk [.ref Ma_0] [(Ma_0, .inr (12, [.ref Ma_1, .int Mv_0, .int Mv_1, .ref Ma_2, .ref Ma_3, .ref Ma_4, .ref Ma_5, .ref Ma_6, .int Mv_2, .int Mv_3, .int Mv_4, .int Mv_5, .int Mv_6, .int Mv_7, .int Mv_8, .ref Ma_7, .int Mv_9, .ref Ma_8, .int Mv_10, .ref Ma_9, .ref Ma_10, .int Mv_11, .int Mv_12, .int Mv_13, .ref Ma_11, .int Mv_14, .ref Ma_12, .ref Ma_13, .ref Ma_14, .ref Ma_15, .ref Ma_16, .long Mj_0, .ref Ma_17, .ref Ma_18, .ref Ma_19, .ref Ma_20])), (Ma_10, .inl (tc 0, 126, .inl Mf_10))] (fun (v : Option Value) (oo0x1 : Nat → Int32) => v = none ∧ (SaidD T oo0x1 0) ∧ (DEq (oo0x1) (dX12_begins Mf_10))) (fun (oo0x1 : Nat → Int32) => [(Ma_0, .inr (12, [.ref Ma_1, .int Mv_0, .int Mv_1, .ref Ma_2, .ref Ma_3, .ref Ma_4, .ref Ma_5, .ref Ma_6, .int Mv_2, .int Mv_3, .int Mv_4, .int Mv_5, .int Mv_6, .int Mv_7, .int Mv_8, .ref Ma_7, .int Mv_9, .ref Ma_8, .int Mv_10, .ref Ma_9, .ref Ma_10, .int Mv_11, .int Mv_12, .int Mv_13, .ref Ma_11, .int Mv_14, .ref Ma_12, .ref Ma_13, .ref Ma_14, .ref Ma_15, .ref Ma_16, .long Mj_0, .ref Ma_17, .ref Ma_18, .ref Ma_19, .ref Ma_20])), (Ma_10, .inl (tc 0, 126, .inl oo0x1))]) 0 0 :=
  ct_dX12_begins l D tc sk (fun k => ([Ma_0, Ma_1, Ma_2, Ma_3, Ma_4, Ma_5, Ma_6, Ma_7, Ma_8, Ma_9, Ma_10, Ma_11, Ma_12, Ma_13, Ma_14, Ma_15, Ma_16, Ma_17, Ma_18, Ma_19, Ma_20] : List (Nat)).getD k 0) (fun k => ([Mv_0, Mv_1, Mv_2, Mv_3, Mv_4, Mv_5, Mv_6, Mv_7, Mv_8, Mv_9, Mv_10, Mv_11, Mv_12, Mv_13, Mv_14] : List (Int32)).getD k 0) (fun k => ([(fun _ => 0), (fun _ => 0), (fun _ => 0), (fun _ => 0), (fun _ => 0), (fun _ => 0), (fun _ => 0), (fun _ => 0), (fun _ => 0), (fun _ => 0), Mf_10] : List (Nat → Int32)).getD k (fun _ => 0)) (fun k => ([Mj_0] : List (Int64)).getD k 0) h_said
