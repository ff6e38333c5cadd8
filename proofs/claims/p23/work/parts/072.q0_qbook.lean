set_option maxRecDepth 16384
set_option maxHeartbeats 4000000 in
set_option maxRecDepth 100000 in
theorem ct_zX9_hasClock (l : Launch) (D : va_G) (tc : Nat → ClassId) (sk : (Nat → Nat) × (Nat → Nat)) (Aa : Nat → Nat) (Av : Nat → Int32) (Af : Nat → Nat → Int32) (x1 : Int32)  : Ct l yX9_hasClock cX9_hasClock 2 (some .boolean) { frames := 0, cells := 0, slots := 0, locals := 0 } D tc sk [.ref (Aa 0), .int x1] [((Aa 0), .inr (9, [.int (Av 0), .int (Av 1), .int (Av 2), .int (Av 3), .int (Av 4), .int (Av 5), .ref (Aa 1), .ref (Aa 2), .ref (Aa 3), .ref (Aa 4), .ref (Aa 5), .ref (Aa 6), .ref (Aa 7), .ref (Aa 8)])), ((Aa 1), .inl (tc 0, 10, .inl (Af 1))), ((Aa 2), .inl (tc 0, 10, .inl (Af 2))), ((Aa 3), .inl (tc 0, 6, .inl (Af 3))), ((Aa 4), .inl (tc 0, 6, .inl (Af 4))), ((Aa 5), .inl (tc 0, 6, .inl (Af 5))), ((Aa 6), .inl (tc 0, 6, .inl (Af 6))), ((Aa 7), .inl (tc 0, 6, .inl (Af 7))), ((Aa 8), .inl (tc 0, 6, .inl (Af 8)))] (fun (v : Option Value) (_ : Unit) => ∃ r : Int32, v = some (.int r) ∧ (((r.toInt = 0 ∧ ¬ (0 ≤ x1.toInt ∧ x1.toInt < (Av 2).toInt ∧ x1.toInt < 10)) ∨ (r.toInt = 1 ∧ (0 ≤ x1.toInt ∧ x1.toInt < (Av 2).toInt ∧ x1.toInt < 10))))) (fun (_ : Unit) => [((Aa 0), .inr (9, [.int (Av 0), .int (Av 1), .int (Av 2), .int (Av 3), .int (Av 4), .int (Av 5), .ref (Aa 1), .ref (Aa 2), .ref (Aa 3), .ref (Aa 4), .ref (Aa 5), .ref (Aa 6), .ref (Aa 7), .ref (Aa 8)])), ((Aa 1), .inl (tc 0, 10, .inl (Af 1))), ((Aa 2), .inl (tc 0, 10, .inl (Af 2))), ((Aa 3), .inl (tc 0, 6, .inl (Af 3))), ((Aa 4), .inl (tc 0, 6, .inl (Af 4))), ((Aa 5), .inl (tc 0, 6, .inl (Af 5))), ((Aa 6), .inl (tc 0, 6, .inl (Af 6))), ((Aa 7), .inl (tc 0, 6, .inl (Af 7))), ((Aa 8), .inl (tc 0, 6, .inl (Af 8)))]) 0 0 := by
  refine Ct.start (by decide) (Nat.le_of_ble_eq_true rfl) (fun p e s m below meth c A ls hx hb hr hlk hin hml hown hts hK hX hP hD hA hl hS => ?_)
  have hl : lv_has ls 2 [(0, .ref (Aa 0)), (1, .int x1)] := hl
  refine lv_iload_n hx hb dX9_hasClock_0 rfl (lv_at hl 1 rfl) ?_
  refine lv_if_lt (tgt := 22) hx hb dX9_hasClock_1 (by decide) (fun c_1 => ?_) (fun c_1 => ?_)
  · skip
    refine lv_iconst (v := 0) hx hb dX9_hasClock_22 (by decide) ?_
    have hp_2 : (((0 : Int32).toInt = 0 ∧ ¬ (0 ≤ x1.toInt ∧ x1.toInt < (Av 2).toInt ∧ x1.toInt < 10)) ∨ ((0 : Int32).toInt = 1 ∧ (0 ≤ x1.toInt ∧ x1.toInt < (Av 2).toInt ∧ x1.toInt < 10))) := by
      have z_1 := Int32.lt_iff_toInt_lt.mp c_1
      have y_0 : (0 : Int32).toInt = 0 := by decide
      omega
    exact retI (v := 0) hx hb hr hlk (rfl) hP hD hS () ⟨_, rfl, hp_2⟩ [0, 1, 2, 3, 4, 5, 6, 7, 8] rfl rfl dX9_hasClock_23 (Nat.le_of_ble_eq_true rfl) (Nat.le_of_ble_eq_true rfl) rfl
  · skip
    refine lv_iload_n hx hb dX9_hasClock_4 rfl (lv_at hl 1 rfl) ?_
    refine lv_aload_n hx hb dX9_hasClock_5 rfl (lv_at hl 0 rfl) ?_
    refine gf_X9_18 hx hb hts hown hK hP 0 rfl rfl dX9_hasClock_6 ?_
    refine lv_icmp_ge (tgt := 22) hx hb dX9_hasClock_9 (by decide) (fun c_3 => ?_) (fun c_3 => ?_)
    · skip
      refine lv_iconst (v := 0) hx hb dX9_hasClock_22 (by decide) ?_
      have hp_4 : (((0 : Int32).toInt = 0 ∧ ¬ (0 ≤ x1.toInt ∧ x1.toInt < (Av 2).toInt ∧ x1.toInt < 10)) ∨ ((0 : Int32).toInt = 1 ∧ (0 ≤ x1.toInt ∧ x1.toInt < (Av 2).toInt ∧ x1.toInt < 10))) := by
        have z_1 := Int32.le_iff_toInt_le.mp (Int32.not_lt.mp c_1)
        have z_2 := Int32.le_iff_toInt_le.mp c_3
        have y_0 : (0 : Int32).toInt = 0 := by decide
        omega
      exact retI (v := 0) hx hb hr hlk (rfl) hP hD hS () ⟨_, rfl, hp_4⟩ [0, 1, 2, 3, 4, 5, 6, 7, 8] rfl rfl dX9_hasClock_23 (Nat.le_of_ble_eq_true rfl) (Nat.le_of_ble_eq_true rfl) rfl
    · skip
      refine lv_iload_n hx hb dX9_hasClock_12 rfl (lv_at hl 1 rfl) ?_
      refine lv_bipush (v := 10) hx hb dX9_hasClock_13 (by decide) ?_
      refine lv_icmp_ge (tgt := 22) hx hb dX9_hasClock_15 (by decide) (fun c_5 => ?_) (fun c_5 => ?_)
      · skip
        refine lv_iconst (v := 0) hx hb dX9_hasClock_22 (by decide) ?_
        have hp_6 : (((0 : Int32).toInt = 0 ∧ ¬ (0 ≤ x1.toInt ∧ x1.toInt < (Av 2).toInt ∧ x1.toInt < 10)) ∨ ((0 : Int32).toInt = 1 ∧ (0 ≤ x1.toInt ∧ x1.toInt < (Av 2).toInt ∧ x1.toInt < 10))) := by
          have z_1 := Int32.le_iff_toInt_le.mp (Int32.not_lt.mp c_1)
          have z_2 := Int32.lt_iff_toInt_lt.mp (Int32.not_le.mp c_3)
          have z_3 := Int32.le_iff_toInt_le.mp c_5
          have y_0 : (0 : Int32).toInt = 0 := by decide
          have y_10 : (10 : Int32).toInt = 10 := by decide
          omega
        exact retI (v := 0) hx hb hr hlk (rfl) hP hD hS () ⟨_, rfl, hp_6⟩ [0, 1, 2, 3, 4, 5, 6, 7, 8] rfl rfl dX9_hasClock_23 (Nat.le_of_ble_eq_true rfl) (Nat.le_of_ble_eq_true rfl) rfl
      · skip
        refine lv_iconst (v := 1) hx hb dX9_hasClock_18 (by decide) ?_
        refine lv_goto (tgt := 23) hx hb dX9_hasClock_19 (by decide) ?_
        have hp_7 : (((1 : Int32).toInt = 0 ∧ ¬ (0 ≤ x1.toInt ∧ x1.toInt < (Av 2).toInt ∧ x1.toInt < 10)) ∨ ((1 : Int32).toInt = 1 ∧ (0 ≤ x1.toInt ∧ x1.toInt < (Av 2).toInt ∧ x1.toInt < 10))) := by
          have z_1 := Int32.le_iff_toInt_le.mp (Int32.not_lt.mp c_1)
          have z_2 := Int32.lt_iff_toInt_lt.mp (Int32.not_le.mp c_3)
          have z_3 := Int32.lt_iff_toInt_lt.mp (Int32.not_le.mp c_5)
          have y_0 : (0 : Int32).toInt = 0 := by decide
          have y_10 : (10 : Int32).toInt = 10 := by decide
          have y_1 : (1 : Int32).toInt = 1 := by decide
          have yr : (1 : Int32).toInt = 1 := by decide
          omega
        exact retI (v := 1) hx hb hr hlk (rfl) hP hD hS () ⟨_, rfl, hp_7⟩ [0, 1, 2, 3, 4, 5, 6, 7, 8] rfl rfl dX9_hasClock_23 (Nat.le_of_ble_eq_true rfl) (Nat.le_of_ble_eq_true rfl) rfl
set_option maxRecDepth 100000 in
theorem cu_zX9_hasClock (l : Launch) (D : va_G) (tc : Nat → ClassId) (sk : (Nat → Nat) × (Nat → Nat)) (Aa_0 : Nat) (Aa_1 : Nat) (Aa_2 : Nat) (Aa_3 : Nat) (Aa_4 : Nat) (Aa_5 : Nat) (Aa_6 : Nat) (Aa_7 : Nat) (Aa_8 : Nat) (Av_0 : Int32) (Av_1 : Int32) (Av_2 : Int32) (Av_3 : Int32) (Av_4 : Int32) (Av_5 : Int32) (Af_1 : Nat → Int32) (Af_2 : Nat → Int32) (Af_3 : Nat → Int32) (Af_4 : Nat → Int32) (Af_5 : Nat → Int32) (Af_6 : Nat → Int32) (Af_7 : Nat → Int32) (Af_8 : Nat → Int32) (x1 : Int32)  : Ct l yX9_hasClock cX9_hasClock 2 (some .boolean) { frames := 0, cells := 0, slots := 0, locals := 0 } D tc sk [.ref Aa_0, .int x1] [(Aa_0, .inr (9, [.int Av_0, .int Av_1, .int Av_2, .int Av_3, .int Av_4, .int Av_5, .ref Aa_1, .ref Aa_2, .ref Aa_3, .ref Aa_4, .ref Aa_5, .ref Aa_6, .ref Aa_7, .ref Aa_8])), (Aa_1, .inl (tc 0, 10, .inl Af_1)), (Aa_2, .inl (tc 0, 10, .inl Af_2)), (Aa_3, .inl (tc 0, 6, .inl Af_3)), (Aa_4, .inl (tc 0, 6, .inl Af_4)), (Aa_5, .inl (tc 0, 6, .inl Af_5)), (Aa_6, .inl (tc 0, 6, .inl Af_6)), (Aa_7, .inl (tc 0, 6, .inl Af_7)), (Aa_8, .inl (tc 0, 6, .inl Af_8))] (fun (v : Option Value) (_ : Unit) => ∃ r : Int32, v = some (.int r) ∧ (((r.toInt = 0 ∧ ¬ (0 ≤ x1.toInt ∧ x1.toInt < Av_2.toInt ∧ x1.toInt < 10)) ∨ (r.toInt = 1 ∧ (0 ≤ x1.toInt ∧ x1.toInt < Av_2.toInt ∧ x1.toInt < 10))))) (fun (_ : Unit) => [(Aa_0, .inr (9, [.int Av_0, .int Av_1, .int Av_2, .int Av_3, .int Av_4, .int Av_5, .ref Aa_1, .ref Aa_2, .ref Aa_3, .ref Aa_4, .ref Aa_5, .ref Aa_6, .ref Aa_7, .ref Aa_8])), (Aa_1, .inl (tc 0, 10, .inl Af_1)), (Aa_2, .inl (tc 0, 10, .inl Af_2)), (Aa_3, .inl (tc 0, 6, .inl Af_3)), (Aa_4, .inl (tc 0, 6, .inl Af_4)), (Aa_5, .inl (tc 0, 6, .inl Af_5)), (Aa_6, .inl (tc 0, 6, .inl Af_6)), (Aa_7, .inl (tc 0, 6, .inl Af_7)), (Aa_8, .inl (tc 0, 6, .inl Af_8))]) 0 0 :=
  ct_zX9_hasClock l D tc sk (fun k => ([Aa_0, Aa_1, Aa_2, Aa_3, Aa_4, Aa_5, Aa_6, Aa_7, Aa_8] : List (Nat)).getD k 0) (fun k => ([Av_0, Av_1, Av_2, Av_3, Av_4, Av_5] : List (Int32)).getD k 0) (fun k => ([(fun _ => 0), Af_1, Af_2, Af_3, Af_4, Af_5, Af_6, Af_7, Af_8] : List (Nat → Int32)).getD k (fun _ => 0)) x1 
set_option maxHeartbeats 4000000 in
set_option maxRecDepth 100000 in
theorem ct_zX9_hasBuyer (l : Launch) (D : va_G) (tc : Nat → ClassId) (sk : (Nat → Nat) × (Nat → Nat)) (Aa : Nat → Nat) (Av : Nat → Int32) (Af : Nat → Nat → Int32) (x1 : Int32)  : Ct l yX9_hasBuyer cX9_hasBuyer 2 (some .boolean) { frames := 0, cells := 0, slots := 0, locals := 0 } D tc sk [.ref (Aa 0), .int x1] [((Aa 0), .inr (9, [.int (Av 0), .int (Av 1), .int (Av 2), .int (Av 3), .int (Av 4), .int (Av 5), .ref (Aa 1), .ref (Aa 2), .ref (Aa 3), .ref (Aa 4), .ref (Aa 5), .ref (Aa 6), .ref (Aa 7), .ref (Aa 8)])), ((Aa 1), .inl (tc 0, 10, .inl (Af 1))), ((Aa 2), .inl (tc 0, 10, .inl (Af 2))), ((Aa 3), .inl (tc 0, 6, .inl (Af 3))), ((Aa 4), .inl (tc 0, 6, .inl (Af 4))), ((Aa 5), .inl (tc 0, 6, .inl (Af 5))), ((Aa 6), .inl (tc 0, 6, .inl (Af 6))), ((Aa 7), .inl (tc 0, 6, .inl (Af 7))), ((Aa 8), .inl (tc 0, 6, .inl (Af 8)))] (fun (v : Option Value) (_ : Unit) => ∃ r : Int32, v = some (.int r) ∧ (((r.toInt = 0 ∧ ¬ (0 ≤ x1.toInt ∧ x1.toInt < (Av 3).toInt ∧ x1.toInt < 6)) ∨ (r.toInt = 1 ∧ (0 ≤ x1.toInt ∧ x1.toInt < (Av 3).toInt ∧ x1.toInt < 6))))) (fun (_ : Unit) => [((Aa 0), .inr (9, [.int (Av 0), .int (Av 1), .int (Av 2), .int (Av 3), .int (Av 4), .int (Av 5), .ref (Aa 1), .ref (Aa 2), .ref (Aa 3), .ref (Aa 4), .ref (Aa 5), .ref (Aa 6), .ref (Aa 7), .ref (Aa 8)])), ((Aa 1), .inl (tc 0, 10, .inl (Af 1))), ((Aa 2), .inl (tc 0, 10, .inl (Af 2))), ((Aa 3), .inl (tc 0, 6, .inl (Af 3))), ((Aa 4), .inl (tc 0, 6, .inl (Af 4))), ((Aa 5), .inl (tc 0, 6, .inl (Af 5))), ((Aa 6), .inl (tc 0, 6, .inl (Af 6))), ((Aa 7), .inl (tc 0, 6, .inl (Af 7))), ((Aa 8), .inl (tc 0, 6, .inl (Af 8)))]) 0 0 := by
  refine Ct.start (by decide) (Nat.le_of_ble_eq_true rfl) (fun p e s m below meth c A ls hx hb hr hlk hin hml hown hts hK hX hP hD hA hl hS => ?_)
  have hl : lv_has ls 2 [(0, .ref (Aa 0)), (1, .int x1)] := hl
  refine lv_iload_n hx hb dX9_hasBuyer_0 rfl (lv_at hl 1 rfl) ?_
  refine lv_if_lt (tgt := 22) hx hb dX9_hasBuyer_1 (by decide) (fun c_1 => ?_) (fun c_1 => ?_)
  · skip
    refine lv_iconst (v := 0) hx hb dX9_hasBuyer_22 (by decide) ?_
    have hp_2 : (((0 : Int32).toInt = 0 ∧ ¬ (0 ≤ x1.toInt ∧ x1.toInt < (Av 3).toInt ∧ x1.toInt < 6)) ∨ ((0 : Int32).toInt = 1 ∧ (0 ≤ x1.toInt ∧ x1.toInt < (Av 3).toInt ∧ x1.toInt < 6))) := by
      have z_1 := Int32.lt_iff_toInt_lt.mp c_1
      have y_0 : (0 : Int32).toInt = 0 := by decide
      omega
    exact retI (v := 0) hx hb hr hlk (rfl) hP hD hS () ⟨_, rfl, hp_2⟩ [0, 1, 2, 3, 4, 5, 6, 7, 8] rfl rfl dX9_hasBuyer_23 (Nat.le_of_ble_eq_true rfl) (Nat.le_of_ble_eq_true rfl) rfl
  · skip
    refine lv_iload_n hx hb dX9_hasBuyer_4 rfl (lv_at hl 1 rfl) ?_
    refine lv_aload_n hx hb dX9_hasBuyer_5 rfl (lv_at hl 0 rfl) ?_
    refine gf_X9_21 hx hb hts hown hK hP 0 rfl rfl dX9_hasBuyer_6 ?_
    refine lv_icmp_ge (tgt := 22) hx hb dX9_hasBuyer_9 (by decide) (fun c_3 => ?_) (fun c_3 => ?_)
    · skip
      refine lv_iconst (v := 0) hx hb dX9_hasBuyer_22 (by decide) ?_
      have hp_4 : (((0 : Int32).toInt = 0 ∧ ¬ (0 ≤ x1.toInt ∧ x1.toInt < (Av 3).toInt ∧ x1.toInt < 6)) ∨ ((0 : Int32).toInt = 1 ∧ (0 ≤ x1.toInt ∧ x1.toInt < (Av 3).toInt ∧ x1.toInt < 6))) := by
        have z_1 := Int32.le_iff_toInt_le.mp (Int32.not_lt.mp c_1)
        have z_2 := Int32.le_iff_toInt_le.mp c_3
        have y_0 : (0 : Int32).toInt = 0 := by decide
        omega
      exact retI (v := 0) hx hb hr hlk (rfl) hP hD hS () ⟨_, rfl, hp_4⟩ [0, 1, 2, 3, 4, 5, 6, 7, 8] rfl rfl dX9_hasBuyer_23 (Nat.le_of_ble_eq_true rfl) (Nat.le_of_ble_eq_true rfl) rfl
    · skip
      refine lv_iload_n hx hb dX9_hasBuyer_12 rfl (lv_at hl 1 rfl) ?_
      refine lv_bipush (v := 6) hx hb dX9_hasBuyer_13 (by decide) ?_
      refine lv_icmp_ge (tgt := 22) hx hb dX9_hasBuyer_15 (by decide) (fun c_5 => ?_) (fun c_5 => ?_)
      · skip
        refine lv_iconst (v := 0) hx hb dX9_hasBuyer_22 (by decide) ?_
        have hp_6 : (((0 : Int32).toInt = 0 ∧ ¬ (0 ≤ x1.toInt ∧ x1.toInt < (Av 3).toInt ∧ x1.toInt < 6)) ∨ ((0 : Int32).toInt = 1 ∧ (0 ≤ x1.toInt ∧ x1.toInt < (Av 3).toInt ∧ x1.toInt < 6))) := by
          have z_1 := Int32.le_iff_toInt_le.mp (Int32.not_lt.mp c_1)
          have z_2 := Int32.lt_iff_toInt_lt.mp (Int32.not_le.mp c_3)
          have z_3 := Int32.le_iff_toInt_le.mp c_5
          have y_0 : (0 : Int32).toInt = 0 := by decide
          have y_6 : (6 : Int32).toInt = 6 := by decide
          omega
        exact retI (v := 0) hx hb hr hlk (rfl) hP hD hS () ⟨_, rfl, hp_6⟩ [0, 1, 2, 3, 4, 5, 6, 7, 8] rfl rfl dX9_hasBuyer_23 (Nat.le_of_ble_eq_true rfl) (Nat.le_of_ble_eq_true rfl) rfl
      · skip
        refine lv_iconst (v := 1) hx hb dX9_hasBuyer_18 (by decide) ?_
        refine lv_goto (tgt := 23) hx hb dX9_hasBuyer_19 (by decide) ?_
        have hp_7 : (((1 : Int32).toInt = 0 ∧ ¬ (0 ≤ x1.toInt ∧ x1.toInt < (Av 3).toInt ∧ x1.toInt < 6)) ∨ ((1 : Int32).toInt = 1 ∧ (0 ≤ x1.toInt ∧ x1.toInt < (Av 3).toInt ∧ x1.toInt < 6))) := by
          have z_1 := Int32.le_iff_toInt_le.mp (Int32.not_lt.mp c_1)
          have z_2 := Int32.lt_iff_toInt_lt.mp (Int32.not_le.mp c_3)
          have z_3 := Int32.lt_iff_toInt_lt.mp (Int32.not_le.mp c_5)
          have y_0 : (0 : Int32).toInt = 0 := by decide
          have y_6 : (6 : Int32).toInt = 6 := by decide
          have y_1 : (1 : Int32).toInt = 1 := by decide
          have yr : (1 : Int32).toInt = 1 := by decide
          omega
        exact retI (v := 1) hx hb hr hlk (rfl) hP hD hS () ⟨_, rfl, hp_7⟩ [0, 1, 2, 3, 4, 5, 6, 7, 8] rfl rfl dX9_hasBuyer_23 (Nat.le_of_ble_eq_true rfl) (Nat.le_of_ble_eq_true rfl) rfl
set_option maxRecDepth 100000 in
theorem cu_zX9_hasBuyer (l : Launch) (D : va_G) (tc : Nat → ClassId) (sk : (Nat → Nat) × (Nat → Nat)) (Aa_0 : Nat) (Aa_1 : Nat) (Aa_2 : Nat) (Aa_3 : Nat) (Aa_4 : Nat) (Aa_5 : Nat) (Aa_6 : Nat) (Aa_7 : Nat) (Aa_8 : Nat) (Av_0 : Int32) (Av_1 : Int32) (Av_2 : Int32) (Av_3 : Int32) (Av_4 : Int32) (Av_5 : Int32) (Af_1 : Nat → Int32) (Af_2 : Nat → Int32) (Af_3 : Nat → Int32) (Af_4 : Nat → Int32) (Af_5 : Nat → Int32) (Af_6 : Nat → Int32) (Af_7 : Nat → Int32) (Af_8 : Nat → Int32) (x1 : Int32)  : Ct l yX9_hasBuyer cX9_hasBuyer 2 (some .boolean) { frames := 0, cells := 0, slots := 0, locals := 0 } D tc sk [.ref Aa_0, .int x1] [(Aa_0, .inr (9, [.int Av_0, .int Av_1, .int Av_2, .int Av_3, .int Av_4, .int Av_5, .ref Aa_1, .ref Aa_2, .ref Aa_3, .ref Aa_4, .ref Aa_5, .ref Aa_6, .ref Aa_7, .ref Aa_8])), (Aa_1, .inl (tc 0, 10, .inl Af_1)), (Aa_2, .inl (tc 0, 10, .inl Af_2)), (Aa_3, .inl (tc 0, 6, .inl Af_3)), (Aa_4, .inl (tc 0, 6, .inl Af_4)), (Aa_5, .inl (tc 0, 6, .inl Af_5)), (Aa_6, .inl (tc 0, 6, .inl Af_6)), (Aa_7, .inl (tc 0, 6, .inl Af_7)), (Aa_8, .inl (tc 0, 6, .inl Af_8))] (fun (v : Option Value) (_ : Unit) => ∃ r : Int32, v = some (.int r) ∧ (((r.toInt = 0 ∧ ¬ (0 ≤ x1.toInt ∧ x1.toInt < Av_3.toInt ∧ x1.toInt < 6)) ∨ (r.toInt = 1 ∧ (0 ≤ x1.toInt ∧ x1.toInt < Av_3.toInt ∧ x1.toInt < 6))))) (fun (_ : Unit) => [(Aa_0, .inr (9, [.int Av_0, .int Av_1, .int Av_2, .int Av_3, .int Av_4, .int Av_5, .ref Aa_1, .ref Aa_2, .ref Aa_3, .ref Aa_4, .ref Aa_5, .ref Aa_6, .ref Aa_7, .ref Aa_8])), (Aa_1, .inl (tc 0, 10, .inl Af_1)), (Aa_2, .inl (tc 0, 10, .inl Af_2)), (Aa_3, .inl (tc 0, 6, .inl Af_3)), (Aa_4, .inl (tc 0, 6, .inl Af_4)), (Aa_5, .inl (tc 0, 6, .inl Af_5)), (Aa_6, .inl (tc 0, 6, .inl Af_6)), (Aa_7, .inl (tc 0, 6, .inl Af_7)), (Aa_8, .inl (tc 0, 6, .inl Af_8))]) 0 0 :=
  ct_zX9_hasBuyer l D tc sk (fun k => ([Aa_0, Aa_1, Aa_2, Aa_3, Aa_4, Aa_5, Aa_6, Aa_7, Aa_8] : List (Nat)).getD k 0) (fun k => ([Av_0, Av_1, Av_2, Av_3, Av_4, Av_5] : List (Int32)).getD k 0) (fun k => ([(fun _ => 0), Af_1, Af_2, Af_3, Af_4, Af_5, Af_6, Af_7, Af_8] : List (Nat → Int32)).getD k (fun _ => 0)) x1 
set_option maxHeartbeats 4000000 in
set_option maxRecDepth 100000 in
theorem ct_zX9_clear (l : Launch) (D : va_G) (tc : Nat → ClassId) (sk : (Nat → Nat) × (Nat → Nat)) (Aa : Nat → Nat) (Av : Nat → Int32) (Af : Nat → Nat → Int32)  : Ct l yX9_clear cX9_clear 2 none { frames := 0, cells := 0, slots := 0, locals := 0 } D tc sk [.ref (Aa 0)] [((Aa 0), .inr (9, [.int (Av 0), .int (Av 1), .int (Av 2), .int (Av 3), .int (Av 4), .int (Av 5), .ref (Aa 1), .ref (Aa 2), .ref (Aa 3), .ref (Aa 4), .ref (Aa 5), .ref (Aa 6), .ref (Aa 7), .ref (Aa 8)])), ((Aa 1), .inl (tc 0, 10, .inl (Af 1))), ((Aa 2), .inl (tc 0, 10, .inl (Af 2))), ((Aa 3), .inl (tc 0, 6, .inl (Af 3))), ((Aa 4), .inl (tc 0, 6, .inl (Af 4))), ((Aa 5), .inl (tc 0, 6, .inl (Af 5))), ((Aa 6), .inl (tc 0, 6, .inl (Af 6))), ((Aa 7), .inl (tc 0, 6, .inl (Af 7))), ((Aa 8), .inl (tc 0, 6, .inl (Af 8)))] (fun (v : Option Value) (u : (Nat → Int32) × (Nat → Int32) × (Nat → Int32) × (Nat → Int32) × (Nat → Int32) × (Nat → Int32) × (Nat → Int32) × (Nat → Int32)) => match u with | (oo0x1, oo0x2, oo0x3, oo0x4, oo0x5, oo0x6, oo0x7, oo0x8) => v = none ∧ (ShC 0 0 0 0 0 0 oo0x1 oo0x2 oo0x3 oo0x4 oo0x5 oo0x6 oo0x7 oo0x8 qz_0)) (fun (u : (Nat → Int32) × (Nat → Int32) × (Nat → Int32) × (Nat → Int32) × (Nat → Int32) × (Nat → Int32) × (Nat → Int32) × (Nat → Int32)) => match u with | (oo0x1, oo0x2, oo0x3, oo0x4, oo0x5, oo0x6, oo0x7, oo0x8) => [((Aa 0), .inr (9, [.int 0, .int 0, .int 0, .int 0, .int 0, .int 0, .ref (Aa 1), .ref (Aa 2), .ref (Aa 3), .ref (Aa 4), .ref (Aa 5), .ref (Aa 6), .ref (Aa 7), .ref (Aa 8)])), ((Aa 1), .inl (tc 0, 10, .inl oo0x1)), ((Aa 2), .inl (tc 0, 10, .inl oo0x2)), ((Aa 3), .inl (tc 0, 6, .inl oo0x3)), ((Aa 4), .inl (tc 0, 6, .inl oo0x4)), ((Aa 5), .inl (tc 0, 6, .inl oo0x5)), ((Aa 6), .inl (tc 0, 6, .inl oo0x6)), ((Aa 7), .inl (tc 0, 6, .inl oo0x7)), ((Aa 8), .inl (tc 0, 6, .inl oo0x8))]) 0 0 := by
  refine Ct.start (by decide) (Nat.le_of_ble_eq_true rfl) (fun p e s m below meth c A ls hx hb hr hlk hin hml hown hts hK hX hP hD hA hl hS => ?_)
  have hl : lv_has ls 2 [(0, .ref (Aa 0))] := hl
  refine lv_aload_n hx hb dX9_clear_0 rfl (lv_at hl 0 rfl) ?_
  refine lv_iconst (v := 0) hx hb dX9_clear_1 (by decide) ?_
  refine pf_X9_9 hx hb hts hown hK hP hD hS 0 rfl (Nat.le_of_ble_eq_true rfl) rfl rfl dX9_clear_2 (fun H locs hP₀ hD₀ hS₀ => ?_)
  replace hP : va_P D classes [((Aa 0), .inr (9, [.int 0, .int (Av 1), .int (Av 2), .int (Av 3), .int (Av 4), .int (Av 5), .ref (Aa 1), .ref (Aa 2), .ref (Aa 3), .ref (Aa 4), .ref (Aa 5), .ref (Aa 6), .ref (Aa 7), .ref (Aa 8)])), ((Aa 1), .inl (tc 0, 10, .inl (Af 1))), ((Aa 2), .inl (tc 0, 10, .inl (Af 2))), ((Aa 3), .inl (tc 0, 6, .inl (Af 3))), ((Aa 4), .inl (tc 0, 6, .inl (Af 4))), ((Aa 5), .inl (tc 0, 6, .inl (Af 5))), ((Aa 6), .inl (tc 0, 6, .inl (Af 6))), ((Aa 7), .inl (tc 0, 6, .inl (Af 7))), ((Aa 8), .inl (tc 0, 6, .inl (Af 8)))] H := hP₀
  replace hD : va_D A [((Aa 0), .inr (9, [.int 0, .int (Av 1), .int (Av 2), .int (Av 3), .int (Av 4), .int (Av 5), .ref (Aa 1), .ref (Aa 2), .ref (Aa 3), .ref (Aa 4), .ref (Aa 5), .ref (Aa 6), .ref (Aa 7), .ref (Aa 8)])), ((Aa 1), .inl (tc 0, 10, .inl (Af 1))), ((Aa 2), .inl (tc 0, 10, .inl (Af 2))), ((Aa 3), .inl (tc 0, 6, .inl (Af 3))), ((Aa 4), .inl (tc 0, 6, .inl (Af 4))), ((Aa 5), .inl (tc 0, 6, .inl (Af 5))), ((Aa 6), .inl (tc 0, 6, .inl (Af 6))), ((Aa 7), .inl (tc 0, 6, .inl (Af 7))), ((Aa 8), .inl (tc 0, 6, .inl (Af 8)))] := hD₀
  replace hS := hS₀
  clear hP₀ hD₀ hS₀
  refine lv_aload_n hx hb dX9_clear_5 rfl (lv_at hl 0 rfl) ?_
  refine lv_iconst (v := 0) hx hb dX9_clear_6 (by decide) ?_
  refine pf_X9_15 hx hb hts hown hK hP hD hS 0 rfl (Nat.le_of_ble_eq_true rfl) rfl rfl dX9_clear_7 (fun H locs hP₀ hD₀ hS₀ => ?_)
  replace hP : va_P D classes [((Aa 0), .inr (9, [.int 0, .int 0, .int (Av 2), .int (Av 3), .int (Av 4), .int (Av 5), .ref (Aa 1), .ref (Aa 2), .ref (Aa 3), .ref (Aa 4), .ref (Aa 5), .ref (Aa 6), .ref (Aa 7), .ref (Aa 8)])), ((Aa 1), .inl (tc 0, 10, .inl (Af 1))), ((Aa 2), .inl (tc 0, 10, .inl (Af 2))), ((Aa 3), .inl (tc 0, 6, .inl (Af 3))), ((Aa 4), .inl (tc 0, 6, .inl (Af 4))), ((Aa 5), .inl (tc 0, 6, .inl (Af 5))), ((Aa 6), .inl (tc 0, 6, .inl (Af 6))), ((Aa 7), .inl (tc 0, 6, .inl (Af 7))), ((Aa 8), .inl (tc 0, 6, .inl (Af 8)))] H := hP₀
  replace hD : va_D A [((Aa 0), .inr (9, [.int 0, .int 0, .int (Av 2), .int (Av 3), .int (Av 4), .int (Av 5), .ref (Aa 1), .ref (Aa 2), .ref (Aa 3), .ref (Aa 4), .ref (Aa 5), .ref (Aa 6), .ref (Aa 7), .ref (Aa 8)])), ((Aa 1), .inl (tc 0, 10, .inl (Af 1))), ((Aa 2), .inl (tc 0, 10, .inl (Af 2))), ((Aa 3), .inl (tc 0, 6, .inl (Af 3))), ((Aa 4), .inl (tc 0, 6, .inl (Af 4))), ((Aa 5), .inl (tc 0, 6, .inl (Af 5))), ((Aa 6), .inl (tc 0, 6, .inl (Af 6))), ((Aa 7), .inl (tc 0, 6, .inl (Af 7))), ((Aa 8), .inl (tc 0, 6, .inl (Af 8)))] := hD₀
  replace hS := hS₀
  clear hP₀ hD₀ hS₀
  refine lv_aload_n hx hb dX9_clear_10 rfl (lv_at hl 0 rfl) ?_
  refine lv_iconst (v := 0) hx hb dX9_clear_11 (by decide) ?_
  refine pf_X9_18 hx hb hts hown hK hP hD hS 0 rfl (Nat.le_of_ble_eq_true rfl) rfl rfl dX9_clear_12 (fun H locs hP₀ hD₀ hS₀ => ?_)
  replace hP : va_P D classes [((Aa 0), .inr (9, [.int 0, .int 0, .int 0, .int (Av 3), .int (Av 4), .int (Av 5), .ref (Aa 1), .ref (Aa 2), .ref (Aa 3), .ref (Aa 4), .ref (Aa 5), .ref (Aa 6), .ref (Aa 7), .ref (Aa 8)])), ((Aa 1), .inl (tc 0, 10, .inl (Af 1))), ((Aa 2), .inl (tc 0, 10, .inl (Af 2))), ((Aa 3), .inl (tc 0, 6, .inl (Af 3))), ((Aa 4), .inl (tc 0, 6, .inl (Af 4))), ((Aa 5), .inl (tc 0, 6, .inl (Af 5))), ((Aa 6), .inl (tc 0, 6, .inl (Af 6))), ((Aa 7), .inl (tc 0, 6, .inl (Af 7))), ((Aa 8), .inl (tc 0, 6, .inl (Af 8)))] H := hP₀
  replace hD : va_D A [((Aa 0), .inr (9, [.int 0, .int 0, .int 0, .int (Av 3), .int (Av 4), .int (Av 5), .ref (Aa 1), .ref (Aa 2), .ref (Aa 3), .ref (Aa 4), .ref (Aa 5), .ref (Aa 6), .ref (Aa 7), .ref (Aa 8)])), ((Aa 1), .inl (tc 0, 10, .inl (Af 1))), ((Aa 2), .inl (tc 0, 10, .inl (Af 2))), ((Aa 3), .inl (tc 0, 6, .inl (Af 3))), ((Aa 4), .inl (tc 0, 6, .inl (Af 4))), ((Aa 5), .inl (tc 0, 6, .inl (Af 5))), ((Aa 6), .inl (tc 0, 6, .inl (Af 6))), ((Aa 7), .inl (tc 0, 6, .inl (Af 7))), ((Aa 8), .inl (tc 0, 6, .inl (Af 8)))] := hD₀
  replace hS := hS₀
  clear hP₀ hD₀ hS₀
  refine lv_aload_n hx hb dX9_clear_15 rfl (lv_at hl 0 rfl) ?_
  refine lv_iconst (v := 0) hx hb dX9_clear_16 (by decide) ?_
  refine pf_X9_21 hx hb hts hown hK hP hD hS 0 rfl (Nat.le_of_ble_eq_true rfl) rfl rfl dX9_clear_17 (fun H locs hP₀ hD₀ hS₀ => ?_)
  replace hP : va_P D classes [((Aa 0), .inr (9, [.int 0, .int 0, .int 0, .int 0, .int (Av 4), .int (Av 5), .ref (Aa 1), .ref (Aa 2), .ref (Aa 3), .ref (Aa 4), .ref (Aa 5), .ref (Aa 6), .ref (Aa 7), .ref (Aa 8)])), ((Aa 1), .inl (tc 0, 10, .inl (Af 1))), ((Aa 2), .inl (tc 0, 10, .inl (Af 2))), ((Aa 3), .inl (tc 0, 6, .inl (Af 3))), ((Aa 4), .inl (tc 0, 6, .inl (Af 4))), ((Aa 5), .inl (tc 0, 6, .inl (Af 5))), ((Aa 6), .inl (tc 0, 6, .inl (Af 6))), ((Aa 7), .inl (tc 0, 6, .inl (Af 7))), ((Aa 8), .inl (tc 0, 6, .inl (Af 8)))] H := hP₀
  replace hD : va_D A [((Aa 0), .inr (9, [.int 0, .int 0, .int 0, .int 0, .int (Av 4), .int (Av 5), .ref (Aa 1), .ref (Aa 2), .ref (Aa 3), .ref (Aa 4), .ref (Aa 5), .ref (Aa 6), .ref (Aa 7), .ref (Aa 8)])), ((Aa 1), .inl (tc 0, 10, .inl (Af 1))), ((Aa 2), .inl (tc 0, 10, .inl (Af 2))), ((Aa 3), .inl (tc 0, 6, .inl (Af 3))), ((Aa 4), .inl (tc 0, 6, .inl (Af 4))), ((Aa 5), .inl (tc 0, 6, .inl (Af 5))), ((Aa 6), .inl (tc 0, 6, .inl (Af 6))), ((Aa 7), .inl (tc 0, 6, .inl (Af 7))), ((Aa 8), .inl (tc 0, 6, .inl (Af 8)))] := hD₀
  replace hS := hS₀
  clear hP₀ hD₀ hS₀
  refine lv_aload_n hx hb dX9_clear_20 rfl (lv_at hl 0 rfl) ?_
  refine lv_iconst (v := 0) hx hb dX9_clear_21 (by decide) ?_
  refine pf_X9_24 hx hb hts hown hK hP hD hS 0 rfl (Nat.le_of_ble_eq_true rfl) rfl rfl dX9_clear_22 (fun H locs hP₀ hD₀ hS₀ => ?_)
  replace hP : va_P D classes [((Aa 0), .inr (9, [.int 0, .int 0, .int 0, .int 0, .int 0, .int (Av 5), .ref (Aa 1), .ref (Aa 2), .ref (Aa 3), .ref (Aa 4), .ref (Aa 5), .ref (Aa 6), .ref (Aa 7), .ref (Aa 8)])), ((Aa 1), .inl (tc 0, 10, .inl (Af 1))), ((Aa 2), .inl (tc 0, 10, .inl (Af 2))), ((Aa 3), .inl (tc 0, 6, .inl (Af 3))), ((Aa 4), .inl (tc 0, 6, .inl (Af 4))), ((Aa 5), .inl (tc 0, 6, .inl (Af 5))), ((Aa 6), .inl (tc 0, 6, .inl (Af 6))), ((Aa 7), .inl (tc 0, 6, .inl (Af 7))), ((Aa 8), .inl (tc 0, 6, .inl (Af 8)))] H := hP₀
  replace hD : va_D A [((Aa 0), .inr (9, [.int 0, .int 0, .int 0, .int 0, .int 0, .int (Av 5), .ref (Aa 1), .ref (Aa 2), .ref (Aa 3), .ref (Aa 4), .ref (Aa 5), .ref (Aa 6), .ref (Aa 7), .ref (Aa 8)])), ((Aa 1), .inl (tc 0, 10, .inl (Af 1))), ((Aa 2), .inl (tc 0, 10, .inl (Af 2))), ((Aa 3), .inl (tc 0, 6, .inl (Af 3))), ((Aa 4), .inl (tc 0, 6, .inl (Af 4))), ((Aa 5), .inl (tc 0, 6, .inl (Af 5))), ((Aa 6), .inl (tc 0, 6, .inl (Af 6))), ((Aa 7), .inl (tc 0, 6, .inl (Af 7))), ((Aa 8), .inl (tc 0, 6, .inl (Af 8)))] := hD₀
  replace hS := hS₀
  clear hP₀ hD₀ hS₀
  refine lv_aload_n hx hb dX9_clear_25 rfl (lv_at hl 0 rfl) ?_
  refine lv_iconst (v := 0) hx hb dX9_clear_26 (by decide) ?_
  refine pf_X9_27 hx hb hts hown hK hP hD hS 0 rfl (Nat.le_of_ble_eq_true rfl) rfl rfl dX9_clear_27 (fun H locs hP₀ hD₀ hS₀ => ?_)
  replace hP : va_P D classes [((Aa 0), .inr (9, [.int 0, .int 0, .int 0, .int 0, .int 0, .int 0, .ref (Aa 1), .ref (Aa 2), .ref (Aa 3), .ref (Aa 4), .ref (Aa 5), .ref (Aa 6), .ref (Aa 7), .ref (Aa 8)])), ((Aa 1), .inl (tc 0, 10, .inl (Af 1))), ((Aa 2), .inl (tc 0, 10, .inl (Af 2))), ((Aa 3), .inl (tc 0, 6, .inl (Af 3))), ((Aa 4), .inl (tc 0, 6, .inl (Af 4))), ((Aa 5), .inl (tc 0, 6, .inl (Af 5))), ((Aa 6), .inl (tc 0, 6, .inl (Af 6))), ((Aa 7), .inl (tc 0, 6, .inl (Af 7))), ((Aa 8), .inl (tc 0, 6, .inl (Af 8)))] H := hP₀
  replace hD : va_D A [((Aa 0), .inr (9, [.int 0, .int 0, .int 0, .int 0, .int 0, .int 0, .ref (Aa 1), .ref (Aa 2), .ref (Aa 3), .ref (Aa 4), .ref (Aa 5), .ref (Aa 6), .ref (Aa 7), .ref (Aa 8)])), ((Aa 1), .inl (tc 0, 10, .inl (Af 1))), ((Aa 2), .inl (tc 0, 10, .inl (Af 2))), ((Aa 3), .inl (tc 0, 6, .inl (Af 3))), ((Aa 4), .inl (tc 0, 6, .inl (Af 4))), ((Aa 5), .inl (tc 0, 6, .inl (Af 5))), ((Aa 6), .inl (tc 0, 6, .inl (Af 6))), ((Aa 7), .inl (tc 0, 6, .inl (Af 7))), ((Aa 8), .inl (tc 0, 6, .inl (Af 8)))] := hD₀
  replace hS := hS₀
  clear hP₀ hD₀ hS₀
  refine lv_iconst (v := 0) hx hb dX9_clear_30 (by decide) ?_
  refine lv_istore_n (lv' := [(1, .int 0), (0, .ref (Aa 0))]) hx hb dX9_clear_31 rfl hl (by decide) rfl (fun ls hl₀ => ?_)
  replace hl := hl₀
  clear hl₀
  have loop_9 : ∀ (n_7 : Nat) (vy_4 : Int32) (vy_5 : Nat → Int32) (vy_6 : Nat → Int32) (H : Heap) (locs : List Loc) (ls : Array Slot), (10 - (vy_4 : Int32).toInt).toNat < n_7 → (0 ≤ (vy_4 : Int32).toInt) → (Clr1 vy_5 vy_6 vy_4) → va_P D classes [((Aa 0), .inr (9, [.int 0, .int 0, .int 0, .int 0, .int 0, .int 0, .ref (Aa 1), .ref (Aa 2), .ref (Aa 3), .ref (Aa 4), .ref (Aa 5), .ref (Aa 6), .ref (Aa 7), .ref (Aa 8)])), ((Aa 1), .inl (tc 0, 10, .inl vy_5)), ((Aa 2), .inl (tc 0, 10, .inl vy_6)), ((Aa 3), .inl (tc 0, 6, .inl (Af 3))), ((Aa 4), .inl (tc 0, 6, .inl (Af 4))), ((Aa 5), .inl (tc 0, 6, .inl (Af 5))), ((Aa 6), .inl (tc 0, 6, .inl (Af 6))), ((Aa 7), .inl (tc 0, 6, .inl (Af 7))), ((Aa 8), .inl (tc 0, 6, .inl (Af 8)))] H → va_D A [((Aa 0), .inr (9, [.int 0, .int 0, .int 0, .int 0, .int 0, .int 0, .ref (Aa 1), .ref (Aa 2), .ref (Aa 3), .ref (Aa 4), .ref (Aa 5), .ref (Aa 6), .ref (Aa 7), .ref (Aa 8)])), ((Aa 1), .inl (tc 0, 10, .inl vy_5)), ((Aa 2), .inl (tc 0, 10, .inl vy_6)), ((Aa 3), .inl (tc 0, 6, .inl (Af 3))), ((Aa 4), .inl (tc 0, 6, .inl (Af 4))), ((Aa 5), .inl (tc 0, 6, .inl (Af 5))), ((Aa 6), .inl (tc 0, 6, .inl (Af 6))), ((Aa 7), .inl (tc 0, 6, .inl (Af 7))), ((Aa 8), .inl (tc 0, 6, .inl (Af 8)))] → va_S A s.heap H locs → lv_has ls 2 [(1, .int vy_4), (0, .ref (Aa 0))] → W p l e ({ frames := 0, cells := 0, slots := 0, locals := 0 }) s m ([.ref (Aa 0)].toArray) below meth c H locs 0 0 (MQ below (QW (fun (v : Option Value) (u : (Nat → Int32) × (Nat → Int32) × (Nat → Int32) × (Nat → Int32) × (Nat → Int32) × (Nat → Int32) × (Nat → Int32) × (Nat → Int32)) => match u with | (oo0x1, oo0x2, oo0x3, oo0x4, oo0x5, oo0x6, oo0x7, oo0x8) => v = none ∧ (ShC 0 0 0 0 0 0 oo0x1 oo0x2 oo0x3 oo0x4 oo0x5 oo0x6 oo0x7 oo0x8 qz_0)) (BW D (fun (u : (Nat → Int32) × (Nat → Int32) × (Nat → Int32) × (Nat → Int32) × (Nat → Int32) × (Nat → Int32) × (Nat → Int32) × (Nat → Int32)) => match u with | (oo0x1, oo0x2, oo0x3, oo0x4, oo0x5, oo0x6, oo0x7, oo0x8) => [((Aa 0), .inr (9, [.int 0, .int 0, .int 0, .int 0, .int 0, .int 0, .ref (Aa 1), .ref (Aa 2), .ref (Aa 3), .ref (Aa 4), .ref (Aa 5), .ref (Aa 6), .ref (Aa 7), .ref (Aa 8)])), ((Aa 1), .inl (tc 0, 10, .inl oo0x1)), ((Aa 2), .inl (tc 0, 10, .inl oo0x2)), ((Aa 3), .inl (tc 0, 6, .inl oo0x3)), ((Aa 4), .inl (tc 0, 6, .inl oo0x4)), ((Aa 5), .inl (tc 0, 6, .inl oo0x5)), ((Aa 6), .inl (tc 0, 6, .inl oo0x6)), ((Aa 7), .inl (tc 0, 6, .inl oo0x7)), ((Aa 8), .inl (tc 0, 6, .inl oo0x8))]) A) A) ([.ref (Aa 0)].toArray) s 0 0 A) (F0 m 32 ls []) := by
    clear hP hD hS hl
    intro n_7
    induction n_7 with
    | zero =>
      intro vy_4 vy_5 vy_6 H locs ls h1
      exact absurd h1 (Nat.not_lt_zero _)
    | succ n_7 ih_8 =>
      intro vy_4 vy_5 vy_6 H locs ls hn_12 pf_10 pf_11 hP hD hS hl
      refine lv_iload_n hx hb dX9_clear_32 rfl (lv_at hl 0 rfl) ?_
      refine lv_bipush (v := 10) hx hb dX9_clear_33 (by decide) ?_
      refine lv_icmp_ge (tgt := 58) hx hb dX9_clear_35 (by decide) (fun c_13 => ?_) (fun c_13 => ?_)
      · skip
        refine lv_iconst (v := 0) hx hb dX9_clear_58 (by decide) ?_
        refine lv_istore_n (lv' := [(1, .int 0), (0, .ref (Aa 0))]) hx hb dX9_clear_59 rfl hl (by decide) rfl (fun ls hl₀ => ?_)
        replace hl := hl₀
        clear hl₀
        have loop_30 : ∀ (n_28 : Nat) (vy_21 : Int32) (vy_22 : Nat → Int32) (vy_23 : Nat → Int32) (vy_24 : Nat → Int32) (vy_25 : Nat → Int32) (vy_26 : Nat → Int32) (vy_27 : Nat → Int32) (H : Heap) (locs : List Loc) (ls : Array Slot), (6 - (vy_21 : Int32).toInt).toNat < n_28 → (0 ≤ (vy_21 : Int32).toInt) → (Clr2 vy_22 vy_23 vy_24 vy_25 vy_26 vy_27 vy_21) → va_P D classes [((Aa 0), .inr (9, [.int 0, .int 0, .int 0, .int 0, .int 0, .int 0, .ref (Aa 1), .ref (Aa 2), .ref (Aa 3), .ref (Aa 4), .ref (Aa 5), .ref (Aa 6), .ref (Aa 7), .ref (Aa 8)])), ((Aa 1), .inl (tc 0, 10, .inl vy_5)), ((Aa 2), .inl (tc 0, 10, .inl vy_6)), ((Aa 3), .inl (tc 0, 6, .inl vy_22)), ((Aa 4), .inl (tc 0, 6, .inl vy_23)), ((Aa 5), .inl (tc 0, 6, .inl vy_24)), ((Aa 6), .inl (tc 0, 6, .inl vy_25)), ((Aa 7), .inl (tc 0, 6, .inl vy_26)), ((Aa 8), .inl (tc 0, 6, .inl vy_27))] H → va_D A [((Aa 0), .inr (9, [.int 0, .int 0, .int 0, .int 0, .int 0, .int 0, .ref (Aa 1), .ref (Aa 2), .ref (Aa 3), .ref (Aa 4), .ref (Aa 5), .ref (Aa 6), .ref (Aa 7), .ref (Aa 8)])), ((Aa 1), .inl (tc 0, 10, .inl vy_5)), ((Aa 2), .inl (tc 0, 10, .inl vy_6)), ((Aa 3), .inl (tc 0, 6, .inl vy_22)), ((Aa 4), .inl (tc 0, 6, .inl vy_23)), ((Aa 5), .inl (tc 0, 6, .inl vy_24)), ((Aa 6), .inl (tc 0, 6, .inl vy_25)), ((Aa 7), .inl (tc 0, 6, .inl vy_26)), ((Aa 8), .inl (tc 0, 6, .inl vy_27))] → va_S A s.heap H locs → lv_has ls 2 [(1, .int vy_21), (0, .ref (Aa 0))] → W p l e ({ frames := 0, cells := 0, slots := 0, locals := 0 }) s m ([.ref (Aa 0)].toArray) below meth c H locs 0 0 (MQ below (QW (fun (v : Option Value) (u : (Nat → Int32) × (Nat → Int32) × (Nat → Int32) × (Nat → Int32) × (Nat → Int32) × (Nat → Int32) × (Nat → Int32) × (Nat → Int32)) => match u with | (oo0x1, oo0x2, oo0x3, oo0x4, oo0x5, oo0x6, oo0x7, oo0x8) => v = none ∧ (ShC 0 0 0 0 0 0 oo0x1 oo0x2 oo0x3 oo0x4 oo0x5 oo0x6 oo0x7 oo0x8 qz_0)) (BW D (fun (u : (Nat → Int32) × (Nat → Int32) × (Nat → Int32) × (Nat → Int32) × (Nat → Int32) × (Nat → Int32) × (Nat → Int32) × (Nat → Int32)) => match u with | (oo0x1, oo0x2, oo0x3, oo0x4, oo0x5, oo0x6, oo0x7, oo0x8) => [((Aa 0), .inr (9, [.int 0, .int 0, .int 0, .int 0, .int 0, .int 0, .ref (Aa 1), .ref (Aa 2), .ref (Aa 3), .ref (Aa 4), .ref (Aa 5), .ref (Aa 6), .ref (Aa 7), .ref (Aa 8)])), ((Aa 1), .inl (tc 0, 10, .inl oo0x1)), ((Aa 2), .inl (tc 0, 10, .inl oo0x2)), ((Aa 3), .inl (tc 0, 6, .inl oo0x3)), ((Aa 4), .inl (tc 0, 6, .inl oo0x4)), ((Aa 5), .inl (tc 0, 6, .inl oo0x5)), ((Aa 6), .inl (tc 0, 6, .inl oo0x6)), ((Aa 7), .inl (tc 0, 6, .inl oo0x7)), ((Aa 8), .inl (tc 0, 6, .inl oo0x8))]) A) A) ([.ref (Aa 0)].toArray) s 0 0 A) (F0 m 60 ls []) := by
          clear hP hD hS hl
          intro n_28
          induction n_28 with
          | zero =>
            intro vy_21 vy_22 vy_23 vy_24 vy_25 vy_26 vy_27 H locs ls h1
            exact absurd h1 (Nat.not_lt_zero _)
          | succ n_28 ih_29 =>
            intro vy_21 vy_22 vy_23 vy_24 vy_25 vy_26 vy_27 H locs ls hn_33 pf_31 pf_32 hP hD hS hl
            refine lv_iload_n hx hb dX9_clear_60 rfl (lv_at hl 0 rfl) ?_
            refine lv_bipush (v := 6) hx hb dX9_clear_61 (by decide) ?_
            refine lv_icmp_ge (tgt := 114) hx hb dX9_clear_63 (by decide) (fun c_34 => ?_) (fun c_34 => ?_)
            · skip
              have hr_35 : 10 ≤ (vy_4 : Int32).toInt := by
                have z_1 := Int32.le_iff_toInt_le.mp c_13
                have z_2 := Int32.le_iff_toInt_le.mp c_34
                have y_6 : (6 : Int32).toInt = 6 := by decide
                have y_10 : (10 : Int32).toInt = 10 := by decide
                omega
              have hr_36 : 6 ≤ (vy_21 : Int32).toInt := by
                have z_1 := Int32.le_iff_toInt_le.mp c_13
                have z_2 := Int32.le_iff_toInt_le.mp c_34
                have y_6 : (6 : Int32).toInt = 6 := by decide
                have y_10 : (10 : Int32).toInt = 10 := by decide
                omega
              exact retV hx hb hr hlk hP hD hS (vy_5, vy_6, vy_22, vy_23, vy_24, vy_25, vy_26, vy_27) ⟨rfl, (ShC.clear pf_11 pf_32 hr_35 hr_36)⟩ [0, 1, 2, 3, 4, 5, 6, 7, 8] rfl rfl dX9_clear_114 (Nat.le_of_ble_eq_true rfl) (Nat.le_of_ble_eq_true rfl) rfl
            · skip
              refine lv_aload_n hx hb dX9_clear_66 rfl (lv_at hl 1 rfl) ?_
              refine gf_X9_37 hx hb hts hown hK hP 0 rfl rfl dX9_clear_67 ?_
              refine lv_iload_n hx hb dX9_clear_70 rfl (lv_at hl 0 rfl) ?_
              refine lv_iconst (v := 0) hx hb dX9_clear_71 (by decide) ?_
              have hi_37 : vp_in vy_21 6 := by
                have z_1 := Int32.le_iff_toInt_le.mp c_13
                have z_2 := Int32.lt_iff_toInt_lt.mp (Int32.not_le.mp c_34)
                have y_6 : (6 : Int32).toInt = 6 := by decide
                have y_10 : (10 : Int32).toInt = 10 := by decide
                refine vp_in_iff.mpr ⟨?_, ?_⟩ <;> omega
              refine st_int hx hb hK hP hD hS 3 0 rfl rfl hi_37 dX9_clear_72 (fun g_38 H locs eg_38 hP₀ hD₀ hS₀ => ?_)
              replace hP : va_P D classes [((Aa 0), .inr (9, [.int 0, .int 0, .int 0, .int 0, .int 0, .int 0, .ref (Aa 1), .ref (Aa 2), .ref (Aa 3), .ref (Aa 4), .ref (Aa 5), .ref (Aa 6), .ref (Aa 7), .ref (Aa 8)])), ((Aa 1), .inl (tc 0, 10, .inl vy_5)), ((Aa 2), .inl (tc 0, 10, .inl vy_6)), ((Aa 3), .inl (tc 0, 6, .inl g_38)), ((Aa 4), .inl (tc 0, 6, .inl vy_23)), ((Aa 5), .inl (tc 0, 6, .inl vy_24)), ((Aa 6), .inl (tc 0, 6, .inl vy_25)), ((Aa 7), .inl (tc 0, 6, .inl vy_26)), ((Aa 8), .inl (tc 0, 6, .inl vy_27))] H := hP₀
              replace hD : va_D A [((Aa 0), .inr (9, [.int 0, .int 0, .int 0, .int 0, .int 0, .int 0, .ref (Aa 1), .ref (Aa 2), .ref (Aa 3), .ref (Aa 4), .ref (Aa 5), .ref (Aa 6), .ref (Aa 7), .ref (Aa 8)])), ((Aa 1), .inl (tc 0, 10, .inl vy_5)), ((Aa 2), .inl (tc 0, 10, .inl vy_6)), ((Aa 3), .inl (tc 0, 6, .inl g_38)), ((Aa 4), .inl (tc 0, 6, .inl vy_23)), ((Aa 5), .inl (tc 0, 6, .inl vy_24)), ((Aa 6), .inl (tc 0, 6, .inl vy_25)), ((Aa 7), .inl (tc 0, 6, .inl vy_26)), ((Aa 8), .inl (tc 0, 6, .inl vy_27))] := hD₀
              replace hS := hS₀
              clear hP₀ hD₀ hS₀
              refine lv_aload_n hx hb dX9_clear_73 rfl (lv_at hl 1 rfl) ?_
              refine gf_X9_40 hx hb hts hown hK hP 0 rfl rfl dX9_clear_74 ?_
              refine lv_iload_n hx hb dX9_clear_77 rfl (lv_at hl 0 rfl) ?_
              refine lv_iconst (v := 0) hx hb dX9_clear_78 (by decide) ?_
              have hi_39 : vp_in vy_21 6 := by
                have z_1 := Int32.le_iff_toInt_le.mp c_13
                have z_2 := Int32.lt_iff_toInt_lt.mp (Int32.not_le.mp c_34)
                have y_6 : (6 : Int32).toInt = 6 := by decide
                have y_10 : (10 : Int32).toInt = 10 := by decide
                refine vp_in_iff.mpr ⟨?_, ?_⟩ <;> omega
              refine st_int hx hb hK hP hD hS 4 0 rfl rfl hi_39 dX9_clear_79 (fun g_40 H locs eg_40 hP₀ hD₀ hS₀ => ?_)
              replace hP : va_P D classes [((Aa 0), .inr (9, [.int 0, .int 0, .int 0, .int 0, .int 0, .int 0, .ref (Aa 1), .ref (Aa 2), .ref (Aa 3), .ref (Aa 4), .ref (Aa 5), .ref (Aa 6), .ref (Aa 7), .ref (Aa 8)])), ((Aa 1), .inl (tc 0, 10, .inl vy_5)), ((Aa 2), .inl (tc 0, 10, .inl vy_6)), ((Aa 3), .inl (tc 0, 6, .inl g_38)), ((Aa 4), .inl (tc 0, 6, .inl g_40)), ((Aa 5), .inl (tc 0, 6, .inl vy_24)), ((Aa 6), .inl (tc 0, 6, .inl vy_25)), ((Aa 7), .inl (tc 0, 6, .inl vy_26)), ((Aa 8), .inl (tc 0, 6, .inl vy_27))] H := hP₀
              replace hD : va_D A [((Aa 0), .inr (9, [.int 0, .int 0, .int 0, .int 0, .int 0, .int 0, .ref (Aa 1), .ref (Aa 2), .ref (Aa 3), .ref (Aa 4), .ref (Aa 5), .ref (Aa 6), .ref (Aa 7), .ref (Aa 8)])), ((Aa 1), .inl (tc 0, 10, .inl vy_5)), ((Aa 2), .inl (tc 0, 10, .inl vy_6)), ((Aa 3), .inl (tc 0, 6, .inl g_38)), ((Aa 4), .inl (tc 0, 6, .inl g_40)), ((Aa 5), .inl (tc 0, 6, .inl vy_24)), ((Aa 6), .inl (tc 0, 6, .inl vy_25)), ((Aa 7), .inl (tc 0, 6, .inl vy_26)), ((Aa 8), .inl (tc 0, 6, .inl vy_27))] := hD₀
              replace hS := hS₀
              clear hP₀ hD₀ hS₀
              refine lv_aload_n hx hb dX9_clear_80 rfl (lv_at hl 1 rfl) ?_
              refine gf_X9_43 hx hb hts hown hK hP 0 rfl rfl dX9_clear_81 ?_
              refine lv_iload_n hx hb dX9_clear_84 rfl (lv_at hl 0 rfl) ?_
              refine lv_iconst (v := 0) hx hb dX9_clear_85 (by decide) ?_
              have hi_41 : vp_in vy_21 6 := by
                have z_1 := Int32.le_iff_toInt_le.mp c_13
                have z_2 := Int32.lt_iff_toInt_lt.mp (Int32.not_le.mp c_34)
                have y_6 : (6 : Int32).toInt = 6 := by decide
                have y_10 : (10 : Int32).toInt = 10 := by decide
                refine vp_in_iff.mpr ⟨?_, ?_⟩ <;> omega
              refine st_int hx hb hK hP hD hS 5 0 rfl rfl hi_41 dX9_clear_86 (fun g_42 H locs eg_42 hP₀ hD₀ hS₀ => ?_)
              replace hP : va_P D classes [((Aa 0), .inr (9, [.int 0, .int 0, .int 0, .int 0, .int 0, .int 0, .ref (Aa 1), .ref (Aa 2), .ref (Aa 3), .ref (Aa 4), .ref (Aa 5), .ref (Aa 6), .ref (Aa 7), .ref (Aa 8)])), ((Aa 1), .inl (tc 0, 10, .inl vy_5)), ((Aa 2), .inl (tc 0, 10, .inl vy_6)), ((Aa 3), .inl (tc 0, 6, .inl g_38)), ((Aa 4), .inl (tc 0, 6, .inl g_40)), ((Aa 5), .inl (tc 0, 6, .inl g_42)), ((Aa 6), .inl (tc 0, 6, .inl vy_25)), ((Aa 7), .inl (tc 0, 6, .inl vy_26)), ((Aa 8), .inl (tc 0, 6, .inl vy_27))] H := hP₀
              replace hD : va_D A [((Aa 0), .inr (9, [.int 0, .int 0, .int 0, .int 0, .int 0, .int 0, .ref (Aa 1), .ref (Aa 2), .ref (Aa 3), .ref (Aa 4), .ref (Aa 5), .ref (Aa 6), .ref (Aa 7), .ref (Aa 8)])), ((Aa 1), .inl (tc 0, 10, .inl vy_5)), ((Aa 2), .inl (tc 0, 10, .inl vy_6)), ((Aa 3), .inl (tc 0, 6, .inl g_38)), ((Aa 4), .inl (tc 0, 6, .inl g_40)), ((Aa 5), .inl (tc 0, 6, .inl g_42)), ((Aa 6), .inl (tc 0, 6, .inl vy_25)), ((Aa 7), .inl (tc 0, 6, .inl vy_26)), ((Aa 8), .inl (tc 0, 6, .inl vy_27))] := hD₀
              replace hS := hS₀
              clear hP₀ hD₀ hS₀
              refine lv_aload_n hx hb dX9_clear_87 rfl (lv_at hl 1 rfl) ?_
              refine gf_X9_46 hx hb hts hown hK hP 0 rfl rfl dX9_clear_88 ?_
              refine lv_iload_n hx hb dX9_clear_91 rfl (lv_at hl 0 rfl) ?_
              refine lv_iconst (v := 0) hx hb dX9_clear_92 (by decide) ?_
              have hi_43 : vp_in vy_21 6 := by
                have z_1 := Int32.le_iff_toInt_le.mp c_13
                have z_2 := Int32.lt_iff_toInt_lt.mp (Int32.not_le.mp c_34)
                have y_6 : (6 : Int32).toInt = 6 := by decide
                have y_10 : (10 : Int32).toInt = 10 := by decide
                refine vp_in_iff.mpr ⟨?_, ?_⟩ <;> omega
              refine st_int hx hb hK hP hD hS 6 0 rfl rfl hi_43 dX9_clear_93 (fun g_44 H locs eg_44 hP₀ hD₀ hS₀ => ?_)
              replace hP : va_P D classes [((Aa 0), .inr (9, [.int 0, .int 0, .int 0, .int 0, .int 0, .int 0, .ref (Aa 1), .ref (Aa 2), .ref (Aa 3), .ref (Aa 4), .ref (Aa 5), .ref (Aa 6), .ref (Aa 7), .ref (Aa 8)])), ((Aa 1), .inl (tc 0, 10, .inl vy_5)), ((Aa 2), .inl (tc 0, 10, .inl vy_6)), ((Aa 3), .inl (tc 0, 6, .inl g_38)), ((Aa 4), .inl (tc 0, 6, .inl g_40)), ((Aa 5), .inl (tc 0, 6, .inl g_42)), ((Aa 6), .inl (tc 0, 6, .inl g_44)), ((Aa 7), .inl (tc 0, 6, .inl vy_26)), ((Aa 8), .inl (tc 0, 6, .inl vy_27))] H := hP₀
              replace hD : va_D A [((Aa 0), .inr (9, [.int 0, .int 0, .int 0, .int 0, .int 0, .int 0, .ref (Aa 1), .ref (Aa 2), .ref (Aa 3), .ref (Aa 4), .ref (Aa 5), .ref (Aa 6), .ref (Aa 7), .ref (Aa 8)])), ((Aa 1), .inl (tc 0, 10, .inl vy_5)), ((Aa 2), .inl (tc 0, 10, .inl vy_6)), ((Aa 3), .inl (tc 0, 6, .inl g_38)), ((Aa 4), .inl (tc 0, 6, .inl g_40)), ((Aa 5), .inl (tc 0, 6, .inl g_42)), ((Aa 6), .inl (tc 0, 6, .inl g_44)), ((Aa 7), .inl (tc 0, 6, .inl vy_26)), ((Aa 8), .inl (tc 0, 6, .inl vy_27))] := hD₀
              replace hS := hS₀
              clear hP₀ hD₀ hS₀
              refine lv_aload_n hx hb dX9_clear_94 rfl (lv_at hl 1 rfl) ?_
              refine gf_X9_49 hx hb hts hown hK hP 0 rfl rfl dX9_clear_95 ?_
              refine lv_iload_n hx hb dX9_clear_98 rfl (lv_at hl 0 rfl) ?_
              refine lv_iconst (v := 0) hx hb dX9_clear_99 (by decide) ?_
              have hi_45 : vp_in vy_21 6 := by
                have z_1 := Int32.le_iff_toInt_le.mp c_13
                have z_2 := Int32.lt_iff_toInt_lt.mp (Int32.not_le.mp c_34)
                have y_6 : (6 : Int32).toInt = 6 := by decide
                have y_10 : (10 : Int32).toInt = 10 := by decide
                refine vp_in_iff.mpr ⟨?_, ?_⟩ <;> omega
              refine st_int hx hb hK hP hD hS 7 0 rfl rfl hi_45 dX9_clear_100 (fun g_46 H locs eg_46 hP₀ hD₀ hS₀ => ?_)
              replace hP : va_P D classes [((Aa 0), .inr (9, [.int 0, .int 0, .int 0, .int 0, .int 0, .int 0, .ref (Aa 1), .ref (Aa 2), .ref (Aa 3), .ref (Aa 4), .ref (Aa 5), .ref (Aa 6), .ref (Aa 7), .ref (Aa 8)])), ((Aa 1), .inl (tc 0, 10, .inl vy_5)), ((Aa 2), .inl (tc 0, 10, .inl vy_6)), ((Aa 3), .inl (tc 0, 6, .inl g_38)), ((Aa 4), .inl (tc 0, 6, .inl g_40)), ((Aa 5), .inl (tc 0, 6, .inl g_42)), ((Aa 6), .inl (tc 0, 6, .inl g_44)), ((Aa 7), .inl (tc 0, 6, .inl g_46)), ((Aa 8), .inl (tc 0, 6, .inl vy_27))] H := hP₀
              replace hD : va_D A [((Aa 0), .inr (9, [.int 0, .int 0, .int 0, .int 0, .int 0, .int 0, .ref (Aa 1), .ref (Aa 2), .ref (Aa 3), .ref (Aa 4), .ref (Aa 5), .ref (Aa 6), .ref (Aa 7), .ref (Aa 8)])), ((Aa 1), .inl (tc 0, 10, .inl vy_5)), ((Aa 2), .inl (tc 0, 10, .inl vy_6)), ((Aa 3), .inl (tc 0, 6, .inl g_38)), ((Aa 4), .inl (tc 0, 6, .inl g_40)), ((Aa 5), .inl (tc 0, 6, .inl g_42)), ((Aa 6), .inl (tc 0, 6, .inl g_44)), ((Aa 7), .inl (tc 0, 6, .inl g_46)), ((Aa 8), .inl (tc 0, 6, .inl vy_27))] := hD₀
              replace hS := hS₀
              clear hP₀ hD₀ hS₀
              refine lv_aload_n hx hb dX9_clear_101 rfl (lv_at hl 1 rfl) ?_
              refine gf_X9_52 hx hb hts hown hK hP 0 rfl rfl dX9_clear_102 ?_
              refine lv_iload_n hx hb dX9_clear_105 rfl (lv_at hl 0 rfl) ?_
              refine lv_iconst (v := (-1)) hx hb dX9_clear_106 (by decide) ?_
              have hi_47 : vp_in vy_21 6 := by
                have z_1 := Int32.le_iff_toInt_le.mp c_13
                have z_2 := Int32.lt_iff_toInt_lt.mp (Int32.not_le.mp c_34)
                have y_6 : (6 : Int32).toInt = 6 := by decide
                have y_10 : (10 : Int32).toInt = 10 := by decide
                refine vp_in_iff.mpr ⟨?_, ?_⟩ <;> omega
              refine st_int hx hb hK hP hD hS 8 0 rfl rfl hi_47 dX9_clear_107 (fun g_48 H locs eg_48 hP₀ hD₀ hS₀ => ?_)
              replace hP : va_P D classes [((Aa 0), .inr (9, [.int 0, .int 0, .int 0, .int 0, .int 0, .int 0, .ref (Aa 1), .ref (Aa 2), .ref (Aa 3), .ref (Aa 4), .ref (Aa 5), .ref (Aa 6), .ref (Aa 7), .ref (Aa 8)])), ((Aa 1), .inl (tc 0, 10, .inl vy_5)), ((Aa 2), .inl (tc 0, 10, .inl vy_6)), ((Aa 3), .inl (tc 0, 6, .inl g_38)), ((Aa 4), .inl (tc 0, 6, .inl g_40)), ((Aa 5), .inl (tc 0, 6, .inl g_42)), ((Aa 6), .inl (tc 0, 6, .inl g_44)), ((Aa 7), .inl (tc 0, 6, .inl g_46)), ((Aa 8), .inl (tc 0, 6, .inl g_48))] H := hP₀
              replace hD : va_D A [((Aa 0), .inr (9, [.int 0, .int 0, .int 0, .int 0, .int 0, .int 0, .ref (Aa 1), .ref (Aa 2), .ref (Aa 3), .ref (Aa 4), .ref (Aa 5), .ref (Aa 6), .ref (Aa 7), .ref (Aa 8)])), ((Aa 1), .inl (tc 0, 10, .inl vy_5)), ((Aa 2), .inl (tc 0, 10, .inl vy_6)), ((Aa 3), .inl (tc 0, 6, .inl g_38)), ((Aa 4), .inl (tc 0, 6, .inl g_40)), ((Aa 5), .inl (tc 0, 6, .inl g_42)), ((Aa 6), .inl (tc 0, 6, .inl g_44)), ((Aa 7), .inl (tc 0, 6, .inl g_46)), ((Aa 8), .inl (tc 0, 6, .inl g_48))] := hD₀
              replace hS := hS₀
              clear hP₀ hD₀ hS₀
              obtain ⟨x_49, ex_49⟩ : ∃ y : Int32, y = vy_21 + 1 := ⟨_, rfl⟩
              refine lv_iinc (v := x_49) (lv' := [(1, .int x_49), (0, .ref (Aa 0))]) hx hb dX9_clear_108 hl (k := 0) rfl (by rw [ex_49]; rfl) (by decide) rfl (fun ls hl₀ => ?_)
              replace hl := hl₀
              clear hl₀
              refine lv_goto (tgt := 60) hx hb dX9_clear_111 (by decide) ?_
              have hb_50 : 6 - (x_49 : Int32).toInt < 6 - (vy_21 : Int32).toInt ∧ 1 ≤ 6 - (vy_21 : Int32).toInt := by
                have z_1 := Int32.le_iff_toInt_le.mp c_13
                have z_2 := Int32.lt_iff_toInt_lt.mp (Int32.not_le.mp c_34)
                have y_6 : (6 : Int32).toInt = 6 := by decide
                have y_10 : (10 : Int32).toInt = 10 := by decide
                have y_1 : (1 : Int32).toInt = 1 := by decide
                have t_x_49 : x_49.toInt = (vy_21 : Int32).toInt + (1 : Int32).toInt := by rw [ex_49]; exact add_toInt (by omega) (by omega)
                omega
              have ha_51 : 0 ≤ (x_49 : Int32).toInt := by
                have z_1 := Int32.le_iff_toInt_le.mp c_13
                have z_2 := Int32.lt_iff_toInt_lt.mp (Int32.not_le.mp c_34)
                have y_6 : (6 : Int32).toInt = 6 := by decide
                have y_10 : (10 : Int32).toInt = 10 := by decide
                have y_1 : (1 : Int32).toInt = 1 := by decide
                have t_x_49 : x_49.toInt = (vy_21 : Int32).toInt + (1 : Int32).toInt := by rw [ex_49]; exact add_toInt (by omega) (by omega)
                omega
              have hr_52 : 0 ≤ (vy_21 : Int32).toInt := by
                have z_1 := Int32.le_iff_toInt_le.mp c_13
                have z_2 := Int32.lt_iff_toInt_lt.mp (Int32.not_le.mp c_34)
                have y_6 : (6 : Int32).toInt = 6 := by decide
                have y_10 : (10 : Int32).toInt = 10 := by decide
                omega
              have hi_53 : (x_49 : Int32).toInt = (vy_21 : Int32).toInt + 1 := by
                have z_1 := Int32.le_iff_toInt_le.mp c_13
                have z_2 := Int32.lt_iff_toInt_lt.mp (Int32.not_le.mp c_34)
                have y_6 : (6 : Int32).toInt = 6 := by decide
                have y_10 : (10 : Int32).toInt = 10 := by decide
                have y_1 : (1 : Int32).toInt = 1 := by decide
                have t_x_49 : x_49.toInt = (vy_21 : Int32).toInt + (1 : Int32).toInt := by rw [ex_49]; exact add_toInt (by omega) (by omega)
                omega
              exact ih_29 x_49 g_38 g_40 g_42 g_44 g_46 g_48 _ _ _ (by omega) ha_51 (Clr2.step pf_32 hr_52 eg_38 eg_40 eg_42 eg_44 eg_46 eg_48 hi_53) (hP.sub [0, 1, 2, 3, 4, 5, 6, 7, 8] rfl) (hD.sub [0, 1, 2, 3, 4, 5, 6, 7, 8] rfl rfl) hS (lv_sub hl [0, 1] rfl)
        have ha_54 : 0 ≤ (0 : Int32).toInt := by
          have z_1 := Int32.le_iff_toInt_le.mp c_13
          have y_10 : (10 : Int32).toInt = 10 := by decide
          have y_0 : (0 : Int32).toInt = 0 := by decide
          omega
        have hr_55 : (0 : Int32).toInt = 0 := by
          have z_1 := Int32.le_iff_toInt_le.mp c_13
          have y_10 : (10 : Int32).toInt = 10 := by decide
          have y_0 : (0 : Int32).toInt = 0 := by decide
          omega
        exact loop_30 _ 0 (Af 3) (Af 4) (Af 5) (Af 6) (Af 7) (Af 8) _ _ _ (Nat.lt_succ_self _) ha_54 (Clr2.nil hr_55) hP hD hS hl
      · skip
        refine lv_aload_n hx hb dX9_clear_38 rfl (lv_at hl 1 rfl) ?_
        refine gf_X9_30 hx hb hts hown hK hP 0 rfl rfl dX9_clear_39 ?_
        refine lv_iload_n hx hb dX9_clear_42 rfl (lv_at hl 0 rfl) ?_
        refine lv_iconst (v := 0) hx hb dX9_clear_43 (by decide) ?_
        have hi_56 : vp_in vy_4 10 := by
          have z_1 := Int32.lt_iff_toInt_lt.mp (Int32.not_le.mp c_13)
          have y_10 : (10 : Int32).toInt = 10 := by decide
          refine vp_in_iff.mpr ⟨?_, ?_⟩ <;> omega
        refine st_int hx hb hK hP hD hS 1 0 rfl rfl hi_56 dX9_clear_44 (fun g_57 H locs eg_57 hP₀ hD₀ hS₀ => ?_)
        replace hP : va_P D classes [((Aa 0), .inr (9, [.int 0, .int 0, .int 0, .int 0, .int 0, .int 0, .ref (Aa 1), .ref (Aa 2), .ref (Aa 3), .ref (Aa 4), .ref (Aa 5), .ref (Aa 6), .ref (Aa 7), .ref (Aa 8)])), ((Aa 1), .inl (tc 0, 10, .inl g_57)), ((Aa 2), .inl (tc 0, 10, .inl vy_6)), ((Aa 3), .inl (tc 0, 6, .inl (Af 3))), ((Aa 4), .inl (tc 0, 6, .inl (Af 4))), ((Aa 5), .inl (tc 0, 6, .inl (Af 5))), ((Aa 6), .inl (tc 0, 6, .inl (Af 6))), ((Aa 7), .inl (tc 0, 6, .inl (Af 7))), ((Aa 8), .inl (tc 0, 6, .inl (Af 8)))] H := hP₀
        replace hD : va_D A [((Aa 0), .inr (9, [.int 0, .int 0, .int 0, .int 0, .int 0, .int 0, .ref (Aa 1), .ref (Aa 2), .ref (Aa 3), .ref (Aa 4), .ref (Aa 5), .ref (Aa 6), .ref (Aa 7), .ref (Aa 8)])), ((Aa 1), .inl (tc 0, 10, .inl g_57)), ((Aa 2), .inl (tc 0, 10, .inl vy_6)), ((Aa 3), .inl (tc 0, 6, .inl (Af 3))), ((Aa 4), .inl (tc 0, 6, .inl (Af 4))), ((Aa 5), .inl (tc 0, 6, .inl (Af 5))), ((Aa 6), .inl (tc 0, 6, .inl (Af 6))), ((Aa 7), .inl (tc 0, 6, .inl (Af 7))), ((Aa 8), .inl (tc 0, 6, .inl (Af 8)))] := hD₀
        replace hS := hS₀
        clear hP₀ hD₀ hS₀
        refine lv_aload_n hx hb dX9_clear_45 rfl (lv_at hl 1 rfl) ?_
        refine gf_X9_34 hx hb hts hown hK hP 0 rfl rfl dX9_clear_46 ?_
        refine lv_iload_n hx hb dX9_clear_49 rfl (lv_at hl 0 rfl) ?_
        refine lv_iconst (v := 0) hx hb dX9_clear_50 (by decide) ?_
        have hi_58 : vp_in vy_4 10 := by
          have z_1 := Int32.lt_iff_toInt_lt.mp (Int32.not_le.mp c_13)
          have y_10 : (10 : Int32).toInt = 10 := by decide
          refine vp_in_iff.mpr ⟨?_, ?_⟩ <;> omega
        refine st_int hx hb hK hP hD hS 2 0 rfl rfl hi_58 dX9_clear_51 (fun g_59 H locs eg_59 hP₀ hD₀ hS₀ => ?_)
        replace hP : va_P D classes [((Aa 0), .inr (9, [.int 0, .int 0, .int 0, .int 0, .int 0, .int 0, .ref (Aa 1), .ref (Aa 2), .ref (Aa 3), .ref (Aa 4), .ref (Aa 5), .ref (Aa 6), .ref (Aa 7), .ref (Aa 8)])), ((Aa 1), .inl (tc 0, 10, .inl g_57)), ((Aa 2), .inl (tc 0, 10, .inl g_59)), ((Aa 3), .inl (tc 0, 6, .inl (Af 3))), ((Aa 4), .inl (tc 0, 6, .inl (Af 4))), ((Aa 5), .inl (tc 0, 6, .inl (Af 5))), ((Aa 6), .inl (tc 0, 6, .inl (Af 6))), ((Aa 7), .inl (tc 0, 6, .inl (Af 7))), ((Aa 8), .inl (tc 0, 6, .inl (Af 8)))] H := hP₀
        replace hD : va_D A [((Aa 0), .inr (9, [.int 0, .int 0, .int 0, .int 0, .int 0, .int 0, .ref (Aa 1), .ref (Aa 2), .ref (Aa 3), .ref (Aa 4), .ref (Aa 5), .ref (Aa 6), .ref (Aa 7), .ref (Aa 8)])), ((Aa 1), .inl (tc 0, 10, .inl g_57)), ((Aa 2), .inl (tc 0, 10, .inl g_59)), ((Aa 3), .inl (tc 0, 6, .inl (Af 3))), ((Aa 4), .inl (tc 0, 6, .inl (Af 4))), ((Aa 5), .inl (tc 0, 6, .inl (Af 5))), ((Aa 6), .inl (tc 0, 6, .inl (Af 6))), ((Aa 7), .inl (tc 0, 6, .inl (Af 7))), ((Aa 8), .inl (tc 0, 6, .inl (Af 8)))] := hD₀
        replace hS := hS₀
        clear hP₀ hD₀ hS₀
        obtain ⟨x_60, ex_60⟩ : ∃ y : Int32, y = vy_4 + 1 := ⟨_, rfl⟩
        refine lv_iinc (v := x_60) (lv' := [(1, .int x_60), (0, .ref (Aa 0))]) hx hb dX9_clear_52 hl (k := 0) rfl (by rw [ex_60]; rfl) (by decide) rfl (fun ls hl₀ => ?_)
        replace hl := hl₀
        clear hl₀
        refine lv_goto (tgt := 32) hx hb dX9_clear_55 (by decide) ?_
        have hb_61 : 10 - (x_60 : Int32).toInt < 10 - (vy_4 : Int32).toInt ∧ 1 ≤ 10 - (vy_4 : Int32).toInt := by
          have z_1 := Int32.lt_iff_toInt_lt.mp (Int32.not_le.mp c_13)
          have y_10 : (10 : Int32).toInt = 10 := by decide
          have y_1 : (1 : Int32).toInt = 1 := by decide
          have t_x_60 : x_60.toInt = (vy_4 : Int32).toInt + (1 : Int32).toInt := by rw [ex_60]; exact add_toInt (by omega) (by omega)
          omega
        have ha_62 : 0 ≤ (x_60 : Int32).toInt := by
          have z_1 := Int32.lt_iff_toInt_lt.mp (Int32.not_le.mp c_13)
          have y_10 : (10 : Int32).toInt = 10 := by decide
          have y_1 : (1 : Int32).toInt = 1 := by decide
          have t_x_60 : x_60.toInt = (vy_4 : Int32).toInt + (1 : Int32).toInt := by rw [ex_60]; exact add_toInt (by omega) (by omega)
          omega
        have hr_63 : 0 ≤ (vy_4 : Int32).toInt := by
          have z_1 := Int32.lt_iff_toInt_lt.mp (Int32.not_le.mp c_13)
          have y_10 : (10 : Int32).toInt = 10 := by decide
          omega
        have hi_64 : (x_60 : Int32).toInt = (vy_4 : Int32).toInt + 1 := by
          have z_1 := Int32.lt_iff_toInt_lt.mp (Int32.not_le.mp c_13)
          have y_10 : (10 : Int32).toInt = 10 := by decide
          have y_1 : (1 : Int32).toInt = 1 := by decide
          have t_x_60 : x_60.toInt = (vy_4 : Int32).toInt + (1 : Int32).toInt := by rw [ex_60]; exact add_toInt (by omega) (by omega)
          omega
        exact ih_8 x_60 g_57 g_59 _ _ _ (by omega) ha_62 (Clr1.step pf_11 hr_63 eg_57 eg_59 hi_64) (hP.sub [0, 1, 2, 3, 4, 5, 6, 7, 8] rfl) (hD.sub [0, 1, 2, 3, 4, 5, 6, 7, 8] rfl rfl) hS (lv_sub hl [0, 1] rfl)
  have ha_65 : 0 ≤ (0 : Int32).toInt := by
    have y_0 : (0 : Int32).toInt = 0 := by decide
    omega
  have hr_66 : (0 : Int32).toInt = 0 := by
    have y_0 : (0 : Int32).toInt = 0 := by decide
    omega
  exact loop_9 _ 0 (Af 1) (Af 2) _ _ _ (Nat.lt_succ_self _) ha_65 (Clr1.nil hr_66) hP hD hS hl
set_option maxRecDepth 100000 in
theorem cu_zX9_clear (l : Launch) (D : va_G) (tc : Nat → ClassId) (sk : (Nat → Nat) × (Nat → Nat)) (Aa_0 : Nat) (Aa_1 : Nat) (Aa_2 : Nat) (Aa_3 : Nat) (Aa_4 : Nat) (Aa_5 : Nat) (Aa_6 : Nat) (Aa_7 : Nat) (Aa_8 : Nat) (Av_0 : Int32) (Av_1 : Int32) (Av_2 : Int32) (Av_3 : Int32) (Av_4 : Int32) (Av_5 : Int32) (Af_1 : Nat → Int32) (Af_2 : Nat → Int32) (Af_3 : Nat → Int32) (Af_4 : Nat → Int32) (Af_5 : Nat → Int32) (Af_6 : Nat → Int32) (Af_7 : Nat → Int32) (Af_8 : Nat → Int32)  : Ct l yX9_clear cX9_clear 2 none { frames := 0, cells := 0, slots := 0, locals := 0 } D tc sk [.ref Aa_0] [(Aa_0, .inr (9, [.int Av_0, .int Av_1, .int Av_2, .int Av_3, .int Av_4, .int Av_5, .ref Aa_1, .ref Aa_2, .ref Aa_3, .ref Aa_4, .ref Aa_5, .ref Aa_6, .ref Aa_7, .ref Aa_8])), (Aa_1, .inl (tc 0, 10, .inl Af_1)), (Aa_2, .inl (tc 0, 10, .inl Af_2)), (Aa_3, .inl (tc 0, 6, .inl Af_3)), (Aa_4, .inl (tc 0, 6, .inl Af_4)), (Aa_5, .inl (tc 0, 6, .inl Af_5)), (Aa_6, .inl (tc 0, 6, .inl Af_6)), (Aa_7, .inl (tc 0, 6, .inl Af_7)), (Aa_8, .inl (tc 0, 6, .inl Af_8))] (fun (v : Option Value) (u : (Nat → Int32) × (Nat → Int32) × (Nat → Int32) × (Nat → Int32) × (Nat → Int32) × (Nat → Int32) × (Nat → Int32) × (Nat → Int32)) => match u with | (oo0x1, oo0x2, oo0x3, oo0x4, oo0x5, oo0x6, oo0x7, oo0x8) => v = none ∧ (ShC 0 0 0 0 0 0 oo0x1 oo0x2 oo0x3 oo0x4 oo0x5 oo0x6 oo0x7 oo0x8 qz_0)) (fun (u : (Nat → Int32) × (Nat → Int32) × (Nat → Int32) × (Nat → Int32) × (Nat → Int32) × (Nat → Int32) × (Nat → Int32) × (Nat → Int32)) => match u with | (oo0x1, oo0x2, oo0x3, oo0x4, oo0x5, oo0x6, oo0x7, oo0x8) => [(Aa_0, .inr (9, [.int 0, .int 0, .int 0, .int 0, .int 0, .int 0, .ref Aa_1, .ref Aa_2, .ref Aa_3, .ref Aa_4, .ref Aa_5, .ref Aa_6, .ref Aa_7, .ref Aa_8])), (Aa_1, .inl (tc 0, 10, .inl oo0x1)), (Aa_2, .inl (tc 0, 10, .inl oo0x2)), (Aa_3, .inl (tc 0, 6, .inl oo0x3)), (Aa_4, .inl (tc 0, 6, .inl oo0x4)), (Aa_5, .inl (tc 0, 6, .inl oo0x5)), (Aa_6, .inl (tc 0, 6, .inl oo0x6)), (Aa_7, .inl (tc 0, 6, .inl oo0x7)), (Aa_8, .inl (tc 0, 6, .inl oo0x8))]) 0 0 :=
  ct_zX9_clear l D tc sk (fun k => ([Aa_0, Aa_1, Aa_2, Aa_3, Aa_4, Aa_5, Aa_6, Aa_7, Aa_8] : List (Nat)).getD k 0) (fun k => ([Av_0, Av_1, Av_2, Av_3, Av_4, Av_5] : List (Int32)).getD k 0) (fun k => ([(fun _ => 0), Af_1, Af_2, Af_3, Af_4, Af_5, Af_6, Af_7, Af_8] : List (Nat → Int32)).getD k (fun _ => 0)) 
set_option maxHeartbeats 4000000 in
set_option maxRecDepth 100000 in
theorem ct_zX0_readBook (l : Launch) (D : va_G) (tc : Nat → ClassId) (sk : (Nat → Nat) × (Nat → Nat)) (Wa : Nat → Nat) (Aa : Nat → Nat) (Av : Nat → Int32) (Af : Nat → Nat → Int32) (Ta : Nat → Nat) (Tv : Nat → Int32) (Tf : Nat → Nat → Int32) (rr : Except Int (Nat × Nat)) (C : Nat → Int) (h_tape : 0 ≤ ((Tv 0) : Int32).toInt ∧ ((Tv 0) : Int32).toInt ≤ 400 ∧ 0 ≤ ((Tv 1) : Int32).toInt ∧ ((Tv 1) : Int32).toInt ≤ 400 ∧ 0 ≤ ((Tv 2) : Int32).toInt ∧ ((Tv 2) : Int32).toInt ≤ 400) (h_by : Byt (Tf 1)) (h_r : TpR (Tf 1) (Tv 0) rr (Tv 1) (Tv 2) (Tv 3) (Tv 4)) (h_bu : 0 ≤ ((Av 3) : Int32).toInt ∧ ((Av 3) : Int32).toInt ≤ 6) (h_c : QcI rr (Av 0) (Av 1) (Av 2) (Av 3) (Av 4) (Av 5) (Af 1) (Af 2) (Af 3) (Af 4) (Af 5) (Af 6) (Af 7) (Af 8) C) : Ct l yX0_readBook cX0_readBook 2 none { frames := 3, cells := 0, slots := 0, locals := 68 } D tc sk [.ref (Wa 0), .ref (Ta 0)] [((Wa 0), .inr (0, [.ref (Aa 0)])), ((Aa 0), .inr (9, [.int (Av 0), .int (Av 1), .int (Av 2), .int (Av 3), .int (Av 4), .int (Av 5), .ref (Aa 1), .ref (Aa 2), .ref (Aa 3), .ref (Aa 4), .ref (Aa 5), .ref (Aa 6), .ref (Aa 7), .ref (Aa 8)])), ((Aa 1), .inl (tc 0, 10, .inl (Af 1))), ((Aa 2), .inl (tc 0, 10, .inl (Af 2))), ((Aa 3), .inl (tc 0, 6, .inl (Af 3))), ((Aa 4), .inl (tc 0, 6, .inl (Af 4))), ((Aa 5), .inl (tc 0, 6, .inl (Af 5))), ((Aa 6), .inl (tc 0, 6, .inl (Af 6))), ((Aa 7), .inl (tc 0, 6, .inl (Af 7))), ((Aa 8), .inl (tc 0, 6, .inl (Af 8))), ((Ta 0), .inr (10, [.ref (Ta 1), .int (Tv 0), .int (Tv 1), .int (Tv 2), .int (Tv 3), .int (Tv 4)])), ((Ta 1), .inl (tc 0, 400, .inl (Tf 1)))] (fun (v : Option Value) (u : (Int32) × (Int32) × (Int32) × (Int32) × (Int32) × (Int32) × (Int32)) => match u with | (oo0x1, oo0x2, oo0x3, oo0x4, oo0x5, oo0x6, oo0x7) => v = none ∧ (0 ≤ ((Tv 0) : Int32).toInt ∧ ((Tv 0) : Int32).toInt ≤ 400 ∧ 0 ≤ (oo0x4 : Int32).toInt ∧ (oo0x4 : Int32).toInt ≤ 400 ∧ 0 ≤ (oo0x5 : Int32).toInt ∧ (oo0x5 : Int32).toInt ≤ 400) ∧ (0 ≤ ((Av 3) : Int32).toInt ∧ ((Av 3) : Int32).toInt ≤ 6) ∧ (TpR (Tf 1) (Tv 0) (rN1 (cB (Tf 1) (Tv 0)) 1 10 (rN1 (cB (Tf 1) (Tv 0)) 0 9 (rN1 (cB (Tf 1) (Tv 0)) 0 99 rr))) oo0x4 oo0x5 oo0x6 oo0x7) ∧ (QsQ (qz_k0 (cB (Tf 1) (Tv 0)) C rr) oo0x1 oo0x2 oo0x3 (Av 3) (Av 4) (Av 5) (Af 1) (Af 2) (Af 3) (Af 4) (Af 5) (Af 6) (Af 7) (Af 8))) (fun (u : (Int32) × (Int32) × (Int32) × (Int32) × (Int32) × (Int32) × (Int32)) => match u with | (oo0x1, oo0x2, oo0x3, oo0x4, oo0x5, oo0x6, oo0x7) => [((Wa 0), .inr (0, [.ref (Aa 0)])), ((Aa 0), .inr (9, [.int oo0x1, .int oo0x2, .int oo0x3, .int (Av 3), .int (Av 4), .int (Av 5), .ref (Aa 1), .ref (Aa 2), .ref (Aa 3), .ref (Aa 4), .ref (Aa 5), .ref (Aa 6), .ref (Aa 7), .ref (Aa 8)])), ((Aa 1), .inl (tc 0, 10, .inl (Af 1))), ((Aa 2), .inl (tc 0, 10, .inl (Af 2))), ((Aa 3), .inl (tc 0, 6, .inl (Af 3))), ((Aa 4), .inl (tc 0, 6, .inl (Af 4))), ((Aa 5), .inl (tc 0, 6, .inl (Af 5))), ((Aa 6), .inl (tc 0, 6, .inl (Af 6))), ((Aa 7), .inl (tc 0, 6, .inl (Af 7))), ((Aa 8), .inl (tc 0, 6, .inl (Af 8))), ((Ta 0), .inr (10, [.ref (Ta 1), .int (Tv 0), .int oo0x4, .int oo0x5, .int oo0x6, .int oo0x7])), ((Ta 1), .inl (tc 0, 400, .inl (Tf 1)))]) 0 0 := by
  refine Ct.start (by decide) (Nat.le_of_ble_eq_true rfl) (fun p e s m below meth c A ls hx hb hr hlk hin hml hown hts hK hX hP hD hA hl hS => ?_)
  have hl : lv_has ls 2 [(0, .ref (Wa 0)), (1, .ref (Ta 0))] := hl
  have tb_1 : TpB (rTE (cB (Tf 1) (Tv 0)) rr) (Tv 2) (Tv 4) := TpR.tb h_r
  refine lv_aload_n hx hb dX0_readBook_0 rfl (lv_at hl 0 rfl) ?_
  refine gf_X0_12 hx hb hts hown hK hP 0 rfl rfl dX0_readBook_1 ?_
  refine lv_aload_n hx hb dX0_readBook_4 rfl (lv_at hl 1 rfl) ?_
  refine lv_iconst (v := 0) hx hb dX0_readBook_5 (by decide) ?_
  refine lv_bipush (v := 99) hx hb dX0_readBook_6 (by decide) ?_
  have ha_2 : (0 : Int32).toInt = (0 : Int) := by
    have y_0 : (0 : Int32).toInt = 0 := by decide
    omega
  have ha_3 : (99 : Int32).toInt = (99 : Int) := by
    have y_99 : (99 : Int32).toInt = 99 := by decide
    omega
  refine cV (a := (Ta 0)) (As := [.int 0, .int 99]) (rest := [.ref (Aa 0)]) (wr := [((Wa 0), .inr (0, [.ref (Aa 0)])), ((Aa 0), .inr (9, [.int (Av 0), .int (Av 1), .int (Av 2), .int (Av 3), .int (Av 4), .int (Av 5), .ref (Aa 1), .ref (Aa 2), .ref (Aa 3), .ref (Aa 4), .ref (Aa 5), .ref (Aa 6), .ref (Aa 7), .ref (Aa 8)])), ((Aa 1), .inl (tc 0, 10, .inl (Af 1))), ((Aa 2), .inl (tc 0, 10, .inl (Af 2))), ((Aa 3), .inl (tc 0, 6, .inl (Af 3))), ((Aa 4), .inl (tc 0, 6, .inl (Af 4))), ((Aa 5), .inl (tc 0, 6, .inl (Af 5))), ((Aa 6), .inl (tc 0, 6, .inl (Af 6))), ((Aa 7), .inl (tc 0, 6, .inl (Af 7))), ((Aa 8), .inl (tc 0, 6, .inl (Af 8)))]) ⟨hx, hb, hml, hown, hts⟩ hK hX hA (cu_fX10_takeNumber l D tc sk (Ta 0) (Ta 1) (Tv 0) (Tv 1) (Tv 2) (Tv 3) (Tv 4) (Tf 1) 0 99 rr 0 99 h_tape h_by h_r ha_2 ha_3) k_566 k_563 k_564 k_565 k_96 pl_X10_takeNumber ⟨Nat.le_of_ble_eq_true rfl, Nat.le_of_ble_eq_true rfl⟩ rfl rfl (va_recv hK hP (ci := 10) (q0 := 10) rfl rfl) hP hD hS [10, 11] [0, 1, 2, 3, 4, 5, 6, 7, 8, 9] rfl rfl rfl rfl rfl (by decide) rfl hl.1 rfl (Nat.le_of_ble_eq_true rfl) dX0_readBook_8 ⟨Nat.le_of_ble_eq_true rfl, Nat.le_of_ble_eq_true rfl⟩ (fun v_4 u_5 H locs hv_6 hP₀ hD₀ hS₀ => ?_)
  obtain ⟨sv_7, sv_8, sv_9, sv_10⟩ := u_5
  obtain ⟨r_13, rfl, he_14, pf_11, pf_12⟩ := hv_6
  have he_14 : NuV (cB (Tf 1) (Tv 0)) (0 : Int) (99 : Int) rr r_13 := he_14
  have pf_11 : 0 ≤ ((Tv 0) : Int32).toInt ∧ ((Tv 0) : Int32).toInt ≤ 400 ∧ 0 ≤ (sv_7 : Int32).toInt ∧ (sv_7 : Int32).toInt ≤ 400 ∧ 0 ≤ (sv_8 : Int32).toInt ∧ (sv_8 : Int32).toInt ≤ 400 := pf_11
  have pf_12 : TpR (Tf 1) (Tv 0) (rNX (cB (Tf 1) (Tv 0)) (rNU (cB (Tf 1) (Tv 0)) (0 : Int) (99 : Int) rr)) sv_7 sv_8 sv_9 sv_10 := pf_12
  obtain ⟨ro_16, ero_16⟩ : ∃ z : Except Int (Nat × Nat), z = (rNX (cB (Tf 1) (Tv 0)) (rNU (cB (Tf 1) (Tv 0)) 0 99 rr)) := ⟨_, rfl⟩
  rw [← ero_16] at pf_12
  have tb_17 : TpB (rTE (cB (Tf 1) (Tv 0)) ro_16) sv_8 sv_10 := TpR.tb pf_12
  refine W.eq (g2 := F0 m 11 ls [.int r_13, .ref (Aa 0)]) rfl ?_
  replace hP : va_P D classes [((Wa 0), .inr (0, [.ref (Aa 0)])), ((Aa 0), .inr (9, [.int (Av 0), .int (Av 1), .int (Av 2), .int (Av 3), .int (Av 4), .int (Av 5), .ref (Aa 1), .ref (Aa 2), .ref (Aa 3), .ref (Aa 4), .ref (Aa 5), .ref (Aa 6), .ref (Aa 7), .ref (Aa 8)])), ((Aa 1), .inl (tc 0, 10, .inl (Af 1))), ((Aa 2), .inl (tc 0, 10, .inl (Af 2))), ((Aa 3), .inl (tc 0, 6, .inl (Af 3))), ((Aa 4), .inl (tc 0, 6, .inl (Af 4))), ((Aa 5), .inl (tc 0, 6, .inl (Af 5))), ((Aa 6), .inl (tc 0, 6, .inl (Af 6))), ((Aa 7), .inl (tc 0, 6, .inl (Af 7))), ((Aa 8), .inl (tc 0, 6, .inl (Af 8))), ((Ta 0), .inr (10, [.ref (Ta 1), .int (Tv 0), .int sv_7, .int sv_8, .int sv_9, .int sv_10])), ((Ta 1), .inl (tc 0, 400, .inl (Tf 1)))] H := hP₀
  replace hD : va_D A [((Wa 0), .inr (0, [.ref (Aa 0)])), ((Aa 0), .inr (9, [.int (Av 0), .int (Av 1), .int (Av 2), .int (Av 3), .int (Av 4), .int (Av 5), .ref (Aa 1), .ref (Aa 2), .ref (Aa 3), .ref (Aa 4), .ref (Aa 5), .ref (Aa 6), .ref (Aa 7), .ref (Aa 8)])), ((Aa 1), .inl (tc 0, 10, .inl (Af 1))), ((Aa 2), .inl (tc 0, 10, .inl (Af 2))), ((Aa 3), .inl (tc 0, 6, .inl (Af 3))), ((Aa 4), .inl (tc 0, 6, .inl (Af 4))), ((Aa 5), .inl (tc 0, 6, .inl (Af 5))), ((Aa 6), .inl (tc 0, 6, .inl (Af 6))), ((Aa 7), .inl (tc 0, 6, .inl (Af 7))), ((Aa 8), .inl (tc 0, 6, .inl (Af 8))), ((Ta 0), .inr (10, [.ref (Ta 1), .int (Tv 0), .int sv_7, .int sv_8, .int sv_9, .int sv_10])), ((Ta 1), .inl (tc 0, 400, .inl (Tf 1)))] := hD₀
  replace hS := hS₀
  clear hP₀ hD₀ hS₀
  refine pf_X0_74 hx hb hts hown hK hP hD hS 1 rfl (Nat.le_of_ble_eq_true rfl) rfl rfl dX0_readBook_11 (fun H locs hP₀ hD₀ hS₀ => ?_)
  replace hP : va_P D classes [((Wa 0), .inr (0, [.ref (Aa 0)])), ((Aa 0), .inr (9, [.int r_13, .int (Av 1), .int (Av 2), .int (Av 3), .int (Av 4), .int (Av 5), .ref (Aa 1), .ref (Aa 2), .ref (Aa 3), .ref (Aa 4), .ref (Aa 5), .ref (Aa 6), .ref (Aa 7), .ref (Aa 8)])), ((Aa 1), .inl (tc 0, 10, .inl (Af 1))), ((Aa 2), .inl (tc 0, 10, .inl (Af 2))), ((Aa 3), .inl (tc 0, 6, .inl (Af 3))), ((Aa 4), .inl (tc 0, 6, .inl (Af 4))), ((Aa 5), .inl (tc 0, 6, .inl (Af 5))), ((Aa 6), .inl (tc 0, 6, .inl (Af 6))), ((Aa 7), .inl (tc 0, 6, .inl (Af 7))), ((Aa 8), .inl (tc 0, 6, .inl (Af 8))), ((Ta 0), .inr (10, [.ref (Ta 1), .int (Tv 0), .int sv_7, .int sv_8, .int sv_9, .int sv_10])), ((Ta 1), .inl (tc 0, 400, .inl (Tf 1)))] H := hP₀
  replace hD : va_D A [((Wa 0), .inr (0, [.ref (Aa 0)])), ((Aa 0), .inr (9, [.int r_13, .int (Av 1), .int (Av 2), .int (Av 3), .int (Av 4), .int (Av 5), .ref (Aa 1), .ref (Aa 2), .ref (Aa 3), .ref (Aa 4), .ref (Aa 5), .ref (Aa 6), .ref (Aa 7), .ref (Aa 8)])), ((Aa 1), .inl (tc 0, 10, .inl (Af 1))), ((Aa 2), .inl (tc 0, 10, .inl (Af 2))), ((Aa 3), .inl (tc 0, 6, .inl (Af 3))), ((Aa 4), .inl (tc 0, 6, .inl (Af 4))), ((Aa 5), .inl (tc 0, 6, .inl (Af 5))), ((Aa 6), .inl (tc 0, 6, .inl (Af 6))), ((Aa 7), .inl (tc 0, 6, .inl (Af 7))), ((Aa 8), .inl (tc 0, 6, .inl (Af 8))), ((Ta 0), .inr (10, [.ref (Ta 1), .int (Tv 0), .int sv_7, .int sv_8, .int sv_9, .int sv_10])), ((Ta 1), .inl (tc 0, 400, .inl (Tf 1)))] := hD₀
  replace hS := hS₀
  clear hP₀ hD₀ hS₀
  refine lv_aload_n hx hb dX0_readBook_14 rfl (lv_at hl 0 rfl) ?_
  refine gf_X0_12 hx hb hts hown hK hP 0 rfl rfl dX0_readBook_15 ?_
  refine lv_aload_n hx hb dX0_readBook_18 rfl (lv_at hl 1 rfl) ?_
  refine lv_iconst (v := 0) hx hb dX0_readBook_19 (by decide) ?_
  refine lv_bipush (v := 9) hx hb dX0_readBook_20 (by decide) ?_
  have ha_18 : (0 : Int32).toInt = (0 : Int) := by
    have y_0 : (0 : Int32).toInt = 0 := by decide
    omega
  have ha_19 : (9 : Int32).toInt = (9 : Int) := by
    have y_9 : (9 : Int32).toInt = 9 := by decide
    omega
  refine cV (a := (Ta 0)) (As := [.int 0, .int 9]) (rest := [.ref (Aa 0)]) (wr := [((Wa 0), .inr (0, [.ref (Aa 0)])), ((Aa 0), .inr (9, [.int r_13, .int (Av 1), .int (Av 2), .int (Av 3), .int (Av 4), .int (Av 5), .ref (Aa 1), .ref (Aa 2), .ref (Aa 3), .ref (Aa 4), .ref (Aa 5), .ref (Aa 6), .ref (Aa 7), .ref (Aa 8)])), ((Aa 1), .inl (tc 0, 10, .inl (Af 1))), ((Aa 2), .inl (tc 0, 10, .inl (Af 2))), ((Aa 3), .inl (tc 0, 6, .inl (Af 3))), ((Aa 4), .inl (tc 0, 6, .inl (Af 4))), ((Aa 5), .inl (tc 0, 6, .inl (Af 5))), ((Aa 6), .inl (tc 0, 6, .inl (Af 6))), ((Aa 7), .inl (tc 0, 6, .inl (Af 7))), ((Aa 8), .inl (tc 0, 6, .inl (Af 8)))]) ⟨hx, hb, hml, hown, hts⟩ hK hX hA (cu_fX10_takeNumber l D tc sk (Ta 0) (Ta 1) (Tv 0) sv_7 sv_8 sv_9 sv_10 (Tf 1) 0 9 ro_16 0 9 pf_11 h_by pf_12 ha_18 ha_19) k_566 k_563 k_564 k_565 k_96 pl_X10_takeNumber ⟨Nat.le_of_ble_eq_true rfl, Nat.le_of_ble_eq_true rfl⟩ rfl rfl (va_recv hK hP (ci := 10) (q0 := 10) rfl rfl) hP hD hS [10, 11] [0, 1, 2, 3, 4, 5, 6, 7, 8, 9] rfl rfl rfl rfl rfl (by decide) rfl hl.1 rfl (Nat.le_of_ble_eq_true rfl) dX0_readBook_22 ⟨Nat.le_of_ble_eq_true rfl, Nat.le_of_ble_eq_true rfl⟩ (fun v_20 u_21 H locs hv_22 hP₀ hD₀ hS₀ => ?_)
  obtain ⟨sv_23, sv_24, sv_25, sv_26⟩ := u_21
  obtain ⟨r_29, rfl, he_30, pf_27, pf_28⟩ := hv_22
  have he_30 : NuV (cB (Tf 1) (Tv 0)) (0 : Int) (9 : Int) ro_16 r_29 := he_30
  have pf_27 : 0 ≤ ((Tv 0) : Int32).toInt ∧ ((Tv 0) : Int32).toInt ≤ 400 ∧ 0 ≤ (sv_23 : Int32).toInt ∧ (sv_23 : Int32).toInt ≤ 400 ∧ 0 ≤ (sv_24 : Int32).toInt ∧ (sv_24 : Int32).toInt ≤ 400 := pf_27
  have pf_28 : TpR (Tf 1) (Tv 0) (rNX (cB (Tf 1) (Tv 0)) (rNU (cB (Tf 1) (Tv 0)) (0 : Int) (9 : Int) ro_16)) sv_23 sv_24 sv_25 sv_26 := pf_28
  obtain ⟨ro_32, ero_32⟩ : ∃ z : Except Int (Nat × Nat), z = (rNX (cB (Tf 1) (Tv 0)) (rNU (cB (Tf 1) (Tv 0)) 0 9 ro_16)) := ⟨_, rfl⟩
  rw [← ero_32] at pf_28
  have tb_33 : TpB (rTE (cB (Tf 1) (Tv 0)) ro_32) sv_24 sv_26 := TpR.tb pf_28
  refine W.eq (g2 := F0 m 25 ls [.int r_29, .ref (Aa 0)]) rfl ?_
  replace hP : va_P D classes [((Wa 0), .inr (0, [.ref (Aa 0)])), ((Aa 0), .inr (9, [.int r_13, .int (Av 1), .int (Av 2), .int (Av 3), .int (Av 4), .int (Av 5), .ref (Aa 1), .ref (Aa 2), .ref (Aa 3), .ref (Aa 4), .ref (Aa 5), .ref (Aa 6), .ref (Aa 7), .ref (Aa 8)])), ((Aa 1), .inl (tc 0, 10, .inl (Af 1))), ((Aa 2), .inl (tc 0, 10, .inl (Af 2))), ((Aa 3), .inl (tc 0, 6, .inl (Af 3))), ((Aa 4), .inl (tc 0, 6, .inl (Af 4))), ((Aa 5), .inl (tc 0, 6, .inl (Af 5))), ((Aa 6), .inl (tc 0, 6, .inl (Af 6))), ((Aa 7), .inl (tc 0, 6, .inl (Af 7))), ((Aa 8), .inl (tc 0, 6, .inl (Af 8))), ((Ta 0), .inr (10, [.ref (Ta 1), .int (Tv 0), .int sv_23, .int sv_24, .int sv_25, .int sv_26])), ((Ta 1), .inl (tc 0, 400, .inl (Tf 1)))] H := hP₀
  replace hD : va_D A [((Wa 0), .inr (0, [.ref (Aa 0)])), ((Aa 0), .inr (9, [.int r_13, .int (Av 1), .int (Av 2), .int (Av 3), .int (Av 4), .int (Av 5), .ref (Aa 1), .ref (Aa 2), .ref (Aa 3), .ref (Aa 4), .ref (Aa 5), .ref (Aa 6), .ref (Aa 7), .ref (Aa 8)])), ((Aa 1), .inl (tc 0, 10, .inl (Af 1))), ((Aa 2), .inl (tc 0, 10, .inl (Af 2))), ((Aa 3), .inl (tc 0, 6, .inl (Af 3))), ((Aa 4), .inl (tc 0, 6, .inl (Af 4))), ((Aa 5), .inl (tc 0, 6, .inl (Af 5))), ((Aa 6), .inl (tc 0, 6, .inl (Af 6))), ((Aa 7), .inl (tc 0, 6, .inl (Af 7))), ((Aa 8), .inl (tc 0, 6, .inl (Af 8))), ((Ta 0), .inr (10, [.ref (Ta 1), .int (Tv 0), .int sv_23, .int sv_24, .int sv_25, .int sv_26])), ((Ta 1), .inl (tc 0, 400, .inl (Tf 1)))] := hD₀
  replace hS := hS₀
  clear hP₀ hD₀ hS₀
  refine pf_X0_77 hx hb hts hown hK hP hD hS 1 rfl (Nat.le_of_ble_eq_true rfl) rfl rfl dX0_readBook_25 (fun H locs hP₀ hD₀ hS₀ => ?_)
  replace hP : va_P D classes [((Wa 0), .inr (0, [.ref (Aa 0)])), ((Aa 0), .inr (9, [.int r_13, .int r_29, .int (Av 2), .int (Av 3), .int (Av 4), .int (Av 5), .ref (Aa 1), .ref (Aa 2), .ref (Aa 3), .ref (Aa 4), .ref (Aa 5), .ref (Aa 6), .ref (Aa 7), .ref (Aa 8)])), ((Aa 1), .inl (tc 0, 10, .inl (Af 1))), ((Aa 2), .inl (tc 0, 10, .inl (Af 2))), ((Aa 3), .inl (tc 0, 6, .inl (Af 3))), ((Aa 4), .inl (tc 0, 6, .inl (Af 4))), ((Aa 5), .inl (tc 0, 6, .inl (Af 5))), ((Aa 6), .inl (tc 0, 6, .inl (Af 6))), ((Aa 7), .inl (tc 0, 6, .inl (Af 7))), ((Aa 8), .inl (tc 0, 6, .inl (Af 8))), ((Ta 0), .inr (10, [.ref (Ta 1), .int (Tv 0), .int sv_23, .int sv_24, .int sv_25, .int sv_26])), ((Ta 1), .inl (tc 0, 400, .inl (Tf 1)))] H := hP₀
  replace hD : va_D A [((Wa 0), .inr (0, [.ref (Aa 0)])), ((Aa 0), .inr (9, [.int r_13, .int r_29, .int (Av 2), .int (Av 3), .int (Av 4), .int (Av 5), .ref (Aa 1), .ref (Aa 2), .ref (Aa 3), .ref (Aa 4), .ref (Aa 5), .ref (Aa 6), .ref (Aa 7), .ref (Aa 8)])), ((Aa 1), .inl (tc 0, 10, .inl (Af 1))), ((Aa 2), .inl (tc 0, 10, .inl (Af 2))), ((Aa 3), .inl (tc 0, 6, .inl (Af 3))), ((Aa 4), .inl (tc 0, 6, .inl (Af 4))), ((Aa 5), .inl (tc 0, 6, .inl (Af 5))), ((Aa 6), .inl (tc 0, 6, .inl (Af 6))), ((Aa 7), .inl (tc 0, 6, .inl (Af 7))), ((Aa 8), .inl (tc 0, 6, .inl (Af 8))), ((Ta 0), .inr (10, [.ref (Ta 1), .int (Tv 0), .int sv_23, .int sv_24, .int sv_25, .int sv_26])), ((Ta 1), .inl (tc 0, 400, .inl (Tf 1)))] := hD₀
  replace hS := hS₀
  clear hP₀ hD₀ hS₀
  refine lv_aload_n hx hb dX0_readBook_28 rfl (lv_at hl 0 rfl) ?_
  refine gf_X0_12 hx hb hts hown hK hP 0 rfl rfl dX0_readBook_29 ?_
  refine lv_aload_n hx hb dX0_readBook_32 rfl (lv_at hl 1 rfl) ?_
  refine lv_iconst (v := 1) hx hb dX0_readBook_33 (by decide) ?_
  refine lv_bipush (v := 10) hx hb dX0_readBook_34 (by decide) ?_
  have ha_34 : (1 : Int32).toInt = (1 : Int) := by
    have y_1 : (1 : Int32).toInt = 1 := by decide
    omega
  have ha_35 : (10 : Int32).toInt = (10 : Int) := by
    have y_10 : (10 : Int32).toInt = 10 := by decide
    omega
  refine cV (a := (Ta 0)) (As := [.int 1, .int 10]) (rest := [.ref (Aa 0)]) (wr := [((Wa 0), .inr (0, [.ref (Aa 0)])), ((Aa 0), .inr (9, [.int r_13, .int r_29, .int (Av 2), .int (Av 3), .int (Av 4), .int (Av 5), .ref (Aa 1), .ref (Aa 2), .ref (Aa 3), .ref (Aa 4), .ref (Aa 5), .ref (Aa 6), .ref (Aa 7), .ref (Aa 8)])), ((Aa 1), .inl (tc 0, 10, .inl (Af 1))), ((Aa 2), .inl (tc 0, 10, .inl (Af 2))), ((Aa 3), .inl (tc 0, 6, .inl (Af 3))), ((Aa 4), .inl (tc 0, 6, .inl (Af 4))), ((Aa 5), .inl (tc 0, 6, .inl (Af 5))), ((Aa 6), .inl (tc 0, 6, .inl (Af 6))), ((Aa 7), .inl (tc 0, 6, .inl (Af 7))), ((Aa 8), .inl (tc 0, 6, .inl (Af 8)))]) ⟨hx, hb, hml, hown, hts⟩ hK hX hA (cu_fX10_takeNumber l D tc sk (Ta 0) (Ta 1) (Tv 0) sv_23 sv_24 sv_25 sv_26 (Tf 1) 1 10 ro_32 1 10 pf_27 h_by pf_28 ha_34 ha_35) k_566 k_563 k_564 k_565 k_96 pl_X10_takeNumber ⟨Nat.le_of_ble_eq_true rfl, Nat.le_of_ble_eq_true rfl⟩ rfl rfl (va_recv hK hP (ci := 10) (q0 := 10) rfl rfl) hP hD hS [10, 11] [0, 1, 2, 3, 4, 5, 6, 7, 8, 9] rfl rfl rfl rfl rfl (by decide) rfl hl.1 rfl (Nat.le_of_ble_eq_true rfl) dX0_readBook_36 ⟨Nat.le_of_ble_eq_true rfl, Nat.le_of_ble_eq_true rfl⟩ (fun v_36 u_37 H locs hv_38 hP₀ hD₀ hS₀ => ?_)
  obtain ⟨sv_39, sv_40, sv_41, sv_42⟩ := u_37
  obtain ⟨r_45, rfl, he_46, pf_43, pf_44⟩ := hv_38
  have he_46 : NuV (cB (Tf 1) (Tv 0)) (1 : Int) (10 : Int) ro_32 r_45 := he_46
  have pf_43 : 0 ≤ ((Tv 0) : Int32).toInt ∧ ((Tv 0) : Int32).toInt ≤ 400 ∧ 0 ≤ (sv_39 : Int32).toInt ∧ (sv_39 : Int32).toInt ≤ 400 ∧ 0 ≤ (sv_40 : Int32).toInt ∧ (sv_40 : Int32).toInt ≤ 400 := pf_43
  have pf_44 : TpR (Tf 1) (Tv 0) (rNX (cB (Tf 1) (Tv 0)) (rNU (cB (Tf 1) (Tv 0)) (1 : Int) (10 : Int) ro_32)) sv_39 sv_40 sv_41 sv_42 := pf_44
  obtain ⟨ro_48, ero_48⟩ : ∃ z : Except Int (Nat × Nat), z = (rNX (cB (Tf 1) (Tv 0)) (rNU (cB (Tf 1) (Tv 0)) 1 10 ro_32)) := ⟨_, rfl⟩
  rw [← ero_48] at pf_44
  have tb_49 : TpB (rTE (cB (Tf 1) (Tv 0)) ro_48) sv_40 sv_42 := TpR.tb pf_44
  refine W.eq (g2 := F0 m 39 ls [.int r_45, .ref (Aa 0)]) rfl ?_
  replace hP : va_P D classes [((Wa 0), .inr (0, [.ref (Aa 0)])), ((Aa 0), .inr (9, [.int r_13, .int r_29, .int (Av 2), .int (Av 3), .int (Av 4), .int (Av 5), .ref (Aa 1), .ref (Aa 2), .ref (Aa 3), .ref (Aa 4), .ref (Aa 5), .ref (Aa 6), .ref (Aa 7), .ref (Aa 8)])), ((Aa 1), .inl (tc 0, 10, .inl (Af 1))), ((Aa 2), .inl (tc 0, 10, .inl (Af 2))), ((Aa 3), .inl (tc 0, 6, .inl (Af 3))), ((Aa 4), .inl (tc 0, 6, .inl (Af 4))), ((Aa 5), .inl (tc 0, 6, .inl (Af 5))), ((Aa 6), .inl (tc 0, 6, .inl (Af 6))), ((Aa 7), .inl (tc 0, 6, .inl (Af 7))), ((Aa 8), .inl (tc 0, 6, .inl (Af 8))), ((Ta 0), .inr (10, [.ref (Ta 1), .int (Tv 0), .int sv_39, .int sv_40, .int sv_41, .int sv_42])), ((Ta 1), .inl (tc 0, 400, .inl (Tf 1)))] H := hP₀
  replace hD : va_D A [((Wa 0), .inr (0, [.ref (Aa 0)])), ((Aa 0), .inr (9, [.int r_13, .int r_29, .int (Av 2), .int (Av 3), .int (Av 4), .int (Av 5), .ref (Aa 1), .ref (Aa 2), .ref (Aa 3), .ref (Aa 4), .ref (Aa 5), .ref (Aa 6), .ref (Aa 7), .ref (Aa 8)])), ((Aa 1), .inl (tc 0, 10, .inl (Af 1))), ((Aa 2), .inl (tc 0, 10, .inl (Af 2))), ((Aa 3), .inl (tc 0, 6, .inl (Af 3))), ((Aa 4), .inl (tc 0, 6, .inl (Af 4))), ((Aa 5), .inl (tc 0, 6, .inl (Af 5))), ((Aa 6), .inl (tc 0, 6, .inl (Af 6))), ((Aa 7), .inl (tc 0, 6, .inl (Af 7))), ((Aa 8), .inl (tc 0, 6, .inl (Af 8))), ((Ta 0), .inr (10, [.ref (Ta 1), .int (Tv 0), .int sv_39, .int sv_40, .int sv_41, .int sv_42])), ((Ta 1), .inl (tc 0, 400, .inl (Tf 1)))] := hD₀
  replace hS := hS₀
  clear hP₀ hD₀ hS₀
  refine pf_X0_80 hx hb hts hown hK hP hD hS 1 rfl (Nat.le_of_ble_eq_true rfl) rfl rfl dX0_readBook_39 (fun H locs hP₀ hD₀ hS₀ => ?_)
  replace hP : va_P D classes [((Wa 0), .inr (0, [.ref (Aa 0)])), ((Aa 0), .inr (9, [.int r_13, .int r_29, .int r_45, .int (Av 3), .int (Av 4), .int (Av 5), .ref (Aa 1), .ref (Aa 2), .ref (Aa 3), .ref (Aa 4), .ref (Aa 5), .ref (Aa 6), .ref (Aa 7), .ref (Aa 8)])), ((Aa 1), .inl (tc 0, 10, .inl (Af 1))), ((Aa 2), .inl (tc 0, 10, .inl (Af 2))), ((Aa 3), .inl (tc 0, 6, .inl (Af 3))), ((Aa 4), .inl (tc 0, 6, .inl (Af 4))), ((Aa 5), .inl (tc 0, 6, .inl (Af 5))), ((Aa 6), .inl (tc 0, 6, .inl (Af 6))), ((Aa 7), .inl (tc 0, 6, .inl (Af 7))), ((Aa 8), .inl (tc 0, 6, .inl (Af 8))), ((Ta 0), .inr (10, [.ref (Ta 1), .int (Tv 0), .int sv_39, .int sv_40, .int sv_41, .int sv_42])), ((Ta 1), .inl (tc 0, 400, .inl (Tf 1)))] H := hP₀
  replace hD : va_D A [((Wa 0), .inr (0, [.ref (Aa 0)])), ((Aa 0), .inr (9, [.int r_13, .int r_29, .int r_45, .int (Av 3), .int (Av 4), .int (Av 5), .ref (Aa 1), .ref (Aa 2), .ref (Aa 3), .ref (Aa 4), .ref (Aa 5), .ref (Aa 6), .ref (Aa 7), .ref (Aa 8)])), ((Aa 1), .inl (tc 0, 10, .inl (Af 1))), ((Aa 2), .inl (tc 0, 10, .inl (Af 2))), ((Aa 3), .inl (tc 0, 6, .inl (Af 3))), ((Aa 4), .inl (tc 0, 6, .inl (Af 4))), ((Aa 5), .inl (tc 0, 6, .inl (Af 5))), ((Aa 6), .inl (tc 0, 6, .inl (Af 6))), ((Aa 7), .inl (tc 0, 6, .inl (Af 7))), ((Aa 8), .inl (tc 0, 6, .inl (Af 8))), ((Ta 0), .inr (10, [.ref (Ta 1), .int (Tv 0), .int sv_39, .int sv_40, .int sv_41, .int sv_42])), ((Ta 1), .inl (tc 0, 400, .inl (Tf 1)))] := hD₀
  replace hS := hS₀
  clear hP₀ hD₀ hS₀
  have hu_50 : TpR (Tf 1) (Tv 0) (rNX (cB (Tf 1) (Tv 0)) (rNU (cB (Tf 1) (Tv 0)) 1 10 (rNX (cB (Tf 1) (Tv 0)) (rNU (cB (Tf 1) (Tv 0)) 0 9 (rNX (cB (Tf 1) (Tv 0)) (rNU (cB (Tf 1) (Tv 0)) 0 99 rr)))))) sv_39 sv_40 sv_41 sv_42 := by
    rw [← ero_16, ← ero_32, ← ero_48]
    exact pf_44
  have hf_51 : TpR (Tf 1) (Tv 0) (rN1 (cB (Tf 1) (Tv 0)) 1 10 (rN1 (cB (Tf 1) (Tv 0)) 0 9 (rN1 (cB (Tf 1) (Tv 0)) 0 99 rr))) sv_39 sv_40 sv_41 sv_42 := hu_50
  have hv_52 : NuV (cB (Tf 1) (Tv 0)) 0 99 rr r_13 := by
    have hq := he_14
    exact hq
  have hv_53 : NuV (cB (Tf 1) (Tv 0)) 0 9 (rN1 (cB (Tf 1) (Tv 0)) 0 99 rr) r_29 := by
    have hq := he_30
    rw [ero_16] at hq
    exact hq
  have hv_54 : NuV (cB (Tf 1) (Tv 0)) 1 10 (rN1 (cB (Tf 1) (Tv 0)) 0 9 (rN1 (cB (Tf 1) (Tv 0)) 0 99 rr)) r_45 := by
    have hq := he_46
    rw [ero_32, ero_16] at hq
    exact hq
  have hs_55 : QsQ (qz_k0 (cB (Tf 1) (Tv 0)) C rr) r_13 r_29 r_45 (Av 3) (Av 4) (Av 5) (Af 1) (Af 2) (Af 3) (Af 4) (Af 5) (Af 6) (Af 7) (Af 8) := QsQ.b0 h_c hv_52 hv_53 hv_54
  exact retV hx hb hr hlk hP hD hS (r_13, r_29, r_45, sv_39, sv_40, sv_41, sv_42) ⟨rfl, pf_43, h_bu, hf_51, hs_55⟩ [0, 1, 2, 3, 4, 5, 6, 7, 8, 9, 10, 11] rfl rfl dX0_readBook_42 (Nat.le_of_ble_eq_true rfl) (Nat.le_of_ble_eq_true rfl) rfl
set_option maxRecDepth 100000 in
theorem cu_zX0_readBook (l : Launch) (D : va_G) (tc : Nat → ClassId) (sk : (Nat → Nat) × (Nat → Nat)) (Wa_0 : Nat) (Aa_0 : Nat) (Aa_1 : Nat) (Aa_2 : Nat) (Aa_3 : Nat) (Aa_4 : Nat) (Aa_5 : Nat) (Aa_6 : Nat) (Aa_7 : Nat) (Aa_8 : Nat) (Av_0 : Int32) (Av_1 : Int32) (Av_2 : Int32) (Av_3 : Int32) (Av_4 : Int32) (Av_5 : Int32) (Af_1 : Nat → Int32) (Af_2 : Nat → Int32) (Af_3 : Nat → Int32) (Af_4 : Nat → Int32) (Af_5 : Nat → Int32) (Af_6 : Nat → Int32) (Af_7 : Nat → Int32) (Af_8 : Nat → Int32) (Ta_0 : Nat) (Ta_1 : Nat) (Tv_0 : Int32) (Tv_1 : Int32) (Tv_2 : Int32) (Tv_3 : Int32) (Tv_4 : Int32) (Tf_1 : Nat → Int32) (rr : Except Int (Nat × Nat)) (C : Nat → Int) (h_tape : 0 ≤ (Tv_0 : Int32).toInt ∧ (Tv_0 : Int32).toInt ≤ 400 ∧ 0 ≤ (Tv_1 : Int32).toInt ∧ (Tv_1 : Int32).toInt ≤ 400 ∧ 0 ≤ (Tv_2 : Int32).toInt ∧ (Tv_2 : Int32).toInt ≤ 400) (h_by : Byt Tf_1) (h_r : TpR Tf_1 Tv_0 rr Tv_1 Tv_2 Tv_3 Tv_4) (h_bu : 0 ≤ (Av_3 : Int32).toInt ∧ (Av_3 : Int32).toInt ≤ 6) (h_c : QcI rr Av_0 Av_1 Av_2 Av_3 Av_4 Av_5 Af_1 Af_2 Af_3 Af_4 Af_5 Af_6 Af_7 Af_8 C) : Ct l yX0_readBook cX0_readBook 2 none { frames := 3, cells := 0, slots := 0, locals := 68 } D tc sk [.ref Wa_0, .ref Ta_0] [(Wa_0, .inr (0, [.ref Aa_0])), (Aa_0, .inr (9, [.int Av_0, .int Av_1, .int Av_2, .int Av_3, .int Av_4, .int Av_5, .ref Aa_1, .ref Aa_2, .ref Aa_3, .ref Aa_4, .ref Aa_5, .ref Aa_6, .ref Aa_7, .ref Aa_8])), (Aa_1, .inl (tc 0, 10, .inl Af_1)), (Aa_2, .inl (tc 0, 10, .inl Af_2)), (Aa_3, .inl (tc 0, 6, .inl Af_3)), (Aa_4, .inl (tc 0, 6, .inl Af_4)), (Aa_5, .inl (tc 0, 6, .inl Af_5)), (Aa_6, .inl (tc 0, 6, .inl Af_6)), (Aa_7, .inl (tc 0, 6, .inl Af_7)), (Aa_8, .inl (tc 0, 6, .inl Af_8)), (Ta_0, .inr (10, [.ref Ta_1, .int Tv_0, .int Tv_1, .int Tv_2, .int Tv_3, .int Tv_4])), (Ta_1, .inl (tc 0, 400, .inl Tf_1))] (fun (v : Option Value) (u : (Int32) × (Int32) × (Int32) × (Int32) × (Int32) × (Int32) × (Int32)) => match u with | (oo0x1, oo0x2, oo0x3, oo0x4, oo0x5, oo0x6, oo0x7) => v = none ∧ (0 ≤ (Tv_0 : Int32).toInt ∧ (Tv_0 : Int32).toInt ≤ 400 ∧ 0 ≤ (oo0x4 : Int32).toInt ∧ (oo0x4 : Int32).toInt ≤ 400 ∧ 0 ≤ (oo0x5 : Int32).toInt ∧ (oo0x5 : Int32).toInt ≤ 400) ∧ (0 ≤ (Av_3 : Int32).toInt ∧ (Av_3 : Int32).toInt ≤ 6) ∧ (TpR Tf_1 Tv_0 (rN1 (cB Tf_1 Tv_0) 1 10 (rN1 (cB Tf_1 Tv_0) 0 9 (rN1 (cB Tf_1 Tv_0) 0 99 rr))) oo0x4 oo0x5 oo0x6 oo0x7) ∧ (QsQ (qz_k0 (cB Tf_1 Tv_0) C rr) oo0x1 oo0x2 oo0x3 Av_3 Av_4 Av_5 Af_1 Af_2 Af_3 Af_4 Af_5 Af_6 Af_7 Af_8)) (fun (u : (Int32) × (Int32) × (Int32) × (Int32) × (Int32) × (Int32) × (Int32)) => match u with | (oo0x1, oo0x2, oo0x3, oo0x4, oo0x5, oo0x6, oo0x7) => [(Wa_0, .inr (0, [.ref Aa_0])), (Aa_0, .inr (9, [.int oo0x1, .int oo0x2, .int oo0x3, .int Av_3, .int Av_4, .int Av_5, .ref Aa_1, .ref Aa_2, .ref Aa_3, .ref Aa_4, .ref Aa_5, .ref Aa_6, .ref Aa_7, .ref Aa_8])), (Aa_1, .inl (tc 0, 10, .inl Af_1)), (Aa_2, .inl (tc 0, 10, .inl Af_2)), (Aa_3, .inl (tc 0, 6, .inl Af_3)), (Aa_4, .inl (tc 0, 6, .inl Af_4)), (Aa_5, .inl (tc 0, 6, .inl Af_5)), (Aa_6, .inl (tc 0, 6, .inl Af_6)), (Aa_7, .inl (tc 0, 6, .inl Af_7)), (Aa_8, .inl (tc 0, 6, .inl Af_8)), (Ta_0, .inr (10, [.ref Ta_1, .int Tv_0, .int oo0x4, .int oo0x5, .int oo0x6, .int oo0x7])), (Ta_1, .inl (tc 0, 400, .inl Tf_1))]) 0 0 :=
  ct_zX0_readBook l D tc sk (fun k => ([Wa_0] : List (Nat)).getD k 0) (fun k => ([Aa_0, Aa_1, Aa_2, Aa_3, Aa_4, Aa_5, Aa_6, Aa_7, Aa_8] : List (Nat)).getD k 0) (fun k => ([Av_0, Av_1, Av_2, Av_3, Av_4, Av_5] : List (Int32)).getD k 0) (fun k => ([(fun _ => 0), Af_1, Af_2, Af_3, Af_4, Af_5, Af_6, Af_7, Af_8] : List (Nat → Int32)).getD k (fun _ => 0)) (fun k => ([Ta_0, Ta_1] : List (Nat)).getD k 0) (fun k => ([Tv_0, Tv_1, Tv_2, Tv_3, Tv_4] : List (Int32)).getD k 0) (fun k => ([(fun _ => 0), Tf_1] : List (Nat → Int32)).getD k (fun _ => 0)) rr C h_tape h_by h_r h_bu h_c
set_option maxHeartbeats 4000000 in
set_option maxRecDepth 100000 in
theorem ct_zX0_readSky (l : Launch) (D : va_G) (tc : Nat → ClassId) (sk : (Nat → Nat) × (Nat → Nat)) (Wa : Nat → Nat) (Aa : Nat → Nat) (Av : Nat → Int32) (Af : Nat → Nat → Int32) (Ta : Nat → Nat) (Tv : Nat → Int32) (Tf : Nat → Nat → Int32) (rr : Except Int (Nat × Nat)) (C : Nat → Int) (h_tape : 0 ≤ ((Tv 0) : Int32).toInt ∧ ((Tv 0) : Int32).toInt ≤ 400 ∧ 0 ≤ ((Tv 1) : Int32).toInt ∧ ((Tv 1) : Int32).toInt ≤ 400 ∧ 0 ≤ ((Tv 2) : Int32).toInt ∧ ((Tv 2) : Int32).toInt ≤ 400) (h_by : Byt (Tf 1)) (h_r : TpR (Tf 1) (Tv 0) rr (Tv 1) (Tv 2) (Tv 3) (Tv 4)) (h_bu : 0 ≤ ((Av 3) : Int32).toInt ∧ ((Av 3) : Int32).toInt ≤ 6) (h_c : QcI rr (Av 0) (Av 1) (Av 2) (Av 3) (Av 4) (Av 5) (Af 1) (Af 2) (Af 3) (Af 4) (Af 5) (Af 6) (Af 7) (Af 8) C) : Ct l yX0_readSky cX0_readSky 4 none { frames := 3, cells := 0, slots := 0, locals := 68 } D tc sk [.ref (Wa 0), .ref (Ta 0)] [((Wa 0), .inr (0, [.ref (Aa 0)])), ((Aa 0), .inr (9, [.int (Av 0), .int (Av 1), .int (Av 2), .int (Av 3), .int (Av 4), .int (Av 5), .ref (Aa 1), .ref (Aa 2), .ref (Aa 3), .ref (Aa 4), .ref (Aa 5), .ref (Aa 6), .ref (Aa 7), .ref (Aa 8)])), ((Aa 1), .inl (tc 0, 10, .inl (Af 1))), ((Aa 2), .inl (tc 0, 10, .inl (Af 2))), ((Aa 3), .inl (tc 0, 6, .inl (Af 3))), ((Aa 4), .inl (tc 0, 6, .inl (Af 4))), ((Aa 5), .inl (tc 0, 6, .inl (Af 5))), ((Aa 6), .inl (tc 0, 6, .inl (Af 6))), ((Aa 7), .inl (tc 0, 6, .inl (Af 7))), ((Aa 8), .inl (tc 0, 6, .inl (Af 8))), ((Ta 0), .inr (10, [.ref (Ta 1), .int (Tv 0), .int (Tv 1), .int (Tv 2), .int (Tv 3), .int (Tv 4)])), ((Ta 1), .inl (tc 0, 400, .inl (Tf 1)))] (fun (v : Option Value) (u : (Nat → Int32) × (Int32) × (Int32) × (Int32) × (Int32)) => match u with | (oo0x1, oo0x2, oo0x3, oo0x4, oo0x5) => v = none ∧ (0 ≤ ((Tv 0) : Int32).toInt ∧ ((Tv 0) : Int32).toInt ≤ 400 ∧ 0 ≤ (oo0x2 : Int32).toInt ∧ (oo0x2 : Int32).toInt ≤ 400 ∧ 0 ≤ (oo0x3 : Int32).toInt ∧ (oo0x3 : Int32).toInt ≤ 400) ∧ (0 ≤ ((Av 3) : Int32).toInt ∧ ((Av 3) : Int32).toInt ≤ 6) ∧ (TpR (Tf 1) (Tv 0) (rN1 (cB (Tf 1) (Tv 0)) 0 9 (rN1 (cB (Tf 1) (Tv 0)) 0 ((Av 2) - 1 : Int32).toInt rr)) oo0x2 oo0x3 oo0x4 oo0x5) ∧ (QsQ (qz_k1 (cB (Tf 1) (Tv 0)) C rr) (Av 0) (Av 1) (Av 2) (Av 3) (Av 4) (Av 5) oo0x1 (Af 2) (Af 3) (Af 4) (Af 5) (Af 6) (Af 7) (Af 8))) (fun (u : (Nat → Int32) × (Int32) × (Int32) × (Int32) × (Int32)) => match u with | (oo0x1, oo0x2, oo0x3, oo0x4, oo0x5) => [((Wa 0), .inr (0, [.ref (Aa 0)])), ((Aa 0), .inr (9, [.int (Av 0), .int (Av 1), .int (Av 2), .int (Av 3), .int (Av 4), .int (Av 5), .ref (Aa 1), .ref (Aa 2), .ref (Aa 3), .ref (Aa 4), .ref (Aa 5), .ref (Aa 6), .ref (Aa 7), .ref (Aa 8)])), ((Aa 1), .inl (tc 0, 10, .inl oo0x1)), ((Aa 2), .inl (tc 0, 10, .inl (Af 2))), ((Aa 3), .inl (tc 0, 6, .inl (Af 3))), ((Aa 4), .inl (tc 0, 6, .inl (Af 4))), ((Aa 5), .inl (tc 0, 6, .inl (Af 5))), ((Aa 6), .inl (tc 0, 6, .inl (Af 6))), ((Aa 7), .inl (tc 0, 6, .inl (Af 7))), ((Aa 8), .inl (tc 0, 6, .inl (Af 8))), ((Ta 0), .inr (10, [.ref (Ta 1), .int (Tv 0), .int oo0x2, .int oo0x3, .int oo0x4, .int oo0x5])), ((Ta 1), .inl (tc 0, 400, .inl (Tf 1)))]) 0 0 := by
  refine Ct.start (by decide) (Nat.le_of_ble_eq_true rfl) (fun p e s m below meth c A ls hx hb hr hlk hin hml hown hts hK hX hP hD hA hl hS => ?_)
  have hl : lv_has ls 4 [(0, .ref (Wa 0)), (1, .ref (Ta 0))] := hl
  have tb_1 : TpB (rTE (cB (Tf 1) (Tv 0)) rr) (Tv 2) (Tv 4) := TpR.tb h_r
  refine lv_aload_n hx hb dX0_readSky_0 rfl (lv_at hl 1 rfl) ?_
  refine lv_iconst (v := 0) hx hb dX0_readSky_1 (by decide) ?_
  refine lv_aload_n hx hb dX0_readSky_2 rfl (lv_at hl 0 rfl) ?_
  refine gf_X0_12 hx hb hts hown hK hP 0 rfl rfl dX0_readSky_3 ?_
  refine gf_X0_80 hx hb hts hown hK hP 1 rfl rfl dX0_readSky_6 ?_
  refine lv_iconst (v := 1) hx hb dX0_readSky_9 (by decide) ?_
  refine lv_isub hx hb dX0_readSky_10 ?_
  refine lv_topi (fun x_2 ex_2 => ?_)
  have ha_3 : (0 : Int32).toInt = (0 : Int) := by
    have y_0 : (0 : Int32).toInt = 0 := by decide
    omega
  refine cV (a := (Ta 0)) (As := [.int 0, .int x_2]) (rest := []) (wr := [((Wa 0), .inr (0, [.ref (Aa 0)])), ((Aa 0), .inr (9, [.int (Av 0), .int (Av 1), .int (Av 2), .int (Av 3), .int (Av 4), .int (Av 5), .ref (Aa 1), .ref (Aa 2), .ref (Aa 3), .ref (Aa 4), .ref (Aa 5), .ref (Aa 6), .ref (Aa 7), .ref (Aa 8)])), ((Aa 1), .inl (tc 0, 10, .inl (Af 1))), ((Aa 2), .inl (tc 0, 10, .inl (Af 2))), ((Aa 3), .inl (tc 0, 6, .inl (Af 3))), ((Aa 4), .inl (tc 0, 6, .inl (Af 4))), ((Aa 5), .inl (tc 0, 6, .inl (Af 5))), ((Aa 6), .inl (tc 0, 6, .inl (Af 6))), ((Aa 7), .inl (tc 0, 6, .inl (Af 7))), ((Aa 8), .inl (tc 0, 6, .inl (Af 8)))]) ⟨hx, hb, hml, hown, hts⟩ hK hX hA (cu_fX10_takeNumber l D tc sk (Ta 0) (Ta 1) (Tv 0) (Tv 1) (Tv 2) (Tv 3) (Tv 4) (Tf 1) 0 x_2 rr 0 (((Av 2) - 1 : Int32).toInt) h_tape h_by h_r ha_3 (congrArg Int32.toInt ex_2)) k_566 k_563 k_564 k_565 k_96 pl_X10_takeNumber ⟨Nat.le_of_ble_eq_true rfl, Nat.le_of_ble_eq_true rfl⟩ rfl rfl (va_recv hK hP (ci := 10) (q0 := 10) rfl rfl) hP hD hS [10, 11] [0, 1, 2, 3, 4, 5, 6, 7, 8, 9] rfl rfl rfl rfl rfl (by decide) rfl hl.1 rfl (Nat.le_of_ble_eq_true rfl) dX0_readSky_11 ⟨Nat.le_of_ble_eq_true rfl, Nat.le_of_ble_eq_true rfl⟩ (fun v_4 u_5 H locs hv_6 hP₀ hD₀ hS₀ => ?_)
  obtain ⟨sv_7, sv_8, sv_9, sv_10⟩ := u_5
  obtain ⟨r_13, rfl, he_14, pf_11, pf_12⟩ := hv_6
  have he_14 : NuV (cB (Tf 1) (Tv 0)) (0 : Int) ((Av 2) - 1 : Int32).toInt rr r_13 := he_14
  have pf_11 : 0 ≤ ((Tv 0) : Int32).toInt ∧ ((Tv 0) : Int32).toInt ≤ 400 ∧ 0 ≤ (sv_7 : Int32).toInt ∧ (sv_7 : Int32).toInt ≤ 400 ∧ 0 ≤ (sv_8 : Int32).toInt ∧ (sv_8 : Int32).toInt ≤ 400 := pf_11
  have pf_12 : TpR (Tf 1) (Tv 0) (rNX (cB (Tf 1) (Tv 0)) (rNU (cB (Tf 1) (Tv 0)) (0 : Int) ((Av 2) - 1 : Int32).toInt rr)) sv_7 sv_8 sv_9 sv_10 := pf_12
  obtain ⟨ro_16, ero_16⟩ : ∃ z : Except Int (Nat × Nat), z = (rNX (cB (Tf 1) (Tv 0)) (rNU (cB (Tf 1) (Tv 0)) 0 ((Av 2) - 1 : Int32).toInt rr)) := ⟨_, rfl⟩
  rw [← ero_16] at pf_12
  have tb_17 : TpB (rTE (cB (Tf 1) (Tv 0)) ro_16) sv_8 sv_10 := TpR.tb pf_12
  refine W.eq (g2 := F0 m 14 ls [.int r_13]) rfl ?_
  replace hP : va_P D classes [((Wa 0), .inr (0, [.ref (Aa 0)])), ((Aa 0), .inr (9, [.int (Av 0), .int (Av 1), .int (Av 2), .int (Av 3), .int (Av 4), .int (Av 5), .ref (Aa 1), .ref (Aa 2), .ref (Aa 3), .ref (Aa 4), .ref (Aa 5), .ref (Aa 6), .ref (Aa 7), .ref (Aa 8)])), ((Aa 1), .inl (tc 0, 10, .inl (Af 1))), ((Aa 2), .inl (tc 0, 10, .inl (Af 2))), ((Aa 3), .inl (tc 0, 6, .inl (Af 3))), ((Aa 4), .inl (tc 0, 6, .inl (Af 4))), ((Aa 5), .inl (tc 0, 6, .inl (Af 5))), ((Aa 6), .inl (tc 0, 6, .inl (Af 6))), ((Aa 7), .inl (tc 0, 6, .inl (Af 7))), ((Aa 8), .inl (tc 0, 6, .inl (Af 8))), ((Ta 0), .inr (10, [.ref (Ta 1), .int (Tv 0), .int sv_7, .int sv_8, .int sv_9, .int sv_10])), ((Ta 1), .inl (tc 0, 400, .inl (Tf 1)))] H := hP₀
  replace hD : va_D A [((Wa 0), .inr (0, [.ref (Aa 0)])), ((Aa 0), .inr (9, [.int (Av 0), .int (Av 1), .int (Av 2), .int (Av 3), .int (Av 4), .int (Av 5), .ref (Aa 1), .ref (Aa 2), .ref (Aa 3), .ref (Aa 4), .ref (Aa 5), .ref (Aa 6), .ref (Aa 7), .ref (Aa 8)])), ((Aa 1), .inl (tc 0, 10, .inl (Af 1))), ((Aa 2), .inl (tc 0, 10, .inl (Af 2))), ((Aa 3), .inl (tc 0, 6, .inl (Af 3))), ((Aa 4), .inl (tc 0, 6, .inl (Af 4))), ((Aa 5), .inl (tc 0, 6, .inl (Af 5))), ((Aa 6), .inl (tc 0, 6, .inl (Af 6))), ((Aa 7), .inl (tc 0, 6, .inl (Af 7))), ((Aa 8), .inl (tc 0, 6, .inl (Af 8))), ((Ta 0), .inr (10, [.ref (Ta 1), .int (Tv 0), .int sv_7, .int sv_8, .int sv_9, .int sv_10])), ((Ta 1), .inl (tc 0, 400, .inl (Tf 1)))] := hD₀
  replace hS := hS₀
  clear hP₀ hD₀ hS₀
  refine lv_istore_n (lv' := [(2, .int r_13), (0, .ref (Wa 0)), (1, .ref (Ta 0))]) hx hb dX0_readSky_14 rfl hl (by decide) rfl (fun ls hl₀ => ?_)
  replace hl := hl₀
  clear hl₀
  refine lv_aload_n hx hb dX0_readSky_15 rfl (lv_at hl 2 rfl) ?_
  refine lv_iconst (v := 0) hx hb dX0_readSky_16 (by decide) ?_
  refine lv_bipush (v := 9) hx hb dX0_readSky_17 (by decide) ?_
  have ha_18 : (0 : Int32).toInt = (0 : Int) := by
    have y_0 : (0 : Int32).toInt = 0 := by decide
    omega
  have ha_19 : (9 : Int32).toInt = (9 : Int) := by
    have y_9 : (9 : Int32).toInt = 9 := by decide
    omega
  refine cV (a := (Ta 0)) (As := [.int 0, .int 9]) (rest := []) (wr := [((Wa 0), .inr (0, [.ref (Aa 0)])), ((Aa 0), .inr (9, [.int (Av 0), .int (Av 1), .int (Av 2), .int (Av 3), .int (Av 4), .int (Av 5), .ref (Aa 1), .ref (Aa 2), .ref (Aa 3), .ref (Aa 4), .ref (Aa 5), .ref (Aa 6), .ref (Aa 7), .ref (Aa 8)])), ((Aa 1), .inl (tc 0, 10, .inl (Af 1))), ((Aa 2), .inl (tc 0, 10, .inl (Af 2))), ((Aa 3), .inl (tc 0, 6, .inl (Af 3))), ((Aa 4), .inl (tc 0, 6, .inl (Af 4))), ((Aa 5), .inl (tc 0, 6, .inl (Af 5))), ((Aa 6), .inl (tc 0, 6, .inl (Af 6))), ((Aa 7), .inl (tc 0, 6, .inl (Af 7))), ((Aa 8), .inl (tc 0, 6, .inl (Af 8)))]) ⟨hx, hb, hml, hown, hts⟩ hK hX hA (cu_fX10_takeNumber l D tc sk (Ta 0) (Ta 1) (Tv 0) sv_7 sv_8 sv_9 sv_10 (Tf 1) 0 9 ro_16 0 9 pf_11 h_by pf_12 ha_18 ha_19) k_566 k_563 k_564 k_565 k_96 pl_X10_takeNumber ⟨Nat.le_of_ble_eq_true rfl, Nat.le_of_ble_eq_true rfl⟩ rfl rfl (va_recv hK hP (ci := 10) (q0 := 10) rfl rfl) hP hD hS [10, 11] [0, 1, 2, 3, 4, 5, 6, 7, 8, 9] rfl rfl rfl rfl rfl (by decide) rfl hl.1 rfl (Nat.le_of_ble_eq_true rfl) dX0_readSky_19 ⟨Nat.le_of_ble_eq_true rfl, Nat.le_of_ble_eq_true rfl⟩ (fun v_20 u_21 H locs hv_22 hP₀ hD₀ hS₀ => ?_)
  obtain ⟨sv_23, sv_24, sv_25, sv_26⟩ := u_21
  obtain ⟨r_29, rfl, he_30, pf_27, pf_28⟩ := hv_22
  have he_30 : NuV (cB (Tf 1) (Tv 0)) (0 : Int) (9 : Int) ro_16 r_29 := he_30
  have pf_27 : 0 ≤ ((Tv 0) : Int32).toInt ∧ ((Tv 0) : Int32).toInt ≤ 400 ∧ 0 ≤ (sv_23 : Int32).toInt ∧ (sv_23 : Int32).toInt ≤ 400 ∧ 0 ≤ (sv_24 : Int32).toInt ∧ (sv_24 : Int32).toInt ≤ 400 := pf_27
  have pf_28 : TpR (Tf 1) (Tv 0) (rNX (cB (Tf 1) (Tv 0)) (rNU (cB (Tf 1) (Tv 0)) (0 : Int) (9 : Int) ro_16)) sv_23 sv_24 sv_25 sv_26 := pf_28
  obtain ⟨ro_32, ero_32⟩ : ∃ z : Except Int (Nat × Nat), z = (rNX (cB (Tf 1) (Tv 0)) (rNU (cB (Tf 1) (Tv 0)) 0 9 ro_16)) := ⟨_, rfl⟩
  rw [← ero_32] at pf_28
  have tb_33 : TpB (rTE (cB (Tf 1) (Tv 0)) ro_32) sv_24 sv_26 := TpR.tb pf_28
  refine W.eq (g2 := F0 m 22 ls [.int r_29]) rfl ?_
  replace hP : va_P D classes [((Wa 0), .inr (0, [.ref (Aa 0)])), ((Aa 0), .inr (9, [.int (Av 0), .int (Av 1), .int (Av 2), .int (Av 3), .int (Av 4), .int (Av 5), .ref (Aa 1), .ref (Aa 2), .ref (Aa 3), .ref (Aa 4), .ref (Aa 5), .ref (Aa 6), .ref (Aa 7), .ref (Aa 8)])), ((Aa 1), .inl (tc 0, 10, .inl (Af 1))), ((Aa 2), .inl (tc 0, 10, .inl (Af 2))), ((Aa 3), .inl (tc 0, 6, .inl (Af 3))), ((Aa 4), .inl (tc 0, 6, .inl (Af 4))), ((Aa 5), .inl (tc 0, 6, .inl (Af 5))), ((Aa 6), .inl (tc 0, 6, .inl (Af 6))), ((Aa 7), .inl (tc 0, 6, .inl (Af 7))), ((Aa 8), .inl (tc 0, 6, .inl (Af 8))), ((Ta 0), .inr (10, [.ref (Ta 1), .int (Tv 0), .int sv_23, .int sv_24, .int sv_25, .int sv_26])), ((Ta 1), .inl (tc 0, 400, .inl (Tf 1)))] H := hP₀
  replace hD : va_D A [((Wa 0), .inr (0, [.ref (Aa 0)])), ((Aa 0), .inr (9, [.int (Av 0), .int (Av 1), .int (Av 2), .int (Av 3), .int (Av 4), .int (Av 5), .ref (Aa 1), .ref (Aa 2), .ref (Aa 3), .ref (Aa 4), .ref (Aa 5), .ref (Aa 6), .ref (Aa 7), .ref (Aa 8)])), ((Aa 1), .inl (tc 0, 10, .inl (Af 1))), ((Aa 2), .inl (tc 0, 10, .inl (Af 2))), ((Aa 3), .inl (tc 0, 6, .inl (Af 3))), ((Aa 4), .inl (tc 0, 6, .inl (Af 4))), ((Aa 5), .inl (tc 0, 6, .inl (Af 5))), ((Aa 6), .inl (tc 0, 6, .inl (Af 6))), ((Aa 7), .inl (tc 0, 6, .inl (Af 7))), ((Aa 8), .inl (tc 0, 6, .inl (Af 8))), ((Ta 0), .inr (10, [.ref (Ta 1), .int (Tv 0), .int sv_23, .int sv_24, .int sv_25, .int sv_26])), ((Ta 1), .inl (tc 0, 400, .inl (Tf 1)))] := hD₀
  replace hS := hS₀
  clear hP₀ hD₀ hS₀
  refine lv_istore_n (lv' := [(3, .int r_29), (2, .int r_13), (0, .ref (Wa 0)), (1, .ref (Ta 0))]) hx hb dX0_readSky_22 rfl hl (by decide) rfl (fun ls hl₀ => ?_)
  replace hl := hl₀
  clear hl₀
  refine lv_aload_n hx hb dX0_readSky_23 rfl (lv_at hl 2 rfl) ?_
  refine gf_X0_12 hx hb hts hown hK hP 0 rfl rfl dX0_readSky_24 ?_
  refine lv_iload_n hx hb dX0_readSky_27 rfl (lv_at hl 1 rfl) ?_
  refine cV (a := (Aa 0)) (As := [.int r_13]) (rest := []) (wr := [((Wa 0), .inr (0, [.ref (Aa 0)])), ((Ta 0), .inr (10, [.ref (Ta 1), .int (Tv 0), .int sv_23, .int sv_24, .int sv_25, .int sv_26])), ((Ta 1), .inl (tc 0, 400, .inl (Tf 1)))]) ⟨hx, hb, hml, hown, hts⟩ hK hX hA (cu_zX9_hasClock l D tc sk (Aa 0) (Aa 1) (Aa 2) (Aa 3) (Aa 4) (Aa 5) (Aa 6) (Aa 7) (Aa 8) (Av 0) (Av 1) (Av 2) (Av 3) (Av 4) (Av 5) (Af 1) (Af 2) (Af 3) (Af 4) (Af 5) (Af 6) (Af 7) (Af 8) r_13) k_579 k_576 k_577 k_578 k_98 pl_X9_hasClock ⟨Nat.le_of_ble_eq_true rfl, Nat.le_of_ble_eq_true rfl⟩ rfl rfl (va_recv hK hP (ci := 9) (q0 := 1) rfl rfl) hP hD hS [1, 2, 3, 4, 5, 6, 7, 8, 9] [0, 10, 11] rfl rfl rfl rfl rfl (by decide) rfl hl.1 rfl (Nat.le_of_ble_eq_true rfl) dX0_readSky_28 ⟨Nat.le_of_ble_eq_true rfl, Nat.le_of_ble_eq_true rfl⟩ (fun v_34 u_35 H locs hv_36 hP₀ hD₀ hS₀ => ?_)
  obtain ⟨r_37, rfl, he_38⟩ := hv_36
  have he_38 : ((r_37.toInt = 0 ∧ ¬ (0 ≤ r_13.toInt ∧ r_13.toInt < (Av 2).toInt ∧ r_13.toInt < 10)) ∨ (r_37.toInt = 1 ∧ (0 ≤ r_13.toInt ∧ r_13.toInt < (Av 2).toInt ∧ r_13.toInt < 10))) := he_38
  refine W.eq (g2 := F0 m 31 ls [.int r_37]) rfl ?_
  replace hP : va_P D classes [((Wa 0), .inr (0, [.ref (Aa 0)])), ((Ta 0), .inr (10, [.ref (Ta 1), .int (Tv 0), .int sv_23, .int sv_24, .int sv_25, .int sv_26])), ((Ta 1), .inl (tc 0, 400, .inl (Tf 1))), ((Aa 0), .inr (9, [.int (Av 0), .int (Av 1), .int (Av 2), .int (Av 3), .int (Av 4), .int (Av 5), .ref (Aa 1), .ref (Aa 2), .ref (Aa 3), .ref (Aa 4), .ref (Aa 5), .ref (Aa 6), .ref (Aa 7), .ref (Aa 8)])), ((Aa 1), .inl (tc 0, 10, .inl (Af 1))), ((Aa 2), .inl (tc 0, 10, .inl (Af 2))), ((Aa 3), .inl (tc 0, 6, .inl (Af 3))), ((Aa 4), .inl (tc 0, 6, .inl (Af 4))), ((Aa 5), .inl (tc 0, 6, .inl (Af 5))), ((Aa 6), .inl (tc 0, 6, .inl (Af 6))), ((Aa 7), .inl (tc 0, 6, .inl (Af 7))), ((Aa 8), .inl (tc 0, 6, .inl (Af 8)))] H := hP₀
  replace hD : va_D A [((Wa 0), .inr (0, [.ref (Aa 0)])), ((Ta 0), .inr (10, [.ref (Ta 1), .int (Tv 0), .int sv_23, .int sv_24, .int sv_25, .int sv_26])), ((Ta 1), .inl (tc 0, 400, .inl (Tf 1))), ((Aa 0), .inr (9, [.int (Av 0), .int (Av 1), .int (Av 2), .int (Av 3), .int (Av 4), .int (Av 5), .ref (Aa 1), .ref (Aa 2), .ref (Aa 3), .ref (Aa 4), .ref (Aa 5), .ref (Aa 6), .ref (Aa 7), .ref (Aa 8)])), ((Aa 1), .inl (tc 0, 10, .inl (Af 1))), ((Aa 2), .inl (tc 0, 10, .inl (Af 2))), ((Aa 3), .inl (tc 0, 6, .inl (Af 3))), ((Aa 4), .inl (tc 0, 6, .inl (Af 4))), ((Aa 5), .inl (tc 0, 6, .inl (Af 5))), ((Aa 6), .inl (tc 0, 6, .inl (Af 6))), ((Aa 7), .inl (tc 0, 6, .inl (Af 7))), ((Aa 8), .inl (tc 0, 6, .inl (Af 8)))] := hD₀
  replace hS := hS₀
  clear hP₀ hD₀ hS₀
  refine lv_if_eq (tgt := 44) hx hb dX0_readSky_31 (by decide) (fun c_40 => ?_) (fun c_40 => ?_)
  · skip
    have hu_41 : TpR (Tf 1) (Tv 0) (rNX (cB (Tf 1) (Tv 0)) (rNU (cB (Tf 1) (Tv 0)) 0 9 (rNX (cB (Tf 1) (Tv 0)) (rNU (cB (Tf 1) (Tv 0)) 0 ((Av 2) - 1 : Int32).toInt rr)))) sv_23 sv_24 sv_25 sv_26 := by
      rw [← ero_16, ← ero_32]
      exact pf_28
    have hf_42 : TpR (Tf 1) (Tv 0) (rN1 (cB (Tf 1) (Tv 0)) 0 9 (rN1 (cB (Tf 1) (Tv 0)) 0 ((Av 2) - 1 : Int32).toInt rr)) sv_23 sv_24 sv_25 sv_26 := hu_41
    have hv_43 : NuV (cB (Tf 1) (Tv 0)) 0 ((Av 2) - 1 : Int32).toInt rr r_13 := by
      have hq := he_14
      exact hq
    have hv_44 : NuV (cB (Tf 1) (Tv 0)) 0 9 (rN1 (cB (Tf 1) (Tv 0)) 0 ((Av 2) - 1 : Int32).toInt rr) r_29 := by
      have hq := he_30
      rw [ero_16] at hq
      exact hq
    have hr_46 : ¬ (0 ≤ (r_13 : Int32).toInt ∧ (r_13 : Int32).toInt < (Av 2).toInt ∧ (r_13 : Int32).toInt < 10) := by
      have z_1 := congrArg Int32.toInt c_40
      have y_0 : (0 : Int32).toInt = 0 := by decide
      omega
    have hs_45 : QsQ (qz_k1 (cB (Tf 1) (Tv 0)) C rr) (Av 0) (Av 1) (Av 2) (Av 3) (Av 4) (Av 5) (Af 1) (Af 2) (Af 3) (Af 4) (Af 5) (Af 6) (Af 7) (Af 8) := QsQ.n1 h_c hv_43 hr_46
    exact retV hx hb hr hlk hP hD hS ((Af 1), sv_23, sv_24, sv_25, sv_26) ⟨rfl, pf_27, h_bu, hf_42, hs_45⟩ [0, 3, 4, 5, 6, 7, 8, 9, 10, 11, 1, 2] rfl rfl dX0_readSky_44 (Nat.le_of_ble_eq_true rfl) (Nat.le_of_ble_eq_true rfl) rfl
  · skip
    refine lv_aload_n hx hb dX0_readSky_34 rfl (lv_at hl 2 rfl) ?_
    refine gf_X0_12 hx hb hts hown hK hP 0 rfl rfl dX0_readSky_35 ?_
    refine gf_X0_87 hx hb hts hown hK hP 3 rfl rfl dX0_readSky_38 ?_
    refine lv_iload_n hx hb dX0_readSky_41 rfl (lv_at hl 1 rfl) ?_
    refine lv_iload_n hx hb dX0_readSky_42 rfl (lv_at hl 0 rfl) ?_
    have hi_47 : vp_in r_13 10 := by
      have z_1 : ¬ (r_37 : Int32).toInt = (0 : Int32).toInt := fun z => c_40 (Int32.toInt_inj.mp z)
      have y_0 : (0 : Int32).toInt = 0 := by decide
      refine vp_in_iff.mpr ⟨?_, ?_⟩ <;> omega
    refine st_int hx hb hK hP hD hS 4 0 rfl rfl hi_47 dX0_readSky_43 (fun g_48 H locs eg_48 hP₀ hD₀ hS₀ => ?_)
    replace hP : va_P D classes [((Wa 0), .inr (0, [.ref (Aa 0)])), ((Ta 0), .inr (10, [.ref (Ta 1), .int (Tv 0), .int sv_23, .int sv_24, .int sv_25, .int sv_26])), ((Ta 1), .inl (tc 0, 400, .inl (Tf 1))), ((Aa 0), .inr (9, [.int (Av 0), .int (Av 1), .int (Av 2), .int (Av 3), .int (Av 4), .int (Av 5), .ref (Aa 1), .ref (Aa 2), .ref (Aa 3), .ref (Aa 4), .ref (Aa 5), .ref (Aa 6), .ref (Aa 7), .ref (Aa 8)])), ((Aa 1), .inl (tc 0, 10, .inl g_48)), ((Aa 2), .inl (tc 0, 10, .inl (Af 2))), ((Aa 3), .inl (tc 0, 6, .inl (Af 3))), ((Aa 4), .inl (tc 0, 6, .inl (Af 4))), ((Aa 5), .inl (tc 0, 6, .inl (Af 5))), ((Aa 6), .inl (tc 0, 6, .inl (Af 6))), ((Aa 7), .inl (tc 0, 6, .inl (Af 7))), ((Aa 8), .inl (tc 0, 6, .inl (Af 8)))] H := hP₀
    replace hD : va_D A [((Wa 0), .inr (0, [.ref (Aa 0)])), ((Ta 0), .inr (10, [.ref (Ta 1), .int (Tv 0), .int sv_23, .int sv_24, .int sv_25, .int sv_26])), ((Ta 1), .inl (tc 0, 400, .inl (Tf 1))), ((Aa 0), .inr (9, [.int (Av 0), .int (Av 1), .int (Av 2), .int (Av 3), .int (Av 4), .int (Av 5), .ref (Aa 1), .ref (Aa 2), .ref (Aa 3), .ref (Aa 4), .ref (Aa 5), .ref (Aa 6), .ref (Aa 7), .ref (Aa 8)])), ((Aa 1), .inl (tc 0, 10, .inl g_48)), ((Aa 2), .inl (tc 0, 10, .inl (Af 2))), ((Aa 3), .inl (tc 0, 6, .inl (Af 3))), ((Aa 4), .inl (tc 0, 6, .inl (Af 4))), ((Aa 5), .inl (tc 0, 6, .inl (Af 5))), ((Aa 6), .inl (tc 0, 6, .inl (Af 6))), ((Aa 7), .inl (tc 0, 6, .inl (Af 7))), ((Aa 8), .inl (tc 0, 6, .inl (Af 8)))] := hD₀
    replace hS := hS₀
    clear hP₀ hD₀ hS₀
    have hu_49 : TpR (Tf 1) (Tv 0) (rNX (cB (Tf 1) (Tv 0)) (rNU (cB (Tf 1) (Tv 0)) 0 9 (rNX (cB (Tf 1) (Tv 0)) (rNU (cB (Tf 1) (Tv 0)) 0 ((Av 2) - 1 : Int32).toInt rr)))) sv_23 sv_24 sv_25 sv_26 := by
      rw [← ero_16, ← ero_32]
      exact pf_28
    have hf_50 : TpR (Tf 1) (Tv 0) (rN1 (cB (Tf 1) (Tv 0)) 0 9 (rN1 (cB (Tf 1) (Tv 0)) 0 ((Av 2) - 1 : Int32).toInt rr)) sv_23 sv_24 sv_25 sv_26 := hu_49
    have hv_51 : NuV (cB (Tf 1) (Tv 0)) 0 ((Av 2) - 1 : Int32).toInt rr r_13 := by
      have hq := he_14
      exact hq
    have hv_52 : NuV (cB (Tf 1) (Tv 0)) 0 9 (rN1 (cB (Tf 1) (Tv 0)) 0 ((Av 2) - 1 : Int32).toInt rr) r_29 := by
      have hq := he_30
      rw [ero_16] at hq
      exact hq
    have hs_53 : QsQ (qz_k1 (cB (Tf 1) (Tv 0)) C rr) (Av 0) (Av 1) (Av 2) (Av 3) (Av 4) (Av 5) g_48 (Af 2) (Af 3) (Af 4) (Af 5) (Af 6) (Af 7) (Af 8) := QsQ.b1 h_c hv_51 hv_52 eg_48
    exact retV hx hb hr hlk hP hD hS (g_48, sv_23, sv_24, sv_25, sv_26) ⟨rfl, pf_27, h_bu, hf_50, hs_53⟩ [0, 3, 4, 5, 6, 7, 8, 9, 10, 11, 1, 2] rfl rfl dX0_readSky_44 (Nat.le_of_ble_eq_true rfl) (Nat.le_of_ble_eq_true rfl) rfl
set_option maxRecDepth 100000 in
theorem cu_zX0_readSky (l : Launch) (D : va_G) (tc : Nat → ClassId) (sk : (Nat → Nat) × (Nat → Nat)) (Wa_0 : Nat) (Aa_0 : Nat) (Aa_1 : Nat) (Aa_2 : Nat) (Aa_3 : Nat) (Aa_4 : Nat) (Aa_5 : Nat) (Aa_6 : Nat) (Aa_7 : Nat) (Aa_8 : Nat) (Av_0 : Int32) (Av_1 : Int32) (Av_2 : Int32) (Av_3 : Int32) (Av_4 : Int32) (Av_5 : Int32) (Af_1 : Nat → Int32) (Af_2 : Nat → Int32) (Af_3 : Nat → Int32) (Af_4 : Nat → Int32) (Af_5 : Nat → Int32) (Af_6 : Nat → Int32) (Af_7 : Nat → Int32) (Af_8 : Nat → Int32) (Ta_0 : Nat) (Ta_1 : Nat) (Tv_0 : Int32) (Tv_1 : Int32) (Tv_2 : Int32) (Tv_3 : Int32) (Tv_4 : Int32) (Tf_1 : Nat → Int32) (rr : Except Int (Nat × Nat)) (C : Nat → Int) (h_tape : 0 ≤ (Tv_0 : Int32).toInt ∧ (Tv_0 : Int32).toInt ≤ 400 ∧ 0 ≤ (Tv_1 : Int32).toInt ∧ (Tv_1 : Int32).toInt ≤ 400 ∧ 0 ≤ (Tv_2 : Int32).toInt ∧ (Tv_2 : Int32).toInt ≤ 400) (h_by : Byt Tf_1) (h_r : TpR Tf_1 Tv_0 rr Tv_1 Tv_2 Tv_3 Tv_4) (h_bu : 0 ≤ (Av_3 : Int32).toInt ∧ (Av_3 : Int32).toInt ≤ 6) (h_c : QcI rr Av_0 Av_1 Av_2 Av_3 Av_4 Av_5 Af_1 Af_2 Af_3 Af_4 Af_5 Af_6 Af_7 Af_8 C) : Ct l yX0_readSky cX0_readSky 4 none { frames := 3, cells := 0, slots := 0, locals := 68 } D tc sk [.ref Wa_0, .ref Ta_0] [(Wa_0, .inr (0, [.ref Aa_0])), (Aa_0, .inr (9, [.int Av_0, .int Av_1, .int Av_2, .int Av_3, .int Av_4, .int Av_5, .ref Aa_1, .ref Aa_2, .ref Aa_3, .ref Aa_4, .ref Aa_5, .ref Aa_6, .ref Aa_7, .ref Aa_8])), (Aa_1, .inl (tc 0, 10, .inl Af_1)), (Aa_2, .inl (tc 0, 10, .inl Af_2)), (Aa_3, .inl (tc 0, 6, .inl Af_3)), (Aa_4, .inl (tc 0, 6, .inl Af_4)), (Aa_5, .inl (tc 0, 6, .inl Af_5)), (Aa_6, .inl (tc 0, 6, .inl Af_6)), (Aa_7, .inl (tc 0, 6, .inl Af_7)), (Aa_8, .inl (tc 0, 6, .inl Af_8)), (Ta_0, .inr (10, [.ref Ta_1, .int Tv_0, .int Tv_1, .int Tv_2, .int Tv_3, .int Tv_4])), (Ta_1, .inl (tc 0, 400, .inl Tf_1))] (fun (v : Option Value) (u : (Nat → Int32) × (Int32) × (Int32) × (Int32) × (Int32)) => match u with | (oo0x1, oo0x2, oo0x3, oo0x4, oo0x5) => v = none ∧ (0 ≤ (Tv_0 : Int32).toInt ∧ (Tv_0 : Int32).toInt ≤ 400 ∧ 0 ≤ (oo0x2 : Int32).toInt ∧ (oo0x2 : Int32).toInt ≤ 400 ∧ 0 ≤ (oo0x3 : Int32).toInt ∧ (oo0x3 : Int32).toInt ≤ 400) ∧ (0 ≤ (Av_3 : Int32).toInt ∧ (Av_3 : Int32).toInt ≤ 6) ∧ (TpR Tf_1 Tv_0 (rN1 (cB Tf_1 Tv_0) 0 9 (rN1 (cB Tf_1 Tv_0) 0 (Av_2 - 1 : Int32).toInt rr)) oo0x2 oo0x3 oo0x4 oo0x5) ∧ (QsQ (qz_k1 (cB Tf_1 Tv_0) C rr) Av_0 Av_1 Av_2 Av_3 Av_4 Av_5 oo0x1 Af_2 Af_3 Af_4 Af_5 Af_6 Af_7 Af_8)) (fun (u : (Nat → Int32) × (Int32) × (Int32) × (Int32) × (Int32)) => match u with | (oo0x1, oo0x2, oo0x3, oo0x4, oo0x5) => [(Wa_0, .inr (0, [.ref Aa_0])), (Aa_0, .inr (9, [.int Av_0, .int Av_1, .int Av_2, .int Av_3, .int Av_4, .int Av_5, .ref Aa_1, .ref Aa_2, .ref Aa_3, .ref Aa_4, .ref Aa_5, .ref Aa_6, .ref Aa_7, .ref Aa_8])), (Aa_1, .inl (tc 0, 10, .inl oo0x1)), (Aa_2, .inl (tc 0, 10, .inl Af_2)), (Aa_3, .inl (tc 0, 6, .inl Af_3)), (Aa_4, .inl (tc 0, 6, .inl Af_4)), (Aa_5, .inl (tc 0, 6, .inl Af_5)), (Aa_6, .inl (tc 0, 6, .inl Af_6)), (Aa_7, .inl (tc 0, 6, .inl Af_7)), (Aa_8, .inl (tc 0, 6, .inl Af_8)), (Ta_0, .inr (10, [.ref Ta_1, .int Tv_0, .int oo0x2, .int oo0x3, .int oo0x4, .int oo0x5])), (Ta_1, .inl (tc 0, 400, .inl Tf_1))]) 0 0 :=
  ct_zX0_readSky l D tc sk (fun k => ([Wa_0] : List (Nat)).getD k 0) (fun k => ([Aa_0, Aa_1, Aa_2, Aa_3, Aa_4, Aa_5, Aa_6, Aa_7, Aa_8] : List (Nat)).getD k 0) (fun k => ([Av_0, Av_1, Av_2, Av_3, Av_4, Av_5] : List (Int32)).getD k 0) (fun k => ([(fun _ => 0), Af_1, Af_2, Af_3, Af_4, Af_5, Af_6, Af_7, Af_8] : List (Nat → Int32)).getD k (fun _ => 0)) (fun k => ([Ta_0, Ta_1] : List (Nat)).getD k 0) (fun k => ([Tv_0, Tv_1, Tv_2, Tv_3, Tv_4] : List (Int32)).getD k 0) (fun k => ([(fun _ => 0), Tf_1] : List (Nat → Int32)).getD k (fun _ => 0)) rr C h_tape h_by h_r h_bu h_c
set_option maxHeartbeats 4000000 in
set_option maxRecDepth 100000 in
theorem ct_zX0_readBuyer (l : Launch) (D : va_G) (tc : Nat → ClassId) (sk : (Nat → Nat) × (Nat → Nat)) (Wa : Nat → Nat) (Aa : Nat → Nat) (Av : Nat → Int32) (Af : Nat → Nat → Int32) (Ta : Nat → Nat) (Tv : Nat → Int32) (Tf : Nat → Nat → Int32) (rr : Except Int (Nat × Nat)) (C : Nat → Int) (h_tape : 0 ≤ ((Tv 0) : Int32).toInt ∧ ((Tv 0) : Int32).toInt ≤ 400 ∧ 0 ≤ ((Tv 1) : Int32).toInt ∧ ((Tv 1) : Int32).toInt ≤ 400 ∧ 0 ≤ ((Tv 2) : Int32).toInt ∧ ((Tv 2) : Int32).toInt ≤ 400) (h_by : Byt (Tf 1)) (h_r : TpR (Tf 1) (Tv 0) rr (Tv 1) (Tv 2) (Tv 3) (Tv 4)) (h_b6 : 0 ≤ (Av 3).toInt ∧ (Av 3).toInt < 6) (h_c : QcI rr (Av 0) (Av 1) (Av 2) (Av 3) (Av 4) (Av 5) (Af 1) (Af 2) (Af 3) (Af 4) (Af 5) (Af 6) (Af 7) (Af 8) C) : Ct l yX0_readBuyer cX0_readBuyer 3 none { frames := 3, cells := 0, slots := 0, locals := 68 } D tc sk [.ref (Wa 0), .ref (Ta 0)] [((Wa 0), .inr (0, [.ref (Aa 0)])), ((Aa 0), .inr (9, [.int (Av 0), .int (Av 1), .int (Av 2), .int (Av 3), .int (Av 4), .int (Av 5), .ref (Aa 1), .ref (Aa 2), .ref (Aa 3), .ref (Aa 4), .ref (Aa 5), .ref (Aa 6), .ref (Aa 7), .ref (Aa 8)])), ((Aa 1), .inl (tc 0, 10, .inl (Af 1))), ((Aa 2), .inl (tc 0, 10, .inl (Af 2))), ((Aa 3), .inl (tc 0, 6, .inl (Af 3))), ((Aa 4), .inl (tc 0, 6, .inl (Af 4))), ((Aa 5), .inl (tc 0, 6, .inl (Af 5))), ((Aa 6), .inl (tc 0, 6, .inl (Af 6))), ((Aa 7), .inl (tc 0, 6, .inl (Af 7))), ((Aa 8), .inl (tc 0, 6, .inl (Af 8))), ((Ta 0), .inr (10, [.ref (Ta 1), .int (Tv 0), .int (Tv 1), .int (Tv 2), .int (Tv 3), .int (Tv 4)])), ((Ta 1), .inl (tc 0, 400, .inl (Tf 1)))] (fun (v : Option Value) (u : (Int32) × (Nat → Int32) × (Nat → Int32) × (Nat → Int32) × (Int32) × (Int32) × (Int32) × (Int32)) => match u with | (oo0x1, oo0x2, oo0x3, oo0x4, oo0x5, oo0x6, oo0x7, oo0x8) => v = none ∧ (0 ≤ ((Tv 0) : Int32).toInt ∧ ((Tv 0) : Int32).toInt ≤ 400 ∧ 0 ≤ (oo0x5 : Int32).toInt ∧ (oo0x5 : Int32).toInt ≤ 400 ∧ 0 ≤ (oo0x6 : Int32).toInt ∧ (oo0x6 : Int32).toInt ≤ 400) ∧ (0 ≤ (oo0x1 : Int32).toInt ∧ (oo0x1 : Int32).toInt ≤ 6) ∧ (TpR (Tf 1) (Tv 0) (rN1 (cB (Tf 1) (Tv 0)) 0 9 (rN1 (cB (Tf 1) (Tv 0)) 1 9 (rN1 (cB (Tf 1) (Tv 0)) 0 20 rr))) oo0x5 oo0x6 oo0x7 oo0x8) ∧ (QsQ (qz_k2 (cB (Tf 1) (Tv 0)) C rr) (Av 0) (Av 1) (Av 2) oo0x1 (Av 4) (Av 5) (Af 1) (Af 2) oo0x2 oo0x3 oo0x4 (Af 6) (Af 7) (Af 8))) (fun (u : (Int32) × (Nat → Int32) × (Nat → Int32) × (Nat → Int32) × (Int32) × (Int32) × (Int32) × (Int32)) => match u with | (oo0x1, oo0x2, oo0x3, oo0x4, oo0x5, oo0x6, oo0x7, oo0x8) => [((Wa 0), .inr (0, [.ref (Aa 0)])), ((Aa 0), .inr (9, [.int (Av 0), .int (Av 1), .int (Av 2), .int oo0x1, .int (Av 4), .int (Av 5), .ref (Aa 1), .ref (Aa 2), .ref (Aa 3), .ref (Aa 4), .ref (Aa 5), .ref (Aa 6), .ref (Aa 7), .ref (Aa 8)])), ((Aa 1), .inl (tc 0, 10, .inl (Af 1))), ((Aa 2), .inl (tc 0, 10, .inl (Af 2))), ((Aa 3), .inl (tc 0, 6, .inl oo0x2)), ((Aa 4), .inl (tc 0, 6, .inl oo0x3)), ((Aa 5), .inl (tc 0, 6, .inl oo0x4)), ((Aa 6), .inl (tc 0, 6, .inl (Af 6))), ((Aa 7), .inl (tc 0, 6, .inl (Af 7))), ((Aa 8), .inl (tc 0, 6, .inl (Af 8))), ((Ta 0), .inr (10, [.ref (Ta 1), .int (Tv 0), .int oo0x5, .int oo0x6, .int oo0x7, .int oo0x8])), ((Ta 1), .inl (tc 0, 400, .inl (Tf 1)))]) 0 0 := by
  refine Ct.start (by decide) (Nat.le_of_ble_eq_true rfl) (fun p e s m below meth c A ls hx hb hr hlk hin hml hown hts hK hX hP hD hA hl hS => ?_)
  have hl : lv_has ls 3 [(0, .ref (Wa 0)), (1, .ref (Ta 0))] := hl
  have tb_1 : TpB (rTE (cB (Tf 1) (Tv 0)) rr) (Tv 2) (Tv 4) := TpR.tb h_r
  refine lv_aload_n hx hb dX0_readBuyer_0 rfl (lv_at hl 0 rfl) ?_
  refine gf_X0_12 hx hb hts hown hK hP 0 rfl rfl dX0_readBuyer_1 ?_
  refine gf_X0_51 hx hb hts hown hK hP 1 rfl rfl dX0_readBuyer_4 ?_
  refine lv_istore_n (lv' := [(2, .int (Av 3)), (0, .ref (Wa 0)), (1, .ref (Ta 0))]) hx hb dX0_readBuyer_7 rfl hl (by decide) rfl (fun ls hl₀ => ?_)
  replace hl := hl₀
  clear hl₀
  refine lv_iload_n hx hb dX0_readBuyer_8 rfl (lv_at hl 0 rfl) ?_
  refine lv_if_lt (tgt := 18) hx hb dX0_readBuyer_9 (by decide) (fun c_2 => ?_) (fun c_2 => ?_)
  · skip
    exfalso
    have z_1 := Int32.lt_iff_toInt_lt.mp c_2
    have y_0 : (0 : Int32).toInt = 0 := by decide
    omega
  · skip
    refine lv_iload_n hx hb dX0_readBuyer_12 rfl (lv_at hl 0 rfl) ?_
    refine lv_bipush (v := 6) hx hb dX0_readBuyer_13 (by decide) ?_
    refine lv_icmp_lt (tgt := 19) hx hb dX0_readBuyer_15 (by decide) (fun c_3 => ?_) (fun c_3 => ?_)
    · skip
      refine lv_aload_n hx hb dX0_readBuyer_19 rfl (lv_at hl 1 rfl) ?_
      refine gf_X0_12 hx hb hts hown hK hP 0 rfl rfl dX0_readBuyer_20 ?_
      refine gf_X0_91 hx hb hts hown hK hP 1 rfl rfl dX0_readBuyer_23 ?_
      refine lv_iload_n hx hb dX0_readBuyer_26 rfl (lv_at hl 0 rfl) ?_
      refine lv_aload_n hx hb dX0_readBuyer_27 rfl (lv_at hl 2 rfl) ?_
      refine lv_iconst (v := 0) hx hb dX0_readBuyer_28 (by decide) ?_
      refine lv_bipush (v := 20) hx hb dX0_readBuyer_29 (by decide) ?_
      have ha_4 : (0 : Int32).toInt = (0 : Int) := by
        have z_1 := Int32.le_iff_toInt_le.mp (Int32.not_lt.mp c_2)
        have z_2 := Int32.lt_iff_toInt_lt.mp c_3
        have y_0 : (0 : Int32).toInt = 0 := by decide
        have y_6 : (6 : Int32).toInt = 6 := by decide
        omega
      have ha_5 : (20 : Int32).toInt = (20 : Int) := by
        have z_1 := Int32.le_iff_toInt_le.mp (Int32.not_lt.mp c_2)
        have z_2 := Int32.lt_iff_toInt_lt.mp c_3
        have y_0 : (0 : Int32).toInt = 0 := by decide
        have y_6 : (6 : Int32).toInt = 6 := by decide
        have y_20 : (20 : Int32).toInt = 20 := by decide
        omega
      refine cV (a := (Ta 0)) (As := [.int 0, .int 20]) (rest := [.int (Av 3), .ref (Aa 3)]) (wr := [((Wa 0), .inr (0, [.ref (Aa 0)])), ((Aa 0), .inr (9, [.int (Av 0), .int (Av 1), .int (Av 2), .int (Av 3), .int (Av 4), .int (Av 5), .ref (Aa 1), .ref (Aa 2), .ref (Aa 3), .ref (Aa 4), .ref (Aa 5), .ref (Aa 6), .ref (Aa 7), .ref (Aa 8)])), ((Aa 1), .inl (tc 0, 10, .inl (Af 1))), ((Aa 2), .inl (tc 0, 10, .inl (Af 2))), ((Aa 3), .inl (tc 0, 6, .inl (Af 3))), ((Aa 4), .inl (tc 0, 6, .inl (Af 4))), ((Aa 5), .inl (tc 0, 6, .inl (Af 5))), ((Aa 6), .inl (tc 0, 6, .inl (Af 6))), ((Aa 7), .inl (tc 0, 6, .inl (Af 7))), ((Aa 8), .inl (tc 0, 6, .inl (Af 8)))]) ⟨hx, hb, hml, hown, hts⟩ hK hX hA (cu_fX10_takeNumber l D tc sk (Ta 0) (Ta 1) (Tv 0) (Tv 1) (Tv 2) (Tv 3) (Tv 4) (Tf 1) 0 20 rr 0 20 h_tape h_by h_r ha_4 ha_5) k_566 k_563 k_564 k_565 k_96 pl_X10_takeNumber ⟨Nat.le_of_ble_eq_true rfl, Nat.le_of_ble_eq_true rfl⟩ rfl rfl (va_recv hK hP (ci := 10) (q0 := 10) rfl rfl) hP hD hS [10, 11] [0, 1, 2, 3, 4, 5, 6, 7, 8, 9] rfl rfl rfl rfl rfl (by decide) rfl hl.1 rfl (Nat.le_of_ble_eq_true rfl) dX0_readBuyer_31 ⟨Nat.le_of_ble_eq_true rfl, Nat.le_of_ble_eq_true rfl⟩ (fun v_6 u_7 H locs hv_8 hP₀ hD₀ hS₀ => ?_)
      obtain ⟨sv_9, sv_10, sv_11, sv_12⟩ := u_7
      obtain ⟨r_15, rfl, he_16, pf_13, pf_14⟩ := hv_8
      have he_16 : NuV (cB (Tf 1) (Tv 0)) (0 : Int) (20 : Int) rr r_15 := he_16
      have pf_13 : 0 ≤ ((Tv 0) : Int32).toInt ∧ ((Tv 0) : Int32).toInt ≤ 400 ∧ 0 ≤ (sv_9 : Int32).toInt ∧ (sv_9 : Int32).toInt ≤ 400 ∧ 0 ≤ (sv_10 : Int32).toInt ∧ (sv_10 : Int32).toInt ≤ 400 := pf_13
      have pf_14 : TpR (Tf 1) (Tv 0) (rNX (cB (Tf 1) (Tv 0)) (rNU (cB (Tf 1) (Tv 0)) (0 : Int) (20 : Int) rr)) sv_9 sv_10 sv_11 sv_12 := pf_14
      obtain ⟨ro_18, ero_18⟩ : ∃ z : Except Int (Nat × Nat), z = (rNX (cB (Tf 1) (Tv 0)) (rNU (cB (Tf 1) (Tv 0)) 0 20 rr)) := ⟨_, rfl⟩
      rw [← ero_18] at pf_14
      have tb_19 : TpB (rTE (cB (Tf 1) (Tv 0)) ro_18) sv_10 sv_12 := TpR.tb pf_14
      refine W.eq (g2 := F0 m 34 ls [.int r_15, .int (Av 3), .ref (Aa 3)]) rfl ?_
      replace hP : va_P D classes [((Wa 0), .inr (0, [.ref (Aa 0)])), ((Aa 0), .inr (9, [.int (Av 0), .int (Av 1), .int (Av 2), .int (Av 3), .int (Av 4), .int (Av 5), .ref (Aa 1), .ref (Aa 2), .ref (Aa 3), .ref (Aa 4), .ref (Aa 5), .ref (Aa 6), .ref (Aa 7), .ref (Aa 8)])), ((Aa 1), .inl (tc 0, 10, .inl (Af 1))), ((Aa 2), .inl (tc 0, 10, .inl (Af 2))), ((Aa 3), .inl (tc 0, 6, .inl (Af 3))), ((Aa 4), .inl (tc 0, 6, .inl (Af 4))), ((Aa 5), .inl (tc 0, 6, .inl (Af 5))), ((Aa 6), .inl (tc 0, 6, .inl (Af 6))), ((Aa 7), .inl (tc 0, 6, .inl (Af 7))), ((Aa 8), .inl (tc 0, 6, .inl (Af 8))), ((Ta 0), .inr (10, [.ref (Ta 1), .int (Tv 0), .int sv_9, .int sv_10, .int sv_11, .int sv_12])), ((Ta 1), .inl (tc 0, 400, .inl (Tf 1)))] H := hP₀
      replace hD : va_D A [((Wa 0), .inr (0, [.ref (Aa 0)])), ((Aa 0), .inr (9, [.int (Av 0), .int (Av 1), .int (Av 2), .int (Av 3), .int (Av 4), .int (Av 5), .ref (Aa 1), .ref (Aa 2), .ref (Aa 3), .ref (Aa 4), .ref (Aa 5), .ref (Aa 6), .ref (Aa 7), .ref (Aa 8)])), ((Aa 1), .inl (tc 0, 10, .inl (Af 1))), ((Aa 2), .inl (tc 0, 10, .inl (Af 2))), ((Aa 3), .inl (tc 0, 6, .inl (Af 3))), ((Aa 4), .inl (tc 0, 6, .inl (Af 4))), ((Aa 5), .inl (tc 0, 6, .inl (Af 5))), ((Aa 6), .inl (tc 0, 6, .inl (Af 6))), ((Aa 7), .inl (tc 0, 6, .inl (Af 7))), ((Aa 8), .inl (tc 0, 6, .inl (Af 8))), ((Ta 0), .inr (10, [.ref (Ta 1), .int (Tv 0), .int sv_9, .int sv_10, .int sv_11, .int sv_12])), ((Ta 1), .inl (tc 0, 400, .inl (Tf 1)))] := hD₀
      replace hS := hS₀
      clear hP₀ hD₀ hS₀
      have hi_20 : vp_in (Av 3) 6 := by
        have z_1 := Int32.le_iff_toInt_le.mp (Int32.not_lt.mp c_2)
        have z_2 := Int32.lt_iff_toInt_lt.mp c_3
        have y_0 : (0 : Int32).toInt = 0 := by decide
        have y_6 : (6 : Int32).toInt = 6 := by decide
        refine vp_in_iff.mpr ⟨?_, ?_⟩ <;> omega
      refine st_int hx hb hK hP hD hS 4 0 rfl rfl hi_20 dX0_readBuyer_34 (fun g_21 H locs eg_21 hP₀ hD₀ hS₀ => ?_)
      replace hP : va_P D classes [((Wa 0), .inr (0, [.ref (Aa 0)])), ((Aa 0), .inr (9, [.int (Av 0), .int (Av 1), .int (Av 2), .int (Av 3), .int (Av 4), .int (Av 5), .ref (Aa 1), .ref (Aa 2), .ref (Aa 3), .ref (Aa 4), .ref (Aa 5), .ref (Aa 6), .ref (Aa 7), .ref (Aa 8)])), ((Aa 1), .inl (tc 0, 10, .inl (Af 1))), ((Aa 2), .inl (tc 0, 10, .inl (Af 2))), ((Aa 3), .inl (tc 0, 6, .inl g_21)), ((Aa 4), .inl (tc 0, 6, .inl (Af 4))), ((Aa 5), .inl (tc 0, 6, .inl (Af 5))), ((Aa 6), .inl (tc 0, 6, .inl (Af 6))), ((Aa 7), .inl (tc 0, 6, .inl (Af 7))), ((Aa 8), .inl (tc 0, 6, .inl (Af 8))), ((Ta 0), .inr (10, [.ref (Ta 1), .int (Tv 0), .int sv_9, .int sv_10, .int sv_11, .int sv_12])), ((Ta 1), .inl (tc 0, 400, .inl (Tf 1)))] H := hP₀
      replace hD : va_D A [((Wa 0), .inr (0, [.ref (Aa 0)])), ((Aa 0), .inr (9, [.int (Av 0), .int (Av 1), .int (Av 2), .int (Av 3), .int (Av 4), .int (Av 5), .ref (Aa 1), .ref (Aa 2), .ref (Aa 3), .ref (Aa 4), .ref (Aa 5), .ref (Aa 6), .ref (Aa 7), .ref (Aa 8)])), ((Aa 1), .inl (tc 0, 10, .inl (Af 1))), ((Aa 2), .inl (tc 0, 10, .inl (Af 2))), ((Aa 3), .inl (tc 0, 6, .inl g_21)), ((Aa 4), .inl (tc 0, 6, .inl (Af 4))), ((Aa 5), .inl (tc 0, 6, .inl (Af 5))), ((Aa 6), .inl (tc 0, 6, .inl (Af 6))), ((Aa 7), .inl (tc 0, 6, .inl (Af 7))), ((Aa 8), .inl (tc 0, 6, .inl (Af 8))), ((Ta 0), .inr (10, [.ref (Ta 1), .int (Tv 0), .int sv_9, .int sv_10, .int sv_11, .int sv_12])), ((Ta 1), .inl (tc 0, 400, .inl (Tf 1)))] := hD₀
      replace hS := hS₀
      clear hP₀ hD₀ hS₀
      refine lv_aload_n hx hb dX0_readBuyer_35 rfl (lv_at hl 1 rfl) ?_
      refine gf_X0_12 hx hb hts hown hK hP 0 rfl rfl dX0_readBuyer_36 ?_
      refine gf_X0_94 hx hb hts hown hK hP 1 rfl rfl dX0_readBuyer_39 ?_
      refine lv_iload_n hx hb dX0_readBuyer_42 rfl (lv_at hl 0 rfl) ?_
      refine lv_aload_n hx hb dX0_readBuyer_43 rfl (lv_at hl 2 rfl) ?_
      refine lv_iconst (v := 1) hx hb dX0_readBuyer_44 (by decide) ?_
      refine lv_bipush (v := 9) hx hb dX0_readBuyer_45 (by decide) ?_
      have ha_22 : (1 : Int32).toInt = (1 : Int) := by
        have z_1 := Int32.le_iff_toInt_le.mp (Int32.not_lt.mp c_2)
        have z_2 := Int32.lt_iff_toInt_lt.mp c_3
        have y_0 : (0 : Int32).toInt = 0 := by decide
        have y_6 : (6 : Int32).toInt = 6 := by decide
        have y_1 : (1 : Int32).toInt = 1 := by decide
        omega
      have ha_23 : (9 : Int32).toInt = (9 : Int) := by
        have z_1 := Int32.le_iff_toInt_le.mp (Int32.not_lt.mp c_2)
        have z_2 := Int32.lt_iff_toInt_lt.mp c_3
        have y_0 : (0 : Int32).toInt = 0 := by decide
        have y_6 : (6 : Int32).toInt = 6 := by decide
        have y_9 : (9 : Int32).toInt = 9 := by decide
        omega
      refine cV (a := (Ta 0)) (As := [.int 1, .int 9]) (rest := [.int (Av 3), .ref (Aa 4)]) (wr := [((Wa 0), .inr (0, [.ref (Aa 0)])), ((Aa 0), .inr (9, [.int (Av 0), .int (Av 1), .int (Av 2), .int (Av 3), .int (Av 4), .int (Av 5), .ref (Aa 1), .ref (Aa 2), .ref (Aa 3), .ref (Aa 4), .ref (Aa 5), .ref (Aa 6), .ref (Aa 7), .ref (Aa 8)])), ((Aa 1), .inl (tc 0, 10, .inl (Af 1))), ((Aa 2), .inl (tc 0, 10, .inl (Af 2))), ((Aa 3), .inl (tc 0, 6, .inl g_21)), ((Aa 4), .inl (tc 0, 6, .inl (Af 4))), ((Aa 5), .inl (tc 0, 6, .inl (Af 5))), ((Aa 6), .inl (tc 0, 6, .inl (Af 6))), ((Aa 7), .inl (tc 0, 6, .inl (Af 7))), ((Aa 8), .inl (tc 0, 6, .inl (Af 8)))]) ⟨hx, hb, hml, hown, hts⟩ hK hX hA (cu_fX10_takeNumber l D tc sk (Ta 0) (Ta 1) (Tv 0) sv_9 sv_10 sv_11 sv_12 (Tf 1) 1 9 ro_18 1 9 pf_13 h_by pf_14 ha_22 ha_23) k_566 k_563 k_564 k_565 k_96 pl_X10_takeNumber ⟨Nat.le_of_ble_eq_true rfl, Nat.le_of_ble_eq_true rfl⟩ rfl rfl (va_recv hK hP (ci := 10) (q0 := 10) rfl rfl) hP hD hS [10, 11] [0, 1, 2, 3, 4, 5, 6, 7, 8, 9] rfl rfl rfl rfl rfl (by decide) rfl hl.1 rfl (Nat.le_of_ble_eq_true rfl) dX0_readBuyer_47 ⟨Nat.le_of_ble_eq_true rfl, Nat.le_of_ble_eq_true rfl⟩ (fun v_24 u_25 H locs hv_26 hP₀ hD₀ hS₀ => ?_)
      obtain ⟨sv_27, sv_28, sv_29, sv_30⟩ := u_25
      obtain ⟨r_33, rfl, he_34, pf_31, pf_32⟩ := hv_26
      have he_34 : NuV (cB (Tf 1) (Tv 0)) (1 : Int) (9 : Int) ro_18 r_33 := he_34
      have pf_31 : 0 ≤ ((Tv 0) : Int32).toInt ∧ ((Tv 0) : Int32).toInt ≤ 400 ∧ 0 ≤ (sv_27 : Int32).toInt ∧ (sv_27 : Int32).toInt ≤ 400 ∧ 0 ≤ (sv_28 : Int32).toInt ∧ (sv_28 : Int32).toInt ≤ 400 := pf_31
      have pf_32 : TpR (Tf 1) (Tv 0) (rNX (cB (Tf 1) (Tv 0)) (rNU (cB (Tf 1) (Tv 0)) (1 : Int) (9 : Int) ro_18)) sv_27 sv_28 sv_29 sv_30 := pf_32
      obtain ⟨ro_36, ero_36⟩ : ∃ z : Except Int (Nat × Nat), z = (rNX (cB (Tf 1) (Tv 0)) (rNU (cB (Tf 1) (Tv 0)) 1 9 ro_18)) := ⟨_, rfl⟩
      rw [← ero_36] at pf_32
      have tb_37 : TpB (rTE (cB (Tf 1) (Tv 0)) ro_36) sv_28 sv_30 := TpR.tb pf_32
      refine W.eq (g2 := F0 m 50 ls [.int r_33, .int (Av 3), .ref (Aa 4)]) rfl ?_
      replace hP : va_P D classes [((Wa 0), .inr (0, [.ref (Aa 0)])), ((Aa 0), .inr (9, [.int (Av 0), .int (Av 1), .int (Av 2), .int (Av 3), .int (Av 4), .int (Av 5), .ref (Aa 1), .ref (Aa 2), .ref (Aa 3), .ref (Aa 4), .ref (Aa 5), .ref (Aa 6), .ref (Aa 7), .ref (Aa 8)])), ((Aa 1), .inl (tc 0, 10, .inl (Af 1))), ((Aa 2), .inl (tc 0, 10, .inl (Af 2))), ((Aa 3), .inl (tc 0, 6, .inl g_21)), ((Aa 4), .inl (tc 0, 6, .inl (Af 4))), ((Aa 5), .inl (tc 0, 6, .inl (Af 5))), ((Aa 6), .inl (tc 0, 6, .inl (Af 6))), ((Aa 7), .inl (tc 0, 6, .inl (Af 7))), ((Aa 8), .inl (tc 0, 6, .inl (Af 8))), ((Ta 0), .inr (10, [.ref (Ta 1), .int (Tv 0), .int sv_27, .int sv_28, .int sv_29, .int sv_30])), ((Ta 1), .inl (tc 0, 400, .inl (Tf 1)))] H := hP₀
      replace hD : va_D A [((Wa 0), .inr (0, [.ref (Aa 0)])), ((Aa 0), .inr (9, [.int (Av 0), .int (Av 1), .int (Av 2), .int (Av 3), .int (Av 4), .int (Av 5), .ref (Aa 1), .ref (Aa 2), .ref (Aa 3), .ref (Aa 4), .ref (Aa 5), .ref (Aa 6), .ref (Aa 7), .ref (Aa 8)])), ((Aa 1), .inl (tc 0, 10, .inl (Af 1))), ((Aa 2), .inl (tc 0, 10, .inl (Af 2))), ((Aa 3), .inl (tc 0, 6, .inl g_21)), ((Aa 4), .inl (tc 0, 6, .inl (Af 4))), ((Aa 5), .inl (tc 0, 6, .inl (Af 5))), ((Aa 6), .inl (tc 0, 6, .inl (Af 6))), ((Aa 7), .inl (tc 0, 6, .inl (Af 7))), ((Aa 8), .inl (tc 0, 6, .inl (Af 8))), ((Ta 0), .inr (10, [.ref (Ta 1), .int (Tv 0), .int sv_27, .int sv_28, .int sv_29, .int sv_30])), ((Ta 1), .inl (tc 0, 400, .inl (Tf 1)))] := hD₀
      replace hS := hS₀
      clear hP₀ hD₀ hS₀
      have hi_38 : vp_in (Av 3) 6 := by
        have z_1 := Int32.le_iff_toInt_le.mp (Int32.not_lt.mp c_2)
        have z_2 := Int32.lt_iff_toInt_lt.mp c_3
        have y_0 : (0 : Int32).toInt = 0 := by decide
        have y_6 : (6 : Int32).toInt = 6 := by decide
        refine vp_in_iff.mpr ⟨?_, ?_⟩ <;> omega
      refine st_int hx hb hK hP hD hS 5 0 rfl rfl hi_38 dX0_readBuyer_50 (fun g_39 H locs eg_39 hP₀ hD₀ hS₀ => ?_)
      replace hP : va_P D classes [((Wa 0), .inr (0, [.ref (Aa 0)])), ((Aa 0), .inr (9, [.int (Av 0), .int (Av 1), .int (Av 2), .int (Av 3), .int (Av 4), .int (Av 5), .ref (Aa 1), .ref (Aa 2), .ref (Aa 3), .ref (Aa 4), .ref (Aa 5), .ref (Aa 6), .ref (Aa 7), .ref (Aa 8)])), ((Aa 1), .inl (tc 0, 10, .inl (Af 1))), ((Aa 2), .inl (tc 0, 10, .inl (Af 2))), ((Aa 3), .inl (tc 0, 6, .inl g_21)), ((Aa 4), .inl (tc 0, 6, .inl g_39)), ((Aa 5), .inl (tc 0, 6, .inl (Af 5))), ((Aa 6), .inl (tc 0, 6, .inl (Af 6))), ((Aa 7), .inl (tc 0, 6, .inl (Af 7))), ((Aa 8), .inl (tc 0, 6, .inl (Af 8))), ((Ta 0), .inr (10, [.ref (Ta 1), .int (Tv 0), .int sv_27, .int sv_28, .int sv_29, .int sv_30])), ((Ta 1), .inl (tc 0, 400, .inl (Tf 1)))] H := hP₀
      replace hD : va_D A [((Wa 0), .inr (0, [.ref (Aa 0)])), ((Aa 0), .inr (9, [.int (Av 0), .int (Av 1), .int (Av 2), .int (Av 3), .int (Av 4), .int (Av 5), .ref (Aa 1), .ref (Aa 2), .ref (Aa 3), .ref (Aa 4), .ref (Aa 5), .ref (Aa 6), .ref (Aa 7), .ref (Aa 8)])), ((Aa 1), .inl (tc 0, 10, .inl (Af 1))), ((Aa 2), .inl (tc 0, 10, .inl (Af 2))), ((Aa 3), .inl (tc 0, 6, .inl g_21)), ((Aa 4), .inl (tc 0, 6, .inl g_39)), ((Aa 5), .inl (tc 0, 6, .inl (Af 5))), ((Aa 6), .inl (tc 0, 6, .inl (Af 6))), ((Aa 7), .inl (tc 0, 6, .inl (Af 7))), ((Aa 8), .inl (tc 0, 6, .inl (Af 8))), ((Ta 0), .inr (10, [.ref (Ta 1), .int (Tv 0), .int sv_27, .int sv_28, .int sv_29, .int sv_30])), ((Ta 1), .inl (tc 0, 400, .inl (Tf 1)))] := hD₀
      replace hS := hS₀
      clear hP₀ hD₀ hS₀
      refine lv_aload_n hx hb dX0_readBuyer_51 rfl (lv_at hl 1 rfl) ?_
      refine gf_X0_12 hx hb hts hown hK hP 0 rfl rfl dX0_readBuyer_52 ?_
      refine gf_X0_97 hx hb hts hown hK hP 1 rfl rfl dX0_readBuyer_55 ?_
      refine lv_iload_n hx hb dX0_readBuyer_58 rfl (lv_at hl 0 rfl) ?_
      refine lv_aload_n hx hb dX0_readBuyer_59 rfl (lv_at hl 2 rfl) ?_
      refine lv_iconst (v := 0) hx hb dX0_readBuyer_60 (by decide) ?_
      refine lv_bipush (v := 9) hx hb dX0_readBuyer_61 (by decide) ?_
      have ha_40 : (0 : Int32).toInt = (0 : Int) := by
        have z_1 := Int32.le_iff_toInt_le.mp (Int32.not_lt.mp c_2)
        have z_2 := Int32.lt_iff_toInt_lt.mp c_3
        have y_0 : (0 : Int32).toInt = 0 := by decide
        have y_6 : (6 : Int32).toInt = 6 := by decide
        omega
      have ha_41 : (9 : Int32).toInt = (9 : Int) := by
        have z_1 := Int32.le_iff_toInt_le.mp (Int32.not_lt.mp c_2)
        have z_2 := Int32.lt_iff_toInt_lt.mp c_3
        have y_0 : (0 : Int32).toInt = 0 := by decide
        have y_6 : (6 : Int32).toInt = 6 := by decide
        have y_9 : (9 : Int32).toInt = 9 := by decide
        omega
      refine cV (a := (Ta 0)) (As := [.int 0, .int 9]) (rest := [.int (Av 3), .ref (Aa 5)]) (wr := [((Wa 0), .inr (0, [.ref (Aa 0)])), ((Aa 0), .inr (9, [.int (Av 0), .int (Av 1), .int (Av 2), .int (Av 3), .int (Av 4), .int (Av 5), .ref (Aa 1), .ref (Aa 2), .ref (Aa 3), .ref (Aa 4), .ref (Aa 5), .ref (Aa 6), .ref (Aa 7), .ref (Aa 8)])), ((Aa 1), .inl (tc 0, 10, .inl (Af 1))), ((Aa 2), .inl (tc 0, 10, .inl (Af 2))), ((Aa 3), .inl (tc 0, 6, .inl g_21)), ((Aa 4), .inl (tc 0, 6, .inl g_39)), ((Aa 5), .inl (tc 0, 6, .inl (Af 5))), ((Aa 6), .inl (tc 0, 6, .inl (Af 6))), ((Aa 7), .inl (tc 0, 6, .inl (Af 7))), ((Aa 8), .inl (tc 0, 6, .inl (Af 8)))]) ⟨hx, hb, hml, hown, hts⟩ hK hX hA (cu_fX10_takeNumber l D tc sk (Ta 0) (Ta 1) (Tv 0) sv_27 sv_28 sv_29 sv_30 (Tf 1) 0 9 ro_36 0 9 pf_31 h_by pf_32 ha_40 ha_41) k_566 k_563 k_564 k_565 k_96 pl_X10_takeNumber ⟨Nat.le_of_ble_eq_true rfl, Nat.le_of_ble_eq_true rfl⟩ rfl rfl (va_recv hK hP (ci := 10) (q0 := 10) rfl rfl) hP hD hS [10, 11] [0, 1, 2, 3, 4, 5, 6, 7, 8, 9] rfl rfl rfl rfl rfl (by decide) rfl hl.1 rfl (Nat.le_of_ble_eq_true rfl) dX0_readBuyer_63 ⟨Nat.le_of_ble_eq_true rfl, Nat.le_of_ble_eq_true rfl⟩ (fun v_42 u_43 H locs hv_44 hP₀ hD₀ hS₀ => ?_)
      obtain ⟨sv_45, sv_46, sv_47, sv_48⟩ := u_43
      obtain ⟨r_51, rfl, he_52, pf_49, pf_50⟩ := hv_44
      have he_52 : NuV (cB (Tf 1) (Tv 0)) (0 : Int) (9 : Int) ro_36 r_51 := he_52
      have pf_49 : 0 ≤ ((Tv 0) : Int32).toInt ∧ ((Tv 0) : Int32).toInt ≤ 400 ∧ 0 ≤ (sv_45 : Int32).toInt ∧ (sv_45 : Int32).toInt ≤ 400 ∧ 0 ≤ (sv_46 : Int32).toInt ∧ (sv_46 : Int32).toInt ≤ 400 := pf_49
      have pf_50 : TpR (Tf 1) (Tv 0) (rNX (cB (Tf 1) (Tv 0)) (rNU (cB (Tf 1) (Tv 0)) (0 : Int) (9 : Int) ro_36)) sv_45 sv_46 sv_47 sv_48 := pf_50
      obtain ⟨ro_54, ero_54⟩ : ∃ z : Except Int (Nat × Nat), z = (rNX (cB (Tf 1) (Tv 0)) (rNU (cB (Tf 1) (Tv 0)) 0 9 ro_36)) := ⟨_, rfl⟩
      rw [← ero_54] at pf_50
      have tb_55 : TpB (rTE (cB (Tf 1) (Tv 0)) ro_54) sv_46 sv_48 := TpR.tb pf_50
      refine W.eq (g2 := F0 m 66 ls [.int r_51, .int (Av 3), .ref (Aa 5)]) rfl ?_
      replace hP : va_P D classes [((Wa 0), .inr (0, [.ref (Aa 0)])), ((Aa 0), .inr (9, [.int (Av 0), .int (Av 1), .int (Av 2), .int (Av 3), .int (Av 4), .int (Av 5), .ref (Aa 1), .ref (Aa 2), .ref (Aa 3), .ref (Aa 4), .ref (Aa 5), .ref (Aa 6), .ref (Aa 7), .ref (Aa 8)])), ((Aa 1), .inl (tc 0, 10, .inl (Af 1))), ((Aa 2), .inl (tc 0, 10, .inl (Af 2))), ((Aa 3), .inl (tc 0, 6, .inl g_21)), ((Aa 4), .inl (tc 0, 6, .inl g_39)), ((Aa 5), .inl (tc 0, 6, .inl (Af 5))), ((Aa 6), .inl (tc 0, 6, .inl (Af 6))), ((Aa 7), .inl (tc 0, 6, .inl (Af 7))), ((Aa 8), .inl (tc 0, 6, .inl (Af 8))), ((Ta 0), .inr (10, [.ref (Ta 1), .int (Tv 0), .int sv_45, .int sv_46, .int sv_47, .int sv_48])), ((Ta 1), .inl (tc 0, 400, .inl (Tf 1)))] H := hP₀
      replace hD : va_D A [((Wa 0), .inr (0, [.ref (Aa 0)])), ((Aa 0), .inr (9, [.int (Av 0), .int (Av 1), .int (Av 2), .int (Av 3), .int (Av 4), .int (Av 5), .ref (Aa 1), .ref (Aa 2), .ref (Aa 3), .ref (Aa 4), .ref (Aa 5), .ref (Aa 6), .ref (Aa 7), .ref (Aa 8)])), ((Aa 1), .inl (tc 0, 10, .inl (Af 1))), ((Aa 2), .inl (tc 0, 10, .inl (Af 2))), ((Aa 3), .inl (tc 0, 6, .inl g_21)), ((Aa 4), .inl (tc 0, 6, .inl g_39)), ((Aa 5), .inl (tc 0, 6, .inl (Af 5))), ((Aa 6), .inl (tc 0, 6, .inl (Af 6))), ((Aa 7), .inl (tc 0, 6, .inl (Af 7))), ((Aa 8), .inl (tc 0, 6, .inl (Af 8))), ((Ta 0), .inr (10, [.ref (Ta 1), .int (Tv 0), .int sv_45, .int sv_46, .int sv_47, .int sv_48])), ((Ta 1), .inl (tc 0, 400, .inl (Tf 1)))] := hD₀
      replace hS := hS₀
      clear hP₀ hD₀ hS₀
      have hi_56 : vp_in (Av 3) 6 := by
        have z_1 := Int32.le_iff_toInt_le.mp (Int32.not_lt.mp c_2)
        have z_2 := Int32.lt_iff_toInt_lt.mp c_3
        have y_0 : (0 : Int32).toInt = 0 := by decide
        have y_6 : (6 : Int32).toInt = 6 := by decide
        refine vp_in_iff.mpr ⟨?_, ?_⟩ <;> omega
      refine st_int hx hb hK hP hD hS 6 0 rfl rfl hi_56 dX0_readBuyer_66 (fun g_57 H locs eg_57 hP₀ hD₀ hS₀ => ?_)
      replace hP : va_P D classes [((Wa 0), .inr (0, [.ref (Aa 0)])), ((Aa 0), .inr (9, [.int (Av 0), .int (Av 1), .int (Av 2), .int (Av 3), .int (Av 4), .int (Av 5), .ref (Aa 1), .ref (Aa 2), .ref (Aa 3), .ref (Aa 4), .ref (Aa 5), .ref (Aa 6), .ref (Aa 7), .ref (Aa 8)])), ((Aa 1), .inl (tc 0, 10, .inl (Af 1))), ((Aa 2), .inl (tc 0, 10, .inl (Af 2))), ((Aa 3), .inl (tc 0, 6, .inl g_21)), ((Aa 4), .inl (tc 0, 6, .inl g_39)), ((Aa 5), .inl (tc 0, 6, .inl g_57)), ((Aa 6), .inl (tc 0, 6, .inl (Af 6))), ((Aa 7), .inl (tc 0, 6, .inl (Af 7))), ((Aa 8), .inl (tc 0, 6, .inl (Af 8))), ((Ta 0), .inr (10, [.ref (Ta 1), .int (Tv 0), .int sv_45, .int sv_46, .int sv_47, .int sv_48])), ((Ta 1), .inl (tc 0, 400, .inl (Tf 1)))] H := hP₀
      replace hD : va_D A [((Wa 0), .inr (0, [.ref (Aa 0)])), ((Aa 0), .inr (9, [.int (Av 0), .int (Av 1), .int (Av 2), .int (Av 3), .int (Av 4), .int (Av 5), .ref (Aa 1), .ref (Aa 2), .ref (Aa 3), .ref (Aa 4), .ref (Aa 5), .ref (Aa 6), .ref (Aa 7), .ref (Aa 8)])), ((Aa 1), .inl (tc 0, 10, .inl (Af 1))), ((Aa 2), .inl (tc 0, 10, .inl (Af 2))), ((Aa 3), .inl (tc 0, 6, .inl g_21)), ((Aa 4), .inl (tc 0, 6, .inl g_39)), ((Aa 5), .inl (tc 0, 6, .inl g_57)), ((Aa 6), .inl (tc 0, 6, .inl (Af 6))), ((Aa 7), .inl (tc 0, 6, .inl (Af 7))), ((Aa 8), .inl (tc 0, 6, .inl (Af 8))), ((Ta 0), .inr (10, [.ref (Ta 1), .int (Tv 0), .int sv_45, .int sv_46, .int sv_47, .int sv_48])), ((Ta 1), .inl (tc 0, 400, .inl (Tf 1)))] := hD₀
      replace hS := hS₀
      clear hP₀ hD₀ hS₀
      refine lv_aload_n hx hb dX0_readBuyer_67 rfl (lv_at hl 1 rfl) ?_
      refine gf_X0_12 hx hb hts hown hK hP 0 rfl rfl dX0_readBuyer_68 ?_
      refine lv_dup hx hb dX0_readBuyer_71 rfl ?_
      refine gf_X0_51 hx hb hts hown hK hP 1 rfl rfl dX0_readBuyer_72 ?_
      refine lv_iconst (v := 1) hx hb dX0_readBuyer_75 (by decide) ?_
      refine lv_iadd hx hb dX0_readBuyer_76 ?_
      refine lv_topi (fun x_58 ex_58 => ?_)
      refine pf_X0_51 hx hb hts hown hK hP hD hS 1 rfl (Nat.le_of_ble_eq_true rfl) rfl rfl dX0_readBuyer_77 (fun H locs hP₀ hD₀ hS₀ => ?_)
      replace hP : va_P D classes [((Wa 0), .inr (0, [.ref (Aa 0)])), ((Aa 0), .inr (9, [.int (Av 0), .int (Av 1), .int (Av 2), .int x_58, .int (Av 4), .int (Av 5), .ref (Aa 1), .ref (Aa 2), .ref (Aa 3), .ref (Aa 4), .ref (Aa 5), .ref (Aa 6), .ref (Aa 7), .ref (Aa 8)])), ((Aa 1), .inl (tc 0, 10, .inl (Af 1))), ((Aa 2), .inl (tc 0, 10, .inl (Af 2))), ((Aa 3), .inl (tc 0, 6, .inl g_21)), ((Aa 4), .inl (tc 0, 6, .inl g_39)), ((Aa 5), .inl (tc 0, 6, .inl g_57)), ((Aa 6), .inl (tc 0, 6, .inl (Af 6))), ((Aa 7), .inl (tc 0, 6, .inl (Af 7))), ((Aa 8), .inl (tc 0, 6, .inl (Af 8))), ((Ta 0), .inr (10, [.ref (Ta 1), .int (Tv 0), .int sv_45, .int sv_46, .int sv_47, .int sv_48])), ((Ta 1), .inl (tc 0, 400, .inl (Tf 1)))] H := hP₀
      replace hD : va_D A [((Wa 0), .inr (0, [.ref (Aa 0)])), ((Aa 0), .inr (9, [.int (Av 0), .int (Av 1), .int (Av 2), .int x_58, .int (Av 4), .int (Av 5), .ref (Aa 1), .ref (Aa 2), .ref (Aa 3), .ref (Aa 4), .ref (Aa 5), .ref (Aa 6), .ref (Aa 7), .ref (Aa 8)])), ((Aa 1), .inl (tc 0, 10, .inl (Af 1))), ((Aa 2), .inl (tc 0, 10, .inl (Af 2))), ((Aa 3), .inl (tc 0, 6, .inl g_21)), ((Aa 4), .inl (tc 0, 6, .inl g_39)), ((Aa 5), .inl (tc 0, 6, .inl g_57)), ((Aa 6), .inl (tc 0, 6, .inl (Af 6))), ((Aa 7), .inl (tc 0, 6, .inl (Af 7))), ((Aa 8), .inl (tc 0, 6, .inl (Af 8))), ((Ta 0), .inr (10, [.ref (Ta 1), .int (Tv 0), .int sv_45, .int sv_46, .int sv_47, .int sv_48])), ((Ta 1), .inl (tc 0, 400, .inl (Tf 1)))] := hD₀
      replace hS := hS₀
      clear hP₀ hD₀ hS₀
      have ha_59 : 0 ≤ (x_58 : Int32).toInt ∧ (x_58 : Int32).toInt ≤ 6 := by
        have z_1 := Int32.le_iff_toInt_le.mp (Int32.not_lt.mp c_2)
        have z_2 := Int32.lt_iff_toInt_lt.mp c_3
        have y_0 : (0 : Int32).toInt = 0 := by decide
        have y_6 : (6 : Int32).toInt = 6 := by decide
        have y_1 : (1 : Int32).toInt = 1 := by decide
        have t_x_58 : x_58.toInt = ((Av 3) : Int32).toInt + (1 : Int32).toInt := by rw [ex_58]; exact add_toInt (by omega) (by omega)
        omega
      have hu_60 : TpR (Tf 1) (Tv 0) (rNX (cB (Tf 1) (Tv 0)) (rNU (cB (Tf 1) (Tv 0)) 0 9 (rNX (cB (Tf 1) (Tv 0)) (rNU (cB (Tf 1) (Tv 0)) 1 9 (rNX (cB (Tf 1) (Tv 0)) (rNU (cB (Tf 1) (Tv 0)) 0 20 rr)))))) sv_45 sv_46 sv_47 sv_48 := by
        rw [← ero_18, ← ero_36, ← ero_54]
        exact pf_50
      have hf_61 : TpR (Tf 1) (Tv 0) (rN1 (cB (Tf 1) (Tv 0)) 0 9 (rN1 (cB (Tf 1) (Tv 0)) 1 9 (rN1 (cB (Tf 1) (Tv 0)) 0 20 rr))) sv_45 sv_46 sv_47 sv_48 := hu_60
      have hv_62 : NuV (cB (Tf 1) (Tv 0)) 0 20 rr r_15 := by
        have hq := he_16
        exact hq
      have hv_63 : NuV (cB (Tf 1) (Tv 0)) 1 9 (rN1 (cB (Tf 1) (Tv 0)) 0 20 rr) r_33 := by
        have hq := he_34
        rw [ero_18] at hq
        exact hq
      have hv_64 : NuV (cB (Tf 1) (Tv 0)) 0 9 (rN1 (cB (Tf 1) (Tv 0)) 1 9 (rN1 (cB (Tf 1) (Tv 0)) 0 20 rr)) r_51 := by
        have hq := he_52
        rw [ero_36, ero_18] at hq
        exact hq
      have hi_66 : (x_58 : Int32).toInt = (Av 3).toInt + 1 := by
        have z_1 := Int32.le_iff_toInt_le.mp (Int32.not_lt.mp c_2)
        have z_2 := Int32.lt_iff_toInt_lt.mp c_3
        have y_0 : (0 : Int32).toInt = 0 := by decide
        have y_6 : (6 : Int32).toInt = 6 := by decide
        have y_1 : (1 : Int32).toInt = 1 := by decide
        have t_x_58 : x_58.toInt = ((Av 3) : Int32).toInt + (1 : Int32).toInt := by rw [ex_58]; exact add_toInt (by omega) (by omega)
        omega
      have hs_65 : QsQ (qz_k2 (cB (Tf 1) (Tv 0)) C rr) (Av 0) (Av 1) (Av 2) x_58 (Av 4) (Av 5) (Af 1) (Af 2) g_21 g_39 g_57 (Af 6) (Af 7) (Af 8) := QsQ.b2 h_c h_b6 hv_62 hv_63 hv_64 eg_21 eg_39 eg_57 hi_66
      exact retV hx hb hr hlk hP hD hS (x_58, g_21, g_39, g_57, sv_45, sv_46, sv_47, sv_48) ⟨rfl, pf_49, ha_59, hf_61, hs_65⟩ [0, 1, 2, 3, 4, 5, 6, 7, 8, 9, 10, 11] rfl rfl dX0_readBuyer_80 (Nat.le_of_ble_eq_true rfl) (Nat.le_of_ble_eq_true rfl) rfl
    · skip
      exfalso
      have z_1 := Int32.le_iff_toInt_le.mp (Int32.not_lt.mp c_2)
      have z_2 := Int32.le_iff_toInt_le.mp (Int32.not_lt.mp c_3)
      have y_0 : (0 : Int32).toInt = 0 := by decide
      have y_6 : (6 : Int32).toInt = 6 := by decide
      omega
set_option maxRecDepth 100000 in
theorem cu_zX0_readBuyer (l : Launch) (D : va_G) (tc : Nat → ClassId) (sk : (Nat → Nat) × (Nat → Nat)) (Wa_0 : Nat) (Aa_0 : Nat) (Aa_1 : Nat) (Aa_2 : Nat) (Aa_3 : Nat) (Aa_4 : Nat) (Aa_5 : Nat) (Aa_6 : Nat) (Aa_7 : Nat) (Aa_8 : Nat) (Av_0 : Int32) (Av_1 : Int32) (Av_2 : Int32) (Av_3 : Int32) (Av_4 : Int32) (Av_5 : Int32) (Af_1 : Nat → Int32) (Af_2 : Nat → Int32) (Af_3 : Nat → Int32) (Af_4 : Nat → Int32) (Af_5 : Nat → Int32) (Af_6 : Nat → Int32) (Af_7 : Nat → Int32) (Af_8 : Nat → Int32) (Ta_0 : Nat) (Ta_1 : Nat) (Tv_0 : Int32) (Tv_1 : Int32) (Tv_2 : Int32) (Tv_3 : Int32) (Tv_4 : Int32) (Tf_1 : Nat → Int32) (rr : Except Int (Nat × Nat)) (C : Nat → Int) (h_tape : 0 ≤ (Tv_0 : Int32).toInt ∧ (Tv_0 : Int32).toInt ≤ 400 ∧ 0 ≤ (Tv_1 : Int32).toInt ∧ (Tv_1 : Int32).toInt ≤ 400 ∧ 0 ≤ (Tv_2 : Int32).toInt ∧ (Tv_2 : Int32).toInt ≤ 400) (h_by : Byt Tf_1) (h_r : TpR Tf_1 Tv_0 rr Tv_1 Tv_2 Tv_3 Tv_4) (h_b6 : 0 ≤ Av_3.toInt ∧ Av_3.toInt < 6) (h_c : QcI rr Av_0 Av_1 Av_2 Av_3 Av_4 Av_5 Af_1 Af_2 Af_3 Af_4 Af_5 Af_6 Af_7 Af_8 C) : Ct l yX0_readBuyer cX0_readBuyer 3 none { frames := 3, cells := 0, slots := 0, locals := 68 } D tc sk [.ref Wa_0, .ref Ta_0] [(Wa_0, .inr (0, [.ref Aa_0])), (Aa_0, .inr (9, [.int Av_0, .int Av_1, .int Av_2, .int Av_3, .int Av_4, .int Av_5, .ref Aa_1, .ref Aa_2, .ref Aa_3, .ref Aa_4, .ref Aa_5, .ref Aa_6, .ref Aa_7, .ref Aa_8])), (Aa_1, .inl (tc 0, 10, .inl Af_1)), (Aa_2, .inl (tc 0, 10, .inl Af_2)), (Aa_3, .inl (tc 0, 6, .inl Af_3)), (Aa_4, .inl (tc 0, 6, .inl Af_4)), (Aa_5, .inl (tc 0, 6, .inl Af_5)), (Aa_6, .inl (tc 0, 6, .inl Af_6)), (Aa_7, .inl (tc 0, 6, .inl Af_7)), (Aa_8, .inl (tc 0, 6, .inl Af_8)), (Ta_0, .inr (10, [.ref Ta_1, .int Tv_0, .int Tv_1, .int Tv_2, .int Tv_3, .int Tv_4])), (Ta_1, .inl (tc 0, 400, .inl Tf_1))] (fun (v : Option Value) (u : (Int32) × (Nat → Int32) × (Nat → Int32) × (Nat → Int32) × (Int32) × (Int32) × (Int32) × (Int32)) => match u with | (oo0x1, oo0x2, oo0x3, oo0x4, oo0x5, oo0x6, oo0x7, oo0x8) => v = none ∧ (0 ≤ (Tv_0 : Int32).toInt ∧ (Tv_0 : Int32).toInt ≤ 400 ∧ 0 ≤ (oo0x5 : Int32).toInt ∧ (oo0x5 : Int32).toInt ≤ 400 ∧ 0 ≤ (oo0x6 : Int32).toInt ∧ (oo0x6 : Int32).toInt ≤ 400) ∧ (0 ≤ (oo0x1 : Int32).toInt ∧ (oo0x1 : Int32).toInt ≤ 6) ∧ (TpR Tf_1 Tv_0 (rN1 (cB Tf_1 Tv_0) 0 9 (rN1 (cB Tf_1 Tv_0) 1 9 (rN1 (cB Tf_1 Tv_0) 0 20 rr))) oo0x5 oo0x6 oo0x7 oo0x8) ∧ (QsQ (qz_k2 (cB Tf_1 Tv_0) C rr) Av_0 Av_1 Av_2 oo0x1 Av_4 Av_5 Af_1 Af_2 oo0x2 oo0x3 oo0x4 Af_6 Af_7 Af_8)) (fun (u : (Int32) × (Nat → Int32) × (Nat → Int32) × (Nat → Int32) × (Int32) × (Int32) × (Int32) × (Int32)) => match u with | (oo0x1, oo0x2, oo0x3, oo0x4, oo0x5, oo0x6, oo0x7, oo0x8) => [(Wa_0, .inr (0, [.ref Aa_0])), (Aa_0, .inr (9, [.int Av_0, .int Av_1, .int Av_2, .int oo0x1, .int Av_4, .int Av_5, .ref Aa_1, .ref Aa_2, .ref Aa_3, .ref Aa_4, .ref Aa_5, .ref Aa_6, .ref Aa_7, .ref Aa_8])), (Aa_1, .inl (tc 0, 10, .inl Af_1)), (Aa_2, .inl (tc 0, 10, .inl Af_2)), (Aa_3, .inl (tc 0, 6, .inl oo0x2)), (Aa_4, .inl (tc 0, 6, .inl oo0x3)), (Aa_5, .inl (tc 0, 6, .inl oo0x4)), (Aa_6, .inl (tc 0, 6, .inl Af_6)), (Aa_7, .inl (tc 0, 6, .inl Af_7)), (Aa_8, .inl (tc 0, 6, .inl Af_8)), (Ta_0, .inr (10, [.ref Ta_1, .int Tv_0, .int oo0x5, .int oo0x6, .int oo0x7, .int oo0x8])), (Ta_1, .inl (tc 0, 400, .inl Tf_1))]) 0 0 :=
  ct_zX0_readBuyer l D tc sk (fun k => ([Wa_0] : List (Nat)).getD k 0) (fun k => ([Aa_0, Aa_1, Aa_2, Aa_3, Aa_4, Aa_5, Aa_6, Aa_7, Aa_8] : List (Nat)).getD k 0) (fun k => ([Av_0, Av_1, Av_2, Av_3, Av_4, Av_5] : List (Int32)).getD k 0) (fun k => ([(fun _ => 0), Af_1, Af_2, Af_3, Af_4, Af_5, Af_6, Af_7, Af_8] : List (Nat → Int32)).getD k (fun _ => 0)) (fun k => ([Ta_0, Ta_1] : List (Nat)).getD k 0) (fun k => ([Tv_0, Tv_1, Tv_2, Tv_3, Tv_4] : List (Int32)).getD k 0) (fun k => ([(fun _ => 0), Tf_1] : List (Nat → Int32)).getD k (fun _ => 0)) rr C h_tape h_by h_r h_b6 h_c
set_option maxHeartbeats 4000000 in
set_option maxRecDepth 100000 in
theorem ct_zX0_readWatch (l : Launch) (D : va_G) (tc : Nat → ClassId) (sk : (Nat → Nat) × (Nat → Nat)) (Wa : Nat → Nat) (Aa : Nat → Nat) (Av : Nat → Int32) (Af : Nat → Nat → Int32) (Ta : Nat → Nat) (Tv : Nat → Int32) (Tf : Nat → Nat → Int32) (rr : Except Int (Nat × Nat)) (C : Nat → Int) (h_tape : 0 ≤ ((Tv 0) : Int32).toInt ∧ ((Tv 0) : Int32).toInt ≤ 400 ∧ 0 ≤ ((Tv 1) : Int32).toInt ∧ ((Tv 1) : Int32).toInt ≤ 400 ∧ 0 ≤ ((Tv 2) : Int32).toInt ∧ ((Tv 2) : Int32).toInt ≤ 400) (h_by : Byt (Tf 1)) (h_r : TpR (Tf 1) (Tv 0) rr (Tv 1) (Tv 2) (Tv 3) (Tv 4)) (h_bu : 0 ≤ ((Av 3) : Int32).toInt ∧ ((Av 3) : Int32).toInt ≤ 6) (h_c : QcI rr (Av 0) (Av 1) (Av 2) (Av 3) (Av 4) (Av 5) (Af 1) (Af 2) (Af 3) (Af 4) (Af 5) (Af 6) (Af 7) (Af 8) C) : Ct l yX0_readWatch cX0_readWatch 4 none { frames := 3, cells := 0, slots := 0, locals := 68 } D tc sk [.ref (Wa 0), .ref (Ta 0)] [((Wa 0), .inr (0, [.ref (Aa 0)])), ((Aa 0), .inr (9, [.int (Av 0), .int (Av 1), .int (Av 2), .int (Av 3), .int (Av 4), .int (Av 5), .ref (Aa 1), .ref (Aa 2), .ref (Aa 3), .ref (Aa 4), .ref (Aa 5), .ref (Aa 6), .ref (Aa 7), .ref (Aa 8)])), ((Aa 1), .inl (tc 0, 10, .inl (Af 1))), ((Aa 2), .inl (tc 0, 10, .inl (Af 2))), ((Aa 3), .inl (tc 0, 6, .inl (Af 3))), ((Aa 4), .inl (tc 0, 6, .inl (Af 4))), ((Aa 5), .inl (tc 0, 6, .inl (Af 5))), ((Aa 6), .inl (tc 0, 6, .inl (Af 6))), ((Aa 7), .inl (tc 0, 6, .inl (Af 7))), ((Aa 8), .inl (tc 0, 6, .inl (Af 8))), ((Ta 0), .inr (10, [.ref (Ta 1), .int (Tv 0), .int (Tv 1), .int (Tv 2), .int (Tv 3), .int (Tv 4)])), ((Ta 1), .inl (tc 0, 400, .inl (Tf 1)))] (fun (v : Option Value) (u : (Nat → Int32) × (Int32) × (Int32) × (Int32) × (Int32)) => match u with | (oo0x1, oo0x2, oo0x3, oo0x4, oo0x5) => v = none ∧ (0 ≤ ((Tv 0) : Int32).toInt ∧ ((Tv 0) : Int32).toInt ≤ 400 ∧ 0 ≤ (oo0x2 : Int32).toInt ∧ (oo0x2 : Int32).toInt ≤ 400 ∧ 0 ≤ (oo0x3 : Int32).toInt ∧ (oo0x3 : Int32).toInt ≤ 400) ∧ (0 ≤ ((Av 3) : Int32).toInt ∧ ((Av 3) : Int32).toInt ≤ 6) ∧ (TpR (Tf 1) (Tv 0) (rN1 (cB (Tf 1) (Tv 0)) 0 ((Av 3).toInt - 1) (rN1 (cB (Tf 1) (Tv 0)) 0 ((Av 2) - 1 : Int32).toInt rr)) oo0x2 oo0x3 oo0x4 oo0x5) ∧ (QsQ (qz_k3 (cB (Tf 1) (Tv 0)) C rr) (Av 0) (Av 1) (Av 2) (Av 3) (Av 4) (Av 5) (Af 1) oo0x1 (Af 3) (Af 4) (Af 5) (Af 6) (Af 7) (Af 8))) (fun (u : (Nat → Int32) × (Int32) × (Int32) × (Int32) × (Int32)) => match u with | (oo0x1, oo0x2, oo0x3, oo0x4, oo0x5) => [((Wa 0), .inr (0, [.ref (Aa 0)])), ((Aa 0), .inr (9, [.int (Av 0), .int (Av 1), .int (Av 2), .int (Av 3), .int (Av 4), .int (Av 5), .ref (Aa 1), .ref (Aa 2), .ref (Aa 3), .ref (Aa 4), .ref (Aa 5), .ref (Aa 6), .ref (Aa 7), .ref (Aa 8)])), ((Aa 1), .inl (tc 0, 10, .inl (Af 1))), ((Aa 2), .inl (tc 0, 10, .inl oo0x1)), ((Aa 3), .inl (tc 0, 6, .inl (Af 3))), ((Aa 4), .inl (tc 0, 6, .inl (Af 4))), ((Aa 5), .inl (tc 0, 6, .inl (Af 5))), ((Aa 6), .inl (tc 0, 6, .inl (Af 6))), ((Aa 7), .inl (tc 0, 6, .inl (Af 7))), ((Aa 8), .inl (tc 0, 6, .inl (Af 8))), ((Ta 0), .inr (10, [.ref (Ta 1), .int (Tv 0), .int oo0x2, .int oo0x3, .int oo0x4, .int oo0x5])), ((Ta 1), .inl (tc 0, 400, .inl (Tf 1)))]) 0 0 := by
  refine Ct.start (by decide) (Nat.le_of_ble_eq_true rfl) (fun p e s m below meth c A ls hx hb hr hlk hin hml hown hts hK hX hP hD hA hl hS => ?_)
  have hl : lv_has ls 4 [(0, .ref (Wa 0)), (1, .ref (Ta 0))] := hl
  have tb_1 : TpB (rTE (cB (Tf 1) (Tv 0)) rr) (Tv 2) (Tv 4) := TpR.tb h_r
  refine lv_aload_n hx hb dX0_readWatch_0 rfl (lv_at hl 1 rfl) ?_
  refine lv_iconst (v := 0) hx hb dX0_readWatch_1 (by decide) ?_
  refine lv_aload_n hx hb dX0_readWatch_2 rfl (lv_at hl 0 rfl) ?_
  refine gf_X0_12 hx hb hts hown hK hP 0 rfl rfl dX0_readWatch_3 ?_
  refine gf_X0_80 hx hb hts hown hK hP 1 rfl rfl dX0_readWatch_6 ?_
  refine lv_iconst (v := 1) hx hb dX0_readWatch_9 (by decide) ?_
  refine lv_isub hx hb dX0_readWatch_10 ?_
  refine lv_topi (fun x_2 ex_2 => ?_)
  have ha_3 : (0 : Int32).toInt = (0 : Int) := by
    have y_0 : (0 : Int32).toInt = 0 := by decide
    omega
  refine cV (a := (Ta 0)) (As := [.int 0, .int x_2]) (rest := []) (wr := [((Wa 0), .inr (0, [.ref (Aa 0)])), ((Aa 0), .inr (9, [.int (Av 0), .int (Av 1), .int (Av 2), .int (Av 3), .int (Av 4), .int (Av 5), .ref (Aa 1), .ref (Aa 2), .ref (Aa 3), .ref (Aa 4), .ref (Aa 5), .ref (Aa 6), .ref (Aa 7), .ref (Aa 8)])), ((Aa 1), .inl (tc 0, 10, .inl (Af 1))), ((Aa 2), .inl (tc 0, 10, .inl (Af 2))), ((Aa 3), .inl (tc 0, 6, .inl (Af 3))), ((Aa 4), .inl (tc 0, 6, .inl (Af 4))), ((Aa 5), .inl (tc 0, 6, .inl (Af 5))), ((Aa 6), .inl (tc 0, 6, .inl (Af 6))), ((Aa 7), .inl (tc 0, 6, .inl (Af 7))), ((Aa 8), .inl (tc 0, 6, .inl (Af 8)))]) ⟨hx, hb, hml, hown, hts⟩ hK hX hA (cu_fX10_takeNumber l D tc sk (Ta 0) (Ta 1) (Tv 0) (Tv 1) (Tv 2) (Tv 3) (Tv 4) (Tf 1) 0 x_2 rr 0 (((Av 2) - 1 : Int32).toInt) h_tape h_by h_r ha_3 (congrArg Int32.toInt ex_2)) k_566 k_563 k_564 k_565 k_96 pl_X10_takeNumber ⟨Nat.le_of_ble_eq_true rfl, Nat.le_of_ble_eq_true rfl⟩ rfl rfl (va_recv hK hP (ci := 10) (q0 := 10) rfl rfl) hP hD hS [10, 11] [0, 1, 2, 3, 4, 5, 6, 7, 8, 9] rfl rfl rfl rfl rfl (by decide) rfl hl.1 rfl (Nat.le_of_ble_eq_true rfl) dX0_readWatch_11 ⟨Nat.le_of_ble_eq_true rfl, Nat.le_of_ble_eq_true rfl⟩ (fun v_4 u_5 H locs hv_6 hP₀ hD₀ hS₀ => ?_)
  obtain ⟨sv_7, sv_8, sv_9, sv_10⟩ := u_5
  obtain ⟨r_13, rfl, he_14, pf_11, pf_12⟩ := hv_6
  have he_14 : NuV (cB (Tf 1) (Tv 0)) (0 : Int) ((Av 2) - 1 : Int32).toInt rr r_13 := he_14
  have pf_11 : 0 ≤ ((Tv 0) : Int32).toInt ∧ ((Tv 0) : Int32).toInt ≤ 400 ∧ 0 ≤ (sv_7 : Int32).toInt ∧ (sv_7 : Int32).toInt ≤ 400 ∧ 0 ≤ (sv_8 : Int32).toInt ∧ (sv_8 : Int32).toInt ≤ 400 := pf_11
  have pf_12 : TpR (Tf 1) (Tv 0) (rNX (cB (Tf 1) (Tv 0)) (rNU (cB (Tf 1) (Tv 0)) (0 : Int) ((Av 2) - 1 : Int32).toInt rr)) sv_7 sv_8 sv_9 sv_10 := pf_12
  obtain ⟨ro_16, ero_16⟩ : ∃ z : Except Int (Nat × Nat), z = (rNX (cB (Tf 1) (Tv 0)) (rNU (cB (Tf 1) (Tv 0)) 0 ((Av 2) - 1 : Int32).toInt rr)) := ⟨_, rfl⟩
  rw [← ero_16] at pf_12
  have tb_17 : TpB (rTE (cB (Tf 1) (Tv 0)) ro_16) sv_8 sv_10 := TpR.tb pf_12
  refine W.eq (g2 := F0 m 14 ls [.int r_13]) rfl ?_
  replace hP : va_P D classes [((Wa 0), .inr (0, [.ref (Aa 0)])), ((Aa 0), .inr (9, [.int (Av 0), .int (Av 1), .int (Av 2), .int (Av 3), .int (Av 4), .int (Av 5), .ref (Aa 1), .ref (Aa 2), .ref (Aa 3), .ref (Aa 4), .ref (Aa 5), .ref (Aa 6), .ref (Aa 7), .ref (Aa 8)])), ((Aa 1), .inl (tc 0, 10, .inl (Af 1))), ((Aa 2), .inl (tc 0, 10, .inl (Af 2))), ((Aa 3), .inl (tc 0, 6, .inl (Af 3))), ((Aa 4), .inl (tc 0, 6, .inl (Af 4))), ((Aa 5), .inl (tc 0, 6, .inl (Af 5))), ((Aa 6), .inl (tc 0, 6, .inl (Af 6))), ((Aa 7), .inl (tc 0, 6, .inl (Af 7))), ((Aa 8), .inl (tc 0, 6, .inl (Af 8))), ((Ta 0), .inr (10, [.ref (Ta 1), .int (Tv 0), .int sv_7, .int sv_8, .int sv_9, .int sv_10])), ((Ta 1), .inl (tc 0, 400, .inl (Tf 1)))] H := hP₀
  replace hD : va_D A [((Wa 0), .inr (0, [.ref (Aa 0)])), ((Aa 0), .inr (9, [.int (Av 0), .int (Av 1), .int (Av 2), .int (Av 3), .int (Av 4), .int (Av 5), .ref (Aa 1), .ref (Aa 2), .ref (Aa 3), .ref (Aa 4), .ref (Aa 5), .ref (Aa 6), .ref (Aa 7), .ref (Aa 8)])), ((Aa 1), .inl (tc 0, 10, .inl (Af 1))), ((Aa 2), .inl (tc 0, 10, .inl (Af 2))), ((Aa 3), .inl (tc 0, 6, .inl (Af 3))), ((Aa 4), .inl (tc 0, 6, .inl (Af 4))), ((Aa 5), .inl (tc 0, 6, .inl (Af 5))), ((Aa 6), .inl (tc 0, 6, .inl (Af 6))), ((Aa 7), .inl (tc 0, 6, .inl (Af 7))), ((Aa 8), .inl (tc 0, 6, .inl (Af 8))), ((Ta 0), .inr (10, [.ref (Ta 1), .int (Tv 0), .int sv_7, .int sv_8, .int sv_9, .int sv_10])), ((Ta 1), .inl (tc 0, 400, .inl (Tf 1)))] := hD₀
  replace hS := hS₀
  clear hP₀ hD₀ hS₀
  refine lv_istore_n (lv' := [(2, .int r_13), (0, .ref (Wa 0)), (1, .ref (Ta 0))]) hx hb dX0_readWatch_14 rfl hl (by decide) rfl (fun ls hl₀ => ?_)
  replace hl := hl₀
  clear hl₀
  refine lv_aload_n hx hb dX0_readWatch_15 rfl (lv_at hl 2 rfl) ?_
  refine lv_iconst (v := 0) hx hb dX0_readWatch_16 (by decide) ?_
  refine lv_aload_n hx hb dX0_readWatch_17 rfl (lv_at hl 1 rfl) ?_
  refine gf_X0_12 hx hb hts hown hK hP 0 rfl rfl dX0_readWatch_18 ?_
  refine gf_X0_51 hx hb hts hown hK hP 1 rfl rfl dX0_readWatch_21 ?_
  refine lv_iconst (v := 1) hx hb dX0_readWatch_24 (by decide) ?_
  refine lv_isub hx hb dX0_readWatch_25 ?_
  refine lv_topi (fun x_18 ex_18 => ?_)
  have ha_19 : (0 : Int32).toInt = (0 : Int) := by
    have y_0 : (0 : Int32).toInt = 0 := by decide
    omega
  have ha_20 : x_18.toInt = ((Av 3).toInt - 1) := by
    have y_1 : (1 : Int32).toInt = 1 := by decide
    have t_x_18 : x_18.toInt = ((Av 3) : Int32).toInt - (1 : Int32).toInt := by rw [ex_18]; exact sub_toInt (by omega) (by omega)
    omega
  refine cV (a := (Ta 0)) (As := [.int 0, .int x_18]) (rest := []) (wr := [((Wa 0), .inr (0, [.ref (Aa 0)])), ((Aa 0), .inr (9, [.int (Av 0), .int (Av 1), .int (Av 2), .int (Av 3), .int (Av 4), .int (Av 5), .ref (Aa 1), .ref (Aa 2), .ref (Aa 3), .ref (Aa 4), .ref (Aa 5), .ref (Aa 6), .ref (Aa 7), .ref (Aa 8)])), ((Aa 1), .inl (tc 0, 10, .inl (Af 1))), ((Aa 2), .inl (tc 0, 10, .inl (Af 2))), ((Aa 3), .inl (tc 0, 6, .inl (Af 3))), ((Aa 4), .inl (tc 0, 6, .inl (Af 4))), ((Aa 5), .inl (tc 0, 6, .inl (Af 5))), ((Aa 6), .inl (tc 0, 6, .inl (Af 6))), ((Aa 7), .inl (tc 0, 6, .inl (Af 7))), ((Aa 8), .inl (tc 0, 6, .inl (Af 8)))]) ⟨hx, hb, hml, hown, hts⟩ hK hX hA (cu_fX10_takeNumber l D tc sk (Ta 0) (Ta 1) (Tv 0) sv_7 sv_8 sv_9 sv_10 (Tf 1) 0 x_18 ro_16 0 ((Av 3).toInt - 1) pf_11 h_by pf_12 ha_19 ha_20) k_566 k_563 k_564 k_565 k_96 pl_X10_takeNumber ⟨Nat.le_of_ble_eq_true rfl, Nat.le_of_ble_eq_true rfl⟩ rfl rfl (va_recv hK hP (ci := 10) (q0 := 10) rfl rfl) hP hD hS [10, 11] [0, 1, 2, 3, 4, 5, 6, 7, 8, 9] rfl rfl rfl rfl rfl (by decide) rfl hl.1 rfl (Nat.le_of_ble_eq_true rfl) dX0_readWatch_26 ⟨Nat.le_of_ble_eq_true rfl, Nat.le_of_ble_eq_true rfl⟩ (fun v_21 u_22 H locs hv_23 hP₀ hD₀ hS₀ => ?_)
  obtain ⟨sv_24, sv_25, sv_26, sv_27⟩ := u_22
  obtain ⟨r_30, rfl, he_31, pf_28, pf_29⟩ := hv_23
  have he_31 : NuV (cB (Tf 1) (Tv 0)) (0 : Int) ((Av 3).toInt - 1) ro_16 r_30 := he_31
  have pf_28 : 0 ≤ ((Tv 0) : Int32).toInt ∧ ((Tv 0) : Int32).toInt ≤ 400 ∧ 0 ≤ (sv_24 : Int32).toInt ∧ (sv_24 : Int32).toInt ≤ 400 ∧ 0 ≤ (sv_25 : Int32).toInt ∧ (sv_25 : Int32).toInt ≤ 400 := pf_28
  have pf_29 : TpR (Tf 1) (Tv 0) (rNX (cB (Tf 1) (Tv 0)) (rNU (cB (Tf 1) (Tv 0)) (0 : Int) ((Av 3).toInt - 1) ro_16)) sv_24 sv_25 sv_26 sv_27 := pf_29
  obtain ⟨ro_33, ero_33⟩ : ∃ z : Except Int (Nat × Nat), z = (rNX (cB (Tf 1) (Tv 0)) (rNU (cB (Tf 1) (Tv 0)) 0 ((Av 3).toInt - 1) ro_16)) := ⟨_, rfl⟩
  rw [← ero_33] at pf_29
  have tb_34 : TpB (rTE (cB (Tf 1) (Tv 0)) ro_33) sv_25 sv_27 := TpR.tb pf_29
  refine W.eq (g2 := F0 m 29 ls [.int r_30]) rfl ?_
  replace hP : va_P D classes [((Wa 0), .inr (0, [.ref (Aa 0)])), ((Aa 0), .inr (9, [.int (Av 0), .int (Av 1), .int (Av 2), .int (Av 3), .int (Av 4), .int (Av 5), .ref (Aa 1), .ref (Aa 2), .ref (Aa 3), .ref (Aa 4), .ref (Aa 5), .ref (Aa 6), .ref (Aa 7), .ref (Aa 8)])), ((Aa 1), .inl (tc 0, 10, .inl (Af 1))), ((Aa 2), .inl (tc 0, 10, .inl (Af 2))), ((Aa 3), .inl (tc 0, 6, .inl (Af 3))), ((Aa 4), .inl (tc 0, 6, .inl (Af 4))), ((Aa 5), .inl (tc 0, 6, .inl (Af 5))), ((Aa 6), .inl (tc 0, 6, .inl (Af 6))), ((Aa 7), .inl (tc 0, 6, .inl (Af 7))), ((Aa 8), .inl (tc 0, 6, .inl (Af 8))), ((Ta 0), .inr (10, [.ref (Ta 1), .int (Tv 0), .int sv_24, .int sv_25, .int sv_26, .int sv_27])), ((Ta 1), .inl (tc 0, 400, .inl (Tf 1)))] H := hP₀
  replace hD : va_D A [((Wa 0), .inr (0, [.ref (Aa 0)])), ((Aa 0), .inr (9, [.int (Av 0), .int (Av 1), .int (Av 2), .int (Av 3), .int (Av 4), .int (Av 5), .ref (Aa 1), .ref (Aa 2), .ref (Aa 3), .ref (Aa 4), .ref (Aa 5), .ref (Aa 6), .ref (Aa 7), .ref (Aa 8)])), ((Aa 1), .inl (tc 0, 10, .inl (Af 1))), ((Aa 2), .inl (tc 0, 10, .inl (Af 2))), ((Aa 3), .inl (tc 0, 6, .inl (Af 3))), ((Aa 4), .inl (tc 0, 6, .inl (Af 4))), ((Aa 5), .inl (tc 0, 6, .inl (Af 5))), ((Aa 6), .inl (tc 0, 6, .inl (Af 6))), ((Aa 7), .inl (tc 0, 6, .inl (Af 7))), ((Aa 8), .inl (tc 0, 6, .inl (Af 8))), ((Ta 0), .inr (10, [.ref (Ta 1), .int (Tv 0), .int sv_24, .int sv_25, .int sv_26, .int sv_27])), ((Ta 1), .inl (tc 0, 400, .inl (Tf 1)))] := hD₀
  replace hS := hS₀
  clear hP₀ hD₀ hS₀
  refine lv_istore_n (lv' := [(3, .int r_30), (2, .int r_13), (0, .ref (Wa 0)), (1, .ref (Ta 0))]) hx hb dX0_readWatch_29 rfl hl (by decide) rfl (fun ls hl₀ => ?_)
  replace hl := hl₀
  clear hl₀
  refine lv_aload_n hx hb dX0_readWatch_30 rfl (lv_at hl 2 rfl) ?_
  refine gf_X0_12 hx hb hts hown hK hP 0 rfl rfl dX0_readWatch_31 ?_
  refine lv_iload_n hx hb dX0_readWatch_34 rfl (lv_at hl 1 rfl) ?_
  refine cV (a := (Aa 0)) (As := [.int r_13]) (rest := []) (wr := [((Wa 0), .inr (0, [.ref (Aa 0)])), ((Ta 0), .inr (10, [.ref (Ta 1), .int (Tv 0), .int sv_24, .int sv_25, .int sv_26, .int sv_27])), ((Ta 1), .inl (tc 0, 400, .inl (Tf 1)))]) ⟨hx, hb, hml, hown, hts⟩ hK hX hA (cu_zX9_hasClock l D tc sk (Aa 0) (Aa 1) (Aa 2) (Aa 3) (Aa 4) (Aa 5) (Aa 6) (Aa 7) (Aa 8) (Av 0) (Av 1) (Av 2) (Av 3) (Av 4) (Av 5) (Af 1) (Af 2) (Af 3) (Af 4) (Af 5) (Af 6) (Af 7) (Af 8) r_13) k_579 k_576 k_577 k_578 k_98 pl_X9_hasClock ⟨Nat.le_of_ble_eq_true rfl, Nat.le_of_ble_eq_true rfl⟩ rfl rfl (va_recv hK hP (ci := 9) (q0 := 1) rfl rfl) hP hD hS [1, 2, 3, 4, 5, 6, 7, 8, 9] [0, 10, 11] rfl rfl rfl rfl rfl (by decide) rfl hl.1 rfl (Nat.le_of_ble_eq_true rfl) dX0_readWatch_35 ⟨Nat.le_of_ble_eq_true rfl, Nat.le_of_ble_eq_true rfl⟩ (fun v_35 u_36 H locs hv_37 hP₀ hD₀ hS₀ => ?_)
  obtain ⟨r_38, rfl, he_39⟩ := hv_37
  have he_39 : ((r_38.toInt = 0 ∧ ¬ (0 ≤ r_13.toInt ∧ r_13.toInt < (Av 2).toInt ∧ r_13.toInt < 10)) ∨ (r_38.toInt = 1 ∧ (0 ≤ r_13.toInt ∧ r_13.toInt < (Av 2).toInt ∧ r_13.toInt < 10))) := he_39
  refine W.eq (g2 := F0 m 38 ls [.int r_38]) rfl ?_
  replace hP : va_P D classes [((Wa 0), .inr (0, [.ref (Aa 0)])), ((Ta 0), .inr (10, [.ref (Ta 1), .int (Tv 0), .int sv_24, .int sv_25, .int sv_26, .int sv_27])), ((Ta 1), .inl (tc 0, 400, .inl (Tf 1))), ((Aa 0), .inr (9, [.int (Av 0), .int (Av 1), .int (Av 2), .int (Av 3), .int (Av 4), .int (Av 5), .ref (Aa 1), .ref (Aa 2), .ref (Aa 3), .ref (Aa 4), .ref (Aa 5), .ref (Aa 6), .ref (Aa 7), .ref (Aa 8)])), ((Aa 1), .inl (tc 0, 10, .inl (Af 1))), ((Aa 2), .inl (tc 0, 10, .inl (Af 2))), ((Aa 3), .inl (tc 0, 6, .inl (Af 3))), ((Aa 4), .inl (tc 0, 6, .inl (Af 4))), ((Aa 5), .inl (tc 0, 6, .inl (Af 5))), ((Aa 6), .inl (tc 0, 6, .inl (Af 6))), ((Aa 7), .inl (tc 0, 6, .inl (Af 7))), ((Aa 8), .inl (tc 0, 6, .inl (Af 8)))] H := hP₀
  replace hD : va_D A [((Wa 0), .inr (0, [.ref (Aa 0)])), ((Ta 0), .inr (10, [.ref (Ta 1), .int (Tv 0), .int sv_24, .int sv_25, .int sv_26, .int sv_27])), ((Ta 1), .inl (tc 0, 400, .inl (Tf 1))), ((Aa 0), .inr (9, [.int (Av 0), .int (Av 1), .int (Av 2), .int (Av 3), .int (Av 4), .int (Av 5), .ref (Aa 1), .ref (Aa 2), .ref (Aa 3), .ref (Aa 4), .ref (Aa 5), .ref (Aa 6), .ref (Aa 7), .ref (Aa 8)])), ((Aa 1), .inl (tc 0, 10, .inl (Af 1))), ((Aa 2), .inl (tc 0, 10, .inl (Af 2))), ((Aa 3), .inl (tc 0, 6, .inl (Af 3))), ((Aa 4), .inl (tc 0, 6, .inl (Af 4))), ((Aa 5), .inl (tc 0, 6, .inl (Af 5))), ((Aa 6), .inl (tc 0, 6, .inl (Af 6))), ((Aa 7), .inl (tc 0, 6, .inl (Af 7))), ((Aa 8), .inl (tc 0, 6, .inl (Af 8)))] := hD₀
  replace hS := hS₀
  clear hP₀ hD₀ hS₀
  refine lv_if_eq (tgt := 67) hx hb dX0_readWatch_38 (by decide) (fun c_41 => ?_) (fun c_41 => ?_)
  · skip
    have hu_42 : TpR (Tf 1) (Tv 0) (rNX (cB (Tf 1) (Tv 0)) (rNU (cB (Tf 1) (Tv 0)) 0 ((Av 3).toInt - 1) (rNX (cB (Tf 1) (Tv 0)) (rNU (cB (Tf 1) (Tv 0)) 0 ((Av 2) - 1 : Int32).toInt rr)))) sv_24 sv_25 sv_26 sv_27 := by
      rw [← ero_16, ← ero_33]
      exact pf_29
    have hf_43 : TpR (Tf 1) (Tv 0) (rN1 (cB (Tf 1) (Tv 0)) 0 ((Av 3).toInt - 1) (rN1 (cB (Tf 1) (Tv 0)) 0 ((Av 2) - 1 : Int32).toInt rr)) sv_24 sv_25 sv_26 sv_27 := hu_42
    have hv_44 : NuV (cB (Tf 1) (Tv 0)) 0 ((Av 2) - 1 : Int32).toInt rr r_13 := by
      have hq := he_14
      exact hq
    have hv_45 : NuV (cB (Tf 1) (Tv 0)) 0 ((Av 3).toInt - 1) (rN1 (cB (Tf 1) (Tv 0)) 0 ((Av 2) - 1 : Int32).toInt rr) r_30 := by
      have hq := he_31
      rw [ero_16] at hq
      exact hq
    have hr_47 : ¬ (0 ≤ (r_13 : Int32).toInt ∧ (r_13 : Int32).toInt < (Av 2).toInt ∧ (r_13 : Int32).toInt < 10 ∧ 0 ≤ (r_30 : Int32).toInt ∧ (r_30 : Int32).toInt < (Av 3).toInt ∧ (r_30 : Int32).toInt < 6) := by
      have z_1 := congrArg Int32.toInt c_41
      have y_0 : (0 : Int32).toInt = 0 := by decide
      omega
    have hs_46 : QsQ (qz_k3 (cB (Tf 1) (Tv 0)) C rr) (Av 0) (Av 1) (Av 2) (Av 3) (Av 4) (Av 5) (Af 1) (Af 2) (Af 3) (Af 4) (Af 5) (Af 6) (Af 7) (Af 8) := QsQ.n3 h_c hv_44 hv_45 h_bu hr_47
    exact retV hx hb hr hlk hP hD hS ((Af 2), sv_24, sv_25, sv_26, sv_27) ⟨rfl, pf_28, h_bu, hf_43, hs_46⟩ [0, 3, 4, 5, 6, 7, 8, 9, 10, 11, 1, 2] rfl rfl dX0_readWatch_67 (Nat.le_of_ble_eq_true rfl) (Nat.le_of_ble_eq_true rfl) rfl
  · skip
    refine lv_aload_n hx hb dX0_readWatch_41 rfl (lv_at hl 2 rfl) ?_
    refine gf_X0_12 hx hb hts hown hK hP 0 rfl rfl dX0_readWatch_42 ?_
    refine lv_iload_n hx hb dX0_readWatch_45 rfl (lv_at hl 0 rfl) ?_
    refine cV (a := (Aa 0)) (As := [.int r_30]) (rest := []) (wr := [((Wa 0), .inr (0, [.ref (Aa 0)])), ((Ta 0), .inr (10, [.ref (Ta 1), .int (Tv 0), .int sv_24, .int sv_25, .int sv_26, .int sv_27])), ((Ta 1), .inl (tc 0, 400, .inl (Tf 1)))]) ⟨hx, hb, hml, hown, hts⟩ hK hX hA (cu_zX9_hasBuyer l D tc sk (Aa 0) (Aa 1) (Aa 2) (Aa 3) (Aa 4) (Aa 5) (Aa 6) (Aa 7) (Aa 8) (Av 0) (Av 1) (Av 2) (Av 3) (Av 4) (Av 5) (Af 1) (Af 2) (Af 3) (Af 4) (Af 5) (Af 6) (Af 7) (Af 8) r_30) k_591 k_588 k_589 k_590 k_98 pl_X9_hasBuyer ⟨Nat.le_of_ble_eq_true rfl, Nat.le_of_ble_eq_true rfl⟩ rfl rfl (va_recv hK hP (ci := 9) (q0 := 3) rfl rfl) hP hD hS [3, 4, 5, 6, 7, 8, 9, 10, 11] [0, 1, 2] rfl rfl rfl rfl rfl (by decide) rfl hl.1 rfl (Nat.le_of_ble_eq_true rfl) dX0_readWatch_46 ⟨Nat.le_of_ble_eq_true rfl, Nat.le_of_ble_eq_true rfl⟩ (fun v_48 u_49 H locs hv_50 hP₀ hD₀ hS₀ => ?_)
    obtain ⟨r_51, rfl, he_52⟩ := hv_50
    have he_52 : ((r_51.toInt = 0 ∧ ¬ (0 ≤ r_30.toInt ∧ r_30.toInt < (Av 3).toInt ∧ r_30.toInt < 6)) ∨ (r_51.toInt = 1 ∧ (0 ≤ r_30.toInt ∧ r_30.toInt < (Av 3).toInt ∧ r_30.toInt < 6))) := he_52
    refine W.eq (g2 := F0 m 49 ls [.int r_51]) rfl ?_
    replace hP : va_P D classes [((Wa 0), .inr (0, [.ref (Aa 0)])), ((Ta 0), .inr (10, [.ref (Ta 1), .int (Tv 0), .int sv_24, .int sv_25, .int sv_26, .int sv_27])), ((Ta 1), .inl (tc 0, 400, .inl (Tf 1))), ((Aa 0), .inr (9, [.int (Av 0), .int (Av 1), .int (Av 2), .int (Av 3), .int (Av 4), .int (Av 5), .ref (Aa 1), .ref (Aa 2), .ref (Aa 3), .ref (Aa 4), .ref (Aa 5), .ref (Aa 6), .ref (Aa 7), .ref (Aa 8)])), ((Aa 1), .inl (tc 0, 10, .inl (Af 1))), ((Aa 2), .inl (tc 0, 10, .inl (Af 2))), ((Aa 3), .inl (tc 0, 6, .inl (Af 3))), ((Aa 4), .inl (tc 0, 6, .inl (Af 4))), ((Aa 5), .inl (tc 0, 6, .inl (Af 5))), ((Aa 6), .inl (tc 0, 6, .inl (Af 6))), ((Aa 7), .inl (tc 0, 6, .inl (Af 7))), ((Aa 8), .inl (tc 0, 6, .inl (Af 8)))] H := hP₀
    replace hD : va_D A [((Wa 0), .inr (0, [.ref (Aa 0)])), ((Ta 0), .inr (10, [.ref (Ta 1), .int (Tv 0), .int sv_24, .int sv_25, .int sv_26, .int sv_27])), ((Ta 1), .inl (tc 0, 400, .inl (Tf 1))), ((Aa 0), .inr (9, [.int (Av 0), .int (Av 1), .int (Av 2), .int (Av 3), .int (Av 4), .int (Av 5), .ref (Aa 1), .ref (Aa 2), .ref (Aa 3), .ref (Aa 4), .ref (Aa 5), .ref (Aa 6), .ref (Aa 7), .ref (Aa 8)])), ((Aa 1), .inl (tc 0, 10, .inl (Af 1))), ((Aa 2), .inl (tc 0, 10, .inl (Af 2))), ((Aa 3), .inl (tc 0, 6, .inl (Af 3))), ((Aa 4), .inl (tc 0, 6, .inl (Af 4))), ((Aa 5), .inl (tc 0, 6, .inl (Af 5))), ((Aa 6), .inl (tc 0, 6, .inl (Af 6))), ((Aa 7), .inl (tc 0, 6, .inl (Af 7))), ((Aa 8), .inl (tc 0, 6, .inl (Af 8)))] := hD₀
    replace hS := hS₀
    clear hP₀ hD₀ hS₀
    refine lv_if_eq (tgt := 67) hx hb dX0_readWatch_49 (by decide) (fun c_54 => ?_) (fun c_54 => ?_)
    · skip
      have hu_55 : TpR (Tf 1) (Tv 0) (rNX (cB (Tf 1) (Tv 0)) (rNU (cB (Tf 1) (Tv 0)) 0 ((Av 3).toInt - 1) (rNX (cB (Tf 1) (Tv 0)) (rNU (cB (Tf 1) (Tv 0)) 0 ((Av 2) - 1 : Int32).toInt rr)))) sv_24 sv_25 sv_26 sv_27 := by
        rw [← ero_16, ← ero_33]
        exact pf_29
      have hf_56 : TpR (Tf 1) (Tv 0) (rN1 (cB (Tf 1) (Tv 0)) 0 ((Av 3).toInt - 1) (rN1 (cB (Tf 1) (Tv 0)) 0 ((Av 2) - 1 : Int32).toInt rr)) sv_24 sv_25 sv_26 sv_27 := hu_55
      have hv_57 : NuV (cB (Tf 1) (Tv 0)) 0 ((Av 2) - 1 : Int32).toInt rr r_13 := by
        have hq := he_14
        exact hq
      have hv_58 : NuV (cB (Tf 1) (Tv 0)) 0 ((Av 3).toInt - 1) (rN1 (cB (Tf 1) (Tv 0)) 0 ((Av 2) - 1 : Int32).toInt rr) r_30 := by
        have hq := he_31
        rw [ero_16] at hq
        exact hq
      have hr_60 : ¬ (0 ≤ (r_13 : Int32).toInt ∧ (r_13 : Int32).toInt < (Av 2).toInt ∧ (r_13 : Int32).toInt < 10 ∧ 0 ≤ (r_30 : Int32).toInt ∧ (r_30 : Int32).toInt < (Av 3).toInt ∧ (r_30 : Int32).toInt < 6) := by
        have z_1 : ¬ (r_38 : Int32).toInt = (0 : Int32).toInt := fun z => c_41 (Int32.toInt_inj.mp z)
        have z_2 := congrArg Int32.toInt c_54
        have y_0 : (0 : Int32).toInt = 0 := by decide
        omega
      have hs_59 : QsQ (qz_k3 (cB (Tf 1) (Tv 0)) C rr) (Av 0) (Av 1) (Av 2) (Av 3) (Av 4) (Av 5) (Af 1) (Af 2) (Af 3) (Af 4) (Af 5) (Af 6) (Af 7) (Af 8) := QsQ.n3 h_c hv_57 hv_58 h_bu hr_60
      exact retV hx hb hr hlk hP hD hS ((Af 2), sv_24, sv_25, sv_26, sv_27) ⟨rfl, pf_28, h_bu, hf_56, hs_59⟩ [0, 3, 4, 5, 6, 7, 8, 9, 10, 11, 1, 2] rfl rfl dX0_readWatch_67 (Nat.le_of_ble_eq_true rfl) (Nat.le_of_ble_eq_true rfl) rfl
    · skip
      refine lv_aload_n hx hb dX0_readWatch_52 rfl (lv_at hl 2 rfl) ?_
      refine gf_X0_12 hx hb hts hown hK hP 0 rfl rfl dX0_readWatch_53 ?_
      refine gf_X0_103 hx hb hts hown hK hP 3 rfl rfl dX0_readWatch_56 ?_
      refine lv_iload_n hx hb dX0_readWatch_59 rfl (lv_at hl 1 rfl) ?_
      refine lv_dup2_11 hx hb dX0_readWatch_60 rfl rfl ?_
      have hi_61 : vp_in r_13 10 := by
        have z_1 : ¬ (r_38 : Int32).toInt = (0 : Int32).toInt := fun z => c_41 (Int32.toInt_inj.mp z)
        have z_2 : ¬ (r_51 : Int32).toInt = (0 : Int32).toInt := fun z => c_54 (Int32.toInt_inj.mp z)
        have y_0 : (0 : Int32).toInt = 0 := by decide
        refine vp_in_iff.mpr ⟨?_, ?_⟩ <;> omega
      refine va_iald hx hb hK hP 5 0 rfl rfl hi_61 dX0_readWatch_61 ?_
      refine lv_topi (fun x_62 ex_62 => ?_)
      refine lv_iconst (v := 1) hx hb dX0_readWatch_62 (by decide) ?_
      refine lv_iload_n hx hb dX0_readWatch_63 rfl (lv_at hl 0 rfl) ?_
      refine lv_ishl hx hb dX0_readWatch_64 ?_
      refine lv_topi (fun x_63 ex_63 => ?_)
      refine lv_ior hx hb dX0_readWatch_65 ?_
      refine lv_topi (fun x_64 ex_64 => ?_)
      have hi_65 : vp_in r_13 10 := by
        have z_1 : ¬ (r_38 : Int32).toInt = (0 : Int32).toInt := fun z => c_41 (Int32.toInt_inj.mp z)
        have z_2 : ¬ (r_51 : Int32).toInt = (0 : Int32).toInt := fun z => c_54 (Int32.toInt_inj.mp z)
        have y_0 : (0 : Int32).toInt = 0 := by decide
        refine vp_in_iff.mpr ⟨?_, ?_⟩ <;> omega
      refine st_int hx hb hK hP hD hS 5 0 rfl rfl hi_65 dX0_readWatch_66 (fun g_66 H locs eg_66 hP₀ hD₀ hS₀ => ?_)
      replace hP : va_P D classes [((Wa 0), .inr (0, [.ref (Aa 0)])), ((Ta 0), .inr (10, [.ref (Ta 1), .int (Tv 0), .int sv_24, .int sv_25, .int sv_26, .int sv_27])), ((Ta 1), .inl (tc 0, 400, .inl (Tf 1))), ((Aa 0), .inr (9, [.int (Av 0), .int (Av 1), .int (Av 2), .int (Av 3), .int (Av 4), .int (Av 5), .ref (Aa 1), .ref (Aa 2), .ref (Aa 3), .ref (Aa 4), .ref (Aa 5), .ref (Aa 6), .ref (Aa 7), .ref (Aa 8)])), ((Aa 1), .inl (tc 0, 10, .inl (Af 1))), ((Aa 2), .inl (tc 0, 10, .inl g_66)), ((Aa 3), .inl (tc 0, 6, .inl (Af 3))), ((Aa 4), .inl (tc 0, 6, .inl (Af 4))), ((Aa 5), .inl (tc 0, 6, .inl (Af 5))), ((Aa 6), .inl (tc 0, 6, .inl (Af 6))), ((Aa 7), .inl (tc 0, 6, .inl (Af 7))), ((Aa 8), .inl (tc 0, 6, .inl (Af 8)))] H := hP₀
      replace hD : va_D A [((Wa 0), .inr (0, [.ref (Aa 0)])), ((Ta 0), .inr (10, [.ref (Ta 1), .int (Tv 0), .int sv_24, .int sv_25, .int sv_26, .int sv_27])), ((Ta 1), .inl (tc 0, 400, .inl (Tf 1))), ((Aa 0), .inr (9, [.int (Av 0), .int (Av 1), .int (Av 2), .int (Av 3), .int (Av 4), .int (Av 5), .ref (Aa 1), .ref (Aa 2), .ref (Aa 3), .ref (Aa 4), .ref (Aa 5), .ref (Aa 6), .ref (Aa 7), .ref (Aa 8)])), ((Aa 1), .inl (tc 0, 10, .inl (Af 1))), ((Aa 2), .inl (tc 0, 10, .inl g_66)), ((Aa 3), .inl (tc 0, 6, .inl (Af 3))), ((Aa 4), .inl (tc 0, 6, .inl (Af 4))), ((Aa 5), .inl (tc 0, 6, .inl (Af 5))), ((Aa 6), .inl (tc 0, 6, .inl (Af 6))), ((Aa 7), .inl (tc 0, 6, .inl (Af 7))), ((Aa 8), .inl (tc 0, 6, .inl (Af 8)))] := hD₀
      replace hS := hS₀
      clear hP₀ hD₀ hS₀
      have hu_67 : TpR (Tf 1) (Tv 0) (rNX (cB (Tf 1) (Tv 0)) (rNU (cB (Tf 1) (Tv 0)) 0 ((Av 3).toInt - 1) (rNX (cB (Tf 1) (Tv 0)) (rNU (cB (Tf 1) (Tv 0)) 0 ((Av 2) - 1 : Int32).toInt rr)))) sv_24 sv_25 sv_26 sv_27 := by
        rw [← ero_16, ← ero_33]
        exact pf_29
      have hf_68 : TpR (Tf 1) (Tv 0) (rN1 (cB (Tf 1) (Tv 0)) 0 ((Av 3).toInt - 1) (rN1 (cB (Tf 1) (Tv 0)) 0 ((Av 2) - 1 : Int32).toInt rr)) sv_24 sv_25 sv_26 sv_27 := hu_67
      have hv_69 : NuV (cB (Tf 1) (Tv 0)) 0 ((Av 2) - 1 : Int32).toInt rr r_13 := by
        have hq := he_14
        exact hq
      have hv_70 : NuV (cB (Tf 1) (Tv 0)) 0 ((Av 3).toInt - 1) (rN1 (cB (Tf 1) (Tv 0)) 0 ((Av 2) - 1 : Int32).toInt rr) r_30 := by
        have hq := he_31
        rw [ero_16] at hq
        exact hq
      have he_72 : g_66 = upd (Af 2) (r_13 : Int32).toNatClampNeg ((Af 2) (r_13 : Int32).toNatClampNeg ||| ((1 : Int32) <<< ((r_30 : Int32) &&& 31))) := by rw [eg_66, ex_64, ex_62, ex_63]
      have hs_71 : QsQ (qz_k3 (cB (Tf 1) (Tv 0)) C rr) (Av 0) (Av 1) (Av 2) (Av 3) (Av 4) (Av 5) (Af 1) g_66 (Af 3) (Af 4) (Af 5) (Af 6) (Af 7) (Af 8) := QsQ.b3 h_c hv_69 hv_70 he_72
      exact retV hx hb hr hlk hP hD hS (g_66, sv_24, sv_25, sv_26, sv_27) ⟨rfl, pf_28, h_bu, hf_68, hs_71⟩ [0, 3, 4, 5, 6, 7, 8, 9, 10, 11, 1, 2] rfl rfl dX0_readWatch_67 (Nat.le_of_ble_eq_true rfl) (Nat.le_of_ble_eq_true rfl) rfl
set_option maxRecDepth 100000 in
theorem cu_zX0_readWatch (l : Launch) (D : va_G) (tc : Nat → ClassId) (sk : (Nat → Nat) × (Nat → Nat)) (Wa_0 : Nat) (Aa_0 : Nat) (Aa_1 : Nat) (Aa_2 : Nat) (Aa_3 : Nat) (Aa_4 : Nat) (Aa_5 : Nat) (Aa_6 : Nat) (Aa_7 : Nat) (Aa_8 : Nat) (Av_0 : Int32) (Av_1 : Int32) (Av_2 : Int32) (Av_3 : Int32) (Av_4 : Int32) (Av_5 : Int32) (Af_1 : Nat → Int32) (Af_2 : Nat → Int32) (Af_3 : Nat → Int32) (Af_4 : Nat → Int32) (Af_5 : Nat → Int32) (Af_6 : Nat → Int32) (Af_7 : Nat → Int32) (Af_8 : Nat → Int32) (Ta_0 : Nat) (Ta_1 : Nat) (Tv_0 : Int32) (Tv_1 : Int32) (Tv_2 : Int32) (Tv_3 : Int32) (Tv_4 : Int32) (Tf_1 : Nat → Int32) (rr : Except Int (Nat × Nat)) (C : Nat → Int) (h_tape : 0 ≤ (Tv_0 : Int32).toInt ∧ (Tv_0 : Int32).toInt ≤ 400 ∧ 0 ≤ (Tv_1 : Int32).toInt ∧ (Tv_1 : Int32).toInt ≤ 400 ∧ 0 ≤ (Tv_2 : Int32).toInt ∧ (Tv_2 : Int32).toInt ≤ 400) (h_by : Byt Tf_1) (h_r : TpR Tf_1 Tv_0 rr Tv_1 Tv_2 Tv_3 Tv_4) (h_bu : 0 ≤ (Av_3 : Int32).toInt ∧ (Av_3 : Int32).toInt ≤ 6) (h_c : QcI rr Av_0 Av_1 Av_2 Av_3 Av_4 Av_5 Af_1 Af_2 Af_3 Af_4 Af_5 Af_6 Af_7 Af_8 C) : Ct l yX0_readWatch cX0_readWatch 4 none { frames := 3, cells := 0, slots := 0, locals := 68 } D tc sk [.ref Wa_0, .ref Ta_0] [(Wa_0, .inr (0, [.ref Aa_0])), (Aa_0, .inr (9, [.int Av_0, .int Av_1, .int Av_2, .int Av_3, .int Av_4, .int Av_5, .ref Aa_1, .ref Aa_2, .ref Aa_3, .ref Aa_4, .ref Aa_5, .ref Aa_6, .ref Aa_7, .ref Aa_8])), (Aa_1, .inl (tc 0, 10, .inl Af_1)), (Aa_2, .inl (tc 0, 10, .inl Af_2)), (Aa_3, .inl (tc 0, 6, .inl Af_3)), (Aa_4, .inl (tc 0, 6, .inl Af_4)), (Aa_5, .inl (tc 0, 6, .inl Af_5)), (Aa_6, .inl (tc 0, 6, .inl Af_6)), (Aa_7, .inl (tc 0, 6, .inl Af_7)), (Aa_8, .inl (tc 0, 6, .inl Af_8)), (Ta_0, .inr (10, [.ref Ta_1, .int Tv_0, .int Tv_1, .int Tv_2, .int Tv_3, .int Tv_4])), (Ta_1, .inl (tc 0, 400, .inl Tf_1))] (fun (v : Option Value) (u : (Nat → Int32) × (Int32) × (Int32) × (Int32) × (Int32)) => match u with | (oo0x1, oo0x2, oo0x3, oo0x4, oo0x5) => v = none ∧ (0 ≤ (Tv_0 : Int32).toInt ∧ (Tv_0 : Int32).toInt ≤ 400 ∧ 0 ≤ (oo0x2 : Int32).toInt ∧ (oo0x2 : Int32).toInt ≤ 400 ∧ 0 ≤ (oo0x3 : Int32).toInt ∧ (oo0x3 : Int32).toInt ≤ 400) ∧ (0 ≤ (Av_3 : Int32).toInt ∧ (Av_3 : Int32).toInt ≤ 6) ∧ (TpR Tf_1 Tv_0 (rN1 (cB Tf_1 Tv_0) 0 (Av_3.toInt - 1) (rN1 (cB Tf_1 Tv_0) 0 (Av_2 - 1 : Int32).toInt rr)) oo0x2 oo0x3 oo0x4 oo0x5) ∧ (QsQ (qz_k3 (cB Tf_1 Tv_0) C rr) Av_0 Av_1 Av_2 Av_3 Av_4 Av_5 Af_1 oo0x1 Af_3 Af_4 Af_5 Af_6 Af_7 Af_8)) (fun (u : (Nat → Int32) × (Int32) × (Int32) × (Int32) × (Int32)) => match u with | (oo0x1, oo0x2, oo0x3, oo0x4, oo0x5) => [(Wa_0, .inr (0, [.ref Aa_0])), (Aa_0, .inr (9, [.int Av_0, .int Av_1, .int Av_2, .int Av_3, .int Av_4, .int Av_5, .ref Aa_1, .ref Aa_2, .ref Aa_3, .ref Aa_4, .ref Aa_5, .ref Aa_6, .ref Aa_7, .ref Aa_8])), (Aa_1, .inl (tc 0, 10, .inl Af_1)), (Aa_2, .inl (tc 0, 10, .inl oo0x1)), (Aa_3, .inl (tc 0, 6, .inl Af_3)), (Aa_4, .inl (tc 0, 6, .inl Af_4)), (Aa_5, .inl (tc 0, 6, .inl Af_5)), (Aa_6, .inl (tc 0, 6, .inl Af_6)), (Aa_7, .inl (tc 0, 6, .inl Af_7)), (Aa_8, .inl (tc 0, 6, .inl Af_8)), (Ta_0, .inr (10, [.ref Ta_1, .int Tv_0, .int oo0x2, .int oo0x3, .int oo0x4, .int oo0x5])), (Ta_1, .inl (tc 0, 400, .inl Tf_1))]) 0 0 :=
  ct_zX0_readWatch l D tc sk (fun k => ([Wa_0] : List (Nat)).getD k 0) (fun k => ([Aa_0, Aa_1, Aa_2, Aa_3, Aa_4, Aa_5, Aa_6, Aa_7, Aa_8] : List (Nat)).getD k 0) (fun k => ([Av_0, Av_1, Av_2, Av_3, Av_4, Av_5] : List (Int32)).getD k 0) (fun k => ([(fun _ => 0), Af_1, Af_2, Af_3, Af_4, Af_5, Af_6, Af_7, Af_8] : List (Nat → Int32)).getD k (fun _ => 0)) (fun k => ([Ta_0, Ta_1] : List (Nat)).getD k 0) (fun k => ([Tv_0, Tv_1, Tv_2, Tv_3, Tv_4] : List (Int32)).getD k 0) (fun k => ([(fun _ => 0), Tf_1] : List (Nat → Int32)).getD k (fun _ => 0)) rr C h_tape h_by h_r h_bu h_c
