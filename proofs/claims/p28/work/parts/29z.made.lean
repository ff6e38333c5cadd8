set_option maxHeartbeats 4000000 in
set_option maxRecDepth 100000 in
theorem ct_X5_giveBack_n_b (l : Launch) (D : va_G) (tc : Nat → ClassId) (sk : (Nat → Nat) × (Nat → Nat)) (Pa : Nat → Nat) (Pv : Nat → Int32) (Pq : Nat → Nat → Option Nat) (Aa : Nat → Nat) (Av : Nat → Int32) (Af : Nat → Nat → Int32) (h_nx : 0 ≤ ((Pv 0) : Int32).toInt ∧ ((Pv 0) : Int32).toInt < 20) (h_q : ∀ j : Int32, j.toInt = ((Pv 0).toInt + 19) % 20 → (Pq 1) j.toNatClampNeg = none) (h_bA : 0 ≤ ((Av 3) : Int32).toInt ∧ ((Av 3) : Int32).toInt ≤ 6) : Ct l yX5_giveBack cX5_giveBack 4 (some .int) { frames := 0, cells := 0, slots := 0, locals := 0 } D tc sk [.ref (Pa 0), .ref (Aa 0)] [((Pa 0), .inr (5, [.ref (Pa 1), .int (Pv 0), .int (Pv 1)])), ((Pa 1), .inl (tc 5, 20, .inr (.inr (.inr (.inr (Pq 1)))))), ((Aa 0), .inr (9, [.int (Av 0), .int (Av 1), .int (Av 2), .int (Av 3), .int (Av 4), .int (Av 5), .ref (Aa 1), .ref (Aa 2), .ref (Aa 3), .ref (Aa 4), .ref (Aa 5), .ref (Aa 6), .ref (Aa 7), .ref (Aa 8)])), ((Aa 1), .inl (tc 0, 10, .inl (Af 1))), ((Aa 2), .inl (tc 0, 10, .inl (Af 2))), ((Aa 3), .inl (tc 0, 6, .inl (Af 3))), ((Aa 4), .inl (tc 0, 6, .inl (Af 4))), ((Aa 5), .inl (tc 0, 6, .inl (Af 5))), ((Aa 6), .inl (tc 0, 6, .inl (Af 6))), ((Aa 7), .inl (tc 0, 6, .inl (Af 7))), ((Aa 8), .inl (tc 0, 6, .inl (Af 8)))] (fun (v : Option Value) (_ : Unit) => ∃ r : Int32, v = some (.int r) ∧ (True) ∧ (0 ≤ ((Pv 0) : Int32).toInt ∧ ((Pv 0) : Int32).toInt < 20) ∧ (0 ≤ ((Av 3) : Int32).toInt ∧ ((Av 3) : Int32).toInt ≤ 6)) (fun (_ : Unit) => [((Pa 0), .inr (5, [.ref (Pa 1), .int (Pv 0), .int (Pv 1)])), ((Pa 1), .inl (tc 5, 20, .inr (.inr (.inr (.inr (Pq 1)))))), ((Aa 0), .inr (9, [.int (Av 0), .int (Av 1), .int (Av 2), .int (Av 3), .int (Av 4), .int (Av 5), .ref (Aa 1), .ref (Aa 2), .ref (Aa 3), .ref (Aa 4), .ref (Aa 5), .ref (Aa 6), .ref (Aa 7), .ref (Aa 8)])), ((Aa 1), .inl (tc 0, 10, .inl (Af 1))), ((Aa 2), .inl (tc 0, 10, .inl (Af 2))), ((Aa 3), .inl (tc 0, 6, .inl (Af 3))), ((Aa 4), .inl (tc 0, 6, .inl (Af 4))), ((Aa 5), .inl (tc 0, 6, .inl (Af 5))), ((Aa 6), .inl (tc 0, 6, .inl (Af 6))), ((Aa 7), .inl (tc 0, 6, .inl (Af 7))), ((Aa 8), .inl (tc 0, 6, .inl (Af 8)))]) 0 0 := by
  refine Ct.start (by decide) (Nat.le_of_ble_eq_true rfl) (fun p e s m below meth c A ls hx hb hr hlk hin hml hown hts hK hX hP hD hA hl hS => ?_)
  have hl : lv_has ls 4 [(0, .ref (Pa 0)), (1, .ref (Aa 0))] := hl
  refine lv_aload_n hx hb dX5_giveBack_0 rfl (lv_at hl 0 rfl) ?_
  refine gf_X5_17 hx hb hts hown hK hP 0 rfl rfl dX5_giveBack_1 ?_
  refine lv_bipush (v := 20) hx hb dX5_giveBack_4 (by decide) ?_
  refine lv_iadd hx hb dX5_giveBack_6 ?_
  refine lv_topi (fun x_1 ex_1 => ?_)
  refine lv_iconst (v := 1) hx hb dX5_giveBack_7 (by decide) ?_
  refine lv_isub hx hb dX5_giveBack_8 ?_
  refine lv_topi (fun x_2 ex_2 => ?_)
  refine lv_bipush (v := 20) hx hb dX5_giveBack_9 (by decide) ?_
  refine lv_irem hx hb dX5_giveBack_11 (by decide) ?_
  refine lv_topi (fun x_3 ex_3 => ?_)
  refine lv_istore_n (lv' := [(2, .int x_3), (0, .ref (Pa 0)), (1, .ref (Aa 0))]) hx hb dX5_giveBack_12 rfl hl (by decide) rfl (fun ls hl₀ => ?_)
  replace hl := hl₀
  clear hl₀
  refine lv_aload_n hx hb dX5_giveBack_13 rfl (lv_at hl 1 rfl) ?_
  refine gf_X5_21 hx hb hts hown hK hP 0 rfl rfl dX5_giveBack_14 ?_
  refine lv_if_le (tgt := 24) hx hb dX5_giveBack_17 (by decide) (fun c_4 => ?_) (fun c_4 => ?_)
  · skip
    refine lv_iconst (v := (-1)) hx hb dX5_giveBack_24 (by decide) ?_
    exact retI (v := (-1)) hx hb hr hlk (rfl) hP hD hS () ⟨_, rfl, trivial, h_nx, h_bA⟩ [0, 1, 2, 3, 4, 5, 6, 7, 8, 9, 10] rfl rfl dX5_giveBack_25 (Nat.le_of_ble_eq_true rfl) (Nat.le_of_ble_eq_true rfl) rfl
  · skip
    refine lv_iload_n hx hb dX5_giveBack_20 rfl (lv_at hl 0 rfl) ?_
    refine lv_if_ge (tgt := 26) hx hb dX5_giveBack_21 (by decide) (fun c_5 => ?_) (fun c_5 => ?_)
    · skip
      refine lv_aload_n hx hb dX5_giveBack_26 rfl (lv_at hl 1 rfl) ?_
      refine gf_X5_13 hx hb hts hown hK hP 0 rfl rfl dX5_giveBack_27 ?_
      refine lv_iload_n hx hb dX5_giveBack_30 rfl (lv_at hl 0 rfl) ?_
      have hi_6 : vp_in x_3 20 := by
        have z_1 := Int32.lt_iff_toInt_lt.mp (Int32.not_le.mp c_4)
        have z_2 := Int32.le_iff_toInt_le.mp c_5
        have y_0 : (0 : Int32).toInt = 0 := by decide
        have y_1 : (1 : Int32).toInt = 1 := by decide
        have y_20 : (20 : Int32).toInt = 20 := by decide
        have t_x_1 : x_1.toInt = ((Pv 0) : Int32).toInt + (20 : Int32).toInt := by rw [ex_1]; exact add_toInt (by omega) (by omega)
        have t_x_2 : x_2.toInt = (x_1 : Int32).toInt - (1 : Int32).toInt := by rw [ex_2]; exact sub_toInt (by omega) (by omega)
        have t_x_3 := rem_bounds (x := x_2) (y := 20) (by omega)
        rw [← ex_3] at t_x_3
        refine vp_in_iff.mpr ⟨?_, ?_⟩ <;> omega
      refine va_aldq hx hb hK hP 1 5 rfl rfl hi_6 dX5_giveBack_31 ?_
      have hi_7 : (x_3 : Int32).toInt = ((Pv 0).toInt + 19) % 20 := by
        have z_1 := Int32.lt_iff_toInt_lt.mp (Int32.not_le.mp c_4)
        have z_2 := Int32.le_iff_toInt_le.mp c_5
        have y_0 : (0 : Int32).toInt = 0 := by decide
        have y_1 : (1 : Int32).toInt = 1 := by decide
        have y_20 : (20 : Int32).toInt = 20 := by decide
        have t_x_1 : x_1.toInt = ((Pv 0) : Int32).toInt + (20 : Int32).toInt := by rw [ex_1]; exact add_toInt (by omega) (by omega)
        have t_x_2 : x_2.toInt = (x_1 : Int32).toInt - (1 : Int32).toInt := by rw [ex_2]; exact sub_toInt (by omega) (by omega)
        have t_x_3 := rem_bounds (x := x_2) (y := 20) (by omega)
        rw [← ex_3] at t_x_3
        have tz := rem_emod (x := x_2) (y := 20) (by omega)
        rw [← ex_3, show (20 : Int32).toInt = 20 by decide] at tz
        omega
      refine lv_val (v := .null) (by rw [h_q x_3 hi_7]; rfl) ?_
      refine lv_astore_nN (lv' := [(3, .null), (2, .int x_3), (0, .ref (Pa 0)), (1, .ref (Aa 0))]) hx hb dX5_giveBack_32 rfl hl (by decide) rfl (fun ls hl₀ => ?_)
      replace hl := hl₀
      clear hl₀
      refine lv_aload_nN hx hb dX5_giveBack_33 rfl (lv_at hl 0 rfl) ?_
      refine lv_ifnonnullN hx hb dX5_giveBack_34 ?_
      refine lv_iconst (v := (-1)) hx hb dX5_giveBack_37 (by decide) ?_
      exact retI (v := (-1)) hx hb hr hlk (rfl) hP hD hS () ⟨_, rfl, trivial, h_nx, h_bA⟩ [0, 1, 2, 3, 4, 5, 6, 7, 8, 9, 10] rfl rfl dX5_giveBack_38 (Nat.le_of_ble_eq_true rfl) (Nat.le_of_ble_eq_true rfl) rfl
    · skip
      refine lv_iconst (v := (-1)) hx hb dX5_giveBack_24 (by decide) ?_
      exact retI (v := (-1)) hx hb hr hlk (rfl) hP hD hS () ⟨_, rfl, trivial, h_nx, h_bA⟩ [0, 1, 2, 3, 4, 5, 6, 7, 8, 9, 10] rfl rfl dX5_giveBack_25 (Nat.le_of_ble_eq_true rfl) (Nat.le_of_ble_eq_true rfl) rfl
set_option maxRecDepth 100000 in
theorem cu_X5_giveBack_n_b (l : Launch) (D : va_G) (tc : Nat → ClassId) (sk : (Nat → Nat) × (Nat → Nat)) (Pa_0 : Nat) (Pa_1 : Nat) (Pv_0 : Int32) (Pv_1 : Int32) (Pq_1 : Nat → Option Nat) (Aa_0 : Nat) (Aa_1 : Nat) (Aa_2 : Nat) (Aa_3 : Nat) (Aa_4 : Nat) (Aa_5 : Nat) (Aa_6 : Nat) (Aa_7 : Nat) (Aa_8 : Nat) (Av_0 : Int32) (Av_1 : Int32) (Av_2 : Int32) (Av_3 : Int32) (Av_4 : Int32) (Av_5 : Int32) (Af_1 : Nat → Int32) (Af_2 : Nat → Int32) (Af_3 : Nat → Int32) (Af_4 : Nat → Int32) (Af_5 : Nat → Int32) (Af_6 : Nat → Int32) (Af_7 : Nat → Int32) (Af_8 : Nat → Int32) (h_nx : 0 ≤ (Pv_0 : Int32).toInt ∧ (Pv_0 : Int32).toInt < 20) (h_q : ∀ j : Int32, j.toInt = (Pv_0.toInt + 19) % 20 → Pq_1 j.toNatClampNeg = none) (h_bA : 0 ≤ (Av_3 : Int32).toInt ∧ (Av_3 : Int32).toInt ≤ 6) : Ct l yX5_giveBack cX5_giveBack 4 (some .int) { frames := 0, cells := 0, slots := 0, locals := 0 } D tc sk [.ref Pa_0, .ref Aa_0] [(Pa_0, .inr (5, [.ref Pa_1, .int Pv_0, .int Pv_1])), (Pa_1, .inl (tc 5, 20, .inr (.inr (.inr (.inr Pq_1))))), (Aa_0, .inr (9, [.int Av_0, .int Av_1, .int Av_2, .int Av_3, .int Av_4, .int Av_5, .ref Aa_1, .ref Aa_2, .ref Aa_3, .ref Aa_4, .ref Aa_5, .ref Aa_6, .ref Aa_7, .ref Aa_8])), (Aa_1, .inl (tc 0, 10, .inl Af_1)), (Aa_2, .inl (tc 0, 10, .inl Af_2)), (Aa_3, .inl (tc 0, 6, .inl Af_3)), (Aa_4, .inl (tc 0, 6, .inl Af_4)), (Aa_5, .inl (tc 0, 6, .inl Af_5)), (Aa_6, .inl (tc 0, 6, .inl Af_6)), (Aa_7, .inl (tc 0, 6, .inl Af_7)), (Aa_8, .inl (tc 0, 6, .inl Af_8))] (fun (v : Option Value) (_ : Unit) => ∃ r : Int32, v = some (.int r) ∧ (True) ∧ (0 ≤ (Pv_0 : Int32).toInt ∧ (Pv_0 : Int32).toInt < 20) ∧ (0 ≤ (Av_3 : Int32).toInt ∧ (Av_3 : Int32).toInt ≤ 6)) (fun (_ : Unit) => [(Pa_0, .inr (5, [.ref Pa_1, .int Pv_0, .int Pv_1])), (Pa_1, .inl (tc 5, 20, .inr (.inr (.inr (.inr Pq_1))))), (Aa_0, .inr (9, [.int Av_0, .int Av_1, .int Av_2, .int Av_3, .int Av_4, .int Av_5, .ref Aa_1, .ref Aa_2, .ref Aa_3, .ref Aa_4, .ref Aa_5, .ref Aa_6, .ref Aa_7, .ref Aa_8])), (Aa_1, .inl (tc 0, 10, .inl Af_1)), (Aa_2, .inl (tc 0, 10, .inl Af_2)), (Aa_3, .inl (tc 0, 6, .inl Af_3)), (Aa_4, .inl (tc 0, 6, .inl Af_4)), (Aa_5, .inl (tc 0, 6, .inl Af_5)), (Aa_6, .inl (tc 0, 6, .inl Af_6)), (Aa_7, .inl (tc 0, 6, .inl Af_7)), (Aa_8, .inl (tc 0, 6, .inl Af_8))]) 0 0 :=
  ct_X5_giveBack_n_b l D tc sk (fun k => ([Pa_0, Pa_1] : List (Nat)).getD k 0) (fun k => ([Pv_0, Pv_1] : List (Int32)).getD k 0) (fun k => ([(fun _ => none), Pq_1] : List (Nat → Option Nat)).getD k (fun _ => none)) (fun k => ([Aa_0, Aa_1, Aa_2, Aa_3, Aa_4, Aa_5, Aa_6, Aa_7, Aa_8] : List (Nat)).getD k 0) (fun k => ([Av_0, Av_1, Av_2, Av_3, Av_4, Av_5] : List (Int32)).getD k 0) (fun k => ([(fun _ => 0), Af_1, Af_2, Af_3, Af_4, Af_5, Af_6, Af_7, Af_8] : List (Nat → Int32)).getD k (fun _ => 0)) h_nx h_q h_bA
