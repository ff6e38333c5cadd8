set_option maxRecDepth 16384
theorem dX2_weigh_0 : decode cX2_weigh 0 = .ok (.aload_n 0, 1) := by decide +kernel
theorem dX2_weigh_1 : decode cX2_weigh 1 = .ok (.iconst 0, 1) := by decide +kernel
theorem dX2_weigh_2 : decode cX2_weigh 2 = .ok (.putfield 26, 3) := by decide +kernel
theorem dX2_weigh_5 : decode cX2_weigh 5 = .ok (.iconst 0, 1) := by decide +kernel
theorem dX2_weigh_6 : decode cX2_weigh 6 = .ok (.istore 4, 2) := by decide +kernel
theorem dX2_weigh_8 : decode cX2_weigh 8 = .ok (.iload 4, 2) := by decide +kernel
theorem dX2_weigh_10 : decode cX2_weigh 10 = .ok (.bipush 7, 2) := by decide +kernel
theorem dX2_weigh_12 : decode cX2_weigh 12 = .ok (.if_icmp .ge 137, 3) := by decide +kernel
theorem dX2_weigh_15 : decode cX2_weigh 15 = .ok (.aload_n 0, 1) := by decide +kernel
theorem dX2_weigh_16 : decode cX2_weigh 16 = .ok (.getfield 22, 3) := by decide +kernel
theorem dX2_weigh_19 : decode cX2_weigh 19 = .ok (.iload 4, 2) := by decide +kernel
theorem dX2_weigh_21 : decode cX2_weigh 21 = .ok (.iconst 0, 1) := by decide +kernel
theorem dX2_weigh_22 : decode cX2_weigh 22 = .ok (.bastore, 1) := by decide +kernel
theorem dX2_weigh_23 : decode cX2_weigh 23 = .ok (.iload 4, 2) := by decide +kernel
theorem dX2_weigh_25 : decode cX2_weigh 25 = .ok (.iload_n 3, 1) := by decide +kernel
theorem dX2_weigh_26 : decode cX2_weigh 26 = .ok (.if_icmp .gt 117, 3) := by decide +kernel
theorem dX2_weigh_29 : decode cX2_weigh 29 = .ok (.iload 4, 2) := by decide +kernel
theorem dX2_weigh_31 : decode cX2_weigh 31 = .ok (.aload_n 2, 1) := by decide +kernel
theorem dX2_weigh_32 : decode cX2_weigh 32 = .ok (.arraylength, 1) := by decide +kernel
theorem dX2_weigh_33 : decode cX2_weigh 33 = .ok (.if_icmp .gt 110, 3) := by decide +kernel
theorem dX2_weigh_36 : decode cX2_weigh 36 = .ok (.iload 4, 2) := by decide +kernel
theorem dX2_weigh_38 : decode cX2_weigh 38 = .ok (.ifCond .ne 7, 3) := by decide +kernel
theorem dX2_weigh_41 : decode cX2_weigh 41 = .ok (.aconst_null, 1) := by decide +kernel
theorem dX2_weigh_42 : decode cX2_weigh 42 = .ok (.goto 9, 3) := by decide +kernel
theorem dX2_weigh_45 : decode cX2_weigh 45 = .ok (.aload_n 2, 1) := by decide +kernel
theorem dX2_weigh_46 : decode cX2_weigh 46 = .ok (.iload 4, 2) := by decide +kernel
theorem dX2_weigh_48 : decode cX2_weigh 48 = .ok (.iconst 1, 1) := by decide +kernel
theorem dX2_weigh_49 : decode cX2_weigh 49 = .ok (.isub, 1) := by decide +kernel
theorem dX2_weigh_50 : decode cX2_weigh 50 = .ok (.aaload, 1) := by decide +kernel
theorem dX2_weigh_51 : decode cX2_weigh 51 = .ok (.astore 5, 2) := by decide +kernel
theorem dX2_weigh_53 : decode cX2_weigh 53 = .ok (.aload_n 0, 1) := by decide +kernel
theorem dX2_weigh_54 : decode cX2_weigh 54 = .ok (.getfield 14, 3) := by decide +kernel
theorem dX2_weigh_57 : decode cX2_weigh 57 = .ok (.aload_n 1, 1) := by decide +kernel
theorem dX2_weigh_58 : decode cX2_weigh 58 = .ok (.getfield 30, 3) := by decide +kernel
theorem dX2_weigh_61 : decode cX2_weigh 61 = .ok (.invokevirtual 35, 3) := by decide +kernel
theorem dX2_weigh_64 : decode cX2_weigh 64 = .ok (.iconst 0, 1) := by decide +kernel
theorem dX2_weigh_65 : decode cX2_weigh 65 = .ok (.istore 6, 2) := by decide +kernel
theorem dX2_weigh_67 : decode cX2_weigh 67 = .ok (.iload 6, 2) := by decide +kernel
theorem dX2_weigh_69 : decode cX2_weigh 69 = .ok (.bipush 61, 2) := by decide +kernel
theorem dX2_weigh_71 : decode cX2_weigh 71 = .ok (.if_icmp .ge 31, 3) := by decide +kernel
theorem dX2_weigh_74 : decode cX2_weigh 74 = .ok (.aload_n 0, 1) := by decide +kernel
theorem dX2_weigh_75 : decode cX2_weigh 75 = .ok (.getfield 18, 3) := by decide +kernel
theorem dX2_weigh_78 : decode cX2_weigh 78 = .ok (.iload 4, 2) := by decide +kernel
theorem dX2_weigh_80 : decode cX2_weigh 80 = .ok (.bipush 61, 2) := by decide +kernel
theorem dX2_weigh_82 : decode cX2_weigh 82 = .ok (.imul, 1) := by decide +kernel
theorem dX2_weigh_83 : decode cX2_weigh 83 = .ok (.iload 6, 2) := by decide +kernel
theorem dX2_weigh_85 : decode cX2_weigh 85 = .ok (.iadd, 1) := by decide +kernel
theorem dX2_weigh_86 : decode cX2_weigh 86 = .ok (.aload_n 0, 1) := by decide +kernel
theorem dX2_weigh_87 : decode cX2_weigh 87 = .ok (.getfield 14, 3) := by decide +kernel
theorem dX2_weigh_90 : decode cX2_weigh 90 = .ok (.aload 5, 2) := by decide +kernel
theorem dX2_weigh_92 : decode cX2_weigh 92 = .ok (.invokevirtual 39, 3) := by decide +kernel
theorem dX2_weigh_95 : decode cX2_weigh 95 = .ok (.iastore, 1) := by decide +kernel
theorem dX2_weigh_96 : decode cX2_weigh 96 = .ok (.iinc 6 1, 3) := by decide +kernel
theorem dX2_weigh_99 : decode cX2_weigh 99 = .ok (.goto (-32), 3) := by decide +kernel
theorem dX2_weigh_102 : decode cX2_weigh 102 = .ok (.aload_n 0, 1) := by decide +kernel
theorem dX2_weigh_103 : decode cX2_weigh 103 = .ok (.getfield 22, 3) := by decide +kernel
theorem dX2_weigh_106 : decode cX2_weigh 106 = .ok (.iload 4, 2) := by decide +kernel
theorem dX2_weigh_108 : decode cX2_weigh 108 = .ok (.aload_n 0, 1) := by decide +kernel
theorem dX2_weigh_109 : decode cX2_weigh 109 = .ok (.iload 4, 2) := by decide +kernel
theorem dX2_weigh_111 : decode cX2_weigh 111 = .ok (.aload_n 1, 1) := by decide +kernel
theorem dX2_weigh_112 : decode cX2_weigh 112 = .ok (.getfield 43, 3) := by decide +kernel
theorem dX2_weigh_115 : decode cX2_weigh 115 = .ok (.invokevirtual 47, 3) := by decide +kernel
theorem dX2_weigh_118 : decode cX2_weigh 118 = .ok (.bastore, 1) := by decide +kernel
theorem dX2_weigh_119 : decode cX2_weigh 119 = .ok (.aload_n 0, 1) := by decide +kernel
theorem dX2_weigh_120 : decode cX2_weigh 120 = .ok (.dup, 1) := by decide +kernel
theorem dX2_weigh_121 : decode cX2_weigh 121 = .ok (.getfield 26, 3) := by decide +kernel
theorem dX2_weigh_124 : decode cX2_weigh 124 = .ok (.aload_n 0, 1) := by decide +kernel
theorem dX2_weigh_125 : decode cX2_weigh 125 = .ok (.getfield 22, 3) := by decide +kernel
theorem dX2_weigh_128 : decode cX2_weigh 128 = .ok (.iload 4, 2) := by decide +kernel
theorem dX2_weigh_130 : decode cX2_weigh 130 = .ok (.baload, 1) := by decide +kernel
theorem dX2_weigh_131 : decode cX2_weigh 131 = .ok (.ifCond .eq 7, 3) := by decide +kernel
theorem dX2_weigh_134 : decode cX2_weigh 134 = .ok (.iconst 1, 1) := by decide +kernel
theorem dX2_weigh_135 : decode cX2_weigh 135 = .ok (.goto 4, 3) := by decide +kernel
theorem dX2_weigh_138 : decode cX2_weigh 138 = .ok (.iconst 0, 1) := by decide +kernel
theorem dX2_weigh_139 : decode cX2_weigh 139 = .ok (.iadd, 1) := by decide +kernel
theorem dX2_weigh_140 : decode cX2_weigh 140 = .ok (.putfield 26, 3) := by decide +kernel
theorem dX2_weigh_143 : decode cX2_weigh 143 = .ok (.iinc 4 1, 3) := by decide +kernel
theorem dX2_weigh_146 : decode cX2_weigh 146 = .ok (.goto (-138), 3) := by decide +kernel
theorem dX2_weigh_149 : decode cX2_weigh 149 = .ok (.return_, 1) := by decide +kernel
set_option maxHeartbeats 4000000 in
set_option maxRecDepth 100000 in
theorem ct_X5_giveBack_n_b (l : Launch) (D : va_G) (tc : Nat → ClassId) (sk : (Nat → Nat) × (Nat → Nat)) (Pa : Nat → Nat) (Pv : Nat → Int32) (Pq : Nat → Nat → Option Nat) (Aa : Nat → Nat) (Av : Nat → Int32) (Af : Nat → Nat → Int32) (h_nx : 0 ≤ ((Pv 0) : Int32).toInt ∧ ((Pv 0) : Int32).toInt < 20) (h_q : ∀ j : Int32, j.toInt = ((Pv 0).toInt + 19) % 20 → (Pq 1) j.toNatClampNeg = none) (h_bA : 0 ≤ ((Av 3) : Int32).toInt ∧ ((Av 3) : Int32).toInt ≤ 6) : Ct l yX5_giveBack cX5_giveBack 4 (some .int) { frames := 0, cells := 0, slots := 0, locals := 0 } D tc sk [.ref (Pa 0), .ref (Aa 0)] [((Pa 0), .inr (5, [.ref (Pa 1), .int (Pv 0), .int (Pv 1)])), ((Pa 1), .inl (tc 5, 20, .inr (.inr (.inr (.inr (Pq 1)))))), ((Aa 0), .inr (9, [.int (Av 0), .int (Av 1), .int (Av 2), .int (Av 3), .int (Av 4), .int (Av 5), .ref (Aa 1), .ref (Aa 2), .ref (Aa 3), .ref (Aa 4), .ref (Aa 5), .ref (Aa 6), .ref (Aa 7), .ref (Aa 8)])), ((Aa 1), .inl (tc 0, 10, .inl (Af 1))), ((Aa 2), .inl (tc 0, 10, .inl (Af 2))), ((Aa 3), .inl (tc 0, 6, .inl (Af 3))), ((Aa 4), .inl (tc 0, 6, .inl (Af 4))), ((Aa 5), .inl (tc 0, 6, .inl (Af 5))), ((Aa 6), .inl (tc 0, 6, .inl (Af 6))), ((Aa 7), .inl (tc 0, 6, .inl (Af 7))), ((Aa 8), .inl (tc 0, 6, .inl (Af 8)))] (fun (v : Option Value) (_ : Unit) => ∃ r : Int32, v = some (.int r) ∧ (True) ∧ (0 ≤ ((Pv 0) : Int32).toInt ∧ ((Pv 0) : Int32).toInt < 20) ∧ (0 ≤ ((Av 3) : Int32).toInt ∧ ((Av 3) : Int32).toInt ≤ 6)) (fun (_ : Unit) => [((Pa 0), .inr (5, [.ref (Pa 1), .int (Pv 0), .int (Pv 1)])), ((Pa 1), .inl (tc 5, 20, .inr (.inr (.inr (.inr (Pq 1)))))), ((Aa 0), .inr (9, [.int (Av 0), .int (Av 1), .int (Av 2), .int (Av 3), .int (Av 4), .int (Av 5), .ref (Aa 1), .ref (Aa 2), .ref (Aa 3), .ref (Aa 4), .ref (Aa 5), .ref (Aa 6), .ref (Aa 7), .ref (Aa 8)])), ((Aa 1), .inl (tc 0, 10, .inl (Af 1))), ((Aa 2), .inl (tc 0, 10, .inl (Af 2))), ((Aa 3), .inl (tc 0, 6, .inl (Af 3))), ((Aa 4), .inl (tc 0, 6, .inl (Af 4))), ((Aa 5), .inl (tc 0, 6, .inl (Af 5))), ((Aa 6), .inl (tc 0, 6, .inl (Af 6))), ((Aa 7), .inl (tc 0, 6, .inl (Af 7))), ((Aa 8), .inl (tc 0, 6, .inl (Af 8)))]) 0 0 := by
  refine Ct.start (by decide) (Nat.le_of_ble_eq_true rfl) (fun p e s m below meth c A ls hx hb hr hlk hin hml hown hts hK hX hP hD hA hl hS => ?_)
  have hl : lv_has ls 4 [(0, .ref (Pa 0)), (1, .ref (Aa 0))] := hl
  refine lv_aload_n hx hb dX5_giveBack_0 rfl (lv_at hl 0 rfl) ?_
  refine gf_X5_17 hx hb hts hown hK hP 0 rfl rfl dX5_giveBack_1 ?_
  refine lv_bipush (v := 20) hx hb dX5_giveBack_4 (by decide) ?_
  refine lv_iadd hx hb dX5_giveBack_6 ?_
  refine lv_topi (fun x_1 ex_1 => ?_)
  refine lv_iconst (v := 1) hx hb dX5_giveBack_7 (by decide) ?_
  refine lv_isub hx hb dX5_giveBack_8 ?_
  refine lv_topi (fun x_2 ex_2 => ?_)
  refine lv_bipush (v := 20) hx hb dX5_giveBack_9 (by decide) ?_
  refine lv_irem hx hb dX5_giveBack_11 (by decide) ?_
  refine lv_topi (fun x_3 ex_3 => ?_)
  refine lv_istore_n (lv' := [(2, .int x_3), (0, .ref (Pa 0)), (1, .ref (Aa 0))]) hx hb dX5_giveBack_12 rfl hl (by decide) rfl (fun ls hl₀ => ?_)
  replace hl := hl₀
  clear hl₀
  refine lv_aload_n hx hb dX5_giveBack_13 rfl (lv_at hl 1 rfl) ?_
  refine gf_X5_21 hx hb hts hown hK hP 0 rfl rfl dX5_giveBack_14 ?_
  refine lv_if_le (tgt := 24) hx hb dX5_giveBack_17 (by decide) (fun c_4 => ?_) (fun c_4 => ?_)
  · skip
    refine lv_iconst (v := (-1)) hx hb dX5_giveBack_24 (by decide) ?_
    exact retI (v := (-1)) hx hb hr hlk (rfl) hP hD hS () ⟨_, rfl, trivial, h_nx, h_bA⟩ [0, 1, 2, 3, 4, 5, 6, 7, 8, 9, 10] rfl rfl dX5_giveBack_25 (Nat.le_of_ble_eq_true rfl) (Nat.le_of_ble_eq_true rfl) rfl
  · skip
    refine lv_iload_n hx hb dX5_giveBack_20 rfl (lv_at hl 0 rfl) ?_
    refine lv_if_ge (tgt := 26) hx hb dX5_giveBack_21 (by decide) (fun c_5 => ?_) (fun c_5 => ?_)
    · skip
      refine lv_aload_n hx hb dX5_giveBack_26 rfl (lv_at hl 1 rfl) ?_
      refine gf_X5_13 hx hb hts hown hK hP 0 rfl rfl dX5_giveBack_27 ?_
      refine lv_iload_n hx hb dX5_giveBack_30 rfl (lv_at hl 0 rfl) ?_
      have hi_6 : vp_in x_3 20 := by
        have z_1 := Int32.lt_iff_toInt_lt.mp (Int32.not_le.mp c_4)
        have z_2 := Int32.le_iff_toInt_le.mp c_5
        have y_0 : (0 : Int32).toInt = 0 := by decide
        have y_1 : (1 : Int32).toInt = 1 := by decide
        have y_20 : (20 : Int32).toInt = 20 := by decide
        have t_x_1 : x_1.toInt = ((Pv 0) : Int32).toInt + (20 : Int32).toInt := by rw [ex_1]; exact add_toInt (by omega) (by omega)
        have t_x_2 : x_2.toInt = (x_1 : Int32).toInt - (1 : Int32).toInt := by rw [ex_2]; exact sub_toInt (by omega) (by omega)
        have t_x_3 := rem_bounds (x := x_2) (y := 20) (by omega)
        rw [← ex_3] at t_x_3
        refine vp_in_iff.mpr ⟨?_, ?_⟩ <;> omega
      refine va_aldq hx hb hK hP 1 5 rfl rfl hi_6 dX5_giveBack_31 ?_
      have hi_7 : (x_3 : Int32).toInt = ((Pv 0).toInt + 19) % 20 := by
        have z_1 := Int32.lt_iff_toInt_lt.mp (Int32.not_le.mp c_4)
        have z_2 := Int32.le_iff_toInt_le.mp c_5
        have y_0 : (0 : Int32).toInt = 0 := by decide
        have y_1 : (1 : Int32).toInt = 1 := by decide
        have y_20 : (20 : Int32).toInt = 20 := by decide
        have t_x_1 : x_1.toInt = ((Pv 0) : Int32).toInt + (20 : Int32).toInt := by rw [ex_1]; exact add_toInt (by omega) (by omega)
        have t_x_2 : x_2.toInt = (x_1 : Int32).toInt - (1 : Int32).toInt := by rw [ex_2]; exact sub_toInt (by omega) (by omega)
        have t_x_3 := rem_bounds (x := x_2) (y := 20) (by omega)
        rw [← ex_3] at t_x_3
        have tz := rem_emod (x := x_2) (y := 20) (by omega)
        rw [← ex_3, show (20 : Int32).toInt = 20 by decide] at tz
        omega
      refine lv_val (v := .null) (by rw [h_q x_3 hi_7]; rfl) ?_
      refine lv_astore_nN (lv' := [(3, .null), (2, .int x_3), (0, .ref (Pa 0)), (1, .ref (Aa 0))]) hx hb dX5_giveBack_32 rfl hl (by decide) rfl (fun ls hl₀ => ?_)
      replace hl := hl₀
      clear hl₀
      refine lv_aload_nN hx hb dX5_giveBack_33 rfl (lv_at hl 0 rfl) ?_
      refine lv_ifnonnullN hx hb dX5_giveBack_34 ?_
      refine lv_iconst (v := (-1)) hx hb dX5_giveBack_37 (by decide) ?_
      exact retI (v := (-1)) hx hb hr hlk (rfl) hP hD hS () ⟨_, rfl, trivial, h_nx, h_bA⟩ [0, 1, 2, 3, 4, 5, 6, 7, 8, 9, 10] rfl rfl dX5_giveBack_38 (Nat.le_of_ble_eq_true rfl) (Nat.le_of_ble_eq_true rfl) rfl
    · skip
      refine lv_iconst (v := (-1)) hx hb dX5_giveBack_24 (by decide) ?_
      exact retI (v := (-1)) hx hb hr hlk (rfl) hP hD hS () ⟨_, rfl, trivial, h_nx, h_bA⟩ [0, 1, 2, 3, 4, 5, 6, 7, 8, 9, 10] rfl rfl dX5_giveBack_25 (Nat.le_of_ble_eq_true rfl) (Nat.le_of_ble_eq_true rfl) rfl
set_option maxRecDepth 100000 in
theorem cu_X5_giveBack_n_b (l : Launch) (D : va_G) (tc : Nat → ClassId) (sk : (Nat → Nat) × (Nat → Nat)) (Pa_0 : Nat) (Pa_1 : Nat) (Pv_0 : Int32) (Pv_1 : Int32) (Pq_1 : Nat → Option Nat) (Aa_0 : Nat) (Aa_1 : Nat) (Aa_2 : Nat) (Aa_3 : Nat) (Aa_4 : Nat) (Aa_5 : Nat) (Aa_6 : Nat) (Aa_7 : Nat) (Aa_8 : Nat) (Av_0 : Int32) (Av_1 : Int32) (Av_2 : Int32) (Av_3 : Int32) (Av_4 : Int32) (Av_5 : Int32) (Af_1 : Nat → Int32) (Af_2 : Nat → Int32) (Af_3 : Nat → Int32) (Af_4 : Nat → Int32) (Af_5 : Nat → Int32) (Af_6 : Nat → Int32) (Af_7 : Nat → Int32) (Af_8 : Nat → Int32) (h_nx : 0 ≤ (Pv_0 : Int32).toInt ∧ (Pv_0 : Int32).toInt < 20) (h_q : ∀ j : Int32, j.toInt = (Pv_0.toInt + 19) % 20 → Pq_1 j.toNatClampNeg = none) (h_bA : 0 ≤ (Av_3 : Int32).toInt ∧ (Av_3 : Int32).toInt ≤ 6) : Ct l yX5_giveBack cX5_giveBack 4 (some .int) { frames := 0, cells := 0, slots := 0, locals := 0 } D tc sk [.ref Pa_0, .ref Aa_0] [(Pa_0, .inr (5, [.ref Pa_1, .int Pv_0, .int Pv_1])), (Pa_1, .inl (tc 5, 20, .inr (.inr (.inr (.inr Pq_1))))), (Aa_0, .inr (9, [.int Av_0, .int Av_1, .int Av_2, .int Av_3, .int Av_4, .int Av_5, .ref Aa_1, .ref Aa_2, .ref Aa_3, .ref Aa_4, .ref Aa_5, .ref Aa_6, .ref Aa_7, .ref Aa_8])), (Aa_1, .inl (tc 0, 10, .inl Af_1)), (Aa_2, .inl (tc 0, 10, .inl Af_2)), (Aa_3, .inl (tc 0, 6, .inl Af_3)), (Aa_4, .inl (tc 0, 6, .inl Af_4)), (Aa_5, .inl (tc 0, 6, .inl Af_5)), (Aa_6, .inl (tc 0, 6, .inl Af_6)), (Aa_7, .inl (tc 0, 6, .inl Af_7)), (Aa_8, .inl (tc 0, 6, .inl Af_8))] (fun (v : Option Value) (_ : Unit) => ∃ r : Int32, v = some (.int r) ∧ (True) ∧ (0 ≤ (Pv_0 : Int32).toInt ∧ (Pv_0 : Int32).toInt < 20) ∧ (0 ≤ (Av_3 : Int32).toInt ∧ (Av_3 : Int32).toInt ≤ 6)) (fun (_ : Unit) => [(Pa_0, .inr (5, [.ref Pa_1, .int Pv_0, .int Pv_1])), (Pa_1, .inl (tc 5, 20, .inr (.inr (.inr (.inr Pq_1))))), (Aa_0, .inr (9, [.int Av_0, .int Av_1, .int Av_2, .int Av_3, .int Av_4, .int Av_5, .ref Aa_1, .ref Aa_2, .ref Aa_3, .ref Aa_4, .ref Aa_5, .ref Aa_6, .ref Aa_7, .ref Aa_8])), (Aa_1, .inl (tc 0, 10, .inl Af_1)), (Aa_2, .inl (tc 0, 10, .inl Af_2)), (Aa_3, .inl (tc 0, 6, .inl Af_3)), (Aa_4, .inl (tc 0, 6, .inl Af_4)), (Aa_5, .inl (tc 0, 6, .inl Af_5)), (Aa_6, .inl (tc 0, 6, .inl Af_6)), (Aa_7, .inl (tc 0, 6, .inl Af_7)), (Aa_8, .inl (tc 0, 6, .inl Af_8))]) 0 0 :=
  ct_X5_giveBack_n_b l D tc sk (fun k => ([Pa_0, Pa_1] : List (Nat)).getD k 0) (fun k => ([Pv_0, Pv_1] : List (Int32)).getD k 0) (fun k => ([(fun _ => none), Pq_1] : List (Nat → Option Nat)).getD k (fun _ => none)) (fun k => ([Aa_0, Aa_1, Aa_2, Aa_3, Aa_4, Aa_5, Aa_6, Aa_7, Aa_8] : List (Nat)).getD k 0) (fun k => ([Av_0, Av_1, Av_2, Av_3, Av_4, Av_5] : List (Int32)).getD k 0) (fun k => ([(fun _ => 0), Af_1, Af_2, Af_3, Af_4, Af_5, Af_6, Af_7, Af_8] : List (Nat → Int32)).getD k (fun _ => 0)) h_nx h_q h_bA
theorem dX11_book_0 : decode cX11_book 0 = .ok (.aload_n 0, 1) := by decide +kernel
theorem dX11_book_1 : decode cX11_book 1 = .ok (.getfield 19, 3) := by decide +kernel
theorem dX11_book_4 : decode cX11_book 4 = .ok (.aload_n 0, 1) := by decide +kernel
theorem dX11_book_5 : decode cX11_book 5 = .ok (.getfield 10, 3) := by decide +kernel
theorem dX11_book_8 : decode cX11_book 8 = .ok (.invokevirtual 97, 3) := by decide +kernel
theorem dX11_book_11 : decode cX11_book 11 = .ok (.istore_n 1, 1) := by decide +kernel
theorem dX11_book_12 : decode cX11_book 12 = .ok (.aload_n 0, 1) := by decide +kernel
theorem dX11_book_13 : decode cX11_book 13 = .ok (.getfield 10, 3) := by decide +kernel
theorem dX11_book_16 : decode cX11_book 16 = .ok (.iconst 0, 1) := by decide +kernel
theorem dX11_book_17 : decode cX11_book 17 = .ok (.putfield 94, 3) := by decide +kernel
theorem dX11_book_20 : decode cX11_book 20 = .ok (.iload_n 1, 1) := by decide +kernel
theorem dX11_book_21 : decode cX11_book 21 = .ok (.ifCond .eq 8, 3) := by decide +kernel
theorem dX11_book_24 : decode cX11_book 24 = .ok (.bipush (-2), 2) := by decide +kernel
theorem dX11_book_26 : decode cX11_book 26 = .ok (.iload_n 1, 1) := by decide +kernel
theorem dX11_book_27 : decode cX11_book 27 = .ok (.isub, 1) := by decide +kernel
theorem dX11_book_28 : decode cX11_book 28 = .ok (.ireturn, 1) := by decide +kernel
theorem dX11_book_29 : decode cX11_book 29 = .ok (.aload_n 0, 1) := by decide +kernel
theorem dX11_book_30 : decode cX11_book 30 = .ok (.getfield 43, 3) := by decide +kernel
theorem dX11_book_33 : decode cX11_book 33 = .ok (.getfield 101, 3) := by decide +kernel
theorem dX11_book_36 : decode cX11_book 36 = .ok (.aload_n 0, 1) := by decide +kernel
theorem dX11_book_37 : decode cX11_book 37 = .ok (.getfield 19, 3) := by decide +kernel
theorem dX11_book_40 : decode cX11_book 40 = .ok (.getfield 104, 3) := by decide +kernel
theorem dX11_book_43 : decode cX11_book 43 = .ok (.invokevirtual 105, 3) := by decide +kernel
theorem dX11_book_46 : decode cX11_book 46 = .ok (.aload_n 0, 1) := by decide +kernel
theorem dX11_book_47 : decode cX11_book 47 = .ok (.getfield 51, 3) := by decide +kernel
theorem dX11_book_50 : decode cX11_book 50 = .ok (.aload_n 0, 1) := by decide +kernel
theorem dX11_book_51 : decode cX11_book 51 = .ok (.getfield 19, 3) := by decide +kernel
theorem dX11_book_54 : decode cX11_book 54 = .ok (.getfield 104, 3) := by decide +kernel
theorem dX11_book_57 : decode cX11_book 57 = .ok (.invokevirtual 105, 3) := by decide +kernel
theorem dX11_book_60 : decode cX11_book 60 = .ok (.aload_n 0, 1) := by decide +kernel
theorem dX11_book_61 : decode cX11_book 61 = .ok (.getfield 43, 3) := by decide +kernel
theorem dX11_book_64 : decode cX11_book 64 = .ok (.getfield 111, 3) := by decide +kernel
theorem dX11_book_67 : decode cX11_book 67 = .ok (.iconst 0, 1) := by decide +kernel
theorem dX11_book_68 : decode cX11_book 68 = .ok (.putfield 115, 3) := by decide +kernel
theorem dX11_book_71 : decode cX11_book 71 = .ok (.aload_n 0, 1) := by decide +kernel
theorem dX11_book_72 : decode cX11_book 72 = .ok (.getfield 57, 3) := by decide +kernel
theorem dX11_book_75 : decode cX11_book 75 = .ok (.iconst 0, 1) := by decide +kernel
theorem dX11_book_76 : decode cX11_book 76 = .ok (.putfield 120, 3) := by decide +kernel
theorem dX11_book_79 : decode cX11_book 79 = .ok (.aload_n 0, 1) := by decide +kernel
theorem dX11_book_80 : decode cX11_book 80 = .ok (.getfield 51, 3) := by decide +kernel
theorem dX11_book_83 : decode cX11_book 83 = .ok (.getfield 121, 3) := by decide +kernel
theorem dX11_book_86 : decode cX11_book 86 = .ok (.ireturn, 1) := by decide +kernel
theorem dX11_buyer_0 : decode cX11_buyer 0 = .ok (.aload_n 0, 1) := by decide +kernel
theorem dX11_buyer_1 : decode cX11_buyer 1 = .ok (.getfield 51, 3) := by decide +kernel
theorem dX11_buyer_4 : decode cX11_buyer 4 = .ok (.iload_n 1, 1) := by decide +kernel
theorem dX11_buyer_5 : decode cX11_buyer 5 = .ok (.invokevirtual 133, 3) := by decide +kernel
theorem dX11_buyer_8 : decode cX11_buyer 8 = .ok (.ifCond .ne 5, 3) := by decide +kernel
theorem dX11_buyer_11 : decode cX11_buyer 11 = .ok (.iconst (-1), 1) := by decide +kernel
theorem dX11_buyer_12 : decode cX11_buyer 12 = .ok (.ireturn, 1) := by decide +kernel
theorem dX11_buyer_13 : decode cX11_buyer 13 = .ok (.iload_n 2, 1) := by decide +kernel
theorem dX11_buyer_14 : decode cX11_buyer 14 = .ok (.tableswitch 102 0 5 #[38, 48, 58, 68, 78, 88], 38) := by decide +kernel
theorem dX11_buyer_52 : decode cX11_buyer 52 = .ok (.aload_n 0, 1) := by decide +kernel
theorem dX11_buyer_53 : decode cX11_buyer 53 = .ok (.getfield 51, 3) := by decide +kernel
theorem dX11_buyer_56 : decode cX11_buyer 56 = .ok (.getfield 137, 3) := by decide +kernel
theorem dX11_buyer_59 : decode cX11_buyer 59 = .ok (.iload_n 1, 1) := by decide +kernel
theorem dX11_buyer_60 : decode cX11_buyer 60 = .ok (.iaload, 1) := by decide +kernel
theorem dX11_buyer_61 : decode cX11_buyer 61 = .ok (.ireturn, 1) := by decide +kernel
theorem dX11_buyer_62 : decode cX11_buyer 62 = .ok (.aload_n 0, 1) := by decide +kernel
theorem dX11_buyer_63 : decode cX11_buyer 63 = .ok (.getfield 51, 3) := by decide +kernel
theorem dX11_buyer_66 : decode cX11_buyer 66 = .ok (.getfield 141, 3) := by decide +kernel
theorem dX11_buyer_69 : decode cX11_buyer 69 = .ok (.iload_n 1, 1) := by decide +kernel
theorem dX11_buyer_70 : decode cX11_buyer 70 = .ok (.iaload, 1) := by decide +kernel
theorem dX11_buyer_71 : decode cX11_buyer 71 = .ok (.ireturn, 1) := by decide +kernel
theorem dX11_buyer_72 : decode cX11_buyer 72 = .ok (.aload_n 0, 1) := by decide +kernel
theorem dX11_buyer_73 : decode cX11_buyer 73 = .ok (.getfield 51, 3) := by decide +kernel
theorem dX11_buyer_76 : decode cX11_buyer 76 = .ok (.getfield 144, 3) := by decide +kernel
theorem dX11_buyer_79 : decode cX11_buyer 79 = .ok (.iload_n 1, 1) := by decide +kernel
theorem dX11_buyer_80 : decode cX11_buyer 80 = .ok (.iaload, 1) := by decide +kernel
theorem dX11_buyer_81 : decode cX11_buyer 81 = .ok (.ireturn, 1) := by decide +kernel
theorem dX11_buyer_82 : decode cX11_buyer 82 = .ok (.aload_n 0, 1) := by decide +kernel
theorem dX11_buyer_83 : decode cX11_buyer 83 = .ok (.getfield 51, 3) := by decide +kernel
theorem dX11_buyer_86 : decode cX11_buyer 86 = .ok (.getfield 147, 3) := by decide +kernel
theorem dX11_buyer_89 : decode cX11_buyer 89 = .ok (.iload_n 1, 1) := by decide +kernel
theorem dX11_buyer_90 : decode cX11_buyer 90 = .ok (.iaload, 1) := by decide +kernel
theorem dX11_buyer_91 : decode cX11_buyer 91 = .ok (.ireturn, 1) := by decide +kernel
theorem dX11_buyer_92 : decode cX11_buyer 92 = .ok (.aload_n 0, 1) := by decide +kernel
theorem dX11_buyer_93 : decode cX11_buyer 93 = .ok (.getfield 51, 3) := by decide +kernel
theorem dX11_buyer_96 : decode cX11_buyer 96 = .ok (.getfield 150, 3) := by decide +kernel
theorem dX11_buyer_99 : decode cX11_buyer 99 = .ok (.iload_n 1, 1) := by decide +kernel
theorem dX11_buyer_100 : decode cX11_buyer 100 = .ok (.iaload, 1) := by decide +kernel
theorem dX11_buyer_101 : decode cX11_buyer 101 = .ok (.ireturn, 1) := by decide +kernel
theorem dX11_buyer_102 : decode cX11_buyer 102 = .ok (.bipush 99, 2) := by decide +kernel
theorem dX11_buyer_104 : decode cX11_buyer 104 = .ok (.aload_n 0, 1) := by decide +kernel
theorem dX11_buyer_105 : decode cX11_buyer 105 = .ok (.getfield 51, 3) := by decide +kernel
theorem dX11_buyer_108 : decode cX11_buyer 108 = .ok (.iload_n 1, 1) := by decide +kernel
theorem dX11_buyer_109 : decode cX11_buyer 109 = .ok (.invokevirtual 153, 3) := by decide +kernel
theorem dX11_buyer_112 : decode cX11_buyer 112 = .ok (.invokestatic 157, 3) := by decide +kernel
theorem dX11_buyer_115 : decode cX11_buyer 115 = .ok (.ireturn, 1) := by decide +kernel
theorem dX11_buyer_116 : decode cX11_buyer 116 = .ok (.iconst (-1), 1) := by decide +kernel
theorem dX11_buyer_117 : decode cX11_buyer 117 = .ok (.ireturn, 1) := by decide +kernel
theorem dX11_calm_0 : decode cX11_calm 0 = .ok (.aload_n 0, 1) := by decide +kernel
theorem dX11_calm_1 : decode cX11_calm 1 = .ok (.getfield 51, 3) := by decide +kernel
theorem dX11_calm_4 : decode cX11_calm 4 = .ok (.iload_n 1, 1) := by decide +kernel
theorem dX11_calm_5 : decode cX11_calm 5 = .ok (.invokevirtual 133, 3) := by decide +kernel
theorem dX11_calm_8 : decode cX11_calm 8 = .ok (.ifCond .eq 26, 3) := by decide +kernel
theorem dX11_calm_11 : decode cX11_calm 11 = .ok (.iload_n 2, 1) := by decide +kernel
theorem dX11_calm_12 : decode cX11_calm 12 = .ok (.iconst 1, 1) := by decide +kernel
theorem dX11_calm_13 : decode cX11_calm 13 = .ok (.bipush 20, 2) := by decide +kernel
theorem dX11_calm_15 : decode cX11_calm 15 = .ok (.invokestatic 166, 3) := by decide +kernel
theorem dX11_calm_18 : decode cX11_calm 18 = .ok (.ifCond .eq 16, 3) := by decide +kernel
theorem dX11_calm_21 : decode cX11_calm 21 = .ok (.aload_n 0, 1) := by decide +kernel
theorem dX11_calm_22 : decode cX11_calm 22 = .ok (.getfield 51, 3) := by decide +kernel
theorem dX11_calm_25 : decode cX11_calm 25 = .ok (.getfield 137, 3) := by decide +kernel
theorem dX11_calm_28 : decode cX11_calm 28 = .ok (.iload_n 1, 1) := by decide +kernel
theorem dX11_calm_29 : decode cX11_calm 29 = .ok (.iaload, 1) := by decide +kernel
theorem dX11_calm_30 : decode cX11_calm 30 = .ok (.iload_n 2, 1) := by decide +kernel
theorem dX11_calm_31 : decode cX11_calm 31 = .ok (.if_icmp .ge 5, 3) := by decide +kernel
theorem dX11_calm_34 : decode cX11_calm 34 = .ok (.iconst (-1), 1) := by decide +kernel
theorem dX11_calm_35 : decode cX11_calm 35 = .ok (.ireturn, 1) := by decide +kernel
theorem dX11_calm_36 : decode cX11_calm 36 = .ok (.aload_n 0, 1) := by decide +kernel
theorem dX11_calm_37 : decode cX11_calm 37 = .ok (.getfield 57, 3) := by decide +kernel
theorem dX11_calm_40 : decode cX11_calm 40 = .ok (.aload_n 0, 1) := by decide +kernel
theorem dX11_calm_41 : decode cX11_calm 41 = .ok (.getfield 51, 3) := by decide +kernel
theorem dX11_calm_44 : decode cX11_calm 44 = .ok (.invokevirtual 182, 3) := by decide +kernel
theorem dX11_calm_47 : decode cX11_calm 47 = .ok (.aload_n 0, 1) := by decide +kernel
theorem dX11_calm_48 : decode cX11_calm 48 = .ok (.getfield 51, 3) := by decide +kernel
theorem dX11_calm_51 : decode cX11_calm 51 = .ok (.getfield 137, 3) := by decide +kernel
theorem dX11_calm_54 : decode cX11_calm 54 = .ok (.iload_n 1, 1) := by decide +kernel
theorem dX11_calm_55 : decode cX11_calm 55 = .ok (.dup2, 1) := by decide +kernel
theorem dX11_calm_56 : decode cX11_calm 56 = .ok (.iaload, 1) := by decide +kernel
theorem dX11_calm_57 : decode cX11_calm 57 = .ok (.iload_n 2, 1) := by decide +kernel
theorem dX11_calm_58 : decode cX11_calm 58 = .ok (.isub, 1) := by decide +kernel
theorem dX11_calm_59 : decode cX11_calm 59 = .ok (.iastore, 1) := by decide +kernel
theorem dX11_calm_60 : decode cX11_calm 60 = .ok (.aload_n 0, 1) := by decide +kernel
theorem dX11_calm_61 : decode cX11_calm 61 = .ok (.getfield 51, 3) := by decide +kernel
theorem dX11_calm_64 : decode cX11_calm 64 = .ok (.getfield 137, 3) := by decide +kernel
theorem dX11_calm_67 : decode cX11_calm 67 = .ok (.iload_n 1, 1) := by decide +kernel
theorem dX11_calm_68 : decode cX11_calm 68 = .ok (.iaload, 1) := by decide +kernel
theorem dX11_calm_69 : decode cX11_calm 69 = .ok (.ireturn, 1) := by decide +kernel
theorem dX11_change_0 : decode cX11_change 0 = .ok (.aload_n 0, 1) := by decide +kernel
theorem dX11_change_1 : decode cX11_change 1 = .ok (.getfield 51, 3) := by decide +kernel
theorem dX11_change_4 : decode cX11_change 4 = .ok (.iload_n 1, 1) := by decide +kernel
theorem dX11_change_5 : decode cX11_change 5 = .ok (.invokevirtual 163, 3) := by decide +kernel
theorem dX11_change_8 : decode cX11_change 8 = .ok (.ifCond .eq 26, 3) := by decide +kernel
theorem dX11_change_11 : decode cX11_change 11 = .ok (.iload_n 2, 1) := by decide +kernel
theorem dX11_change_12 : decode cX11_change 12 = .ok (.iconst 0, 1) := by decide +kernel
theorem dX11_change_13 : decode cX11_change 13 = .ok (.bipush 9, 2) := by decide +kernel
theorem dX11_change_15 : decode cX11_change 15 = .ok (.invokestatic 166, 3) := by decide +kernel
theorem dX11_change_18 : decode cX11_change 18 = .ok (.ifCond .eq 16, 3) := by decide +kernel
theorem dX11_change_21 : decode cX11_change 21 = .ok (.aload_n 0, 1) := by decide +kernel
theorem dX11_change_22 : decode cX11_change 22 = .ok (.getfield 51, 3) := by decide +kernel
theorem dX11_change_25 : decode cX11_change 25 = .ok (.getfield 170, 3) := by decide +kernel
theorem dX11_change_28 : decode cX11_change 28 = .ok (.iload_n 1, 1) := by decide +kernel
theorem dX11_change_29 : decode cX11_change 29 = .ok (.iaload, 1) := by decide +kernel
theorem dX11_change_30 : decode cX11_change 30 = .ok (.iload_n 2, 1) := by decide +kernel
theorem dX11_change_31 : decode cX11_change 31 = .ok (.if_icmp .ne 5, 3) := by decide +kernel
theorem dX11_change_34 : decode cX11_change 34 = .ok (.iconst (-1), 1) := by decide +kernel
theorem dX11_change_35 : decode cX11_change 35 = .ok (.ireturn, 1) := by decide +kernel
theorem dX11_change_36 : decode cX11_change 36 = .ok (.aload_n 0, 1) := by decide +kernel
theorem dX11_change_37 : decode cX11_change 37 = .ok (.getfield 57, 3) := by decide +kernel
theorem dX11_change_40 : decode cX11_change 40 = .ok (.aload_n 0, 1) := by decide +kernel
theorem dX11_change_41 : decode cX11_change 41 = .ok (.getfield 51, 3) := by decide +kernel
theorem dX11_change_44 : decode cX11_change 44 = .ok (.invokevirtual 182, 3) := by decide +kernel
theorem dX11_change_47 : decode cX11_change 47 = .ok (.aload_n 0, 1) := by decide +kernel
theorem dX11_change_48 : decode cX11_change 48 = .ok (.getfield 51, 3) := by decide +kernel
theorem dX11_change_51 : decode cX11_change 51 = .ok (.getfield 170, 3) := by decide +kernel
theorem dX11_change_54 : decode cX11_change 54 = .ok (.iload_n 1, 1) := by decide +kernel
theorem dX11_change_55 : decode cX11_change 55 = .ok (.iaload, 1) := by decide +kernel
theorem dX11_change_56 : decode cX11_change 56 = .ok (.istore_n 3, 1) := by decide +kernel
theorem dX11_change_57 : decode cX11_change 57 = .ok (.aload_n 0, 1) := by decide +kernel
theorem dX11_change_58 : decode cX11_change 58 = .ok (.getfield 51, 3) := by decide +kernel
theorem dX11_change_61 : decode cX11_change 61 = .ok (.getfield 170, 3) := by decide +kernel
theorem dX11_change_64 : decode cX11_change 64 = .ok (.iload_n 1, 1) := by decide +kernel
theorem dX11_change_65 : decode cX11_change 65 = .ok (.iload_n 2, 1) := by decide +kernel
theorem dX11_change_66 : decode cX11_change 66 = .ok (.iastore, 1) := by decide +kernel
theorem dX11_change_67 : decode cX11_change 67 = .ok (.iload_n 3, 1) := by decide +kernel
theorem dX11_change_68 : decode cX11_change 68 = .ok (.ireturn, 1) := by decide +kernel
theorem dX11_count_0 : decode cX11_count 0 = .ok (.iload_n 1, 1) := by decide +kernel
theorem dX11_count_1 : decode cX11_count 1 = .ok (.tableswitch 221 0 15 #[79, 87, 95, 103, 108, 116, 124, 139, 147, 162, 170, 178, 186, 197, 205, 213], 79) := by decide +kernel
theorem dX11_count_80 : decode cX11_count 80 = .ok (.aload_n 0, 1) := by decide +kernel
theorem dX11_count_81 : decode cX11_count 81 = .ok (.getfield 51, 3) := by decide +kernel
theorem dX11_count_84 : decode cX11_count 84 = .ok (.getfield 282, 3) := by decide +kernel
theorem dX11_count_87 : decode cX11_count 87 = .ok (.ireturn, 1) := by decide +kernel
theorem dX11_count_88 : decode cX11_count 88 = .ok (.aload_n 0, 1) := by decide +kernel
theorem dX11_count_89 : decode cX11_count 89 = .ok (.getfield 51, 3) := by decide +kernel
theorem dX11_count_92 : decode cX11_count 92 = .ok (.getfield 285, 3) := by decide +kernel
theorem dX11_count_95 : decode cX11_count 95 = .ok (.ireturn, 1) := by decide +kernel
theorem dX11_count_96 : decode cX11_count 96 = .ok (.aload_n 0, 1) := by decide +kernel
theorem dX11_count_97 : decode cX11_count 97 = .ok (.getfield 51, 3) := by decide +kernel
theorem dX11_count_100 : decode cX11_count 100 = .ok (.getfield 121, 3) := by decide +kernel
theorem dX11_count_103 : decode cX11_count 103 = .ok (.ireturn, 1) := by decide +kernel
theorem dX11_count_104 : decode cX11_count 104 = .ok (.aload_n 0, 1) := by decide +kernel
theorem dX11_count_105 : decode cX11_count 105 = .ok (.getfield 36, 3) := by decide +kernel
theorem dX11_count_108 : decode cX11_count 108 = .ok (.ireturn, 1) := by decide +kernel
theorem dX11_count_109 : decode cX11_count 109 = .ok (.aload_n 0, 1) := by decide +kernel
theorem dX11_count_110 : decode cX11_count 110 = .ok (.getfield 43, 3) := by decide +kernel
theorem dX11_count_113 : decode cX11_count 113 = .ok (.getfield 130, 3) := by decide +kernel
theorem dX11_count_116 : decode cX11_count 116 = .ok (.ireturn, 1) := by decide +kernel
theorem dX11_count_117 : decode cX11_count 117 = .ok (.aload_n 0, 1) := by decide +kernel
theorem dX11_count_118 : decode cX11_count 118 = .ok (.getfield 51, 3) := by decide +kernel
theorem dX11_count_121 : decode cX11_count 121 = .ok (.getfield 179, 3) := by decide +kernel
theorem dX11_count_124 : decode cX11_count 124 = .ok (.ireturn, 1) := by decide +kernel
theorem dX11_count_125 : decode cX11_count 125 = .ok (.aload_n 0, 1) := by decide +kernel
theorem dX11_count_126 : decode cX11_count 126 = .ok (.getfield 51, 3) := by decide +kernel
theorem dX11_count_129 : decode cX11_count 129 = .ok (.aload_n 0, 1) := by decide +kernel
theorem dX11_count_130 : decode cX11_count 130 = .ok (.getfield 51, 3) := by decide +kernel
theorem dX11_count_133 : decode cX11_count 133 = .ok (.getfield 179, 3) := by decide +kernel
theorem dX11_count_136 : decode cX11_count 136 = .ok (.invokevirtual 288, 3) := by decide +kernel
theorem dX11_count_139 : decode cX11_count 139 = .ok (.ireturn, 1) := by decide +kernel
theorem dX11_count_140 : decode cX11_count 140 = .ok (.aload_n 0, 1) := by decide +kernel
theorem dX11_count_141 : decode cX11_count 141 = .ok (.getfield 51, 3) := by decide +kernel
theorem dX11_count_144 : decode cX11_count 144 = .ok (.getfield 193, 3) := by decide +kernel
theorem dX11_count_147 : decode cX11_count 147 = .ok (.ireturn, 1) := by decide +kernel
theorem dX11_count_148 : decode cX11_count 148 = .ok (.aload_n 0, 1) := by decide +kernel
theorem dX11_count_149 : decode cX11_count 149 = .ok (.getfield 51, 3) := by decide +kernel
theorem dX11_count_152 : decode cX11_count 152 = .ok (.aload_n 0, 1) := by decide +kernel
theorem dX11_count_153 : decode cX11_count 153 = .ok (.getfield 51, 3) := by decide +kernel
theorem dX11_count_156 : decode cX11_count 156 = .ok (.getfield 179, 3) := by decide +kernel
theorem dX11_count_159 : decode cX11_count 159 = .ok (.invokevirtual 291, 3) := by decide +kernel
theorem dX11_count_162 : decode cX11_count 162 = .ok (.ireturn, 1) := by decide +kernel
theorem dX11_count_163 : decode cX11_count 163 = .ok (.aload_n 0, 1) := by decide +kernel
theorem dX11_count_164 : decode cX11_count 164 = .ok (.getfield 51, 3) := by decide +kernel
theorem dX11_count_167 : decode cX11_count 167 = .ok (.getfield 294, 3) := by decide +kernel
theorem dX11_count_170 : decode cX11_count 170 = .ok (.ireturn, 1) := by decide +kernel
theorem dX11_count_171 : decode cX11_count 171 = .ok (.aload_n 0, 1) := by decide +kernel
theorem dX11_count_172 : decode cX11_count 172 = .ok (.getfield 51, 3) := by decide +kernel
theorem dX11_count_175 : decode cX11_count 175 = .ok (.invokevirtual 297, 3) := by decide +kernel
theorem dX11_count_178 : decode cX11_count 178 = .ok (.ireturn, 1) := by decide +kernel
theorem dX11_count_179 : decode cX11_count 179 = .ok (.aload_n 0, 1) := by decide +kernel
theorem dX11_count_180 : decode cX11_count 180 = .ok (.getfield 51, 3) := by decide +kernel
theorem dX11_count_183 : decode cX11_count 183 = .ok (.invokevirtual 300, 3) := by decide +kernel
theorem dX11_count_186 : decode cX11_count 186 = .ok (.ireturn, 1) := by decide +kernel
theorem dX11_count_187 : decode cX11_count 187 = .ok (.aload_n 0, 1) := by decide +kernel
theorem dX11_count_188 : decode cX11_count 188 = .ok (.getfield 43, 3) := by decide +kernel
theorem dX11_count_191 : decode cX11_count 191 = .ok (.getfield 111, 3) := by decide +kernel
theorem dX11_count_194 : decode cX11_count 194 = .ok (.getfield 115, 3) := by decide +kernel
theorem dX11_count_197 : decode cX11_count 197 = .ok (.ireturn, 1) := by decide +kernel
theorem dX11_count_198 : decode cX11_count 198 = .ok (.aload_n 0, 1) := by decide +kernel
theorem dX11_count_199 : decode cX11_count 199 = .ok (.getfield 57, 3) := by decide +kernel
theorem dX11_count_202 : decode cX11_count 202 = .ok (.getfield 120, 3) := by decide +kernel
theorem dX11_count_205 : decode cX11_count 205 = .ok (.ireturn, 1) := by decide +kernel
theorem dX11_count_206 : decode cX11_count 206 = .ok (.aload_n 0, 1) := by decide +kernel
theorem dX11_count_207 : decode cX11_count 207 = .ok (.getfield 43, 3) := by decide +kernel
theorem dX11_count_210 : decode cX11_count 210 = .ok (.getfield 272, 3) := by decide +kernel
theorem dX11_count_213 : decode cX11_count 213 = .ok (.ireturn, 1) := by decide +kernel
theorem dX11_count_214 : decode cX11_count 214 = .ok (.aload_n 0, 1) := by decide +kernel
theorem dX11_count_215 : decode cX11_count 215 = .ok (.getfield 10, 3) := by decide +kernel
theorem dX11_count_218 : decode cX11_count 218 = .ok (.getfield 94, 3) := by decide +kernel
theorem dX11_count_221 : decode cX11_count 221 = .ok (.ireturn, 1) := by decide +kernel
theorem dX11_count_222 : decode cX11_count 222 = .ok (.iconst (-1), 1) := by decide +kernel
theorem dX11_count_223 : decode cX11_count 223 = .ok (.ireturn, 1) := by decide +kernel
theorem dX11_day_0 : decode cX11_day 0 = .ok (.aload_n 0, 1) := by decide +kernel
theorem dX11_day_1 : decode cX11_day 1 = .ok (.getfield 51, 3) := by decide +kernel
theorem dX11_day_4 : decode cX11_day 4 = .ok (.invokevirtual 176, 3) := by decide +kernel
theorem dX11_day_7 : decode cX11_day 7 = .ok (.ifCond .eq 16, 3) := by decide +kernel
theorem dX11_day_10 : decode cX11_day 10 = .ok (.aload_n 0, 1) := by decide +kernel
theorem dX11_day_11 : decode cX11_day 11 = .ok (.getfield 51, 3) := by decide +kernel
theorem dX11_day_14 : decode cX11_day 14 = .ok (.getfield 179, 3) := by decide +kernel
theorem dX11_day_17 : decode cX11_day 17 = .ok (.sipush 999, 3) := by decide +kernel
theorem dX11_day_20 : decode cX11_day 20 = .ok (.if_icmp .lt 5, 3) := by decide +kernel
theorem dX11_day_23 : decode cX11_day 23 = .ok (.iconst (-1), 1) := by decide +kernel
theorem dX11_day_24 : decode cX11_day 24 = .ok (.ireturn, 1) := by decide +kernel
theorem dX11_day_25 : decode cX11_day 25 = .ok (.aload_n 0, 1) := by decide +kernel
theorem dX11_day_26 : decode cX11_day 26 = .ok (.getfield 57, 3) := by decide +kernel
theorem dX11_day_29 : decode cX11_day 29 = .ok (.aload_n 0, 1) := by decide +kernel
theorem dX11_day_30 : decode cX11_day 30 = .ok (.getfield 51, 3) := by decide +kernel
theorem dX11_day_33 : decode cX11_day 33 = .ok (.invokevirtual 182, 3) := by decide +kernel
theorem dX11_day_36 : decode cX11_day 36 = .ok (.aload_n 0, 1) := by decide +kernel
theorem dX11_day_37 : decode cX11_day 37 = .ok (.getfield 51, 3) := by decide +kernel
theorem dX11_day_40 : decode cX11_day 40 = .ok (.aload_n 0, 1) := by decide +kernel
theorem dX11_day_41 : decode cX11_day 41 = .ok (.invokevirtual 185, 3) := by decide +kernel
theorem dX11_day_44 : decode cX11_day 44 = .ok (.invokevirtual 189, 3) := by decide +kernel
theorem dX11_day_47 : decode cX11_day 47 = .ok (.ireturn, 1) := by decide +kernel
theorem dX11_end_0 : decode cX11_end 0 = .ok (.iload_n 1, 1) := by decide +kernel
theorem dX11_end_1 : decode cX11_end 1 = .ok (.ifCond .lt 14, 3) := by decide +kernel
theorem dX11_end_4 : decode cX11_end 4 = .ok (.iload_n 1, 1) := by decide +kernel
theorem dX11_end_5 : decode cX11_end 5 = .ok (.aload_n 0, 1) := by decide +kernel
theorem dX11_end_6 : decode cX11_end 6 = .ok (.getfield 10, 3) := by decide +kernel
theorem dX11_end_9 : decode cX11_end 9 = .ok (.getfield 94, 3) := by decide +kernel
theorem dX11_end_12 : decode cX11_end 12 = .ok (.if_icmp .le 5, 3) := by decide +kernel
theorem dX11_end_15 : decode cX11_end 15 = .ok (.iconst (-1), 1) := by decide +kernel
theorem dX11_end_16 : decode cX11_end 16 = .ok (.ireturn, 1) := by decide +kernel
theorem dX11_end_17 : decode cX11_end 17 = .ok (.aload_n 0, 1) := by decide +kernel
theorem dX11_end_18 : decode cX11_end 18 = .ok (.getfield 10, 3) := by decide +kernel
theorem dX11_end_21 : decode cX11_end 21 = .ok (.iload_n 1, 1) := by decide +kernel
theorem dX11_end_22 : decode cX11_end 22 = .ok (.putfield 94, 3) := by decide +kernel
theorem dX11_end_25 : decode cX11_end 25 = .ok (.iload_n 1, 1) := by decide +kernel
theorem dX11_end_26 : decode cX11_end 26 = .ok (.ireturn, 1) := by decide +kernel
theorem dX11_feed_0 : decode cX11_feed 0 = .ok (.aload_n 0, 1) := by decide +kernel
theorem dX11_feed_1 : decode cX11_feed 1 = .ok (.getfield 10, 3) := by decide +kernel
theorem dX11_feed_4 : decode cX11_feed 4 = .ok (.invokevirtual 86, 3) := by decide +kernel
theorem dX11_feed_7 : decode cX11_feed 7 = .ok (.ifCond .ne 5, 3) := by decide +kernel
theorem dX11_feed_10 : decode cX11_feed 10 = .ok (.iconst (-1), 1) := by decide +kernel
theorem dX11_feed_11 : decode cX11_feed 11 = .ok (.ireturn, 1) := by decide +kernel
theorem dX11_feed_12 : decode cX11_feed 12 = .ok (.aload_n 0, 1) := by decide +kernel
theorem dX11_feed_13 : decode cX11_feed 13 = .ok (.getfield 10, 3) := by decide +kernel
theorem dX11_feed_16 : decode cX11_feed 16 = .ok (.iload_n 1, 1) := by decide +kernel
theorem dX11_feed_17 : decode cX11_feed 17 = .ok (.invokevirtual 90, 3) := by decide +kernel
theorem dX11_feed_20 : decode cX11_feed 20 = .ok (.aload_n 0, 1) := by decide +kernel
theorem dX11_feed_21 : decode cX11_feed 21 = .ok (.getfield 10, 3) := by decide +kernel
theorem dX11_feed_24 : decode cX11_feed 24 = .ok (.iload_n 2, 1) := by decide +kernel
theorem dX11_feed_25 : decode cX11_feed 25 = .ok (.invokevirtual 90, 3) := by decide +kernel
theorem dX11_feed_28 : decode cX11_feed 28 = .ok (.aload_n 0, 1) := by decide +kernel
theorem dX11_feed_29 : decode cX11_feed 29 = .ok (.getfield 10, 3) := by decide +kernel
theorem dX11_feed_32 : decode cX11_feed 32 = .ok (.iload_n 3, 1) := by decide +kernel
theorem dX11_feed_33 : decode cX11_feed 33 = .ok (.invokevirtual 90, 3) := by decide +kernel
theorem dX11_feed_36 : decode cX11_feed 36 = .ok (.aload_n 0, 1) := by decide +kernel
theorem dX11_feed_37 : decode cX11_feed 37 = .ok (.getfield 10, 3) := by decide +kernel
theorem dX11_feed_40 : decode cX11_feed 40 = .ok (.iload 4, 2) := by decide +kernel
theorem dX11_feed_42 : decode cX11_feed 42 = .ok (.invokevirtual 90, 3) := by decide +kernel
theorem dX11_feed_45 : decode cX11_feed 45 = .ok (.aload_n 0, 1) := by decide +kernel
theorem dX11_feed_46 : decode cX11_feed 46 = .ok (.getfield 10, 3) := by decide +kernel
theorem dX11_feed_49 : decode cX11_feed 49 = .ok (.iload 5, 2) := by decide +kernel
theorem dX11_feed_51 : decode cX11_feed 51 = .ok (.invokevirtual 90, 3) := by decide +kernel
theorem dX11_feed_54 : decode cX11_feed 54 = .ok (.aload_n 0, 1) := by decide +kernel
theorem dX11_feed_55 : decode cX11_feed 55 = .ok (.getfield 10, 3) := by decide +kernel
theorem dX11_feed_58 : decode cX11_feed 58 = .ok (.getfield 94, 3) := by decide +kernel
theorem dX11_feed_61 : decode cX11_feed 61 = .ok (.ireturn, 1) := by decide +kernel
theorem dX11_fines_0 : decode cX11_fines 0 = .ok (.iload_n 1, 1) := by decide +kernel
theorem dX11_fines_1 : decode cX11_fines 1 = .ok (.iconst 0, 1) := by decide +kernel
theorem dX11_fines_2 : decode cX11_fines 2 = .ok (.sipush 9999, 3) := by decide +kernel
theorem dX11_fines_5 : decode cX11_fines 5 = .ok (.invokestatic 166, 3) := by decide +kernel
theorem dX11_fines_8 : decode cX11_fines 8 = .ok (.ifCond .eq 14, 3) := by decide +kernel
theorem dX11_fines_11 : decode cX11_fines 11 = .ok (.aload_n 0, 1) := by decide +kernel
theorem dX11_fines_12 : decode cX11_fines 12 = .ok (.getfield 51, 3) := by decide +kernel
theorem dX11_fines_15 : decode cX11_fines 15 = .ok (.iload_n 2, 1) := by decide +kernel
theorem dX11_fines_16 : decode cX11_fines 16 = .ok (.invokevirtual 133, 3) := by decide +kernel
theorem dX11_fines_19 : decode cX11_fines 19 = .ok (.ifCond .ne 5, 3) := by decide +kernel
theorem dX11_fines_22 : decode cX11_fines 22 = .ok (.iconst (-1), 1) := by decide +kernel
theorem dX11_fines_23 : decode cX11_fines 23 = .ok (.ireturn, 1) := by decide +kernel
theorem dX11_fines_24 : decode cX11_fines 24 = .ok (.aload_n 0, 1) := by decide +kernel
theorem dX11_fines_25 : decode cX11_fines 25 = .ok (.getfield 51, 3) := by decide +kernel
theorem dX11_fines_28 : decode cX11_fines 28 = .ok (.iload_n 2, 1) := by decide +kernel
theorem dX11_fines_29 : decode cX11_fines 29 = .ok (.iload_n 1, 1) := by decide +kernel
theorem dX11_fines_30 : decode cX11_fines 30 = .ok (.invokevirtual 240, 3) := by decide +kernel
theorem dX11_fines_33 : decode cX11_fines 33 = .ok (.ireturn, 1) := by decide +kernel
theorem dX11_force_0 : decode cX11_force 0 = .ok (.iload_n 1, 1) := by decide +kernel
theorem dX11_force_1 : decode cX11_force 1 = .ok (.iconst (-1), 1) := by decide +kernel
theorem dX11_force_2 : decode cX11_force 2 = .ok (.if_icmp .lt 11, 3) := by decide +kernel
theorem dX11_force_5 : decode cX11_force 5 = .ok (.iload_n 1, 1) := by decide +kernel
theorem dX11_force_6 : decode cX11_force 6 = .ok (.aload_n 0, 1) := by decide +kernel
theorem dX11_force_7 : decode cX11_force 7 = .ok (.getfield 36, 3) := by decide +kernel
theorem dX11_force_10 : decode cX11_force 10 = .ok (.if_icmp .lt 6, 3) := by decide +kernel
theorem dX11_force_13 : decode cX11_force 13 = .ok (.bipush (-2), 2) := by decide +kernel
theorem dX11_force_15 : decode cX11_force 15 = .ok (.ireturn, 1) := by decide +kernel
theorem dX11_force_16 : decode cX11_force 16 = .ok (.aload_n 0, 1) := by decide +kernel
theorem dX11_force_17 : decode cX11_force 17 = .ok (.getfield 43, 3) := by decide +kernel
theorem dX11_force_20 : decode cX11_force 20 = .ok (.getfield 130, 3) := by decide +kernel
theorem dX11_force_23 : decode cX11_force 23 = .ok (.istore_n 2, 1) := by decide +kernel
theorem dX11_force_24 : decode cX11_force 24 = .ok (.aload_n 0, 1) := by decide +kernel
theorem dX11_force_25 : decode cX11_force 25 = .ok (.getfield 43, 3) := by decide +kernel
theorem dX11_force_28 : decode cX11_force 28 = .ok (.iload_n 1, 1) := by decide +kernel
theorem dX11_force_29 : decode cX11_force 29 = .ok (.putfield 130, 3) := by decide +kernel
theorem dX11_force_32 : decode cX11_force 32 = .ok (.iload_n 2, 1) := by decide +kernel
theorem dX11_force_33 : decode cX11_force 33 = .ok (.ireturn, 1) := by decide +kernel
theorem dX11_isWithin_0 : decode cX11_isWithin 0 = .ok (.iload_n 0, 1) := by decide +kernel
theorem dX11_isWithin_1 : decode cX11_isWithin 1 = .ok (.iload_n 1, 1) := by decide +kernel
theorem dX11_isWithin_2 : decode cX11_isWithin 2 = .ok (.if_icmp .lt 12, 3) := by decide +kernel
theorem dX11_isWithin_5 : decode cX11_isWithin 5 = .ok (.iload_n 0, 1) := by decide +kernel
theorem dX11_isWithin_6 : decode cX11_isWithin 6 = .ok (.iload_n 2, 1) := by decide +kernel
theorem dX11_isWithin_7 : decode cX11_isWithin 7 = .ok (.if_icmp .gt 7, 3) := by decide +kernel
theorem dX11_isWithin_10 : decode cX11_isWithin 10 = .ok (.iconst 1, 1) := by decide +kernel
theorem dX11_isWithin_11 : decode cX11_isWithin 11 = .ok (.goto 4, 3) := by decide +kernel
theorem dX11_isWithin_14 : decode cX11_isWithin 14 = .ok (.iconst 0, 1) := by decide +kernel
theorem dX11_isWithin_15 : decode cX11_isWithin 15 = .ok (.ireturn, 1) := by decide +kernel
theorem dX11_note_0 : decode cX11_note 0 = .ok (.iload_n 1, 1) := by decide +kernel
theorem dX11_note_1 : decode cX11_note 1 = .ok (.iconst (-1), 1) := by decide +kernel
theorem dX11_note_2 : decode cX11_note 2 = .ok (.if_icmp .ne 16, 3) := by decide +kernel
theorem dX11_note_5 : decode cX11_note 5 = .ok (.aload_n 0, 1) := by decide +kernel
theorem dX11_note_6 : decode cX11_note 6 = .ok (.getfield 43, 3) := by decide +kernel
theorem dX11_note_9 : decode cX11_note 9 = .ok (.getfield 111, 3) := by decide +kernel
theorem dX11_note_12 : decode cX11_note 12 = .ok (.iconst 0, 1) := by decide +kernel
theorem dX11_note_13 : decode cX11_note 13 = .ok (.putfield 115, 3) := by decide +kernel
theorem dX11_note_16 : decode cX11_note 16 = .ok (.iconst 0, 1) := by decide +kernel
theorem dX11_note_17 : decode cX11_note 17 = .ok (.ireturn, 1) := by decide +kernel
theorem dX11_note_18 : decode cX11_note 18 = .ok (.iload_n 1, 1) := by decide +kernel
theorem dX11_note_19 : decode cX11_note 19 = .ok (.iconst 0, 1) := by decide +kernel
theorem dX11_note_20 : decode cX11_note 20 = .ok (.bipush 60, 2) := by decide +kernel
theorem dX11_note_22 : decode cX11_note 22 = .ok (.invokestatic 166, 3) := by decide +kernel
theorem dX11_note_25 : decode cX11_note 25 = .ok (.ifCond .eq 23, 3) := by decide +kernel
theorem dX11_note_28 : decode cX11_note 28 = .ok (.aload_n 0, 1) := by decide +kernel
theorem dX11_note_29 : decode cX11_note 29 = .ok (.getfield 51, 3) := by decide +kernel
theorem dX11_note_32 : decode cX11_note 32 = .ok (.iload_n 2, 1) := by decide +kernel
theorem dX11_note_33 : decode cX11_note 33 = .ok (.invokevirtual 133, 3) := by decide +kernel
theorem dX11_note_36 : decode cX11_note 36 = .ok (.ifCond .eq 12, 3) := by decide +kernel
theorem dX11_note_39 : decode cX11_note 39 = .ok (.iload_n 3, 1) := by decide +kernel
theorem dX11_note_40 : decode cX11_note 40 = .ok (.iconst 0, 1) := by decide +kernel
theorem dX11_note_41 : decode cX11_note 41 = .ok (.iconst 1, 1) := by decide +kernel
theorem dX11_note_42 : decode cX11_note 42 = .ok (.invokestatic 166, 3) := by decide +kernel
theorem dX11_note_45 : decode cX11_note 45 = .ok (.ifCond .ne 6, 3) := by decide +kernel
theorem dX11_note_48 : decode cX11_note 48 = .ok (.bipush (-2), 2) := by decide +kernel
theorem dX11_note_50 : decode cX11_note 50 = .ok (.ireturn, 1) := by decide +kernel
theorem dX11_note_51 : decode cX11_note 51 = .ok (.aload_n 0, 1) := by decide +kernel
theorem dX11_note_52 : decode cX11_note 52 = .ok (.getfield 43, 3) := by decide +kernel
theorem dX11_note_55 : decode cX11_note 55 = .ok (.getfield 111, 3) := by decide +kernel
theorem dX11_note_58 : decode cX11_note 58 = .ok (.iload_n 1, 1) := by decide +kernel
theorem dX11_note_59 : decode cX11_note 59 = .ok (.iload_n 2, 1) := by decide +kernel
theorem dX11_note_60 : decode cX11_note 60 = .ok (.iload_n 3, 1) := by decide +kernel
theorem dX11_note_61 : decode cX11_note 61 = .ok (.invokevirtual 256, 3) := by decide +kernel
theorem dX11_note_64 : decode cX11_note 64 = .ok (.ifCond .eq 16, 3) := by decide +kernel
theorem dX11_note_67 : decode cX11_note 67 = .ok (.aload_n 0, 1) := by decide +kernel
theorem dX11_note_68 : decode cX11_note 68 = .ok (.getfield 43, 3) := by decide +kernel
theorem dX11_note_71 : decode cX11_note 71 = .ok (.getfield 111, 3) := by decide +kernel
theorem dX11_note_74 : decode cX11_note 74 = .ok (.getfield 115, 3) := by decide +kernel
theorem dX11_note_77 : decode cX11_note 77 = .ok (.goto 5, 3) := by decide +kernel
theorem dX11_note_80 : decode cX11_note 80 = .ok (.bipush (-2), 2) := by decide +kernel
theorem dX11_note_82 : decode cX11_note 82 = .ok (.ireturn, 1) := by decide +kernel
theorem dX11_rule_0 : decode cX11_rule 0 = .ok (.aload_n 0, 1) := by decide +kernel
theorem dX11_rule_1 : decode cX11_rule 1 = .ok (.getfield 36, 3) := by decide +kernel
theorem dX11_rule_4 : decode cX11_rule 4 = .ok (.ifCond .lt 15, 3) := by decide +kernel
theorem dX11_rule_7 : decode cX11_rule 7 = .ok (.aload_n 0, 1) := by decide +kernel
theorem dX11_rule_8 : decode cX11_rule 8 = .ok (.getfield 36, 3) := by decide +kernel
theorem dX11_rule_11 : decode cX11_rule 11 = .ok (.aload_n 0, 1) := by decide +kernel
theorem dX11_rule_12 : decode cX11_rule 12 = .ok (.getfield 32, 3) := by decide +kernel
theorem dX11_rule_15 : decode cX11_rule 15 = .ok (.arraylength, 1) := by decide +kernel
theorem dX11_rule_16 : decode cX11_rule 16 = .ok (.if_icmp .lt 5, 3) := by decide +kernel
theorem dX11_rule_19 : decode cX11_rule 19 = .ok (.iconst (-1), 1) := by decide +kernel
theorem dX11_rule_20 : decode cX11_rule 20 = .ok (.ireturn, 1) := by decide +kernel
theorem dX11_rule_21 : decode cX11_rule 21 = .ok (.aload_n 0, 1) := by decide +kernel
theorem dX11_rule_22 : decode cX11_rule 22 = .ok (.getfield 26, 3) := by decide +kernel
theorem dX11_rule_25 : decode cX11_rule 25 = .ok (.aload_n 0, 1) := by decide +kernel
theorem dX11_rule_26 : decode cX11_rule 26 = .ok (.getfield 10, 3) := by decide +kernel
theorem dX11_rule_29 : decode cX11_rule 29 = .ok (.invokevirtual 124, 3) := by decide +kernel
theorem dX11_rule_32 : decode cX11_rule 32 = .ok (.astore_n 1, 1) := by decide +kernel
theorem dX11_rule_33 : decode cX11_rule 33 = .ok (.aload_n 0, 1) := by decide +kernel
theorem dX11_rule_34 : decode cX11_rule 34 = .ok (.getfield 10, 3) := by decide +kernel
theorem dX11_rule_37 : decode cX11_rule 37 = .ok (.iconst 0, 1) := by decide +kernel
theorem dX11_rule_38 : decode cX11_rule 38 = .ok (.putfield 94, 3) := by decide +kernel
theorem dX11_rule_41 : decode cX11_rule 41 = .ok (.aload_n 1, 1) := by decide +kernel
theorem dX11_rule_42 : decode cX11_rule 42 = .ok (.ifnonnull 14, 3) := by decide +kernel
theorem dX11_rule_45 : decode cX11_rule 45 = .ok (.bipush (-2), 2) := by decide +kernel
theorem dX11_rule_47 : decode cX11_rule 47 = .ok (.aload_n 0, 1) := by decide +kernel
theorem dX11_rule_48 : decode cX11_rule 48 = .ok (.getfield 10, 3) := by decide +kernel
theorem dX11_rule_51 : decode cX11_rule 51 = .ok (.getfield 127, 3) := by decide +kernel
theorem dX11_rule_54 : decode cX11_rule 54 = .ok (.isub, 1) := by decide +kernel
theorem dX11_rule_55 : decode cX11_rule 55 = .ok (.ireturn, 1) := by decide +kernel
theorem dX11_rule_56 : decode cX11_rule 56 = .ok (.aload_n 0, 1) := by decide +kernel
theorem dX11_rule_57 : decode cX11_rule 57 = .ok (.getfield 32, 3) := by decide +kernel
theorem dX11_rule_60 : decode cX11_rule 60 = .ok (.aload_n 0, 1) := by decide +kernel
theorem dX11_rule_61 : decode cX11_rule 61 = .ok (.getfield 36, 3) := by decide +kernel
theorem dX11_rule_64 : decode cX11_rule 64 = .ok (.aload_n 1, 1) := by decide +kernel
theorem dX11_rule_65 : decode cX11_rule 65 = .ok (.aastore, 1) := by decide +kernel
theorem dX11_rule_66 : decode cX11_rule 66 = .ok (.aload_n 0, 1) := by decide +kernel
theorem dX11_rule_67 : decode cX11_rule 67 = .ok (.dup, 1) := by decide +kernel
theorem dX11_rule_68 : decode cX11_rule 68 = .ok (.getfield 36, 3) := by decide +kernel
theorem dX11_rule_71 : decode cX11_rule 71 = .ok (.iconst 1, 1) := by decide +kernel
theorem dX11_rule_72 : decode cX11_rule 72 = .ok (.iadd, 1) := by decide +kernel
theorem dX11_rule_73 : decode cX11_rule 73 = .ok (.putfield 36, 3) := by decide +kernel
theorem dX11_rule_76 : decode cX11_rule 76 = .ok (.aload_n 0, 1) := by decide +kernel
theorem dX11_rule_77 : decode cX11_rule 77 = .ok (.getfield 36, 3) := by decide +kernel
theorem dX11_rule_80 : decode cX11_rule 80 = .ok (.iconst 1, 1) := by decide +kernel
theorem dX11_rule_81 : decode cX11_rule 81 = .ok (.isub, 1) := by decide +kernel
theorem dX11_rule_82 : decode cX11_rule 82 = .ok (.ireturn, 1) := by decide +kernel
theorem dX11_ruleInForce_0 : decode cX11_ruleInForce 0 = .ok (.aload_n 0, 1) := by decide +kernel
theorem dX11_ruleInForce_1 : decode cX11_ruleInForce 1 = .ok (.getfield 43, 3) := by decide +kernel
theorem dX11_ruleInForce_4 : decode cX11_ruleInForce 4 = .ok (.getfield 130, 3) := by decide +kernel
theorem dX11_ruleInForce_7 : decode cX11_ruleInForce 7 = .ok (.istore_n 1, 1) := by decide +kernel
theorem dX11_ruleInForce_8 : decode cX11_ruleInForce 8 = .ok (.iload_n 1, 1) := by decide +kernel
theorem dX11_ruleInForce_9 : decode cX11_ruleInForce 9 = .ok (.ifCond .lt 21, 3) := by decide +kernel
theorem dX11_ruleInForce_12 : decode cX11_ruleInForce 12 = .ok (.iload_n 1, 1) := by decide +kernel
theorem dX11_ruleInForce_13 : decode cX11_ruleInForce 13 = .ok (.aload_n 0, 1) := by decide +kernel
theorem dX11_ruleInForce_14 : decode cX11_ruleInForce 14 = .ok (.getfield 32, 3) := by decide +kernel
theorem dX11_ruleInForce_17 : decode cX11_ruleInForce 17 = .ok (.arraylength, 1) := by decide +kernel
theorem dX11_ruleInForce_18 : decode cX11_ruleInForce 18 = .ok (.if_icmp .ge 12, 3) := by decide +kernel
theorem dX11_ruleInForce_21 : decode cX11_ruleInForce 21 = .ok (.aload_n 0, 1) := by decide +kernel
theorem dX11_ruleInForce_22 : decode cX11_ruleInForce 22 = .ok (.getfield 32, 3) := by decide +kernel
theorem dX11_ruleInForce_25 : decode cX11_ruleInForce 25 = .ok (.iload_n 1, 1) := by decide +kernel
theorem dX11_ruleInForce_26 : decode cX11_ruleInForce 26 = .ok (.aaload, 1) := by decide +kernel
theorem dX11_ruleInForce_27 : decode cX11_ruleInForce 27 = .ok (.goto 4, 3) := by decide +kernel
theorem dX11_ruleInForce_30 : decode cX11_ruleInForce 30 = .ok (.aconst_null, 1) := by decide +kernel
theorem dX11_ruleInForce_31 : decode cX11_ruleInForce 31 = .ok (.areturn, 1) := by decide +kernel
theorem dX11_seed_0 : decode cX11_seed 0 = .ok (.iload_n 1, 1) := by decide +kernel
theorem dX11_seed_1 : decode cX11_seed 1 = .ok (.ifCond .ge 5, 3) := by decide +kernel
theorem dX11_seed_4 : decode cX11_seed 4 = .ok (.iconst (-1), 1) := by decide +kernel
theorem dX11_seed_5 : decode cX11_seed 5 = .ok (.ireturn, 1) := by decide +kernel
theorem dX11_seed_6 : decode cX11_seed 6 = .ok (.aload_n 0, 1) := by decide +kernel
theorem dX11_seed_7 : decode cX11_seed 7 = .ok (.getfield 43, 3) := by decide +kernel
theorem dX11_seed_10 : decode cX11_seed 10 = .ok (.getfield 272, 3) := by decide +kernel
theorem dX11_seed_13 : decode cX11_seed 13 = .ok (.istore_n 2, 1) := by decide +kernel
theorem dX11_seed_14 : decode cX11_seed 14 = .ok (.aload_n 0, 1) := by decide +kernel
theorem dX11_seed_15 : decode cX11_seed 15 = .ok (.getfield 43, 3) := by decide +kernel
theorem dX11_seed_18 : decode cX11_seed 18 = .ok (.iload_n 1, 1) := by decide +kernel
theorem dX11_seed_19 : decode cX11_seed 19 = .ok (.putfield 272, 3) := by decide +kernel
theorem dX11_seed_22 : decode cX11_seed 22 = .ok (.iload_n 2, 1) := by decide +kernel
theorem dX11_seed_23 : decode cX11_seed 23 = .ok (.ireturn, 1) := by decide +kernel
theorem dX11_sell_0 : decode cX11_sell 0 = .ok (.aload_n 0, 1) := by decide +kernel
theorem dX11_sell_1 : decode cX11_sell 1 = .ok (.getfield 51, 3) := by decide +kernel
theorem dX11_sell_4 : decode cX11_sell 4 = .ok (.iload_n 1, 1) := by decide +kernel
theorem dX11_sell_5 : decode cX11_sell 5 = .ok (.invokevirtual 133, 3) := by decide +kernel
theorem dX11_sell_8 : decode cX11_sell 8 = .ok (.ifCond .eq 22, 3) := by decide +kernel
theorem dX11_sell_11 : decode cX11_sell 11 = .ok (.aload_n 0, 1) := by decide +kernel
theorem dX11_sell_12 : decode cX11_sell 12 = .ok (.getfield 51, 3) := by decide +kernel
theorem dX11_sell_15 : decode cX11_sell 15 = .ok (.getfield 193, 3) := by decide +kernel
theorem dX11_sell_18 : decode cX11_sell 18 = .ok (.aload_n 0, 1) := by decide +kernel
theorem dX11_sell_19 : decode cX11_sell 19 = .ok (.getfield 51, 3) := by decide +kernel
theorem dX11_sell_22 : decode cX11_sell 22 = .ok (.getfield 141, 3) := by decide +kernel
theorem dX11_sell_25 : decode cX11_sell 25 = .ok (.iload_n 1, 1) := by decide +kernel
theorem dX11_sell_26 : decode cX11_sell 26 = .ok (.iaload, 1) := by decide +kernel
theorem dX11_sell_27 : decode cX11_sell 27 = .ok (.if_icmp .ge 5, 3) := by decide +kernel
theorem dX11_sell_30 : decode cX11_sell 30 = .ok (.iconst (-1), 1) := by decide +kernel
theorem dX11_sell_31 : decode cX11_sell 31 = .ok (.ireturn, 1) := by decide +kernel
theorem dX11_sell_32 : decode cX11_sell 32 = .ok (.aload_n 0, 1) := by decide +kernel
theorem dX11_sell_33 : decode cX11_sell 33 = .ok (.getfield 57, 3) := by decide +kernel
theorem dX11_sell_36 : decode cX11_sell 36 = .ok (.aload_n 0, 1) := by decide +kernel
theorem dX11_sell_37 : decode cX11_sell 37 = .ok (.getfield 51, 3) := by decide +kernel
theorem dX11_sell_40 : decode cX11_sell 40 = .ok (.invokevirtual 182, 3) := by decide +kernel
theorem dX11_sell_43 : decode cX11_sell 43 = .ok (.aload_n 0, 1) := by decide +kernel
theorem dX11_sell_44 : decode cX11_sell 44 = .ok (.getfield 51, 3) := by decide +kernel
theorem dX11_sell_47 : decode cX11_sell 47 = .ok (.iload_n 1, 1) := by decide +kernel
theorem dX11_sell_48 : decode cX11_sell 48 = .ok (.invokevirtual 196, 3) := by decide +kernel
theorem dX11_sell_51 : decode cX11_sell 51 = .ok (.aload_n 0, 1) := by decide +kernel
theorem dX11_sell_52 : decode cX11_sell 52 = .ok (.getfield 51, 3) := by decide +kernel
theorem dX11_sell_55 : decode cX11_sell 55 = .ok (.getfield 193, 3) := by decide +kernel
theorem dX11_sell_58 : decode cX11_sell 58 = .ok (.ireturn, 1) := by decide +kernel
theorem dX11_sky_0 : decode cX11_sky 0 = .ok (.aload_n 0, 1) := by decide +kernel
theorem dX11_sky_1 : decode cX11_sky 1 = .ok (.getfield 51, 3) := by decide +kernel
theorem dX11_sky_4 : decode cX11_sky 4 = .ok (.iload_n 1, 1) := by decide +kernel
theorem dX11_sky_5 : decode cX11_sky 5 = .ok (.invokevirtual 163, 3) := by decide +kernel
theorem dX11_sky_8 : decode cX11_sky 8 = .ok (.ifCond .eq 12, 3) := by decide +kernel
theorem dX11_sky_11 : decode cX11_sky 11 = .ok (.iload_n 2, 1) := by decide +kernel
theorem dX11_sky_12 : decode cX11_sky 12 = .ok (.iconst 0, 1) := by decide +kernel
theorem dX11_sky_13 : decode cX11_sky 13 = .ok (.iconst 1, 1) := by decide +kernel
theorem dX11_sky_14 : decode cX11_sky 14 = .ok (.invokestatic 166, 3) := by decide +kernel
theorem dX11_sky_17 : decode cX11_sky 17 = .ok (.ifCond .ne 5, 3) := by decide +kernel
theorem dX11_sky_20 : decode cX11_sky 20 = .ok (.iconst (-1), 1) := by decide +kernel
theorem dX11_sky_21 : decode cX11_sky 21 = .ok (.ireturn, 1) := by decide +kernel
theorem dX11_sky_22 : decode cX11_sky 22 = .ok (.iload_n 2, 1) := by decide +kernel
theorem dX11_sky_23 : decode cX11_sky 23 = .ok (.ifCond .ne 15, 3) := by decide +kernel
theorem dX11_sky_26 : decode cX11_sky 26 = .ok (.aload_n 0, 1) := by decide +kernel
theorem dX11_sky_27 : decode cX11_sky 27 = .ok (.getfield 51, 3) := by decide +kernel
theorem dX11_sky_30 : decode cX11_sky 30 = .ok (.getfield 170, 3) := by decide +kernel
theorem dX11_sky_33 : decode cX11_sky 33 = .ok (.iload_n 1, 1) := by decide +kernel
theorem dX11_sky_34 : decode cX11_sky 34 = .ok (.iaload, 1) := by decide +kernel
theorem dX11_sky_35 : decode cX11_sky 35 = .ok (.goto 12, 3) := by decide +kernel
theorem dX11_sky_38 : decode cX11_sky 38 = .ok (.aload_n 0, 1) := by decide +kernel
theorem dX11_sky_39 : decode cX11_sky 39 = .ok (.getfield 51, 3) := by decide +kernel
theorem dX11_sky_42 : decode cX11_sky 42 = .ok (.getfield 173, 3) := by decide +kernel
theorem dX11_sky_45 : decode cX11_sky 45 = .ok (.iload_n 1, 1) := by decide +kernel
theorem dX11_sky_46 : decode cX11_sky 46 = .ok (.iaload, 1) := by decide +kernel
theorem dX11_sky_47 : decode cX11_sky 47 = .ok (.ireturn, 1) := by decide +kernel
theorem dX11_undo_0 : decode cX11_undo 0 = .ok (.aload_n 0, 1) := by decide +kernel
theorem dX11_undo_1 : decode cX11_undo 1 = .ok (.getfield 57, 3) := by decide +kernel
theorem dX11_undo_4 : decode cX11_undo 4 = .ok (.aload_n 0, 1) := by decide +kernel
theorem dX11_undo_5 : decode cX11_undo 5 = .ok (.getfield 51, 3) := by decide +kernel
theorem dX11_undo_8 : decode cX11_undo 8 = .ok (.invokevirtual 199, 3) := by decide +kernel
theorem dX11_undo_11 : decode cX11_undo 11 = .ok (.ireturn, 1) := by decide +kernel
theorem dX11_watch_0 : decode cX11_watch 0 = .ok (.aload_n 0, 1) := by decide +kernel
theorem dX11_watch_1 : decode cX11_watch 1 = .ok (.getfield 51, 3) := by decide +kernel
theorem dX11_watch_4 : decode cX11_watch 4 = .ok (.iload_n 1, 1) := by decide +kernel
theorem dX11_watch_5 : decode cX11_watch 5 = .ok (.invokevirtual 163, 3) := by decide +kernel
theorem dX11_watch_8 : decode cX11_watch 8 = .ok (.ifCond .eq 14, 3) := by decide +kernel
theorem dX11_watch_11 : decode cX11_watch 11 = .ok (.aload_n 0, 1) := by decide +kernel
theorem dX11_watch_12 : decode cX11_watch 12 = .ok (.getfield 51, 3) := by decide +kernel
theorem dX11_watch_15 : decode cX11_watch 15 = .ok (.iload_n 2, 1) := by decide +kernel
theorem dX11_watch_16 : decode cX11_watch 16 = .ok (.invokevirtual 133, 3) := by decide +kernel
theorem dX11_watch_19 : decode cX11_watch 19 = .ok (.ifCond .ne 5, 3) := by decide +kernel
theorem dX11_watch_22 : decode cX11_watch 22 = .ok (.iconst (-1), 1) := by decide +kernel
theorem dX11_watch_23 : decode cX11_watch 23 = .ok (.ireturn, 1) := by decide +kernel
theorem dX11_watch_24 : decode cX11_watch 24 = .ok (.aload_n 0, 1) := by decide +kernel
theorem dX11_watch_25 : decode cX11_watch 25 = .ok (.getfield 57, 3) := by decide +kernel
theorem dX11_watch_28 : decode cX11_watch 28 = .ok (.aload_n 0, 1) := by decide +kernel
theorem dX11_watch_29 : decode cX11_watch 29 = .ok (.getfield 51, 3) := by decide +kernel
theorem dX11_watch_32 : decode cX11_watch 32 = .ok (.invokevirtual 182, 3) := by decide +kernel
theorem dX11_watch_35 : decode cX11_watch 35 = .ok (.aload_n 0, 1) := by decide +kernel
theorem dX11_watch_36 : decode cX11_watch 36 = .ok (.getfield 51, 3) := by decide +kernel
theorem dX11_watch_39 : decode cX11_watch 39 = .ok (.getfield 173, 3) := by decide +kernel
theorem dX11_watch_42 : decode cX11_watch 42 = .ok (.iload_n 1, 1) := by decide +kernel
theorem dX11_watch_43 : decode cX11_watch 43 = .ok (.dup2, 1) := by decide +kernel
theorem dX11_watch_44 : decode cX11_watch 44 = .ok (.iaload, 1) := by decide +kernel
theorem dX11_watch_45 : decode cX11_watch 45 = .ok (.iconst 1, 1) := by decide +kernel
theorem dX11_watch_46 : decode cX11_watch 46 = .ok (.iload_n 2, 1) := by decide +kernel
theorem dX11_watch_47 : decode cX11_watch 47 = .ok (.ishl, 1) := by decide +kernel
theorem dX11_watch_48 : decode cX11_watch 48 = .ok (.ixor, 1) := by decide +kernel
theorem dX11_watch_49 : decode cX11_watch 49 = .ok (.iastore, 1) := by decide +kernel
theorem dX11_watch_50 : decode cX11_watch 50 = .ok (.aload_n 0, 1) := by decide +kernel
theorem dX11_watch_51 : decode cX11_watch 51 = .ok (.getfield 51, 3) := by decide +kernel
theorem dX11_watch_54 : decode cX11_watch 54 = .ok (.getfield 173, 3) := by decide +kernel
theorem dX11_watch_57 : decode cX11_watch 57 = .ok (.iload_n 1, 1) := by decide +kernel
theorem dX11_watch_58 : decode cX11_watch 58 = .ok (.iaload, 1) := by decide +kernel
theorem dX11_watch_59 : decode cX11_watch 59 = .ok (.iload_n 2, 1) := by decide +kernel
theorem dX11_watch_60 : decode cX11_watch 60 = .ok (.ishr, 1) := by decide +kernel
theorem dX11_watch_61 : decode cX11_watch 61 = .ok (.iconst 1, 1) := by decide +kernel
theorem dX11_watch_62 : decode cX11_watch 62 = .ok (.iand, 1) := by decide +kernel
theorem dX11_watch_63 : decode cX11_watch 63 = .ok (.ireturn, 1) := by decide +kernel
set_option maxHeartbeats 4000000 in
set_option maxRecDepth 100000 in
theorem ct_X11_isWithin (l : Launch) (D : va_G) (tc : Nat → ClassId) (sk : (Nat → Nat) × (Nat → Nat)) (x1 : Int32) (x2 : Int32) (x3 : Int32)  : Ct l yX11_isWithin cX11_isWithin 3 (some .boolean) { frames := 0, cells := 0, slots := 0, locals := 0 } D tc sk [.int x1, .int x2, .int x3] [] (fun (v : Option Value) (_ : Unit) => ∃ r : Int32, v = some (.int r) ∧ ((r.toInt = 0 ∨ (r.toInt = 1 ∧ x2.toInt ≤ x1.toInt ∧ x1.toInt ≤ x3.toInt)))) (fun (_ : Unit) => []) 0 0 := by
  refine Ct.start (by decide) (Nat.le_of_ble_eq_true rfl) (fun p e s m below meth c A ls hx hb hr hlk hin hml hown hts hK hX hP hD hA hl hS => ?_)
  have hl : lv_has ls 3 [(0, .int x1), (1, .int x2), (2, .int x3)] := hl
  refine lv_iload_n hx hb dX11_isWithin_0 rfl (lv_at hl 0 rfl) ?_
  refine lv_iload_n hx hb dX11_isWithin_1 rfl (lv_at hl 1 rfl) ?_
  refine lv_icmp_lt (tgt := 14) hx hb dX11_isWithin_2 (by decide) (fun c_1 => ?_) (fun c_1 => ?_)
  · skip
    refine lv_iconst (v := 0) hx hb dX11_isWithin_14 (by decide) ?_
    have hp_2 : ((0 : Int32).toInt = 0 ∨ ((0 : Int32).toInt = 1 ∧ x2.toInt ≤ x1.toInt ∧ x1.toInt ≤ x3.toInt)) := by
      have z_1 := Int32.lt_iff_toInt_lt.mp c_1
      have y_0 : (0 : Int32).toInt = 0 := by decide
      have yr : (0 : Int32).toInt = 0 := by decide
      omega
    exact retI (v := 0) hx hb hr hlk (rfl) hP hD hS () ⟨_, rfl, hp_2⟩ [] rfl rfl dX11_isWithin_15 (Nat.le_of_ble_eq_true rfl) (Nat.le_of_ble_eq_true rfl) rfl
  · skip
    refine lv_iload_n hx hb dX11_isWithin_5 rfl (lv_at hl 0 rfl) ?_
    refine lv_iload_n hx hb dX11_isWithin_6 rfl (lv_at hl 2 rfl) ?_
    refine lv_icmp_gt (tgt := 14) hx hb dX11_isWithin_7 (by decide) (fun c_3 => ?_) (fun c_3 => ?_)
    · skip
      refine lv_iconst (v := 0) hx hb dX11_isWithin_14 (by decide) ?_
      have hp_4 : ((0 : Int32).toInt = 0 ∨ ((0 : Int32).toInt = 1 ∧ x2.toInt ≤ x1.toInt ∧ x1.toInt ≤ x3.toInt)) := by
        have z_1 := Int32.le_iff_toInt_le.mp (Int32.not_lt.mp c_1)
        have z_2 := Int32.lt_iff_toInt_lt.mp c_3
        have y_0 : (0 : Int32).toInt = 0 := by decide
        have yr : (0 : Int32).toInt = 0 := by decide
        omega
      exact retI (v := 0) hx hb hr hlk (rfl) hP hD hS () ⟨_, rfl, hp_4⟩ [] rfl rfl dX11_isWithin_15 (Nat.le_of_ble_eq_true rfl) (Nat.le_of_ble_eq_true rfl) rfl
    · skip
      refine lv_iconst (v := 1) hx hb dX11_isWithin_10 (by decide) ?_
      refine lv_goto (tgt := 15) hx hb dX11_isWithin_11 (by decide) ?_
      have hp_5 : ((1 : Int32).toInt = 0 ∨ ((1 : Int32).toInt = 1 ∧ x2.toInt ≤ x1.toInt ∧ x1.toInt ≤ x3.toInt)) := by
        have z_1 := Int32.le_iff_toInt_le.mp (Int32.not_lt.mp c_1)
        have z_2 := Int32.le_iff_toInt_le.mp (Int32.not_lt.mp c_3)
        have y_1 : (1 : Int32).toInt = 1 := by decide
        have yr : (1 : Int32).toInt = 1 := by decide
        omega
      exact retI (v := 1) hx hb hr hlk (rfl) hP hD hS () ⟨_, rfl, hp_5⟩ [] rfl rfl dX11_isWithin_15 (Nat.le_of_ble_eq_true rfl) (Nat.le_of_ble_eq_true rfl) rfl
set_option maxHeartbeats 4000000 in
set_option maxRecDepth 100000 in
theorem ct_X11_ruleInForce_n (l : Launch) (D : va_G) (tc : Nat → ClassId) (sk : (Nat → Nat) × (Nat → Nat)) (Ga : Nat → Nat) (Gv : Nat → Int32) (Sa : Nat → Nat) (Sv : Nat → Int32) (La : Nat → Nat) (Lq : Nat → Nat → Option Nat) (h_r : 0 ≤ (Sv 0).toInt ∧ (Sv 0).toInt < 6 → (Lq 0) (Sv 0).toNatClampNeg = none) : Ct l yX11_ruleInForce cX11_ruleInForce 2 (some (.object "PoisonBook$Rule")) { frames := 0, cells := 0, slots := 0, locals := 0 } D tc sk [.ref (Ga 0)] [((Ga 0), .inr (11, [.ref (Ga 1), .ref (Ga 2), .ref (Ga 3), .ref (La 0), .int (Gv 0), .ref (Sa 0), .ref (Ga 6), .ref (Ga 7), .ref (Ga 8), .ref (Ga 9), .ref (Ga 10), .ref (Ga 11)])), ((Sa 0), .inr (8, [.ref (Sa 1), .ref (Sa 2), .ref (Sa 3), .int (Sv 0), .int (Sv 1)])), ((La 0), .inl (tc 4, 6, .inr (.inr (.inr (.inr (Lq 0))))))] (fun (v : Option Value) (_ : Unit) => v = some (.null)) (fun (_ : Unit) => [((Ga 0), .inr (11, [.ref (Ga 1), .ref (Ga 2), .ref (Ga 3), .ref (La 0), .int (Gv 0), .ref (Sa 0), .ref (Ga 6), .ref (Ga 7), .ref (Ga 8), .ref (Ga 9), .ref (Ga 10), .ref (Ga 11)])), ((Sa 0), .inr (8, [.ref (Sa 1), .ref (Sa 2), .ref (Sa 3), .int (Sv 0), .int (Sv 1)])), ((La 0), .inl (tc 4, 6, .inr (.inr (.inr (.inr (Lq 0))))))]) 0 0 := by
  refine Ct.start (by decide) (Nat.le_of_ble_eq_true rfl) (fun p e s m below meth c A ls hx hb hr hlk hin hml hown hts hK hX hP hD hA hl hS => ?_)
  have hl : lv_has ls 2 [(0, .ref (Ga 0))] := hl
  refine lv_aload_n hx hb dX11_ruleInForce_0 rfl (lv_at hl 0 rfl) ?_
  refine gf_X11_43 hx hb hts hown hK hP 0 rfl rfl dX11_ruleInForce_1 ?_
  refine gf_X11_130 hx hb hts hown hK hP 1 rfl rfl dX11_ruleInForce_4 ?_
  refine lv_istore_n (lv' := [(1, .int (Sv 0)), (0, .ref (Ga 0))]) hx hb dX11_ruleInForce_7 rfl hl (by decide) rfl (fun ls hl₀ => ?_)
  replace hl := hl₀
  clear hl₀
  refine lv_iload_n hx hb dX11_ruleInForce_8 rfl (lv_at hl 0 rfl) ?_
  refine lv_if_lt (tgt := 30) hx hb dX11_ruleInForce_9 (by decide) (fun c_1 => ?_) (fun c_1 => ?_)
  · skip
    refine lv_null hx hb dX11_ruleInForce_30 ?_
    exact retA (v := .null) hx hb hr hlk (Or.inl ⟨_, rfl⟩) (Or.inl rfl) hP hD hS () rfl [0, 1, 2] rfl rfl dX11_ruleInForce_31 (Nat.le_of_ble_eq_true rfl) (Nat.le_of_ble_eq_true rfl) rfl
  · skip
    refine lv_iload_n hx hb dX11_ruleInForce_12 rfl (lv_at hl 0 rfl) ?_
    refine lv_aload_n hx hb dX11_ruleInForce_13 rfl (lv_at hl 1 rfl) ?_
    refine gf_X11_32 hx hb hts hown hK hP 0 rfl rfl dX11_ruleInForce_14 ?_
    refine va_alen hx hb hK hP 2 4 rfl rfl (v := 6) rfl dX11_ruleInForce_17 ?_
    refine lv_icmp_ge (tgt := 30) hx hb dX11_ruleInForce_18 (by decide) (fun c_2 => ?_) (fun c_2 => ?_)
    · skip
      refine lv_null hx hb dX11_ruleInForce_30 ?_
      exact retA (v := .null) hx hb hr hlk (Or.inl ⟨_, rfl⟩) (Or.inl rfl) hP hD hS () rfl [0, 1, 2] rfl rfl dX11_ruleInForce_31 (Nat.le_of_ble_eq_true rfl) (Nat.le_of_ble_eq_true rfl) rfl
    · skip
      refine lv_aload_n hx hb dX11_ruleInForce_21 rfl (lv_at hl 1 rfl) ?_
      refine gf_X11_32 hx hb hts hown hK hP 0 rfl rfl dX11_ruleInForce_22 ?_
      refine lv_iload_n hx hb dX11_ruleInForce_25 rfl (lv_at hl 0 rfl) ?_
      have hi_3 : vp_in (Sv 0) 6 := by
        have z_1 := Int32.le_iff_toInt_le.mp (Int32.not_lt.mp c_1)
        have z_2 := Int32.lt_iff_toInt_lt.mp (Int32.not_le.mp c_2)
        have y_0 : (0 : Int32).toInt = 0 := by decide
        have y_6 : (6 : Int32).toInt = 6 := by decide
        refine vp_in_iff.mpr ⟨?_, ?_⟩ <;> omega
      refine va_aldq hx hb hK hP 2 4 rfl rfl hi_3 dX11_ruleInForce_26 ?_
      have hz_4 : 0 ≤ (Sv 0).toInt ∧ (Sv 0).toInt < 6 := by
        have z_1 := Int32.le_iff_toInt_le.mp (Int32.not_lt.mp c_1)
        have z_2 := Int32.lt_iff_toInt_lt.mp (Int32.not_le.mp c_2)
        have y_0 : (0 : Int32).toInt = 0 := by decide
        have y_6 : (6 : Int32).toInt = 6 := by decide
        omega
      refine lv_val (v := .null) (by rw [h_r hz_4]; rfl) ?_
      refine lv_goto (tgt := 31) hx hb dX11_ruleInForce_27 (by decide) ?_
      exact retA (v := .null) hx hb hr hlk (Or.inl ⟨_, rfl⟩) (Or.inl rfl) hP hD hS () rfl [0, 1, 2] rfl rfl dX11_ruleInForce_31 (Nat.le_of_ble_eq_true rfl) (Nat.le_of_ble_eq_true rfl) rfl
set_option maxRecDepth 100000 in
theorem cu_X11_ruleInForce_n (l : Launch) (D : va_G) (tc : Nat → ClassId) (sk : (Nat → Nat) × (Nat → Nat)) (Ga_0 : Nat) (Ga_1 : Nat) (Ga_2 : Nat) (Ga_3 : Nat) (Ga_6 : Nat) (Ga_7 : Nat) (Ga_8 : Nat) (Ga_9 : Nat) (Ga_10 : Nat) (Ga_11 : Nat) (Gv_0 : Int32) (Sa_0 : Nat) (Sa_1 : Nat) (Sa_2 : Nat) (Sa_3 : Nat) (Sv_0 : Int32) (Sv_1 : Int32) (La_0 : Nat) (Lq_0 : Nat → Option Nat) (h_r : 0 ≤ Sv_0.toInt ∧ Sv_0.toInt < 6 → Lq_0 Sv_0.toNatClampNeg = none) : Ct l yX11_ruleInForce cX11_ruleInForce 2 (some (.object "PoisonBook$Rule")) { frames := 0, cells := 0, slots := 0, locals := 0 } D tc sk [.ref Ga_0] [(Ga_0, .inr (11, [.ref Ga_1, .ref Ga_2, .ref Ga_3, .ref La_0, .int Gv_0, .ref Sa_0, .ref Ga_6, .ref Ga_7, .ref Ga_8, .ref Ga_9, .ref Ga_10, .ref Ga_11])), (Sa_0, .inr (8, [.ref Sa_1, .ref Sa_2, .ref Sa_3, .int Sv_0, .int Sv_1])), (La_0, .inl (tc 4, 6, .inr (.inr (.inr (.inr Lq_0)))))] (fun (v : Option Value) (_ : Unit) => v = some (.null)) (fun (_ : Unit) => [(Ga_0, .inr (11, [.ref Ga_1, .ref Ga_2, .ref Ga_3, .ref La_0, .int Gv_0, .ref Sa_0, .ref Ga_6, .ref Ga_7, .ref Ga_8, .ref Ga_9, .ref Ga_10, .ref Ga_11])), (Sa_0, .inr (8, [.ref Sa_1, .ref Sa_2, .ref Sa_3, .int Sv_0, .int Sv_1])), (La_0, .inl (tc 4, 6, .inr (.inr (.inr (.inr Lq_0)))))]) 0 0 :=
  ct_X11_ruleInForce_n l D tc sk (fun k => ([Ga_0, Ga_1, Ga_2, Ga_3, 0, 0, Ga_6, Ga_7, Ga_8, Ga_9, Ga_10, Ga_11] : List (Nat)).getD k 0) (fun k => ([Gv_0] : List (Int32)).getD k 0) (fun k => ([Sa_0, Sa_1, Sa_2, Sa_3] : List (Nat)).getD k 0) (fun k => ([Sv_0, Sv_1] : List (Int32)).getD k 0) (fun k => ([La_0] : List (Nat)).getD k 0) (fun k => ([Lq_0] : List (Nat → Option Nat)).getD k (fun _ => none)) h_r
set_option maxHeartbeats 4000000 in
set_option maxRecDepth 100000 in
theorem ct_X11_ruleInForce_r (l : Launch) (D : va_G) (tc : Nat → ClassId) (sk : (Nat → Nat) × (Nat → Nat)) (Ga : Nat → Nat) (Gv : Nat → Int32) (Sa : Nat → Nat) (Sv : Nat → Int32) (La : Nat → Nat) (Lq : Nat → Nat → Option Nat) (ra : Nat) (h_r : (0 ≤ (Sv 0).toInt ∧ (Sv 0).toInt < 6) ∧ (Lq 0) (Sv 0).toNatClampNeg = some ra) : Ct l yX11_ruleInForce cX11_ruleInForce 2 (some (.object "PoisonBook$Rule")) { frames := 0, cells := 0, slots := 0, locals := 0 } D tc sk [.ref (Ga 0)] [((Ga 0), .inr (11, [.ref (Ga 1), .ref (Ga 2), .ref (Ga 3), .ref (La 0), .int (Gv 0), .ref (Sa 0), .ref (Ga 6), .ref (Ga 7), .ref (Ga 8), .ref (Ga 9), .ref (Ga 10), .ref (Ga 11)])), ((Sa 0), .inr (8, [.ref (Sa 1), .ref (Sa 2), .ref (Sa 3), .int (Sv 0), .int (Sv 1)])), ((La 0), .inl (tc 4, 6, .inr (.inr (.inr (.inr (Lq 0))))))] (fun (v : Option Value) (_ : Unit) => v = some (.ref ra)) (fun (_ : Unit) => [((Ga 0), .inr (11, [.ref (Ga 1), .ref (Ga 2), .ref (Ga 3), .ref (La 0), .int (Gv 0), .ref (Sa 0), .ref (Ga 6), .ref (Ga 7), .ref (Ga 8), .ref (Ga 9), .ref (Ga 10), .ref (Ga 11)])), ((Sa 0), .inr (8, [.ref (Sa 1), .ref (Sa 2), .ref (Sa 3), .int (Sv 0), .int (Sv 1)])), ((La 0), .inl (tc 4, 6, .inr (.inr (.inr (.inr (Lq 0))))))]) 0 0 := by
  refine Ct.start (by decide) (Nat.le_of_ble_eq_true rfl) (fun p e s m below meth c A ls hx hb hr hlk hin hml hown hts hK hX hP hD hA hl hS => ?_)
  have hl : lv_has ls 2 [(0, .ref (Ga 0))] := hl
  refine lv_aload_n hx hb dX11_ruleInForce_0 rfl (lv_at hl 0 rfl) ?_
  refine gf_X11_43 hx hb hts hown hK hP 0 rfl rfl dX11_ruleInForce_1 ?_
  refine gf_X11_130 hx hb hts hown hK hP 1 rfl rfl dX11_ruleInForce_4 ?_
  refine lv_istore_n (lv' := [(1, .int (Sv 0)), (0, .ref (Ga 0))]) hx hb dX11_ruleInForce_7 rfl hl (by decide) rfl (fun ls hl₀ => ?_)
  replace hl := hl₀
  clear hl₀
  refine lv_iload_n hx hb dX11_ruleInForce_8 rfl (lv_at hl 0 rfl) ?_
  refine lv_if_lt (tgt := 30) hx hb dX11_ruleInForce_9 (by decide) (fun c_1 => ?_) (fun c_1 => ?_)
  · skip
    exfalso
    have z_1 := Int32.lt_iff_toInt_lt.mp c_1
    have y_0 : (0 : Int32).toInt = 0 := by decide
    omega
  · skip
    refine lv_iload_n hx hb dX11_ruleInForce_12 rfl (lv_at hl 0 rfl) ?_
    refine lv_aload_n hx hb dX11_ruleInForce_13 rfl (lv_at hl 1 rfl) ?_
    refine gf_X11_32 hx hb hts hown hK hP 0 rfl rfl dX11_ruleInForce_14 ?_
    refine va_alen hx hb hK hP 2 4 rfl rfl (v := 6) rfl dX11_ruleInForce_17 ?_
    refine lv_icmp_ge (tgt := 30) hx hb dX11_ruleInForce_18 (by decide) (fun c_2 => ?_) (fun c_2 => ?_)
    · skip
      exfalso
      have z_1 := Int32.le_iff_toInt_le.mp (Int32.not_lt.mp c_1)
      have z_2 := Int32.le_iff_toInt_le.mp c_2
      have y_0 : (0 : Int32).toInt = 0 := by decide
      have y_6 : (6 : Int32).toInt = 6 := by decide
      omega
    · skip
      refine lv_aload_n hx hb dX11_ruleInForce_21 rfl (lv_at hl 1 rfl) ?_
      refine gf_X11_32 hx hb hts hown hK hP 0 rfl rfl dX11_ruleInForce_22 ?_
      refine lv_iload_n hx hb dX11_ruleInForce_25 rfl (lv_at hl 0 rfl) ?_
      have hi_3 : vp_in (Sv 0) 6 := by
        have z_1 := Int32.le_iff_toInt_le.mp (Int32.not_lt.mp c_1)
        have z_2 := Int32.lt_iff_toInt_lt.mp (Int32.not_le.mp c_2)
        have y_0 : (0 : Int32).toInt = 0 := by decide
        have y_6 : (6 : Int32).toInt = 6 := by decide
        refine vp_in_iff.mpr ⟨?_, ?_⟩ <;> omega
      refine va_aldq hx hb hK hP 2 4 rfl rfl hi_3 dX11_ruleInForce_26 ?_
      refine lv_val (v := .ref ra) (by rw [h_r.2]; rfl) ?_
      refine lv_goto (tgt := 31) hx hb dX11_ruleInForce_27 (by decide) ?_
      exact retA (v := .ref ra) hx hb hr hlk (Or.inl ⟨_, rfl⟩) (Or.inr ⟨_, rfl⟩) hP hD hS () rfl [0, 1, 2] rfl rfl dX11_ruleInForce_31 (Nat.le_of_ble_eq_true rfl) (Nat.le_of_ble_eq_true rfl) rfl
set_option maxRecDepth 100000 in
theorem cu_X11_ruleInForce_r (l : Launch) (D : va_G) (tc : Nat → ClassId) (sk : (Nat → Nat) × (Nat → Nat)) (Ga_0 : Nat) (Ga_1 : Nat) (Ga_2 : Nat) (Ga_3 : Nat) (Ga_6 : Nat) (Ga_7 : Nat) (Ga_8 : Nat) (Ga_9 : Nat) (Ga_10 : Nat) (Ga_11 : Nat) (Gv_0 : Int32) (Sa_0 : Nat) (Sa_1 : Nat) (Sa_2 : Nat) (Sa_3 : Nat) (Sv_0 : Int32) (Sv_1 : Int32) (La_0 : Nat) (Lq_0 : Nat → Option Nat) (ra : Nat) (h_r : (0 ≤ Sv_0.toInt ∧ Sv_0.toInt < 6) ∧ Lq_0 Sv_0.toNatClampNeg = some ra) : Ct l yX11_ruleInForce cX11_ruleInForce 2 (some (.object "PoisonBook$Rule")) { frames := 0, cells := 0, slots := 0, locals := 0 } D tc sk [.ref Ga_0] [(Ga_0, .inr (11, [.ref Ga_1, .ref Ga_2, .ref Ga_3, .ref La_0, .int Gv_0, .ref Sa_0, .ref Ga_6, .ref Ga_7, .ref Ga_8, .ref Ga_9, .ref Ga_10, .ref Ga_11])), (Sa_0, .inr (8, [.ref Sa_1, .ref Sa_2, .ref Sa_3, .int Sv_0, .int Sv_1])), (La_0, .inl (tc 4, 6, .inr (.inr (.inr (.inr Lq_0)))))] (fun (v : Option Value) (_ : Unit) => v = some (.ref ra)) (fun (_ : Unit) => [(Ga_0, .inr (11, [.ref Ga_1, .ref Ga_2, .ref Ga_3, .ref La_0, .int Gv_0, .ref Sa_0, .ref Ga_6, .ref Ga_7, .ref Ga_8, .ref Ga_9, .ref Ga_10, .ref Ga_11])), (Sa_0, .inr (8, [.ref Sa_1, .ref Sa_2, .ref Sa_3, .int Sv_0, .int Sv_1])), (La_0, .inl (tc 4, 6, .inr (.inr (.inr (.inr Lq_0)))))]) 0 0 :=
  ct_X11_ruleInForce_r l D tc sk (fun k => ([Ga_0, Ga_1, Ga_2, Ga_3, 0, 0, Ga_6, Ga_7, Ga_8, Ga_9, Ga_10, Ga_11] : List (Nat)).getD k 0) (fun k => ([Gv_0] : List (Int32)).getD k 0) (fun k => ([Sa_0, Sa_1, Sa_2, Sa_3] : List (Nat)).getD k 0) (fun k => ([Sv_0, Sv_1] : List (Int32)).getD k 0) (fun k => ([La_0] : List (Nat)).getD k 0) (fun k => ([Lq_0] : List (Nat → Option Nat)).getD k (fun _ => none)) ra h_r
set_option maxHeartbeats 4000000 in
set_option maxRecDepth 100000 in
theorem ct_X11_force (l : Launch) (D : va_G) (tc : Nat → ClassId) (sk : (Nat → Nat) × (Nat → Nat)) (Ga : Nat → Nat) (Gv : Nat → Int32) (Sa : Nat → Nat) (Sv : Nat → Int32) (x1 : Int32)  : Ct l yX11_force cX11_force 3 (some .int) { frames := 0, cells := 0, slots := 0, locals := 0 } D tc sk [.ref (Ga 0), .int x1] [((Ga 0), .inr (11, [.ref (Ga 1), .ref (Ga 2), .ref (Ga 3), .ref (Ga 4), .int (Gv 0), .ref (Sa 0), .ref (Ga 6), .ref (Ga 7), .ref (Ga 8), .ref (Ga 9), .ref (Ga 10), .ref (Ga 11)])), ((Sa 0), .inr (8, [.ref (Sa 1), .ref (Sa 2), .ref (Sa 3), .int (Sv 0), .int (Sv 1)]))] (fun (v : Option Value) (oo0x1 : Int32) => ∃ r : Int32, v = some (.int r) ∧ (True)) (fun (oo0x1 : Int32) => [((Ga 0), .inr (11, [.ref (Ga 1), .ref (Ga 2), .ref (Ga 3), .ref (Ga 4), .int (Gv 0), .ref (Sa 0), .ref (Ga 6), .ref (Ga 7), .ref (Ga 8), .ref (Ga 9), .ref (Ga 10), .ref (Ga 11)])), ((Sa 0), .inr (8, [.ref (Sa 1), .ref (Sa 2), .ref (Sa 3), .int oo0x1, .int (Sv 1)]))]) 0 0 := by
  refine Ct.start (by decide) (Nat.le_of_ble_eq_true rfl) (fun p e s m below meth c A ls hx hb hr hlk hin hml hown hts hK hX hP hD hA hl hS => ?_)
  have hl : lv_has ls 3 [(0, .ref (Ga 0)), (1, .int x1)] := hl
  refine lv_iload_n hx hb dX11_force_0 rfl (lv_at hl 1 rfl) ?_
  refine lv_iconst (v := (-1)) hx hb dX11_force_1 (by decide) ?_
  refine lv_icmp_lt (tgt := 13) hx hb dX11_force_2 (by decide) (fun c_1 => ?_) (fun c_1 => ?_)
  · skip
    refine lv_bipush (v := (-2)) hx hb dX11_force_13 (by decide) ?_
    exact retI (v := (-2)) hx hb hr hlk (rfl) hP hD hS (Sv 0) ⟨_, rfl, trivial⟩ [0, 1] rfl rfl dX11_force_15 (Nat.le_of_ble_eq_true rfl) (Nat.le_of_ble_eq_true rfl) rfl
  · skip
    refine lv_iload_n hx hb dX11_force_5 rfl (lv_at hl 1 rfl) ?_
    refine lv_aload_n hx hb dX11_force_6 rfl (lv_at hl 0 rfl) ?_
    refine gf_X11_36 hx hb hts hown hK hP 0 rfl rfl dX11_force_7 ?_
    refine lv_icmp_lt (tgt := 16) hx hb dX11_force_10 (by decide) (fun c_2 => ?_) (fun c_2 => ?_)
    · skip
      refine lv_aload_n hx hb dX11_force_16 rfl (lv_at hl 0 rfl) ?_
      refine gf_X11_43 hx hb hts hown hK hP 0 rfl rfl dX11_force_17 ?_
      refine gf_X11_130 hx hb hts hown hK hP 1 rfl rfl dX11_force_20 ?_
      refine lv_istore_n (lv' := [(2, .int (Sv 0)), (0, .ref (Ga 0)), (1, .int x1)]) hx hb dX11_force_23 rfl hl (by decide) rfl (fun ls hl₀ => ?_)
      replace hl := hl₀
      clear hl₀
      refine lv_aload_n hx hb dX11_force_24 rfl (lv_at hl 1 rfl) ?_
      refine gf_X11_43 hx hb hts hown hK hP 0 rfl rfl dX11_force_25 ?_
      refine lv_iload_n hx hb dX11_force_28 rfl (lv_at hl 2 rfl) ?_
      refine pf_X11_130 hx hb hts hown hK hP hD hS 1 rfl (Nat.le_of_ble_eq_true rfl) rfl rfl dX11_force_29 (fun H locs hP₀ hD₀ hS₀ => ?_)
      replace hP : va_P D classes [((Ga 0), .inr (11, [.ref (Ga 1), .ref (Ga 2), .ref (Ga 3), .ref (Ga 4), .int (Gv 0), .ref (Sa 0), .ref (Ga 6), .ref (Ga 7), .ref (Ga 8), .ref (Ga 9), .ref (Ga 10), .ref (Ga 11)])), ((Sa 0), .inr (8, [.ref (Sa 1), .ref (Sa 2), .ref (Sa 3), .int x1, .int (Sv 1)]))] H := hP₀
      replace hD : va_D A [((Ga 0), .inr (11, [.ref (Ga 1), .ref (Ga 2), .ref (Ga 3), .ref (Ga 4), .int (Gv 0), .ref (Sa 0), .ref (Ga 6), .ref (Ga 7), .ref (Ga 8), .ref (Ga 9), .ref (Ga 10), .ref (Ga 11)])), ((Sa 0), .inr (8, [.ref (Sa 1), .ref (Sa 2), .ref (Sa 3), .int x1, .int (Sv 1)]))] := hD₀
      replace hS := hS₀
      clear hP₀ hD₀ hS₀
      refine lv_iload_n hx hb dX11_force_32 rfl (lv_at hl 0 rfl) ?_
      exact retI (v := (Sv 0)) hx hb hr hlk (rfl) hP hD hS x1 ⟨_, rfl, trivial⟩ [0, 1] rfl rfl dX11_force_33 (Nat.le_of_ble_eq_true rfl) (Nat.le_of_ble_eq_true rfl) rfl
    · skip
      refine lv_bipush (v := (-2)) hx hb dX11_force_13 (by decide) ?_
      exact retI (v := (-2)) hx hb hr hlk (rfl) hP hD hS (Sv 0) ⟨_, rfl, trivial⟩ [0, 1] rfl rfl dX11_force_15 (Nat.le_of_ble_eq_true rfl) (Nat.le_of_ble_eq_true rfl) rfl
set_option maxHeartbeats 4000000 in
set_option maxRecDepth 100000 in
theorem ct_X11_buyer (l : Launch) (D : va_G) (tc : Nat → ClassId) (sk : (Nat → Nat) × (Nat → Nat)) (Ga : Nat → Nat) (Gv : Nat → Int32) (Aa : Nat → Nat) (Av : Nat → Int32) (Af : Nat → Nat → Int32) (x1 : Int32) (x2 : Int32)  : Ct l yX11_buyer cX11_buyer 3 (some .int) { frames := 2, cells := 0, slots := 0, locals := 42 } D tc sk [.ref (Ga 0), .int x1, .int x2] [((Ga 0), .inr (11, [.ref (Ga 1), .ref (Ga 2), .ref (Ga 3), .ref (Ga 4), .int (Gv 0), .ref (Ga 5), .ref (Aa 0), .ref (Ga 7), .ref (Ga 8), .ref (Ga 9), .ref (Ga 10), .ref (Ga 11)])), ((Aa 0), .inr (9, [.int (Av 0), .int (Av 1), .int (Av 2), .int (Av 3), .int (Av 4), .int (Av 5), .ref (Aa 1), .ref (Aa 2), .ref (Aa 3), .ref (Aa 4), .ref (Aa 5), .ref (Aa 6), .ref (Aa 7), .ref (Aa 8)])), ((Aa 1), .inl (tc 0, 10, .inl (Af 1))), ((Aa 2), .inl (tc 0, 10, .inl (Af 2))), ((Aa 3), .inl (tc 0, 6, .inl (Af 3))), ((Aa 4), .inl (tc 0, 6, .inl (Af 4))), ((Aa 5), .inl (tc 0, 6, .inl (Af 5))), ((Aa 6), .inl (tc 0, 6, .inl (Af 6))), ((Aa 7), .inl (tc 0, 6, .inl (Af 7))), ((Aa 8), .inl (tc 0, 6, .inl (Af 8)))] (fun (v : Option Value) (_ : Unit) => ∃ r : Int32, v = some (.int r) ∧ (True)) (fun (_ : Unit) => [((Ga 0), .inr (11, [.ref (Ga 1), .ref (Ga 2), .ref (Ga 3), .ref (Ga 4), .int (Gv 0), .ref (Ga 5), .ref (Aa 0), .ref (Ga 7), .ref (Ga 8), .ref (Ga 9), .ref (Ga 10), .ref (Ga 11)])), ((Aa 0), .inr (9, [.int (Av 0), .int (Av 1), .int (Av 2), .int (Av 3), .int (Av 4), .int (Av 5), .ref (Aa 1), .ref (Aa 2), .ref (Aa 3), .ref (Aa 4), .ref (Aa 5), .ref (Aa 6), .ref (Aa 7), .ref (Aa 8)])), ((Aa 1), .inl (tc 0, 10, .inl (Af 1))), ((Aa 2), .inl (tc 0, 10, .inl (Af 2))), ((Aa 3), .inl (tc 0, 6, .inl (Af 3))), ((Aa 4), .inl (tc 0, 6, .inl (Af 4))), ((Aa 5), .inl (tc 0, 6, .inl (Af 5))), ((Aa 6), .inl (tc 0, 6, .inl (Af 6))), ((Aa 7), .inl (tc 0, 6, .inl (Af 7))), ((Aa 8), .inl (tc 0, 6, .inl (Af 8)))]) 0 0 := by
  refine Ct.start (by decide) (Nat.le_of_ble_eq_true rfl) (fun p e s m below meth c A ls hx hb hr hlk hin hml hown hts hK hX hP hD hA hl hS => ?_)
  have hl : lv_has ls 3 [(0, .ref (Ga 0)), (1, .int x1), (2, .int x2)] := hl
  refine lv_aload_n hx hb dX11_buyer_0 rfl (lv_at hl 0 rfl) ?_
  refine gf_X11_51 hx hb hts hown hK hP 0 rfl rfl dX11_buyer_1 ?_
  refine lv_iload_n hx hb dX11_buyer_4 rfl (lv_at hl 1 rfl) ?_
  refine cV (a := (Aa 0)) (As := [.int x1]) (rest := []) (wr := [((Ga 0), .inr (11, [.ref (Ga 1), .ref (Ga 2), .ref (Ga 3), .ref (Ga 4), .int (Gv 0), .ref (Ga 5), .ref (Aa 0), .ref (Ga 7), .ref (Ga 8), .ref (Ga 9), .ref (Ga 10), .ref (Ga 11)]))]) ⟨hx, hb, hml, hown, hts⟩ hK hX hA (cu_X9_hasBuyer l D tc sk (Aa 0) (Aa 1) (Aa 2) (Aa 3) (Aa 4) (Aa 5) (Aa 6) (Aa 7) (Aa 8) (Av 0) (Av 1) (Av 2) (Av 3) (Av 4) (Av 5) (Af 1) (Af 2) (Af 3) (Af 4) (Af 5) (Af 6) (Af 7) (Af 8) x1) k_591 k_702 k_589 k_590 k_98 pl_X9_hasBuyer ⟨Nat.le_of_ble_eq_true rfl, Nat.le_of_ble_eq_true rfl⟩ rfl rfl (va_recv hK hP (ci := 9) (q0 := 1) rfl rfl) hP hD hS [1, 2, 3, 4, 5, 6, 7, 8, 9] [0] rfl rfl rfl rfl rfl (by decide) rfl hl.1 rfl (Nat.le_of_ble_eq_true rfl) dX11_buyer_5 ⟨Nat.le_of_ble_eq_true rfl, Nat.le_of_ble_eq_true rfl⟩ (fun v_1 u_2 H locs hv_3 hP₀ hD₀ hS₀ => ?_)
  obtain ⟨r_4, rfl, he_5⟩ := hv_3
  have he_5 : ((r_4.toInt = 0 ∨ (r_4.toInt = 1 ∧ 0 ≤ x1.toInt ∧ x1.toInt < 6 ∧ x1.toInt < (Av 3).toInt))) := he_5
  refine W.eq (g2 := F0 m 8 ls [.int r_4]) rfl ?_
  replace hP : va_P D classes [((Ga 0), .inr (11, [.ref (Ga 1), .ref (Ga 2), .ref (Ga 3), .ref (Ga 4), .int (Gv 0), .ref (Ga 5), .ref (Aa 0), .ref (Ga 7), .ref (Ga 8), .ref (Ga 9), .ref (Ga 10), .ref (Ga 11)])), ((Aa 0), .inr (9, [.int (Av 0), .int (Av 1), .int (Av 2), .int (Av 3), .int (Av 4), .int (Av 5), .ref (Aa 1), .ref (Aa 2), .ref (Aa 3), .ref (Aa 4), .ref (Aa 5), .ref (Aa 6), .ref (Aa 7), .ref (Aa 8)])), ((Aa 1), .inl (tc 0, 10, .inl (Af 1))), ((Aa 2), .inl (tc 0, 10, .inl (Af 2))), ((Aa 3), .inl (tc 0, 6, .inl (Af 3))), ((Aa 4), .inl (tc 0, 6, .inl (Af 4))), ((Aa 5), .inl (tc 0, 6, .inl (Af 5))), ((Aa 6), .inl (tc 0, 6, .inl (Af 6))), ((Aa 7), .inl (tc 0, 6, .inl (Af 7))), ((Aa 8), .inl (tc 0, 6, .inl (Af 8)))] H := hP₀
  replace hD : va_D A [((Ga 0), .inr (11, [.ref (Ga 1), .ref (Ga 2), .ref (Ga 3), .ref (Ga 4), .int (Gv 0), .ref (Ga 5), .ref (Aa 0), .ref (Ga 7), .ref (Ga 8), .ref (Ga 9), .ref (Ga 10), .ref (Ga 11)])), ((Aa 0), .inr (9, [.int (Av 0), .int (Av 1), .int (Av 2), .int (Av 3), .int (Av 4), .int (Av 5), .ref (Aa 1), .ref (Aa 2), .ref (Aa 3), .ref (Aa 4), .ref (Aa 5), .ref (Aa 6), .ref (Aa 7), .ref (Aa 8)])), ((Aa 1), .inl (tc 0, 10, .inl (Af 1))), ((Aa 2), .inl (tc 0, 10, .inl (Af 2))), ((Aa 3), .inl (tc 0, 6, .inl (Af 3))), ((Aa 4), .inl (tc 0, 6, .inl (Af 4))), ((Aa 5), .inl (tc 0, 6, .inl (Af 5))), ((Aa 6), .inl (tc 0, 6, .inl (Af 6))), ((Aa 7), .inl (tc 0, 6, .inl (Af 7))), ((Aa 8), .inl (tc 0, 6, .inl (Af 8)))] := hD₀
  replace hS := hS₀
  clear hP₀ hD₀ hS₀
  refine lv_if_ne (tgt := 13) hx hb dX11_buyer_8 (by decide) (fun c_6 => ?_) (fun c_6 => ?_)
  · skip
    refine lv_iload_n hx hb dX11_buyer_13 rfl (lv_at hl 2 rfl) ?_
    refine lv_topi (fun x_7 ex_7 => ?_)
    by_cases c_8 : x_7 = 0
    · skip
      subst c_8
      refine lv_tableIn (off := 38) (tgt := 52) hx hb dX11_buyer_14 (by decide) (by decide) (by decide) (by decide) ?_
      refine lv_aload_n hx hb dX11_buyer_52 rfl (lv_at hl 0 rfl) ?_
      refine gf_X11_51 hx hb hts hown hK hP 0 rfl rfl dX11_buyer_53 ?_
      refine gf_X11_137 hx hb hts hown hK hP 1 rfl rfl dX11_buyer_56 ?_
      refine lv_iload_n hx hb dX11_buyer_59 rfl (lv_at hl 1 rfl) ?_
      have hi_9 : vp_in x1 6 := by
        have z_1 : ¬ (r_4 : Int32).toInt = (0 : Int32).toInt := fun z => c_6 (Int32.toInt_inj.mp z)
        have y_0 : (0 : Int32).toInt = 0 := by decide
        refine vp_in_iff.mpr ⟨?_, ?_⟩ <;> omega
      refine va_iald hx hb hK hP 4 0 rfl rfl hi_9 dX11_buyer_60 ?_
      refine lv_topi (fun x_10 ex_10 => ?_)
      exact retI (v := x_10) hx hb hr hlk (rfl) hP hD hS () ⟨_, rfl, trivial⟩ [0, 1, 2, 3, 4, 5, 6, 7, 8, 9] rfl rfl dX11_buyer_61 (Nat.le_of_ble_eq_true rfl) (Nat.le_of_ble_eq_true rfl) rfl
    · skip
      by_cases c_11 : x_7 = 1
      · skip
        subst c_11
        refine lv_tableIn (off := 48) (tgt := 62) hx hb dX11_buyer_14 (by decide) (by decide) (by decide) (by decide) ?_
        refine lv_aload_n hx hb dX11_buyer_62 rfl (lv_at hl 0 rfl) ?_
        refine gf_X11_51 hx hb hts hown hK hP 0 rfl rfl dX11_buyer_63 ?_
        refine gf_X11_141 hx hb hts hown hK hP 1 rfl rfl dX11_buyer_66 ?_
        refine lv_iload_n hx hb dX11_buyer_69 rfl (lv_at hl 1 rfl) ?_
        have hi_12 : vp_in x1 6 := by
          have z_1 : ¬ (r_4 : Int32).toInt = (0 : Int32).toInt := fun z => c_6 (Int32.toInt_inj.mp z)
          have y_0 : (0 : Int32).toInt = 0 := by decide
          refine vp_in_iff.mpr ⟨?_, ?_⟩ <;> omega
        refine va_iald hx hb hK hP 5 0 rfl rfl hi_12 dX11_buyer_70 ?_
        refine lv_topi (fun x_13 ex_13 => ?_)
        exact retI (v := x_13) hx hb hr hlk (rfl) hP hD hS () ⟨_, rfl, trivial⟩ [0, 1, 2, 3, 4, 5, 6, 7, 8, 9] rfl rfl dX11_buyer_71 (Nat.le_of_ble_eq_true rfl) (Nat.le_of_ble_eq_true rfl) rfl
      · skip
        by_cases c_14 : x_7 = 2
        · skip
          subst c_14
          refine lv_tableIn (off := 58) (tgt := 72) hx hb dX11_buyer_14 (by decide) (by decide) (by decide) (by decide) ?_
          refine lv_aload_n hx hb dX11_buyer_72 rfl (lv_at hl 0 rfl) ?_
          refine gf_X11_51 hx hb hts hown hK hP 0 rfl rfl dX11_buyer_73 ?_
          refine gf_X11_144 hx hb hts hown hK hP 1 rfl rfl dX11_buyer_76 ?_
          refine lv_iload_n hx hb dX11_buyer_79 rfl (lv_at hl 1 rfl) ?_
          have hi_15 : vp_in x1 6 := by
            have z_1 : ¬ (r_4 : Int32).toInt = (0 : Int32).toInt := fun z => c_6 (Int32.toInt_inj.mp z)
            have y_0 : (0 : Int32).toInt = 0 := by decide
            refine vp_in_iff.mpr ⟨?_, ?_⟩ <;> omega
          refine va_iald hx hb hK hP 6 0 rfl rfl hi_15 dX11_buyer_80 ?_
          refine lv_topi (fun x_16 ex_16 => ?_)
          exact retI (v := x_16) hx hb hr hlk (rfl) hP hD hS () ⟨_, rfl, trivial⟩ [0, 1, 2, 3, 4, 5, 6, 7, 8, 9] rfl rfl dX11_buyer_81 (Nat.le_of_ble_eq_true rfl) (Nat.le_of_ble_eq_true rfl) rfl
        · skip
          by_cases c_17 : x_7 = 3
          · skip
            subst c_17
            refine lv_tableIn (off := 68) (tgt := 82) hx hb dX11_buyer_14 (by decide) (by decide) (by decide) (by decide) ?_
            refine lv_aload_n hx hb dX11_buyer_82 rfl (lv_at hl 0 rfl) ?_
            refine gf_X11_51 hx hb hts hown hK hP 0 rfl rfl dX11_buyer_83 ?_
            refine gf_X11_147 hx hb hts hown hK hP 1 rfl rfl dX11_buyer_86 ?_
            refine lv_iload_n hx hb dX11_buyer_89 rfl (lv_at hl 1 rfl) ?_
            have hi_18 : vp_in x1 6 := by
              have z_1 : ¬ (r_4 : Int32).toInt = (0 : Int32).toInt := fun z => c_6 (Int32.toInt_inj.mp z)
              have y_0 : (0 : Int32).toInt = 0 := by decide
              refine vp_in_iff.mpr ⟨?_, ?_⟩ <;> omega
            refine va_iald hx hb hK hP 7 0 rfl rfl hi_18 dX11_buyer_90 ?_
            refine lv_topi (fun x_19 ex_19 => ?_)
            exact retI (v := x_19) hx hb hr hlk (rfl) hP hD hS () ⟨_, rfl, trivial⟩ [0, 1, 2, 3, 4, 5, 6, 7, 8, 9] rfl rfl dX11_buyer_91 (Nat.le_of_ble_eq_true rfl) (Nat.le_of_ble_eq_true rfl) rfl
          · skip
            by_cases c_20 : x_7 = 4
            · skip
              subst c_20
              refine lv_tableIn (off := 78) (tgt := 92) hx hb dX11_buyer_14 (by decide) (by decide) (by decide) (by decide) ?_
              refine lv_aload_n hx hb dX11_buyer_92 rfl (lv_at hl 0 rfl) ?_
              refine gf_X11_51 hx hb hts hown hK hP 0 rfl rfl dX11_buyer_93 ?_
              refine gf_X11_150 hx hb hts hown hK hP 1 rfl rfl dX11_buyer_96 ?_
              refine lv_iload_n hx hb dX11_buyer_99 rfl (lv_at hl 1 rfl) ?_
              have hi_21 : vp_in x1 6 := by
                have z_1 : ¬ (r_4 : Int32).toInt = (0 : Int32).toInt := fun z => c_6 (Int32.toInt_inj.mp z)
                have y_0 : (0 : Int32).toInt = 0 := by decide
                refine vp_in_iff.mpr ⟨?_, ?_⟩ <;> omega
              refine va_iald hx hb hK hP 8 0 rfl rfl hi_21 dX11_buyer_100 ?_
              refine lv_topi (fun x_22 ex_22 => ?_)
              exact retI (v := x_22) hx hb hr hlk (rfl) hP hD hS () ⟨_, rfl, trivial⟩ [0, 1, 2, 3, 4, 5, 6, 7, 8, 9] rfl rfl dX11_buyer_101 (Nat.le_of_ble_eq_true rfl) (Nat.le_of_ble_eq_true rfl) rfl
            · skip
              by_cases c_23 : x_7 = 5
              · skip
                subst c_23
                refine lv_tableIn (off := 88) (tgt := 102) hx hb dX11_buyer_14 (by decide) (by decide) (by decide) (by decide) ?_
                refine lv_bipush (v := 99) hx hb dX11_buyer_102 (by decide) ?_
                refine lv_aload_n hx hb dX11_buyer_104 rfl (lv_at hl 0 rfl) ?_
                refine gf_X11_51 hx hb hts hown hK hP 0 rfl rfl dX11_buyer_105 ?_
                refine lv_iload_n hx hb dX11_buyer_108 rfl (lv_at hl 1 rfl) ?_
                refine cV (a := (Aa 0)) (As := [.int x1]) (rest := [.int 99]) (wr := [((Ga 0), .inr (11, [.ref (Ga 1), .ref (Ga 2), .ref (Ga 3), .ref (Ga 4), .int (Gv 0), .ref (Ga 5), .ref (Aa 0), .ref (Ga 7), .ref (Ga 8), .ref (Ga 9), .ref (Ga 10), .ref (Ga 11)]))]) ⟨hx, hb, hml, hown, hts⟩ hK hX hA (cu_X9_daysSince l D tc sk (Aa 0) (Aa 1) (Aa 2) (Aa 3) (Aa 4) (Aa 5) (Aa 6) (Aa 7) (Aa 8) (Av 0) (Av 1) (Av 2) (Av 3) (Av 4) (Av 5) (Af 1) (Af 2) (Af 3) (Af 4) (Af 5) (Af 6) (Af 7) (Af 8) x1) k_706 k_703 k_704 k_705 k_98 pl_X9_daysSince ⟨Nat.le_of_ble_eq_true rfl, Nat.le_of_ble_eq_true rfl⟩ rfl rfl (va_recv hK hP (ci := 9) (q0 := 1) rfl rfl) hP hD hS [1, 2, 3, 4, 5, 6, 7, 8, 9] [0] rfl rfl rfl rfl rfl (by decide) rfl hl.1 rfl (Nat.le_of_ble_eq_true rfl) dX11_buyer_109 ⟨Nat.le_of_ble_eq_true rfl, Nat.le_of_ble_eq_true rfl⟩ (fun v_24 u_25 H locs hv_26 hP₀ hD₀ hS₀ => ?_)
                obtain ⟨r_27, rfl, he_28⟩ := hv_26
                have he_28 : (True) := he_28
                refine W.eq (g2 := F0 m 112 ls [.int r_27, .int 99]) rfl ?_
                replace hP : va_P D classes [((Ga 0), .inr (11, [.ref (Ga 1), .ref (Ga 2), .ref (Ga 3), .ref (Ga 4), .int (Gv 0), .ref (Ga 5), .ref (Aa 0), .ref (Ga 7), .ref (Ga 8), .ref (Ga 9), .ref (Ga 10), .ref (Ga 11)])), ((Aa 0), .inr (9, [.int (Av 0), .int (Av 1), .int (Av 2), .int (Av 3), .int (Av 4), .int (Av 5), .ref (Aa 1), .ref (Aa 2), .ref (Aa 3), .ref (Aa 4), .ref (Aa 5), .ref (Aa 6), .ref (Aa 7), .ref (Aa 8)])), ((Aa 1), .inl (tc 0, 10, .inl (Af 1))), ((Aa 2), .inl (tc 0, 10, .inl (Af 2))), ((Aa 3), .inl (tc 0, 6, .inl (Af 3))), ((Aa 4), .inl (tc 0, 6, .inl (Af 4))), ((Aa 5), .inl (tc 0, 6, .inl (Af 5))), ((Aa 6), .inl (tc 0, 6, .inl (Af 6))), ((Aa 7), .inl (tc 0, 6, .inl (Af 7))), ((Aa 8), .inl (tc 0, 6, .inl (Af 8)))] H := hP₀
                replace hD : va_D A [((Ga 0), .inr (11, [.ref (Ga 1), .ref (Ga 2), .ref (Ga 3), .ref (Ga 4), .int (Gv 0), .ref (Ga 5), .ref (Aa 0), .ref (Ga 7), .ref (Ga 8), .ref (Ga 9), .ref (Ga 10), .ref (Ga 11)])), ((Aa 0), .inr (9, [.int (Av 0), .int (Av 1), .int (Av 2), .int (Av 3), .int (Av 4), .int (Av 5), .ref (Aa 1), .ref (Aa 2), .ref (Aa 3), .ref (Aa 4), .ref (Aa 5), .ref (Aa 6), .ref (Aa 7), .ref (Aa 8)])), ((Aa 1), .inl (tc 0, 10, .inl (Af 1))), ((Aa 2), .inl (tc 0, 10, .inl (Af 2))), ((Aa 3), .inl (tc 0, 6, .inl (Af 3))), ((Aa 4), .inl (tc 0, 6, .inl (Af 4))), ((Aa 5), .inl (tc 0, 6, .inl (Af 5))), ((Aa 6), .inl (tc 0, 6, .inl (Af 6))), ((Aa 7), .inl (tc 0, 6, .inl (Af 7))), ((Aa 8), .inl (tc 0, 6, .inl (Af 8)))] := hD₀
                replace hS := hS₀
                clear hP₀ hD₀ hS₀
                refine va_mmin hx hb (hml.trans hl.1.symm) hown (hts _ k_708) (hts _ k_680) (hts _ k_114) (hts _ k_681) (Nat.le_of_ble_eq_true rfl) (Nat.le_of_ble_eq_true rfl) (Nat.le_of_ble_eq_true rfl) (Nat.le_of_ble_eq_true rfl) dX11_buyer_112 ?_
                refine lv_topi (fun x_29 ex_29 => ?_)
                have mx_29 := imin_f ex_29
                rw [show (99 : Int32).toInt = 99 by decide] at mx_29
                exact retI (v := x_29) hx hb hr hlk (rfl) hP hD hS () ⟨_, rfl, trivial⟩ [0, 1, 2, 3, 4, 5, 6, 7, 8, 9] rfl rfl dX11_buyer_115 (Nat.le_of_ble_eq_true rfl) (Nat.le_of_ble_eq_true rfl) rfl
              · skip
                have ho_30 : (x_7 : Int32).toInt < 0 ∨ 5 < (x_7 : Int32).toInt := by
                  have z_1 : ¬ (r_4 : Int32).toInt = (0 : Int32).toInt := fun z => c_6 (Int32.toInt_inj.mp z)
                  have z_2 : ¬ (x_7 : Int32).toInt = (0 : Int32).toInt := fun z => c_8 (Int32.toInt_inj.mp z)
                  have z_3 : ¬ (x_7 : Int32).toInt = (1 : Int32).toInt := fun z => c_11 (Int32.toInt_inj.mp z)
                  have z_4 : ¬ (x_7 : Int32).toInt = (2 : Int32).toInt := fun z => c_14 (Int32.toInt_inj.mp z)
                  have z_5 : ¬ (x_7 : Int32).toInt = (3 : Int32).toInt := fun z => c_17 (Int32.toInt_inj.mp z)
                  have z_6 : ¬ (x_7 : Int32).toInt = (4 : Int32).toInt := fun z => c_20 (Int32.toInt_inj.mp z)
                  have z_7 : ¬ (x_7 : Int32).toInt = (5 : Int32).toInt := fun z => c_23 (Int32.toInt_inj.mp z)
                  have y_0 : (0 : Int32).toInt = 0 := by decide
                  have y_1 : (1 : Int32).toInt = 1 := by decide
                  have y_2 : (2 : Int32).toInt = 2 := by decide
                  have y_3 : (3 : Int32).toInt = 3 := by decide
                  have y_4 : (4 : Int32).toInt = 4 := by decide
                  have y_5 : (5 : Int32).toInt = 5 := by decide
                  omega
                refine lv_tableOut (tgt := 116) hx hb dX11_buyer_14 ho_30 (by decide) ?_
                refine lv_iconst (v := (-1)) hx hb dX11_buyer_116 (by decide) ?_
                exact retI (v := (-1)) hx hb hr hlk (rfl) hP hD hS () ⟨_, rfl, trivial⟩ [0, 1, 2, 3, 4, 5, 6, 7, 8, 9] rfl rfl dX11_buyer_117 (Nat.le_of_ble_eq_true rfl) (Nat.le_of_ble_eq_true rfl) rfl
  · skip
    refine lv_iconst (v := (-1)) hx hb dX11_buyer_11 (by decide) ?_
    exact retI (v := (-1)) hx hb hr hlk (rfl) hP hD hS () ⟨_, rfl, trivial⟩ [0, 1, 2, 3, 4, 5, 6, 7, 8, 9] rfl rfl dX11_buyer_12 (Nat.le_of_ble_eq_true rfl) (Nat.le_of_ble_eq_true rfl) rfl
set_option maxHeartbeats 4000000 in
set_option maxRecDepth 100000 in
theorem ct_X11_sky (l : Launch) (D : va_G) (tc : Nat → ClassId) (sk : (Nat → Nat) × (Nat → Nat)) (Ga : Nat → Nat) (Gv : Nat → Int32) (Aa : Nat → Nat) (Av : Nat → Int32) (Af : Nat → Nat → Int32) (x1 : Int32) (x2 : Int32)  : Ct l yX11_sky cX11_sky 3 (some .int) { frames := 1, cells := 0, slots := 0, locals := 22 } D tc sk [.ref (Ga 0), .int x1, .int x2] [((Ga 0), .inr (11, [.ref (Ga 1), .ref (Ga 2), .ref (Ga 3), .ref (Ga 4), .int (Gv 0), .ref (Ga 5), .ref (Aa 0), .ref (Ga 7), .ref (Ga 8), .ref (Ga 9), .ref (Ga 10), .ref (Ga 11)])), ((Aa 0), .inr (9, [.int (Av 0), .int (Av 1), .int (Av 2), .int (Av 3), .int (Av 4), .int (Av 5), .ref (Aa 1), .ref (Aa 2), .ref (Aa 3), .ref (Aa 4), .ref (Aa 5), .ref (Aa 6), .ref (Aa 7), .ref (Aa 8)])), ((Aa 1), .inl (tc 0, 10, .inl (Af 1))), ((Aa 2), .inl (tc 0, 10, .inl (Af 2))), ((Aa 3), .inl (tc 0, 6, .inl (Af 3))), ((Aa 4), .inl (tc 0, 6, .inl (Af 4))), ((Aa 5), .inl (tc 0, 6, .inl (Af 5))), ((Aa 6), .inl (tc 0, 6, .inl (Af 6))), ((Aa 7), .inl (tc 0, 6, .inl (Af 7))), ((Aa 8), .inl (tc 0, 6, .inl (Af 8)))] (fun (v : Option Value) (_ : Unit) => ∃ r : Int32, v = some (.int r) ∧ (True)) (fun (_ : Unit) => [((Ga 0), .inr (11, [.ref (Ga 1), .ref (Ga 2), .ref (Ga 3), .ref (Ga 4), .int (Gv 0), .ref (Ga 5), .ref (Aa 0), .ref (Ga 7), .ref (Ga 8), .ref (Ga 9), .ref (Ga 10), .ref (Ga 11)])), ((Aa 0), .inr (9, [.int (Av 0), .int (Av 1), .int (Av 2), .int (Av 3), .int (Av 4), .int (Av 5), .ref (Aa 1), .ref (Aa 2), .ref (Aa 3), .ref (Aa 4), .ref (Aa 5), .ref (Aa 6), .ref (Aa 7), .ref (Aa 8)])), ((Aa 1), .inl (tc 0, 10, .inl (Af 1))), ((Aa 2), .inl (tc 0, 10, .inl (Af 2))), ((Aa 3), .inl (tc 0, 6, .inl (Af 3))), ((Aa 4), .inl (tc 0, 6, .inl (Af 4))), ((Aa 5), .inl (tc 0, 6, .inl (Af 5))), ((Aa 6), .inl (tc 0, 6, .inl (Af 6))), ((Aa 7), .inl (tc 0, 6, .inl (Af 7))), ((Aa 8), .inl (tc 0, 6, .inl (Af 8)))]) 0 0 := by
  refine Ct.start (by decide) (Nat.le_of_ble_eq_true rfl) (fun p e s m below meth c A ls hx hb hr hlk hin hml hown hts hK hX hP hD hA hl hS => ?_)
  have hl : lv_has ls 3 [(0, .ref (Ga 0)), (1, .int x1), (2, .int x2)] := hl
  refine lv_aload_n hx hb dX11_sky_0 rfl (lv_at hl 0 rfl) ?_
  refine gf_X11_51 hx hb hts hown hK hP 0 rfl rfl dX11_sky_1 ?_
  refine lv_iload_n hx hb dX11_sky_4 rfl (lv_at hl 1 rfl) ?_
  refine cV (a := (Aa 0)) (As := [.int x1]) (rest := []) (wr := [((Ga 0), .inr (11, [.ref (Ga 1), .ref (Ga 2), .ref (Ga 3), .ref (Ga 4), .int (Gv 0), .ref (Ga 5), .ref (Aa 0), .ref (Ga 7), .ref (Ga 8), .ref (Ga 9), .ref (Ga 10), .ref (Ga 11)]))]) ⟨hx, hb, hml, hown, hts⟩ hK hX hA (cu_X9_hasClock l D tc sk (Aa 0) (Aa 1) (Aa 2) (Aa 3) (Aa 4) (Aa 5) (Aa 6) (Aa 7) (Aa 8) (Av 0) (Av 1) (Av 2) (Av 3) (Av 4) (Av 5) (Af 1) (Af 2) (Af 3) (Af 4) (Af 5) (Af 6) (Af 7) (Af 8) x1) k_579 k_713 k_577 k_578 k_98 pl_X9_hasClock ⟨Nat.le_of_ble_eq_true rfl, Nat.le_of_ble_eq_true rfl⟩ rfl rfl (va_recv hK hP (ci := 9) (q0 := 1) rfl rfl) hP hD hS [1, 2, 3, 4, 5, 6, 7, 8, 9] [0] rfl rfl rfl rfl rfl (by decide) rfl hl.1 rfl (Nat.le_of_ble_eq_true rfl) dX11_sky_5 ⟨Nat.le_of_ble_eq_true rfl, Nat.le_of_ble_eq_true rfl⟩ (fun v_1 u_2 H locs hv_3 hP₀ hD₀ hS₀ => ?_)
  obtain ⟨r_4, rfl, he_5⟩ := hv_3
  have he_5 : ((r_4.toInt = 0 ∨ (r_4.toInt = 1 ∧ 0 ≤ x1.toInt ∧ x1.toInt < 10))) := he_5
  refine W.eq (g2 := F0 m 8 ls [.int r_4]) rfl ?_
  replace hP : va_P D classes [((Ga 0), .inr (11, [.ref (Ga 1), .ref (Ga 2), .ref (Ga 3), .ref (Ga 4), .int (Gv 0), .ref (Ga 5), .ref (Aa 0), .ref (Ga 7), .ref (Ga 8), .ref (Ga 9), .ref (Ga 10), .ref (Ga 11)])), ((Aa 0), .inr (9, [.int (Av 0), .int (Av 1), .int (Av 2), .int (Av 3), .int (Av 4), .int (Av 5), .ref (Aa 1), .ref (Aa 2), .ref (Aa 3), .ref (Aa 4), .ref (Aa 5), .ref (Aa 6), .ref (Aa 7), .ref (Aa 8)])), ((Aa 1), .inl (tc 0, 10, .inl (Af 1))), ((Aa 2), .inl (tc 0, 10, .inl (Af 2))), ((Aa 3), .inl (tc 0, 6, .inl (Af 3))), ((Aa 4), .inl (tc 0, 6, .inl (Af 4))), ((Aa 5), .inl (tc 0, 6, .inl (Af 5))), ((Aa 6), .inl (tc 0, 6, .inl (Af 6))), ((Aa 7), .inl (tc 0, 6, .inl (Af 7))), ((Aa 8), .inl (tc 0, 6, .inl (Af 8)))] H := hP₀
  replace hD : va_D A [((Ga 0), .inr (11, [.ref (Ga 1), .ref (Ga 2), .ref (Ga 3), .ref (Ga 4), .int (Gv 0), .ref (Ga 5), .ref (Aa 0), .ref (Ga 7), .ref (Ga 8), .ref (Ga 9), .ref (Ga 10), .ref (Ga 11)])), ((Aa 0), .inr (9, [.int (Av 0), .int (Av 1), .int (Av 2), .int (Av 3), .int (Av 4), .int (Av 5), .ref (Aa 1), .ref (Aa 2), .ref (Aa 3), .ref (Aa 4), .ref (Aa 5), .ref (Aa 6), .ref (Aa 7), .ref (Aa 8)])), ((Aa 1), .inl (tc 0, 10, .inl (Af 1))), ((Aa 2), .inl (tc 0, 10, .inl (Af 2))), ((Aa 3), .inl (tc 0, 6, .inl (Af 3))), ((Aa 4), .inl (tc 0, 6, .inl (Af 4))), ((Aa 5), .inl (tc 0, 6, .inl (Af 5))), ((Aa 6), .inl (tc 0, 6, .inl (Af 6))), ((Aa 7), .inl (tc 0, 6, .inl (Af 7))), ((Aa 8), .inl (tc 0, 6, .inl (Af 8)))] := hD₀
  replace hS := hS₀
  clear hP₀ hD₀ hS₀
  refine lv_if_eq (tgt := 20) hx hb dX11_sky_8 (by decide) (fun c_6 => ?_) (fun c_6 => ?_)
  · skip
    refine lv_iconst (v := (-1)) hx hb dX11_sky_20 (by decide) ?_
    exact retI (v := (-1)) hx hb hr hlk (rfl) hP hD hS () ⟨_, rfl, trivial⟩ [0, 1, 2, 3, 4, 5, 6, 7, 8, 9] rfl rfl dX11_sky_21 (Nat.le_of_ble_eq_true rfl) (Nat.le_of_ble_eq_true rfl) rfl
  · skip
    refine lv_iload_n hx hb dX11_sky_11 rfl (lv_at hl 2 rfl) ?_
    refine lv_iconst (v := 0) hx hb dX11_sky_12 (by decide) ?_
    refine lv_iconst (v := 1) hx hb dX11_sky_13 (by decide) ?_
    refine cS (As := [.int x2, .int 0, .int 1]) (rest := []) (wr := [((Ga 0), .inr (11, [.ref (Ga 1), .ref (Ga 2), .ref (Ga 3), .ref (Ga 4), .int (Gv 0), .ref (Ga 5), .ref (Aa 0), .ref (Ga 7), .ref (Ga 8), .ref (Ga 9), .ref (Ga 10), .ref (Ga 11)])), ((Aa 0), .inr (9, [.int (Av 0), .int (Av 1), .int (Av 2), .int (Av 3), .int (Av 4), .int (Av 5), .ref (Aa 1), .ref (Aa 2), .ref (Aa 3), .ref (Aa 4), .ref (Aa 5), .ref (Aa 6), .ref (Aa 7), .ref (Aa 8)])), ((Aa 1), .inl (tc 0, 10, .inl (Af 1))), ((Aa 2), .inl (tc 0, 10, .inl (Af 2))), ((Aa 3), .inl (tc 0, 6, .inl (Af 3))), ((Aa 4), .inl (tc 0, 6, .inl (Af 4))), ((Aa 5), .inl (tc 0, 6, .inl (Af 5))), ((Aa 6), .inl (tc 0, 6, .inl (Af 6))), ((Aa 7), .inl (tc 0, 6, .inl (Af 7))), ((Aa 8), .inl (tc 0, 6, .inl (Af 8)))]) ⟨hx, hb, hml, hown, hts⟩ hK hX hA (ct_X11_isWithin l D tc sk x2 0 1) k_716 k_714 k_715 k_95 pl_X11_isWithin ⟨Nat.le_of_ble_eq_true rfl, Nat.le_of_ble_eq_true rfl⟩ rfl rfl  hP hD hS [] [0, 1, 2, 3, 4, 5, 6, 7, 8, 9] rfl rfl rfl rfl rfl (by decide) rfl hl.1 rfl (Nat.le_of_ble_eq_true rfl) dX11_sky_14 ⟨Nat.le_of_ble_eq_true rfl, Nat.le_of_ble_eq_true rfl⟩ (fun v_7 u_8 H locs hv_9 hP₀ hD₀ hS₀ => ?_)
    obtain ⟨r_10, rfl, he_11⟩ := hv_9
    have he_11 : (r_10.toInt = 0 ∨ (r_10.toInt = 1 ∧ (0 : Int32).toInt ≤ x2.toInt ∧ x2.toInt ≤ (1 : Int32).toInt)) := he_11
    refine W.eq (g2 := F0 m 17 ls [.int r_10]) rfl ?_
    replace hP : va_P D classes [((Ga 0), .inr (11, [.ref (Ga 1), .ref (Ga 2), .ref (Ga 3), .ref (Ga 4), .int (Gv 0), .ref (Ga 5), .ref (Aa 0), .ref (Ga 7), .ref (Ga 8), .ref (Ga 9), .ref (Ga 10), .ref (Ga 11)])), ((Aa 0), .inr (9, [.int (Av 0), .int (Av 1), .int (Av 2), .int (Av 3), .int (Av 4), .int (Av 5), .ref (Aa 1), .ref (Aa 2), .ref (Aa 3), .ref (Aa 4), .ref (Aa 5), .ref (Aa 6), .ref (Aa 7), .ref (Aa 8)])), ((Aa 1), .inl (tc 0, 10, .inl (Af 1))), ((Aa 2), .inl (tc 0, 10, .inl (Af 2))), ((Aa 3), .inl (tc 0, 6, .inl (Af 3))), ((Aa 4), .inl (tc 0, 6, .inl (Af 4))), ((Aa 5), .inl (tc 0, 6, .inl (Af 5))), ((Aa 6), .inl (tc 0, 6, .inl (Af 6))), ((Aa 7), .inl (tc 0, 6, .inl (Af 7))), ((Aa 8), .inl (tc 0, 6, .inl (Af 8)))] H := hP₀
    replace hD : va_D A [((Ga 0), .inr (11, [.ref (Ga 1), .ref (Ga 2), .ref (Ga 3), .ref (Ga 4), .int (Gv 0), .ref (Ga 5), .ref (Aa 0), .ref (Ga 7), .ref (Ga 8), .ref (Ga 9), .ref (Ga 10), .ref (Ga 11)])), ((Aa 0), .inr (9, [.int (Av 0), .int (Av 1), .int (Av 2), .int (Av 3), .int (Av 4), .int (Av 5), .ref (Aa 1), .ref (Aa 2), .ref (Aa 3), .ref (Aa 4), .ref (Aa 5), .ref (Aa 6), .ref (Aa 7), .ref (Aa 8)])), ((Aa 1), .inl (tc 0, 10, .inl (Af 1))), ((Aa 2), .inl (tc 0, 10, .inl (Af 2))), ((Aa 3), .inl (tc 0, 6, .inl (Af 3))), ((Aa 4), .inl (tc 0, 6, .inl (Af 4))), ((Aa 5), .inl (tc 0, 6, .inl (Af 5))), ((Aa 6), .inl (tc 0, 6, .inl (Af 6))), ((Aa 7), .inl (tc 0, 6, .inl (Af 7))), ((Aa 8), .inl (tc 0, 6, .inl (Af 8)))] := hD₀
    replace hS := hS₀
    clear hP₀ hD₀ hS₀
    refine lv_if_ne (tgt := 22) hx hb dX11_sky_17 (by decide) (fun c_13 => ?_) (fun c_13 => ?_)
    · skip
      refine lv_iload_n hx hb dX11_sky_22 rfl (lv_at hl 2 rfl) ?_
      refine lv_if_ne (tgt := 38) hx hb dX11_sky_23 (by decide) (fun c_14 => ?_) (fun c_14 => ?_)
      · skip
        refine lv_aload_n hx hb dX11_sky_38 rfl (lv_at hl 0 rfl) ?_
        refine gf_X11_51 hx hb hts hown hK hP 0 rfl rfl dX11_sky_39 ?_
        refine gf_X11_173 hx hb hts hown hK hP 1 rfl rfl dX11_sky_42 ?_
        refine lv_iload_n hx hb dX11_sky_45 rfl (lv_at hl 1 rfl) ?_
        have hi_15 : vp_in x1 10 := by
          have z_1 : ¬ (r_4 : Int32).toInt = (0 : Int32).toInt := fun z => c_6 (Int32.toInt_inj.mp z)
          have z_2 : ¬ (r_10 : Int32).toInt = (0 : Int32).toInt := fun z => c_13 (Int32.toInt_inj.mp z)
          have z_3 : ¬ (x2 : Int32).toInt = (0 : Int32).toInt := fun z => c_14 (Int32.toInt_inj.mp z)
          have y_0 : (0 : Int32).toInt = 0 := by decide
          refine vp_in_iff.mpr ⟨?_, ?_⟩ <;> omega
        refine va_iald hx hb hK hP 3 0 rfl rfl hi_15 dX11_sky_46 ?_
        refine lv_topi (fun x_16 ex_16 => ?_)
        exact retI (v := x_16) hx hb hr hlk (rfl) hP hD hS () ⟨_, rfl, trivial⟩ [0, 1, 2, 3, 4, 5, 6, 7, 8, 9] rfl rfl dX11_sky_47 (Nat.le_of_ble_eq_true rfl) (Nat.le_of_ble_eq_true rfl) rfl
      · skip
        refine lv_aload_n hx hb dX11_sky_26 rfl (lv_at hl 0 rfl) ?_
        refine gf_X11_51 hx hb hts hown hK hP 0 rfl rfl dX11_sky_27 ?_
        refine gf_X11_170 hx hb hts hown hK hP 1 rfl rfl dX11_sky_30 ?_
        refine lv_iload_n hx hb dX11_sky_33 rfl (lv_at hl 1 rfl) ?_
        have hi_17 : vp_in x1 10 := by
          have z_1 : ¬ (r_4 : Int32).toInt = (0 : Int32).toInt := fun z => c_6 (Int32.toInt_inj.mp z)
          have z_2 : ¬ (r_10 : Int32).toInt = (0 : Int32).toInt := fun z => c_13 (Int32.toInt_inj.mp z)
          have z_3 := congrArg Int32.toInt c_14
          have y_0 : (0 : Int32).toInt = 0 := by decide
          refine vp_in_iff.mpr ⟨?_, ?_⟩ <;> omega
        refine va_iald hx hb hK hP 2 0 rfl rfl hi_17 dX11_sky_34 ?_
        refine lv_topi (fun x_18 ex_18 => ?_)
        refine lv_goto (tgt := 47) hx hb dX11_sky_35 (by decide) ?_
        exact retI (v := x_18) hx hb hr hlk (rfl) hP hD hS () ⟨_, rfl, trivial⟩ [0, 1, 2, 3, 4, 5, 6, 7, 8, 9] rfl rfl dX11_sky_47 (Nat.le_of_ble_eq_true rfl) (Nat.le_of_ble_eq_true rfl) rfl
    · skip
      refine lv_iconst (v := (-1)) hx hb dX11_sky_20 (by decide) ?_
      exact retI (v := (-1)) hx hb hr hlk (rfl) hP hD hS () ⟨_, rfl, trivial⟩ [0, 1, 2, 3, 4, 5, 6, 7, 8, 9] rfl rfl dX11_sky_21 (Nat.le_of_ble_eq_true rfl) (Nat.le_of_ble_eq_true rfl) rfl
set_option maxHeartbeats 4000000 in
set_option maxRecDepth 100000 in
theorem ct_X11_fines (l : Launch) (D : va_G) (tc : Nat → ClassId) (sk : (Nat → Nat) × (Nat → Nat)) (Ga : Nat → Nat) (Gv : Nat → Int32) (Aa : Nat → Nat) (Av : Nat → Int32) (Af : Nat → Nat → Int32) (x1 : Int32) (x2 : Int32)  : Ct l yX11_fines cX11_fines 3 (some .int) { frames := 2, cells := 0, slots := 0, locals := 53 } D tc sk [.ref (Ga 0), .int x1, .int x2] [((Ga 0), .inr (11, [.ref (Ga 1), .ref (Ga 2), .ref (Ga 3), .ref (Ga 4), .int (Gv 0), .ref (Ga 5), .ref (Aa 0), .ref (Ga 7), .ref (Ga 8), .ref (Ga 9), .ref (Ga 10), .ref (Ga 11)])), ((Aa 0), .inr (9, [.int (Av 0), .int (Av 1), .int (Av 2), .int (Av 3), .int (Av 4), .int (Av 5), .ref (Aa 1), .ref (Aa 2), .ref (Aa 3), .ref (Aa 4), .ref (Aa 5), .ref (Aa 6), .ref (Aa 7), .ref (Aa 8)])), ((Aa 1), .inl (tc 0, 10, .inl (Af 1))), ((Aa 2), .inl (tc 0, 10, .inl (Af 2))), ((Aa 3), .inl (tc 0, 6, .inl (Af 3))), ((Aa 4), .inl (tc 0, 6, .inl (Af 4))), ((Aa 5), .inl (tc 0, 6, .inl (Af 5))), ((Aa 6), .inl (tc 0, 6, .inl (Af 6))), ((Aa 7), .inl (tc 0, 6, .inl (Af 7))), ((Aa 8), .inl (tc 0, 6, .inl (Af 8)))] (fun (v : Option Value) (_ : Unit) => ∃ r : Int32, v = some (.int r) ∧ (True)) (fun (_ : Unit) => [((Ga 0), .inr (11, [.ref (Ga 1), .ref (Ga 2), .ref (Ga 3), .ref (Ga 4), .int (Gv 0), .ref (Ga 5), .ref (Aa 0), .ref (Ga 7), .ref (Ga 8), .ref (Ga 9), .ref (Ga 10), .ref (Ga 11)])), ((Aa 0), .inr (9, [.int (Av 0), .int (Av 1), .int (Av 2), .int (Av 3), .int (Av 4), .int (Av 5), .ref (Aa 1), .ref (Aa 2), .ref (Aa 3), .ref (Aa 4), .ref (Aa 5), .ref (Aa 6), .ref (Aa 7), .ref (Aa 8)])), ((Aa 1), .inl (tc 0, 10, .inl (Af 1))), ((Aa 2), .inl (tc 0, 10, .inl (Af 2))), ((Aa 3), .inl (tc 0, 6, .inl (Af 3))), ((Aa 4), .inl (tc 0, 6, .inl (Af 4))), ((Aa 5), .inl (tc 0, 6, .inl (Af 5))), ((Aa 6), .inl (tc 0, 6, .inl (Af 6))), ((Aa 7), .inl (tc 0, 6, .inl (Af 7))), ((Aa 8), .inl (tc 0, 6, .inl (Af 8)))]) 0 0 := by
  refine Ct.start (by decide) (Nat.le_of_ble_eq_true rfl) (fun p e s m below meth c A ls hx hb hr hlk hin hml hown hts hK hX hP hD hA hl hS => ?_)
  have hl : lv_has ls 3 [(0, .ref (Ga 0)), (1, .int x1), (2, .int x2)] := hl
  refine lv_iload_n hx hb dX11_fines_0 rfl (lv_at hl 1 rfl) ?_
  refine lv_iconst (v := 0) hx hb dX11_fines_1 (by decide) ?_
  refine lv_sipush (v := 9999) hx hb dX11_fines_2 (by decide) ?_
  refine cS (As := [.int x1, .int 0, .int 9999]) (rest := []) (wr := [((Ga 0), .inr (11, [.ref (Ga 1), .ref (Ga 2), .ref (Ga 3), .ref (Ga 4), .int (Gv 0), .ref (Ga 5), .ref (Aa 0), .ref (Ga 7), .ref (Ga 8), .ref (Ga 9), .ref (Ga 10), .ref (Ga 11)])), ((Aa 0), .inr (9, [.int (Av 0), .int (Av 1), .int (Av 2), .int (Av 3), .int (Av 4), .int (Av 5), .ref (Aa 1), .ref (Aa 2), .ref (Aa 3), .ref (Aa 4), .ref (Aa 5), .ref (Aa 6), .ref (Aa 7), .ref (Aa 8)])), ((Aa 1), .inl (tc 0, 10, .inl (Af 1))), ((Aa 2), .inl (tc 0, 10, .inl (Af 2))), ((Aa 3), .inl (tc 0, 6, .inl (Af 3))), ((Aa 4), .inl (tc 0, 6, .inl (Af 4))), ((Aa 5), .inl (tc 0, 6, .inl (Af 5))), ((Aa 6), .inl (tc 0, 6, .inl (Af 6))), ((Aa 7), .inl (tc 0, 6, .inl (Af 7))), ((Aa 8), .inl (tc 0, 6, .inl (Af 8)))]) ⟨hx, hb, hml, hown, hts⟩ hK hX hA (ct_X11_isWithin l D tc sk x1 0 9999) k_716 k_714 k_715 k_95 pl_X11_isWithin ⟨Nat.le_of_ble_eq_true rfl, Nat.le_of_ble_eq_true rfl⟩ rfl rfl  hP hD hS [] [0, 1, 2, 3, 4, 5, 6, 7, 8, 9] rfl rfl rfl rfl rfl (by decide) rfl hl.1 rfl (Nat.le_of_ble_eq_true rfl) dX11_fines_5 ⟨Nat.le_of_ble_eq_true rfl, Nat.le_of_ble_eq_true rfl⟩ (fun v_1 u_2 H locs hv_3 hP₀ hD₀ hS₀ => ?_)
  obtain ⟨r_4, rfl, he_5⟩ := hv_3
  have he_5 : (r_4.toInt = 0 ∨ (r_4.toInt = 1 ∧ (0 : Int32).toInt ≤ x1.toInt ∧ x1.toInt ≤ (9999 : Int32).toInt)) := he_5
  refine W.eq (g2 := F0 m 8 ls [.int r_4]) rfl ?_
  replace hP : va_P D classes [((Ga 0), .inr (11, [.ref (Ga 1), .ref (Ga 2), .ref (Ga 3), .ref (Ga 4), .int (Gv 0), .ref (Ga 5), .ref (Aa 0), .ref (Ga 7), .ref (Ga 8), .ref (Ga 9), .ref (Ga 10), .ref (Ga 11)])), ((Aa 0), .inr (9, [.int (Av 0), .int (Av 1), .int (Av 2), .int (Av 3), .int (Av 4), .int (Av 5), .ref (Aa 1), .ref (Aa 2), .ref (Aa 3), .ref (Aa 4), .ref (Aa 5), .ref (Aa 6), .ref (Aa 7), .ref (Aa 8)])), ((Aa 1), .inl (tc 0, 10, .inl (Af 1))), ((Aa 2), .inl (tc 0, 10, .inl (Af 2))), ((Aa 3), .inl (tc 0, 6, .inl (Af 3))), ((Aa 4), .inl (tc 0, 6, .inl (Af 4))), ((Aa 5), .inl (tc 0, 6, .inl (Af 5))), ((Aa 6), .inl (tc 0, 6, .inl (Af 6))), ((Aa 7), .inl (tc 0, 6, .inl (Af 7))), ((Aa 8), .inl (tc 0, 6, .inl (Af 8)))] H := hP₀
  replace hD : va_D A [((Ga 0), .inr (11, [.ref (Ga 1), .ref (Ga 2), .ref (Ga 3), .ref (Ga 4), .int (Gv 0), .ref (Ga 5), .ref (Aa 0), .ref (Ga 7), .ref (Ga 8), .ref (Ga 9), .ref (Ga 10), .ref (Ga 11)])), ((Aa 0), .inr (9, [.int (Av 0), .int (Av 1), .int (Av 2), .int (Av 3), .int (Av 4), .int (Av 5), .ref (Aa 1), .ref (Aa 2), .ref (Aa 3), .ref (Aa 4), .ref (Aa 5), .ref (Aa 6), .ref (Aa 7), .ref (Aa 8)])), ((Aa 1), .inl (tc 0, 10, .inl (Af 1))), ((Aa 2), .inl (tc 0, 10, .inl (Af 2))), ((Aa 3), .inl (tc 0, 6, .inl (Af 3))), ((Aa 4), .inl (tc 0, 6, .inl (Af 4))), ((Aa 5), .inl (tc 0, 6, .inl (Af 5))), ((Aa 6), .inl (tc 0, 6, .inl (Af 6))), ((Aa 7), .inl (tc 0, 6, .inl (Af 7))), ((Aa 8), .inl (tc 0, 6, .inl (Af 8)))] := hD₀
  replace hS := hS₀
  clear hP₀ hD₀ hS₀
  refine lv_if_eq (tgt := 22) hx hb dX11_fines_8 (by decide) (fun c_7 => ?_) (fun c_7 => ?_)
  · skip
    refine lv_iconst (v := (-1)) hx hb dX11_fines_22 (by decide) ?_
    exact retI (v := (-1)) hx hb hr hlk (rfl) hP hD hS () ⟨_, rfl, trivial⟩ [0, 1, 2, 3, 4, 5, 6, 7, 8, 9] rfl rfl dX11_fines_23 (Nat.le_of_ble_eq_true rfl) (Nat.le_of_ble_eq_true rfl) rfl
  · skip
    refine lv_aload_n hx hb dX11_fines_11 rfl (lv_at hl 0 rfl) ?_
    refine gf_X11_51 hx hb hts hown hK hP 0 rfl rfl dX11_fines_12 ?_
    refine lv_iload_n hx hb dX11_fines_15 rfl (lv_at hl 2 rfl) ?_
    refine cV (a := (Aa 0)) (As := [.int x2]) (rest := []) (wr := [((Ga 0), .inr (11, [.ref (Ga 1), .ref (Ga 2), .ref (Ga 3), .ref (Ga 4), .int (Gv 0), .ref (Ga 5), .ref (Aa 0), .ref (Ga 7), .ref (Ga 8), .ref (Ga 9), .ref (Ga 10), .ref (Ga 11)]))]) ⟨hx, hb, hml, hown, hts⟩ hK hX hA (cu_X9_hasBuyer l D tc sk (Aa 0) (Aa 1) (Aa 2) (Aa 3) (Aa 4) (Aa 5) (Aa 6) (Aa 7) (Aa 8) (Av 0) (Av 1) (Av 2) (Av 3) (Av 4) (Av 5) (Af 1) (Af 2) (Af 3) (Af 4) (Af 5) (Af 6) (Af 7) (Af 8) x2) k_591 k_702 k_589 k_590 k_98 pl_X9_hasBuyer ⟨Nat.le_of_ble_eq_true rfl, Nat.le_of_ble_eq_true rfl⟩ rfl rfl (va_recv hK hP (ci := 9) (q0 := 1) rfl rfl) hP hD hS [1, 2, 3, 4, 5, 6, 7, 8, 9] [0] rfl rfl rfl rfl rfl (by decide) rfl hl.1 rfl (Nat.le_of_ble_eq_true rfl) dX11_fines_16 ⟨Nat.le_of_ble_eq_true rfl, Nat.le_of_ble_eq_true rfl⟩ (fun v_8 u_9 H locs hv_10 hP₀ hD₀ hS₀ => ?_)
    obtain ⟨r_11, rfl, he_12⟩ := hv_10
    have he_12 : ((r_11.toInt = 0 ∨ (r_11.toInt = 1 ∧ 0 ≤ x2.toInt ∧ x2.toInt < 6 ∧ x2.toInt < (Av 3).toInt))) := he_12
    refine W.eq (g2 := F0 m 19 ls [.int r_11]) rfl ?_
    replace hP : va_P D classes [((Ga 0), .inr (11, [.ref (Ga 1), .ref (Ga 2), .ref (Ga 3), .ref (Ga 4), .int (Gv 0), .ref (Ga 5), .ref (Aa 0), .ref (Ga 7), .ref (Ga 8), .ref (Ga 9), .ref (Ga 10), .ref (Ga 11)])), ((Aa 0), .inr (9, [.int (Av 0), .int (Av 1), .int (Av 2), .int (Av 3), .int (Av 4), .int (Av 5), .ref (Aa 1), .ref (Aa 2), .ref (Aa 3), .ref (Aa 4), .ref (Aa 5), .ref (Aa 6), .ref (Aa 7), .ref (Aa 8)])), ((Aa 1), .inl (tc 0, 10, .inl (Af 1))), ((Aa 2), .inl (tc 0, 10, .inl (Af 2))), ((Aa 3), .inl (tc 0, 6, .inl (Af 3))), ((Aa 4), .inl (tc 0, 6, .inl (Af 4))), ((Aa 5), .inl (tc 0, 6, .inl (Af 5))), ((Aa 6), .inl (tc 0, 6, .inl (Af 6))), ((Aa 7), .inl (tc 0, 6, .inl (Af 7))), ((Aa 8), .inl (tc 0, 6, .inl (Af 8)))] H := hP₀
    replace hD : va_D A [((Ga 0), .inr (11, [.ref (Ga 1), .ref (Ga 2), .ref (Ga 3), .ref (Ga 4), .int (Gv 0), .ref (Ga 5), .ref (Aa 0), .ref (Ga 7), .ref (Ga 8), .ref (Ga 9), .ref (Ga 10), .ref (Ga 11)])), ((Aa 0), .inr (9, [.int (Av 0), .int (Av 1), .int (Av 2), .int (Av 3), .int (Av 4), .int (Av 5), .ref (Aa 1), .ref (Aa 2), .ref (Aa 3), .ref (Aa 4), .ref (Aa 5), .ref (Aa 6), .ref (Aa 7), .ref (Aa 8)])), ((Aa 1), .inl (tc 0, 10, .inl (Af 1))), ((Aa 2), .inl (tc 0, 10, .inl (Af 2))), ((Aa 3), .inl (tc 0, 6, .inl (Af 3))), ((Aa 4), .inl (tc 0, 6, .inl (Af 4))), ((Aa 5), .inl (tc 0, 6, .inl (Af 5))), ((Aa 6), .inl (tc 0, 6, .inl (Af 6))), ((Aa 7), .inl (tc 0, 6, .inl (Af 7))), ((Aa 8), .inl (tc 0, 6, .inl (Af 8)))] := hD₀
    replace hS := hS₀
    clear hP₀ hD₀ hS₀
    refine lv_if_ne (tgt := 24) hx hb dX11_fines_19 (by decide) (fun c_13 => ?_) (fun c_13 => ?_)
    · skip
      refine lv_aload_n hx hb dX11_fines_24 rfl (lv_at hl 0 rfl) ?_
      refine gf_X11_51 hx hb hts hown hK hP 0 rfl rfl dX11_fines_25 ?_
      refine lv_iload_n hx hb dX11_fines_28 rfl (lv_at hl 2 rfl) ?_
      refine lv_iload_n hx hb dX11_fines_29 rfl (lv_at hl 1 rfl) ?_
      refine cV (a := (Aa 0)) (As := [.int x2, .int x1]) (rest := []) (wr := [((Ga 0), .inr (11, [.ref (Ga 1), .ref (Ga 2), .ref (Ga 3), .ref (Ga 4), .int (Gv 0), .ref (Ga 5), .ref (Aa 0), .ref (Ga 7), .ref (Ga 8), .ref (Ga 9), .ref (Ga 10), .ref (Ga 11)]))]) ⟨hx, hb, hml, hown, hts⟩ hK hX hA (cu_X9_fineOf l D tc sk (Aa 0) (Aa 1) (Aa 2) (Aa 3) (Aa 4) (Aa 5) (Aa 6) (Aa 7) (Aa 8) (Av 0) (Av 1) (Av 2) (Av 3) (Av 4) (Av 5) (Af 1) (Af 2) (Af 3) (Af 4) (Af 5) (Af 6) (Af 7) (Af 8) x2 x1) k_921 k_918 k_919 k_920 k_98 pl_X9_fineOf ⟨Nat.le_of_ble_eq_true rfl, Nat.le_of_ble_eq_true rfl⟩ rfl rfl (va_recv hK hP (ci := 9) (q0 := 1) rfl rfl) hP hD hS [1, 2, 3, 4, 5, 6, 7, 8, 9] [0] rfl rfl rfl rfl rfl (by decide) rfl hl.1 rfl (Nat.le_of_ble_eq_true rfl) dX11_fines_30 ⟨Nat.le_of_ble_eq_true rfl, Nat.le_of_ble_eq_true rfl⟩ (fun v_14 u_15 H locs hv_16 hP₀ hD₀ hS₀ => ?_)
      obtain ⟨r_17, rfl, he_18⟩ := hv_16
      have he_18 : (True) := he_18
      refine W.eq (g2 := F0 m 33 ls [.int r_17]) rfl ?_
      replace hP : va_P D classes [((Ga 0), .inr (11, [.ref (Ga 1), .ref (Ga 2), .ref (Ga 3), .ref (Ga 4), .int (Gv 0), .ref (Ga 5), .ref (Aa 0), .ref (Ga 7), .ref (Ga 8), .ref (Ga 9), .ref (Ga 10), .ref (Ga 11)])), ((Aa 0), .inr (9, [.int (Av 0), .int (Av 1), .int (Av 2), .int (Av 3), .int (Av 4), .int (Av 5), .ref (Aa 1), .ref (Aa 2), .ref (Aa 3), .ref (Aa 4), .ref (Aa 5), .ref (Aa 6), .ref (Aa 7), .ref (Aa 8)])), ((Aa 1), .inl (tc 0, 10, .inl (Af 1))), ((Aa 2), .inl (tc 0, 10, .inl (Af 2))), ((Aa 3), .inl (tc 0, 6, .inl (Af 3))), ((Aa 4), .inl (tc 0, 6, .inl (Af 4))), ((Aa 5), .inl (tc 0, 6, .inl (Af 5))), ((Aa 6), .inl (tc 0, 6, .inl (Af 6))), ((Aa 7), .inl (tc 0, 6, .inl (Af 7))), ((Aa 8), .inl (tc 0, 6, .inl (Af 8)))] H := hP₀
      replace hD : va_D A [((Ga 0), .inr (11, [.ref (Ga 1), .ref (Ga 2), .ref (Ga 3), .ref (Ga 4), .int (Gv 0), .ref (Ga 5), .ref (Aa 0), .ref (Ga 7), .ref (Ga 8), .ref (Ga 9), .ref (Ga 10), .ref (Ga 11)])), ((Aa 0), .inr (9, [.int (Av 0), .int (Av 1), .int (Av 2), .int (Av 3), .int (Av 4), .int (Av 5), .ref (Aa 1), .ref (Aa 2), .ref (Aa 3), .ref (Aa 4), .ref (Aa 5), .ref (Aa 6), .ref (Aa 7), .ref (Aa 8)])), ((Aa 1), .inl (tc 0, 10, .inl (Af 1))), ((Aa 2), .inl (tc 0, 10, .inl (Af 2))), ((Aa 3), .inl (tc 0, 6, .inl (Af 3))), ((Aa 4), .inl (tc 0, 6, .inl (Af 4))), ((Aa 5), .inl (tc 0, 6, .inl (Af 5))), ((Aa 6), .inl (tc 0, 6, .inl (Af 6))), ((Aa 7), .inl (tc 0, 6, .inl (Af 7))), ((Aa 8), .inl (tc 0, 6, .inl (Af 8)))] := hD₀
      replace hS := hS₀
      clear hP₀ hD₀ hS₀
      exact retI (v := r_17) hx hb hr hlk (rfl) hP hD hS () ⟨_, rfl, trivial⟩ [0, 1, 2, 3, 4, 5, 6, 7, 8, 9] rfl rfl dX11_fines_33 (Nat.le_of_ble_eq_true rfl) (Nat.le_of_ble_eq_true rfl) rfl
    · skip
      refine lv_iconst (v := (-1)) hx hb dX11_fines_22 (by decide) ?_
      exact retI (v := (-1)) hx hb hr hlk (rfl) hP hD hS () ⟨_, rfl, trivial⟩ [0, 1, 2, 3, 4, 5, 6, 7, 8, 9] rfl rfl dX11_fines_23 (Nat.le_of_ble_eq_true rfl) (Nat.le_of_ble_eq_true rfl) rfl
set_option maxHeartbeats 4000000 in
set_option maxRecDepth 100000 in
theorem ct_X11_seed (l : Launch) (D : va_G) (tc : Nat → ClassId) (sk : (Nat → Nat) × (Nat → Nat)) (Ga : Nat → Nat) (Gv : Nat → Int32) (Sa : Nat → Nat) (Sv : Nat → Int32) (x1 : Int32)  : Ct l yX11_seed cX11_seed 3 (some .int) { frames := 0, cells := 0, slots := 0, locals := 0 } D tc sk [.ref (Ga 0), .int x1] [((Ga 0), .inr (11, [.ref (Ga 1), .ref (Ga 2), .ref (Ga 3), .ref (Ga 4), .int (Gv 0), .ref (Sa 0), .ref (Ga 6), .ref (Ga 7), .ref (Ga 8), .ref (Ga 9), .ref (Ga 10), .ref (Ga 11)])), ((Sa 0), .inr (8, [.ref (Sa 1), .ref (Sa 2), .ref (Sa 3), .int (Sv 0), .int (Sv 1)]))] (fun (v : Option Value) (oo0x1 : Int32) => ∃ r : Int32, v = some (.int r) ∧ (((x1.toInt < 0 ∧ r.toInt = -1) ∨ (0 ≤ x1.toInt ∧ r.toInt = (Sv 1).toInt))) ∧ ((x1.toInt < 0 ∧ (oo0x1 : Int32).toInt = (Sv 1).toInt) ∨ (0 ≤ x1.toInt ∧ (oo0x1 : Int32).toInt = x1.toInt))) (fun (oo0x1 : Int32) => [((Ga 0), .inr (11, [.ref (Ga 1), .ref (Ga 2), .ref (Ga 3), .ref (Ga 4), .int (Gv 0), .ref (Sa 0), .ref (Ga 6), .ref (Ga 7), .ref (Ga 8), .ref (Ga 9), .ref (Ga 10), .ref (Ga 11)])), ((Sa 0), .inr (8, [.ref (Sa 1), .ref (Sa 2), .ref (Sa 3), .int (Sv 0), .int oo0x1]))]) 0 0 := by
  refine Ct.start (by decide) (Nat.le_of_ble_eq_true rfl) (fun p e s m below meth c A ls hx hb hr hlk hin hml hown hts hK hX hP hD hA hl hS => ?_)
  have hl : lv_has ls 3 [(0, .ref (Ga 0)), (1, .int x1)] := hl
  refine lv_iload_n hx hb dX11_seed_0 rfl (lv_at hl 1 rfl) ?_
  refine lv_if_ge (tgt := 6) hx hb dX11_seed_1 (by decide) (fun c_1 => ?_) (fun c_1 => ?_)
  · skip
    refine lv_aload_n hx hb dX11_seed_6 rfl (lv_at hl 0 rfl) ?_
    refine gf_X11_43 hx hb hts hown hK hP 0 rfl rfl dX11_seed_7 ?_
    refine gf_X11_272 hx hb hts hown hK hP 1 rfl rfl dX11_seed_10 ?_
    refine lv_istore_n (lv' := [(2, .int (Sv 1)), (0, .ref (Ga 0)), (1, .int x1)]) hx hb dX11_seed_13 rfl hl (by decide) rfl (fun ls hl₀ => ?_)
    replace hl := hl₀
    clear hl₀
    refine lv_aload_n hx hb dX11_seed_14 rfl (lv_at hl 1 rfl) ?_
    refine gf_X11_43 hx hb hts hown hK hP 0 rfl rfl dX11_seed_15 ?_
    refine lv_iload_n hx hb dX11_seed_18 rfl (lv_at hl 2 rfl) ?_
    refine pf_X11_272 hx hb hts hown hK hP hD hS 1 rfl (Nat.le_of_ble_eq_true rfl) rfl rfl dX11_seed_19 (fun H locs hP₀ hD₀ hS₀ => ?_)
    replace hP : va_P D classes [((Ga 0), .inr (11, [.ref (Ga 1), .ref (Ga 2), .ref (Ga 3), .ref (Ga 4), .int (Gv 0), .ref (Sa 0), .ref (Ga 6), .ref (Ga 7), .ref (Ga 8), .ref (Ga 9), .ref (Ga 10), .ref (Ga 11)])), ((Sa 0), .inr (8, [.ref (Sa 1), .ref (Sa 2), .ref (Sa 3), .int (Sv 0), .int x1]))] H := hP₀
    replace hD : va_D A [((Ga 0), .inr (11, [.ref (Ga 1), .ref (Ga 2), .ref (Ga 3), .ref (Ga 4), .int (Gv 0), .ref (Sa 0), .ref (Ga 6), .ref (Ga 7), .ref (Ga 8), .ref (Ga 9), .ref (Ga 10), .ref (Ga 11)])), ((Sa 0), .inr (8, [.ref (Sa 1), .ref (Sa 2), .ref (Sa 3), .int (Sv 0), .int x1]))] := hD₀
    replace hS := hS₀
    clear hP₀ hD₀ hS₀
    refine lv_iload_n hx hb dX11_seed_22 rfl (lv_at hl 0 rfl) ?_
    have ha_2 : (x1.toInt < 0 ∧ (x1 : Int32).toInt = (Sv 1).toInt) ∨ (0 ≤ x1.toInt ∧ (x1 : Int32).toInt = x1.toInt) := by
      have z_1 := Int32.le_iff_toInt_le.mp c_1
      have y_0 : (0 : Int32).toInt = 0 := by decide
      omega
    have hp_3 : ((x1.toInt < 0 ∧ ((Sv 1) : Int32).toInt = -1) ∨ (0 ≤ x1.toInt ∧ ((Sv 1) : Int32).toInt = (Sv 1).toInt)) := by
      have z_1 := Int32.le_iff_toInt_le.mp c_1
      have y_0 : (0 : Int32).toInt = 0 := by decide
      omega
    exact retI (v := (Sv 1)) hx hb hr hlk (rfl) hP hD hS x1 ⟨_, rfl, hp_3, ha_2⟩ [0, 1] rfl rfl dX11_seed_23 (Nat.le_of_ble_eq_true rfl) (Nat.le_of_ble_eq_true rfl) rfl
  · skip
    refine lv_iconst (v := (-1)) hx hb dX11_seed_4 (by decide) ?_
    have ha_4 : (x1.toInt < 0 ∧ ((Sv 1) : Int32).toInt = (Sv 1).toInt) ∨ (0 ≤ x1.toInt ∧ ((Sv 1) : Int32).toInt = x1.toInt) := by
      have z_1 := Int32.lt_iff_toInt_lt.mp (Int32.not_le.mp c_1)
      have y_0 : (0 : Int32).toInt = 0 := by decide
      omega
    have hp_5 : ((x1.toInt < 0 ∧ ((-1) : Int32).toInt = -1) ∨ (0 ≤ x1.toInt ∧ ((-1) : Int32).toInt = (Sv 1).toInt)) := by
      have z_1 := Int32.lt_iff_toInt_lt.mp (Int32.not_le.mp c_1)
      have y_0 : (0 : Int32).toInt = 0 := by decide
      have y_m1 : (-1 : Int32).toInt = -1 := by decide
      have yr : (-1 : Int32).toInt = -1 := by decide
      omega
    exact retI (v := (-1)) hx hb hr hlk (rfl) hP hD hS (Sv 1) ⟨_, rfl, hp_5, ha_4⟩ [0, 1] rfl rfl dX11_seed_5 (Nat.le_of_ble_eq_true rfl) (Nat.le_of_ble_eq_true rfl) rfl
set_option maxHeartbeats 4000000 in
set_option maxRecDepth 100000 in
theorem ct_X11_count (l : Launch) (D : va_G) (tc : Nat → ClassId) (sk : (Nat → Nat) × (Nat → Nat)) (Ga : Nat → Nat) (Gv : Nat → Int32) (Ta : Nat → Nat) (Tv : Nat → Int32) (Tf : Nat → Nat → Int32) (Sa : Nat → Nat) (Sv : Nat → Int32) (Aa : Nat → Nat) (Av : Nat → Int32) (Af : Nat → Nat → Int32) (Na : Nat → Nat) (Nv : Nat → Int32) (Nf : Nat → Nat → Int32) (Pa : Nat → Nat) (Pv : Nat → Int32) (Pq : Nat → Nat → Option Nat) (x1 : Int32)  : Ct l yX11_count cX11_count 2 (some .int) { frames := 3, cells := 0, slots := 0, locals := 64 } D tc sk [.ref (Ga 0), .int x1] [((Ga 0), .inr (11, [.ref (Ta 0), .ref (Ga 2), .ref (Ga 3), .ref (Ga 4), .int (Gv 0), .ref (Sa 0), .ref (Aa 0), .ref (Pa 0), .ref (Ga 8), .ref (Ga 9), .ref (Ga 10), .ref (Ga 11)])), ((Ta 0), .inr (10, [.ref (Ta 1), .int (Tv 0), .int (Tv 1), .int (Tv 2), .int (Tv 3), .int (Tv 4)])), ((Ta 1), .inl (tc 0, 400, .inl (Tf 1))), ((Sa 0), .inr (8, [.ref (Aa 0), .ref (Sa 2), .ref (Na 0), .int (Sv 0), .int (Sv 1)])), ((Aa 0), .inr (9, [.int (Av 0), .int (Av 1), .int (Av 2), .int (Av 3), .int (Av 4), .int (Av 5), .ref (Aa 1), .ref (Aa 2), .ref (Aa 3), .ref (Aa 4), .ref (Aa 5), .ref (Aa 6), .ref (Aa 7), .ref (Aa 8)])), ((Aa 1), .inl (tc 0, 10, .inl (Af 1))), ((Aa 2), .inl (tc 0, 10, .inl (Af 2))), ((Aa 3), .inl (tc 0, 6, .inl (Af 3))), ((Aa 4), .inl (tc 0, 6, .inl (Af 4))), ((Aa 5), .inl (tc 0, 6, .inl (Af 5))), ((Aa 6), .inl (tc 0, 6, .inl (Af 6))), ((Aa 7), .inl (tc 0, 6, .inl (Af 7))), ((Aa 8), .inl (tc 0, 6, .inl (Af 8))), ((Na 0), .inr (3, [.ref (Na 1), .ref (Na 2), .ref (Na 3), .int (Nv 0)])), ((Na 1), .inl (tc 0, 10, .inl (Nf 1))), ((Na 2), .inl (tc 0, 10, .inl (Nf 2))), ((Na 3), .inl (tc 0, 10, .inl (Nf 3))), ((Pa 0), .inr (5, [.ref (Pa 1), .int (Pv 0), .int (Pv 1)])), ((Pa 1), .inl (tc 5, 20, .inr (.inr (.inr (.inr (Pq 1))))))] (fun (v : Option Value) (_ : Unit) => ∃ r : Int32, v = some (.int r) ∧ (True)) (fun (_ : Unit) => [((Ga 0), .inr (11, [.ref (Ta 0), .ref (Ga 2), .ref (Ga 3), .ref (Ga 4), .int (Gv 0), .ref (Sa 0), .ref (Aa 0), .ref (Pa 0), .ref (Ga 8), .ref (Ga 9), .ref (Ga 10), .ref (Ga 11)])), ((Ta 0), .inr (10, [.ref (Ta 1), .int (Tv 0), .int (Tv 1), .int (Tv 2), .int (Tv 3), .int (Tv 4)])), ((Ta 1), .inl (tc 0, 400, .inl (Tf 1))), ((Sa 0), .inr (8, [.ref (Aa 0), .ref (Sa 2), .ref (Na 0), .int (Sv 0), .int (Sv 1)])), ((Aa 0), .inr (9, [.int (Av 0), .int (Av 1), .int (Av 2), .int (Av 3), .int (Av 4), .int (Av 5), .ref (Aa 1), .ref (Aa 2), .ref (Aa 3), .ref (Aa 4), .ref (Aa 5), .ref (Aa 6), .ref (Aa 7), .ref (Aa 8)])), ((Aa 1), .inl (tc 0, 10, .inl (Af 1))), ((Aa 2), .inl (tc 0, 10, .inl (Af 2))), ((Aa 3), .inl (tc 0, 6, .inl (Af 3))), ((Aa 4), .inl (tc 0, 6, .inl (Af 4))), ((Aa 5), .inl (tc 0, 6, .inl (Af 5))), ((Aa 6), .inl (tc 0, 6, .inl (Af 6))), ((Aa 7), .inl (tc 0, 6, .inl (Af 7))), ((Aa 8), .inl (tc 0, 6, .inl (Af 8))), ((Na 0), .inr (3, [.ref (Na 1), .ref (Na 2), .ref (Na 3), .int (Nv 0)])), ((Na 1), .inl (tc 0, 10, .inl (Nf 1))), ((Na 2), .inl (tc 0, 10, .inl (Nf 2))), ((Na 3), .inl (tc 0, 10, .inl (Nf 3))), ((Pa 0), .inr (5, [.ref (Pa 1), .int (Pv 0), .int (Pv 1)])), ((Pa 1), .inl (tc 5, 20, .inr (.inr (.inr (.inr (Pq 1))))))]) 0 0 := by
  refine Ct.start (by decide) (Nat.le_of_ble_eq_true rfl) (fun p e s m below meth c A ls hx hb hr hlk hin hml hown hts hK hX hP hD hA hl hS => ?_)
  have hl : lv_has ls 2 [(0, .ref (Ga 0)), (1, .int x1)] := hl
  refine lv_iload_n hx hb dX11_count_0 rfl (lv_at hl 1 rfl) ?_
  refine lv_topi (fun x_1 ex_1 => ?_)
  by_cases c_2 : x_1 = 0
  · skip
    subst c_2
    refine lv_tableIn (off := 79) (tgt := 80) hx hb dX11_count_1 (by decide) (by decide) (by decide) (by decide) ?_
    refine lv_aload_n hx hb dX11_count_80 rfl (lv_at hl 0 rfl) ?_
    refine gf_X11_51 hx hb hts hown hK hP 0 rfl rfl dX11_count_81 ?_
    refine gf_X11_282 hx hb hts hown hK hP 4 rfl rfl dX11_count_84 ?_
    exact retI (v := (Av 1)) hx hb hr hlk (rfl) hP hD hS () ⟨_, rfl, trivial⟩ [0, 1, 2, 3, 4, 5, 6, 7, 8, 9, 10, 11, 12, 13, 14, 15, 16, 17, 18] rfl rfl dX11_count_87 (Nat.le_of_ble_eq_true rfl) (Nat.le_of_ble_eq_true rfl) rfl
  · skip
    by_cases c_3 : x_1 = 1
    · skip
      subst c_3
      refine lv_tableIn (off := 87) (tgt := 88) hx hb dX11_count_1 (by decide) (by decide) (by decide) (by decide) ?_
      refine lv_aload_n hx hb dX11_count_88 rfl (lv_at hl 0 rfl) ?_
      refine gf_X11_51 hx hb hts hown hK hP 0 rfl rfl dX11_count_89 ?_
      refine gf_X11_285 hx hb hts hown hK hP 4 rfl rfl dX11_count_92 ?_
      exact retI (v := (Av 2)) hx hb hr hlk (rfl) hP hD hS () ⟨_, rfl, trivial⟩ [0, 1, 2, 3, 4, 5, 6, 7, 8, 9, 10, 11, 12, 13, 14, 15, 16, 17, 18] rfl rfl dX11_count_95 (Nat.le_of_ble_eq_true rfl) (Nat.le_of_ble_eq_true rfl) rfl
    · skip
      by_cases c_4 : x_1 = 2
      · skip
        subst c_4
        refine lv_tableIn (off := 95) (tgt := 96) hx hb dX11_count_1 (by decide) (by decide) (by decide) (by decide) ?_
        refine lv_aload_n hx hb dX11_count_96 rfl (lv_at hl 0 rfl) ?_
        refine gf_X11_51 hx hb hts hown hK hP 0 rfl rfl dX11_count_97 ?_
        refine gf_X11_121 hx hb hts hown hK hP 4 rfl rfl dX11_count_100 ?_
        exact retI (v := (Av 3)) hx hb hr hlk (rfl) hP hD hS () ⟨_, rfl, trivial⟩ [0, 1, 2, 3, 4, 5, 6, 7, 8, 9, 10, 11, 12, 13, 14, 15, 16, 17, 18] rfl rfl dX11_count_103 (Nat.le_of_ble_eq_true rfl) (Nat.le_of_ble_eq_true rfl) rfl
      · skip
        by_cases c_5 : x_1 = 3
        · skip
          subst c_5
          refine lv_tableIn (off := 103) (tgt := 104) hx hb dX11_count_1 (by decide) (by decide) (by decide) (by decide) ?_
          refine lv_aload_n hx hb dX11_count_104 rfl (lv_at hl 0 rfl) ?_
          refine gf_X11_36 hx hb hts hown hK hP 0 rfl rfl dX11_count_105 ?_
          exact retI (v := (Gv 0)) hx hb hr hlk (rfl) hP hD hS () ⟨_, rfl, trivial⟩ [0, 1, 2, 3, 4, 5, 6, 7, 8, 9, 10, 11, 12, 13, 14, 15, 16, 17, 18] rfl rfl dX11_count_108 (Nat.le_of_ble_eq_true rfl) (Nat.le_of_ble_eq_true rfl) rfl
        · skip
          by_cases c_6 : x_1 = 4
          · skip
            subst c_6
            refine lv_tableIn (off := 108) (tgt := 109) hx hb dX11_count_1 (by decide) (by decide) (by decide) (by decide) ?_
            refine lv_aload_n hx hb dX11_count_109 rfl (lv_at hl 0 rfl) ?_
            refine gf_X11_43 hx hb hts hown hK hP 0 rfl rfl dX11_count_110 ?_
            refine gf_X11_130 hx hb hts hown hK hP 3 rfl rfl dX11_count_113 ?_
            exact retI (v := (Sv 0)) hx hb hr hlk (rfl) hP hD hS () ⟨_, rfl, trivial⟩ [0, 1, 2, 3, 4, 5, 6, 7, 8, 9, 10, 11, 12, 13, 14, 15, 16, 17, 18] rfl rfl dX11_count_116 (Nat.le_of_ble_eq_true rfl) (Nat.le_of_ble_eq_true rfl) rfl
          · skip
            by_cases c_7 : x_1 = 5
            · skip
              subst c_7
              refine lv_tableIn (off := 116) (tgt := 117) hx hb dX11_count_1 (by decide) (by decide) (by decide) (by decide) ?_
              refine lv_aload_n hx hb dX11_count_117 rfl (lv_at hl 0 rfl) ?_
              refine gf_X11_51 hx hb hts hown hK hP 0 rfl rfl dX11_count_118 ?_
              refine gf_X11_179 hx hb hts hown hK hP 4 rfl rfl dX11_count_121 ?_
              exact retI (v := (Av 4)) hx hb hr hlk (rfl) hP hD hS () ⟨_, rfl, trivial⟩ [0, 1, 2, 3, 4, 5, 6, 7, 8, 9, 10, 11, 12, 13, 14, 15, 16, 17, 18] rfl rfl dX11_count_124 (Nat.le_of_ble_eq_true rfl) (Nat.le_of_ble_eq_true rfl) rfl
            · skip
              by_cases c_8 : x_1 = 6
              · skip
                subst c_8
                refine lv_tableIn (off := 124) (tgt := 125) hx hb dX11_count_1 (by decide) (by decide) (by decide) (by decide) ?_
                refine lv_aload_n hx hb dX11_count_125 rfl (lv_at hl 0 rfl) ?_
                refine gf_X11_51 hx hb hts hown hK hP 0 rfl rfl dX11_count_126 ?_
                refine lv_aload_n hx hb dX11_count_129 rfl (lv_at hl 0 rfl) ?_
                refine gf_X11_51 hx hb hts hown hK hP 0 rfl rfl dX11_count_130 ?_
                refine gf_X11_179 hx hb hts hown hK hP 4 rfl rfl dX11_count_133 ?_
                refine cV (a := (Aa 0)) (As := [.int (Av 4)]) (rest := []) (wr := [((Ga 0), .inr (11, [.ref (Ta 0), .ref (Ga 2), .ref (Ga 3), .ref (Ga 4), .int (Gv 0), .ref (Sa 0), .ref (Aa 0), .ref (Pa 0), .ref (Ga 8), .ref (Ga 9), .ref (Ga 10), .ref (Ga 11)])), ((Ta 0), .inr (10, [.ref (Ta 1), .int (Tv 0), .int (Tv 1), .int (Tv 2), .int (Tv 3), .int (Tv 4)])), ((Ta 1), .inl (tc 0, 400, .inl (Tf 1))), ((Sa 0), .inr (8, [.ref (Aa 0), .ref (Sa 2), .ref (Na 0), .int (Sv 0), .int (Sv 1)])), ((Na 0), .inr (3, [.ref (Na 1), .ref (Na 2), .ref (Na 3), .int (Nv 0)])), ((Na 1), .inl (tc 0, 10, .inl (Nf 1))), ((Na 2), .inl (tc 0, 10, .inl (Nf 2))), ((Na 3), .inl (tc 0, 10, .inl (Nf 3))), ((Pa 0), .inr (5, [.ref (Pa 1), .int (Pv 0), .int (Pv 1)])), ((Pa 1), .inl (tc 5, 20, .inr (.inr (.inr (.inr (Pq 1))))))]) ⟨hx, hb, hml, hown, hts⟩ hK hX hA (cu_X9_clockOn l D tc sk (Aa 0) (Aa 1) (Aa 2) (Aa 3) (Aa 4) (Aa 5) (Aa 6) (Aa 7) (Aa 8) (Av 0) (Av 1) (Av 2) (Av 3) (Av 4) (Av 5) (Af 1) (Af 2) (Af 3) (Af 4) (Af 5) (Af 6) (Af 7) (Af 8) (Av 4)) k_747 k_1041 k_745 k_746 k_98 pl_X9_clockOn ⟨Nat.le_of_ble_eq_true rfl, Nat.le_of_ble_eq_true rfl⟩ rfl rfl (va_recv hK hP (ci := 9) (q0 := 4) rfl rfl) hP hD hS [4, 5, 6, 7, 8, 9, 10, 11, 12] [0, 1, 2, 3, 13, 14, 15, 16, 17, 18] rfl rfl rfl rfl rfl (by decide) rfl hl.1 rfl (Nat.le_of_ble_eq_true rfl) dX11_count_136 ⟨Nat.le_of_ble_eq_true rfl, Nat.le_of_ble_eq_true rfl⟩ (fun v_9 u_10 H locs hv_11 hP₀ hD₀ hS₀ => ?_)
                obtain ⟨r_12, rfl, he_13⟩ := hv_11
                have he_13 : (True) := he_13
                refine W.eq (g2 := F0 m 139 ls [.int r_12]) rfl ?_
                replace hP : va_P D classes [((Ga 0), .inr (11, [.ref (Ta 0), .ref (Ga 2), .ref (Ga 3), .ref (Ga 4), .int (Gv 0), .ref (Sa 0), .ref (Aa 0), .ref (Pa 0), .ref (Ga 8), .ref (Ga 9), .ref (Ga 10), .ref (Ga 11)])), ((Ta 0), .inr (10, [.ref (Ta 1), .int (Tv 0), .int (Tv 1), .int (Tv 2), .int (Tv 3), .int (Tv 4)])), ((Ta 1), .inl (tc 0, 400, .inl (Tf 1))), ((Sa 0), .inr (8, [.ref (Aa 0), .ref (Sa 2), .ref (Na 0), .int (Sv 0), .int (Sv 1)])), ((Na 0), .inr (3, [.ref (Na 1), .ref (Na 2), .ref (Na 3), .int (Nv 0)])), ((Na 1), .inl (tc 0, 10, .inl (Nf 1))), ((Na 2), .inl (tc 0, 10, .inl (Nf 2))), ((Na 3), .inl (tc 0, 10, .inl (Nf 3))), ((Pa 0), .inr (5, [.ref (Pa 1), .int (Pv 0), .int (Pv 1)])), ((Pa 1), .inl (tc 5, 20, .inr (.inr (.inr (.inr (Pq 1)))))), ((Aa 0), .inr (9, [.int (Av 0), .int (Av 1), .int (Av 2), .int (Av 3), .int (Av 4), .int (Av 5), .ref (Aa 1), .ref (Aa 2), .ref (Aa 3), .ref (Aa 4), .ref (Aa 5), .ref (Aa 6), .ref (Aa 7), .ref (Aa 8)])), ((Aa 1), .inl (tc 0, 10, .inl (Af 1))), ((Aa 2), .inl (tc 0, 10, .inl (Af 2))), ((Aa 3), .inl (tc 0, 6, .inl (Af 3))), ((Aa 4), .inl (tc 0, 6, .inl (Af 4))), ((Aa 5), .inl (tc 0, 6, .inl (Af 5))), ((Aa 6), .inl (tc 0, 6, .inl (Af 6))), ((Aa 7), .inl (tc 0, 6, .inl (Af 7))), ((Aa 8), .inl (tc 0, 6, .inl (Af 8)))] H := hP₀
                replace hD : va_D A [((Ga 0), .inr (11, [.ref (Ta 0), .ref (Ga 2), .ref (Ga 3), .ref (Ga 4), .int (Gv 0), .ref (Sa 0), .ref (Aa 0), .ref (Pa 0), .ref (Ga 8), .ref (Ga 9), .ref (Ga 10), .ref (Ga 11)])), ((Ta 0), .inr (10, [.ref (Ta 1), .int (Tv 0), .int (Tv 1), .int (Tv 2), .int (Tv 3), .int (Tv 4)])), ((Ta 1), .inl (tc 0, 400, .inl (Tf 1))), ((Sa 0), .inr (8, [.ref (Aa 0), .ref (Sa 2), .ref (Na 0), .int (Sv 0), .int (Sv 1)])), ((Na 0), .inr (3, [.ref (Na 1), .ref (Na 2), .ref (Na 3), .int (Nv 0)])), ((Na 1), .inl (tc 0, 10, .inl (Nf 1))), ((Na 2), .inl (tc 0, 10, .inl (Nf 2))), ((Na 3), .inl (tc 0, 10, .inl (Nf 3))), ((Pa 0), .inr (5, [.ref (Pa 1), .int (Pv 0), .int (Pv 1)])), ((Pa 1), .inl (tc 5, 20, .inr (.inr (.inr (.inr (Pq 1)))))), ((Aa 0), .inr (9, [.int (Av 0), .int (Av 1), .int (Av 2), .int (Av 3), .int (Av 4), .int (Av 5), .ref (Aa 1), .ref (Aa 2), .ref (Aa 3), .ref (Aa 4), .ref (Aa 5), .ref (Aa 6), .ref (Aa 7), .ref (Aa 8)])), ((Aa 1), .inl (tc 0, 10, .inl (Af 1))), ((Aa 2), .inl (tc 0, 10, .inl (Af 2))), ((Aa 3), .inl (tc 0, 6, .inl (Af 3))), ((Aa 4), .inl (tc 0, 6, .inl (Af 4))), ((Aa 5), .inl (tc 0, 6, .inl (Af 5))), ((Aa 6), .inl (tc 0, 6, .inl (Af 6))), ((Aa 7), .inl (tc 0, 6, .inl (Af 7))), ((Aa 8), .inl (tc 0, 6, .inl (Af 8)))] := hD₀
                replace hS := hS₀
                clear hP₀ hD₀ hS₀
                exact retI (v := r_12) hx hb hr hlk (rfl) hP hD hS () ⟨_, rfl, trivial⟩ [0, 1, 2, 3, 10, 11, 12, 13, 14, 15, 16, 17, 18, 4, 5, 6, 7, 8, 9] rfl rfl dX11_count_139 (Nat.le_of_ble_eq_true rfl) (Nat.le_of_ble_eq_true rfl) rfl
              · skip
                by_cases c_14 : x_1 = 7
                · skip
                  subst c_14
                  refine lv_tableIn (off := 139) (tgt := 140) hx hb dX11_count_1 (by decide) (by decide) (by decide) (by decide) ?_
                  refine lv_aload_n hx hb dX11_count_140 rfl (lv_at hl 0 rfl) ?_
                  refine gf_X11_51 hx hb hts hown hK hP 0 rfl rfl dX11_count_141 ?_
                  refine gf_X11_193 hx hb hts hown hK hP 4 rfl rfl dX11_count_144 ?_
                  exact retI (v := (Av 0)) hx hb hr hlk (rfl) hP hD hS () ⟨_, rfl, trivial⟩ [0, 1, 2, 3, 4, 5, 6, 7, 8, 9, 10, 11, 12, 13, 14, 15, 16, 17, 18] rfl rfl dX11_count_147 (Nat.le_of_ble_eq_true rfl) (Nat.le_of_ble_eq_true rfl) rfl
                · skip
                  by_cases c_15 : x_1 = 8
                  · skip
                    subst c_15
                    refine lv_tableIn (off := 147) (tgt := 148) hx hb dX11_count_1 (by decide) (by decide) (by decide) (by decide) ?_
                    refine lv_aload_n hx hb dX11_count_148 rfl (lv_at hl 0 rfl) ?_
                    refine gf_X11_51 hx hb hts hown hK hP 0 rfl rfl dX11_count_149 ?_
                    refine lv_aload_n hx hb dX11_count_152 rfl (lv_at hl 0 rfl) ?_
                    refine gf_X11_51 hx hb hts hown hK hP 0 rfl rfl dX11_count_153 ?_
                    refine gf_X11_179 hx hb hts hown hK hP 4 rfl rfl dX11_count_156 ?_
                    refine cV (a := (Aa 0)) (As := [.int (Av 4)]) (rest := []) (wr := [((Ga 0), .inr (11, [.ref (Ta 0), .ref (Ga 2), .ref (Ga 3), .ref (Ga 4), .int (Gv 0), .ref (Sa 0), .ref (Aa 0), .ref (Pa 0), .ref (Ga 8), .ref (Ga 9), .ref (Ga 10), .ref (Ga 11)])), ((Ta 0), .inr (10, [.ref (Ta 1), .int (Tv 0), .int (Tv 1), .int (Tv 2), .int (Tv 3), .int (Tv 4)])), ((Ta 1), .inl (tc 0, 400, .inl (Tf 1))), ((Sa 0), .inr (8, [.ref (Aa 0), .ref (Sa 2), .ref (Na 0), .int (Sv 0), .int (Sv 1)])), ((Na 0), .inr (3, [.ref (Na 1), .ref (Na 2), .ref (Na 3), .int (Nv 0)])), ((Na 1), .inl (tc 0, 10, .inl (Nf 1))), ((Na 2), .inl (tc 0, 10, .inl (Nf 2))), ((Na 3), .inl (tc 0, 10, .inl (Nf 3))), ((Pa 0), .inr (5, [.ref (Pa 1), .int (Pv 0), .int (Pv 1)])), ((Pa 1), .inl (tc 5, 20, .inr (.inr (.inr (.inr (Pq 1))))))]) ⟨hx, hb, hml, hown, hts⟩ hK hX hA (cu_X9_stillOn l D tc sk (Aa 0) (Aa 1) (Aa 2) (Aa 3) (Aa 4) (Aa 5) (Aa 6) (Aa 7) (Aa 8) (Av 0) (Av 1) (Av 2) (Av 3) (Av 4) (Av 5) (Af 1) (Af 2) (Af 3) (Af 4) (Af 5) (Af 6) (Af 7) (Af 8) (Av 4)) k_743 k_1042 k_741 k_742 k_98 pl_X9_stillOn ⟨Nat.le_of_ble_eq_true rfl, Nat.le_of_ble_eq_true rfl⟩ rfl rfl (va_recv hK hP (ci := 9) (q0 := 4) rfl rfl) hP hD hS [4, 5, 6, 7, 8, 9, 10, 11, 12] [0, 1, 2, 3, 13, 14, 15, 16, 17, 18] rfl rfl rfl rfl rfl (by decide) rfl hl.1 rfl (Nat.le_of_ble_eq_true rfl) dX11_count_159 ⟨Nat.le_of_ble_eq_true rfl, Nat.le_of_ble_eq_true rfl⟩ (fun v_16 u_17 H locs hv_18 hP₀ hD₀ hS₀ => ?_)
                    obtain ⟨r_19, rfl, he_20⟩ := hv_18
                    have he_20 : (True) := he_20
                    refine W.eq (g2 := F0 m 162 ls [.int r_19]) rfl ?_
                    replace hP : va_P D classes [((Ga 0), .inr (11, [.ref (Ta 0), .ref (Ga 2), .ref (Ga 3), .ref (Ga 4), .int (Gv 0), .ref (Sa 0), .ref (Aa 0), .ref (Pa 0), .ref (Ga 8), .ref (Ga 9), .ref (Ga 10), .ref (Ga 11)])), ((Ta 0), .inr (10, [.ref (Ta 1), .int (Tv 0), .int (Tv 1), .int (Tv 2), .int (Tv 3), .int (Tv 4)])), ((Ta 1), .inl (tc 0, 400, .inl (Tf 1))), ((Sa 0), .inr (8, [.ref (Aa 0), .ref (Sa 2), .ref (Na 0), .int (Sv 0), .int (Sv 1)])), ((Na 0), .inr (3, [.ref (Na 1), .ref (Na 2), .ref (Na 3), .int (Nv 0)])), ((Na 1), .inl (tc 0, 10, .inl (Nf 1))), ((Na 2), .inl (tc 0, 10, .inl (Nf 2))), ((Na 3), .inl (tc 0, 10, .inl (Nf 3))), ((Pa 0), .inr (5, [.ref (Pa 1), .int (Pv 0), .int (Pv 1)])), ((Pa 1), .inl (tc 5, 20, .inr (.inr (.inr (.inr (Pq 1)))))), ((Aa 0), .inr (9, [.int (Av 0), .int (Av 1), .int (Av 2), .int (Av 3), .int (Av 4), .int (Av 5), .ref (Aa 1), .ref (Aa 2), .ref (Aa 3), .ref (Aa 4), .ref (Aa 5), .ref (Aa 6), .ref (Aa 7), .ref (Aa 8)])), ((Aa 1), .inl (tc 0, 10, .inl (Af 1))), ((Aa 2), .inl (tc 0, 10, .inl (Af 2))), ((Aa 3), .inl (tc 0, 6, .inl (Af 3))), ((Aa 4), .inl (tc 0, 6, .inl (Af 4))), ((Aa 5), .inl (tc 0, 6, .inl (Af 5))), ((Aa 6), .inl (tc 0, 6, .inl (Af 6))), ((Aa 7), .inl (tc 0, 6, .inl (Af 7))), ((Aa 8), .inl (tc 0, 6, .inl (Af 8)))] H := hP₀
                    replace hD : va_D A [((Ga 0), .inr (11, [.ref (Ta 0), .ref (Ga 2), .ref (Ga 3), .ref (Ga 4), .int (Gv 0), .ref (Sa 0), .ref (Aa 0), .ref (Pa 0), .ref (Ga 8), .ref (Ga 9), .ref (Ga 10), .ref (Ga 11)])), ((Ta 0), .inr (10, [.ref (Ta 1), .int (Tv 0), .int (Tv 1), .int (Tv 2), .int (Tv 3), .int (Tv 4)])), ((Ta 1), .inl (tc 0, 400, .inl (Tf 1))), ((Sa 0), .inr (8, [.ref (Aa 0), .ref (Sa 2), .ref (Na 0), .int (Sv 0), .int (Sv 1)])), ((Na 0), .inr (3, [.ref (Na 1), .ref (Na 2), .ref (Na 3), .int (Nv 0)])), ((Na 1), .inl (tc 0, 10, .inl (Nf 1))), ((Na 2), .inl (tc 0, 10, .inl (Nf 2))), ((Na 3), .inl (tc 0, 10, .inl (Nf 3))), ((Pa 0), .inr (5, [.ref (Pa 1), .int (Pv 0), .int (Pv 1)])), ((Pa 1), .inl (tc 5, 20, .inr (.inr (.inr (.inr (Pq 1)))))), ((Aa 0), .inr (9, [.int (Av 0), .int (Av 1), .int (Av 2), .int (Av 3), .int (Av 4), .int (Av 5), .ref (Aa 1), .ref (Aa 2), .ref (Aa 3), .ref (Aa 4), .ref (Aa 5), .ref (Aa 6), .ref (Aa 7), .ref (Aa 8)])), ((Aa 1), .inl (tc 0, 10, .inl (Af 1))), ((Aa 2), .inl (tc 0, 10, .inl (Af 2))), ((Aa 3), .inl (tc 0, 6, .inl (Af 3))), ((Aa 4), .inl (tc 0, 6, .inl (Af 4))), ((Aa 5), .inl (tc 0, 6, .inl (Af 5))), ((Aa 6), .inl (tc 0, 6, .inl (Af 6))), ((Aa 7), .inl (tc 0, 6, .inl (Af 7))), ((Aa 8), .inl (tc 0, 6, .inl (Af 8)))] := hD₀
                    replace hS := hS₀
                    clear hP₀ hD₀ hS₀
                    exact retI (v := r_19) hx hb hr hlk (rfl) hP hD hS () ⟨_, rfl, trivial⟩ [0, 1, 2, 3, 10, 11, 12, 13, 14, 15, 16, 17, 18, 4, 5, 6, 7, 8, 9] rfl rfl dX11_count_162 (Nat.le_of_ble_eq_true rfl) (Nat.le_of_ble_eq_true rfl) rfl
                  · skip
                    by_cases c_21 : x_1 = 9
                    · skip
                      subst c_21
                      refine lv_tableIn (off := 162) (tgt := 163) hx hb dX11_count_1 (by decide) (by decide) (by decide) (by decide) ?_
                      refine lv_aload_n hx hb dX11_count_163 rfl (lv_at hl 0 rfl) ?_
                      refine gf_X11_51 hx hb hts hown hK hP 0 rfl rfl dX11_count_164 ?_
                      refine gf_X11_294 hx hb hts hown hK hP 4 rfl rfl dX11_count_167 ?_
                      exact retI (v := (Av 5)) hx hb hr hlk (rfl) hP hD hS () ⟨_, rfl, trivial⟩ [0, 1, 2, 3, 4, 5, 6, 7, 8, 9, 10, 11, 12, 13, 14, 15, 16, 17, 18] rfl rfl dX11_count_170 (Nat.le_of_ble_eq_true rfl) (Nat.le_of_ble_eq_true rfl) rfl
                    · skip
                      by_cases c_22 : x_1 = 10
                      · skip
                        subst c_22
                        refine lv_tableIn (off := 170) (tgt := 171) hx hb dX11_count_1 (by decide) (by decide) (by decide) (by decide) ?_
                        refine lv_aload_n hx hb dX11_count_171 rfl (lv_at hl 0 rfl) ?_
                        refine gf_X11_51 hx hb hts hown hK hP 0 rfl rfl dX11_count_172 ?_
                        refine cV (a := (Aa 0)) (As := []) (rest := []) (wr := [((Ga 0), .inr (11, [.ref (Ta 0), .ref (Ga 2), .ref (Ga 3), .ref (Ga 4), .int (Gv 0), .ref (Sa 0), .ref (Aa 0), .ref (Pa 0), .ref (Ga 8), .ref (Ga 9), .ref (Ga 10), .ref (Ga 11)])), ((Ta 0), .inr (10, [.ref (Ta 1), .int (Tv 0), .int (Tv 1), .int (Tv 2), .int (Tv 3), .int (Tv 4)])), ((Ta 1), .inl (tc 0, 400, .inl (Tf 1))), ((Sa 0), .inr (8, [.ref (Aa 0), .ref (Sa 2), .ref (Na 0), .int (Sv 0), .int (Sv 1)])), ((Na 0), .inr (3, [.ref (Na 1), .ref (Na 2), .ref (Na 3), .int (Nv 0)])), ((Na 1), .inl (tc 0, 10, .inl (Nf 1))), ((Na 2), .inl (tc 0, 10, .inl (Nf 2))), ((Na 3), .inl (tc 0, 10, .inl (Nf 3))), ((Pa 0), .inr (5, [.ref (Pa 1), .int (Pv 0), .int (Pv 1)])), ((Pa 1), .inl (tc 5, 20, .inr (.inr (.inr (.inr (Pq 1))))))]) ⟨hx, hb, hml, hown, hts⟩ hK hX hA (cu_X9_timesMet l D tc sk (Aa 0) (Aa 1) (Aa 2) (Aa 3) (Aa 4) (Aa 5) (Aa 6) (Aa 7) (Aa 8) (Av 0) (Av 1) (Av 2) (Av 3) (Av 4) (Av 5) (Af 1) (Af 2) (Af 3) (Af 4) (Af 5) (Af 6) (Af 7) (Af 8)) k_1046 k_1043 k_1044 k_1045 k_98 pl_X9_timesMet ⟨Nat.le_of_ble_eq_true rfl, Nat.le_of_ble_eq_true rfl⟩ rfl rfl (va_recv hK hP (ci := 9) (q0 := 4) rfl rfl) hP hD hS [4, 5, 6, 7, 8, 9, 10, 11, 12] [0, 1, 2, 3, 13, 14, 15, 16, 17, 18] rfl rfl rfl rfl rfl (by decide) rfl hl.1 rfl (Nat.le_of_ble_eq_true rfl) dX11_count_175 ⟨Nat.le_of_ble_eq_true rfl, Nat.le_of_ble_eq_true rfl⟩ (fun v_23 u_24 H locs hv_25 hP₀ hD₀ hS₀ => ?_)
                        obtain ⟨r_26, rfl, he_27⟩ := hv_25
                        have he_27 : (True) := he_27
                        refine W.eq (g2 := F0 m 178 ls [.int r_26]) rfl ?_
                        replace hP : va_P D classes [((Ga 0), .inr (11, [.ref (Ta 0), .ref (Ga 2), .ref (Ga 3), .ref (Ga 4), .int (Gv 0), .ref (Sa 0), .ref (Aa 0), .ref (Pa 0), .ref (Ga 8), .ref (Ga 9), .ref (Ga 10), .ref (Ga 11)])), ((Ta 0), .inr (10, [.ref (Ta 1), .int (Tv 0), .int (Tv 1), .int (Tv 2), .int (Tv 3), .int (Tv 4)])), ((Ta 1), .inl (tc 0, 400, .inl (Tf 1))), ((Sa 0), .inr (8, [.ref (Aa 0), .ref (Sa 2), .ref (Na 0), .int (Sv 0), .int (Sv 1)])), ((Na 0), .inr (3, [.ref (Na 1), .ref (Na 2), .ref (Na 3), .int (Nv 0)])), ((Na 1), .inl (tc 0, 10, .inl (Nf 1))), ((Na 2), .inl (tc 0, 10, .inl (Nf 2))), ((Na 3), .inl (tc 0, 10, .inl (Nf 3))), ((Pa 0), .inr (5, [.ref (Pa 1), .int (Pv 0), .int (Pv 1)])), ((Pa 1), .inl (tc 5, 20, .inr (.inr (.inr (.inr (Pq 1)))))), ((Aa 0), .inr (9, [.int (Av 0), .int (Av 1), .int (Av 2), .int (Av 3), .int (Av 4), .int (Av 5), .ref (Aa 1), .ref (Aa 2), .ref (Aa 3), .ref (Aa 4), .ref (Aa 5), .ref (Aa 6), .ref (Aa 7), .ref (Aa 8)])), ((Aa 1), .inl (tc 0, 10, .inl (Af 1))), ((Aa 2), .inl (tc 0, 10, .inl (Af 2))), ((Aa 3), .inl (tc 0, 6, .inl (Af 3))), ((Aa 4), .inl (tc 0, 6, .inl (Af 4))), ((Aa 5), .inl (tc 0, 6, .inl (Af 5))), ((Aa 6), .inl (tc 0, 6, .inl (Af 6))), ((Aa 7), .inl (tc 0, 6, .inl (Af 7))), ((Aa 8), .inl (tc 0, 6, .inl (Af 8)))] H := hP₀
                        replace hD : va_D A [((Ga 0), .inr (11, [.ref (Ta 0), .ref (Ga 2), .ref (Ga 3), .ref (Ga 4), .int (Gv 0), .ref (Sa 0), .ref (Aa 0), .ref (Pa 0), .ref (Ga 8), .ref (Ga 9), .ref (Ga 10), .ref (Ga 11)])), ((Ta 0), .inr (10, [.ref (Ta 1), .int (Tv 0), .int (Tv 1), .int (Tv 2), .int (Tv 3), .int (Tv 4)])), ((Ta 1), .inl (tc 0, 400, .inl (Tf 1))), ((Sa 0), .inr (8, [.ref (Aa 0), .ref (Sa 2), .ref (Na 0), .int (Sv 0), .int (Sv 1)])), ((Na 0), .inr (3, [.ref (Na 1), .ref (Na 2), .ref (Na 3), .int (Nv 0)])), ((Na 1), .inl (tc 0, 10, .inl (Nf 1))), ((Na 2), .inl (tc 0, 10, .inl (Nf 2))), ((Na 3), .inl (tc 0, 10, .inl (Nf 3))), ((Pa 0), .inr (5, [.ref (Pa 1), .int (Pv 0), .int (Pv 1)])), ((Pa 1), .inl (tc 5, 20, .inr (.inr (.inr (.inr (Pq 1)))))), ((Aa 0), .inr (9, [.int (Av 0), .int (Av 1), .int (Av 2), .int (Av 3), .int (Av 4), .int (Av 5), .ref (Aa 1), .ref (Aa 2), .ref (Aa 3), .ref (Aa 4), .ref (Aa 5), .ref (Aa 6), .ref (Aa 7), .ref (Aa 8)])), ((Aa 1), .inl (tc 0, 10, .inl (Af 1))), ((Aa 2), .inl (tc 0, 10, .inl (Af 2))), ((Aa 3), .inl (tc 0, 6, .inl (Af 3))), ((Aa 4), .inl (tc 0, 6, .inl (Af 4))), ((Aa 5), .inl (tc 0, 6, .inl (Af 5))), ((Aa 6), .inl (tc 0, 6, .inl (Af 6))), ((Aa 7), .inl (tc 0, 6, .inl (Af 7))), ((Aa 8), .inl (tc 0, 6, .inl (Af 8)))] := hD₀
                        replace hS := hS₀
                        clear hP₀ hD₀ hS₀
                        exact retI (v := r_26) hx hb hr hlk (rfl) hP hD hS () ⟨_, rfl, trivial⟩ [0, 1, 2, 3, 10, 11, 12, 13, 14, 15, 16, 17, 18, 4, 5, 6, 7, 8, 9] rfl rfl dX11_count_178 (Nat.le_of_ble_eq_true rfl) (Nat.le_of_ble_eq_true rfl) rfl
                      · skip
                        by_cases c_28 : x_1 = 11
                        · skip
                          subst c_28
                          refine lv_tableIn (off := 178) (tgt := 179) hx hb dX11_count_1 (by decide) (by decide) (by decide) (by decide) ?_
                          refine lv_aload_n hx hb dX11_count_179 rfl (lv_at hl 0 rfl) ?_
                          refine gf_X11_51 hx hb hts hown hK hP 0 rfl rfl dX11_count_180 ?_
                          refine cV (a := (Aa 0)) (As := []) (rest := []) (wr := [((Ga 0), .inr (11, [.ref (Ta 0), .ref (Ga 2), .ref (Ga 3), .ref (Ga 4), .int (Gv 0), .ref (Sa 0), .ref (Aa 0), .ref (Pa 0), .ref (Ga 8), .ref (Ga 9), .ref (Ga 10), .ref (Ga 11)])), ((Ta 0), .inr (10, [.ref (Ta 1), .int (Tv 0), .int (Tv 1), .int (Tv 2), .int (Tv 3), .int (Tv 4)])), ((Ta 1), .inl (tc 0, 400, .inl (Tf 1))), ((Sa 0), .inr (8, [.ref (Aa 0), .ref (Sa 2), .ref (Na 0), .int (Sv 0), .int (Sv 1)])), ((Na 0), .inr (3, [.ref (Na 1), .ref (Na 2), .ref (Na 3), .int (Nv 0)])), ((Na 1), .inl (tc 0, 10, .inl (Nf 1))), ((Na 2), .inl (tc 0, 10, .inl (Nf 2))), ((Na 3), .inl (tc 0, 10, .inl (Nf 3))), ((Pa 0), .inr (5, [.ref (Pa 1), .int (Pv 0), .int (Pv 1)])), ((Pa 1), .inl (tc 5, 20, .inr (.inr (.inr (.inr (Pq 1))))))]) ⟨hx, hb, hml, hown, hts⟩ hK hX hA (cu_X9_whoCanBuy l D tc sk (Aa 0) (Aa 1) (Aa 2) (Aa 3) (Aa 4) (Aa 5) (Aa 6) (Aa 7) (Aa 8) (Av 0) (Av 1) (Av 2) (Av 3) (Av 4) (Av 5) (Af 1) (Af 2) (Af 3) (Af 4) (Af 5) (Af 6) (Af 7) (Af 8)) k_1050 k_1047 k_1048 k_1049 k_98 pl_X9_whoCanBuy ⟨Nat.le_of_ble_eq_true rfl, Nat.le_of_ble_eq_true rfl⟩ rfl rfl (va_recv hK hP (ci := 9) (q0 := 4) rfl rfl) hP hD hS [4, 5, 6, 7, 8, 9, 10, 11, 12] [0, 1, 2, 3, 13, 14, 15, 16, 17, 18] rfl rfl rfl rfl rfl (by decide) rfl hl.1 rfl (Nat.le_of_ble_eq_true rfl) dX11_count_183 ⟨Nat.le_of_ble_eq_true rfl, Nat.le_of_ble_eq_true rfl⟩ (fun v_29 u_30 H locs hv_31 hP₀ hD₀ hS₀ => ?_)
                          obtain ⟨r_32, rfl, he_33⟩ := hv_31
                          have he_33 : (True) := he_33
                          refine W.eq (g2 := F0 m 186 ls [.int r_32]) rfl ?_
                          replace hP : va_P D classes [((Ga 0), .inr (11, [.ref (Ta 0), .ref (Ga 2), .ref (Ga 3), .ref (Ga 4), .int (Gv 0), .ref (Sa 0), .ref (Aa 0), .ref (Pa 0), .ref (Ga 8), .ref (Ga 9), .ref (Ga 10), .ref (Ga 11)])), ((Ta 0), .inr (10, [.ref (Ta 1), .int (Tv 0), .int (Tv 1), .int (Tv 2), .int (Tv 3), .int (Tv 4)])), ((Ta 1), .inl (tc 0, 400, .inl (Tf 1))), ((Sa 0), .inr (8, [.ref (Aa 0), .ref (Sa 2), .ref (Na 0), .int (Sv 0), .int (Sv 1)])), ((Na 0), .inr (3, [.ref (Na 1), .ref (Na 2), .ref (Na 3), .int (Nv 0)])), ((Na 1), .inl (tc 0, 10, .inl (Nf 1))), ((Na 2), .inl (tc 0, 10, .inl (Nf 2))), ((Na 3), .inl (tc 0, 10, .inl (Nf 3))), ((Pa 0), .inr (5, [.ref (Pa 1), .int (Pv 0), .int (Pv 1)])), ((Pa 1), .inl (tc 5, 20, .inr (.inr (.inr (.inr (Pq 1)))))), ((Aa 0), .inr (9, [.int (Av 0), .int (Av 1), .int (Av 2), .int (Av 3), .int (Av 4), .int (Av 5), .ref (Aa 1), .ref (Aa 2), .ref (Aa 3), .ref (Aa 4), .ref (Aa 5), .ref (Aa 6), .ref (Aa 7), .ref (Aa 8)])), ((Aa 1), .inl (tc 0, 10, .inl (Af 1))), ((Aa 2), .inl (tc 0, 10, .inl (Af 2))), ((Aa 3), .inl (tc 0, 6, .inl (Af 3))), ((Aa 4), .inl (tc 0, 6, .inl (Af 4))), ((Aa 5), .inl (tc 0, 6, .inl (Af 5))), ((Aa 6), .inl (tc 0, 6, .inl (Af 6))), ((Aa 7), .inl (tc 0, 6, .inl (Af 7))), ((Aa 8), .inl (tc 0, 6, .inl (Af 8)))] H := hP₀
                          replace hD : va_D A [((Ga 0), .inr (11, [.ref (Ta 0), .ref (Ga 2), .ref (Ga 3), .ref (Ga 4), .int (Gv 0), .ref (Sa 0), .ref (Aa 0), .ref (Pa 0), .ref (Ga 8), .ref (Ga 9), .ref (Ga 10), .ref (Ga 11)])), ((Ta 0), .inr (10, [.ref (Ta 1), .int (Tv 0), .int (Tv 1), .int (Tv 2), .int (Tv 3), .int (Tv 4)])), ((Ta 1), .inl (tc 0, 400, .inl (Tf 1))), ((Sa 0), .inr (8, [.ref (Aa 0), .ref (Sa 2), .ref (Na 0), .int (Sv 0), .int (Sv 1)])), ((Na 0), .inr (3, [.ref (Na 1), .ref (Na 2), .ref (Na 3), .int (Nv 0)])), ((Na 1), .inl (tc 0, 10, .inl (Nf 1))), ((Na 2), .inl (tc 0, 10, .inl (Nf 2))), ((Na 3), .inl (tc 0, 10, .inl (Nf 3))), ((Pa 0), .inr (5, [.ref (Pa 1), .int (Pv 0), .int (Pv 1)])), ((Pa 1), .inl (tc 5, 20, .inr (.inr (.inr (.inr (Pq 1)))))), ((Aa 0), .inr (9, [.int (Av 0), .int (Av 1), .int (Av 2), .int (Av 3), .int (Av 4), .int (Av 5), .ref (Aa 1), .ref (Aa 2), .ref (Aa 3), .ref (Aa 4), .ref (Aa 5), .ref (Aa 6), .ref (Aa 7), .ref (Aa 8)])), ((Aa 1), .inl (tc 0, 10, .inl (Af 1))), ((Aa 2), .inl (tc 0, 10, .inl (Af 2))), ((Aa 3), .inl (tc 0, 6, .inl (Af 3))), ((Aa 4), .inl (tc 0, 6, .inl (Af 4))), ((Aa 5), .inl (tc 0, 6, .inl (Af 5))), ((Aa 6), .inl (tc 0, 6, .inl (Af 6))), ((Aa 7), .inl (tc 0, 6, .inl (Af 7))), ((Aa 8), .inl (tc 0, 6, .inl (Af 8)))] := hD₀
                          replace hS := hS₀
                          clear hP₀ hD₀ hS₀
                          exact retI (v := r_32) hx hb hr hlk (rfl) hP hD hS () ⟨_, rfl, trivial⟩ [0, 1, 2, 3, 10, 11, 12, 13, 14, 15, 16, 17, 18, 4, 5, 6, 7, 8, 9] rfl rfl dX11_count_186 (Nat.le_of_ble_eq_true rfl) (Nat.le_of_ble_eq_true rfl) rfl
                        · skip
                          by_cases c_34 : x_1 = 12
                          · skip
                            subst c_34
                            refine lv_tableIn (off := 186) (tgt := 187) hx hb dX11_count_1 (by decide) (by decide) (by decide) (by decide) ?_
                            refine lv_aload_n hx hb dX11_count_187 rfl (lv_at hl 0 rfl) ?_
                            refine gf_X11_43 hx hb hts hown hK hP 0 rfl rfl dX11_count_188 ?_
                            refine gf_X11_111 hx hb hts hown hK hP 3 rfl rfl dX11_count_191 ?_
                            refine gf_X11_115 hx hb hts hown hK hP 13 rfl rfl dX11_count_194 ?_
                            exact retI (v := (Nv 0)) hx hb hr hlk (rfl) hP hD hS () ⟨_, rfl, trivial⟩ [0, 1, 2, 3, 4, 5, 6, 7, 8, 9, 10, 11, 12, 13, 14, 15, 16, 17, 18] rfl rfl dX11_count_197 (Nat.le_of_ble_eq_true rfl) (Nat.le_of_ble_eq_true rfl) rfl
                          · skip
                            by_cases c_35 : x_1 = 13
                            · skip
                              subst c_35
                              refine lv_tableIn (off := 197) (tgt := 198) hx hb dX11_count_1 (by decide) (by decide) (by decide) (by decide) ?_
                              refine lv_aload_n hx hb dX11_count_198 rfl (lv_at hl 0 rfl) ?_
                              refine gf_X11_57 hx hb hts hown hK hP 0 rfl rfl dX11_count_199 ?_
                              refine gf_X11_120 hx hb hts hown hK hP 17 rfl rfl dX11_count_202 ?_
                              exact retI (v := (Pv 1)) hx hb hr hlk (rfl) hP hD hS () ⟨_, rfl, trivial⟩ [0, 1, 2, 3, 4, 5, 6, 7, 8, 9, 10, 11, 12, 13, 14, 15, 16, 17, 18] rfl rfl dX11_count_205 (Nat.le_of_ble_eq_true rfl) (Nat.le_of_ble_eq_true rfl) rfl
                            · skip
                              by_cases c_36 : x_1 = 14
                              · skip
                                subst c_36
                                refine lv_tableIn (off := 205) (tgt := 206) hx hb dX11_count_1 (by decide) (by decide) (by decide) (by decide) ?_
                                refine lv_aload_n hx hb dX11_count_206 rfl (lv_at hl 0 rfl) ?_
                                refine gf_X11_43 hx hb hts hown hK hP 0 rfl rfl dX11_count_207 ?_
                                refine gf_X11_272 hx hb hts hown hK hP 3 rfl rfl dX11_count_210 ?_
                                exact retI (v := (Sv 1)) hx hb hr hlk (rfl) hP hD hS () ⟨_, rfl, trivial⟩ [0, 1, 2, 3, 4, 5, 6, 7, 8, 9, 10, 11, 12, 13, 14, 15, 16, 17, 18] rfl rfl dX11_count_213 (Nat.le_of_ble_eq_true rfl) (Nat.le_of_ble_eq_true rfl) rfl
                              · skip
                                by_cases c_37 : x_1 = 15
                                · skip
                                  subst c_37
                                  refine lv_tableIn (off := 213) (tgt := 214) hx hb dX11_count_1 (by decide) (by decide) (by decide) (by decide) ?_
                                  refine lv_aload_n hx hb dX11_count_214 rfl (lv_at hl 0 rfl) ?_
                                  refine gf_X11_10 hx hb hts hown hK hP 0 rfl rfl dX11_count_215 ?_
                                  refine gf_X11_94 hx hb hts hown hK hP 1 rfl rfl dX11_count_218 ?_
                                  exact retI (v := (Tv 0)) hx hb hr hlk (rfl) hP hD hS () ⟨_, rfl, trivial⟩ [0, 1, 2, 3, 4, 5, 6, 7, 8, 9, 10, 11, 12, 13, 14, 15, 16, 17, 18] rfl rfl dX11_count_221 (Nat.le_of_ble_eq_true rfl) (Nat.le_of_ble_eq_true rfl) rfl
                                · skip
                                  have ho_38 : (x_1 : Int32).toInt < 0 ∨ 15 < (x_1 : Int32).toInt := by
                                    have z_1 : ¬ (x_1 : Int32).toInt = (0 : Int32).toInt := fun z => c_2 (Int32.toInt_inj.mp z)
                                    have z_2 : ¬ (x_1 : Int32).toInt = (1 : Int32).toInt := fun z => c_3 (Int32.toInt_inj.mp z)
                                    have z_3 : ¬ (x_1 : Int32).toInt = (2 : Int32).toInt := fun z => c_4 (Int32.toInt_inj.mp z)
                                    have z_4 : ¬ (x_1 : Int32).toInt = (3 : Int32).toInt := fun z => c_5 (Int32.toInt_inj.mp z)
                                    have z_5 : ¬ (x_1 : Int32).toInt = (4 : Int32).toInt := fun z => c_6 (Int32.toInt_inj.mp z)
                                    have z_6 : ¬ (x_1 : Int32).toInt = (5 : Int32).toInt := fun z => c_7 (Int32.toInt_inj.mp z)
                                    have z_7 : ¬ (x_1 : Int32).toInt = (6 : Int32).toInt := fun z => c_8 (Int32.toInt_inj.mp z)
                                    have z_8 : ¬ (x_1 : Int32).toInt = (7 : Int32).toInt := fun z => c_14 (Int32.toInt_inj.mp z)
                                    have z_9 : ¬ (x_1 : Int32).toInt = (8 : Int32).toInt := fun z => c_15 (Int32.toInt_inj.mp z)
                                    have z_10 : ¬ (x_1 : Int32).toInt = (9 : Int32).toInt := fun z => c_21 (Int32.toInt_inj.mp z)
                                    have z_11 : ¬ (x_1 : Int32).toInt = (10 : Int32).toInt := fun z => c_22 (Int32.toInt_inj.mp z)
                                    have z_12 : ¬ (x_1 : Int32).toInt = (11 : Int32).toInt := fun z => c_28 (Int32.toInt_inj.mp z)
                                    have z_13 : ¬ (x_1 : Int32).toInt = (12 : Int32).toInt := fun z => c_34 (Int32.toInt_inj.mp z)
                                    have z_14 : ¬ (x_1 : Int32).toInt = (13 : Int32).toInt := fun z => c_35 (Int32.toInt_inj.mp z)
                                    have z_15 : ¬ (x_1 : Int32).toInt = (14 : Int32).toInt := fun z => c_36 (Int32.toInt_inj.mp z)
                                    have z_16 : ¬ (x_1 : Int32).toInt = (15 : Int32).toInt := fun z => c_37 (Int32.toInt_inj.mp z)
                                    have y_0 : (0 : Int32).toInt = 0 := by decide
                                    have y_1 : (1 : Int32).toInt = 1 := by decide
                                    have y_2 : (2 : Int32).toInt = 2 := by decide
                                    have y_3 : (3 : Int32).toInt = 3 := by decide
                                    have y_4 : (4 : Int32).toInt = 4 := by decide
                                    have y_5 : (5 : Int32).toInt = 5 := by decide
                                    have y_6 : (6 : Int32).toInt = 6 := by decide
                                    have y_7 : (7 : Int32).toInt = 7 := by decide
                                    have y_8 : (8 : Int32).toInt = 8 := by decide
                                    have y_9 : (9 : Int32).toInt = 9 := by decide
                                    have y_10 : (10 : Int32).toInt = 10 := by decide
                                    have y_11 : (11 : Int32).toInt = 11 := by decide
                                    have y_12 : (12 : Int32).toInt = 12 := by decide
                                    have y_13 : (13 : Int32).toInt = 13 := by decide
                                    have y_14 : (14 : Int32).toInt = 14 := by decide
                                    have y_15 : (15 : Int32).toInt = 15 := by decide
                                    omega
                                  refine lv_tableOut (tgt := 222) hx hb dX11_count_1 ho_38 (by decide) ?_
                                  refine lv_iconst (v := (-1)) hx hb dX11_count_222 (by decide) ?_
                                  exact retI (v := (-1)) hx hb hr hlk (rfl) hP hD hS () ⟨_, rfl, trivial⟩ [0, 1, 2, 3, 4, 5, 6, 7, 8, 9, 10, 11, 12, 13, 14, 15, 16, 17, 18] rfl rfl dX11_count_223 (Nat.le_of_ble_eq_true rfl) (Nat.le_of_ble_eq_true rfl) rfl
set_option maxHeartbeats 4000000 in
set_option maxRecDepth 100000 in
theorem ct_X11_undo_n (l : Launch) (D : va_G) (tc : Nat → ClassId) (sk : (Nat → Nat) × (Nat → Nat)) (Ga : Nat → Nat) (Gv : Nat → Int32) (Aa : Nat → Nat) (Av : Nat → Int32) (Af : Nat → Nat → Int32) (Pa : Nat → Nat) (Pv : Nat → Int32) (Pq : Nat → Nat → Option Nat) (h_nx : 0 ≤ ((Pv 0) : Int32).toInt ∧ ((Pv 0) : Int32).toInt < 20) (h_q : ∀ j : Int32, j.toInt = ((Pv 0).toInt + 19) % 20 → (Pq 1) j.toNatClampNeg = none) (h_bA : 0 ≤ ((Av 3) : Int32).toInt ∧ ((Av 3) : Int32).toInt ≤ 6) : Ct l yX11_undo cX11_undo 1 (some .int) { frames := 1, cells := 0, slots := 0, locals := 23 } D tc sk [.ref (Ga 0)] [((Ga 0), .inr (11, [.ref (Ga 1), .ref (Ga 2), .ref (Ga 3), .ref (Ga 4), .int (Gv 0), .ref (Ga 5), .ref (Aa 0), .ref (Pa 0), .ref (Ga 8), .ref (Ga 9), .ref (Ga 10), .ref (Ga 11)])), ((Aa 0), .inr (9, [.int (Av 0), .int (Av 1), .int (Av 2), .int (Av 3), .int (Av 4), .int (Av 5), .ref (Aa 1), .ref (Aa 2), .ref (Aa 3), .ref (Aa 4), .ref (Aa 5), .ref (Aa 6), .ref (Aa 7), .ref (Aa 8)])), ((Aa 1), .inl (tc 0, 10, .inl (Af 1))), ((Aa 2), .inl (tc 0, 10, .inl (Af 2))), ((Aa 3), .inl (tc 0, 6, .inl (Af 3))), ((Aa 4), .inl (tc 0, 6, .inl (Af 4))), ((Aa 5), .inl (tc 0, 6, .inl (Af 5))), ((Aa 6), .inl (tc 0, 6, .inl (Af 6))), ((Aa 7), .inl (tc 0, 6, .inl (Af 7))), ((Aa 8), .inl (tc 0, 6, .inl (Af 8))), ((Pa 0), .inr (5, [.ref (Pa 1), .int (Pv 0), .int (Pv 1)])), ((Pa 1), .inl (tc 5, 20, .inr (.inr (.inr (.inr (Pq 1))))))] (fun (v : Option Value) (_ : Unit) => ∃ r : Int32, v = some (.int r) ∧ (True) ∧ (0 ≤ ((Pv 0) : Int32).toInt ∧ ((Pv 0) : Int32).toInt < 20) ∧ (0 ≤ ((Av 3) : Int32).toInt ∧ ((Av 3) : Int32).toInt ≤ 6)) (fun (_ : Unit) => [((Ga 0), .inr (11, [.ref (Ga 1), .ref (Ga 2), .ref (Ga 3), .ref (Ga 4), .int (Gv 0), .ref (Ga 5), .ref (Aa 0), .ref (Pa 0), .ref (Ga 8), .ref (Ga 9), .ref (Ga 10), .ref (Ga 11)])), ((Aa 0), .inr (9, [.int (Av 0), .int (Av 1), .int (Av 2), .int (Av 3), .int (Av 4), .int (Av 5), .ref (Aa 1), .ref (Aa 2), .ref (Aa 3), .ref (Aa 4), .ref (Aa 5), .ref (Aa 6), .ref (Aa 7), .ref (Aa 8)])), ((Aa 1), .inl (tc 0, 10, .inl (Af 1))), ((Aa 2), .inl (tc 0, 10, .inl (Af 2))), ((Aa 3), .inl (tc 0, 6, .inl (Af 3))), ((Aa 4), .inl (tc 0, 6, .inl (Af 4))), ((Aa 5), .inl (tc 0, 6, .inl (Af 5))), ((Aa 6), .inl (tc 0, 6, .inl (Af 6))), ((Aa 7), .inl (tc 0, 6, .inl (Af 7))), ((Aa 8), .inl (tc 0, 6, .inl (Af 8))), ((Pa 0), .inr (5, [.ref (Pa 1), .int (Pv 0), .int (Pv 1)])), ((Pa 1), .inl (tc 5, 20, .inr (.inr (.inr (.inr (Pq 1))))))]) 0 0 := by
  refine Ct.start (by decide) (Nat.le_of_ble_eq_true rfl) (fun p e s m below meth c A ls hx hb hr hlk hin hml hown hts hK hX hP hD hA hl hS => ?_)
  have hl : lv_has ls 1 [(0, .ref (Ga 0))] := hl
  refine lv_aload_n hx hb dX11_undo_0 rfl (lv_at hl 0 rfl) ?_
  refine gf_X11_57 hx hb hts hown hK hP 0 rfl rfl dX11_undo_1 ?_
  refine lv_aload_n hx hb dX11_undo_4 rfl (lv_at hl 0 rfl) ?_
  refine gf_X11_51 hx hb hts hown hK hP 0 rfl rfl dX11_undo_5 ?_
  refine cV (a := (Pa 0)) (As := [.ref (Aa 0)]) (rest := []) (wr := [((Ga 0), .inr (11, [.ref (Ga 1), .ref (Ga 2), .ref (Ga 3), .ref (Ga 4), .int (Gv 0), .ref (Ga 5), .ref (Aa 0), .ref (Pa 0), .ref (Ga 8), .ref (Ga 9), .ref (Ga 10), .ref (Ga 11)]))]) ⟨hx, hb, hml, hown, hts⟩ hK hX hA (cu_X5_giveBack_n_b l D tc sk (Pa 0) (Pa 1) (Pv 0) (Pv 1) (Pq 1) (Aa 0) (Aa 1) (Aa 2) (Aa 3) (Aa 4) (Aa 5) (Aa 6) (Aa 7) (Aa 8) (Av 0) (Av 1) (Av 2) (Av 3) (Av 4) (Av 5) (Af 1) (Af 2) (Af 3) (Af 4) (Af 5) (Af 6) (Af 7) (Af 8) h_nx h_q h_bA) k_805 k_802 k_803 k_804 k_102 pl_X5_giveBack ⟨Nat.le_of_ble_eq_true rfl, Nat.le_of_ble_eq_true rfl⟩ rfl rfl (va_recv hK hP (ci := 5) (q0 := 10) rfl rfl) hP hD hS [10, 11, 1, 2, 3, 4, 5, 6, 7, 8, 9] [0] rfl rfl rfl rfl rfl (by decide) rfl hl.1 rfl (Nat.le_of_ble_eq_true rfl) dX11_undo_8 ⟨Nat.le_of_ble_eq_true rfl, Nat.le_of_ble_eq_true rfl⟩ (fun v_1 u_2 H locs hv_3 hP₀ hD₀ hS₀ => ?_)
  obtain ⟨r_6, rfl, he_7, pf_4, pf_5⟩ := hv_3
  have pf_4 : 0 ≤ ((Pv 0) : Int32).toInt ∧ ((Pv 0) : Int32).toInt < 20 := pf_4
  have pf_5 : 0 ≤ ((Av 3) : Int32).toInt ∧ ((Av 3) : Int32).toInt ≤ 6 := pf_5
  refine W.eq (g2 := F0 m 11 ls [.int r_6]) rfl ?_
  replace hP : va_P D classes [((Ga 0), .inr (11, [.ref (Ga 1), .ref (Ga 2), .ref (Ga 3), .ref (Ga 4), .int (Gv 0), .ref (Ga 5), .ref (Aa 0), .ref (Pa 0), .ref (Ga 8), .ref (Ga 9), .ref (Ga 10), .ref (Ga 11)])), ((Pa 0), .inr (5, [.ref (Pa 1), .int (Pv 0), .int (Pv 1)])), ((Pa 1), .inl (tc 5, 20, .inr (.inr (.inr (.inr (Pq 1)))))), ((Aa 0), .inr (9, [.int (Av 0), .int (Av 1), .int (Av 2), .int (Av 3), .int (Av 4), .int (Av 5), .ref (Aa 1), .ref (Aa 2), .ref (Aa 3), .ref (Aa 4), .ref (Aa 5), .ref (Aa 6), .ref (Aa 7), .ref (Aa 8)])), ((Aa 1), .inl (tc 0, 10, .inl (Af 1))), ((Aa 2), .inl (tc 0, 10, .inl (Af 2))), ((Aa 3), .inl (tc 0, 6, .inl (Af 3))), ((Aa 4), .inl (tc 0, 6, .inl (Af 4))), ((Aa 5), .inl (tc 0, 6, .inl (Af 5))), ((Aa 6), .inl (tc 0, 6, .inl (Af 6))), ((Aa 7), .inl (tc 0, 6, .inl (Af 7))), ((Aa 8), .inl (tc 0, 6, .inl (Af 8)))] H := hP₀
  replace hD : va_D A [((Ga 0), .inr (11, [.ref (Ga 1), .ref (Ga 2), .ref (Ga 3), .ref (Ga 4), .int (Gv 0), .ref (Ga 5), .ref (Aa 0), .ref (Pa 0), .ref (Ga 8), .ref (Ga 9), .ref (Ga 10), .ref (Ga 11)])), ((Pa 0), .inr (5, [.ref (Pa 1), .int (Pv 0), .int (Pv 1)])), ((Pa 1), .inl (tc 5, 20, .inr (.inr (.inr (.inr (Pq 1)))))), ((Aa 0), .inr (9, [.int (Av 0), .int (Av 1), .int (Av 2), .int (Av 3), .int (Av 4), .int (Av 5), .ref (Aa 1), .ref (Aa 2), .ref (Aa 3), .ref (Aa 4), .ref (Aa 5), .ref (Aa 6), .ref (Aa 7), .ref (Aa 8)])), ((Aa 1), .inl (tc 0, 10, .inl (Af 1))), ((Aa 2), .inl (tc 0, 10, .inl (Af 2))), ((Aa 3), .inl (tc 0, 6, .inl (Af 3))), ((Aa 4), .inl (tc 0, 6, .inl (Af 4))), ((Aa 5), .inl (tc 0, 6, .inl (Af 5))), ((Aa 6), .inl (tc 0, 6, .inl (Af 6))), ((Aa 7), .inl (tc 0, 6, .inl (Af 7))), ((Aa 8), .inl (tc 0, 6, .inl (Af 8)))] := hD₀
  replace hS := hS₀
  clear hP₀ hD₀ hS₀
  exact retI (v := r_6) hx hb hr hlk (rfl) hP hD hS () ⟨_, rfl, trivial, pf_4, pf_5⟩ [0, 3, 4, 5, 6, 7, 8, 9, 10, 11, 1, 2] rfl rfl dX11_undo_11 (Nat.le_of_ble_eq_true rfl) (Nat.le_of_ble_eq_true rfl) rfl
