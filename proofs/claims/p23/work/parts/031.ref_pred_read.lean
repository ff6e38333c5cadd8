set_option maxRecDepth 16384
set_option maxHeartbeats 4000000 in
set_option maxRecDepth 100000 in
theorem ct_X12_count {T : Nat → Option Int32} (l : Launch) (D : va_G) (tc : Nat → ClassId) (sk : (Nat → Nat) × (Nat → Nat)) (Ma : Nat → Nat) (Mv : Nat → Int32) (Mf : Nat → Nat → Int32) (Mj : Nat → Int64) (x1 : Int32) (h_said : SaidD T (Mf 10) 999) : Ct l yX12_count cX12_count 4 (some .int) { frames := 2, cells := 0, slots := 0, locals := 43 } D tc sk [.ref (Ma 0), .int x1] [((Ma 0), .inr (12, [.ref (Ma 1), .int (Mv 0), .int (Mv 1), .ref (Ma 2), .ref (Ma 3), .ref (Ma 4), .ref (Ma 5), .ref (Ma 6), .int (Mv 2), .int (Mv 3), .int (Mv 4), .int (Mv 5), .int (Mv 6), .int (Mv 7), .int (Mv 8), .ref (Ma 7), .int (Mv 9), .ref (Ma 8), .int (Mv 10), .ref (Ma 9), .ref (Ma 10), .int (Mv 11), .int (Mv 12), .int (Mv 13), .ref (Ma 11), .int (Mv 14), .ref (Ma 12), .ref (Ma 13), .ref (Ma 14), .ref (Ma 15), .ref (Ma 16), .long (Mj 0), .ref (Ma 17), .ref (Ma 18), .ref (Ma 19), .ref (Ma 20)])), ((Ma 10), .inl (tc 0, 126, .inl (Mf 10)))] (fun (v : Option Value) (_ : Unit) => ∃ r : Int32, v = some (.int r) ∧ (True)) (fun (_ : Unit) => [((Ma 0), .inr (12, [.ref (Ma 1), .int (Mv 0), .int (Mv 1), .ref (Ma 2), .ref (Ma 3), .ref (Ma 4), .ref (Ma 5), .ref (Ma 6), .int (Mv 2), .int (Mv 3), .int (Mv 4), .int (Mv 5), .int (Mv 6), .int (Mv 7), .int (Mv 8), .ref (Ma 7), .int (Mv 9), .ref (Ma 8), .int (Mv 10), .ref (Ma 9), .ref (Ma 10), .int (Mv 11), .int (Mv 12), .int (Mv 13), .ref (Ma 11), .int (Mv 14), .ref (Ma 12), .ref (Ma 13), .ref (Ma 14), .ref (Ma 15), .ref (Ma 16), .long (Mj 0), .ref (Ma 17), .ref (Ma 18), .ref (Ma 19), .ref (Ma 20)])), ((Ma 10), .inl (tc 0, 126, .inl (Mf 10)))]) 0 0 := by
  refine Ct.start (by decide) (Nat.le_of_ble_eq_true rfl) (fun p e s m below meth c A ls hx hb hr hlk hin hml hown hts hK hX hP hD hA hl hS => ?_)
  have hl : lv_has ls 4 [(0, .ref (Ma 0)), (1, .int x1)] := hl
  have ar_h_said := SaidD.al h_said
  refine lv_iconst (v := 0) hx hb dX12_count_0 (by decide) ?_
  refine lv_istore_n (lv' := [(2, .int 0), (0, .ref (Ma 0)), (1, .int x1)]) hx hb dX12_count_1 rfl hl (by decide) rfl (fun ls hl₀ => ?_)
  replace hl := hl₀
  clear hl₀
  refine lv_iload_n hx hb dX12_count_2 rfl (lv_at hl 2 rfl) ?_
  refine lv_topi (fun x_1 ex_1 => ?_)
  by_cases c_2 : x_1 = 0
  · skip
    subst c_2
    have sw_c_2 := congrArg Int32.toInt ex_1
    have swy_c_2 : (0 : Int32).toInt = 0 := by decide
    refine lv_tableIn (off := 77) (tgt := 80) hx hb dX12_count_3 (by decide) (by decide) (by decide) (by decide) ?_
    refine lv_aload_n hx hb dX12_count_80 rfl (lv_at hl 1 rfl) ?_
    refine gf_X12_39 hx hb hts hown hK hP 0 rfl rfl dX12_count_81 ?_
    refine lv_iload_n hx hb dX12_count_84 rfl (lv_at hl 2 rfl) ?_
    refine lv_iconst (v := 1) hx hb dX12_count_85 (by decide) ?_
    refine lv_iadd hx hb dX12_count_86 ?_
    refine lv_topi (fun x_3 ex_3 => ?_)
    have hi_4 : vp_in x_3 126 := by
      have y_1 : (1 : Int32).toInt = 1 := by decide
      have t_x_3 : x_3.toInt = (x1 : Int32).toInt + (1 : Int32).toInt := by rw [ex_3]; exact add_toInt (by omega) (by omega)
      refine vp_in_iff.mpr ⟨?_, ?_⟩ <;> omega
    refine va_iald hx hb hK hP 1 0 rfl rfl hi_4 dX12_count_87 ?_
    refine lv_topi (fun x_5 ex_5 => ?_)
    exact retI (v := x_5) hx hb hr hlk (rfl) hP hD hS () ⟨_, rfl, trivial⟩ [0, 1] rfl rfl dX12_count_88 (Nat.le_of_ble_eq_true rfl) (Nat.le_of_ble_eq_true rfl) rfl
  · skip
    by_cases c_6 : x_1 = 1
    · skip
      subst c_6
      have sw_c_6 := congrArg Int32.toInt ex_1
      have swy_c_6 : (1 : Int32).toInt = 1 := by decide
      refine lv_tableIn (off := 77) (tgt := 80) hx hb dX12_count_3 (by decide) (by decide) (by decide) (by decide) ?_
      refine lv_aload_n hx hb dX12_count_80 rfl (lv_at hl 1 rfl) ?_
      refine gf_X12_39 hx hb hts hown hK hP 0 rfl rfl dX12_count_81 ?_
      refine lv_iload_n hx hb dX12_count_84 rfl (lv_at hl 2 rfl) ?_
      refine lv_iconst (v := 1) hx hb dX12_count_85 (by decide) ?_
      refine lv_iadd hx hb dX12_count_86 ?_
      refine lv_topi (fun x_7 ex_7 => ?_)
      have hi_8 : vp_in x_7 126 := by
        have y_1 : (1 : Int32).toInt = 1 := by decide
        have t_x_7 : x_7.toInt = (x1 : Int32).toInt + (1 : Int32).toInt := by rw [ex_7]; exact add_toInt (by omega) (by omega)
        refine vp_in_iff.mpr ⟨?_, ?_⟩ <;> omega
      refine va_iald hx hb hK hP 1 0 rfl rfl hi_8 dX12_count_87 ?_
      refine lv_topi (fun x_9 ex_9 => ?_)
      exact retI (v := x_9) hx hb hr hlk (rfl) hP hD hS () ⟨_, rfl, trivial⟩ [0, 1] rfl rfl dX12_count_88 (Nat.le_of_ble_eq_true rfl) (Nat.le_of_ble_eq_true rfl) rfl
    · skip
      by_cases c_10 : x_1 = 2
      · skip
        subst c_10
        have sw_c_10 := congrArg Int32.toInt ex_1
        have swy_c_10 : (2 : Int32).toInt = 2 := by decide
        refine lv_tableIn (off := 77) (tgt := 80) hx hb dX12_count_3 (by decide) (by decide) (by decide) (by decide) ?_
        refine lv_aload_n hx hb dX12_count_80 rfl (lv_at hl 1 rfl) ?_
        refine gf_X12_39 hx hb hts hown hK hP 0 rfl rfl dX12_count_81 ?_
        refine lv_iload_n hx hb dX12_count_84 rfl (lv_at hl 2 rfl) ?_
        refine lv_iconst (v := 1) hx hb dX12_count_85 (by decide) ?_
        refine lv_iadd hx hb dX12_count_86 ?_
        refine lv_topi (fun x_11 ex_11 => ?_)
        have hi_12 : vp_in x_11 126 := by
          have y_1 : (1 : Int32).toInt = 1 := by decide
          have t_x_11 : x_11.toInt = (x1 : Int32).toInt + (1 : Int32).toInt := by rw [ex_11]; exact add_toInt (by omega) (by omega)
          refine vp_in_iff.mpr ⟨?_, ?_⟩ <;> omega
        refine va_iald hx hb hK hP 1 0 rfl rfl hi_12 dX12_count_87 ?_
        refine lv_topi (fun x_13 ex_13 => ?_)
        exact retI (v := x_13) hx hb hr hlk (rfl) hP hD hS () ⟨_, rfl, trivial⟩ [0, 1] rfl rfl dX12_count_88 (Nat.le_of_ble_eq_true rfl) (Nat.le_of_ble_eq_true rfl) rfl
      · skip
        by_cases c_14 : x_1 = 3
        · skip
          subst c_14
          have sw_c_14 := congrArg Int32.toInt ex_1
          have swy_c_14 : (3 : Int32).toInt = 3 := by decide
          refine lv_tableIn (off := 86) (tgt := 89) hx hb dX12_count_3 (by decide) (by decide) (by decide) (by decide) ?_
          refine lv_aload_n hx hb dX12_count_89 rfl (lv_at hl 1 rfl) ?_
          refine gf_X12_256 hx hb hts hown hK hP 0 rfl rfl dX12_count_90 ?_
          exact retI (v := (Mv 1)) hx hb hr hlk (rfl) hP hD hS () ⟨_, rfl, trivial⟩ [0, 1] rfl rfl dX12_count_93 (Nat.le_of_ble_eq_true rfl) (Nat.le_of_ble_eq_true rfl) rfl
        · skip
          by_cases c_15 : x_1 = 4
          · skip
            subst c_15
            have sw_c_15 := congrArg Int32.toInt ex_1
            have swy_c_15 : (4 : Int32).toInt = 4 := by decide
            refine lv_tableIn (off := 91) (tgt := 94) hx hb dX12_count_3 (by decide) (by decide) (by decide) (by decide) ?_
            refine lv_aload_n hx hb dX12_count_94 rfl (lv_at hl 1 rfl) ?_
            refine gf_X12_42 hx hb hts hown hK hP 0 rfl rfl dX12_count_95 ?_
            exact retI (v := (Mv 11)) hx hb hr hlk (rfl) hP hD hS () ⟨_, rfl, trivial⟩ [0, 1] rfl rfl dX12_count_98 (Nat.le_of_ble_eq_true rfl) (Nat.le_of_ble_eq_true rfl) rfl
          · skip
            by_cases c_16 : x_1 = 5
            · skip
              subst c_16
              have sw_c_16 := congrArg Int32.toInt ex_1
              have swy_c_16 : (5 : Int32).toInt = 5 := by decide
              refine lv_tableIn (off := 96) (tgt := 99) hx hb dX12_count_3 (by decide) (by decide) (by decide) (by decide) ?_
              refine lv_aload_n hx hb dX12_count_99 rfl (lv_at hl 1 rfl) ?_
              refine gf_X12_39 hx hb hts hown hK hP 0 rfl rfl dX12_count_100 ?_
              refine lv_bipush (v := 10) hx hb dX12_count_103 (by decide) ?_
              refine va_iald hx hb hK hP 1 0 rfl rfl (vin_dec (by decide +kernel)) dX12_count_105 ?_
              refine lv_topi (fun x_17 ex_17 => ?_)
              have lx_17 : x_17.toInt = ((Mf 10) 10).toInt := congrArg Int32.toInt ex_17
              exact retI (v := x_17) hx hb hr hlk (rfl) hP hD hS () ⟨_, rfl, trivial⟩ [0, 1] rfl rfl dX12_count_106 (Nat.le_of_ble_eq_true rfl) (Nat.le_of_ble_eq_true rfl) rfl
            · skip
              by_cases c_18 : x_1 = 6
              · skip
                subst c_18
                have sw_c_18 := congrArg Int32.toInt ex_1
                have swy_c_18 : (6 : Int32).toInt = 6 := by decide
                refine lv_tableIn (off := 104) (tgt := 107) hx hb dX12_count_3 (by decide) (by decide) (by decide) (by decide) ?_
                refine lv_aload_n hx hb dX12_count_107 rfl (lv_at hl 1 rfl) ?_
                refine cV (a := (Ma 0)) (As := []) (rest := []) (wr := []) ⟨hx, hb, hml, hown, hts⟩ hK hX hA (cu_X12_clock l D tc sk (Ma 0) (Ma 1) (Ma 2) (Ma 3) (Ma 4) (Ma 5) (Ma 6) (Ma 7) (Ma 8) (Ma 9) (Ma 10) (Ma 11) (Ma 12) (Ma 13) (Ma 14) (Ma 15) (Ma 16) (Ma 17) (Ma 18) (Ma 19) (Ma 20) (Mv 0) (Mv 1) (Mv 2) (Mv 3) (Mv 4) (Mv 5) (Mv 6) (Mv 7) (Mv 8) (Mv 9) (Mv 10) (Mv 11) (Mv 12) (Mv 13) (Mv 14) (Mf 10) (Mj 0) 999 h_said) k_1435 k_1432 k_1434 k_70 k_106 pl_X12_clock ⟨Nat.le_of_ble_eq_true rfl, Nat.le_of_ble_eq_true rfl⟩ rfl rfl (va_recv hK hP (ci := 12) (q0 := 0) rfl rfl) hP hD hS [0, 1] [] rfl rfl rfl rfl rfl (by decide) rfl hl.1 rfl (Nat.le_of_ble_eq_true rfl) dX12_count_108 ⟨Nat.le_of_ble_eq_true rfl, Nat.le_of_ble_eq_true rfl⟩ (fun v_19 u_20 H locs hv_21 hP₀ hD₀ hS₀ => ?_)
                obtain ⟨r_22, rfl, he_23⟩ := hv_21
                have he_23 : (0 ≤ r_22.toInt ∧ r_22.toInt < 10) := he_23
                refine W.eq (g2 := F0 m 111 ls [.int r_22]) rfl ?_
                replace hP : va_P D classes [((Ma 0), .inr (12, [.ref (Ma 1), .int (Mv 0), .int (Mv 1), .ref (Ma 2), .ref (Ma 3), .ref (Ma 4), .ref (Ma 5), .ref (Ma 6), .int (Mv 2), .int (Mv 3), .int (Mv 4), .int (Mv 5), .int (Mv 6), .int (Mv 7), .int (Mv 8), .ref (Ma 7), .int (Mv 9), .ref (Ma 8), .int (Mv 10), .ref (Ma 9), .ref (Ma 10), .int (Mv 11), .int (Mv 12), .int (Mv 13), .ref (Ma 11), .int (Mv 14), .ref (Ma 12), .ref (Ma 13), .ref (Ma 14), .ref (Ma 15), .ref (Ma 16), .long (Mj 0), .ref (Ma 17), .ref (Ma 18), .ref (Ma 19), .ref (Ma 20)])), ((Ma 10), .inl (tc 0, 126, .inl (Mf 10)))] H := hP₀
                replace hD : va_D A [((Ma 0), .inr (12, [.ref (Ma 1), .int (Mv 0), .int (Mv 1), .ref (Ma 2), .ref (Ma 3), .ref (Ma 4), .ref (Ma 5), .ref (Ma 6), .int (Mv 2), .int (Mv 3), .int (Mv 4), .int (Mv 5), .int (Mv 6), .int (Mv 7), .int (Mv 8), .ref (Ma 7), .int (Mv 9), .ref (Ma 8), .int (Mv 10), .ref (Ma 9), .ref (Ma 10), .int (Mv 11), .int (Mv 12), .int (Mv 13), .ref (Ma 11), .int (Mv 14), .ref (Ma 12), .ref (Ma 13), .ref (Ma 14), .ref (Ma 15), .ref (Ma 16), .long (Mj 0), .ref (Ma 17), .ref (Ma 18), .ref (Ma 19), .ref (Ma 20)])), ((Ma 10), .inl (tc 0, 126, .inl (Mf 10)))] := hD₀
                replace hS := hS₀
                clear hP₀ hD₀ hS₀
                exact retI (v := r_22) hx hb hr hlk (rfl) hP hD hS () ⟨_, rfl, trivial⟩ [0, 1] rfl rfl dX12_count_111 (Nat.le_of_ble_eq_true rfl) (Nat.le_of_ble_eq_true rfl) rfl
              · skip
                by_cases c_25 : x_1 = 7
                · skip
                  subst c_25
                  have sw_c_25 := congrArg Int32.toInt ex_1
                  have swy_c_25 : (7 : Int32).toInt = 7 := by decide
                  refine lv_tableIn (off := 109) (tgt := 112) hx hb dX12_count_3 (by decide) (by decide) (by decide) (by decide) ?_
                  refine lv_aload_n hx hb dX12_count_112 rfl (lv_at hl 1 rfl) ?_
                  refine gf_X12_39 hx hb hts hown hK hP 0 rfl rfl dX12_count_113 ?_
                  refine lv_bipush (v := 11) hx hb dX12_count_116 (by decide) ?_
                  refine va_iald hx hb hK hP 1 0 rfl rfl (vin_dec (by decide +kernel)) dX12_count_118 ?_
                  refine lv_topi (fun x_26 ex_26 => ?_)
                  have lx_26 : x_26.toInt = ((Mf 10) 11).toInt := congrArg Int32.toInt ex_26
                  exact retI (v := x_26) hx hb hr hlk (rfl) hP hD hS () ⟨_, rfl, trivial⟩ [0, 1] rfl rfl dX12_count_119 (Nat.le_of_ble_eq_true rfl) (Nat.le_of_ble_eq_true rfl) rfl
                · skip
                  by_cases c_27 : x_1 = 8
                  · skip
                    subst c_27
                    have sw_c_27 := congrArg Int32.toInt ex_1
                    have swy_c_27 : (8 : Int32).toInt = 8 := by decide
                    refine lv_tableIn (off := 117) (tgt := 120) hx hb dX12_count_3 (by decide) (by decide) (by decide) (by decide) ?_
                    refine lv_aload_n hx hb dX12_count_120 rfl (lv_at hl 1 rfl) ?_
                    refine gf_X12_39 hx hb hts hown hK hP 0 rfl rfl dX12_count_121 ?_
                    refine lv_bipush (v := 36) hx hb dX12_count_124 (by decide) ?_
                    refine lv_aload_n hx hb dX12_count_126 rfl (lv_at hl 1 rfl) ?_
                    refine cV (a := (Ma 0)) (As := []) (rest := [.int 36, .ref (Ma 10)]) (wr := []) ⟨hx, hb, hml, hown, hts⟩ hK hX hA (cu_X12_clock l D tc sk (Ma 0) (Ma 1) (Ma 2) (Ma 3) (Ma 4) (Ma 5) (Ma 6) (Ma 7) (Ma 8) (Ma 9) (Ma 10) (Ma 11) (Ma 12) (Ma 13) (Ma 14) (Ma 15) (Ma 16) (Ma 17) (Ma 18) (Ma 19) (Ma 20) (Mv 0) (Mv 1) (Mv 2) (Mv 3) (Mv 4) (Mv 5) (Mv 6) (Mv 7) (Mv 8) (Mv 9) (Mv 10) (Mv 11) (Mv 12) (Mv 13) (Mv 14) (Mf 10) (Mj 0) 999 h_said) k_1435 k_1432 k_1434 k_70 k_106 pl_X12_clock ⟨Nat.le_of_ble_eq_true rfl, Nat.le_of_ble_eq_true rfl⟩ rfl rfl (va_recv hK hP (ci := 12) (q0 := 0) rfl rfl) hP hD hS [0, 1] [] rfl rfl rfl rfl rfl (by decide) rfl hl.1 rfl (Nat.le_of_ble_eq_true rfl) dX12_count_127 ⟨Nat.le_of_ble_eq_true rfl, Nat.le_of_ble_eq_true rfl⟩ (fun v_28 u_29 H locs hv_30 hP₀ hD₀ hS₀ => ?_)
                    obtain ⟨r_31, rfl, he_32⟩ := hv_30
                    have he_32 : (0 ≤ r_31.toInt ∧ r_31.toInt < 10) := he_32
                    refine W.eq (g2 := F0 m 130 ls [.int r_31, .int 36, .ref (Ma 10)]) rfl ?_
                    replace hP : va_P D classes [((Ma 0), .inr (12, [.ref (Ma 1), .int (Mv 0), .int (Mv 1), .ref (Ma 2), .ref (Ma 3), .ref (Ma 4), .ref (Ma 5), .ref (Ma 6), .int (Mv 2), .int (Mv 3), .int (Mv 4), .int (Mv 5), .int (Mv 6), .int (Mv 7), .int (Mv 8), .ref (Ma 7), .int (Mv 9), .ref (Ma 8), .int (Mv 10), .ref (Ma 9), .ref (Ma 10), .int (Mv 11), .int (Mv 12), .int (Mv 13), .ref (Ma 11), .int (Mv 14), .ref (Ma 12), .ref (Ma 13), .ref (Ma 14), .ref (Ma 15), .ref (Ma 16), .long (Mj 0), .ref (Ma 17), .ref (Ma 18), .ref (Ma 19), .ref (Ma 20)])), ((Ma 10), .inl (tc 0, 126, .inl (Mf 10)))] H := hP₀
                    replace hD : va_D A [((Ma 0), .inr (12, [.ref (Ma 1), .int (Mv 0), .int (Mv 1), .ref (Ma 2), .ref (Ma 3), .ref (Ma 4), .ref (Ma 5), .ref (Ma 6), .int (Mv 2), .int (Mv 3), .int (Mv 4), .int (Mv 5), .int (Mv 6), .int (Mv 7), .int (Mv 8), .ref (Ma 7), .int (Mv 9), .ref (Ma 8), .int (Mv 10), .ref (Ma 9), .ref (Ma 10), .int (Mv 11), .int (Mv 12), .int (Mv 13), .ref (Ma 11), .int (Mv 14), .ref (Ma 12), .ref (Ma 13), .ref (Ma 14), .ref (Ma 15), .ref (Ma 16), .long (Mj 0), .ref (Ma 17), .ref (Ma 18), .ref (Ma 19), .ref (Ma 20)])), ((Ma 10), .inl (tc 0, 126, .inl (Mf 10)))] := hD₀
                    replace hS := hS₀
                    clear hP₀ hD₀ hS₀
                    refine lv_iadd hx hb dX12_count_130 ?_
                    refine lv_topi (fun x_34 ex_34 => ?_)
                    have hi_35 : vp_in x_34 126 := by
                      have y_36 : (36 : Int32).toInt = 36 := by decide
                      have t_x_34 : x_34.toInt = (36 : Int32).toInt + (r_31 : Int32).toInt := by rw [ex_34]; exact add_toInt (by omega) (by omega)
                      refine vp_in_iff.mpr ⟨?_, ?_⟩ <;> omega
                    refine va_iald hx hb hK hP 1 0 rfl rfl hi_35 dX12_count_131 ?_
                    refine lv_topi (fun x_36 ex_36 => ?_)
                    exact retI (v := x_36) hx hb hr hlk (rfl) hP hD hS () ⟨_, rfl, trivial⟩ [0, 1] rfl rfl dX12_count_132 (Nat.le_of_ble_eq_true rfl) (Nat.le_of_ble_eq_true rfl) rfl
                  · skip
                    by_cases c_37 : x_1 = 9
                    · skip
                      subst c_37
                      have sw_c_37 := congrArg Int32.toInt ex_1
                      have swy_c_37 : (9 : Int32).toInt = 9 := by decide
                      refine lv_tableIn (off := 130) (tgt := 133) hx hb dX12_count_3 (by decide) (by decide) (by decide) (by decide) ?_
                      refine lv_aload_n hx hb dX12_count_133 rfl (lv_at hl 1 rfl) ?_
                      refine cV (a := (Ma 0)) (As := []) (rest := []) (wr := []) ⟨hx, hb, hml, hown, hts⟩ hK hX hA (cu_X12_soldAll l D tc sk (Ma 0) (Ma 1) (Ma 2) (Ma 3) (Ma 4) (Ma 5) (Ma 6) (Ma 7) (Ma 8) (Ma 9) (Ma 10) (Ma 11) (Ma 12) (Ma 13) (Ma 14) (Ma 15) (Ma 16) (Ma 17) (Ma 18) (Ma 19) (Ma 20) (Mv 0) (Mv 1) (Mv 2) (Mv 3) (Mv 4) (Mv 5) (Mv 6) (Mv 7) (Mv 8) (Mv 9) (Mv 10) (Mv 11) (Mv 12) (Mv 13) (Mv 14) (Mf 10) (Mj 0) h_said.1) k_1439 k_1436 k_1438 k_71 k_106 pl_X12_soldAll ⟨Nat.le_of_ble_eq_true rfl, Nat.le_of_ble_eq_true rfl⟩ rfl rfl (va_recv hK hP (ci := 12) (q0 := 0) rfl rfl) hP hD hS [0, 1] [] rfl rfl rfl rfl rfl (by decide) rfl hl.1 rfl (Nat.le_of_ble_eq_true rfl) dX12_count_134 ⟨Nat.le_of_ble_eq_true rfl, Nat.le_of_ble_eq_true rfl⟩ (fun v_38 u_39 H locs hv_40 hP₀ hD₀ hS₀ => ?_)
                      obtain ⟨r_41, rfl, he_42⟩ := hv_40
                      refine W.eq (g2 := F0 m 137 ls [.int r_41]) rfl ?_
                      replace hP : va_P D classes [((Ma 0), .inr (12, [.ref (Ma 1), .int (Mv 0), .int (Mv 1), .ref (Ma 2), .ref (Ma 3), .ref (Ma 4), .ref (Ma 5), .ref (Ma 6), .int (Mv 2), .int (Mv 3), .int (Mv 4), .int (Mv 5), .int (Mv 6), .int (Mv 7), .int (Mv 8), .ref (Ma 7), .int (Mv 9), .ref (Ma 8), .int (Mv 10), .ref (Ma 9), .ref (Ma 10), .int (Mv 11), .int (Mv 12), .int (Mv 13), .ref (Ma 11), .int (Mv 14), .ref (Ma 12), .ref (Ma 13), .ref (Ma 14), .ref (Ma 15), .ref (Ma 16), .long (Mj 0), .ref (Ma 17), .ref (Ma 18), .ref (Ma 19), .ref (Ma 20)])), ((Ma 10), .inl (tc 0, 126, .inl (Mf 10)))] H := hP₀
                      replace hD : va_D A [((Ma 0), .inr (12, [.ref (Ma 1), .int (Mv 0), .int (Mv 1), .ref (Ma 2), .ref (Ma 3), .ref (Ma 4), .ref (Ma 5), .ref (Ma 6), .int (Mv 2), .int (Mv 3), .int (Mv 4), .int (Mv 5), .int (Mv 6), .int (Mv 7), .int (Mv 8), .ref (Ma 7), .int (Mv 9), .ref (Ma 8), .int (Mv 10), .ref (Ma 9), .ref (Ma 10), .int (Mv 11), .int (Mv 12), .int (Mv 13), .ref (Ma 11), .int (Mv 14), .ref (Ma 12), .ref (Ma 13), .ref (Ma 14), .ref (Ma 15), .ref (Ma 16), .long (Mj 0), .ref (Ma 17), .ref (Ma 18), .ref (Ma 19), .ref (Ma 20)])), ((Ma 10), .inl (tc 0, 126, .inl (Mf 10)))] := hD₀
                      replace hS := hS₀
                      clear hP₀ hD₀ hS₀
                      exact retI (v := r_41) hx hb hr hlk (rfl) hP hD hS () ⟨_, rfl, trivial⟩ [0, 1] rfl rfl dX12_count_137 (Nat.le_of_ble_eq_true rfl) (Nat.le_of_ble_eq_true rfl) rfl
                    · skip
                      by_cases c_44 : x_1 = 10
                      · skip
                        subst c_44
                        have sw_c_44 := congrArg Int32.toInt ex_1
                        have swy_c_44 : (10 : Int32).toInt = 10 := by decide
                        refine lv_tableIn (off := 135) (tgt := 138) hx hb dX12_count_3 (by decide) (by decide) (by decide) (by decide) ?_
                        refine lv_aload_n hx hb dX12_count_138 rfl (lv_at hl 1 rfl) ?_
                        refine cV (a := (Ma 0)) (As := []) (rest := []) (wr := []) ⟨hx, hb, hml, hown, hts⟩ hK hX hA (cu_X12_metAll l D tc sk (Ma 0) (Ma 1) (Ma 2) (Ma 3) (Ma 4) (Ma 5) (Ma 6) (Ma 7) (Ma 8) (Ma 9) (Ma 10) (Ma 11) (Ma 12) (Ma 13) (Ma 14) (Ma 15) (Ma 16) (Ma 17) (Ma 18) (Ma 19) (Ma 20) (Mv 0) (Mv 1) (Mv 2) (Mv 3) (Mv 4) (Mv 5) (Mv 6) (Mv 7) (Mv 8) (Mv 9) (Mv 10) (Mv 11) (Mv 12) (Mv 13) (Mv 14) (Mf 10) (Mj 0) h_said.1) k_1646 k_1643 k_1645 k_93 k_106 pl_X12_metAll ⟨Nat.le_of_ble_eq_true rfl, Nat.le_of_ble_eq_true rfl⟩ rfl rfl (va_recv hK hP (ci := 12) (q0 := 0) rfl rfl) hP hD hS [0, 1] [] rfl rfl rfl rfl rfl (by decide) rfl hl.1 rfl (Nat.le_of_ble_eq_true rfl) dX12_count_139 ⟨Nat.le_of_ble_eq_true rfl, Nat.le_of_ble_eq_true rfl⟩ (fun v_45 u_46 H locs hv_47 hP₀ hD₀ hS₀ => ?_)
                        obtain ⟨r_48, rfl, he_49⟩ := hv_47
                        refine W.eq (g2 := F0 m 142 ls [.int r_48]) rfl ?_
                        replace hP : va_P D classes [((Ma 0), .inr (12, [.ref (Ma 1), .int (Mv 0), .int (Mv 1), .ref (Ma 2), .ref (Ma 3), .ref (Ma 4), .ref (Ma 5), .ref (Ma 6), .int (Mv 2), .int (Mv 3), .int (Mv 4), .int (Mv 5), .int (Mv 6), .int (Mv 7), .int (Mv 8), .ref (Ma 7), .int (Mv 9), .ref (Ma 8), .int (Mv 10), .ref (Ma 9), .ref (Ma 10), .int (Mv 11), .int (Mv 12), .int (Mv 13), .ref (Ma 11), .int (Mv 14), .ref (Ma 12), .ref (Ma 13), .ref (Ma 14), .ref (Ma 15), .ref (Ma 16), .long (Mj 0), .ref (Ma 17), .ref (Ma 18), .ref (Ma 19), .ref (Ma 20)])), ((Ma 10), .inl (tc 0, 126, .inl (Mf 10)))] H := hP₀
                        replace hD : va_D A [((Ma 0), .inr (12, [.ref (Ma 1), .int (Mv 0), .int (Mv 1), .ref (Ma 2), .ref (Ma 3), .ref (Ma 4), .ref (Ma 5), .ref (Ma 6), .int (Mv 2), .int (Mv 3), .int (Mv 4), .int (Mv 5), .int (Mv 6), .int (Mv 7), .int (Mv 8), .ref (Ma 7), .int (Mv 9), .ref (Ma 8), .int (Mv 10), .ref (Ma 9), .ref (Ma 10), .int (Mv 11), .int (Mv 12), .int (Mv 13), .ref (Ma 11), .int (Mv 14), .ref (Ma 12), .ref (Ma 13), .ref (Ma 14), .ref (Ma 15), .ref (Ma 16), .long (Mj 0), .ref (Ma 17), .ref (Ma 18), .ref (Ma 19), .ref (Ma 20)])), ((Ma 10), .inl (tc 0, 126, .inl (Mf 10)))] := hD₀
                        replace hS := hS₀
                        clear hP₀ hD₀ hS₀
                        exact retI (v := r_48) hx hb hr hlk (rfl) hP hD hS () ⟨_, rfl, trivial⟩ [0, 1] rfl rfl dX12_count_142 (Nat.le_of_ble_eq_true rfl) (Nat.le_of_ble_eq_true rfl) rfl
                      · skip
                        by_cases c_51 : x_1 = 11
                        · skip
                          subst c_51
                          have sw_c_51 := congrArg Int32.toInt ex_1
                          have swy_c_51 : (11 : Int32).toInt = 11 := by decide
                          refine lv_tableIn (off := 140) (tgt := 143) hx hb dX12_count_3 (by decide) (by decide) (by decide) (by decide) ?_
                          refine lv_iconst (v := 0) hx hb dX12_count_143 (by decide) ?_
                          refine lv_istore_n (lv' := [(3, .int 0), (2, .int 0), (0, .ref (Ma 0)), (1, .int x1)]) hx hb dX12_count_144 rfl hl (by decide) rfl (fun ls hl₀ => ?_)
                          replace hl := hl₀
                          clear hl₀
                          have loop_58 : ∀ (n_56 : Nat) (vy_54 : Int32) (vy_55 : Int32) (H : Heap) (locs : List Loc) (ls : Array Slot), (6 - (vy_54 : Int32).toInt).toNat < n_56 → (0 ≤ (vy_54 : Int32).toInt) → va_P D classes [((Ma 0), .inr (12, [.ref (Ma 1), .int (Mv 0), .int (Mv 1), .ref (Ma 2), .ref (Ma 3), .ref (Ma 4), .ref (Ma 5), .ref (Ma 6), .int (Mv 2), .int (Mv 3), .int (Mv 4), .int (Mv 5), .int (Mv 6), .int (Mv 7), .int (Mv 8), .ref (Ma 7), .int (Mv 9), .ref (Ma 8), .int (Mv 10), .ref (Ma 9), .ref (Ma 10), .int (Mv 11), .int (Mv 12), .int (Mv 13), .ref (Ma 11), .int (Mv 14), .ref (Ma 12), .ref (Ma 13), .ref (Ma 14), .ref (Ma 15), .ref (Ma 16), .long (Mj 0), .ref (Ma 17), .ref (Ma 18), .ref (Ma 19), .ref (Ma 20)])), ((Ma 10), .inl (tc 0, 126, .inl (Mf 10)))] H → va_D A [((Ma 0), .inr (12, [.ref (Ma 1), .int (Mv 0), .int (Mv 1), .ref (Ma 2), .ref (Ma 3), .ref (Ma 4), .ref (Ma 5), .ref (Ma 6), .int (Mv 2), .int (Mv 3), .int (Mv 4), .int (Mv 5), .int (Mv 6), .int (Mv 7), .int (Mv 8), .ref (Ma 7), .int (Mv 9), .ref (Ma 8), .int (Mv 10), .ref (Ma 9), .ref (Ma 10), .int (Mv 11), .int (Mv 12), .int (Mv 13), .ref (Ma 11), .int (Mv 14), .ref (Ma 12), .ref (Ma 13), .ref (Ma 14), .ref (Ma 15), .ref (Ma 16), .long (Mj 0), .ref (Ma 17), .ref (Ma 18), .ref (Ma 19), .ref (Ma 20)])), ((Ma 10), .inl (tc 0, 126, .inl (Mf 10)))] → va_S A s.heap H locs → lv_has ls 4 [(3, .int vy_54), (2, .int vy_55), (0, .ref (Ma 0)), (1, .int x1)] → W p l e ({ frames := 2, cells := 0, slots := 0, locals := 43 }) s m ([.ref (Ma 0), .int x1].toArray) below meth c H locs 0 0 (MQ below (QW (fun (v : Option Value) (_ : Unit) => ∃ r : Int32, v = some (.int r) ∧ (True)) (BW D (fun (_ : Unit) => [((Ma 0), .inr (12, [.ref (Ma 1), .int (Mv 0), .int (Mv 1), .ref (Ma 2), .ref (Ma 3), .ref (Ma 4), .ref (Ma 5), .ref (Ma 6), .int (Mv 2), .int (Mv 3), .int (Mv 4), .int (Mv 5), .int (Mv 6), .int (Mv 7), .int (Mv 8), .ref (Ma 7), .int (Mv 9), .ref (Ma 8), .int (Mv 10), .ref (Ma 9), .ref (Ma 10), .int (Mv 11), .int (Mv 12), .int (Mv 13), .ref (Ma 11), .int (Mv 14), .ref (Ma 12), .ref (Ma 13), .ref (Ma 14), .ref (Ma 15), .ref (Ma 16), .long (Mj 0), .ref (Ma 17), .ref (Ma 18), .ref (Ma 19), .ref (Ma 20)])), ((Ma 10), .inl (tc 0, 126, .inl (Mf 10)))]) A) A) ([.ref (Ma 0), .int x1].toArray) s 0 0 A) (F0 m 145 ls []) := by
                            clear hP hD hS hl
                            intro n_56
                            induction n_56 with
                            | zero =>
                              intro vy_54 vy_55 H locs ls h1
                              exact absurd h1 (Nat.not_lt_zero _)
                            | succ n_56 ih_57 =>
                              intro vy_54 vy_55 H locs ls hn_60 pf_59 hP hD hS hl
                              refine lv_iload_n hx hb dX12_count_145 rfl (lv_at hl 0 rfl) ?_
                              refine lv_aload_n hx hb dX12_count_146 rfl (lv_at hl 2 rfl) ?_
                              refine gf_X12_39 hx hb hts hown hK hP 0 rfl rfl dX12_count_147 ?_
                              refine lv_iconst (v := 3) hx hb dX12_count_150 (by decide) ?_
                              refine va_iald hx hb hK hP 1 0 rfl rfl (vin_dec (by decide +kernel)) dX12_count_151 ?_
                              refine lv_topi (fun x_61 ex_61 => ?_)
                              have lx_61 : x_61.toInt = ((Mf 10) 3).toInt := congrArg Int32.toInt ex_61
                              refine lv_icmp_ge (tgt := 179) hx hb dX12_count_152 (by decide) (fun c_62 => ?_) (fun c_62 => ?_)
                              · skip
                                refine lv_iload_n hx hb dX12_count_179 rfl (lv_at hl 1 rfl) ?_
                                exact retI (v := vy_55) hx hb hr hlk (rfl) hP hD hS () ⟨_, rfl, trivial⟩ [0, 1] rfl rfl dX12_count_180 (Nat.le_of_ble_eq_true rfl) (Nat.le_of_ble_eq_true rfl) rfl
                              · skip
                                refine lv_iload_n hx hb dX12_count_155 rfl (lv_at hl 1 rfl) ?_
                                refine lv_aload_n hx hb dX12_count_156 rfl (lv_at hl 2 rfl) ?_
                                refine lv_iload_n hx hb dX12_count_157 rfl (lv_at hl 0 rfl) ?_
                                have ha_63 : 0 ≤ vy_54.toInt ∧ vy_54.toInt < 6 := by
                                  have z_1 := Int32.lt_iff_toInt_lt.mp (Int32.not_le.mp c_62)
                                  refine ⟨?_, ?_⟩ <;> omega
                                refine cV (a := (Ma 0)) (As := [.int vy_54]) (rest := [.int vy_55]) (wr := []) ⟨hx, hb, hml, hown, hts⟩ hK hX hA (cu_X12_canBuy l D tc sk (Ma 0) (Ma 1) (Ma 2) (Ma 3) (Ma 4) (Ma 5) (Ma 6) (Ma 7) (Ma 8) (Ma 9) (Ma 10) (Ma 11) (Ma 12) (Ma 13) (Ma 14) (Ma 15) (Ma 16) (Ma 17) (Ma 18) (Ma 19) (Ma 20) (Mv 0) (Mv 1) (Mv 2) (Mv 3) (Mv 4) (Mv 5) (Mv 6) (Mv 7) (Mv 8) (Mv 9) (Mv 10) (Mv 11) (Mv 12) (Mv 13) (Mv 14) (Mf 10) (Mj 0) vy_54 ha_63) k_1427 k_1424 k_1426 k_68 k_106 pl_X12_canBuy ⟨Nat.le_of_ble_eq_true rfl, Nat.le_of_ble_eq_true rfl⟩ rfl rfl (va_recv hK hP (ci := 12) (q0 := 0) rfl rfl) hP hD hS [0, 1] [] rfl rfl rfl rfl rfl (by decide) rfl hl.1 rfl (Nat.le_of_ble_eq_true rfl) dX12_count_158 ⟨Nat.le_of_ble_eq_true rfl, Nat.le_of_ble_eq_true rfl⟩ (fun v_64 u_65 H locs hv_66 hP₀ hD₀ hS₀ => ?_)
                                obtain ⟨r_67, rfl, he_68⟩ := hv_66
                                have he_68 : (r_67.toInt = 0 ∨ r_67.toInt = 1) := he_68
                                refine W.eq (g2 := F0 m 161 ls [.int r_67, .int vy_55]) rfl ?_
                                replace hP : va_P D classes [((Ma 0), .inr (12, [.ref (Ma 1), .int (Mv 0), .int (Mv 1), .ref (Ma 2), .ref (Ma 3), .ref (Ma 4), .ref (Ma 5), .ref (Ma 6), .int (Mv 2), .int (Mv 3), .int (Mv 4), .int (Mv 5), .int (Mv 6), .int (Mv 7), .int (Mv 8), .ref (Ma 7), .int (Mv 9), .ref (Ma 8), .int (Mv 10), .ref (Ma 9), .ref (Ma 10), .int (Mv 11), .int (Mv 12), .int (Mv 13), .ref (Ma 11), .int (Mv 14), .ref (Ma 12), .ref (Ma 13), .ref (Ma 14), .ref (Ma 15), .ref (Ma 16), .long (Mj 0), .ref (Ma 17), .ref (Ma 18), .ref (Ma 19), .ref (Ma 20)])), ((Ma 10), .inl (tc 0, 126, .inl (Mf 10)))] H := hP₀
                                replace hD : va_D A [((Ma 0), .inr (12, [.ref (Ma 1), .int (Mv 0), .int (Mv 1), .ref (Ma 2), .ref (Ma 3), .ref (Ma 4), .ref (Ma 5), .ref (Ma 6), .int (Mv 2), .int (Mv 3), .int (Mv 4), .int (Mv 5), .int (Mv 6), .int (Mv 7), .int (Mv 8), .ref (Ma 7), .int (Mv 9), .ref (Ma 8), .int (Mv 10), .ref (Ma 9), .ref (Ma 10), .int (Mv 11), .int (Mv 12), .int (Mv 13), .ref (Ma 11), .int (Mv 14), .ref (Ma 12), .ref (Ma 13), .ref (Ma 14), .ref (Ma 15), .ref (Ma 16), .long (Mj 0), .ref (Ma 17), .ref (Ma 18), .ref (Ma 19), .ref (Ma 20)])), ((Ma 10), .inl (tc 0, 126, .inl (Mf 10)))] := hD₀
                                replace hS := hS₀
                                clear hP₀ hD₀ hS₀
                                refine lv_if_eq (tgt := 170) hx hb dX12_count_161 (by decide) (fun c_70 => ?_) (fun c_70 => ?_)
                                · skip
                                  refine lv_iconst (v := 0) hx hb dX12_count_170 (by decide) ?_
                                  refine lv_ior hx hb dX12_count_171 ?_
                                  refine lv_topi (fun x_71 ex_71 => ?_)
                                  refine lv_istore_n (lv' := [(2, .int x_71), (3, .int vy_54), (0, .ref (Ma 0)), (1, .int x1)]) hx hb dX12_count_172 rfl hl (by decide) rfl (fun ls hl₀ => ?_)
                                  replace hl := hl₀
                                  clear hl₀
                                  obtain ⟨x_72, ex_72⟩ : ∃ y : Int32, y = vy_54 + 1 := ⟨_, rfl⟩
                                  refine lv_iinc (v := x_72) (lv' := [(3, .int x_72), (2, .int x_71), (0, .ref (Ma 0)), (1, .int x1)]) hx hb dX12_count_173 hl (k := 1) rfl (by rw [ex_72]; rfl) (by decide) rfl (fun ls hl₀ => ?_)
                                  replace hl := hl₀
                                  clear hl₀
                                  refine lv_goto (tgt := 145) hx hb dX12_count_176 (by decide) ?_
                                  have hb_73 : 6 - (x_72 : Int32).toInt < 6 - (vy_54 : Int32).toInt ∧ 1 ≤ 6 - (vy_54 : Int32).toInt := by
                                    have z_1 := Int32.lt_iff_toInt_lt.mp (Int32.not_le.mp c_62)
                                    have z_2 := congrArg Int32.toInt c_70
                                    have y_0 : (0 : Int32).toInt = 0 := by decide
                                    have y_1 : (1 : Int32).toInt = 1 := by decide
                                    have t_x_72 : x_72.toInt = (vy_54 : Int32).toInt + (1 : Int32).toInt := by rw [ex_72]; exact add_toInt (by omega) (by omega)
                                    refine ⟨?_, ?_⟩ <;> omega
                                  have ha_74 : 0 ≤ (x_72 : Int32).toInt := by
                                    have z_1 := Int32.lt_iff_toInt_lt.mp (Int32.not_le.mp c_62)
                                    have z_2 := congrArg Int32.toInt c_70
                                    have y_0 : (0 : Int32).toInt = 0 := by decide
                                    have y_1 : (1 : Int32).toInt = 1 := by decide
                                    have t_x_72 : x_72.toInt = (vy_54 : Int32).toInt + (1 : Int32).toInt := by rw [ex_72]; exact add_toInt (by omega) (by omega)
                                    omega
                                  exact ih_57 x_72 x_71 _ _ _ (by omega) ha_74 (hP.sub [0, 1] rfl) (hD.sub [0, 1] rfl rfl) hS (lv_sub hl [0, 1, 2, 3] rfl)
                                · skip
                                  refine lv_iconst (v := 1) hx hb dX12_count_164 (by decide) ?_
                                  refine lv_iload_n hx hb dX12_count_165 rfl (lv_at hl 0 rfl) ?_
                                  refine lv_ishl hx hb dX12_count_166 ?_
                                  refine lv_topi (fun x_75 ex_75 => ?_)
                                  refine lv_goto (tgt := 171) hx hb dX12_count_167 (by decide) ?_
                                  refine lv_ior hx hb dX12_count_171 ?_
                                  refine lv_topi (fun x_76 ex_76 => ?_)
                                  refine lv_istore_n (lv' := [(2, .int x_76), (3, .int vy_54), (0, .ref (Ma 0)), (1, .int x1)]) hx hb dX12_count_172 rfl hl (by decide) rfl (fun ls hl₀ => ?_)
                                  replace hl := hl₀
                                  clear hl₀
                                  obtain ⟨x_77, ex_77⟩ : ∃ y : Int32, y = vy_54 + 1 := ⟨_, rfl⟩
                                  refine lv_iinc (v := x_77) (lv' := [(3, .int x_77), (2, .int x_76), (0, .ref (Ma 0)), (1, .int x1)]) hx hb dX12_count_173 hl (k := 1) rfl (by rw [ex_77]; rfl) (by decide) rfl (fun ls hl₀ => ?_)
                                  replace hl := hl₀
                                  clear hl₀
                                  refine lv_goto (tgt := 145) hx hb dX12_count_176 (by decide) ?_
                                  have hb_78 : 6 - (x_77 : Int32).toInt < 6 - (vy_54 : Int32).toInt ∧ 1 ≤ 6 - (vy_54 : Int32).toInt := by
                                    have z_1 := Int32.lt_iff_toInt_lt.mp (Int32.not_le.mp c_62)
                                    have z_2 : ¬ (r_67 : Int32).toInt = (0 : Int32).toInt := fun z => c_70 (Int32.toInt_inj.mp z)
                                    have y_0 : (0 : Int32).toInt = 0 := by decide
                                    have y_1 : (1 : Int32).toInt = 1 := by decide
                                    have t_x_77 : x_77.toInt = (vy_54 : Int32).toInt + (1 : Int32).toInt := by rw [ex_77]; exact add_toInt (by omega) (by omega)
                                    refine ⟨?_, ?_⟩ <;> omega
                                  have ha_79 : 0 ≤ (x_77 : Int32).toInt := by
                                    have z_1 := Int32.lt_iff_toInt_lt.mp (Int32.not_le.mp c_62)
                                    have z_2 : ¬ (r_67 : Int32).toInt = (0 : Int32).toInt := fun z => c_70 (Int32.toInt_inj.mp z)
                                    have y_0 : (0 : Int32).toInt = 0 := by decide
                                    have y_1 : (1 : Int32).toInt = 1 := by decide
                                    have t_x_77 : x_77.toInt = (vy_54 : Int32).toInt + (1 : Int32).toInt := by rw [ex_77]; exact add_toInt (by omega) (by omega)
                                    omega
                                  exact ih_57 x_77 x_76 _ _ _ (by omega) ha_79 (hP.sub [0, 1] rfl) (hD.sub [0, 1] rfl rfl) hS (lv_sub hl [0, 1, 2, 3] rfl)
                          have ha_80 : 0 ≤ (0 : Int32).toInt := by
                            have y_0 : (0 : Int32).toInt = 0 := by decide
                            omega
                          exact loop_58 _ 0 0 _ _ _ (Nat.lt_succ_self _) ha_80 hP hD hS hl
                        · skip
                          by_cases c_81 : x_1 = 12
                          · skip
                            subst c_81
                            have sw_c_81 := congrArg Int32.toInt ex_1
                            have swy_c_81 : (12 : Int32).toInt = 12 := by decide
                            refine lv_tableIn (off := 178) (tgt := 181) hx hb dX12_count_3 (by decide) (by decide) (by decide) (by decide) ?_
                            refine lv_aload_n hx hb dX12_count_181 rfl (lv_at hl 1 rfl) ?_
                            refine gf_X12_39 hx hb hts hown hK hP 0 rfl rfl dX12_count_182 ?_
                            refine lv_bipush (v := 125) hx hb dX12_count_185 (by decide) ?_
                            refine va_iald hx hb hK hP 1 0 rfl rfl (vin_dec (by decide +kernel)) dX12_count_187 ?_
                            refine lv_topi (fun x_82 ex_82 => ?_)
                            have lx_82 : x_82.toInt = ((Mf 10) 125).toInt := congrArg Int32.toInt ex_82
                            exact retI (v := x_82) hx hb hr hlk (rfl) hP hD hS () ⟨_, rfl, trivial⟩ [0, 1] rfl rfl dX12_count_188 (Nat.le_of_ble_eq_true rfl) (Nat.le_of_ble_eq_true rfl) rfl
                          · skip
                            by_cases c_83 : x_1 = 13
                            · skip
                              subst c_83
                              have sw_c_83 := congrArg Int32.toInt ex_1
                              have swy_c_83 : (13 : Int32).toInt = 13 := by decide
                              refine lv_tableIn (off := 186) (tgt := 189) hx hb dX12_count_3 (by decide) (by decide) (by decide) (by decide) ?_
                              refine lv_aload_n hx hb dX12_count_189 rfl (lv_at hl 1 rfl) ?_
                              refine gf_X12_265 hx hb hts hown hK hP 0 rfl rfl dX12_count_190 ?_
                              exact retI (v := (Mv 14)) hx hb hr hlk (rfl) hP hD hS () ⟨_, rfl, trivial⟩ [0, 1] rfl rfl dX12_count_193 (Nat.le_of_ble_eq_true rfl) (Nat.le_of_ble_eq_true rfl) rfl
                            · skip
                              by_cases c_84 : x_1 = 14
                              · skip
                                subst c_84
                                have sw_c_84 := congrArg Int32.toInt ex_1
                                have swy_c_84 : (14 : Int32).toInt = 14 := by decide
                                refine lv_tableIn (off := 191) (tgt := 194) hx hb dX12_count_3 (by decide) (by decide) (by decide) (by decide) ?_
                                refine lv_aload_n hx hb dX12_count_194 rfl (lv_at hl 1 rfl) ?_
                                refine gf_X12_414 hx hb hts hown hK hP 0 rfl rfl dX12_count_195 ?_
                                exact retI (v := (Mv 12)) hx hb hr hlk (rfl) hP hD hS () ⟨_, rfl, trivial⟩ [0, 1] rfl rfl dX12_count_198 (Nat.le_of_ble_eq_true rfl) (Nat.le_of_ble_eq_true rfl) rfl
                              · skip
                                by_cases c_85 : x_1 = 15
                                · skip
                                  subst c_85
                                  have sw_c_85 := congrArg Int32.toInt ex_1
                                  have swy_c_85 : (15 : Int32).toInt = 15 := by decide
                                  refine lv_tableIn (off := 196) (tgt := 199) hx hb dX12_count_3 (by decide) (by decide) (by decide) (by decide) ?_
                                  refine lv_aload_n hx hb dX12_count_199 rfl (lv_at hl 1 rfl) ?_
                                  refine gf_X12_77 hx hb hts hown hK hP 0 rfl rfl dX12_count_200 ?_
                                  exact retI (v := (Mv 0)) hx hb hr hlk (rfl) hP hD hS () ⟨_, rfl, trivial⟩ [0, 1] rfl rfl dX12_count_203 (Nat.le_of_ble_eq_true rfl) (Nat.le_of_ble_eq_true rfl) rfl
                                · skip
                                  have ho_86 : (x_1 : Int32).toInt < 0 ∨ 15 < (x_1 : Int32).toInt := by
                                    have z_1 : ¬ (x_1 : Int32).toInt = (0 : Int32).toInt := fun z => c_2 (Int32.toInt_inj.mp z)
                                    have z_2 : ¬ (x_1 : Int32).toInt = (1 : Int32).toInt := fun z => c_6 (Int32.toInt_inj.mp z)
                                    have z_3 : ¬ (x_1 : Int32).toInt = (2 : Int32).toInt := fun z => c_10 (Int32.toInt_inj.mp z)
                                    have z_4 : ¬ (x_1 : Int32).toInt = (3 : Int32).toInt := fun z => c_14 (Int32.toInt_inj.mp z)
                                    have z_5 : ¬ (x_1 : Int32).toInt = (4 : Int32).toInt := fun z => c_15 (Int32.toInt_inj.mp z)
                                    have z_6 : ¬ (x_1 : Int32).toInt = (5 : Int32).toInt := fun z => c_16 (Int32.toInt_inj.mp z)
                                    have z_7 : ¬ (x_1 : Int32).toInt = (6 : Int32).toInt := fun z => c_18 (Int32.toInt_inj.mp z)
                                    have z_8 : ¬ (x_1 : Int32).toInt = (7 : Int32).toInt := fun z => c_25 (Int32.toInt_inj.mp z)
                                    have z_9 : ¬ (x_1 : Int32).toInt = (8 : Int32).toInt := fun z => c_27 (Int32.toInt_inj.mp z)
                                    have z_10 : ¬ (x_1 : Int32).toInt = (9 : Int32).toInt := fun z => c_37 (Int32.toInt_inj.mp z)
                                    have z_11 : ¬ (x_1 : Int32).toInt = (10 : Int32).toInt := fun z => c_44 (Int32.toInt_inj.mp z)
                                    have z_12 : ¬ (x_1 : Int32).toInt = (11 : Int32).toInt := fun z => c_51 (Int32.toInt_inj.mp z)
                                    have z_13 : ¬ (x_1 : Int32).toInt = (12 : Int32).toInt := fun z => c_81 (Int32.toInt_inj.mp z)
                                    have z_14 : ¬ (x_1 : Int32).toInt = (13 : Int32).toInt := fun z => c_83 (Int32.toInt_inj.mp z)
                                    have z_15 : ¬ (x_1 : Int32).toInt = (14 : Int32).toInt := fun z => c_84 (Int32.toInt_inj.mp z)
                                    have z_16 : ¬ (x_1 : Int32).toInt = (15 : Int32).toInt := fun z => c_85 (Int32.toInt_inj.mp z)
                                    have y_0 : (0 : Int32).toInt = 0 := by decide
                                    have y_1 : (1 : Int32).toInt = 1 := by decide
                                    have y_2 : (2 : Int32).toInt = 2 := by decide
                                    have y_3 : (3 : Int32).toInt = 3 := by decide
                                    have y_4 : (4 : Int32).toInt = 4 := by decide
                                    have y_5 : (5 : Int32).toInt = 5 := by decide
                                    have y_6 : (6 : Int32).toInt = 6 := by decide
                                    have y_7 : (7 : Int32).toInt = 7 := by decide
                                    have y_8 : (8 : Int32).toInt = 8 := by decide
                                    have y_9 : (9 : Int32).toInt = 9 := by decide
                                    have y_10 : (10 : Int32).toInt = 10 := by decide
                                    have y_11 : (11 : Int32).toInt = 11 := by decide
                                    have y_12 : (12 : Int32).toInt = 12 := by decide
                                    have y_13 : (13 : Int32).toInt = 13 := by decide
                                    have y_14 : (14 : Int32).toInt = 14 := by decide
                                    have y_15 : (15 : Int32).toInt = 15 := by decide
                                    omega
                                  refine lv_tableOut (tgt := 204) hx hb dX12_count_3 ho_86 (by decide) ?_
                                  refine lv_iconst (v := (-1)) hx hb dX12_count_204 (by decide) ?_
                                  exact retI (v := (-1)) hx hb hr hlk (rfl) hP hD hS () ⟨_, rfl, trivial⟩ [0, 1] rfl rfl dX12_count_205 (Nat.le_of_ble_eq_true rfl) (Nat.le_of_ble_eq_true rfl) rfl
set_option maxHeartbeats 4000000 in
set_option maxRecDepth 100000 in
theorem ct_X12_buyer {T : Nat → Option Int32} (l : Launch) (D : va_G) (tc : Nat → ClassId) (sk : (Nat → Nat) × (Nat → Nat)) (Ma : Nat → Nat) (Mv : Nat → Int32) (Mf : Nat → Nat → Int32) (Mj : Nat → Int64) (x1 : Int32) (x2 : Int32) (h_said : SaidB T (Mf 10)) : Ct l yX12_buyer cX12_buyer 3 (some .int) { frames := 2, cells := 0, slots := 0, locals := 43 } D tc sk [.ref (Ma 0), .int x1, .int x2] [((Ma 0), .inr (12, [.ref (Ma 1), .int (Mv 0), .int (Mv 1), .ref (Ma 2), .ref (Ma 3), .ref (Ma 4), .ref (Ma 5), .ref (Ma 6), .int (Mv 2), .int (Mv 3), .int (Mv 4), .int (Mv 5), .int (Mv 6), .int (Mv 7), .int (Mv 8), .ref (Ma 7), .int (Mv 9), .ref (Ma 8), .int (Mv 10), .ref (Ma 9), .ref (Ma 10), .int (Mv 11), .int (Mv 12), .int (Mv 13), .ref (Ma 11), .int (Mv 14), .ref (Ma 12), .ref (Ma 13), .ref (Ma 14), .ref (Ma 15), .ref (Ma 16), .long (Mj 0), .ref (Ma 17), .ref (Ma 18), .ref (Ma 19), .ref (Ma 20)])), ((Ma 10), .inl (tc 0, 126, .inl (Mf 10)))] (fun (v : Option Value) (_ : Unit) => ∃ r : Int32, v = some (.int r) ∧ (True)) (fun (_ : Unit) => [((Ma 0), .inr (12, [.ref (Ma 1), .int (Mv 0), .int (Mv 1), .ref (Ma 2), .ref (Ma 3), .ref (Ma 4), .ref (Ma 5), .ref (Ma 6), .int (Mv 2), .int (Mv 3), .int (Mv 4), .int (Mv 5), .int (Mv 6), .int (Mv 7), .int (Mv 8), .ref (Ma 7), .int (Mv 9), .ref (Ma 8), .int (Mv 10), .ref (Ma 9), .ref (Ma 10), .int (Mv 11), .int (Mv 12), .int (Mv 13), .ref (Ma 11), .int (Mv 14), .ref (Ma 12), .ref (Ma 13), .ref (Ma 14), .ref (Ma 15), .ref (Ma 16), .long (Mj 0), .ref (Ma 17), .ref (Ma 18), .ref (Ma 19), .ref (Ma 20)])), ((Ma 10), .inl (tc 0, 126, .inl (Mf 10)))]) 0 0 := by
  refine Ct.start (by decide) (Nat.le_of_ble_eq_true rfl) (fun p e s m below meth c A ls hx hb hr hlk hin hml hown hts hK hX hP hD hA hl hS => ?_)
  have hl : lv_has ls 3 [(0, .ref (Ma 0)), (1, .int x1), (2, .int x2)] := hl
  have ar_h_said := SaidB.al h_said
  refine lv_aload_n hx hb dX12_buyer_0 rfl (lv_at hl 0 rfl) ?_
  refine lv_iload_n hx hb dX12_buyer_1 rfl (lv_at hl 1 rfl) ?_
  refine cV (a := (Ma 0)) (As := [.int x1]) (rest := []) (wr := []) ⟨hx, hb, hml, hown, hts⟩ hK hX hA (cu_X12_isBuyer l D tc sk (Ma 0) (Ma 1) (Ma 2) (Ma 3) (Ma 4) (Ma 5) (Ma 6) (Ma 7) (Ma 8) (Ma 9) (Ma 10) (Ma 11) (Ma 12) (Ma 13) (Ma 14) (Ma 15) (Ma 16) (Ma 17) (Ma 18) (Ma 19) (Ma 20) (Mv 0) (Mv 1) (Mv 2) (Mv 3) (Mv 4) (Mv 5) (Mv 6) (Mv 7) (Mv 8) (Mv 9) (Mv 10) (Mv 11) (Mv 12) (Mv 13) (Mv 14) (Mf 10) (Mj 0) x1 h_said) k_1375 k_1372 k_1374 k_58 k_106 pl_X12_isBuyer ⟨Nat.le_of_ble_eq_true rfl, Nat.le_of_ble_eq_true rfl⟩ rfl rfl (va_recv hK hP (ci := 12) (q0 := 0) rfl rfl) hP hD hS [0, 1] [] rfl rfl rfl rfl rfl (by decide) rfl hl.1 rfl (Nat.le_of_ble_eq_true rfl) dX12_buyer_2 ⟨Nat.le_of_ble_eq_true rfl, Nat.le_of_ble_eq_true rfl⟩ (fun v_1 u_2 H locs hv_3 hP₀ hD₀ hS₀ => ?_)
  obtain ⟨r_4, rfl, he_5⟩ := hv_3
  have he_5 : (r_4.toInt = 0 ∨ (r_4.toInt = 1 ∧ 0 ≤ x1.toInt ∧ x1.toInt < ((Mf 10) 3).toInt)) := he_5
  refine W.eq (g2 := F0 m 5 ls [.int r_4]) rfl ?_
  replace hP : va_P D classes [((Ma 0), .inr (12, [.ref (Ma 1), .int (Mv 0), .int (Mv 1), .ref (Ma 2), .ref (Ma 3), .ref (Ma 4), .ref (Ma 5), .ref (Ma 6), .int (Mv 2), .int (Mv 3), .int (Mv 4), .int (Mv 5), .int (Mv 6), .int (Mv 7), .int (Mv 8), .ref (Ma 7), .int (Mv 9), .ref (Ma 8), .int (Mv 10), .ref (Ma 9), .ref (Ma 10), .int (Mv 11), .int (Mv 12), .int (Mv 13), .ref (Ma 11), .int (Mv 14), .ref (Ma 12), .ref (Ma 13), .ref (Ma 14), .ref (Ma 15), .ref (Ma 16), .long (Mj 0), .ref (Ma 17), .ref (Ma 18), .ref (Ma 19), .ref (Ma 20)])), ((Ma 10), .inl (tc 0, 126, .inl (Mf 10)))] H := hP₀
  replace hD : va_D A [((Ma 0), .inr (12, [.ref (Ma 1), .int (Mv 0), .int (Mv 1), .ref (Ma 2), .ref (Ma 3), .ref (Ma 4), .ref (Ma 5), .ref (Ma 6), .int (Mv 2), .int (Mv 3), .int (Mv 4), .int (Mv 5), .int (Mv 6), .int (Mv 7), .int (Mv 8), .ref (Ma 7), .int (Mv 9), .ref (Ma 8), .int (Mv 10), .ref (Ma 9), .ref (Ma 10), .int (Mv 11), .int (Mv 12), .int (Mv 13), .ref (Ma 11), .int (Mv 14), .ref (Ma 12), .ref (Ma 13), .ref (Ma 14), .ref (Ma 15), .ref (Ma 16), .long (Mj 0), .ref (Ma 17), .ref (Ma 18), .ref (Ma 19), .ref (Ma 20)])), ((Ma 10), .inl (tc 0, 126, .inl (Mf 10)))] := hD₀
  replace hS := hS₀
  clear hP₀ hD₀ hS₀
  refine lv_if_ne (tgt := 10) hx hb dX12_buyer_5 (by decide) (fun c_7 => ?_) (fun c_7 => ?_)
  · skip
    refine lv_iload_n hx hb dX12_buyer_10 rfl (lv_at hl 2 rfl) ?_
    refine lv_topi (fun x_8 ex_8 => ?_)
    by_cases c_9 : x_8 = 0
    · skip
      subst c_9
      refine lv_tableIn (off := 37) (tgt := 48) hx hb dX12_buyer_11 (by decide) (by decide) (by decide) (by decide) ?_
      refine lv_aload_n hx hb dX12_buyer_48 rfl (lv_at hl 0 rfl) ?_
      refine lv_iload_n hx hb dX12_buyer_49 rfl (lv_at hl 1 rfl) ?_
      have ha_10 : 0 ≤ x1.toInt ∧ x1.toInt < 6 := by
        have z_1 : ¬ (r_4 : Int32).toInt = (0 : Int32).toInt := fun z => c_7 (Int32.toInt_inj.mp z)
        have y_0 : (0 : Int32).toInt = 0 := by decide
        refine ⟨?_, ?_⟩ <;> omega
      refine cV (a := (Ma 0)) (As := [.int x1]) (rest := []) (wr := []) ⟨hx, hb, hml, hown, hts⟩ hK hX hA (cu_X12_temperOf l D tc sk (Ma 0) (Ma 1) (Ma 2) (Ma 3) (Ma 4) (Ma 5) (Ma 6) (Ma 7) (Ma 8) (Ma 9) (Ma 10) (Ma 11) (Ma 12) (Ma 13) (Ma 14) (Ma 15) (Ma 16) (Ma 17) (Ma 18) (Ma 19) (Ma 20) (Mv 0) (Mv 1) (Mv 2) (Mv 3) (Mv 4) (Mv 5) (Mv 6) (Mv 7) (Mv 8) (Mv 9) (Mv 10) (Mv 11) (Mv 12) (Mv 13) (Mv 14) (Mf 10) (Mj 0) x1 ha_10) k_1379 k_1376 k_1378 k_59 k_106 pl_X12_temperOf ⟨Nat.le_of_ble_eq_true rfl, Nat.le_of_ble_eq_true rfl⟩ rfl rfl (va_recv hK hP (ci := 12) (q0 := 0) rfl rfl) hP hD hS [0, 1] [] rfl rfl rfl rfl rfl (by decide) rfl hl.1 rfl (Nat.le_of_ble_eq_true rfl) dX12_buyer_50 ⟨Nat.le_of_ble_eq_true rfl, Nat.le_of_ble_eq_true rfl⟩ (fun v_11 u_12 H locs hv_13 hP₀ hD₀ hS₀ => ?_)
      obtain ⟨r_14, rfl, he_15⟩ := hv_13
      refine W.eq (g2 := F0 m 53 ls [.int r_14]) rfl ?_
      replace hP : va_P D classes [((Ma 0), .inr (12, [.ref (Ma 1), .int (Mv 0), .int (Mv 1), .ref (Ma 2), .ref (Ma 3), .ref (Ma 4), .ref (Ma 5), .ref (Ma 6), .int (Mv 2), .int (Mv 3), .int (Mv 4), .int (Mv 5), .int (Mv 6), .int (Mv 7), .int (Mv 8), .ref (Ma 7), .int (Mv 9), .ref (Ma 8), .int (Mv 10), .ref (Ma 9), .ref (Ma 10), .int (Mv 11), .int (Mv 12), .int (Mv 13), .ref (Ma 11), .int (Mv 14), .ref (Ma 12), .ref (Ma 13), .ref (Ma 14), .ref (Ma 15), .ref (Ma 16), .long (Mj 0), .ref (Ma 17), .ref (Ma 18), .ref (Ma 19), .ref (Ma 20)])), ((Ma 10), .inl (tc 0, 126, .inl (Mf 10)))] H := hP₀
      replace hD : va_D A [((Ma 0), .inr (12, [.ref (Ma 1), .int (Mv 0), .int (Mv 1), .ref (Ma 2), .ref (Ma 3), .ref (Ma 4), .ref (Ma 5), .ref (Ma 6), .int (Mv 2), .int (Mv 3), .int (Mv 4), .int (Mv 5), .int (Mv 6), .int (Mv 7), .int (Mv 8), .ref (Ma 7), .int (Mv 9), .ref (Ma 8), .int (Mv 10), .ref (Ma 9), .ref (Ma 10), .int (Mv 11), .int (Mv 12), .int (Mv 13), .ref (Ma 11), .int (Mv 14), .ref (Ma 12), .ref (Ma 13), .ref (Ma 14), .ref (Ma 15), .ref (Ma 16), .long (Mj 0), .ref (Ma 17), .ref (Ma 18), .ref (Ma 19), .ref (Ma 20)])), ((Ma 10), .inl (tc 0, 126, .inl (Mf 10)))] := hD₀
      replace hS := hS₀
      clear hP₀ hD₀ hS₀
      exact retI (v := r_14) hx hb hr hlk (rfl) hP hD hS () ⟨_, rfl, trivial⟩ [0, 1] rfl rfl dX12_buyer_53 (Nat.le_of_ble_eq_true rfl) (Nat.le_of_ble_eq_true rfl) rfl
    · skip
      by_cases c_17 : x_8 = 1
      · skip
        subst c_17
        refine lv_tableIn (off := 43) (tgt := 54) hx hb dX12_buyer_11 (by decide) (by decide) (by decide) (by decide) ?_
        refine lv_aload_n hx hb dX12_buyer_54 rfl (lv_at hl 0 rfl) ?_
        refine gf_X12_39 hx hb hts hown hK hP 0 rfl rfl dX12_buyer_55 ?_
        refine lv_bipush (v := 56) hx hb dX12_buyer_58 (by decide) ?_
        refine lv_iload_n hx hb dX12_buyer_60 rfl (lv_at hl 1 rfl) ?_
        refine lv_iadd hx hb dX12_buyer_61 ?_
        refine lv_topi (fun x_18 ex_18 => ?_)
        have hi_19 : vp_in x_18 126 := by
          have z_1 : ¬ (r_4 : Int32).toInt = (0 : Int32).toInt := fun z => c_7 (Int32.toInt_inj.mp z)
          have y_0 : (0 : Int32).toInt = 0 := by decide
          have y_56 : (56 : Int32).toInt = 56 := by decide
          have t_x_18 : x_18.toInt = (56 : Int32).toInt + (x1 : Int32).toInt := by rw [ex_18]; exact add_toInt (by omega) (by omega)
          refine vp_in_iff.mpr ⟨?_, ?_⟩ <;> omega
        refine va_iald hx hb hK hP 1 0 rfl rfl hi_19 dX12_buyer_62 ?_
        refine lv_topi (fun x_20 ex_20 => ?_)
        exact retI (v := x_20) hx hb hr hlk (rfl) hP hD hS () ⟨_, rfl, trivial⟩ [0, 1] rfl rfl dX12_buyer_63 (Nat.le_of_ble_eq_true rfl) (Nat.le_of_ble_eq_true rfl) rfl
      · skip
        by_cases c_21 : x_8 = 2
        · skip
          subst c_21
          refine lv_tableIn (off := 53) (tgt := 64) hx hb dX12_buyer_11 (by decide) (by decide) (by decide) (by decide) ?_
          refine lv_aload_n hx hb dX12_buyer_64 rfl (lv_at hl 0 rfl) ?_
          refine gf_X12_39 hx hb hts hown hK hP 0 rfl rfl dX12_buyer_65 ?_
          refine lv_bipush (v := 62) hx hb dX12_buyer_68 (by decide) ?_
          refine lv_iload_n hx hb dX12_buyer_70 rfl (lv_at hl 1 rfl) ?_
          refine lv_iadd hx hb dX12_buyer_71 ?_
          refine lv_topi (fun x_22 ex_22 => ?_)
          have hi_23 : vp_in x_22 126 := by
            have z_1 : ¬ (r_4 : Int32).toInt = (0 : Int32).toInt := fun z => c_7 (Int32.toInt_inj.mp z)
            have y_0 : (0 : Int32).toInt = 0 := by decide
            have y_62 : (62 : Int32).toInt = 62 := by decide
            have t_x_22 : x_22.toInt = (62 : Int32).toInt + (x1 : Int32).toInt := by rw [ex_22]; exact add_toInt (by omega) (by omega)
            refine vp_in_iff.mpr ⟨?_, ?_⟩ <;> omega
          refine va_iald hx hb hK hP 1 0 rfl rfl hi_23 dX12_buyer_72 ?_
          refine lv_topi (fun x_24 ex_24 => ?_)
          exact retI (v := x_24) hx hb hr hlk (rfl) hP hD hS () ⟨_, rfl, trivial⟩ [0, 1] rfl rfl dX12_buyer_73 (Nat.le_of_ble_eq_true rfl) (Nat.le_of_ble_eq_true rfl) rfl
        · skip
          by_cases c_25 : x_8 = 3
          · skip
            subst c_25
            refine lv_tableIn (off := 63) (tgt := 74) hx hb dX12_buyer_11 (by decide) (by decide) (by decide) (by decide) ?_
            refine lv_aload_n hx hb dX12_buyer_74 rfl (lv_at hl 0 rfl) ?_
            refine lv_iload_n hx hb dX12_buyer_75 rfl (lv_at hl 1 rfl) ?_
            have ha_26 : 0 ≤ x1.toInt ∧ x1.toInt < 6 := by
              have z_1 : ¬ (r_4 : Int32).toInt = (0 : Int32).toInt := fun z => c_7 (Int32.toInt_inj.mp z)
              have y_0 : (0 : Int32).toInt = 0 := by decide
              refine ⟨?_, ?_⟩ <;> omega
            refine cV (a := (Ma 0)) (As := [.int x1]) (rest := []) (wr := []) ⟨hx, hb, hml, hown, hts⟩ hK hX hA (cu_X12_boughtBy l D tc sk (Ma 0) (Ma 1) (Ma 2) (Ma 3) (Ma 4) (Ma 5) (Ma 6) (Ma 7) (Ma 8) (Ma 9) (Ma 10) (Ma 11) (Ma 12) (Ma 13) (Ma 14) (Ma 15) (Ma 16) (Ma 17) (Ma 18) (Ma 19) (Ma 20) (Mv 0) (Mv 1) (Mv 2) (Mv 3) (Mv 4) (Mv 5) (Mv 6) (Mv 7) (Mv 8) (Mv 9) (Mv 10) (Mv 11) (Mv 12) (Mv 13) (Mv 14) (Mf 10) (Mj 0) x1 ha_26) k_1383 k_1380 k_1382 k_60 k_106 pl_X12_boughtBy ⟨Nat.le_of_ble_eq_true rfl, Nat.le_of_ble_eq_true rfl⟩ rfl rfl (va_recv hK hP (ci := 12) (q0 := 0) rfl rfl) hP hD hS [0, 1] [] rfl rfl rfl rfl rfl (by decide) rfl hl.1 rfl (Nat.le_of_ble_eq_true rfl) dX12_buyer_76 ⟨Nat.le_of_ble_eq_true rfl, Nat.le_of_ble_eq_true rfl⟩ (fun v_27 u_28 H locs hv_29 hP₀ hD₀ hS₀ => ?_)
            obtain ⟨r_30, rfl, he_31⟩ := hv_29
            refine W.eq (g2 := F0 m 79 ls [.int r_30]) rfl ?_
            replace hP : va_P D classes [((Ma 0), .inr (12, [.ref (Ma 1), .int (Mv 0), .int (Mv 1), .ref (Ma 2), .ref (Ma 3), .ref (Ma 4), .ref (Ma 5), .ref (Ma 6), .int (Mv 2), .int (Mv 3), .int (Mv 4), .int (Mv 5), .int (Mv 6), .int (Mv 7), .int (Mv 8), .ref (Ma 7), .int (Mv 9), .ref (Ma 8), .int (Mv 10), .ref (Ma 9), .ref (Ma 10), .int (Mv 11), .int (Mv 12), .int (Mv 13), .ref (Ma 11), .int (Mv 14), .ref (Ma 12), .ref (Ma 13), .ref (Ma 14), .ref (Ma 15), .ref (Ma 16), .long (Mj 0), .ref (Ma 17), .ref (Ma 18), .ref (Ma 19), .ref (Ma 20)])), ((Ma 10), .inl (tc 0, 126, .inl (Mf 10)))] H := hP₀
            replace hD : va_D A [((Ma 0), .inr (12, [.ref (Ma 1), .int (Mv 0), .int (Mv 1), .ref (Ma 2), .ref (Ma 3), .ref (Ma 4), .ref (Ma 5), .ref (Ma 6), .int (Mv 2), .int (Mv 3), .int (Mv 4), .int (Mv 5), .int (Mv 6), .int (Mv 7), .int (Mv 8), .ref (Ma 7), .int (Mv 9), .ref (Ma 8), .int (Mv 10), .ref (Ma 9), .ref (Ma 10), .int (Mv 11), .int (Mv 12), .int (Mv 13), .ref (Ma 11), .int (Mv 14), .ref (Ma 12), .ref (Ma 13), .ref (Ma 14), .ref (Ma 15), .ref (Ma 16), .long (Mj 0), .ref (Ma 17), .ref (Ma 18), .ref (Ma 19), .ref (Ma 20)])), ((Ma 10), .inl (tc 0, 126, .inl (Mf 10)))] := hD₀
            replace hS := hS₀
            clear hP₀ hD₀ hS₀
            exact retI (v := r_30) hx hb hr hlk (rfl) hP hD hS () ⟨_, rfl, trivial⟩ [0, 1] rfl rfl dX12_buyer_79 (Nat.le_of_ble_eq_true rfl) (Nat.le_of_ble_eq_true rfl) rfl
          · skip
            by_cases c_33 : x_8 = 4
            · skip
              subst c_33
              refine lv_tableIn (off := 69) (tgt := 80) hx hb dX12_buyer_11 (by decide) (by decide) (by decide) (by decide) ?_
              refine lv_aload_n hx hb dX12_buyer_80 rfl (lv_at hl 0 rfl) ?_
              refine lv_iload_n hx hb dX12_buyer_81 rfl (lv_at hl 1 rfl) ?_
              have ha_34 : 0 ≤ x1.toInt ∧ x1.toInt < 6 := by
                have z_1 : ¬ (r_4 : Int32).toInt = (0 : Int32).toInt := fun z => c_7 (Int32.toInt_inj.mp z)
                have y_0 : (0 : Int32).toInt = 0 := by decide
                refine ⟨?_, ?_⟩ <;> omega
              refine cV (a := (Ma 0)) (As := [.int x1]) (rest := []) (wr := []) ⟨hx, hb, hml, hown, hts⟩ hK hX hA (cu_X12_metOf l D tc sk (Ma 0) (Ma 1) (Ma 2) (Ma 3) (Ma 4) (Ma 5) (Ma 6) (Ma 7) (Ma 8) (Ma 9) (Ma 10) (Ma 11) (Ma 12) (Ma 13) (Ma 14) (Ma 15) (Ma 16) (Ma 17) (Ma 18) (Ma 19) (Ma 20) (Mv 0) (Mv 1) (Mv 2) (Mv 3) (Mv 4) (Mv 5) (Mv 6) (Mv 7) (Mv 8) (Mv 9) (Mv 10) (Mv 11) (Mv 12) (Mv 13) (Mv 14) (Mf 10) (Mj 0) x1 ha_34) k_1387 k_1384 k_1386 k_61 k_106 pl_X12_metOf ⟨Nat.le_of_ble_eq_true rfl, Nat.le_of_ble_eq_true rfl⟩ rfl rfl (va_recv hK hP (ci := 12) (q0 := 0) rfl rfl) hP hD hS [0, 1] [] rfl rfl rfl rfl rfl (by decide) rfl hl.1 rfl (Nat.le_of_ble_eq_true rfl) dX12_buyer_82 ⟨Nat.le_of_ble_eq_true rfl, Nat.le_of_ble_eq_true rfl⟩ (fun v_35 u_36 H locs hv_37 hP₀ hD₀ hS₀ => ?_)
              obtain ⟨r_38, rfl, he_39⟩ := hv_37
              refine W.eq (g2 := F0 m 85 ls [.int r_38]) rfl ?_
              replace hP : va_P D classes [((Ma 0), .inr (12, [.ref (Ma 1), .int (Mv 0), .int (Mv 1), .ref (Ma 2), .ref (Ma 3), .ref (Ma 4), .ref (Ma 5), .ref (Ma 6), .int (Mv 2), .int (Mv 3), .int (Mv 4), .int (Mv 5), .int (Mv 6), .int (Mv 7), .int (Mv 8), .ref (Ma 7), .int (Mv 9), .ref (Ma 8), .int (Mv 10), .ref (Ma 9), .ref (Ma 10), .int (Mv 11), .int (Mv 12), .int (Mv 13), .ref (Ma 11), .int (Mv 14), .ref (Ma 12), .ref (Ma 13), .ref (Ma 14), .ref (Ma 15), .ref (Ma 16), .long (Mj 0), .ref (Ma 17), .ref (Ma 18), .ref (Ma 19), .ref (Ma 20)])), ((Ma 10), .inl (tc 0, 126, .inl (Mf 10)))] H := hP₀
              replace hD : va_D A [((Ma 0), .inr (12, [.ref (Ma 1), .int (Mv 0), .int (Mv 1), .ref (Ma 2), .ref (Ma 3), .ref (Ma 4), .ref (Ma 5), .ref (Ma 6), .int (Mv 2), .int (Mv 3), .int (Mv 4), .int (Mv 5), .int (Mv 6), .int (Mv 7), .int (Mv 8), .ref (Ma 7), .int (Mv 9), .ref (Ma 8), .int (Mv 10), .ref (Ma 9), .ref (Ma 10), .int (Mv 11), .int (Mv 12), .int (Mv 13), .ref (Ma 11), .int (Mv 14), .ref (Ma 12), .ref (Ma 13), .ref (Ma 14), .ref (Ma 15), .ref (Ma 16), .long (Mj 0), .ref (Ma 17), .ref (Ma 18), .ref (Ma 19), .ref (Ma 20)])), ((Ma 10), .inl (tc 0, 126, .inl (Mf 10)))] := hD₀
              replace hS := hS₀
              clear hP₀ hD₀ hS₀
              exact retI (v := r_38) hx hb hr hlk (rfl) hP hD hS () ⟨_, rfl, trivial⟩ [0, 1] rfl rfl dX12_buyer_85 (Nat.le_of_ble_eq_true rfl) (Nat.le_of_ble_eq_true rfl) rfl
            · skip
              by_cases c_41 : x_8 = 5
              · skip
                subst c_41
                refine lv_tableIn (off := 75) (tgt := 86) hx hb dX12_buyer_11 (by decide) (by decide) (by decide) (by decide) ?_
                refine lv_aload_n hx hb dX12_buyer_86 rfl (lv_at hl 0 rfl) ?_
                refine lv_iload_n hx hb dX12_buyer_87 rfl (lv_at hl 1 rfl) ?_
                have ha_42 : 0 ≤ x1.toInt ∧ x1.toInt < 6 := by
                  have z_1 : ¬ (r_4 : Int32).toInt = (0 : Int32).toInt := fun z => c_7 (Int32.toInt_inj.mp z)
                  have y_0 : (0 : Int32).toInt = 0 := by decide
                  refine ⟨?_, ?_⟩ <;> omega
                refine cV (a := (Ma 0)) (As := [.int x1]) (rest := []) (wr := []) ⟨hx, hb, hml, hown, hts⟩ hK hX hA (cu_X12_sinceOf l D tc sk (Ma 0) (Ma 1) (Ma 2) (Ma 3) (Ma 4) (Ma 5) (Ma 6) (Ma 7) (Ma 8) (Ma 9) (Ma 10) (Ma 11) (Ma 12) (Ma 13) (Ma 14) (Ma 15) (Ma 16) (Ma 17) (Ma 18) (Ma 19) (Ma 20) (Mv 0) (Mv 1) (Mv 2) (Mv 3) (Mv 4) (Mv 5) (Mv 6) (Mv 7) (Mv 8) (Mv 9) (Mv 10) (Mv 11) (Mv 12) (Mv 13) (Mv 14) (Mf 10) (Mj 0) x1 ha_42) k_1391 k_1388 k_1390 k_62 k_106 pl_X12_sinceOf ⟨Nat.le_of_ble_eq_true rfl, Nat.le_of_ble_eq_true rfl⟩ rfl rfl (va_recv hK hP (ci := 12) (q0 := 0) rfl rfl) hP hD hS [0, 1] [] rfl rfl rfl rfl rfl (by decide) rfl hl.1 rfl (Nat.le_of_ble_eq_true rfl) dX12_buyer_88 ⟨Nat.le_of_ble_eq_true rfl, Nat.le_of_ble_eq_true rfl⟩ (fun v_43 u_44 H locs hv_45 hP₀ hD₀ hS₀ => ?_)
                obtain ⟨r_46, rfl, he_47⟩ := hv_45
                refine W.eq (g2 := F0 m 91 ls [.int r_46]) rfl ?_
                replace hP : va_P D classes [((Ma 0), .inr (12, [.ref (Ma 1), .int (Mv 0), .int (Mv 1), .ref (Ma 2), .ref (Ma 3), .ref (Ma 4), .ref (Ma 5), .ref (Ma 6), .int (Mv 2), .int (Mv 3), .int (Mv 4), .int (Mv 5), .int (Mv 6), .int (Mv 7), .int (Mv 8), .ref (Ma 7), .int (Mv 9), .ref (Ma 8), .int (Mv 10), .ref (Ma 9), .ref (Ma 10), .int (Mv 11), .int (Mv 12), .int (Mv 13), .ref (Ma 11), .int (Mv 14), .ref (Ma 12), .ref (Ma 13), .ref (Ma 14), .ref (Ma 15), .ref (Ma 16), .long (Mj 0), .ref (Ma 17), .ref (Ma 18), .ref (Ma 19), .ref (Ma 20)])), ((Ma 10), .inl (tc 0, 126, .inl (Mf 10)))] H := hP₀
                replace hD : va_D A [((Ma 0), .inr (12, [.ref (Ma 1), .int (Mv 0), .int (Mv 1), .ref (Ma 2), .ref (Ma 3), .ref (Ma 4), .ref (Ma 5), .ref (Ma 6), .int (Mv 2), .int (Mv 3), .int (Mv 4), .int (Mv 5), .int (Mv 6), .int (Mv 7), .int (Mv 8), .ref (Ma 7), .int (Mv 9), .ref (Ma 8), .int (Mv 10), .ref (Ma 9), .ref (Ma 10), .int (Mv 11), .int (Mv 12), .int (Mv 13), .ref (Ma 11), .int (Mv 14), .ref (Ma 12), .ref (Ma 13), .ref (Ma 14), .ref (Ma 15), .ref (Ma 16), .long (Mj 0), .ref (Ma 17), .ref (Ma 18), .ref (Ma 19), .ref (Ma 20)])), ((Ma 10), .inl (tc 0, 126, .inl (Mf 10)))] := hD₀
                replace hS := hS₀
                clear hP₀ hD₀ hS₀
                exact retI (v := r_46) hx hb hr hlk (rfl) hP hD hS () ⟨_, rfl, trivial⟩ [0, 1] rfl rfl dX12_buyer_91 (Nat.le_of_ble_eq_true rfl) (Nat.le_of_ble_eq_true rfl) rfl
              · skip
                have ho_49 : (x_8 : Int32).toInt < 0 ∨ 5 < (x_8 : Int32).toInt := by
                  have z_1 : ¬ (r_4 : Int32).toInt = (0 : Int32).toInt := fun z => c_7 (Int32.toInt_inj.mp z)
                  have z_2 : ¬ (x_8 : Int32).toInt = (0 : Int32).toInt := fun z => c_9 (Int32.toInt_inj.mp z)
                  have z_3 : ¬ (x_8 : Int32).toInt = (1 : Int32).toInt := fun z => c_17 (Int32.toInt_inj.mp z)
                  have z_4 : ¬ (x_8 : Int32).toInt = (2 : Int32).toInt := fun z => c_21 (Int32.toInt_inj.mp z)
                  have z_5 : ¬ (x_8 : Int32).toInt = (3 : Int32).toInt := fun z => c_25 (Int32.toInt_inj.mp z)
                  have z_6 : ¬ (x_8 : Int32).toInt = (4 : Int32).toInt := fun z => c_33 (Int32.toInt_inj.mp z)
                  have z_7 : ¬ (x_8 : Int32).toInt = (5 : Int32).toInt := fun z => c_41 (Int32.toInt_inj.mp z)
                  have y_0 : (0 : Int32).toInt = 0 := by decide
                  have y_1 : (1 : Int32).toInt = 1 := by decide
                  have y_2 : (2 : Int32).toInt = 2 := by decide
                  have y_3 : (3 : Int32).toInt = 3 := by decide
                  have y_4 : (4 : Int32).toInt = 4 := by decide
                  have y_5 : (5 : Int32).toInt = 5 := by decide
                  omega
                refine lv_tableOut (tgt := 92) hx hb dX12_buyer_11 ho_49 (by decide) ?_
                refine lv_iconst (v := (-1)) hx hb dX12_buyer_92 (by decide) ?_
                exact retI (v := (-1)) hx hb hr hlk (rfl) hP hD hS () ⟨_, rfl, trivial⟩ [0, 1] rfl rfl dX12_buyer_93 (Nat.le_of_ble_eq_true rfl) (Nat.le_of_ble_eq_true rfl) rfl
  · skip
    refine lv_iconst (v := (-1)) hx hb dX12_buyer_8 (by decide) ?_
    exact retI (v := (-1)) hx hb hr hlk (rfl) hP hD hS () ⟨_, rfl, trivial⟩ [0, 1] rfl rfl dX12_buyer_9 (Nat.le_of_ble_eq_true rfl) (Nat.le_of_ble_eq_true rfl) rfl
set_option maxHeartbeats 4000000 in
set_option maxRecDepth 100000 in
theorem ct_X12_sky {T : Nat → Option Int32} (l : Launch) (D : va_G) (tc : Nat → ClassId) (sk : (Nat → Nat) × (Nat → Nat)) (Ma : Nat → Nat) (Mv : Nat → Int32) (Mf : Nat → Nat → Int32) (Mj : Nat → Int64) (x1 : Int32) (x2 : Int32) (h_said : SaidB T (Mf 10)) : Ct l yX12_sky cX12_sky 3 (some .int) { frames := 2, cells := 0, slots := 0, locals := 41 } D tc sk [.ref (Ma 0), .int x1, .int x2] [((Ma 0), .inr (12, [.ref (Ma 1), .int (Mv 0), .int (Mv 1), .ref (Ma 2), .ref (Ma 3), .ref (Ma 4), .ref (Ma 5), .ref (Ma 6), .int (Mv 2), .int (Mv 3), .int (Mv 4), .int (Mv 5), .int (Mv 6), .int (Mv 7), .int (Mv 8), .ref (Ma 7), .int (Mv 9), .ref (Ma 8), .int (Mv 10), .ref (Ma 9), .ref (Ma 10), .int (Mv 11), .int (Mv 12), .int (Mv 13), .ref (Ma 11), .int (Mv 14), .ref (Ma 12), .ref (Ma 13), .ref (Ma 14), .ref (Ma 15), .ref (Ma 16), .long (Mj 0), .ref (Ma 17), .ref (Ma 18), .ref (Ma 19), .ref (Ma 20)])), ((Ma 10), .inl (tc 0, 126, .inl (Mf 10)))] (fun (v : Option Value) (_ : Unit) => ∃ r : Int32, v = some (.int r) ∧ (True)) (fun (_ : Unit) => [((Ma 0), .inr (12, [.ref (Ma 1), .int (Mv 0), .int (Mv 1), .ref (Ma 2), .ref (Ma 3), .ref (Ma 4), .ref (Ma 5), .ref (Ma 6), .int (Mv 2), .int (Mv 3), .int (Mv 4), .int (Mv 5), .int (Mv 6), .int (Mv 7), .int (Mv 8), .ref (Ma 7), .int (Mv 9), .ref (Ma 8), .int (Mv 10), .ref (Ma 9), .ref (Ma 10), .int (Mv 11), .int (Mv 12), .int (Mv 13), .ref (Ma 11), .int (Mv 14), .ref (Ma 12), .ref (Ma 13), .ref (Ma 14), .ref (Ma 15), .ref (Ma 16), .long (Mj 0), .ref (Ma 17), .ref (Ma 18), .ref (Ma 19), .ref (Ma 20)])), ((Ma 10), .inl (tc 0, 126, .inl (Mf 10)))]) 0 0 := by
  refine Ct.start (by decide) (Nat.le_of_ble_eq_true rfl) (fun p e s m below meth c A ls hx hb hr hlk hin hml hown hts hK hX hP hD hA hl hS => ?_)
  have hl : lv_has ls 3 [(0, .ref (Ma 0)), (1, .int x1), (2, .int x2)] := hl
  have ar_h_said := SaidB.al h_said
  refine lv_aload_n hx hb dX12_sky_0 rfl (lv_at hl 0 rfl) ?_
  refine lv_iload_n hx hb dX12_sky_1 rfl (lv_at hl 1 rfl) ?_
  refine cV (a := (Ma 0)) (As := [.int x1]) (rest := []) (wr := []) ⟨hx, hb, hml, hown, hts⟩ hK hX hA (cu_X12_isClock l D tc sk (Ma 0) (Ma 1) (Ma 2) (Ma 3) (Ma 4) (Ma 5) (Ma 6) (Ma 7) (Ma 8) (Ma 9) (Ma 10) (Ma 11) (Ma 12) (Ma 13) (Ma 14) (Ma 15) (Ma 16) (Ma 17) (Ma 18) (Ma 19) (Ma 20) (Mv 0) (Mv 1) (Mv 2) (Mv 3) (Mv 4) (Mv 5) (Mv 6) (Mv 7) (Mv 8) (Mv 9) (Mv 10) (Mv 11) (Mv 12) (Mv 13) (Mv 14) (Mf 10) (Mj 0) x1 h_said) k_1403 k_1400 k_1402 k_64 k_106 pl_X12_isClock ⟨Nat.le_of_ble_eq_true rfl, Nat.le_of_ble_eq_true rfl⟩ rfl rfl (va_recv hK hP (ci := 12) (q0 := 0) rfl rfl) hP hD hS [0, 1] [] rfl rfl rfl rfl rfl (by decide) rfl hl.1 rfl (Nat.le_of_ble_eq_true rfl) dX12_sky_2 ⟨Nat.le_of_ble_eq_true rfl, Nat.le_of_ble_eq_true rfl⟩ (fun v_1 u_2 H locs hv_3 hP₀ hD₀ hS₀ => ?_)
  obtain ⟨r_4, rfl, he_5⟩ := hv_3
  have he_5 : (r_4.toInt = 0 ∨ (r_4.toInt = 1 ∧ 0 ≤ x1.toInt ∧ x1.toInt < ((Mf 10) 2).toInt ∧ ((Mf 10) 2).toInt ≤ 10)) := he_5
  refine W.eq (g2 := F0 m 5 ls [.int r_4]) rfl ?_
  replace hP : va_P D classes [((Ma 0), .inr (12, [.ref (Ma 1), .int (Mv 0), .int (Mv 1), .ref (Ma 2), .ref (Ma 3), .ref (Ma 4), .ref (Ma 5), .ref (Ma 6), .int (Mv 2), .int (Mv 3), .int (Mv 4), .int (Mv 5), .int (Mv 6), .int (Mv 7), .int (Mv 8), .ref (Ma 7), .int (Mv 9), .ref (Ma 8), .int (Mv 10), .ref (Ma 9), .ref (Ma 10), .int (Mv 11), .int (Mv 12), .int (Mv 13), .ref (Ma 11), .int (Mv 14), .ref (Ma 12), .ref (Ma 13), .ref (Ma 14), .ref (Ma 15), .ref (Ma 16), .long (Mj 0), .ref (Ma 17), .ref (Ma 18), .ref (Ma 19), .ref (Ma 20)])), ((Ma 10), .inl (tc 0, 126, .inl (Mf 10)))] H := hP₀
  replace hD : va_D A [((Ma 0), .inr (12, [.ref (Ma 1), .int (Mv 0), .int (Mv 1), .ref (Ma 2), .ref (Ma 3), .ref (Ma 4), .ref (Ma 5), .ref (Ma 6), .int (Mv 2), .int (Mv 3), .int (Mv 4), .int (Mv 5), .int (Mv 6), .int (Mv 7), .int (Mv 8), .ref (Ma 7), .int (Mv 9), .ref (Ma 8), .int (Mv 10), .ref (Ma 9), .ref (Ma 10), .int (Mv 11), .int (Mv 12), .int (Mv 13), .ref (Ma 11), .int (Mv 14), .ref (Ma 12), .ref (Ma 13), .ref (Ma 14), .ref (Ma 15), .ref (Ma 16), .long (Mj 0), .ref (Ma 17), .ref (Ma 18), .ref (Ma 19), .ref (Ma 20)])), ((Ma 10), .inl (tc 0, 126, .inl (Mf 10)))] := hD₀
  replace hS := hS₀
  clear hP₀ hD₀ hS₀
  refine lv_if_eq (tgt := 18) hx hb dX12_sky_5 (by decide) (fun c_7 => ?_) (fun c_7 => ?_)
  · skip
    refine lv_iconst (v := (-1)) hx hb dX12_sky_18 (by decide) ?_
    exact retI (v := (-1)) hx hb hr hlk (rfl) hP hD hS () ⟨_, rfl, trivial⟩ [0, 1] rfl rfl dX12_sky_19 (Nat.le_of_ble_eq_true rfl) (Nat.le_of_ble_eq_true rfl) rfl
  · skip
    refine lv_iload_n hx hb dX12_sky_8 rfl (lv_at hl 2 rfl) ?_
    refine lv_i2l (v := (x2).toInt64) hx hb dX12_sky_9 rfl ?_
    refine lv_lconst (v := 0) hx hb dX12_sky_10 (by decide) ?_
    refine lv_lconst (v := 1) hx hb dX12_sky_11 (by decide) ?_
    refine cS (As := [.long (x2).toInt64, .long 0, .long 1]) (rest := []) (wr := [((Ma 0), .inr (12, [.ref (Ma 1), .int (Mv 0), .int (Mv 1), .ref (Ma 2), .ref (Ma 3), .ref (Ma 4), .ref (Ma 5), .ref (Ma 6), .int (Mv 2), .int (Mv 3), .int (Mv 4), .int (Mv 5), .int (Mv 6), .int (Mv 7), .int (Mv 8), .ref (Ma 7), .int (Mv 9), .ref (Ma 8), .int (Mv 10), .ref (Ma 9), .ref (Ma 10), .int (Mv 11), .int (Mv 12), .int (Mv 13), .ref (Ma 11), .int (Mv 14), .ref (Ma 12), .ref (Ma 13), .ref (Ma 14), .ref (Ma 15), .ref (Ma 16), .long (Mj 0), .ref (Ma 17), .ref (Ma 18), .ref (Ma 19), .ref (Ma 20)])), ((Ma 10), .inl (tc 0, 126, .inl (Mf 10)))]) ⟨hx, hb, hml, hown, hts⟩ hK hX hA (ct_X12_in l D tc sk ((x2).toInt64) 0 1) k_1259 k_1257 k_1258 k_106 pl_X12_in ⟨Nat.le_of_ble_eq_true rfl, Nat.le_of_ble_eq_true rfl⟩ rfl rfl  hP hD hS [] [0, 1] rfl rfl rfl rfl rfl (by decide) rfl hl.1 rfl (Nat.le_of_ble_eq_true rfl) dX12_sky_12 ⟨Nat.le_of_ble_eq_true rfl, Nat.le_of_ble_eq_true rfl⟩ (fun v_8 u_9 H locs hv_10 hP₀ hD₀ hS₀ => ?_)
    obtain ⟨r_11, rfl, he_12⟩ := hv_10
    have he_12 : (r_11.toInt = 0 ∨ (r_11.toInt = 1 ∧ (0 : Int64).toInt ≤ (x2).toInt64.toInt ∧ (x2).toInt64.toInt ≤ (1 : Int64).toInt)) := he_12
    refine W.eq (g2 := F0 m 15 ls [.int r_11]) rfl ?_
    replace hP : va_P D classes [((Ma 0), .inr (12, [.ref (Ma 1), .int (Mv 0), .int (Mv 1), .ref (Ma 2), .ref (Ma 3), .ref (Ma 4), .ref (Ma 5), .ref (Ma 6), .int (Mv 2), .int (Mv 3), .int (Mv 4), .int (Mv 5), .int (Mv 6), .int (Mv 7), .int (Mv 8), .ref (Ma 7), .int (Mv 9), .ref (Ma 8), .int (Mv 10), .ref (Ma 9), .ref (Ma 10), .int (Mv 11), .int (Mv 12), .int (Mv 13), .ref (Ma 11), .int (Mv 14), .ref (Ma 12), .ref (Ma 13), .ref (Ma 14), .ref (Ma 15), .ref (Ma 16), .long (Mj 0), .ref (Ma 17), .ref (Ma 18), .ref (Ma 19), .ref (Ma 20)])), ((Ma 10), .inl (tc 0, 126, .inl (Mf 10)))] H := hP₀
    replace hD : va_D A [((Ma 0), .inr (12, [.ref (Ma 1), .int (Mv 0), .int (Mv 1), .ref (Ma 2), .ref (Ma 3), .ref (Ma 4), .ref (Ma 5), .ref (Ma 6), .int (Mv 2), .int (Mv 3), .int (Mv 4), .int (Mv 5), .int (Mv 6), .int (Mv 7), .int (Mv 8), .ref (Ma 7), .int (Mv 9), .ref (Ma 8), .int (Mv 10), .ref (Ma 9), .ref (Ma 10), .int (Mv 11), .int (Mv 12), .int (Mv 13), .ref (Ma 11), .int (Mv 14), .ref (Ma 12), .ref (Ma 13), .ref (Ma 14), .ref (Ma 15), .ref (Ma 16), .long (Mj 0), .ref (Ma 17), .ref (Ma 18), .ref (Ma 19), .ref (Ma 20)])), ((Ma 10), .inl (tc 0, 126, .inl (Mf 10)))] := hD₀
    replace hS := hS₀
    clear hP₀ hD₀ hS₀
    have yl_he_12_0 : (0 : Int64).toInt = 0 := by decide
    have yl_he_12_1 : (1 : Int64).toInt = 1 := by decide
    simp only [i32_64] at he_12
    refine lv_if_ne (tgt := 20) hx hb dX12_sky_15 (by decide) (fun c_14 => ?_) (fun c_14 => ?_)
    · skip
      refine lv_iload_n hx hb dX12_sky_20 rfl (lv_at hl 2 rfl) ?_
      refine lv_if_ne (tgt := 36) hx hb dX12_sky_21 (by decide) (fun c_15 => ?_) (fun c_15 => ?_)
      · skip
        refine lv_aload_n hx hb dX12_sky_36 rfl (lv_at hl 0 rfl) ?_
        refine gf_X12_39 hx hb hts hown hK hP 0 rfl rfl dX12_sky_37 ?_
        refine lv_bipush (v := 46) hx hb dX12_sky_40 (by decide) ?_
        refine lv_iload_n hx hb dX12_sky_42 rfl (lv_at hl 1 rfl) ?_
        refine lv_iadd hx hb dX12_sky_43 ?_
        refine lv_topi (fun x_16 ex_16 => ?_)
        have hi_17 : vp_in x_16 126 := by
          have z_1 : ¬ (r_4 : Int32).toInt = (0 : Int32).toInt := fun z => c_7 (Int32.toInt_inj.mp z)
          have z_2 : ¬ (r_11 : Int32).toInt = (0 : Int32).toInt := fun z => c_14 (Int32.toInt_inj.mp z)
          have z_3 : ¬ (x2 : Int32).toInt = (0 : Int32).toInt := fun z => c_15 (Int32.toInt_inj.mp z)
          have y_0 : (0 : Int32).toInt = 0 := by decide
          have y_46 : (46 : Int32).toInt = 46 := by decide
          have t_x_16 : x_16.toInt = (46 : Int32).toInt + (x1 : Int32).toInt := by rw [ex_16]; exact add_toInt (by omega) (by omega)
          refine vp_in_iff.mpr ⟨?_, ?_⟩ <;> omega
        refine va_iald hx hb hK hP 1 0 rfl rfl hi_17 dX12_sky_44 ?_
        refine lv_topi (fun x_18 ex_18 => ?_)
        exact retI (v := x_18) hx hb hr hlk (rfl) hP hD hS () ⟨_, rfl, trivial⟩ [0, 1] rfl rfl dX12_sky_45 (Nat.le_of_ble_eq_true rfl) (Nat.le_of_ble_eq_true rfl) rfl
      · skip
        refine lv_aload_n hx hb dX12_sky_24 rfl (lv_at hl 0 rfl) ?_
        refine gf_X12_39 hx hb hts hown hK hP 0 rfl rfl dX12_sky_25 ?_
        refine lv_bipush (v := 36) hx hb dX12_sky_28 (by decide) ?_
        refine lv_iload_n hx hb dX12_sky_30 rfl (lv_at hl 1 rfl) ?_
        refine lv_iadd hx hb dX12_sky_31 ?_
        refine lv_topi (fun x_19 ex_19 => ?_)
        have hi_20 : vp_in x_19 126 := by
          have z_1 : ¬ (r_4 : Int32).toInt = (0 : Int32).toInt := fun z => c_7 (Int32.toInt_inj.mp z)
          have z_2 : ¬ (r_11 : Int32).toInt = (0 : Int32).toInt := fun z => c_14 (Int32.toInt_inj.mp z)
          have z_3 := congrArg Int32.toInt c_15
          have y_0 : (0 : Int32).toInt = 0 := by decide
          have y_36 : (36 : Int32).toInt = 36 := by decide
          have t_x_19 : x_19.toInt = (36 : Int32).toInt + (x1 : Int32).toInt := by rw [ex_19]; exact add_toInt (by omega) (by omega)
          refine vp_in_iff.mpr ⟨?_, ?_⟩ <;> omega
        refine va_iald hx hb hK hP 1 0 rfl rfl hi_20 dX12_sky_32 ?_
        refine lv_topi (fun x_21 ex_21 => ?_)
        refine lv_goto (tgt := 45) hx hb dX12_sky_33 (by decide) ?_
        exact retI (v := x_21) hx hb hr hlk (rfl) hP hD hS () ⟨_, rfl, trivial⟩ [0, 1] rfl rfl dX12_sky_45 (Nat.le_of_ble_eq_true rfl) (Nat.le_of_ble_eq_true rfl) rfl
    · skip
      refine lv_iconst (v := (-1)) hx hb dX12_sky_18 (by decide) ?_
      exact retI (v := (-1)) hx hb hr hlk (rfl) hP hD hS () ⟨_, rfl, trivial⟩ [0, 1] rfl rfl dX12_sky_19 (Nat.le_of_ble_eq_true rfl) (Nat.le_of_ble_eq_true rfl) rfl
set_option maxHeartbeats 4000000 in
set_option maxRecDepth 100000 in
theorem ct_X12_force (l : Launch) (D : va_G) (tc : Nat → ClassId) (sk : (Nat → Nat) × (Nat → Nat)) (Ma : Nat → Nat) (Mv : Nat → Int32) (Mj : Nat → Int64) (x1 : Int32) (h_frc : -1 ≤ ((Mv 11) : Int32).toInt ∧ ((Mv 11) : Int32).toInt < ((Mv 1) : Int32).toInt ∧ ((Mv 1) : Int32).toInt ≤ 6) (h_r0 : 0 ≤ (Mv 1).toInt) : Ct l yX12_force cX12_force 3 (some .int) { frames := 1, cells := 0, slots := 0, locals := 21 } D tc sk [.ref (Ma 0), .int x1] [((Ma 0), .inr (12, [.ref (Ma 1), .int (Mv 0), .int (Mv 1), .ref (Ma 2), .ref (Ma 3), .ref (Ma 4), .ref (Ma 5), .ref (Ma 6), .int (Mv 2), .int (Mv 3), .int (Mv 4), .int (Mv 5), .int (Mv 6), .int (Mv 7), .int (Mv 8), .ref (Ma 7), .int (Mv 9), .ref (Ma 8), .int (Mv 10), .ref (Ma 9), .ref (Ma 10), .int (Mv 11), .int (Mv 12), .int (Mv 13), .ref (Ma 11), .int (Mv 14), .ref (Ma 12), .ref (Ma 13), .ref (Ma 14), .ref (Ma 15), .ref (Ma 16), .long (Mj 0), .ref (Ma 17), .ref (Ma 18), .ref (Ma 19), .ref (Ma 20)]))] (fun (v : Option Value) (oo0x1 : Int32) => ∃ r : Int32, v = some (.int r) ∧ (True) ∧ (-1 ≤ (oo0x1 : Int32).toInt ∧ (oo0x1 : Int32).toInt < ((Mv 1) : Int32).toInt ∧ ((Mv 1) : Int32).toInt ≤ 6)) (fun (oo0x1 : Int32) => [((Ma 0), .inr (12, [.ref (Ma 1), .int (Mv 0), .int (Mv 1), .ref (Ma 2), .ref (Ma 3), .ref (Ma 4), .ref (Ma 5), .ref (Ma 6), .int (Mv 2), .int (Mv 3), .int (Mv 4), .int (Mv 5), .int (Mv 6), .int (Mv 7), .int (Mv 8), .ref (Ma 7), .int (Mv 9), .ref (Ma 8), .int (Mv 10), .ref (Ma 9), .ref (Ma 10), .int oo0x1, .int (Mv 12), .int (Mv 13), .ref (Ma 11), .int (Mv 14), .ref (Ma 12), .ref (Ma 13), .ref (Ma 14), .ref (Ma 15), .ref (Ma 16), .long (Mj 0), .ref (Ma 17), .ref (Ma 18), .ref (Ma 19), .ref (Ma 20)]))]) 0 0 := by
  refine Ct.start (by decide) (Nat.le_of_ble_eq_true rfl) (fun p e s m below meth c A ls hx hb hr hlk hin hml hown hts hK hX hP hD hA hl hS => ?_)
  have hl : lv_has ls 3 [(0, .ref (Ma 0)), (1, .int x1)] := hl
  refine lv_iload_n hx hb dX12_force_0 rfl (lv_at hl 1 rfl) ?_
  refine lv_iconst (v := (-1)) hx hb dX12_force_1 (by decide) ?_
  refine lv_icmp_eq (tgt := 16) hx hb dX12_force_2 (by decide) (fun c_1 => ?_) (fun c_1 => ?_)
  · skip
    refine lv_aload_n hx hb dX12_force_16 rfl (lv_at hl 0 rfl) ?_
    refine gf_X12_42 hx hb hts hown hK hP 0 rfl rfl dX12_force_17 ?_
    refine lv_istore_n (lv' := [(2, .int (Mv 11)), (0, .ref (Ma 0)), (1, .int x1)]) hx hb dX12_force_20 rfl hl (by decide) rfl (fun ls hl₀ => ?_)
    replace hl := hl₀
    clear hl₀
    refine lv_aload_n hx hb dX12_force_21 rfl (lv_at hl 1 rfl) ?_
    refine lv_iload_n hx hb dX12_force_22 rfl (lv_at hl 2 rfl) ?_
    refine pf_X12_42 hx hb hts hown hK hP hD hS 0 rfl (Nat.le_of_ble_eq_true rfl) rfl rfl dX12_force_23 (fun H locs hP₀ hD₀ hS₀ => ?_)
    replace hP : va_P D classes [((Ma 0), .inr (12, [.ref (Ma 1), .int (Mv 0), .int (Mv 1), .ref (Ma 2), .ref (Ma 3), .ref (Ma 4), .ref (Ma 5), .ref (Ma 6), .int (Mv 2), .int (Mv 3), .int (Mv 4), .int (Mv 5), .int (Mv 6), .int (Mv 7), .int (Mv 8), .ref (Ma 7), .int (Mv 9), .ref (Ma 8), .int (Mv 10), .ref (Ma 9), .ref (Ma 10), .int x1, .int (Mv 12), .int (Mv 13), .ref (Ma 11), .int (Mv 14), .ref (Ma 12), .ref (Ma 13), .ref (Ma 14), .ref (Ma 15), .ref (Ma 16), .long (Mj 0), .ref (Ma 17), .ref (Ma 18), .ref (Ma 19), .ref (Ma 20)]))] H := hP₀
    replace hD : va_D A [((Ma 0), .inr (12, [.ref (Ma 1), .int (Mv 0), .int (Mv 1), .ref (Ma 2), .ref (Ma 3), .ref (Ma 4), .ref (Ma 5), .ref (Ma 6), .int (Mv 2), .int (Mv 3), .int (Mv 4), .int (Mv 5), .int (Mv 6), .int (Mv 7), .int (Mv 8), .ref (Ma 7), .int (Mv 9), .ref (Ma 8), .int (Mv 10), .ref (Ma 9), .ref (Ma 10), .int x1, .int (Mv 12), .int (Mv 13), .ref (Ma 11), .int (Mv 14), .ref (Ma 12), .ref (Ma 13), .ref (Ma 14), .ref (Ma 15), .ref (Ma 16), .long (Mj 0), .ref (Ma 17), .ref (Ma 18), .ref (Ma 19), .ref (Ma 20)]))] := hD₀
    replace hS := hS₀
    clear hP₀ hD₀ hS₀
    refine lv_iload_n hx hb dX12_force_26 rfl (lv_at hl 0 rfl) ?_
    have ha_2 : -1 ≤ (x1 : Int32).toInt ∧ (x1 : Int32).toInt < ((Mv 1) : Int32).toInt ∧ ((Mv 1) : Int32).toInt ≤ 6 := by
      have z_1 := congrArg Int32.toInt c_1
      have y_m1 : (-1 : Int32).toInt = -1 := by decide
      refine ⟨?_, ?_, ?_⟩ <;> omega
    exact retI (v := (Mv 11)) hx hb hr hlk (rfl) hP hD hS x1 ⟨_, rfl, trivial, ha_2⟩ [0] rfl rfl dX12_force_27 (Nat.le_of_ble_eq_true rfl) (Nat.le_of_ble_eq_true rfl) rfl
  · skip
    refine lv_aload_n hx hb dX12_force_5 rfl (lv_at hl 0 rfl) ?_
    refine lv_iload_n hx hb dX12_force_6 rfl (lv_at hl 1 rfl) ?_
    refine cV (a := (Ma 0)) (As := [.int x1]) (rest := []) (wr := []) ⟨hx, hb, hml, hown, hts⟩ hK hX hA (cu_X12_isRule l D tc sk (Ma 0) (Ma 1) (Ma 2) (Ma 3) (Ma 4) (Ma 5) (Ma 6) (Ma 7) (Ma 8) (Ma 9) (Ma 10) (Ma 11) (Ma 12) (Ma 13) (Ma 14) (Ma 15) (Ma 16) (Ma 17) (Ma 18) (Ma 19) (Ma 20) (Mv 0) (Mv 1) (Mv 2) (Mv 3) (Mv 4) (Mv 5) (Mv 6) (Mv 7) (Mv 8) (Mv 9) (Mv 10) (Mv 11) (Mv 12) (Mv 13) (Mv 14) (Mj 0) x1) k_1367 k_1364 k_1366 k_57 k_106 pl_X12_isRule ⟨Nat.le_of_ble_eq_true rfl, Nat.le_of_ble_eq_true rfl⟩ rfl rfl (va_recv hK hP (ci := 12) (q0 := 0) rfl rfl) hP hD hS [0] [] rfl rfl rfl rfl rfl (by decide) rfl hl.1 rfl (Nat.le_of_ble_eq_true rfl) dX12_force_7 ⟨Nat.le_of_ble_eq_true rfl, Nat.le_of_ble_eq_true rfl⟩ (fun v_3 u_4 H locs hv_5 hP₀ hD₀ hS₀ => ?_)
    obtain ⟨r_6, rfl, he_7⟩ := hv_5
    have he_7 : (r_6.toInt = 0 ∨ (r_6.toInt = 1 ∧ 0 ≤ x1.toInt ∧ x1.toInt < (Mv 1).toInt)) := he_7
    refine W.eq (g2 := F0 m 10 ls [.int r_6]) rfl ?_
    replace hP : va_P D classes [((Ma 0), .inr (12, [.ref (Ma 1), .int (Mv 0), .int (Mv 1), .ref (Ma 2), .ref (Ma 3), .ref (Ma 4), .ref (Ma 5), .ref (Ma 6), .int (Mv 2), .int (Mv 3), .int (Mv 4), .int (Mv 5), .int (Mv 6), .int (Mv 7), .int (Mv 8), .ref (Ma 7), .int (Mv 9), .ref (Ma 8), .int (Mv 10), .ref (Ma 9), .ref (Ma 10), .int (Mv 11), .int (Mv 12), .int (Mv 13), .ref (Ma 11), .int (Mv 14), .ref (Ma 12), .ref (Ma 13), .ref (Ma 14), .ref (Ma 15), .ref (Ma 16), .long (Mj 0), .ref (Ma 17), .ref (Ma 18), .ref (Ma 19), .ref (Ma 20)]))] H := hP₀
    replace hD : va_D A [((Ma 0), .inr (12, [.ref (Ma 1), .int (Mv 0), .int (Mv 1), .ref (Ma 2), .ref (Ma 3), .ref (Ma 4), .ref (Ma 5), .ref (Ma 6), .int (Mv 2), .int (Mv 3), .int (Mv 4), .int (Mv 5), .int (Mv 6), .int (Mv 7), .int (Mv 8), .ref (Ma 7), .int (Mv 9), .ref (Ma 8), .int (Mv 10), .ref (Ma 9), .ref (Ma 10), .int (Mv 11), .int (Mv 12), .int (Mv 13), .ref (Ma 11), .int (Mv 14), .ref (Ma 12), .ref (Ma 13), .ref (Ma 14), .ref (Ma 15), .ref (Ma 16), .long (Mj 0), .ref (Ma 17), .ref (Ma 18), .ref (Ma 19), .ref (Ma 20)]))] := hD₀
    replace hS := hS₀
    clear hP₀ hD₀ hS₀
    refine lv_if_ne (tgt := 16) hx hb dX12_force_10 (by decide) (fun c_9 => ?_) (fun c_9 => ?_)
    · skip
      refine lv_aload_n hx hb dX12_force_16 rfl (lv_at hl 0 rfl) ?_
      refine gf_X12_42 hx hb hts hown hK hP 0 rfl rfl dX12_force_17 ?_
      refine lv_istore_n (lv' := [(2, .int (Mv 11)), (0, .ref (Ma 0)), (1, .int x1)]) hx hb dX12_force_20 rfl hl (by decide) rfl (fun ls hl₀ => ?_)
      replace hl := hl₀
      clear hl₀
      refine lv_aload_n hx hb dX12_force_21 rfl (lv_at hl 1 rfl) ?_
      refine lv_iload_n hx hb dX12_force_22 rfl (lv_at hl 2 rfl) ?_
      refine pf_X12_42 hx hb hts hown hK hP hD hS 0 rfl (Nat.le_of_ble_eq_true rfl) rfl rfl dX12_force_23 (fun H locs hP₀ hD₀ hS₀ => ?_)
      replace hP : va_P D classes [((Ma 0), .inr (12, [.ref (Ma 1), .int (Mv 0), .int (Mv 1), .ref (Ma 2), .ref (Ma 3), .ref (Ma 4), .ref (Ma 5), .ref (Ma 6), .int (Mv 2), .int (Mv 3), .int (Mv 4), .int (Mv 5), .int (Mv 6), .int (Mv 7), .int (Mv 8), .ref (Ma 7), .int (Mv 9), .ref (Ma 8), .int (Mv 10), .ref (Ma 9), .ref (Ma 10), .int x1, .int (Mv 12), .int (Mv 13), .ref (Ma 11), .int (Mv 14), .ref (Ma 12), .ref (Ma 13), .ref (Ma 14), .ref (Ma 15), .ref (Ma 16), .long (Mj 0), .ref (Ma 17), .ref (Ma 18), .ref (Ma 19), .ref (Ma 20)]))] H := hP₀
      replace hD : va_D A [((Ma 0), .inr (12, [.ref (Ma 1), .int (Mv 0), .int (Mv 1), .ref (Ma 2), .ref (Ma 3), .ref (Ma 4), .ref (Ma 5), .ref (Ma 6), .int (Mv 2), .int (Mv 3), .int (Mv 4), .int (Mv 5), .int (Mv 6), .int (Mv 7), .int (Mv 8), .ref (Ma 7), .int (Mv 9), .ref (Ma 8), .int (Mv 10), .ref (Ma 9), .ref (Ma 10), .int x1, .int (Mv 12), .int (Mv 13), .ref (Ma 11), .int (Mv 14), .ref (Ma 12), .ref (Ma 13), .ref (Ma 14), .ref (Ma 15), .ref (Ma 16), .long (Mj 0), .ref (Ma 17), .ref (Ma 18), .ref (Ma 19), .ref (Ma 20)]))] := hD₀
      replace hS := hS₀
      clear hP₀ hD₀ hS₀
      refine lv_iload_n hx hb dX12_force_26 rfl (lv_at hl 0 rfl) ?_
      have ha_10 : -1 ≤ (x1 : Int32).toInt ∧ (x1 : Int32).toInt < ((Mv 1) : Int32).toInt ∧ ((Mv 1) : Int32).toInt ≤ 6 := by
        have z_1 : ¬ (x1 : Int32).toInt = ((-1) : Int32).toInt := fun z => c_1 (Int32.toInt_inj.mp z)
        have z_2 : ¬ (r_6 : Int32).toInt = (0 : Int32).toInt := fun z => c_9 (Int32.toInt_inj.mp z)
        have y_m1 : (-1 : Int32).toInt = -1 := by decide
        have y_0 : (0 : Int32).toInt = 0 := by decide
        refine ⟨?_, ?_, ?_⟩ <;> omega
      exact retI (v := (Mv 11)) hx hb hr hlk (rfl) hP hD hS x1 ⟨_, rfl, trivial, ha_10⟩ [0] rfl rfl dX12_force_27 (Nat.le_of_ble_eq_true rfl) (Nat.le_of_ble_eq_true rfl) rfl
    · skip
      refine lv_bipush (v := (-2)) hx hb dX12_force_13 (by decide) ?_
      exact retI (v := (-2)) hx hb hr hlk (rfl) hP hD hS (Mv 11) ⟨_, rfl, trivial, h_frc⟩ [0] rfl rfl dX12_force_15 (Nat.le_of_ble_eq_true rfl) (Nat.le_of_ble_eq_true rfl) rfl
set_option maxHeartbeats 4000000 in
set_option maxRecDepth 100000 in
theorem ct_X12_image_o (l : Launch) (D : va_G) (tc : Nat → ClassId) (sk : (Nat → Nat) × (Nat → Nat)) (Ma : Nat → Nat) (Mv : Nat → Int32) (Mf : Nat → Nat → Int32) (Mj : Nat → Int64) (x1 : Int32) (h_k : x1.toInt < 0 ∨ 3 < x1.toInt) : Ct l yX12_image cX12_image 3 (some .int) { frames := 1, cells := 0, slots := 0, locals := 25 } D tc sk [.ref (Ma 0), .int x1] [((Ma 0), .inr (12, [.ref (Ma 1), .int (Mv 0), .int (Mv 1), .ref (Ma 2), .ref (Ma 3), .ref (Ma 4), .ref (Ma 5), .ref (Ma 6), .int (Mv 2), .int (Mv 3), .int (Mv 4), .int (Mv 5), .int (Mv 6), .int (Mv 7), .int (Mv 8), .ref (Ma 7), .int (Mv 9), .ref (Ma 8), .int (Mv 10), .ref (Ma 9), .ref (Ma 10), .int (Mv 11), .int (Mv 12), .int (Mv 13), .ref (Ma 11), .int (Mv 14), .ref (Ma 12), .ref (Ma 13), .ref (Ma 14), .ref (Ma 15), .ref (Ma 16), .long (Mj 0), .ref (Ma 17), .ref (Ma 18), .ref (Ma 19), .ref (Ma 20)])), ((Ma 10), .inl (tc 0, 126, .inl (Mf 10))), ((Ma 17), .inl (tc 0, 504, .inl (Mf 17))), ((Ma 18), .inl (tc 0, 4, .inl (Mf 18))), ((Ma 19), .inl (tc 0, 4, .inl (Mf 19))), ((Ma 20), .inl (tc 3, 4, .inl (Mf 20)))] (fun (v : Option Value) (_ : Unit) => ∃ r : Int32, v = some (.int r) ∧ (True)) (fun (_ : Unit) => [((Ma 0), .inr (12, [.ref (Ma 1), .int (Mv 0), .int (Mv 1), .ref (Ma 2), .ref (Ma 3), .ref (Ma 4), .ref (Ma 5), .ref (Ma 6), .int (Mv 2), .int (Mv 3), .int (Mv 4), .int (Mv 5), .int (Mv 6), .int (Mv 7), .int (Mv 8), .ref (Ma 7), .int (Mv 9), .ref (Ma 8), .int (Mv 10), .ref (Ma 9), .ref (Ma 10), .int (Mv 11), .int (Mv 12), .int (Mv 13), .ref (Ma 11), .int (Mv 14), .ref (Ma 12), .ref (Ma 13), .ref (Ma 14), .ref (Ma 15), .ref (Ma 16), .long (Mj 0), .ref (Ma 17), .ref (Ma 18), .ref (Ma 19), .ref (Ma 20)])), ((Ma 10), .inl (tc 0, 126, .inl (Mf 10))), ((Ma 17), .inl (tc 0, 504, .inl (Mf 17))), ((Ma 18), .inl (tc 0, 4, .inl (Mf 18))), ((Ma 19), .inl (tc 0, 4, .inl (Mf 19))), ((Ma 20), .inl (tc 3, 4, .inl (Mf 20)))]) 0 0 := by
  refine Ct.start (by decide) (Nat.le_of_ble_eq_true rfl) (fun p e s m below meth c A ls hx hb hr hlk hin hml hown hts hK hX hP hD hA hl hS => ?_)
  have hl : lv_has ls 3 [(0, .ref (Ma 0)), (1, .int x1)] := hl
  refine lv_iload_n hx hb dX12_image_0 rfl (lv_at hl 1 rfl) ?_
  refine lv_i2l (v := (x1).toInt64) hx hb dX12_image_1 rfl ?_
  refine lv_lconst (v := 0) hx hb dX12_image_2 (by decide) ?_
  refine lv_ldc2 hx hb hown (hts _ k_1651) dX12_image_3 ?_
  refine cS (As := [.long (x1).toInt64, .long 0, .long 3]) (rest := []) (wr := [((Ma 0), .inr (12, [.ref (Ma 1), .int (Mv 0), .int (Mv 1), .ref (Ma 2), .ref (Ma 3), .ref (Ma 4), .ref (Ma 5), .ref (Ma 6), .int (Mv 2), .int (Mv 3), .int (Mv 4), .int (Mv 5), .int (Mv 6), .int (Mv 7), .int (Mv 8), .ref (Ma 7), .int (Mv 9), .ref (Ma 8), .int (Mv 10), .ref (Ma 9), .ref (Ma 10), .int (Mv 11), .int (Mv 12), .int (Mv 13), .ref (Ma 11), .int (Mv 14), .ref (Ma 12), .ref (Ma 13), .ref (Ma 14), .ref (Ma 15), .ref (Ma 16), .long (Mj 0), .ref (Ma 17), .ref (Ma 18), .ref (Ma 19), .ref (Ma 20)])), ((Ma 10), .inl (tc 0, 126, .inl (Mf 10))), ((Ma 17), .inl (tc 0, 504, .inl (Mf 17))), ((Ma 18), .inl (tc 0, 4, .inl (Mf 18))), ((Ma 19), .inl (tc 0, 4, .inl (Mf 19))), ((Ma 20), .inl (tc 3, 4, .inl (Mf 20)))]) ⟨hx, hb, hml, hown, hts⟩ hK hX hA (ct_X12_in2 l D tc sk ((x1).toInt64) 0 3) k_1259 k_1257 k_1258 k_106 pl_X12_in ⟨Nat.le_of_ble_eq_true rfl, Nat.le_of_ble_eq_true rfl⟩ rfl rfl  hP hD hS [] [0, 1, 2, 3, 4, 5] rfl rfl rfl rfl rfl (by decide) rfl hl.1 rfl (Nat.le_of_ble_eq_true rfl) dX12_image_6 ⟨Nat.le_of_ble_eq_true rfl, Nat.le_of_ble_eq_true rfl⟩ (fun v_1 u_2 H locs hv_3 hP₀ hD₀ hS₀ => ?_)
  obtain ⟨r_4, rfl, he_5⟩ := hv_3
  have he_5 : ((r_4.toInt = 0 ∧ ((x1).toInt64.toInt < (0 : Int64).toInt ∨ (3 : Int64).toInt < (x1).toInt64.toInt)) ∨ (r_4.toInt = 1 ∧ (0 : Int64).toInt ≤ (x1).toInt64.toInt ∧ (x1).toInt64.toInt ≤ (3 : Int64).toInt)) := he_5
  refine W.eq (g2 := F0 m 9 ls [.int r_4]) rfl ?_
  replace hP : va_P D classes [((Ma 0), .inr (12, [.ref (Ma 1), .int (Mv 0), .int (Mv 1), .ref (Ma 2), .ref (Ma 3), .ref (Ma 4), .ref (Ma 5), .ref (Ma 6), .int (Mv 2), .int (Mv 3), .int (Mv 4), .int (Mv 5), .int (Mv 6), .int (Mv 7), .int (Mv 8), .ref (Ma 7), .int (Mv 9), .ref (Ma 8), .int (Mv 10), .ref (Ma 9), .ref (Ma 10), .int (Mv 11), .int (Mv 12), .int (Mv 13), .ref (Ma 11), .int (Mv 14), .ref (Ma 12), .ref (Ma 13), .ref (Ma 14), .ref (Ma 15), .ref (Ma 16), .long (Mj 0), .ref (Ma 17), .ref (Ma 18), .ref (Ma 19), .ref (Ma 20)])), ((Ma 10), .inl (tc 0, 126, .inl (Mf 10))), ((Ma 17), .inl (tc 0, 504, .inl (Mf 17))), ((Ma 18), .inl (tc 0, 4, .inl (Mf 18))), ((Ma 19), .inl (tc 0, 4, .inl (Mf 19))), ((Ma 20), .inl (tc 3, 4, .inl (Mf 20)))] H := hP₀
  replace hD : va_D A [((Ma 0), .inr (12, [.ref (Ma 1), .int (Mv 0), .int (Mv 1), .ref (Ma 2), .ref (Ma 3), .ref (Ma 4), .ref (Ma 5), .ref (Ma 6), .int (Mv 2), .int (Mv 3), .int (Mv 4), .int (Mv 5), .int (Mv 6), .int (Mv 7), .int (Mv 8), .ref (Ma 7), .int (Mv 9), .ref (Ma 8), .int (Mv 10), .ref (Ma 9), .ref (Ma 10), .int (Mv 11), .int (Mv 12), .int (Mv 13), .ref (Ma 11), .int (Mv 14), .ref (Ma 12), .ref (Ma 13), .ref (Ma 14), .ref (Ma 15), .ref (Ma 16), .long (Mj 0), .ref (Ma 17), .ref (Ma 18), .ref (Ma 19), .ref (Ma 20)])), ((Ma 10), .inl (tc 0, 126, .inl (Mf 10))), ((Ma 17), .inl (tc 0, 504, .inl (Mf 17))), ((Ma 18), .inl (tc 0, 4, .inl (Mf 18))), ((Ma 19), .inl (tc 0, 4, .inl (Mf 19))), ((Ma 20), .inl (tc 3, 4, .inl (Mf 20)))] := hD₀
  replace hS := hS₀
  clear hP₀ hD₀ hS₀
  have yl_he_5_0 : (0 : Int64).toInt = 0 := by decide
  have yl_he_5_3 : (3 : Int64).toInt = 3 := by decide
  simp only [i32_64] at he_5
  refine lv_if_ne (tgt := 14) hx hb dX12_image_9 (by decide) (fun c_7 => ?_) (fun c_7 => ?_)
  · skip
    exfalso
    have z_1 : ¬ (r_4 : Int32).toInt = (0 : Int32).toInt := fun z => c_7 (Int32.toInt_inj.mp z)
    have y_0 : (0 : Int32).toInt = 0 := by decide
    omega
  · skip
    refine lv_iconst (v := (-1)) hx hb dX12_image_12 (by decide) ?_
    exact retI (v := (-1)) hx hb hr hlk (rfl) hP hD hS () ⟨_, rfl, trivial⟩ [0, 1, 2, 3, 4, 5] rfl rfl dX12_image_13 (Nat.le_of_ble_eq_true rfl) (Nat.le_of_ble_eq_true rfl) rfl
set_option maxHeartbeats 4000000 in
set_option maxRecDepth 100000 in
theorem ct_X12_back_o (l : Launch) (D : va_G) (tc : Nat → ClassId) (sk : (Nat → Nat) × (Nat → Nat)) (Ma : Nat → Nat) (Mv : Nat → Int32) (Mf : Nat → Nat → Int32) (Mj : Nat → Int64) (x1 : Int32) (h_k : x1.toInt < 0 ∨ 3 < x1.toInt ∨ ((Mf 20) x1.toNatClampNeg).toInt = 0) : Ct l yX12_back cX12_back 3 (some .int) { frames := 1, cells := 0, slots := 0, locals := 25 } D tc sk [.ref (Ma 0), .int x1] [((Ma 0), .inr (12, [.ref (Ma 1), .int (Mv 0), .int (Mv 1), .ref (Ma 2), .ref (Ma 3), .ref (Ma 4), .ref (Ma 5), .ref (Ma 6), .int (Mv 2), .int (Mv 3), .int (Mv 4), .int (Mv 5), .int (Mv 6), .int (Mv 7), .int (Mv 8), .ref (Ma 7), .int (Mv 9), .ref (Ma 8), .int (Mv 10), .ref (Ma 9), .ref (Ma 10), .int (Mv 11), .int (Mv 12), .int (Mv 13), .ref (Ma 11), .int (Mv 14), .ref (Ma 12), .ref (Ma 13), .ref (Ma 14), .ref (Ma 15), .ref (Ma 16), .long (Mj 0), .ref (Ma 17), .ref (Ma 18), .ref (Ma 19), .ref (Ma 20)])), ((Ma 10), .inl (tc 0, 126, .inl (Mf 10))), ((Ma 17), .inl (tc 0, 504, .inl (Mf 17))), ((Ma 18), .inl (tc 0, 4, .inl (Mf 18))), ((Ma 19), .inl (tc 0, 4, .inl (Mf 19))), ((Ma 20), .inl (tc 3, 4, .inl (Mf 20)))] (fun (v : Option Value) (_ : Unit) => ∃ r : Int32, v = some (.int r) ∧ (True)) (fun (_ : Unit) => [((Ma 0), .inr (12, [.ref (Ma 1), .int (Mv 0), .int (Mv 1), .ref (Ma 2), .ref (Ma 3), .ref (Ma 4), .ref (Ma 5), .ref (Ma 6), .int (Mv 2), .int (Mv 3), .int (Mv 4), .int (Mv 5), .int (Mv 6), .int (Mv 7), .int (Mv 8), .ref (Ma 7), .int (Mv 9), .ref (Ma 8), .int (Mv 10), .ref (Ma 9), .ref (Ma 10), .int (Mv 11), .int (Mv 12), .int (Mv 13), .ref (Ma 11), .int (Mv 14), .ref (Ma 12), .ref (Ma 13), .ref (Ma 14), .ref (Ma 15), .ref (Ma 16), .long (Mj 0), .ref (Ma 17), .ref (Ma 18), .ref (Ma 19), .ref (Ma 20)])), ((Ma 10), .inl (tc 0, 126, .inl (Mf 10))), ((Ma 17), .inl (tc 0, 504, .inl (Mf 17))), ((Ma 18), .inl (tc 0, 4, .inl (Mf 18))), ((Ma 19), .inl (tc 0, 4, .inl (Mf 19))), ((Ma 20), .inl (tc 3, 4, .inl (Mf 20)))]) 0 0 := by
  refine Ct.start (by decide) (Nat.le_of_ble_eq_true rfl) (fun p e s m below meth c A ls hx hb hr hlk hin hml hown hts hK hX hP hD hA hl hS => ?_)
  have hl : lv_has ls 3 [(0, .ref (Ma 0)), (1, .int x1)] := hl
  refine lv_iload_n hx hb dX12_back_0 rfl (lv_at hl 1 rfl) ?_
  refine lv_i2l (v := (x1).toInt64) hx hb dX12_back_1 rfl ?_
  refine lv_lconst (v := 0) hx hb dX12_back_2 (by decide) ?_
  refine lv_ldc2 hx hb hown (hts _ k_1651) dX12_back_3 ?_
  refine cS (As := [.long (x1).toInt64, .long 0, .long 3]) (rest := []) (wr := [((Ma 0), .inr (12, [.ref (Ma 1), .int (Mv 0), .int (Mv 1), .ref (Ma 2), .ref (Ma 3), .ref (Ma 4), .ref (Ma 5), .ref (Ma 6), .int (Mv 2), .int (Mv 3), .int (Mv 4), .int (Mv 5), .int (Mv 6), .int (Mv 7), .int (Mv 8), .ref (Ma 7), .int (Mv 9), .ref (Ma 8), .int (Mv 10), .ref (Ma 9), .ref (Ma 10), .int (Mv 11), .int (Mv 12), .int (Mv 13), .ref (Ma 11), .int (Mv 14), .ref (Ma 12), .ref (Ma 13), .ref (Ma 14), .ref (Ma 15), .ref (Ma 16), .long (Mj 0), .ref (Ma 17), .ref (Ma 18), .ref (Ma 19), .ref (Ma 20)])), ((Ma 10), .inl (tc 0, 126, .inl (Mf 10))), ((Ma 17), .inl (tc 0, 504, .inl (Mf 17))), ((Ma 18), .inl (tc 0, 4, .inl (Mf 18))), ((Ma 19), .inl (tc 0, 4, .inl (Mf 19))), ((Ma 20), .inl (tc 3, 4, .inl (Mf 20)))]) ⟨hx, hb, hml, hown, hts⟩ hK hX hA (ct_X12_in2 l D tc sk ((x1).toInt64) 0 3) k_1259 k_1257 k_1258 k_106 pl_X12_in ⟨Nat.le_of_ble_eq_true rfl, Nat.le_of_ble_eq_true rfl⟩ rfl rfl  hP hD hS [] [0, 1, 2, 3, 4, 5] rfl rfl rfl rfl rfl (by decide) rfl hl.1 rfl (Nat.le_of_ble_eq_true rfl) dX12_back_6 ⟨Nat.le_of_ble_eq_true rfl, Nat.le_of_ble_eq_true rfl⟩ (fun v_1 u_2 H locs hv_3 hP₀ hD₀ hS₀ => ?_)
  obtain ⟨r_4, rfl, he_5⟩ := hv_3
  have he_5 : ((r_4.toInt = 0 ∧ ((x1).toInt64.toInt < (0 : Int64).toInt ∨ (3 : Int64).toInt < (x1).toInt64.toInt)) ∨ (r_4.toInt = 1 ∧ (0 : Int64).toInt ≤ (x1).toInt64.toInt ∧ (x1).toInt64.toInt ≤ (3 : Int64).toInt)) := he_5
  refine W.eq (g2 := F0 m 9 ls [.int r_4]) rfl ?_
  replace hP : va_P D classes [((Ma 0), .inr (12, [.ref (Ma 1), .int (Mv 0), .int (Mv 1), .ref (Ma 2), .ref (Ma 3), .ref (Ma 4), .ref (Ma 5), .ref (Ma 6), .int (Mv 2), .int (Mv 3), .int (Mv 4), .int (Mv 5), .int (Mv 6), .int (Mv 7), .int (Mv 8), .ref (Ma 7), .int (Mv 9), .ref (Ma 8), .int (Mv 10), .ref (Ma 9), .ref (Ma 10), .int (Mv 11), .int (Mv 12), .int (Mv 13), .ref (Ma 11), .int (Mv 14), .ref (Ma 12), .ref (Ma 13), .ref (Ma 14), .ref (Ma 15), .ref (Ma 16), .long (Mj 0), .ref (Ma 17), .ref (Ma 18), .ref (Ma 19), .ref (Ma 20)])), ((Ma 10), .inl (tc 0, 126, .inl (Mf 10))), ((Ma 17), .inl (tc 0, 504, .inl (Mf 17))), ((Ma 18), .inl (tc 0, 4, .inl (Mf 18))), ((Ma 19), .inl (tc 0, 4, .inl (Mf 19))), ((Ma 20), .inl (tc 3, 4, .inl (Mf 20)))] H := hP₀
  replace hD : va_D A [((Ma 0), .inr (12, [.ref (Ma 1), .int (Mv 0), .int (Mv 1), .ref (Ma 2), .ref (Ma 3), .ref (Ma 4), .ref (Ma 5), .ref (Ma 6), .int (Mv 2), .int (Mv 3), .int (Mv 4), .int (Mv 5), .int (Mv 6), .int (Mv 7), .int (Mv 8), .ref (Ma 7), .int (Mv 9), .ref (Ma 8), .int (Mv 10), .ref (Ma 9), .ref (Ma 10), .int (Mv 11), .int (Mv 12), .int (Mv 13), .ref (Ma 11), .int (Mv 14), .ref (Ma 12), .ref (Ma 13), .ref (Ma 14), .ref (Ma 15), .ref (Ma 16), .long (Mj 0), .ref (Ma 17), .ref (Ma 18), .ref (Ma 19), .ref (Ma 20)])), ((Ma 10), .inl (tc 0, 126, .inl (Mf 10))), ((Ma 17), .inl (tc 0, 504, .inl (Mf 17))), ((Ma 18), .inl (tc 0, 4, .inl (Mf 18))), ((Ma 19), .inl (tc 0, 4, .inl (Mf 19))), ((Ma 20), .inl (tc 3, 4, .inl (Mf 20)))] := hD₀
  replace hS := hS₀
  clear hP₀ hD₀ hS₀
  have yl_he_5_0 : (0 : Int64).toInt = 0 := by decide
  have yl_he_5_3 : (3 : Int64).toInt = 3 := by decide
  simp only [i32_64] at he_5
  refine lv_if_eq (tgt := 21) hx hb dX12_back_9 (by decide) (fun c_7 => ?_) (fun c_7 => ?_)
  · skip
    refine lv_iconst (v := (-1)) hx hb dX12_back_21 (by decide) ?_
    exact retI (v := (-1)) hx hb hr hlk (rfl) hP hD hS () ⟨_, rfl, trivial⟩ [0, 1, 2, 3, 4, 5] rfl rfl dX12_back_22 (Nat.le_of_ble_eq_true rfl) (Nat.le_of_ble_eq_true rfl) rfl
  · skip
    refine lv_aload_n hx hb dX12_back_12 rfl (lv_at hl 0 rfl) ?_
    refine gf_X12_74 hx hb hts hown hK hP 0 rfl rfl dX12_back_13 ?_
    refine lv_iload_n hx hb dX12_back_16 rfl (lv_at hl 1 rfl) ?_
    have hi_8 : vp_in x1 4 := by
      have z_1 : ¬ (r_4 : Int32).toInt = (0 : Int32).toInt := fun z => c_7 (Int32.toInt_inj.mp z)
      have y_0 : (0 : Int32).toInt = 0 := by decide
      refine vp_in_iff.mpr ⟨?_, ?_⟩ <;> omega
    refine va_zald hx hb hK hP 5 3 rfl rfl hi_8 dX12_back_17 ?_
    refine lv_topi (fun x_9 ex_9 => ?_)
    have kx_9 : x_9.toInt = ((Mf 20) x1.toNatClampNeg).toInt := congrArg Int32.toInt ex_9
    refine lv_if_ne (tgt := 23) hx hb dX12_back_18 (by decide) (fun c_10 => ?_) (fun c_10 => ?_)
    · skip
      exfalso
      have z_1 : ¬ (r_4 : Int32).toInt = (0 : Int32).toInt := fun z => c_7 (Int32.toInt_inj.mp z)
      have z_2 : ¬ (x_9 : Int32).toInt = (0 : Int32).toInt := fun z => c_10 (Int32.toInt_inj.mp z)
      have y_0 : (0 : Int32).toInt = 0 := by decide
      omega
    · skip
      refine lv_iconst (v := (-1)) hx hb dX12_back_21 (by decide) ?_
      exact retI (v := (-1)) hx hb hr hlk (rfl) hP hD hS () ⟨_, rfl, trivial⟩ [0, 1, 2, 3, 4, 5] rfl rfl dX12_back_22 (Nat.le_of_ble_eq_true rfl) (Nat.le_of_ble_eq_true rfl) rfl
def Ltr (f : Nat → Int32) (tp k : Int32) : Prop := k.toInt < tp.toInt ∧ 97 ≤ (f k.toNatClampNeg).toInt ∧ (f k.toNatClampNeg).toInt ≤ 122
def NLtr (f : Nat → Int32) (tp k : Int32) : Prop := ¬ Ltr f tp k
def Dgt (f : Nat → Int32) (tp k : Int32) : Prop := k.toInt < tp.toInt ∧ 48 ≤ (f k.toNatClampNeg).toInt ∧ (f k.toNatClampNeg).toInt ≤ 57
def NDgt (f : Nat → Int32) (tp k : Int32) : Prop := ¬ Dgt f tp k
def Adv (a b : Int32) : Prop := b = a ∨ a.toInt + 1 ≤ b.toInt
theorem Adv.ltr {f : Nat → Int32} {tp a b : Int32} (h : Adv a b) (h1 : Ltr f tp a) (h2 : NLtr f tp b) : a.toInt + 1 ≤ b.toInt := by
  rcases h with h | h
  · subst h; exact absurd h1 h2
  · exact h
theorem Adv.dgt {f : Nat → Int32} {tp a b : Int32} (h : Adv a b) (h1 : Dgt f tp a) (h2 : NDgt f tp b) : a.toInt + 1 ≤ b.toInt := by
  rcases h with h | h
  · subst h; exact absurd h1 h2
  · exact h
def LtN (f : Nat → Int32) (tp nx n : Int32) : Prop := 1 ≤ n.toInt → Ltr f tp nx
theorem LtN.step {f : Nat → Int32} {tp nx n n' x : Int32} (h : LtN f tp nx n) (h1 : Ltr f tp x) (hx : x.toInt = nx.toInt + n.toInt) (hn : 0 ≤ n.toInt) : LtN f tp nx n' := by
  intro _
  by_cases z : n.toInt = 0
  · have e : x = nx := Int32.toInt_inj.mp (by omega)
    rw [← e]; exact h1
  · exact h (by omega)
theorem Agr.rf {f : Nat → Int32} {k : Int} : Agr f f k := fun _ _ => rfl
theorem Agr.mono {f g : Nat → Int32} {k k' : Int} (h1 : Agr f g k) (hk : k' ≤ k) : Agr f g k' := fun i hi => h1 i (by omega)
theorem Cd.ar {sg ln : Nat → Int32} {t b md : Int32} {d : Nat} (h : Cd sg ln t b md d) : 0 ≤ t.toInt ∧ t.toInt ≤ 5 ∧ 0 ≤ b.toInt ∧ b.toInt ≤ (ln t.toNatClampNeg).toInt ∧ (ln t.toNatClampNeg).toInt ≤ 400 ∧ (d : Int) ≤ md.toInt ∧ md.toInt ≤ 60 := h.1
theorem Cd.mono {sg ln : Nat → Int32} {t b md md' : Int32} {d : Nat} (h : Cd sg ln t b md d) (hm : md.toInt ≤ md'.toInt ∧ md'.toInt ≤ 60) : Cd sg ln t b md' d := by
  obtain ⟨h1, h2⟩ := h
  exact ⟨by omega, h2⟩
theorem Cd.nil {sg ln : Nat → Int32} {t b md : Int32} (ht : 0 ≤ t.toInt ∧ t.toInt ≤ 5) (hb : b = ln t.toNatClampNeg) (h0 : 0 ≤ b.toInt ∧ b.toInt ≤ 400) (hm : 0 ≤ md.toInt ∧ md.toInt ≤ 60) : Cd sg ln t b md 0 := by
  subst hb
  refine ⟨by omega, ?_⟩
  rw [Nat.sub_self]
  rfl
theorem and16 (n : Int32) : ((0 + 16 * n : Int32) &&& 15).toInt = 0 := by
  have e : ((0 + 16 * n : Int32) &&& 15) = 0 := by
    apply Int32.toBitVec_inj.mp
    apply BitVec.eq_of_toNat_eq
    have h1 : ((0 + 16 * n : Int32) &&& 15).toBitVec.toNat = (0 + 16 * n : Int32).toBitVec.toNat &&& 15 := rfl
    rw [h1, show (15 : Nat) = 2 ^ 4 - 1 from rfl, Nat.and_two_pow_sub_one_eq_mod]
    have h2 : (0 + 16 * n : Int32).toBitVec.toNat = (0 + (16 * n.toBitVec.toNat) % 2 ^ 32) % 2 ^ 32 := rfl
    rw [h2]
    show _ = 0
    omega
  rw [e]
  decide
theorem StpR.num {n : Int32} {d : Nat} (hd : (d : Int) < 60) : StpR 0 n d (d + 1) := by
  unfold StpR stp
  rw [if_pos (and16 n), if_pos (by omega)]
theorem pnd_congr {op op' : Nat → Int32} (n : Nat) (h : ∀ i, i < n → op' i = op i) : pnd op' n = pnd op n := by
  induction n with
  | zero => rfl
  | succ n ih =>
    show pnd op' n + _ = pnd op n + _
    rw [ih (fun i hi => h i (by omega)), h n (by omega)]
theorem OpS.ar {op : Nat → Int32} {n : Int32} {p : Nat} (h : OpS op n p) : 0 ≤ n.toInt ∧ n.toInt ≤ 400 := h.1
theorem OpS.nil {op : Nat → Int32} {n : Int32} (h : n.toInt = 0) : OpS op n 0 := ⟨by omega, fun k hk => by omega, by rw [h]; rfl⟩
theorem OpS.push {op op' : Nat → Int32} {n n' x : Int32} {p : Nat} (h : OpS op n p) (e : op' = upd op n.toNatClampNeg x) (hn : n'.toInt = n.toInt + 1) (hl : n.toInt < 400) (hx : x.toInt = 11 ∨ x.toInt = 12 ∨ x.toInt = 13 ∨ x.toInt = 91) : OpS op' n' (p + (if x.toInt = 12 ∨ x.toInt = 13 then 1 else 0)) := by
  obtain ⟨h1, h2, h3⟩ := h
  have en : n.toNatClampNeg = n.toInt.toNat := rfl
  subst e
  refine ⟨by omega, fun k hk => ?_, ?_⟩
  · by_cases z : k = n.toNatClampNeg
    · rw [z, upd_at]; exact hx
    · rw [upd_ne z]; exact h2 k (by omega)
  · have e1 : n'.toInt.toNat = n.toInt.toNat + 1 := by omega
    rw [e1]
    show pnd _ n.toInt.toNat + _ = _
    rw [pnd_congr (op := op) _ (fun i hi => upd_ne (by omega)), h3, show n.toInt.toNat = n.toNatClampNeg from rfl, upd_at]
def LBR (op : Nat → Int32) (n : Int32) (sg ln : Nat → Int32) (t b md : Int32) : Prop := ∃ p : Nat, OpS op n p ∧ Cd sg ln t b md p
theorem LBR.ar {op : Nat → Int32} {n : Int32} {sg ln : Nat → Int32} {t b md : Int32} (h : LBR op n sg ln t b md) : 0 ≤ n.toInt ∧ n.toInt ≤ 400 ∧ 0 ≤ t.toInt ∧ t.toInt ≤ 5 ∧ 0 ≤ (ln t.toNatClampNeg).toInt ∧ (ln t.toNatClampNeg).toInt ≤ 400 ∧ 0 ≤ md.toInt ∧ md.toInt ≤ 60 := by
  obtain ⟨p, h1, h2⟩ := h
  have := h1.1
  have := h2.1
  omega
theorem LSR.ar {op : Nat → Int32} {n : Int32} {sg ln : Nat → Int32} {t b md : Int32} (h : LSR op n sg ln t b md) : 0 ≤ n.toInt ∧ n.toInt ≤ 400 ∧ 0 ≤ t.toInt ∧ t.toInt ≤ 5 ∧ 0 ≤ (ln t.toNatClampNeg).toInt ∧ (ln t.toNatClampNeg).toInt ≤ 400 ∧ 0 ≤ md.toInt ∧ md.toInt ≤ 60 := by
  obtain ⟨p, h1, h2⟩ := h
  have := h1.1
  have := h2.1
  omega
theorem LSR.open2 {op op' : Nat → Int32} {n n' x : Int32} {sg ln : Nat → Int32} {t b md : Int32} (h : LSR op n sg ln t b md) (e : op' = upd op n.toNatClampNeg x) (hn : n'.toInt = n.toInt + 1) (hl : n.toInt < 400) (hx : x.toInt = 12 ∨ x.toInt = 13) : LBR op' n' sg ln t b md := by
  obtain ⟨p, h1, h2⟩ := h
  have h3 := h1.push e hn hl (by omega)
  rw [if_pos (by omega)] at h3
  exact ⟨p + 1, h3, h2⟩
def InK (op : Nat → Int32) (n n' : Int32) : Prop := ∀ k : Nat, (k : Int) < n.toInt → (op k).toInt = 91 → (k : Int) < n'.toInt
def Ins (op : Nat → Int32) (n : Int32) : Prop := ∃ k : Nat, (k : Int) < n.toInt ∧ (op k).toInt = 91
theorem InK.rf {op : Nat → Int32} {n : Int32} : InK op n n := fun _ h _ => h
theorem InK.step {op : Nat → Int32} {n m m' x : Int32} (h : InK op n m) (ex : x = op m'.toNatClampNeg) (hx : x.toInt ≠ 91) (hm : m'.toInt = m.toInt - 1) (h0 : 0 ≤ m'.toInt) : InK op n m' := fun k hk hv => by
  have h1 := h k hk hv
  by_cases z : (k : Int) = m'.toInt
  · have e : m'.toNatClampNeg = k := clN z.symm
    rw [e] at ex
    rw [ex] at hx
    exact absurd hv hx
  · omega
theorem Ins.keep {op : Nat → Int32} {n n' : Int32} (h : Ins op n) (hk : InK op n n') : Ins op n' := by
  obtain ⟨k, h1, h2⟩ := h
  exact ⟨k, hk k h1 h2, h2⟩
theorem Ins.ar {op : Nat → Int32} {n : Int32} (h : Ins op n) : 1 ≤ n.toInt := by
  obtain ⟨k, h1, h2⟩ := h
  omega
theorem NIns.step {op : Nat → Int32} {k k' x : Int32} (h : NIns op k) (ex : x = op k.toNatClampNeg) (hx : ¬ x.toInt = 91) (hk : k'.toInt = k.toInt + 1) (h0 : 0 ≤ k.toInt) : NIns op k' := fun j hj => by
  by_cases z : (j : Int) = k.toInt
  · rw [← clN z.symm, ← ex]; exact hx
  · exact h j (by omega)
def NSq (f : Nat → Int32) (tp a : Int32) : Prop := a.toInt < tp.toInt → ¬ (f a.toNatClampNeg).toInt = 32
def Stl (f : Nat → Int32) (tp a b : Int32) : Prop := a.toInt < tp.toInt → ¬ (f a.toNatClampNeg).toInt = 32 → b = a
theorem Stl.rf {f : Nat → Int32} {tp a : Int32} : Stl f tp a a := fun _ _ => rfl
theorem Stl.step {f : Nat → Int32} {tp a v v' x : Int32} (h : Stl f tp a v) (ex : x = f v.toNatClampNeg) (hx : x.toInt = 32) : Stl f tp a v' := fun h1 h2 => by
  have e := h h1 h2
  subst e
  rw [ex] at hx
  exact absurd hx h2
theorem Stl.or {f : Nat → Int32} {tp a b : Int32} (h : Stl f tp a b) (h1 : NSq f tp a) : tp.toInt ≤ a.toInt ∨ b.toInt = a.toInt := by
  by_cases z : a.toInt < tp.toInt
  · right; rw [h z (h1 z)]
  · left; omega
theorem Stl.ltr {f : Nat → Int32} {tp a b : Int32} (h : Stl f tp a b) (h1 : Ltr f tp a) : Ltr f tp b ∧ b.toInt = a.toInt := by
  have e := h h1.1 (by have := h1.2.1; omega)
  subst e
  exact ⟨h1, rfl⟩
def Pw (f : Nat → Int32) (tp a b : Int32) : Prop := Ltr f tp a → a.toInt + 1 ≤ b.toInt
theorem Pw.of {f : Nat → Int32} {tp a b : Int32} (h : Adv a b) (h2 : NLtr f tp b) : Pw f tp a b := fun h1 => h.ltr h1 h2
def RulP (sg cl cs : Nat → Int32) (t : Int32) (B : Int) : Prop := RulD sg cl cs t ∧ 0 ≤ (cs t.toInt.toNat).toInt ∧ ∀ c : Nat, (c : Int) < (cs t.toInt.toNat).toInt → (WFc sg t (cl (48 * t.toInt.toNat + 4 * c)) (cl (48 * t.toInt.toNat + 4 * c + 1)) ∧ (cl (48 * t.toInt.toNat + 4 * c + 1)).toInt ≤ B) ∧ (0 ≤ (cl (48 * t.toInt.toNat + 4 * c + 2)).toInt → WFc sg t (cl (48 * t.toInt.toNat + 4 * c + 2)) (cl (48 * t.toInt.toNat + 4 * c + 3)) ∧ (cl (48 * t.toInt.toNat + 4 * c + 3)).toInt ≤ B)
theorem WFc.agr {f g : Nat → Int32} {t b e : Int32} {k : Int} (h : WFc f t b e) (ha : Agr f g k) (ht : 0 ≤ t.toInt) (hk : 400 * t.toInt + e.toInt ≤ k) : WFc g t b e := by
  obtain ⟨h1, h2⟩ := h
  refine ⟨h1, ?_⟩
  rw [dep_congr (f := f) (g := g) _ _ _ (fun i hi1 hi2 => ha i (by omega))]
  exact h2
theorem RulD.agr {sg sg' cl cs : Nat → Int32} {n : Int32} {k : Int} (h : RulD sg cl cs n) (ha : Agr sg sg' k) (hk : 400 * n.toInt ≤ k) : RulD sg' cl cs n := fun t ht => by
  obtain ⟨h1, h2⟩ := h t ht
  refine ⟨h1, fun c hc T hT => ?_⟩
  obtain ⟨h3, h4⟩ := h2 c hc T hT
  have h5 := h3.1
  refine ⟨h3.agr ha (by omega) (by omega), fun hp => ?_⟩
  have h6 := h4 hp
  have h7 := h6.1
  exact h6.agr ha (by omega) (by omega)
theorem RulP.agr {sg sg' cl cs : Nat → Int32} {t : Int32} {B k : Int} (h : RulP sg cl cs t B) (ha : Agr sg sg' k) (ht : 0 ≤ t.toInt) (hk : 400 * t.toInt + B ≤ k) (hB : 0 ≤ B) : RulP sg' cl cs t B := by
  obtain ⟨h1, h0, h2⟩ := h
  refine ⟨h1.agr ha (by omega), h0, fun c hc => ?_⟩
  obtain ⟨⟨h3, h4⟩, h5⟩ := h2 c hc
  exact ⟨⟨h3.agr ha ht (by omega), h4⟩, fun hp => ⟨(h5 hp).1.agr ha ht (by have := (h5 hp).2; omega), (h5 hp).2⟩⟩
theorem RulD.cl {sg cl cl' cs : Nat → Int32} {n : Int32} {i : Nat} {x : Int32} (h : RulD sg cl cs n) (e : cl' = upd cl i x) (hi : 48 * n.toInt ≤ (i : Int)) : RulD sg cl' cs n := fun t ht => by
  obtain ⟨h1, h2⟩ := h t ht
  subst e
  refine ⟨h1, fun c hc T hT => ?_⟩
  rw [upd_ne (by omega), upd_ne (by omega), upd_ne (by omega), upd_ne (by omega)]
  exact h2 c hc T hT
theorem RulP.cl {sg cl cl' cs : Nat → Int32} {t : Int32} {B : Int} {i : Nat} {x : Int32} (h : RulP sg cl cs t B) (e : cl' = upd cl i x) (ht : 0 ≤ t.toInt) (hi : 48 * t.toInt + 4 * (cs t.toInt.toNat).toInt ≤ (i : Int)) : RulP sg cl' cs t B := by
  obtain ⟨h1, h0, h2⟩ := h
  refine ⟨h1.cl e (by omega), h0, fun c hc => ?_⟩
  subst e
  rw [upd_ne (by omega), upd_ne (by omega), upd_ne (by omega), upd_ne (by omega)]
  exact h2 c hc
theorem RulD.cs {sg cl cs cs' : Nat → Int32} {n : Int32} {i : Nat} {x : Int32} (h : RulD sg cl cs n) (e : cs' = upd cs i x) (hi : n.toInt ≤ (i : Int)) : RulD sg cl cs' n := fun t ht => by
  subst e
  rw [upd_ne (by omega)]
  exact h t ht
theorem RulP.mono {sg cl cs : Nat → Int32} {t : Int32} {B B' : Int} (h : RulP sg cl cs t B) (hB : B ≤ B') : RulP sg cl cs t B' := by
  obtain ⟨h1, h0, h2⟩ := h
  refine ⟨h1, h0, fun c hc => ?_⟩
  obtain ⟨⟨h3, h4⟩, h5⟩ := h2 c hc
  exact ⟨⟨h3, by omega⟩, fun hp => ⟨(h5 hp).1, by have := (h5 hp).2; omega⟩⟩
theorem RulP.snoc {sg cl cs cs' : Nat → Int32} {t : Int32} {B : Int} {y : Int32} (h : RulP sg cl cs t B) (ht : 0 ≤ t.toInt) (e : cs' = upd cs t.toNatClampNeg y) (hy : y.toInt = (cs t.toInt.toNat).toInt + 1)
    (w1 : WFc sg t (cl (48 * t.toInt.toNat + 4 * (cs t.toInt.toNat).toInt.toNat)) (cl (48 * t.toInt.toNat + 4 * (cs t.toInt.toNat).toInt.toNat + 1))) (b1 : (cl (48 * t.toInt.toNat + 4 * (cs t.toInt.toNat).toInt.toNat + 1)).toInt ≤ B)
    (w2 : 0 ≤ (cl (48 * t.toInt.toNat + 4 * (cs t.toInt.toNat).toInt.toNat + 2)).toInt → WFc sg t (cl (48 * t.toInt.toNat + 4 * (cs t.toInt.toNat).toInt.toNat + 2)) (cl (48 * t.toInt.toNat + 4 * (cs t.toInt.toNat).toInt.toNat + 3)) ∧ (cl (48 * t.toInt.toNat + 4 * (cs t.toInt.toNat).toInt.toNat + 3)).toInt ≤ B) : RulP sg cl cs' t B := by
  obtain ⟨h1, h0, h2⟩ := h
  have et : t.toNatClampNeg = t.toInt.toNat := rfl
  have ec : cs' t.toInt.toNat = y := by rw [e, et, upd_at]
  refine ⟨h1.cs e (by omega), by rw [ec]; omega, fun c hc => ?_⟩
  rw [ec] at hc
  by_cases z : (c : Int) = (cs t.toInt.toNat).toInt
  · have ez : c = (cs t.toInt.toNat).toInt.toNat := by omega
    rw [ez]
    exact ⟨⟨w1, b1⟩, w2⟩
  · exact h2 c (by omega)
theorem RulP.done {sg cl cs : Nat → Int32} {t n : Int32} {B : Int} (h : RulP sg cl cs t B) (ht : 0 ≤ t.toInt) (hn : n.toInt = t.toInt + 1) (hc : (cs t.toInt.toNat).toInt ≤ 12) : RulD sg cl cs n := fun q hq => by
  by_cases z : (q : Int) = t.toInt
  · have ez : q = t.toInt.toNat := by omega
    refine ⟨by rw [ez]; exact hc, fun c hc' T hT => ?_⟩
    have eT : T = t := Int32.toInt_inj.mp (by omega)
    rw [ez] at hc' ⊢
    rw [eT]
    obtain ⟨h3, h4⟩ := h.2.2 c hc'
    exact ⟨h3.1, fun hp => (h4 hp).1⟩
  · exact h.1 q (by omega)
theorem RulP.start {sg cl cs cs' : Nat → Int32} {t : Int32} {B : Int} {x : Int32} (h : RulD sg cl cs t) (ht : 0 ≤ t.toInt) (e : cs' = upd cs t.toNatClampNeg x) (hx : x.toInt = 0) : RulP sg cl cs' t B := by
  have et : t.toNatClampNeg = t.toInt.toNat := rfl
  have ec : cs' t.toInt.toNat = x := by rw [e, et, upd_at]
  refine ⟨h.cs e (by omega), by rw [ec]; omega, fun c hc => ?_⟩
  rw [ec] at hc
  omega
theorem Cd.wf {sg ln : Nat → Int32} {t b md e : Int32} (h : Cd sg ln t b md 1) (he : e = ln t.toNatClampNeg) : WFc sg t b e := by
  subst he
  obtain ⟨h1, h2⟩ := h
  exact ⟨by omega, h2⟩
def RdO (f : Nat → Int32) : Prop := (((f 0).toInt = 1 ∧ 1 ≤ (f 2).toInt ∧ (f 2).toInt ≤ 10) ∨ ((f 0).toInt = 0 ∧ (f 3).toInt = 0)) ∧ 0 ≤ (f 3).toInt ∧ (f 3).toInt ≤ 6
theorem RdO.ar {f : Nat → Int32} (h : RdO f) : (((f 0).toInt = 1 ∧ 1 ≤ (f 2).toInt ∧ (f 2).toInt ≤ 10) ∨ ((f 0).toInt = 0 ∧ (f 3).toInt = 0)) ∧ 0 ≤ (f 3).toInt ∧ (f 3).toInt ≤ 6 := h
theorem RdC.rf {f : Nat → Int32} {c : Int32} : RdC f f c := fun _ _ => rfl
theorem RdC.up {f g : Nat → Int32} {c x : Int32} (e : g = upd f c.toNatClampNeg x) : RdC f g c := fun i hi => by rw [e, upd_ne hi]
theorem RdC.at {f g : Nat → Int32} {c : Int32} (hc : RdC f g c) (i : Nat) (hi : (i : Int) ≠ c.toInt) (h0 : 0 ≤ c.toInt) : (g i).toInt = (f i).toInt := by
  have e : c.toNatClampNeg = c.toInt.toNat := rfl
  rw [hc i (by omega)]
theorem upd_toInt_ne {f g : Nat → Int32} {i j : Nat} {x : Int32} (e : g = upd f i x) (h : j ≠ i) : (g j).toInt = (f j).toInt := by rw [e, upd_ne h]
theorem upd_toInt_at {f g : Nat → Int32} {i : Nat} {x : Int32} (e : g = upd f i x) : (g i).toInt = x.toInt := by rw [e, upd_at]
theorem RdO.of {f : Nat → Int32} (h : (((f 0).toInt = 1 ∧ 1 ≤ (f 2).toInt ∧ (f 2).toInt ≤ 10) ∨ ((f 0).toInt = 0 ∧ (f 3).toInt = 0)) ∧ 0 ≤ (f 3).toInt ∧ (f 3).toInt ≤ 6) : RdO f := h
def Rd0 (f : Nat → Int32) (k : Int32) : Prop := ∀ i : Nat, (i : Int) < k.toInt → (f i).toInt = 0
theorem Rd0.step {f g : Nat → Int32} {k k' : Int32} (h : Rd0 f k) (e : g = upd f k.toNatClampNeg 0) (hk : k'.toInt = k.toInt + 1) (h0 : 0 ≤ k.toInt) : Rd0 g k' := fun i hi => by
  have en : k.toNatClampNeg = k.toInt.toNat := rfl
  by_cases z : i = k.toNatClampNeg
  · rw [e, z, upd_at]; decide
  · rw [e, upd_ne z]; exact h i (by omega)
theorem Rd0.done {f : Nat → Int32} {k : Int32} (h : Rd0 f k) (hk : 95 ≤ k.toInt) : RdO f := by
  have h0 := h 0 (by omega)
  have h3 := h 3 (by omega)
  exact ⟨Or.inr ⟨h0, h3⟩, by omega, by omega⟩
def SdK (g f : Nat → Int32) (k : Int32) : Prop := ∀ i : Nat, (i : Int) < k.toInt → (i < 95 → g i = f i) ∧ (95 ≤ i → (g i).toInt = 0)
theorem SdK.step {g g' f : Nat → Int32} {k k' x : Int32} (h : SdK g f k) (e : g' = upd g k.toNatClampNeg x) (hx : (k.toInt < 95 ∧ x = f k.toNatClampNeg) ∨ (95 ≤ k.toInt ∧ x.toInt = 0)) (hk : k'.toInt = k.toInt + 1) (h0 : 0 ≤ k.toInt) : SdK g' f k' := fun i hi => by
  have en : k.toNatClampNeg = k.toInt.toNat := rfl
  by_cases z : i = k.toNatClampNeg
  · rw [e, z, upd_at]
    rcases hx with ⟨q, hx⟩ | ⟨q, hx⟩
    · exact ⟨fun _ => hx, fun _ => by omega⟩
    · exact ⟨fun _ => by omega, fun _ => hx⟩
  · rw [e, upd_ne z]; exact h i (by omega)
theorem SdK.done {g f : Nat → Int32} {k : Int32} (h : SdK g f k) (hf : RdO f) (hk : 126 ≤ k.toInt) : SaiB g := by
  unfold RdO at hf
  have e0 := (h 0 (by omega)).1 (by decide)
  have e2 := (h 2 (by omega)).1 (by decide)
  have e3 := (h 3 (by omega)).1 (by decide)
  have e5 := (h 125 (by omega)).2 (by decide)
  refine ⟨⟨?_, ?_, ?_, ?_, ?_⟩, fun q hq => ?_⟩
  · rw [e0, e2, e3]; exact hf.1
  · rw [e3]; exact hf.2.1
  · rw [e3]; exact hf.2.2
  · omega
  · omega
  · have := (h (95 + 3 * q) (by omega)).2 (by omega)
    omega
theorem LdE.of {op : Nat → Int32} {n least i x : Int32} (ex : x = op i.toNatClampNeg) (hi : i.toInt = n.toInt - 1) (hn : 1 ≤ n.toInt) (h : (x.toInt ≠ 13 ∧ x.toInt ≠ 12 ∧ x.toInt ≠ 11) ∨ 1 < least.toInt) : LdE op n least := by
  have e : i.toNatClampNeg = n.toInt.toNat - 1 := by
    show i.toInt.toNat = _
    omega
  rw [e] at ex
  rcases h with h | h
  · right; left; intro _; rw [← ex]; exact h
  · right; right; exact h
theorem Ins.of {op : Nat → Int32} {n k x : Int32} (ex : x = op k.toNatClampNeg) (hx : x.toInt = 91) (hk : 0 ≤ k.toInt ∧ k.toInt < n.toInt) : Ins op n := by
  refine ⟨k.toInt.toNat, by omega, ?_⟩
  rw [ex] at hx
  exact hx
theorem NIns.ge {op : Nat → Int32} {n k : Int32} (h : NIns op k) (hk : n.toInt ≤ k.toInt) : NIns op n := fun j hj => h j (by omega)
theorem NIns.nil {op : Nat → Int32} {k : Int32} (hk : k.toInt = 0) : NIns op k := fun j hj => by omega
def LX (op : Nat → Int32) (n : Int32) (sg ln : Nat → Int32) (t b md g : Int32) : Prop := (g.toInt = 1 → LBR op n sg ln t b md) ∧ (g.toInt = 0 → LSR op n sg ln t b md)
theorem ClV.keep {cl cl' : Nat → Int32} {A j : Nat} {v i x : Int32} (h : ClV cl A j v) (e : cl' = upd cl i.toNatClampNeg x) (hi : ¬ i.toInt = (A : Int) + (j : Int)) (h0 : 0 ≤ i.toInt) : ClV cl' A j v := by
  have en : i.toNatClampNeg = i.toInt.toNat := rfl
  unfold ClV at *
  rw [e, upd_ne (by omega)]
  exact h
def RuG (sg cl cs : Nat → Int32) (t : Int32) (B : Int) (g : Int32) : Prop := g.toInt = 1 → RulP sg cl cs t B
def RdG (f : Nat → Int32) (g : Int32) : Prop := g.toInt = 1 → RdO f
theorem dX12_compare_0 : decode cX12_compare 0 = .ok (.aload_n 0, 1) := by decide +kernel
theorem dX12_compare_1 : decode cX12_compare 1 = .ok (.invokevirtual 182, 3) := by decide +kernel
theorem dX12_compare_4 : decode cX12_compare 4 = .ok (.ifCond .ne 5, 3) := by decide +kernel
theorem dX12_compare_7 : decode cX12_compare 7 = .ok (.iconst 0, 1) := by decide +kernel
theorem dX12_compare_8 : decode cX12_compare 8 = .ok (.ireturn, 1) := by decide +kernel
theorem dX12_compare_9 : decode cX12_compare 9 = .ok (.aload_n 0, 1) := by decide +kernel
theorem dX12_compare_10 : decode cX12_compare 10 = .ok (.invokevirtual 90, 3) := by decide +kernel
theorem dX12_compare_13 : decode cX12_compare 13 = .ok (.istore_n 1, 1) := by decide +kernel
theorem dX12_compare_14 : decode cX12_compare 14 = .ok (.aload_n 0, 1) := by decide +kernel
theorem dX12_compare_15 : decode cX12_compare 15 = .ok (.getfield 87, 3) := by decide +kernel
theorem dX12_compare_18 : decode cX12_compare 18 = .ok (.istore_n 2, 1) := by decide +kernel
theorem dX12_compare_19 : decode cX12_compare 19 = .ok (.iload_n 1, 1) := by decide +kernel
theorem dX12_compare_20 : decode cX12_compare 20 = .ok (.bipush 60, 2) := by decide +kernel
theorem dX12_compare_22 : decode cX12_compare 22 = .ok (.if_icmp .eq 22, 3) := by decide +kernel
theorem dX12_compare_25 : decode cX12_compare 25 = .ok (.iload_n 1, 1) := by decide +kernel
theorem dX12_compare_26 : decode cX12_compare 26 = .ok (.bipush 61, 2) := by decide +kernel
theorem dX12_compare_28 : decode cX12_compare 28 = .ok (.if_icmp .eq 16, 3) := by decide +kernel
theorem dX12_compare_31 : decode cX12_compare 31 = .ok (.iload_n 1, 1) := by decide +kernel
theorem dX12_compare_32 : decode cX12_compare 32 = .ok (.bipush 62, 2) := by decide +kernel
theorem dX12_compare_34 : decode cX12_compare 34 = .ok (.if_icmp .eq 10, 3) := by decide +kernel
theorem dX12_compare_37 : decode cX12_compare 37 = .ok (.aload_n 0, 1) := by decide +kernel
theorem dX12_compare_38 : decode cX12_compare 38 = .ok (.iconst 0, 1) := by decide +kernel
theorem dX12_compare_39 : decode cX12_compare 39 = .ok (.iload_n 2, 1) := by decide +kernel
theorem dX12_compare_40 : decode cX12_compare 40 = .ok (.invokevirtual 108, 3) := by decide +kernel
theorem dX12_compare_43 : decode cX12_compare 43 = .ok (.ireturn, 1) := by decide +kernel
theorem dX12_compare_44 : decode cX12_compare 44 = .ok (.aload_n 0, 1) := by decide +kernel
theorem dX12_compare_45 : decode cX12_compare 45 = .ok (.dup, 1) := by decide +kernel
theorem dX12_compare_46 : decode cX12_compare 46 = .ok (.getfield 87, 3) := by decide +kernel
theorem dX12_compare_49 : decode cX12_compare 49 = .ok (.iconst 1, 1) := by decide +kernel
theorem dX12_compare_50 : decode cX12_compare 50 = .ok (.iadd, 1) := by decide +kernel
theorem dX12_compare_51 : decode cX12_compare 51 = .ok (.putfield 87, 3) := by decide +kernel
theorem dX12_compare_54 : decode cX12_compare 54 = .ok (.iload_n 1, 1) := by decide +kernel
theorem dX12_compare_55 : decode cX12_compare 55 = .ok (.bipush 61, 2) := by decide +kernel
theorem dX12_compare_57 : decode cX12_compare 57 = .ok (.if_icmp .eq 32, 3) := by decide +kernel
theorem dX12_compare_60 : decode cX12_compare 60 = .ok (.aload_n 0, 1) := by decide +kernel
theorem dX12_compare_61 : decode cX12_compare 61 = .ok (.getfield 87, 3) := by decide +kernel
theorem dX12_compare_64 : decode cX12_compare 64 = .ok (.aload_n 0, 1) := by decide +kernel
theorem dX12_compare_65 : decode cX12_compare 65 = .ok (.getfield 77, 3) := by decide +kernel
theorem dX12_compare_68 : decode cX12_compare 68 = .ok (.if_icmp .ge 21, 3) := by decide +kernel
theorem dX12_compare_71 : decode cX12_compare 71 = .ok (.aload_n 0, 1) := by decide +kernel
theorem dX12_compare_72 : decode cX12_compare 72 = .ok (.getfield 7, 3) := by decide +kernel
theorem dX12_compare_75 : decode cX12_compare 75 = .ok (.aload_n 0, 1) := by decide +kernel
theorem dX12_compare_76 : decode cX12_compare 76 = .ok (.getfield 87, 3) := by decide +kernel
theorem dX12_compare_79 : decode cX12_compare 79 = .ok (.baload, 1) := by decide +kernel
theorem dX12_compare_80 : decode cX12_compare 80 = .ok (.bipush 61, 2) := by decide +kernel
theorem dX12_compare_82 : decode cX12_compare 82 = .ok (.if_icmp .ne 7, 3) := by decide +kernel
theorem dX12_compare_85 : decode cX12_compare 85 = .ok (.iconst 1, 1) := by decide +kernel
theorem dX12_compare_86 : decode cX12_compare 86 = .ok (.goto 4, 3) := by decide +kernel
theorem dX12_compare_89 : decode cX12_compare 89 = .ok (.iconst 0, 1) := by decide +kernel
theorem dX12_compare_90 : decode cX12_compare 90 = .ok (.istore_n 3, 1) := by decide +kernel
theorem dX12_compare_91 : decode cX12_compare 91 = .ok (.iload_n 3, 1) := by decide +kernel
theorem dX12_compare_92 : decode cX12_compare 92 = .ok (.ifCond .eq 13, 3) := by decide +kernel
theorem dX12_compare_95 : decode cX12_compare 95 = .ok (.aload_n 0, 1) := by decide +kernel
theorem dX12_compare_96 : decode cX12_compare 96 = .ok (.dup, 1) := by decide +kernel
theorem dX12_compare_97 : decode cX12_compare 97 = .ok (.getfield 87, 3) := by decide +kernel
theorem dX12_compare_100 : decode cX12_compare 100 = .ok (.iconst 1, 1) := by decide +kernel
theorem dX12_compare_101 : decode cX12_compare 101 = .ok (.iadd, 1) := by decide +kernel
theorem dX12_compare_102 : decode cX12_compare 102 = .ok (.putfield 87, 3) := by decide +kernel
theorem dX12_compare_105 : decode cX12_compare 105 = .ok (.aload_n 0, 1) := by decide +kernel
theorem dX12_compare_106 : decode cX12_compare 106 = .ok (.iload_n 2, 1) := by decide +kernel
theorem dX12_compare_107 : decode cX12_compare 107 = .ok (.invokevirtual 169, 3) := by decide +kernel
theorem dX12_compare_110 : decode cX12_compare 110 = .ok (.ifCond .ne 5, 3) := by decide +kernel
theorem dX12_compare_113 : decode cX12_compare 113 = .ok (.iconst 0, 1) := by decide +kernel
theorem dX12_compare_114 : decode cX12_compare 114 = .ok (.ireturn, 1) := by decide +kernel
theorem dX12_compare_115 : decode cX12_compare 115 = .ok (.iload_n 1, 1) := by decide +kernel
theorem dX12_compare_116 : decode cX12_compare 116 = .ok (.bipush 60, 2) := by decide +kernel
theorem dX12_compare_118 : decode cX12_compare 118 = .ok (.if_icmp .ne 15, 3) := by decide +kernel
theorem dX12_compare_121 : decode cX12_compare 121 = .ok (.iload_n 3, 1) := by decide +kernel
theorem dX12_compare_122 : decode cX12_compare 122 = .ok (.ifCond .eq 7, 3) := by decide +kernel
theorem dX12_compare_125 : decode cX12_compare 125 = .ok (.iconst 1, 1) := by decide +kernel
theorem dX12_compare_126 : decode cX12_compare 126 = .ok (.goto 26, 3) := by decide +kernel
theorem dX12_compare_129 : decode cX12_compare 129 = .ok (.iconst 0, 1) := by decide +kernel
theorem dX12_compare_130 : decode cX12_compare 130 = .ok (.goto 22, 3) := by decide +kernel
theorem dX12_compare_133 : decode cX12_compare 133 = .ok (.iload_n 1, 1) := by decide +kernel
theorem dX12_compare_134 : decode cX12_compare 134 = .ok (.bipush 61, 2) := by decide +kernel
theorem dX12_compare_136 : decode cX12_compare 136 = .ok (.if_icmp .ne 7, 3) := by decide +kernel
theorem dX12_compare_139 : decode cX12_compare 139 = .ok (.iconst 2, 1) := by decide +kernel
theorem dX12_compare_140 : decode cX12_compare 140 = .ok (.goto 12, 3) := by decide +kernel
theorem dX12_compare_143 : decode cX12_compare 143 = .ok (.iload_n 3, 1) := by decide +kernel
theorem dX12_compare_144 : decode cX12_compare 144 = .ok (.ifCond .eq 7, 3) := by decide +kernel
theorem dX12_compare_147 : decode cX12_compare 147 = .ok (.iconst 3, 1) := by decide +kernel
theorem dX12_compare_148 : decode cX12_compare 148 = .ok (.goto 4, 3) := by decide +kernel
theorem dX12_compare_151 : decode cX12_compare 151 = .ok (.iconst 4, 1) := by decide +kernel
theorem dX12_compare_152 : decode cX12_compare 152 = .ok (.istore 4, 2) := by decide +kernel
theorem dX12_compare_154 : decode cX12_compare 154 = .ok (.aload_n 0, 1) := by decide +kernel
theorem dX12_compare_155 : decode cX12_compare 155 = .ok (.invokevirtual 182, 3) := by decide +kernel
theorem dX12_compare_158 : decode cX12_compare 158 = .ok (.ifCond .ne 5, 3) := by decide +kernel
theorem dX12_compare_161 : decode cX12_compare 161 = .ok (.iconst 0, 1) := by decide +kernel
theorem dX12_compare_162 : decode cX12_compare 162 = .ok (.ireturn, 1) := by decide +kernel
theorem dX12_compare_163 : decode cX12_compare 163 = .ok (.aload_n 0, 1) := by decide +kernel
theorem dX12_compare_164 : decode cX12_compare 164 = .ok (.bipush 6, 2) := by decide +kernel
theorem dX12_compare_166 : decode cX12_compare 166 = .ok (.iload 4, 2) := by decide +kernel
theorem dX12_compare_168 : decode cX12_compare 168 = .ok (.iadd, 1) := by decide +kernel
theorem dX12_compare_169 : decode cX12_compare 169 = .ok (.iconst 0, 1) := by decide +kernel
theorem dX12_compare_170 : decode cX12_compare 170 = .ok (.invokevirtual 161, 3) := by decide +kernel
theorem dX12_compare_173 : decode cX12_compare 173 = .ok (.iconst 1, 1) := by decide +kernel
theorem dX12_compare_174 : decode cX12_compare 174 = .ok (.ireturn, 1) := by decide +kernel
theorem dX12_fails_0 : decode cX12_fails 0 = .ok (.aload_n 0, 1) := by decide +kernel
theorem dX12_fails_1 : decode cX12_fails 1 = .ok (.getfield 84, 3) := by decide +kernel
theorem dX12_fails_4 : decode cX12_fails 4 = .ok (.ifCond .ne 15, 3) := by decide +kernel
theorem dX12_fails_7 : decode cX12_fails 7 = .ok (.aload_n 0, 1) := by decide +kernel
theorem dX12_fails_8 : decode cX12_fails 8 = .ok (.iconst 1, 1) := by decide +kernel
theorem dX12_fails_9 : decode cX12_fails 9 = .ok (.bipush 8, 2) := by decide +kernel
theorem dX12_fails_11 : decode cX12_fails 11 = .ok (.iload_n 2, 1) := by decide +kernel
theorem dX12_fails_12 : decode cX12_fails 12 = .ok (.imul, 1) := by decide +kernel
theorem dX12_fails_13 : decode cX12_fails 13 = .ok (.iadd, 1) := by decide +kernel
theorem dX12_fails_14 : decode cX12_fails 14 = .ok (.iload_n 1, 1) := by decide +kernel
theorem dX12_fails_15 : decode cX12_fails 15 = .ok (.iadd, 1) := by decide +kernel
theorem dX12_fails_16 : decode cX12_fails 16 = .ok (.putfield 84, 3) := by decide +kernel
theorem dX12_fails_19 : decode cX12_fails 19 = .ok (.iconst 0, 1) := by decide +kernel
theorem dX12_fails_20 : decode cX12_fails 20 = .ok (.ireturn, 1) := by decide +kernel
theorem dX12_isDigit_0 : decode cX12_isDigit 0 = .ok (.iload_n 1, 1) := by decide +kernel
theorem dX12_isDigit_1 : decode cX12_isDigit 1 = .ok (.aload_n 0, 1) := by decide +kernel
theorem dX12_isDigit_2 : decode cX12_isDigit 2 = .ok (.getfield 77, 3) := by decide +kernel
theorem dX12_isDigit_5 : decode cX12_isDigit 5 = .ok (.if_icmp .ge 29, 3) := by decide +kernel
theorem dX12_isDigit_8 : decode cX12_isDigit 8 = .ok (.aload_n 0, 1) := by decide +kernel
theorem dX12_isDigit_9 : decode cX12_isDigit 9 = .ok (.getfield 7, 3) := by decide +kernel
theorem dX12_isDigit_12 : decode cX12_isDigit 12 = .ok (.iload_n 1, 1) := by decide +kernel
theorem dX12_isDigit_13 : decode cX12_isDigit 13 = .ok (.baload, 1) := by decide +kernel
theorem dX12_isDigit_14 : decode cX12_isDigit 14 = .ok (.bipush 48, 2) := by decide +kernel
theorem dX12_isDigit_16 : decode cX12_isDigit 16 = .ok (.if_icmp .lt 18, 3) := by decide +kernel
theorem dX12_isDigit_19 : decode cX12_isDigit 19 = .ok (.aload_n 0, 1) := by decide +kernel
theorem dX12_isDigit_20 : decode cX12_isDigit 20 = .ok (.getfield 7, 3) := by decide +kernel
theorem dX12_isDigit_23 : decode cX12_isDigit 23 = .ok (.iload_n 1, 1) := by decide +kernel
theorem dX12_isDigit_24 : decode cX12_isDigit 24 = .ok (.baload, 1) := by decide +kernel
theorem dX12_isDigit_25 : decode cX12_isDigit 25 = .ok (.bipush 57, 2) := by decide +kernel
theorem dX12_isDigit_27 : decode cX12_isDigit 27 = .ok (.if_icmp .gt 7, 3) := by decide +kernel
theorem dX12_isDigit_30 : decode cX12_isDigit 30 = .ok (.iconst 1, 1) := by decide +kernel
theorem dX12_isDigit_31 : decode cX12_isDigit 31 = .ok (.goto 4, 3) := by decide +kernel
theorem dX12_isDigit_34 : decode cX12_isDigit 34 = .ok (.iconst 0, 1) := by decide +kernel
theorem dX12_isDigit_35 : decode cX12_isDigit 35 = .ok (.ireturn, 1) := by decide +kernel
theorem dX12_isLetter_0 : decode cX12_isLetter 0 = .ok (.iload_n 1, 1) := by decide +kernel
theorem dX12_isLetter_1 : decode cX12_isLetter 1 = .ok (.aload_n 0, 1) := by decide +kernel
theorem dX12_isLetter_2 : decode cX12_isLetter 2 = .ok (.getfield 77, 3) := by decide +kernel
theorem dX12_isLetter_5 : decode cX12_isLetter 5 = .ok (.if_icmp .ge 29, 3) := by decide +kernel
theorem dX12_isLetter_8 : decode cX12_isLetter 8 = .ok (.aload_n 0, 1) := by decide +kernel
theorem dX12_isLetter_9 : decode cX12_isLetter 9 = .ok (.getfield 7, 3) := by decide +kernel
theorem dX12_isLetter_12 : decode cX12_isLetter 12 = .ok (.iload_n 1, 1) := by decide +kernel
theorem dX12_isLetter_13 : decode cX12_isLetter 13 = .ok (.baload, 1) := by decide +kernel
theorem dX12_isLetter_14 : decode cX12_isLetter 14 = .ok (.bipush 97, 2) := by decide +kernel
theorem dX12_isLetter_16 : decode cX12_isLetter 16 = .ok (.if_icmp .lt 18, 3) := by decide +kernel
theorem dX12_isLetter_19 : decode cX12_isLetter 19 = .ok (.aload_n 0, 1) := by decide +kernel
theorem dX12_isLetter_20 : decode cX12_isLetter 20 = .ok (.getfield 7, 3) := by decide +kernel
theorem dX12_isLetter_23 : decode cX12_isLetter 23 = .ok (.iload_n 1, 1) := by decide +kernel
theorem dX12_isLetter_24 : decode cX12_isLetter 24 = .ok (.baload, 1) := by decide +kernel
theorem dX12_isLetter_25 : decode cX12_isLetter 25 = .ok (.bipush 122, 2) := by decide +kernel
theorem dX12_isLetter_27 : decode cX12_isLetter 27 = .ok (.if_icmp .gt 7, 3) := by decide +kernel
theorem dX12_isLetter_30 : decode cX12_isLetter 30 = .ok (.iconst 1, 1) := by decide +kernel
theorem dX12_isLetter_31 : decode cX12_isLetter 31 = .ok (.goto 4, 3) := by decide +kernel
theorem dX12_isLetter_34 : decode cX12_isLetter 34 = .ok (.iconst 0, 1) := by decide +kernel
theorem dX12_isLetter_35 : decode cX12_isLetter 35 = .ok (.ireturn, 1) := by decide +kernel
theorem dX12_isWord_0 : decode cX12_isWord 0 = .ok (.aload_n 0, 1) := by decide +kernel
theorem dX12_isWord_1 : decode cX12_isWord 1 = .ok (.invokevirtual 90, 3) := by decide +kernel
theorem dX12_isWord_4 : decode cX12_isWord 4 = .ok (.pop, 1) := by decide +kernel
theorem dX12_isWord_5 : decode cX12_isWord 5 = .ok (.lconst 0, 1) := by decide +kernel
theorem dX12_isWord_6 : decode cX12_isWord 6 = .ok (.lstore_n 3, 1) := by decide +kernel
theorem dX12_isWord_7 : decode cX12_isWord 7 = .ok (.iconst 0, 1) := by decide +kernel
theorem dX12_isWord_8 : decode cX12_isWord 8 = .ok (.istore 5, 2) := by decide +kernel
theorem dX12_isWord_10 : decode cX12_isWord 10 = .ok (.aload_n 0, 1) := by decide +kernel
theorem dX12_isWord_11 : decode cX12_isWord 11 = .ok (.aload_n 0, 1) := by decide +kernel
theorem dX12_isWord_12 : decode cX12_isWord 12 = .ok (.getfield 87, 3) := by decide +kernel
theorem dX12_isWord_15 : decode cX12_isWord 15 = .ok (.iload 5, 2) := by decide +kernel
theorem dX12_isWord_17 : decode cX12_isWord 17 = .ok (.iadd, 1) := by decide +kernel
theorem dX12_isWord_18 : decode cX12_isWord 18 = .ok (.invokevirtual 94, 3) := by decide +kernel
theorem dX12_isWord_21 : decode cX12_isWord 21 = .ok (.ifCond .eq 35, 3) := by decide +kernel
theorem dX12_isWord_24 : decode cX12_isWord 24 = .ok (.iload 5, 2) := by decide +kernel
theorem dX12_isWord_26 : decode cX12_isWord 26 = .ok (.bipush 8, 2) := by decide +kernel
theorem dX12_isWord_28 : decode cX12_isWord 28 = .ok (.if_icmp .ge 22, 3) := by decide +kernel
theorem dX12_isWord_31 : decode cX12_isWord 31 = .ok (.lload_n 3, 1) := by decide +kernel
theorem dX12_isWord_32 : decode cX12_isWord 32 = .ok (.bipush 8, 2) := by decide +kernel
theorem dX12_isWord_34 : decode cX12_isWord 34 = .ok (.lshl, 1) := by decide +kernel
theorem dX12_isWord_35 : decode cX12_isWord 35 = .ok (.aload_n 0, 1) := by decide +kernel
theorem dX12_isWord_36 : decode cX12_isWord 36 = .ok (.getfield 7, 3) := by decide +kernel
theorem dX12_isWord_39 : decode cX12_isWord 39 = .ok (.aload_n 0, 1) := by decide +kernel
theorem dX12_isWord_40 : decode cX12_isWord 40 = .ok (.getfield 87, 3) := by decide +kernel
theorem dX12_isWord_43 : decode cX12_isWord 43 = .ok (.iload 5, 2) := by decide +kernel
theorem dX12_isWord_45 : decode cX12_isWord 45 = .ok (.iadd, 1) := by decide +kernel
theorem dX12_isWord_46 : decode cX12_isWord 46 = .ok (.baload, 1) := by decide +kernel
theorem dX12_isWord_47 : decode cX12_isWord 47 = .ok (.i2l, 1) := by decide +kernel
theorem dX12_isWord_48 : decode cX12_isWord 48 = .ok (.lor, 1) := by decide +kernel
theorem dX12_isWord_49 : decode cX12_isWord 49 = .ok (.lstore_n 3, 1) := by decide +kernel
theorem dX12_isWord_50 : decode cX12_isWord 50 = .ok (.iinc 5 1, 3) := by decide +kernel
theorem dX12_isWord_53 : decode cX12_isWord 53 = .ok (.goto (-43), 3) := by decide +kernel
theorem dX12_isWord_56 : decode cX12_isWord 56 = .ok (.iload 5, 2) := by decide +kernel
theorem dX12_isWord_58 : decode cX12_isWord 58 = .ok (.ifCond .le 20, 3) := by decide +kernel
theorem dX12_isWord_61 : decode cX12_isWord 61 = .ok (.iload 5, 2) := by decide +kernel
theorem dX12_isWord_63 : decode cX12_isWord 63 = .ok (.bipush 8, 2) := by decide +kernel
theorem dX12_isWord_65 : decode cX12_isWord 65 = .ok (.if_icmp .ge 13, 3) := by decide +kernel
theorem dX12_isWord_68 : decode cX12_isWord 68 = .ok (.lload_n 3, 1) := by decide +kernel
theorem dX12_isWord_69 : decode cX12_isWord 69 = .ok (.lload_n 1, 1) := by decide +kernel
theorem dX12_isWord_70 : decode cX12_isWord 70 = .ok (.lcmp, 1) := by decide +kernel
theorem dX12_isWord_71 : decode cX12_isWord 71 = .ok (.ifCond .ne 7, 3) := by decide +kernel
theorem dX12_isWord_74 : decode cX12_isWord 74 = .ok (.iconst 1, 1) := by decide +kernel
theorem dX12_isWord_75 : decode cX12_isWord 75 = .ok (.goto 4, 3) := by decide +kernel
theorem dX12_isWord_78 : decode cX12_isWord 78 = .ok (.iconst 0, 1) := by decide +kernel
theorem dX12_isWord_79 : decode cX12_isWord 79 = .ok (.ireturn, 1) := by decide +kernel
theorem dX12_makes_0 : decode cX12_makes 0 = .ok (.aload_n 0, 1) := by decide +kernel
theorem dX12_makes_1 : decode cX12_makes 1 = .ok (.getfield 148, 3) := by decide +kernel
theorem dX12_makes_4 : decode cX12_makes 4 = .ok (.bipush 60, 2) := by decide +kernel
theorem dX12_makes_6 : decode cX12_makes 6 = .ok (.if_icmp .ne 10, 3) := by decide +kernel
theorem dX12_makes_9 : decode cX12_makes 9 = .ok (.aload_n 0, 1) := by decide +kernel
theorem dX12_makes_10 : decode cX12_makes 10 = .ok (.iconst 3, 1) := by decide +kernel
theorem dX12_makes_11 : decode cX12_makes 11 = .ok (.iload_n 1, 1) := by decide +kernel
theorem dX12_makes_12 : decode cX12_makes 12 = .ok (.invokevirtual 108, 3) := by decide +kernel
theorem dX12_makes_15 : decode cX12_makes 15 = .ok (.ireturn, 1) := by decide +kernel
theorem dX12_makes_16 : decode cX12_makes 16 = .ok (.aload_n 0, 1) := by decide +kernel
theorem dX12_makes_17 : decode cX12_makes 17 = .ok (.dup, 1) := by decide +kernel
theorem dX12_makes_18 : decode cX12_makes 18 = .ok (.getfield 148, 3) := by decide +kernel
theorem dX12_makes_21 : decode cX12_makes 21 = .ok (.iconst 1, 1) := by decide +kernel
theorem dX12_makes_22 : decode cX12_makes 22 = .ok (.iadd, 1) := by decide +kernel
theorem dX12_makes_23 : decode cX12_makes 23 = .ok (.putfield 148, 3) := by decide +kernel
theorem dX12_makes_26 : decode cX12_makes 26 = .ok (.iconst 1, 1) := by decide +kernel
theorem dX12_makes_27 : decode cX12_makes 27 = .ok (.ireturn, 1) := by decide +kernel
theorem dX12_numberHere_0 : decode cX12_numberHere 0 = .ok (.aload_n 0, 1) := by decide +kernel
theorem dX12_numberHere_1 : decode cX12_numberHere 1 = .ok (.invokevirtual 90, 3) := by decide +kernel
theorem dX12_numberHere_4 : decode cX12_numberHere 4 = .ok (.pop, 1) := by decide +kernel
theorem dX12_numberHere_5 : decode cX12_numberHere 5 = .ok (.aload_n 0, 1) := by decide +kernel
theorem dX12_numberHere_6 : decode cX12_numberHere 6 = .ok (.aload_n 0, 1) := by decide +kernel
theorem dX12_numberHere_7 : decode cX12_numberHere 7 = .ok (.getfield 87, 3) := by decide +kernel
theorem dX12_numberHere_10 : decode cX12_numberHere 10 = .ok (.invokevirtual 105, 3) := by decide +kernel
theorem dX12_numberHere_13 : decode cX12_numberHere 13 = .ok (.ifCond .ne 13, 3) := by decide +kernel
theorem dX12_numberHere_16 : decode cX12_numberHere 16 = .ok (.aload_n 0, 1) := by decide +kernel
theorem dX12_numberHere_17 : decode cX12_numberHere 17 = .ok (.iconst 0, 1) := by decide +kernel
theorem dX12_numberHere_18 : decode cX12_numberHere 18 = .ok (.aload_n 0, 1) := by decide +kernel
theorem dX12_numberHere_19 : decode cX12_numberHere 19 = .ok (.getfield 87, 3) := by decide +kernel
theorem dX12_numberHere_22 : decode cX12_numberHere 22 = .ok (.invokevirtual 108, 3) := by decide +kernel
theorem dX12_numberHere_25 : decode cX12_numberHere 25 = .ok (.ireturn, 1) := by decide +kernel
theorem dX12_numberHere_26 : decode cX12_numberHere 26 = .ok (.aload_n 0, 1) := by decide +kernel
theorem dX12_numberHere_27 : decode cX12_numberHere 27 = .ok (.getfield 87, 3) := by decide +kernel
theorem dX12_numberHere_30 : decode cX12_numberHere 30 = .ok (.istore_n 3, 1) := by decide +kernel
theorem dX12_numberHere_31 : decode cX12_numberHere 31 = .ok (.iconst 0, 1) := by decide +kernel
theorem dX12_numberHere_32 : decode cX12_numberHere 32 = .ok (.istore 4, 2) := by decide +kernel
theorem dX12_numberHere_34 : decode cX12_numberHere 34 = .ok (.aload_n 0, 1) := by decide +kernel
theorem dX12_numberHere_35 : decode cX12_numberHere 35 = .ok (.aload_n 0, 1) := by decide +kernel
theorem dX12_numberHere_36 : decode cX12_numberHere 36 = .ok (.getfield 87, 3) := by decide +kernel
theorem dX12_numberHere_39 : decode cX12_numberHere 39 = .ok (.invokevirtual 105, 3) := by decide +kernel
theorem dX12_numberHere_42 : decode cX12_numberHere 42 = .ok (.ifCond .eq 46, 3) := by decide +kernel
theorem dX12_numberHere_45 : decode cX12_numberHere 45 = .ok (.aload_n 0, 1) := by decide +kernel
theorem dX12_numberHere_46 : decode cX12_numberHere 46 = .ok (.getfield 87, 3) := by decide +kernel
theorem dX12_numberHere_49 : decode cX12_numberHere 49 = .ok (.iload_n 3, 1) := by decide +kernel
theorem dX12_numberHere_50 : decode cX12_numberHere 50 = .ok (.isub, 1) := by decide +kernel
theorem dX12_numberHere_51 : decode cX12_numberHere 51 = .ok (.iconst 5, 1) := by decide +kernel
theorem dX12_numberHere_52 : decode cX12_numberHere 52 = .ok (.if_icmp .ge 23, 3) := by decide +kernel
theorem dX12_numberHere_55 : decode cX12_numberHere 55 = .ok (.bipush 10, 2) := by decide +kernel
theorem dX12_numberHere_57 : decode cX12_numberHere 57 = .ok (.iload 4, 2) := by decide +kernel
theorem dX12_numberHere_59 : decode cX12_numberHere 59 = .ok (.imul, 1) := by decide +kernel
theorem dX12_numberHere_60 : decode cX12_numberHere 60 = .ok (.aload_n 0, 1) := by decide +kernel
theorem dX12_numberHere_61 : decode cX12_numberHere 61 = .ok (.getfield 7, 3) := by decide +kernel
theorem dX12_numberHere_64 : decode cX12_numberHere 64 = .ok (.aload_n 0, 1) := by decide +kernel
theorem dX12_numberHere_65 : decode cX12_numberHere 65 = .ok (.getfield 87, 3) := by decide +kernel
theorem dX12_numberHere_68 : decode cX12_numberHere 68 = .ok (.baload, 1) := by decide +kernel
theorem dX12_numberHere_69 : decode cX12_numberHere 69 = .ok (.iadd, 1) := by decide +kernel
theorem dX12_numberHere_70 : decode cX12_numberHere 70 = .ok (.bipush 48, 2) := by decide +kernel
theorem dX12_numberHere_72 : decode cX12_numberHere 72 = .ok (.isub, 1) := by decide +kernel
theorem dX12_numberHere_73 : decode cX12_numberHere 73 = .ok (.istore 4, 2) := by decide +kernel
theorem dX12_numberHere_75 : decode cX12_numberHere 75 = .ok (.aload_n 0, 1) := by decide +kernel
theorem dX12_numberHere_76 : decode cX12_numberHere 76 = .ok (.dup, 1) := by decide +kernel
theorem dX12_numberHere_77 : decode cX12_numberHere 77 = .ok (.getfield 87, 3) := by decide +kernel
theorem dX12_numberHere_80 : decode cX12_numberHere 80 = .ok (.iconst 1, 1) := by decide +kernel
theorem dX12_numberHere_81 : decode cX12_numberHere 81 = .ok (.iadd, 1) := by decide +kernel
theorem dX12_numberHere_82 : decode cX12_numberHere 82 = .ok (.putfield 87, 3) := by decide +kernel
theorem dX12_numberHere_85 : decode cX12_numberHere 85 = .ok (.goto (-51), 3) := by decide +kernel
theorem dX12_numberHere_88 : decode cX12_numberHere 88 = .ok (.aload_n 0, 1) := by decide +kernel
theorem dX12_numberHere_89 : decode cX12_numberHere 89 = .ok (.iload 4, 2) := by decide +kernel
theorem dX12_numberHere_91 : decode cX12_numberHere 91 = .ok (.putfield 112, 3) := by decide +kernel
theorem dX12_numberHere_94 : decode cX12_numberHere 94 = .ok (.aload_n 0, 1) := by decide +kernel
theorem dX12_numberHere_95 : decode cX12_numberHere 95 = .ok (.getfield 87, 3) := by decide +kernel
theorem dX12_numberHere_98 : decode cX12_numberHere 98 = .ok (.iload_n 3, 1) := by decide +kernel
theorem dX12_numberHere_99 : decode cX12_numberHere 99 = .ok (.isub, 1) := by decide +kernel
theorem dX12_numberHere_100 : decode cX12_numberHere 100 = .ok (.iconst 5, 1) := by decide +kernel
theorem dX12_numberHere_101 : decode cX12_numberHere 101 = .ok (.if_icmp .gt 16, 3) := by decide +kernel
theorem dX12_numberHere_104 : decode cX12_numberHere 104 = .ok (.iload 4, 2) := by decide +kernel
theorem dX12_numberHere_106 : decode cX12_numberHere 106 = .ok (.i2l, 1) := by decide +kernel
theorem dX12_numberHere_107 : decode cX12_numberHere 107 = .ok (.iload_n 1, 1) := by decide +kernel
theorem dX12_numberHere_108 : decode cX12_numberHere 108 = .ok (.i2l, 1) := by decide +kernel
theorem dX12_numberHere_109 : decode cX12_numberHere 109 = .ok (.iload_n 2, 1) := by decide +kernel
theorem dX12_numberHere_110 : decode cX12_numberHere 110 = .ok (.i2l, 1) := by decide +kernel
theorem dX12_numberHere_111 : decode cX12_numberHere 111 = .ok (.invokestatic 115, 3) := by decide +kernel
theorem dX12_numberHere_114 : decode cX12_numberHere 114 = .ok (.ifCond .ne 12, 3) := by decide +kernel
theorem dX12_numberHere_117 : decode cX12_numberHere 117 = .ok (.aload_n 0, 1) := by decide +kernel
theorem dX12_numberHere_118 : decode cX12_numberHere 118 = .ok (.iconst 1, 1) := by decide +kernel
theorem dX12_numberHere_119 : decode cX12_numberHere 119 = .ok (.iload_n 3, 1) := by decide +kernel
theorem dX12_numberHere_120 : decode cX12_numberHere 120 = .ok (.invokevirtual 108, 3) := by decide +kernel
theorem dX12_numberHere_123 : decode cX12_numberHere 123 = .ok (.ifCond .eq 7, 3) := by decide +kernel
theorem dX12_numberHere_126 : decode cX12_numberHere 126 = .ok (.iconst 1, 1) := by decide +kernel
theorem dX12_numberHere_127 : decode cX12_numberHere 127 = .ok (.goto 4, 3) := by decide +kernel
theorem dX12_numberHere_130 : decode cX12_numberHere 130 = .ok (.iconst 0, 1) := by decide +kernel
theorem dX12_numberHere_131 : decode cX12_numberHere 131 = .ok (.ireturn, 1) := by decide +kernel
theorem dX12_passWord_0 : decode cX12_passWord 0 = .ok (.aload_n 0, 1) := by decide +kernel
theorem dX12_passWord_1 : decode cX12_passWord 1 = .ok (.aload_n 0, 1) := by decide +kernel
theorem dX12_passWord_2 : decode cX12_passWord 2 = .ok (.getfield 87, 3) := by decide +kernel
theorem dX12_passWord_5 : decode cX12_passWord 5 = .ok (.invokevirtual 94, 3) := by decide +kernel
theorem dX12_passWord_8 : decode cX12_passWord 8 = .ok (.ifCond .eq 16, 3) := by decide +kernel
theorem dX12_passWord_11 : decode cX12_passWord 11 = .ok (.aload_n 0, 1) := by decide +kernel
theorem dX12_passWord_12 : decode cX12_passWord 12 = .ok (.dup, 1) := by decide +kernel
theorem dX12_passWord_13 : decode cX12_passWord 13 = .ok (.getfield 87, 3) := by decide +kernel
theorem dX12_passWord_16 : decode cX12_passWord 16 = .ok (.iconst 1, 1) := by decide +kernel
theorem dX12_passWord_17 : decode cX12_passWord 17 = .ok (.iadd, 1) := by decide +kernel
theorem dX12_passWord_18 : decode cX12_passWord 18 = .ok (.putfield 87, 3) := by decide +kernel
theorem dX12_passWord_21 : decode cX12_passWord 21 = .ok (.goto (-21), 3) := by decide +kernel
theorem dX12_passWord_24 : decode cX12_passWord 24 = .ok (.return_, 1) := by decide +kernel
theorem dX12_puts_0 : decode cX12_puts 0 = .ok (.aload_n 0, 1) := by decide +kernel
theorem dX12_puts_1 : decode cX12_puts 1 = .ok (.getfield 13, 3) := by decide +kernel
theorem dX12_puts_4 : decode cX12_puts 4 = .ok (.sipush 400, 3) := by decide +kernel
theorem dX12_puts_7 : decode cX12_puts 7 = .ok (.aload_n 0, 1) := by decide +kernel
theorem dX12_puts_8 : decode cX12_puts 8 = .ok (.getfield 145, 3) := by decide +kernel
theorem dX12_puts_11 : decode cX12_puts 11 = .ok (.imul, 1) := by decide +kernel
theorem dX12_puts_12 : decode cX12_puts 12 = .ok (.aload_n 0, 1) := by decide +kernel
theorem dX12_puts_13 : decode cX12_puts 13 = .ok (.getfield 17, 3) := by decide +kernel
theorem dX12_puts_16 : decode cX12_puts 16 = .ok (.aload_n 0, 1) := by decide +kernel
theorem dX12_puts_17 : decode cX12_puts 17 = .ok (.getfield 145, 3) := by decide +kernel
theorem dX12_puts_20 : decode cX12_puts 20 = .ok (.iaload, 1) := by decide +kernel
theorem dX12_puts_21 : decode cX12_puts 21 = .ok (.iadd, 1) := by decide +kernel
theorem dX12_puts_22 : decode cX12_puts 22 = .ok (.iload_n 1, 1) := by decide +kernel
theorem dX12_puts_23 : decode cX12_puts 23 = .ok (.bipush 16, 2) := by decide +kernel
theorem dX12_puts_25 : decode cX12_puts 25 = .ok (.iload_n 2, 1) := by decide +kernel
theorem dX12_puts_26 : decode cX12_puts 26 = .ok (.imul, 1) := by decide +kernel
theorem dX12_puts_27 : decode cX12_puts 27 = .ok (.iadd, 1) := by decide +kernel
theorem dX12_puts_28 : decode cX12_puts 28 = .ok (.iastore, 1) := by decide +kernel
theorem dX12_puts_29 : decode cX12_puts 29 = .ok (.aload_n 0, 1) := by decide +kernel
theorem dX12_puts_30 : decode cX12_puts 30 = .ok (.getfield 17, 3) := by decide +kernel
theorem dX12_puts_33 : decode cX12_puts 33 = .ok (.aload_n 0, 1) := by decide +kernel
theorem dX12_puts_34 : decode cX12_puts 34 = .ok (.getfield 145, 3) := by decide +kernel
theorem dX12_puts_37 : decode cX12_puts 37 = .ok (.dup2, 1) := by decide +kernel
theorem dX12_puts_38 : decode cX12_puts 38 = .ok (.iaload, 1) := by decide +kernel
theorem dX12_puts_39 : decode cX12_puts 39 = .ok (.iconst 1, 1) := by decide +kernel
theorem dX12_puts_40 : decode cX12_puts 40 = .ok (.iadd, 1) := by decide +kernel
theorem dX12_puts_41 : decode cX12_puts 41 = .ok (.iastore, 1) := by decide +kernel
theorem dX12_puts_42 : decode cX12_puts 42 = .ok (.return_, 1) := by decide +kernel
theorem dX12_see_0 : decode cX12_see 0 = .ok (.aload_n 0, 1) := by decide +kernel
theorem dX12_see_1 : decode cX12_see 1 = .ok (.getfield 87, 3) := by decide +kernel
theorem dX12_see_4 : decode cX12_see 4 = .ok (.aload_n 0, 1) := by decide +kernel
theorem dX12_see_5 : decode cX12_see 5 = .ok (.getfield 77, 3) := by decide +kernel
theorem dX12_see_8 : decode cX12_see 8 = .ok (.if_icmp .ge 30, 3) := by decide +kernel
theorem dX12_see_11 : decode cX12_see 11 = .ok (.aload_n 0, 1) := by decide +kernel
theorem dX12_see_12 : decode cX12_see 12 = .ok (.getfield 7, 3) := by decide +kernel
theorem dX12_see_15 : decode cX12_see 15 = .ok (.aload_n 0, 1) := by decide +kernel
theorem dX12_see_16 : decode cX12_see 16 = .ok (.getfield 87, 3) := by decide +kernel
theorem dX12_see_19 : decode cX12_see 19 = .ok (.baload, 1) := by decide +kernel
theorem dX12_see_20 : decode cX12_see 20 = .ok (.bipush 32, 2) := by decide +kernel
theorem dX12_see_22 : decode cX12_see 22 = .ok (.if_icmp .ne 16, 3) := by decide +kernel
theorem dX12_see_25 : decode cX12_see 25 = .ok (.aload_n 0, 1) := by decide +kernel
theorem dX12_see_26 : decode cX12_see 26 = .ok (.dup, 1) := by decide +kernel
theorem dX12_see_27 : decode cX12_see 27 = .ok (.getfield 87, 3) := by decide +kernel
theorem dX12_see_30 : decode cX12_see 30 = .ok (.iconst 1, 1) := by decide +kernel
theorem dX12_see_31 : decode cX12_see 31 = .ok (.iadd, 1) := by decide +kernel
theorem dX12_see_32 : decode cX12_see 32 = .ok (.putfield 87, 3) := by decide +kernel
theorem dX12_see_35 : decode cX12_see 35 = .ok (.goto (-35), 3) := by decide +kernel
theorem dX12_see_38 : decode cX12_see 38 = .ok (.aload_n 0, 1) := by decide +kernel
theorem dX12_see_39 : decode cX12_see 39 = .ok (.getfield 87, 3) := by decide +kernel
theorem dX12_see_42 : decode cX12_see 42 = .ok (.aload_n 0, 1) := by decide +kernel
theorem dX12_see_43 : decode cX12_see 43 = .ok (.getfield 77, 3) := by decide +kernel
theorem dX12_see_46 : decode cX12_see 46 = .ok (.if_icmp .ge 19, 3) := by decide +kernel
theorem dX12_see_49 : decode cX12_see 49 = .ok (.aload_n 0, 1) := by decide +kernel
theorem dX12_see_50 : decode cX12_see 50 = .ok (.getfield 7, 3) := by decide +kernel
theorem dX12_see_53 : decode cX12_see 53 = .ok (.aload_n 0, 1) := by decide +kernel
theorem dX12_see_54 : decode cX12_see 54 = .ok (.getfield 87, 3) := by decide +kernel
theorem dX12_see_57 : decode cX12_see 57 = .ok (.baload, 1) := by decide +kernel
theorem dX12_see_58 : decode cX12_see 58 = .ok (.sipush 255, 3) := by decide +kernel
theorem dX12_see_61 : decode cX12_see 61 = .ok (.iand, 1) := by decide +kernel
theorem dX12_see_62 : decode cX12_see 62 = .ok (.goto 4, 3) := by decide +kernel
theorem dX12_see_65 : decode cX12_see 65 = .ok (.iconst (-1), 1) := by decide +kernel
theorem dX12_see_66 : decode cX12_see 66 = .ok (.ireturn, 1) := by decide +kernel
theorem dX12_sum_0 : decode cX12_sum 0 = .ok (.aload_n 0, 1) := by decide +kernel
theorem dX12_sum_1 : decode cX12_sum 1 = .ok (.invokevirtual 179, 3) := by decide +kernel
theorem dX12_sum_4 : decode cX12_sum 4 = .ok (.ifCond .ne 5, 3) := by decide +kernel
theorem dX12_sum_7 : decode cX12_sum 7 = .ok (.iconst 0, 1) := by decide +kernel
theorem dX12_sum_8 : decode cX12_sum 8 = .ok (.ireturn, 1) := by decide +kernel
theorem dX12_sum_9 : decode cX12_sum 9 = .ok (.aload_n 0, 1) := by decide +kernel
theorem dX12_sum_10 : decode cX12_sum 10 = .ok (.invokevirtual 90, 3) := by decide +kernel
theorem dX12_sum_13 : decode cX12_sum 13 = .ok (.bipush 43, 2) := by decide +kernel
theorem dX12_sum_15 : decode cX12_sum 15 = .ok (.if_icmp .eq 12, 3) := by decide +kernel
theorem dX12_sum_18 : decode cX12_sum 18 = .ok (.aload_n 0, 1) := by decide +kernel
theorem dX12_sum_19 : decode cX12_sum 19 = .ok (.invokevirtual 90, 3) := by decide +kernel
theorem dX12_sum_22 : decode cX12_sum 22 = .ok (.bipush 45, 2) := by decide +kernel
theorem dX12_sum_24 : decode cX12_sum 24 = .ok (.if_icmp .ne 51, 3) := by decide +kernel
theorem dX12_sum_27 : decode cX12_sum 27 = .ok (.aload_n 0, 1) := by decide +kernel
theorem dX12_sum_28 : decode cX12_sum 28 = .ok (.getfield 7, 3) := by decide +kernel
theorem dX12_sum_31 : decode cX12_sum 31 = .ok (.aload_n 0, 1) := by decide +kernel
theorem dX12_sum_32 : decode cX12_sum 32 = .ok (.getfield 87, 3) := by decide +kernel
theorem dX12_sum_35 : decode cX12_sum 35 = .ok (.baload, 1) := by decide +kernel
theorem dX12_sum_36 : decode cX12_sum 36 = .ok (.bipush 43, 2) := by decide +kernel
theorem dX12_sum_38 : decode cX12_sum 38 = .ok (.if_icmp .ne 7, 3) := by decide +kernel
theorem dX12_sum_41 : decode cX12_sum 41 = .ok (.iconst 2, 1) := by decide +kernel
theorem dX12_sum_42 : decode cX12_sum 42 = .ok (.goto 4, 3) := by decide +kernel
theorem dX12_sum_45 : decode cX12_sum 45 = .ok (.iconst 3, 1) := by decide +kernel
theorem dX12_sum_46 : decode cX12_sum 46 = .ok (.istore_n 1, 1) := by decide +kernel
theorem dX12_sum_47 : decode cX12_sum 47 = .ok (.aload_n 0, 1) := by decide +kernel
theorem dX12_sum_48 : decode cX12_sum 48 = .ok (.dup, 1) := by decide +kernel
theorem dX12_sum_49 : decode cX12_sum 49 = .ok (.getfield 87, 3) := by decide +kernel
theorem dX12_sum_52 : decode cX12_sum 52 = .ok (.iconst 1, 1) := by decide +kernel
theorem dX12_sum_53 : decode cX12_sum 53 = .ok (.iadd, 1) := by decide +kernel
theorem dX12_sum_54 : decode cX12_sum 54 = .ok (.putfield 87, 3) := by decide +kernel
theorem dX12_sum_57 : decode cX12_sum 57 = .ok (.aload_n 0, 1) := by decide +kernel
theorem dX12_sum_58 : decode cX12_sum 58 = .ok (.invokevirtual 179, 3) := by decide +kernel
theorem dX12_sum_61 : decode cX12_sum 61 = .ok (.ifCond .ne 5, 3) := by decide +kernel
theorem dX12_sum_64 : decode cX12_sum 64 = .ok (.iconst 0, 1) := by decide +kernel
theorem dX12_sum_65 : decode cX12_sum 65 = .ok (.ireturn, 1) := by decide +kernel
theorem dX12_sum_66 : decode cX12_sum 66 = .ok (.aload_n 0, 1) := by decide +kernel
theorem dX12_sum_67 : decode cX12_sum 67 = .ok (.iload_n 1, 1) := by decide +kernel
theorem dX12_sum_68 : decode cX12_sum 68 = .ok (.iconst 0, 1) := by decide +kernel
theorem dX12_sum_69 : decode cX12_sum 69 = .ok (.invokevirtual 161, 3) := by decide +kernel
theorem dX12_sum_72 : decode cX12_sum 72 = .ok (.goto (-63), 3) := by decide +kernel
theorem dX12_sum_75 : decode cX12_sum 75 = .ok (.iconst 1, 1) := by decide +kernel
theorem dX12_sum_76 : decode cX12_sum 76 = .ok (.ireturn, 1) := by decide +kernel
theorem dX12_takesWord_0 : decode cX12_takesWord 0 = .ok (.aload_n 0, 1) := by decide +kernel
theorem dX12_takesWord_1 : decode cX12_takesWord 1 = .ok (.lload_n 1, 1) := by decide +kernel
theorem dX12_takesWord_2 : decode cX12_takesWord 2 = .ok (.invokevirtual 98, 3) := by decide +kernel
theorem dX12_takesWord_5 : decode cX12_takesWord 5 = .ok (.ifCond .ne 5, 3) := by decide +kernel
theorem dX12_takesWord_8 : decode cX12_takesWord 8 = .ok (.iconst 0, 1) := by decide +kernel
theorem dX12_takesWord_9 : decode cX12_takesWord 9 = .ok (.ireturn, 1) := by decide +kernel
theorem dX12_takesWord_10 : decode cX12_takesWord 10 = .ok (.aload_n 0, 1) := by decide +kernel
theorem dX12_takesWord_11 : decode cX12_takesWord 11 = .ok (.invokevirtual 102, 3) := by decide +kernel
theorem dX12_takesWord_14 : decode cX12_takesWord 14 = .ok (.iconst 1, 1) := by decide +kernel
theorem dX12_takesWord_15 : decode cX12_takesWord 15 = .ok (.ireturn, 1) := by decide +kernel
theorem dX12_term_0 : decode cX12_term 0 = .ok (.aload_n 0, 1) := by decide +kernel
theorem dX12_term_1 : decode cX12_term 1 = .ok (.invokevirtual 175, 3) := by decide +kernel
theorem dX12_term_4 : decode cX12_term 4 = .ok (.ifCond .ne 5, 3) := by decide +kernel
theorem dX12_term_7 : decode cX12_term 7 = .ok (.iconst 0, 1) := by decide +kernel
theorem dX12_term_8 : decode cX12_term 8 = .ok (.ireturn, 1) := by decide +kernel
theorem dX12_term_9 : decode cX12_term 9 = .ok (.aload_n 0, 1) := by decide +kernel
theorem dX12_term_10 : decode cX12_term 10 = .ok (.invokevirtual 90, 3) := by decide +kernel
theorem dX12_term_13 : decode cX12_term 13 = .ok (.bipush 42, 2) := by decide +kernel
theorem dX12_term_15 : decode cX12_term 15 = .ok (.if_icmp .eq 21, 3) := by decide +kernel
theorem dX12_term_18 : decode cX12_term 18 = .ok (.aload_n 0, 1) := by decide +kernel
theorem dX12_term_19 : decode cX12_term 19 = .ok (.invokevirtual 90, 3) := by decide +kernel
theorem dX12_term_22 : decode cX12_term 22 = .ok (.bipush 47, 2) := by decide +kernel
theorem dX12_term_24 : decode cX12_term 24 = .ok (.if_icmp .eq 12, 3) := by decide +kernel
theorem dX12_term_27 : decode cX12_term 27 = .ok (.aload_n 0, 1) := by decide +kernel
theorem dX12_term_28 : decode cX12_term 28 = .ok (.invokevirtual 90, 3) := by decide +kernel
theorem dX12_term_31 : decode cX12_term 31 = .ok (.bipush 37, 2) := by decide +kernel
theorem dX12_term_33 : decode cX12_term 33 = .ok (.if_icmp .ne 70, 3) := by decide +kernel
theorem dX12_term_36 : decode cX12_term 36 = .ok (.aload_n 0, 1) := by decide +kernel
theorem dX12_term_37 : decode cX12_term 37 = .ok (.getfield 7, 3) := by decide +kernel
theorem dX12_term_40 : decode cX12_term 40 = .ok (.aload_n 0, 1) := by decide +kernel
theorem dX12_term_41 : decode cX12_term 41 = .ok (.getfield 87, 3) := by decide +kernel
theorem dX12_term_44 : decode cX12_term 44 = .ok (.baload, 1) := by decide +kernel
theorem dX12_term_45 : decode cX12_term 45 = .ok (.bipush 42, 2) := by decide +kernel
theorem dX12_term_47 : decode cX12_term 47 = .ok (.if_icmp .ne 7, 3) := by decide +kernel
theorem dX12_term_50 : decode cX12_term 50 = .ok (.iconst 4, 1) := by decide +kernel
theorem dX12_term_51 : decode cX12_term 51 = .ok (.goto 23, 3) := by decide +kernel
theorem dX12_term_54 : decode cX12_term 54 = .ok (.aload_n 0, 1) := by decide +kernel
theorem dX12_term_55 : decode cX12_term 55 = .ok (.getfield 7, 3) := by decide +kernel
theorem dX12_term_58 : decode cX12_term 58 = .ok (.aload_n 0, 1) := by decide +kernel
theorem dX12_term_59 : decode cX12_term 59 = .ok (.getfield 87, 3) := by decide +kernel
theorem dX12_term_62 : decode cX12_term 62 = .ok (.baload, 1) := by decide +kernel
theorem dX12_term_63 : decode cX12_term 63 = .ok (.bipush 47, 2) := by decide +kernel
theorem dX12_term_65 : decode cX12_term 65 = .ok (.if_icmp .ne 7, 3) := by decide +kernel
theorem dX12_term_68 : decode cX12_term 68 = .ok (.iconst 5, 1) := by decide +kernel
theorem dX12_term_69 : decode cX12_term 69 = .ok (.goto 5, 3) := by decide +kernel
theorem dX12_term_72 : decode cX12_term 72 = .ok (.bipush 14, 2) := by decide +kernel
theorem dX12_term_74 : decode cX12_term 74 = .ok (.istore_n 1, 1) := by decide +kernel
theorem dX12_term_75 : decode cX12_term 75 = .ok (.aload_n 0, 1) := by decide +kernel
theorem dX12_term_76 : decode cX12_term 76 = .ok (.dup, 1) := by decide +kernel
theorem dX12_term_77 : decode cX12_term 77 = .ok (.getfield 87, 3) := by decide +kernel
theorem dX12_term_80 : decode cX12_term 80 = .ok (.iconst 1, 1) := by decide +kernel
theorem dX12_term_81 : decode cX12_term 81 = .ok (.iadd, 1) := by decide +kernel
theorem dX12_term_82 : decode cX12_term 82 = .ok (.putfield 87, 3) := by decide +kernel
theorem dX12_term_85 : decode cX12_term 85 = .ok (.aload_n 0, 1) := by decide +kernel
theorem dX12_term_86 : decode cX12_term 86 = .ok (.invokevirtual 175, 3) := by decide +kernel
theorem dX12_term_89 : decode cX12_term 89 = .ok (.ifCond .ne 5, 3) := by decide +kernel
theorem dX12_term_92 : decode cX12_term 92 = .ok (.iconst 0, 1) := by decide +kernel
theorem dX12_term_93 : decode cX12_term 93 = .ok (.ireturn, 1) := by decide +kernel
theorem dX12_term_94 : decode cX12_term 94 = .ok (.aload_n 0, 1) := by decide +kernel
theorem dX12_term_95 : decode cX12_term 95 = .ok (.iload_n 1, 1) := by decide +kernel
theorem dX12_term_96 : decode cX12_term 96 = .ok (.iconst 0, 1) := by decide +kernel
theorem dX12_term_97 : decode cX12_term 97 = .ok (.invokevirtual 161, 3) := by decide +kernel
theorem dX12_term_100 : decode cX12_term 100 = .ok (.goto (-91), 3) := by decide +kernel
theorem dX12_term_103 : decode cX12_term 103 = .ok (.iconst 1, 1) := by decide +kernel
theorem dX12_term_104 : decode cX12_term 104 = .ok (.ireturn, 1) := by decide +kernel
theorem dX12_value_0 : decode cX12_value 0 = .ok (.aload_n 0, 1) := by decide +kernel
theorem dX12_value_1 : decode cX12_value 1 = .ok (.invokevirtual 90, 3) := by decide +kernel
theorem dX12_value_4 : decode cX12_value 4 = .ok (.pop, 1) := by decide +kernel
theorem dX12_value_5 : decode cX12_value 5 = .ok (.aload_n 0, 1) := by decide +kernel
theorem dX12_value_6 : decode cX12_value 6 = .ok (.getfield 87, 3) := by decide +kernel
theorem dX12_value_9 : decode cX12_value 9 = .ok (.istore_n 1, 1) := by decide +kernel
theorem dX12_value_10 : decode cX12_value 10 = .ok (.aload_n 0, 1) := by decide +kernel
theorem dX12_value_11 : decode cX12_value 11 = .ok (.aload_n 0, 1) := by decide +kernel
theorem dX12_value_12 : decode cX12_value 12 = .ok (.getfield 87, 3) := by decide +kernel
theorem dX12_value_15 : decode cX12_value 15 = .ok (.invokevirtual 105, 3) := by decide +kernel
theorem dX12_value_18 : decode cX12_value 18 = .ok (.ifCond .eq 34, 3) := by decide +kernel
theorem dX12_value_21 : decode cX12_value 21 = .ok (.aload_n 0, 1) := by decide +kernel
theorem dX12_value_22 : decode cX12_value 22 = .ok (.iconst 0, 1) := by decide +kernel
theorem dX12_value_23 : decode cX12_value 23 = .ok (.ldc 165, 2) := by decide +kernel
theorem dX12_value_25 : decode cX12_value 25 = .ok (.invokevirtual 166, 3) := by decide +kernel
theorem dX12_value_28 : decode cX12_value 28 = .ok (.ifCond .eq 11, 3) := by decide +kernel
theorem dX12_value_31 : decode cX12_value 31 = .ok (.aload_n 0, 1) := by decide +kernel
theorem dX12_value_32 : decode cX12_value 32 = .ok (.iload_n 1, 1) := by decide +kernel
theorem dX12_value_33 : decode cX12_value 33 = .ok (.invokevirtual 169, 3) := by decide +kernel
theorem dX12_value_36 : decode cX12_value 36 = .ok (.ifCond .ne 5, 3) := by decide +kernel
theorem dX12_value_39 : decode cX12_value 39 = .ok (.iconst 0, 1) := by decide +kernel
theorem dX12_value_40 : decode cX12_value 40 = .ok (.ireturn, 1) := by decide +kernel
theorem dX12_value_41 : decode cX12_value 41 = .ok (.aload_n 0, 1) := by decide +kernel
theorem dX12_value_42 : decode cX12_value 42 = .ok (.iconst 0, 1) := by decide +kernel
theorem dX12_value_43 : decode cX12_value 43 = .ok (.aload_n 0, 1) := by decide +kernel
theorem dX12_value_44 : decode cX12_value 44 = .ok (.getfield 112, 3) := by decide +kernel
theorem dX12_value_47 : decode cX12_value 47 = .ok (.invokevirtual 161, 3) := by decide +kernel
theorem dX12_value_50 : decode cX12_value 50 = .ok (.iconst 1, 1) := by decide +kernel
theorem dX12_value_51 : decode cX12_value 51 = .ok (.ireturn, 1) := by decide +kernel
theorem dX12_value_52 : decode cX12_value 52 = .ok (.aload_n 0, 1) := by decide +kernel
theorem dX12_value_53 : decode cX12_value 53 = .ok (.invokevirtual 172, 3) := by decide +kernel
theorem dX12_value_56 : decode cX12_value 56 = .ok (.istore_n 2, 1) := by decide +kernel
theorem dX12_value_57 : decode cX12_value 57 = .ok (.iload_n 2, 1) := by decide +kernel
theorem dX12_value_58 : decode cX12_value 58 = .ok (.ifCond .ge 10, 3) := by decide +kernel
theorem dX12_value_61 : decode cX12_value 61 = .ok (.aload_n 0, 1) := by decide +kernel
theorem dX12_value_62 : decode cX12_value 62 = .ok (.iconst 0, 1) := by decide +kernel
theorem dX12_value_63 : decode cX12_value 63 = .ok (.iload_n 1, 1) := by decide +kernel
theorem dX12_value_64 : decode cX12_value 64 = .ok (.invokevirtual 108, 3) := by decide +kernel
theorem dX12_value_67 : decode cX12_value 67 = .ok (.ireturn, 1) := by decide +kernel
theorem dX12_value_68 : decode cX12_value 68 = .ok (.aload_n 0, 1) := by decide +kernel
theorem dX12_value_69 : decode cX12_value 69 = .ok (.iload_n 1, 1) := by decide +kernel
theorem dX12_value_70 : decode cX12_value 70 = .ok (.invokevirtual 169, 3) := by decide +kernel
theorem dX12_value_73 : decode cX12_value 73 = .ok (.ifCond .ne 5, 3) := by decide +kernel
theorem dX12_value_76 : decode cX12_value 76 = .ok (.iconst 0, 1) := by decide +kernel
theorem dX12_value_77 : decode cX12_value 77 = .ok (.ireturn, 1) := by decide +kernel
theorem dX12_value_78 : decode cX12_value 78 = .ok (.aload_n 0, 1) := by decide +kernel
theorem dX12_value_79 : decode cX12_value 79 = .ok (.invokevirtual 102, 3) := by decide +kernel
theorem dX12_value_82 : decode cX12_value 82 = .ok (.aload_n 0, 1) := by decide +kernel
theorem dX12_value_83 : decode cX12_value 83 = .ok (.iconst 1, 1) := by decide +kernel
theorem dX12_value_84 : decode cX12_value 84 = .ok (.iload_n 2, 1) := by decide +kernel
theorem dX12_value_85 : decode cX12_value 85 = .ok (.invokevirtual 161, 3) := by decide +kernel
theorem dX12_value_88 : decode cX12_value 88 = .ok (.iconst 1, 1) := by decide +kernel
theorem dX12_value_89 : decode cX12_value 89 = .ok (.ireturn, 1) := by decide +kernel
theorem dX12_wordHere_0 : decode cX12_wordHere 0 = .ok (.aload_n 0, 1) := by decide +kernel
theorem dX12_wordHere_1 : decode cX12_wordHere 1 = .ok (.ldc2_w 119, 3) := by decide +kernel
theorem dX12_wordHere_4 : decode cX12_wordHere 4 = .ok (.invokevirtual 98, 3) := by decide +kernel
theorem dX12_wordHere_7 : decode cX12_wordHere 7 = .ok (.ifCond .eq 5, 3) := by decide +kernel
theorem dX12_wordHere_10 : decode cX12_wordHere 10 = .ok (.iconst 0, 1) := by decide +kernel
theorem dX12_wordHere_11 : decode cX12_wordHere 11 = .ok (.ireturn, 1) := by decide +kernel
theorem dX12_wordHere_12 : decode cX12_wordHere 12 = .ok (.aload_n 0, 1) := by decide +kernel
theorem dX12_wordHere_13 : decode cX12_wordHere 13 = .ok (.ldc2_w 121, 3) := by decide +kernel
theorem dX12_wordHere_16 : decode cX12_wordHere 16 = .ok (.invokevirtual 98, 3) := by decide +kernel
theorem dX12_wordHere_19 : decode cX12_wordHere 19 = .ok (.ifCond .eq 5, 3) := by decide +kernel
theorem dX12_wordHere_22 : decode cX12_wordHere 22 = .ok (.iconst 1, 1) := by decide +kernel
theorem dX12_wordHere_23 : decode cX12_wordHere 23 = .ok (.ireturn, 1) := by decide +kernel
theorem dX12_wordHere_24 : decode cX12_wordHere 24 = .ok (.aload_n 0, 1) := by decide +kernel
theorem dX12_wordHere_25 : decode cX12_wordHere 25 = .ok (.ldc2_w 123, 3) := by decide +kernel
theorem dX12_wordHere_28 : decode cX12_wordHere 28 = .ok (.invokevirtual 98, 3) := by decide +kernel
theorem dX12_wordHere_31 : decode cX12_wordHere 31 = .ok (.ifCond .eq 5, 3) := by decide +kernel
theorem dX12_wordHere_34 : decode cX12_wordHere 34 = .ok (.iconst 2, 1) := by decide +kernel
theorem dX12_wordHere_35 : decode cX12_wordHere 35 = .ok (.ireturn, 1) := by decide +kernel
theorem dX12_wordHere_36 : decode cX12_wordHere 36 = .ok (.aload_n 0, 1) := by decide +kernel
theorem dX12_wordHere_37 : decode cX12_wordHere 37 = .ok (.ldc2_w 125, 3) := by decide +kernel
theorem dX12_wordHere_40 : decode cX12_wordHere 40 = .ok (.invokevirtual 98, 3) := by decide +kernel
theorem dX12_wordHere_43 : decode cX12_wordHere 43 = .ok (.ifCond .eq 5, 3) := by decide +kernel
theorem dX12_wordHere_46 : decode cX12_wordHere 46 = .ok (.iconst 3, 1) := by decide +kernel
theorem dX12_wordHere_47 : decode cX12_wordHere 47 = .ok (.ireturn, 1) := by decide +kernel
theorem dX12_wordHere_48 : decode cX12_wordHere 48 = .ok (.aload_n 0, 1) := by decide +kernel
theorem dX12_wordHere_49 : decode cX12_wordHere 49 = .ok (.ldc2_w 127, 3) := by decide +kernel
theorem dX12_wordHere_52 : decode cX12_wordHere 52 = .ok (.invokevirtual 98, 3) := by decide +kernel
theorem dX12_wordHere_55 : decode cX12_wordHere 55 = .ok (.ifCond .eq 5, 3) := by decide +kernel
theorem dX12_wordHere_58 : decode cX12_wordHere 58 = .ok (.iconst 4, 1) := by decide +kernel
theorem dX12_wordHere_59 : decode cX12_wordHere 59 = .ok (.ireturn, 1) := by decide +kernel
theorem dX12_wordHere_60 : decode cX12_wordHere 60 = .ok (.aload_n 0, 1) := by decide +kernel
theorem dX12_wordHere_61 : decode cX12_wordHere 61 = .ok (.ldc2_w 129, 3) := by decide +kernel
theorem dX12_wordHere_64 : decode cX12_wordHere 64 = .ok (.invokevirtual 98, 3) := by decide +kernel
theorem dX12_wordHere_67 : decode cX12_wordHere 67 = .ok (.ifCond .eq 5, 3) := by decide +kernel
theorem dX12_wordHere_70 : decode cX12_wordHere 70 = .ok (.iconst 5, 1) := by decide +kernel
theorem dX12_wordHere_71 : decode cX12_wordHere 71 = .ok (.ireturn, 1) := by decide +kernel
theorem dX12_wordHere_72 : decode cX12_wordHere 72 = .ok (.aload_n 0, 1) := by decide +kernel
theorem dX12_wordHere_73 : decode cX12_wordHere 73 = .ok (.ldc2_w 131, 3) := by decide +kernel
theorem dX12_wordHere_76 : decode cX12_wordHere 76 = .ok (.invokevirtual 98, 3) := by decide +kernel
theorem dX12_wordHere_79 : decode cX12_wordHere 79 = .ok (.ifCond .eq 6, 3) := by decide +kernel
theorem dX12_wordHere_82 : decode cX12_wordHere 82 = .ok (.bipush 6, 2) := by decide +kernel
theorem dX12_wordHere_84 : decode cX12_wordHere 84 = .ok (.ireturn, 1) := by decide +kernel
theorem dX12_wordHere_85 : decode cX12_wordHere 85 = .ok (.aload_n 0, 1) := by decide +kernel
theorem dX12_wordHere_86 : decode cX12_wordHere 86 = .ok (.ldc2_w 133, 3) := by decide +kernel
theorem dX12_wordHere_89 : decode cX12_wordHere 89 = .ok (.invokevirtual 98, 3) := by decide +kernel
theorem dX12_wordHere_92 : decode cX12_wordHere 92 = .ok (.ifCond .eq 6, 3) := by decide +kernel
theorem dX12_wordHere_95 : decode cX12_wordHere 95 = .ok (.bipush 7, 2) := by decide +kernel
theorem dX12_wordHere_97 : decode cX12_wordHere 97 = .ok (.ireturn, 1) := by decide +kernel
theorem dX12_wordHere_98 : decode cX12_wordHere 98 = .ok (.aload_n 0, 1) := by decide +kernel
theorem dX12_wordHere_99 : decode cX12_wordHere 99 = .ok (.ldc2_w 135, 3) := by decide +kernel
theorem dX12_wordHere_102 : decode cX12_wordHere 102 = .ok (.invokevirtual 98, 3) := by decide +kernel
theorem dX12_wordHere_105 : decode cX12_wordHere 105 = .ok (.ifCond .eq 6, 3) := by decide +kernel
theorem dX12_wordHere_108 : decode cX12_wordHere 108 = .ok (.bipush 8, 2) := by decide +kernel
theorem dX12_wordHere_110 : decode cX12_wordHere 110 = .ok (.ireturn, 1) := by decide +kernel
theorem dX12_wordHere_111 : decode cX12_wordHere 111 = .ok (.aload_n 0, 1) := by decide +kernel
theorem dX12_wordHere_112 : decode cX12_wordHere 112 = .ok (.ldc2_w 137, 3) := by decide +kernel
theorem dX12_wordHere_115 : decode cX12_wordHere 115 = .ok (.invokevirtual 98, 3) := by decide +kernel
theorem dX12_wordHere_118 : decode cX12_wordHere 118 = .ok (.ifCond .eq 6, 3) := by decide +kernel
theorem dX12_wordHere_121 : decode cX12_wordHere 121 = .ok (.bipush 9, 2) := by decide +kernel
theorem dX12_wordHere_123 : decode cX12_wordHere 123 = .ok (.ireturn, 1) := by decide +kernel
theorem dX12_wordHere_124 : decode cX12_wordHere 124 = .ok (.aload_n 0, 1) := by decide +kernel
theorem dX12_wordHere_125 : decode cX12_wordHere 125 = .ok (.ldc2_w 139, 3) := by decide +kernel
theorem dX12_wordHere_128 : decode cX12_wordHere 128 = .ok (.invokevirtual 98, 3) := by decide +kernel
theorem dX12_wordHere_131 : decode cX12_wordHere 131 = .ok (.ifCond .eq 6, 3) := by decide +kernel
theorem dX12_wordHere_134 : decode cX12_wordHere 134 = .ok (.bipush 10, 2) := by decide +kernel
theorem dX12_wordHere_136 : decode cX12_wordHere 136 = .ok (.ireturn, 1) := by decide +kernel
theorem dX12_wordHere_137 : decode cX12_wordHere 137 = .ok (.aload_n 0, 1) := by decide +kernel
theorem dX12_wordHere_138 : decode cX12_wordHere 138 = .ok (.ldc2_w 141, 3) := by decide +kernel
theorem dX12_wordHere_141 : decode cX12_wordHere 141 = .ok (.invokevirtual 98, 3) := by decide +kernel
theorem dX12_wordHere_144 : decode cX12_wordHere 144 = .ok (.ifCond .eq 8, 3) := by decide +kernel
theorem dX12_wordHere_147 : decode cX12_wordHere 147 = .ok (.bipush 11, 2) := by decide +kernel
theorem dX12_wordHere_149 : decode cX12_wordHere 149 = .ok (.goto 19, 3) := by decide +kernel
theorem dX12_wordHere_152 : decode cX12_wordHere 152 = .ok (.aload_n 0, 1) := by decide +kernel
theorem dX12_wordHere_153 : decode cX12_wordHere 153 = .ok (.ldc2_w 143, 3) := by decide +kernel
theorem dX12_wordHere_156 : decode cX12_wordHere 156 = .ok (.invokevirtual 98, 3) := by decide +kernel
theorem dX12_wordHere_159 : decode cX12_wordHere 159 = .ok (.ifCond .eq 8, 3) := by decide +kernel
theorem dX12_wordHere_162 : decode cX12_wordHere 162 = .ok (.bipush 12, 2) := by decide +kernel
theorem dX12_wordHere_164 : decode cX12_wordHere 164 = .ok (.goto 4, 3) := by decide +kernel
theorem dX12_wordHere_167 : decode cX12_wordHere 167 = .ok (.iconst (-1), 1) := by decide +kernel
theorem dX12_wordHere_168 : decode cX12_wordHere 168 = .ok (.ireturn, 1) := by decide +kernel
set_option maxHeartbeats 4000000 in
set_option maxRecDepth 100000 in
theorem ct_X12_isLetter (l : Launch) (D : va_G) (tc : Nat → ClassId) (sk : (Nat → Nat) × (Nat → Nat)) (Ma : Nat → Nat) (Mv : Nat → Int32) (Mf : Nat → Nat → Int32) (Mj : Nat → Int64) (x1 : Int32) (h_x : 0 ≤ x1.toInt) (h_t : (Mv 0).toInt ≤ 400) : Ct l yX12_isLetter cX12_isLetter 2 (some .boolean) { frames := 0, cells := 0, slots := 0, locals := 0 } D tc sk [.ref (Ma 0), .int x1] [((Ma 0), .inr (12, [.ref (Ma 1), .int (Mv 0), .int (Mv 1), .ref (Ma 2), .ref (Ma 3), .ref (Ma 4), .ref (Ma 5), .ref (Ma 6), .int (Mv 2), .int (Mv 3), .int (Mv 4), .int (Mv 5), .int (Mv 6), .int (Mv 7), .int (Mv 8), .ref (Ma 7), .int (Mv 9), .ref (Ma 8), .int (Mv 10), .ref (Ma 9), .ref (Ma 10), .int (Mv 11), .int (Mv 12), .int (Mv 13), .ref (Ma 11), .int (Mv 14), .ref (Ma 12), .ref (Ma 13), .ref (Ma 14), .ref (Ma 15), .ref (Ma 16), .long (Mj 0), .ref (Ma 17), .ref (Ma 18), .ref (Ma 19), .ref (Ma 20)])), ((Ma 1), .inl (tc 2, 400, .inl (Mf 1)))] (fun (v : Option Value) (_ : Unit) => ∃ r : Int32, v = some (.int r) ∧ ((r.toInt = 0 ∨ r.toInt = 1)) ∧ (r.toInt = 1 → (Ltr (Mf 1) (Mv 0) x1)) ∧ (r.toInt = 0 → (NLtr (Mf 1) (Mv 0) x1))) (fun (_ : Unit) => [((Ma 0), .inr (12, [.ref (Ma 1), .int (Mv 0), .int (Mv 1), .ref (Ma 2), .ref (Ma 3), .ref (Ma 4), .ref (Ma 5), .ref (Ma 6), .int (Mv 2), .int (Mv 3), .int (Mv 4), .int (Mv 5), .int (Mv 6), .int (Mv 7), .int (Mv 8), .ref (Ma 7), .int (Mv 9), .ref (Ma 8), .int (Mv 10), .ref (Ma 9), .ref (Ma 10), .int (Mv 11), .int (Mv 12), .int (Mv 13), .ref (Ma 11), .int (Mv 14), .ref (Ma 12), .ref (Ma 13), .ref (Ma 14), .ref (Ma 15), .ref (Ma 16), .long (Mj 0), .ref (Ma 17), .ref (Ma 18), .ref (Ma 19), .ref (Ma 20)])), ((Ma 1), .inl (tc 2, 400, .inl (Mf 1)))]) 0 0 := by
  refine Ct.start (by decide) (Nat.le_of_ble_eq_true rfl) (fun p e s m below meth c A ls hx hb hr hlk hin hml hown hts hK hX hP hD hA hl hS => ?_)
  have hl : lv_has ls 2 [(0, .ref (Ma 0)), (1, .int x1)] := hl
  refine lv_iload_n hx hb dX12_isLetter_0 rfl (lv_at hl 1 rfl) ?_
  refine lv_aload_n hx hb dX12_isLetter_1 rfl (lv_at hl 0 rfl) ?_
  refine gf_X12_77 hx hb hts hown hK hP 0 rfl rfl dX12_isLetter_2 ?_
  refine lv_icmp_ge (tgt := 34) hx hb dX12_isLetter_5 (by decide) (fun c_1 => ?_) (fun c_1 => ?_)
  · skip
    refine lv_iconst (v := 0) hx hb dX12_isLetter_34 (by decide) ?_
    have hp_2 : ((0 : Int32).toInt = 0 ∨ (0 : Int32).toInt = 1) := by
      have z_1 := Int32.le_iff_toInt_le.mp c_1
      have y_0 : (0 : Int32).toInt = 0 := by decide
      have yr : (0 : Int32).toInt = 0 := by decide
      omega
    have hm_3 : (0 : Int32).toInt = 0 → (NLtr (Mf 1) (Mv 0) x1) := by
      intro h1r
      have ha_4 : NLtr (Mf 1) (Mv 0) x1 := by
        unfold NLtr Ltr
        intro hz
        have z_1 := Int32.le_iff_toInt_le.mp c_1
        omega
      exact ha_4
    exact retI (v := 0) hx hb hr hlk (rfl) hP hD hS () ⟨_, rfl, hp_2, (fun h => absurd h (by decide)), hm_3⟩ [0, 1] rfl rfl dX12_isLetter_35 (Nat.le_of_ble_eq_true rfl) (Nat.le_of_ble_eq_true rfl) rfl
  · skip
    refine lv_aload_n hx hb dX12_isLetter_8 rfl (lv_at hl 0 rfl) ?_
    refine gf_X12_7 hx hb hts hown hK hP 0 rfl rfl dX12_isLetter_9 ?_
    refine lv_iload_n hx hb dX12_isLetter_12 rfl (lv_at hl 1 rfl) ?_
    have hi_5 : vp_in x1 400 := by
      have z_1 := Int32.lt_iff_toInt_lt.mp (Int32.not_le.mp c_1)
      refine vp_in_iff.mpr ⟨?_, ?_⟩ <;> omega
    refine va_bald hx hb hK hP 1 2 rfl rfl hi_5 dX12_isLetter_13 ?_
    refine lv_topi (fun x_6 ex_6 => ?_)
    have kx_6 : x_6.toInt = ((Mf 1) (x1 : Int32).toNatClampNeg).toInt := congrArg Int32.toInt ex_6
    refine lv_bipush (v := 97) hx hb dX12_isLetter_14 (by decide) ?_
    refine lv_icmp_lt (tgt := 34) hx hb dX12_isLetter_16 (by decide) (fun c_7 => ?_) (fun c_7 => ?_)
    · skip
      refine lv_iconst (v := 0) hx hb dX12_isLetter_34 (by decide) ?_
      have hp_8 : ((0 : Int32).toInt = 0 ∨ (0 : Int32).toInt = 1) := by
        have z_1 := Int32.lt_iff_toInt_lt.mp (Int32.not_le.mp c_1)
        have z_2 := Int32.lt_iff_toInt_lt.mp c_7
        have y_97 : (97 : Int32).toInt = 97 := by decide
        have y_0 : (0 : Int32).toInt = 0 := by decide
        have yr : (0 : Int32).toInt = 0 := by decide
        omega
      have hm_9 : (0 : Int32).toInt = 0 → (NLtr (Mf 1) (Mv 0) x1) := by
        intro h1r
        have ha_10 : NLtr (Mf 1) (Mv 0) x1 := by
          unfold NLtr Ltr
          intro hz
          have z_1 := Int32.lt_iff_toInt_lt.mp (Int32.not_le.mp c_1)
          have z_2 := Int32.lt_iff_toInt_lt.mp c_7
          have y_97 : (97 : Int32).toInt = 97 := by decide
          omega
        exact ha_10
      exact retI (v := 0) hx hb hr hlk (rfl) hP hD hS () ⟨_, rfl, hp_8, (fun h => absurd h (by decide)), hm_9⟩ [0, 1] rfl rfl dX12_isLetter_35 (Nat.le_of_ble_eq_true rfl) (Nat.le_of_ble_eq_true rfl) rfl
    · skip
      refine lv_aload_n hx hb dX12_isLetter_19 rfl (lv_at hl 0 rfl) ?_
      refine gf_X12_7 hx hb hts hown hK hP 0 rfl rfl dX12_isLetter_20 ?_
      refine lv_iload_n hx hb dX12_isLetter_23 rfl (lv_at hl 1 rfl) ?_
      have hi_11 : vp_in x1 400 := by
        have z_1 := Int32.lt_iff_toInt_lt.mp (Int32.not_le.mp c_1)
        have z_2 := Int32.le_iff_toInt_le.mp (Int32.not_lt.mp c_7)
        have y_97 : (97 : Int32).toInt = 97 := by decide
        refine vp_in_iff.mpr ⟨?_, ?_⟩ <;> omega
      refine va_bald hx hb hK hP 1 2 rfl rfl hi_11 dX12_isLetter_24 ?_
      refine lv_topi (fun x_12 ex_12 => ?_)
      have kx_12 : x_12.toInt = ((Mf 1) (x1 : Int32).toNatClampNeg).toInt := congrArg Int32.toInt ex_12
      refine lv_bipush (v := 122) hx hb dX12_isLetter_25 (by decide) ?_
      refine lv_icmp_gt (tgt := 34) hx hb dX12_isLetter_27 (by decide) (fun c_13 => ?_) (fun c_13 => ?_)
      · skip
        refine lv_iconst (v := 0) hx hb dX12_isLetter_34 (by decide) ?_
        have hp_14 : ((0 : Int32).toInt = 0 ∨ (0 : Int32).toInt = 1) := by
          have z_1 := Int32.lt_iff_toInt_lt.mp (Int32.not_le.mp c_1)
          have z_2 := Int32.le_iff_toInt_le.mp (Int32.not_lt.mp c_7)
          have z_3 := Int32.lt_iff_toInt_lt.mp c_13
          have y_97 : (97 : Int32).toInt = 97 := by decide
          have y_122 : (122 : Int32).toInt = 122 := by decide
          have y_0 : (0 : Int32).toInt = 0 := by decide
          have yr : (0 : Int32).toInt = 0 := by decide
          omega
        have hm_15 : (0 : Int32).toInt = 0 → (NLtr (Mf 1) (Mv 0) x1) := by
          intro h1r
          have ha_16 : NLtr (Mf 1) (Mv 0) x1 := by
            unfold NLtr Ltr
            intro hz
            have z_1 := Int32.lt_iff_toInt_lt.mp (Int32.not_le.mp c_1)
            have z_2 := Int32.le_iff_toInt_le.mp (Int32.not_lt.mp c_7)
            have z_3 := Int32.lt_iff_toInt_lt.mp c_13
            have y_97 : (97 : Int32).toInt = 97 := by decide
            have y_122 : (122 : Int32).toInt = 122 := by decide
            omega
          exact ha_16
        exact retI (v := 0) hx hb hr hlk (rfl) hP hD hS () ⟨_, rfl, hp_14, (fun h => absurd h (by decide)), hm_15⟩ [0, 1] rfl rfl dX12_isLetter_35 (Nat.le_of_ble_eq_true rfl) (Nat.le_of_ble_eq_true rfl) rfl
      · skip
        refine lv_iconst (v := 1) hx hb dX12_isLetter_30 (by decide) ?_
        refine lv_goto (tgt := 35) hx hb dX12_isLetter_31 (by decide) ?_
        have hp_17 : ((1 : Int32).toInt = 0 ∨ (1 : Int32).toInt = 1) := by
          have z_1 := Int32.lt_iff_toInt_lt.mp (Int32.not_le.mp c_1)
          have z_2 := Int32.le_iff_toInt_le.mp (Int32.not_lt.mp c_7)
          have z_3 := Int32.le_iff_toInt_le.mp (Int32.not_lt.mp c_13)
          have y_97 : (97 : Int32).toInt = 97 := by decide
          have y_122 : (122 : Int32).toInt = 122 := by decide
          have y_1 : (1 : Int32).toInt = 1 := by decide
          have yr : (1 : Int32).toInt = 1 := by decide
          omega
        have hm_18 : (1 : Int32).toInt = 1 → (Ltr (Mf 1) (Mv 0) x1) := by
          intro h1r
          have ha_19 : Ltr (Mf 1) (Mv 0) x1 := by
            unfold Ltr
            have z_1 := Int32.lt_iff_toInt_lt.mp (Int32.not_le.mp c_1)
            have z_2 := Int32.le_iff_toInt_le.mp (Int32.not_lt.mp c_7)
            have z_3 := Int32.le_iff_toInt_le.mp (Int32.not_lt.mp c_13)
            have y_97 : (97 : Int32).toInt = 97 := by decide
            have y_122 : (122 : Int32).toInt = 122 := by decide
            omega
          exact ha_19
        exact retI (v := 1) hx hb hr hlk (rfl) hP hD hS () ⟨_, rfl, hp_17, hm_18, (fun h => absurd h (by decide))⟩ [0, 1] rfl rfl dX12_isLetter_35 (Nat.le_of_ble_eq_true rfl) (Nat.le_of_ble_eq_true rfl) rfl
set_option maxRecDepth 100000 in
theorem cu_X12_isLetter (l : Launch) (D : va_G) (tc : Nat → ClassId) (sk : (Nat → Nat) × (Nat → Nat)) (Ma_0 : Nat) (Ma_1 : Nat) (Ma_2 : Nat) (Ma_3 : Nat) (Ma_4 : Nat) (Ma_5 : Nat) (Ma_6 : Nat) (Ma_7 : Nat) (Ma_8 : Nat) (Ma_9 : Nat) (Ma_10 : Nat) (Ma_11 : Nat) (Ma_12 : Nat) (Ma_13 : Nat) (Ma_14 : Nat) (Ma_15 : Nat) (Ma_16 : Nat) (Ma_17 : Nat) (Ma_18 : Nat) (Ma_19 : Nat) (Ma_20 : Nat) (Mv_0 : Int32) (Mv_1 : Int32) (Mv_2 : Int32) (Mv_3 : Int32) (Mv_4 : Int32) (Mv_5 : Int32) (Mv_6 : Int32) (Mv_7 : Int32) (Mv_8 : Int32) (Mv_9 : Int32) (Mv_10 : Int32) (Mv_11 : Int32) (Mv_12 : Int32) (Mv_13 : Int32) (Mv_14 : Int32) (Mf_1 : Nat → Int32) (Mj_0 : Int64) (x1 : Int32) (h_x : 0 ≤ x1.toInt) (h_t : Mv_0.toInt ≤ 400) : Ct l yX12_isLetter cX12_isLetter 2 (some .boolean) { frames := 0, cells := 0, slots := 0, locals := 0 } D tc sk [.ref Ma_0, .int x1] [(Ma_0, .inr (12, [.ref Ma_1, .int Mv_0, .int Mv_1, .ref Ma_2, .ref Ma_3, .ref Ma_4, .ref Ma_5, .ref Ma_6, .int Mv_2, .int Mv_3, .int Mv_4, .int Mv_5, .int Mv_6, .int Mv_7, .int Mv_8, .ref Ma_7, .int Mv_9, .ref Ma_8, .int Mv_10, .ref Ma_9, .ref Ma_10, .int Mv_11, .int Mv_12, .int Mv_13, .ref Ma_11, .int Mv_14, .ref Ma_12, .ref Ma_13, .ref Ma_14, .ref Ma_15, .ref Ma_16, .long Mj_0, .ref Ma_17, .ref Ma_18, .ref Ma_19, .ref Ma_20])), (Ma_1, .inl (tc 2, 400, .inl Mf_1))] (fun (v : Option Value) (_ : Unit) => ∃ r : Int32, v = some (.int r) ∧ ((r.toInt = 0 ∨ r.toInt = 1)) ∧ (r.toInt = 1 → (Ltr Mf_1 Mv_0 x1)) ∧ (r.toInt = 0 → (NLtr Mf_1 Mv_0 x1))) (fun (_ : Unit) => [(Ma_0, .inr (12, [.ref Ma_1, .int Mv_0, .int Mv_1, .ref Ma_2, .ref Ma_3, .ref Ma_4, .ref Ma_5, .ref Ma_6, .int Mv_2, .int Mv_3, .int Mv_4, .int Mv_5, .int Mv_6, .int Mv_7, .int Mv_8, .ref Ma_7, .int Mv_9, .ref Ma_8, .int Mv_10, .ref Ma_9, .ref Ma_10, .int Mv_11, .int Mv_12, .int Mv_13, .ref Ma_11, .int Mv_14, .ref Ma_12, .ref Ma_13, .ref Ma_14, .ref Ma_15, .ref Ma_16, .long Mj_0, .ref Ma_17, .ref Ma_18, .ref Ma_19, .ref Ma_20])), (Ma_1, .inl (tc 2, 400, .inl Mf_1))]) 0 0 :=
  ct_X12_isLetter l D tc sk (fun k => ([Ma_0, Ma_1, Ma_2, Ma_3, Ma_4, Ma_5, Ma_6, Ma_7, Ma_8, Ma_9, Ma_10, Ma_11, Ma_12, Ma_13, Ma_14, Ma_15, Ma_16, Ma_17, Ma_18, Ma_19, Ma_20] : List (Nat)).getD k 0) (fun k => ([Mv_0, Mv_1, Mv_2, Mv_3, Mv_4, Mv_5, Mv_6, Mv_7, Mv_8, Mv_9, Mv_10, Mv_11, Mv_12, Mv_13, Mv_14] : List (Int32)).getD k 0) (fun k => ([(fun _ => 0), Mf_1] : List (Nat → Int32)).getD k (fun _ => 0)) (fun k => ([Mj_0] : List (Int64)).getD k 0) x1 h_x h_t
set_option maxHeartbeats 4000000 in
set_option maxRecDepth 100000 in
theorem ct_X12_isDigit (l : Launch) (D : va_G) (tc : Nat → ClassId) (sk : (Nat → Nat) × (Nat → Nat)) (Ma : Nat → Nat) (Mv : Nat → Int32) (Mf : Nat → Nat → Int32) (Mj : Nat → Int64) (x1 : Int32) (h_x : 0 ≤ x1.toInt) (h_t : (Mv 0).toInt ≤ 400) : Ct l yX12_isDigit cX12_isDigit 2 (some .boolean) { frames := 0, cells := 0, slots := 0, locals := 0 } D tc sk [.ref (Ma 0), .int x1] [((Ma 0), .inr (12, [.ref (Ma 1), .int (Mv 0), .int (Mv 1), .ref (Ma 2), .ref (Ma 3), .ref (Ma 4), .ref (Ma 5), .ref (Ma 6), .int (Mv 2), .int (Mv 3), .int (Mv 4), .int (Mv 5), .int (Mv 6), .int (Mv 7), .int (Mv 8), .ref (Ma 7), .int (Mv 9), .ref (Ma 8), .int (Mv 10), .ref (Ma 9), .ref (Ma 10), .int (Mv 11), .int (Mv 12), .int (Mv 13), .ref (Ma 11), .int (Mv 14), .ref (Ma 12), .ref (Ma 13), .ref (Ma 14), .ref (Ma 15), .ref (Ma 16), .long (Mj 0), .ref (Ma 17), .ref (Ma 18), .ref (Ma 19), .ref (Ma 20)])), ((Ma 1), .inl (tc 2, 400, .inl (Mf 1)))] (fun (v : Option Value) (_ : Unit) => ∃ r : Int32, v = some (.int r) ∧ ((r.toInt = 0 ∨ r.toInt = 1)) ∧ (r.toInt = 1 → (Dgt (Mf 1) (Mv 0) x1)) ∧ (r.toInt = 0 → (NDgt (Mf 1) (Mv 0) x1))) (fun (_ : Unit) => [((Ma 0), .inr (12, [.ref (Ma 1), .int (Mv 0), .int (Mv 1), .ref (Ma 2), .ref (Ma 3), .ref (Ma 4), .ref (Ma 5), .ref (Ma 6), .int (Mv 2), .int (Mv 3), .int (Mv 4), .int (Mv 5), .int (Mv 6), .int (Mv 7), .int (Mv 8), .ref (Ma 7), .int (Mv 9), .ref (Ma 8), .int (Mv 10), .ref (Ma 9), .ref (Ma 10), .int (Mv 11), .int (Mv 12), .int (Mv 13), .ref (Ma 11), .int (Mv 14), .ref (Ma 12), .ref (Ma 13), .ref (Ma 14), .ref (Ma 15), .ref (Ma 16), .long (Mj 0), .ref (Ma 17), .ref (Ma 18), .ref (Ma 19), .ref (Ma 20)])), ((Ma 1), .inl (tc 2, 400, .inl (Mf 1)))]) 0 0 := by
  refine Ct.start (by decide) (Nat.le_of_ble_eq_true rfl) (fun p e s m below meth c A ls hx hb hr hlk hin hml hown hts hK hX hP hD hA hl hS => ?_)
  have hl : lv_has ls 2 [(0, .ref (Ma 0)), (1, .int x1)] := hl
  refine lv_iload_n hx hb dX12_isDigit_0 rfl (lv_at hl 1 rfl) ?_
  refine lv_aload_n hx hb dX12_isDigit_1 rfl (lv_at hl 0 rfl) ?_
  refine gf_X12_77 hx hb hts hown hK hP 0 rfl rfl dX12_isDigit_2 ?_
  refine lv_icmp_ge (tgt := 34) hx hb dX12_isDigit_5 (by decide) (fun c_1 => ?_) (fun c_1 => ?_)
  · skip
    refine lv_iconst (v := 0) hx hb dX12_isDigit_34 (by decide) ?_
    have hp_2 : ((0 : Int32).toInt = 0 ∨ (0 : Int32).toInt = 1) := by
      have z_1 := Int32.le_iff_toInt_le.mp c_1
      have y_0 : (0 : Int32).toInt = 0 := by decide
      have yr : (0 : Int32).toInt = 0 := by decide
      omega
    have hm_3 : (0 : Int32).toInt = 0 → (NDgt (Mf 1) (Mv 0) x1) := by
      intro h1r
      have ha_4 : NDgt (Mf 1) (Mv 0) x1 := by
        unfold NDgt Dgt
        intro hz
        have z_1 := Int32.le_iff_toInt_le.mp c_1
        omega
      exact ha_4
    exact retI (v := 0) hx hb hr hlk (rfl) hP hD hS () ⟨_, rfl, hp_2, (fun h => absurd h (by decide)), hm_3⟩ [0, 1] rfl rfl dX12_isDigit_35 (Nat.le_of_ble_eq_true rfl) (Nat.le_of_ble_eq_true rfl) rfl
  · skip
    refine lv_aload_n hx hb dX12_isDigit_8 rfl (lv_at hl 0 rfl) ?_
    refine gf_X12_7 hx hb hts hown hK hP 0 rfl rfl dX12_isDigit_9 ?_
    refine lv_iload_n hx hb dX12_isDigit_12 rfl (lv_at hl 1 rfl) ?_
    have hi_5 : vp_in x1 400 := by
      have z_1 := Int32.lt_iff_toInt_lt.mp (Int32.not_le.mp c_1)
      refine vp_in_iff.mpr ⟨?_, ?_⟩ <;> omega
    refine va_bald hx hb hK hP 1 2 rfl rfl hi_5 dX12_isDigit_13 ?_
    refine lv_topi (fun x_6 ex_6 => ?_)
    have kx_6 : x_6.toInt = ((Mf 1) (x1 : Int32).toNatClampNeg).toInt := congrArg Int32.toInt ex_6
    refine lv_bipush (v := 48) hx hb dX12_isDigit_14 (by decide) ?_
    refine lv_icmp_lt (tgt := 34) hx hb dX12_isDigit_16 (by decide) (fun c_7 => ?_) (fun c_7 => ?_)
    · skip
      refine lv_iconst (v := 0) hx hb dX12_isDigit_34 (by decide) ?_
      have hp_8 : ((0 : Int32).toInt = 0 ∨ (0 : Int32).toInt = 1) := by
        have z_1 := Int32.lt_iff_toInt_lt.mp (Int32.not_le.mp c_1)
        have z_2 := Int32.lt_iff_toInt_lt.mp c_7
        have y_48 : (48 : Int32).toInt = 48 := by decide
        have y_0 : (0 : Int32).toInt = 0 := by decide
        have yr : (0 : Int32).toInt = 0 := by decide
        omega
      have hm_9 : (0 : Int32).toInt = 0 → (NDgt (Mf 1) (Mv 0) x1) := by
        intro h1r
        have ha_10 : NDgt (Mf 1) (Mv 0) x1 := by
          unfold NDgt Dgt
          intro hz
          have z_1 := Int32.lt_iff_toInt_lt.mp (Int32.not_le.mp c_1)
          have z_2 := Int32.lt_iff_toInt_lt.mp c_7
          have y_48 : (48 : Int32).toInt = 48 := by decide
          omega
        exact ha_10
      exact retI (v := 0) hx hb hr hlk (rfl) hP hD hS () ⟨_, rfl, hp_8, (fun h => absurd h (by decide)), hm_9⟩ [0, 1] rfl rfl dX12_isDigit_35 (Nat.le_of_ble_eq_true rfl) (Nat.le_of_ble_eq_true rfl) rfl
    · skip
      refine lv_aload_n hx hb dX12_isDigit_19 rfl (lv_at hl 0 rfl) ?_
      refine gf_X12_7 hx hb hts hown hK hP 0 rfl rfl dX12_isDigit_20 ?_
      refine lv_iload_n hx hb dX12_isDigit_23 rfl (lv_at hl 1 rfl) ?_
      have hi_11 : vp_in x1 400 := by
        have z_1 := Int32.lt_iff_toInt_lt.mp (Int32.not_le.mp c_1)
        have z_2 := Int32.le_iff_toInt_le.mp (Int32.not_lt.mp c_7)
        have y_48 : (48 : Int32).toInt = 48 := by decide
        refine vp_in_iff.mpr ⟨?_, ?_⟩ <;> omega
      refine va_bald hx hb hK hP 1 2 rfl rfl hi_11 dX12_isDigit_24 ?_
      refine lv_topi (fun x_12 ex_12 => ?_)
      have kx_12 : x_12.toInt = ((Mf 1) (x1 : Int32).toNatClampNeg).toInt := congrArg Int32.toInt ex_12
      refine lv_bipush (v := 57) hx hb dX12_isDigit_25 (by decide) ?_
      refine lv_icmp_gt (tgt := 34) hx hb dX12_isDigit_27 (by decide) (fun c_13 => ?_) (fun c_13 => ?_)
      · skip
        refine lv_iconst (v := 0) hx hb dX12_isDigit_34 (by decide) ?_
        have hp_14 : ((0 : Int32).toInt = 0 ∨ (0 : Int32).toInt = 1) := by
          have z_1 := Int32.lt_iff_toInt_lt.mp (Int32.not_le.mp c_1)
          have z_2 := Int32.le_iff_toInt_le.mp (Int32.not_lt.mp c_7)
          have z_3 := Int32.lt_iff_toInt_lt.mp c_13
          have y_48 : (48 : Int32).toInt = 48 := by decide
          have y_57 : (57 : Int32).toInt = 57 := by decide
          have y_0 : (0 : Int32).toInt = 0 := by decide
          have yr : (0 : Int32).toInt = 0 := by decide
          omega
        have hm_15 : (0 : Int32).toInt = 0 → (NDgt (Mf 1) (Mv 0) x1) := by
          intro h1r
          have ha_16 : NDgt (Mf 1) (Mv 0) x1 := by
            unfold NDgt Dgt
            intro hz
            have z_1 := Int32.lt_iff_toInt_lt.mp (Int32.not_le.mp c_1)
            have z_2 := Int32.le_iff_toInt_le.mp (Int32.not_lt.mp c_7)
            have z_3 := Int32.lt_iff_toInt_lt.mp c_13
            have y_48 : (48 : Int32).toInt = 48 := by decide
            have y_57 : (57 : Int32).toInt = 57 := by decide
            omega
          exact ha_16
        exact retI (v := 0) hx hb hr hlk (rfl) hP hD hS () ⟨_, rfl, hp_14, (fun h => absurd h (by decide)), hm_15⟩ [0, 1] rfl rfl dX12_isDigit_35 (Nat.le_of_ble_eq_true rfl) (Nat.le_of_ble_eq_true rfl) rfl
      · skip
        refine lv_iconst (v := 1) hx hb dX12_isDigit_30 (by decide) ?_
        refine lv_goto (tgt := 35) hx hb dX12_isDigit_31 (by decide) ?_
        have hp_17 : ((1 : Int32).toInt = 0 ∨ (1 : Int32).toInt = 1) := by
          have z_1 := Int32.lt_iff_toInt_lt.mp (Int32.not_le.mp c_1)
          have z_2 := Int32.le_iff_toInt_le.mp (Int32.not_lt.mp c_7)
          have z_3 := Int32.le_iff_toInt_le.mp (Int32.not_lt.mp c_13)
          have y_48 : (48 : Int32).toInt = 48 := by decide
          have y_57 : (57 : Int32).toInt = 57 := by decide
          have y_1 : (1 : Int32).toInt = 1 := by decide
          have yr : (1 : Int32).toInt = 1 := by decide
          omega
        have hm_18 : (1 : Int32).toInt = 1 → (Dgt (Mf 1) (Mv 0) x1) := by
          intro h1r
          have ha_19 : Dgt (Mf 1) (Mv 0) x1 := by
            unfold Dgt
            have z_1 := Int32.lt_iff_toInt_lt.mp (Int32.not_le.mp c_1)
            have z_2 := Int32.le_iff_toInt_le.mp (Int32.not_lt.mp c_7)
            have z_3 := Int32.le_iff_toInt_le.mp (Int32.not_lt.mp c_13)
            have y_48 : (48 : Int32).toInt = 48 := by decide
            have y_57 : (57 : Int32).toInt = 57 := by decide
            omega
          exact ha_19
        exact retI (v := 1) hx hb hr hlk (rfl) hP hD hS () ⟨_, rfl, hp_17, hm_18, (fun h => absurd h (by decide))⟩ [0, 1] rfl rfl dX12_isDigit_35 (Nat.le_of_ble_eq_true rfl) (Nat.le_of_ble_eq_true rfl) rfl
set_option maxRecDepth 100000 in
theorem cu_X12_isDigit (l : Launch) (D : va_G) (tc : Nat → ClassId) (sk : (Nat → Nat) × (Nat → Nat)) (Ma_0 : Nat) (Ma_1 : Nat) (Ma_2 : Nat) (Ma_3 : Nat) (Ma_4 : Nat) (Ma_5 : Nat) (Ma_6 : Nat) (Ma_7 : Nat) (Ma_8 : Nat) (Ma_9 : Nat) (Ma_10 : Nat) (Ma_11 : Nat) (Ma_12 : Nat) (Ma_13 : Nat) (Ma_14 : Nat) (Ma_15 : Nat) (Ma_16 : Nat) (Ma_17 : Nat) (Ma_18 : Nat) (Ma_19 : Nat) (Ma_20 : Nat) (Mv_0 : Int32) (Mv_1 : Int32) (Mv_2 : Int32) (Mv_3 : Int32) (Mv_4 : Int32) (Mv_5 : Int32) (Mv_6 : Int32) (Mv_7 : Int32) (Mv_8 : Int32) (Mv_9 : Int32) (Mv_10 : Int32) (Mv_11 : Int32) (Mv_12 : Int32) (Mv_13 : Int32) (Mv_14 : Int32) (Mf_1 : Nat → Int32) (Mj_0 : Int64) (x1 : Int32) (h_x : 0 ≤ x1.toInt) (h_t : Mv_0.toInt ≤ 400) : Ct l yX12_isDigit cX12_isDigit 2 (some .boolean) { frames := 0, cells := 0, slots := 0, locals := 0 } D tc sk [.ref Ma_0, .int x1] [(Ma_0, .inr (12, [.ref Ma_1, .int Mv_0, .int Mv_1, .ref Ma_2, .ref Ma_3, .ref Ma_4, .ref Ma_5, .ref Ma_6, .int Mv_2, .int Mv_3, .int Mv_4, .int Mv_5, .int Mv_6, .int Mv_7, .int Mv_8, .ref Ma_7, .int Mv_9, .ref Ma_8, .int Mv_10, .ref Ma_9, .ref Ma_10, .int Mv_11, .int Mv_12, .int Mv_13, .ref Ma_11, .int Mv_14, .ref Ma_12, .ref Ma_13, .ref Ma_14, .ref Ma_15, .ref Ma_16, .long Mj_0, .ref Ma_17, .ref Ma_18, .ref Ma_19, .ref Ma_20])), (Ma_1, .inl (tc 2, 400, .inl Mf_1))] (fun (v : Option Value) (_ : Unit) => ∃ r : Int32, v = some (.int r) ∧ ((r.toInt = 0 ∨ r.toInt = 1)) ∧ (r.toInt = 1 → (Dgt Mf_1 Mv_0 x1)) ∧ (r.toInt = 0 → (NDgt Mf_1 Mv_0 x1))) (fun (_ : Unit) => [(Ma_0, .inr (12, [.ref Ma_1, .int Mv_0, .int Mv_1, .ref Ma_2, .ref Ma_3, .ref Ma_4, .ref Ma_5, .ref Ma_6, .int Mv_2, .int Mv_3, .int Mv_4, .int Mv_5, .int Mv_6, .int Mv_7, .int Mv_8, .ref Ma_7, .int Mv_9, .ref Ma_8, .int Mv_10, .ref Ma_9, .ref Ma_10, .int Mv_11, .int Mv_12, .int Mv_13, .ref Ma_11, .int Mv_14, .ref Ma_12, .ref Ma_13, .ref Ma_14, .ref Ma_15, .ref Ma_16, .long Mj_0, .ref Ma_17, .ref Ma_18, .ref Ma_19, .ref Ma_20])), (Ma_1, .inl (tc 2, 400, .inl Mf_1))]) 0 0 :=
  ct_X12_isDigit l D tc sk (fun k => ([Ma_0, Ma_1, Ma_2, Ma_3, Ma_4, Ma_5, Ma_6, Ma_7, Ma_8, Ma_9, Ma_10, Ma_11, Ma_12, Ma_13, Ma_14, Ma_15, Ma_16, Ma_17, Ma_18, Ma_19, Ma_20] : List (Nat)).getD k 0) (fun k => ([Mv_0, Mv_1, Mv_2, Mv_3, Mv_4, Mv_5, Mv_6, Mv_7, Mv_8, Mv_9, Mv_10, Mv_11, Mv_12, Mv_13, Mv_14] : List (Int32)).getD k 0) (fun k => ([(fun _ => 0), Mf_1] : List (Nat → Int32)).getD k (fun _ => 0)) (fun k => ([Mj_0] : List (Int64)).getD k 0) x1 h_x h_t
