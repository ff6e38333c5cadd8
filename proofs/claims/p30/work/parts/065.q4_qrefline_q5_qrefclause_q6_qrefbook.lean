set_option maxRecDepth 16384
set_option maxHeartbeats 4000000 in
set_option maxRecDepth 100000 in
theorem ct_zX12_bookLineHere (l : Launch) (D : va_G) (tc : Nat → ClassId) (sk : (Nat → Nat) × (Nat → Nat)) (Ma : Nat → Nat) (Mv : Nat → Int32) (Mf : Nat → Nat → Int32) (Mj : Nat → Int64) (x1 : Int32) (C : Nat → Int) (h_nx : 0 ≤ ((Mv 2) : Int32).toInt ∧ ((Mv 2) : Int32).toInt ≤ ((Mv 0) : Int32).toInt ∧ ((Mv 0) : Int32).toInt ≤ 400) (h_at : 0 ≤ x1.toInt ∧ x1.toInt ≤ 400) (h_ro : RdO (Mf 6)) (h_bs : ByS (Mf 1)) (h_w : ((Mv 3) : Int32).toInt = 0) (h_sk : SkR (rB (Mf 1) (Mv 0)) (Mv 2) (Mv 2)) (h_lt : LtH (rB (Mf 1) (Mv 0)) (Mv 2)) (h_wk : BkN (rB (Mf 1) (Mv 0)) (Mv 2)) (h_r0 : ((((Mf 6) 0).toInt = 0 ∧ (Mv 8).toInt = 1) ∨ (((Mf 6) 0).toInt = 1 ∧ 2 ≤ (Mv 8).toInt ∧ (Mv 8).toInt ≤ 40))) (h_at2 : x1.toInt = (Mv 2).toInt) (h_e : RdE (Mf 6) C) : Ct l yX12_bookLineHere cX12_bookLineHere 2 (some .boolean) { frames := 4, cells := 0, slots := 0, locals := 94 } D tc sk [.ref (Ma 0), .int x1] [((Ma 0), .inr (12, [.ref (Ma 1), .int (Mv 0), .int (Mv 1), .ref (Ma 2), .ref (Ma 3), .ref (Ma 4), .ref (Ma 5), .ref (Ma 6), .int (Mv 2), .int (Mv 3), .int (Mv 4), .int (Mv 5), .int (Mv 6), .int (Mv 7), .int (Mv 8), .ref (Ma 7), .int (Mv 9), .ref (Ma 8), .int (Mv 10), .ref (Ma 9), .ref (Ma 10), .int (Mv 11), .int (Mv 12), .int (Mv 13), .ref (Ma 11), .int (Mv 14), .ref (Ma 12), .ref (Ma 13), .ref (Ma 14), .ref (Ma 15), .ref (Ma 16), .long (Mj 0), .ref (Ma 17), .ref (Ma 18), .ref (Ma 19), .ref (Ma 20)])), ((Ma 1), .inl (tc 2, 400, .inl (Mf 1))), ((Ma 6), .inl (tc 0, 95, .inl (Mf 6)))] (fun (v : Option Value) (u : (Int32) × (Int32) × (Int32) × (Nat → Int32)) => match u with | (oo0x1, oo0x2, oo0x3, oo0x4) => ∃ r : Int32, v = some (.int r) ∧ (((r.toInt = 0 ∧ ¬ (oo0x2 : Int32).toInt = 0) ∨ (r.toInt = 1 ∧ (oo0x4 0).toInt = 1 ∧ (oo0x2 : Int32).toInt = 0))) ∧ (((Mv 2) : Int32).toInt ≤ (oo0x1 : Int32).toInt ∧ (oo0x1 : Int32).toInt ≤ ((Mv 0) : Int32).toInt) ∧ (r.toInt = 1 → (RdO oo0x4) ∧ (QfO (qCL (rB (Mf 1) (Mv 0)) ((Mv 8).toInt - 1).toNat (Mv 2) C) (rB (Mf 1) (Mv 0)) oo0x2 oo0x1 oo0x4)) ∧ (r.toInt = 0 → (QfE (qCL (rB (Mf 1) (Mv 0)) ((Mv 8).toInt - 1).toNat (Mv 2) C) oo0x2))) (fun (u : (Int32) × (Int32) × (Int32) × (Nat → Int32)) => match u with | (oo0x1, oo0x2, oo0x3, oo0x4) => [((Ma 0), .inr (12, [.ref (Ma 1), .int (Mv 0), .int (Mv 1), .ref (Ma 2), .ref (Ma 3), .ref (Ma 4), .ref (Ma 5), .ref (Ma 6), .int oo0x1, .int oo0x2, .int oo0x3, .int (Mv 5), .int (Mv 6), .int (Mv 7), .int (Mv 8), .ref (Ma 7), .int (Mv 9), .ref (Ma 8), .int (Mv 10), .ref (Ma 9), .ref (Ma 10), .int (Mv 11), .int (Mv 12), .int (Mv 13), .ref (Ma 11), .int (Mv 14), .ref (Ma 12), .ref (Ma 13), .ref (Ma 14), .ref (Ma 15), .ref (Ma 16), .long (Mj 0), .ref (Ma 17), .ref (Ma 18), .ref (Ma 19), .ref (Ma 20)])), ((Ma 1), .inl (tc 2, 400, .inl (Mf 1))), ((Ma 6), .inl (tc 0, 95, .inl oo0x4))]) 0 0 := by
  refine Ct.start (by decide) (Nat.le_of_ble_eq_true rfl) (fun p e s m below meth c A ls hx hb hr hlk hin hml hown hts hK hX hP hD hA hl hS => ?_)
  have hl : lv_has ls 2 [(0, .ref (Ma 0)), (1, .int x1)] := hl
  have ar_h_ro := RdO.ar h_ro
  have ar_h_lt := h_lt.1
  refine lv_aload_n hx hb dX12_bookLineHere_0 rfl (lv_at hl 0 rfl) ?_
  refine lv_ldc2 hx hb hown (hts _ k_1216) dX12_bookLineHere_1 ?_
  refine cV (a := (Ma 0)) (As := [.long 1651470187]) (rest := []) (wr := [((Ma 6), .inl (tc 0, 95, .inl (Mf 6)))]) ⟨hx, hb, hml, hown, hts⟩ hK hX hA (cu_fX12_isWord l D tc sk (Ma 0) (Ma 1) (Ma 2) (Ma 3) (Ma 4) (Ma 5) (Ma 6) (Ma 7) (Ma 8) (Ma 9) (Ma 10) (Ma 11) (Ma 12) (Ma 13) (Ma 14) (Ma 15) (Ma 16) (Ma 17) (Ma 18) (Ma 19) (Ma 20) (Mv 0) (Mv 1) (Mv 2) (Mv 3) (Mv 4) (Mv 5) (Mv 6) (Mv 7) (Mv 8) (Mv 9) (Mv 10) (Mv 11) (Mv 12) (Mv 13) (Mv 14) (Mf 1) (Mj 0) 1651470187 h_nx h_bs) k_1220 k_1217 k_1219 k_29 k_106 pl_X12_isWord ⟨Nat.le_of_ble_eq_true rfl, Nat.le_of_ble_eq_true rfl⟩ rfl rfl (va_recv hK hP (ci := 12) (q0 := 0) rfl rfl) hP hD hS [0, 1] [2] rfl rfl rfl rfl rfl (by decide) rfl hl.1 rfl (Nat.le_of_ble_eq_true rfl) dX12_bookLineHere_4 ⟨Nat.le_of_ble_eq_true rfl, Nat.le_of_ble_eq_true rfl⟩ (fun v_1 u_2 H locs hv_3 hP₀ hD₀ hS₀ => ?_)
  obtain ⟨sv_4, rfl⟩ : ∃ z, z = u_2 := ⟨_, rfl⟩
  obtain ⟨r_9, rfl, he_10, pf_5, pf_6, pf_7, pf_8, hm_12, hm_13⟩ := hv_3
  have he_10 : (r_9.toInt = 0 ∨ r_9.toInt = 1) := he_10
  have pf_5 : ((Mv 2) : Int32).toInt ≤ (sv_4 : Int32).toInt ∧ (sv_4 : Int32).toInt ≤ ((Mv 0) : Int32).toInt := pf_5
  have pf_6 : NSq (Mf 1) (Mv 0) sv_4 := pf_6
  have pf_7 : Stl (Mf 1) (Mv 0) (Mv 2) sv_4 := pf_7
  have pf_8 : SkR (rB (Mf 1) (Mv 0)) (Mv 2) sv_4 := pf_8
  refine W.eq (g2 := F0 m 7 ls [.int r_9]) rfl ?_
  replace hP : va_P D classes [((Ma 6), .inl (tc 0, 95, .inl (Mf 6))), ((Ma 0), .inr (12, [.ref (Ma 1), .int (Mv 0), .int (Mv 1), .ref (Ma 2), .ref (Ma 3), .ref (Ma 4), .ref (Ma 5), .ref (Ma 6), .int sv_4, .int (Mv 3), .int (Mv 4), .int (Mv 5), .int (Mv 6), .int (Mv 7), .int (Mv 8), .ref (Ma 7), .int (Mv 9), .ref (Ma 8), .int (Mv 10), .ref (Ma 9), .ref (Ma 10), .int (Mv 11), .int (Mv 12), .int (Mv 13), .ref (Ma 11), .int (Mv 14), .ref (Ma 12), .ref (Ma 13), .ref (Ma 14), .ref (Ma 15), .ref (Ma 16), .long (Mj 0), .ref (Ma 17), .ref (Ma 18), .ref (Ma 19), .ref (Ma 20)])), ((Ma 1), .inl (tc 2, 400, .inl (Mf 1)))] H := hP₀
  replace hD : va_D A [((Ma 6), .inl (tc 0, 95, .inl (Mf 6))), ((Ma 0), .inr (12, [.ref (Ma 1), .int (Mv 0), .int (Mv 1), .ref (Ma 2), .ref (Ma 3), .ref (Ma 4), .ref (Ma 5), .ref (Ma 6), .int sv_4, .int (Mv 3), .int (Mv 4), .int (Mv 5), .int (Mv 6), .int (Mv 7), .int (Mv 8), .ref (Ma 7), .int (Mv 9), .ref (Ma 8), .int (Mv 10), .ref (Ma 9), .ref (Ma 10), .int (Mv 11), .int (Mv 12), .int (Mv 13), .ref (Ma 11), .int (Mv 14), .ref (Ma 12), .ref (Ma 13), .ref (Ma 14), .ref (Ma 15), .ref (Ma 16), .long (Mj 0), .ref (Ma 17), .ref (Ma 18), .ref (Ma 19), .ref (Ma 20)])), ((Ma 1), .inl (tc 2, 400, .inl (Mf 1)))] := hD₀
  replace hS := hS₀
  clear hP₀ hD₀ hS₀
  have hE_14 := SkR.eqB h_sk pf_8
  refine lv_if_eq (tgt := 16) hx hb dX12_bookLineHere_7 (by decide) (fun c_15 => ?_) (fun c_15 => ?_)
  · skip
    have hz_17 : (r_9 : Int32).toInt = 0 := by
      have z_1 := congrArg Int32.toInt c_15
      have y_0 : (0 : Int32).toInt = 0 := by decide
      omega
    obtain pf_16 := hm_13 hz_17
    have pf_16 : NPk (rB (Mf 1) (Mv 0)) ((sv_4 : Int32).toInt.toNat) (1651470187 : Int64).toInt := pf_16
    refine lv_aload_n hx hb dX12_bookLineHere_16 rfl (lv_at hl 0 rfl) ?_
    refine gf_X12_26 hx hb hts hown hK hP 1 rfl rfl dX12_bookLineHere_17 ?_
    refine lv_iconst (v := 0) hx hb dX12_bookLineHere_20 (by decide) ?_
    refine va_iald hx hb hK hP 0 0 rfl rfl (vin_dec (by decide +kernel)) dX12_bookLineHere_21 ?_
    refine lv_topi (fun x_18 ex_18 => ?_)
    have lx_18 : x_18.toInt = ((Mf 6) 0).toInt := congrArg Int32.toInt ex_18
    refine lv_if_ne (tgt := 32) hx hb dX12_bookLineHere_22 (by decide) (fun c_19 => ?_) (fun c_19 => ?_)
    · skip
      refine lv_aload_n hx hb dX12_bookLineHere_32 rfl (lv_at hl 0 rfl) ?_
      refine lv_ldc2 hx hb hown (hts _ k_1225) dX12_bookLineHere_33 ?_
      have ha_20 : 0 ≤ (sv_4 : Int32).toInt ∧ (sv_4 : Int32).toInt ≤ ((Mv 0) : Int32).toInt ∧ ((Mv 0) : Int32).toInt ≤ 400 := by
        have z_1 := congrArg Int32.toInt c_15
        have z_2 : ¬ (x_18 : Int32).toInt = (0 : Int32).toInt := fun z => c_19 (Int32.toInt_inj.mp z)
        have y_0 : (0 : Int32).toInt = 0 := by decide
        omega
      refine cV (a := (Ma 0)) (As := [.long 7564153]) (rest := []) (wr := [((Ma 6), .inl (tc 0, 95, .inl (Mf 6)))]) ⟨hx, hb, hml, hown, hts⟩ hK hX hA (cu_fX12_isWord l D tc sk (Ma 0) (Ma 1) (Ma 2) (Ma 3) (Ma 4) (Ma 5) (Ma 6) (Ma 7) (Ma 8) (Ma 9) (Ma 10) (Ma 11) (Ma 12) (Ma 13) (Ma 14) (Ma 15) (Ma 16) (Ma 17) (Ma 18) (Ma 19) (Ma 20) (Mv 0) (Mv 1) sv_4 (Mv 3) (Mv 4) (Mv 5) (Mv 6) (Mv 7) (Mv 8) (Mv 9) (Mv 10) (Mv 11) (Mv 12) (Mv 13) (Mv 14) (Mf 1) (Mj 0) 7564153 ha_20 h_bs) k_1220 k_1217 k_1219 k_29 k_106 pl_X12_isWord ⟨Nat.le_of_ble_eq_true rfl, Nat.le_of_ble_eq_true rfl⟩ rfl rfl (va_recv hK hP (ci := 12) (q0 := 1) rfl rfl) hP hD hS [1, 2] [0] rfl rfl rfl rfl rfl (by decide) rfl hl.1 rfl (Nat.le_of_ble_eq_true rfl) dX12_bookLineHere_36 ⟨Nat.le_of_ble_eq_true rfl, Nat.le_of_ble_eq_true rfl⟩ (fun v_21 u_22 H locs hv_23 hP₀ hD₀ hS₀ => ?_)
      obtain ⟨sv_24, rfl⟩ : ∃ z, z = u_22 := ⟨_, rfl⟩
      obtain ⟨r_29, rfl, he_30, pf_25, pf_26, pf_27, pf_28, hm_32, hm_33⟩ := hv_23
      have he_30 : (r_29.toInt = 0 ∨ r_29.toInt = 1) := he_30
      have pf_25 : (sv_4 : Int32).toInt ≤ (sv_24 : Int32).toInt ∧ (sv_24 : Int32).toInt ≤ ((Mv 0) : Int32).toInt := pf_25
      have pf_26 : NSq (Mf 1) (Mv 0) sv_24 := pf_26
      have pf_27 : Stl (Mf 1) (Mv 0) sv_4 sv_24 := pf_27
      have ar_pf_27 := Stl.or pf_27 pf_6
      have pf_28 : SkR (rB (Mf 1) (Mv 0)) sv_4 sv_24 := pf_28
      refine W.eq (g2 := F0 m 39 ls [.int r_29]) rfl ?_
      replace hP : va_P D classes [((Ma 6), .inl (tc 0, 95, .inl (Mf 6))), ((Ma 0), .inr (12, [.ref (Ma 1), .int (Mv 0), .int (Mv 1), .ref (Ma 2), .ref (Ma 3), .ref (Ma 4), .ref (Ma 5), .ref (Ma 6), .int sv_24, .int (Mv 3), .int (Mv 4), .int (Mv 5), .int (Mv 6), .int (Mv 7), .int (Mv 8), .ref (Ma 7), .int (Mv 9), .ref (Ma 8), .int (Mv 10), .ref (Ma 9), .ref (Ma 10), .int (Mv 11), .int (Mv 12), .int (Mv 13), .ref (Ma 11), .int (Mv 14), .ref (Ma 12), .ref (Ma 13), .ref (Ma 14), .ref (Ma 15), .ref (Ma 16), .long (Mj 0), .ref (Ma 17), .ref (Ma 18), .ref (Ma 19), .ref (Ma 20)])), ((Ma 1), .inl (tc 2, 400, .inl (Mf 1)))] H := hP₀
      replace hD : va_D A [((Ma 6), .inl (tc 0, 95, .inl (Mf 6))), ((Ma 0), .inr (12, [.ref (Ma 1), .int (Mv 0), .int (Mv 1), .ref (Ma 2), .ref (Ma 3), .ref (Ma 4), .ref (Ma 5), .ref (Ma 6), .int sv_24, .int (Mv 3), .int (Mv 4), .int (Mv 5), .int (Mv 6), .int (Mv 7), .int (Mv 8), .ref (Ma 7), .int (Mv 9), .ref (Ma 8), .int (Mv 10), .ref (Ma 9), .ref (Ma 10), .int (Mv 11), .int (Mv 12), .int (Mv 13), .ref (Ma 11), .int (Mv 14), .ref (Ma 12), .ref (Ma 13), .ref (Ma 14), .ref (Ma 15), .ref (Ma 16), .long (Mj 0), .ref (Ma 17), .ref (Ma 18), .ref (Ma 19), .ref (Ma 20)])), ((Ma 1), .inl (tc 2, 400, .inl (Mf 1)))] := hD₀
      replace hS := hS₀
      clear hP₀ hD₀ hS₀
      have hE_34 := SkR.eqB pf_8 pf_28
      refine lv_if_eq (tgt := 47) hx hb dX12_bookLineHere_39 (by decide) (fun c_35 => ?_) (fun c_35 => ?_)
      · skip
        have hz_37 : (r_29 : Int32).toInt = 0 := by
          have z_1 := congrArg Int32.toInt c_15
          have z_2 : ¬ (x_18 : Int32).toInt = (0 : Int32).toInt := fun z => c_19 (Int32.toInt_inj.mp z)
          have z_3 := congrArg Int32.toInt c_35
          have y_0 : (0 : Int32).toInt = 0 := by decide
          omega
        obtain pf_36 := hm_33 hz_37
        have pf_36 : NPk (rB (Mf 1) (Mv 0)) ((sv_24 : Int32).toInt.toNat) (7564153 : Int64).toInt := pf_36
        refine lv_aload_n hx hb dX12_bookLineHere_47 rfl (lv_at hl 0 rfl) ?_
        refine lv_ldc2 hx hb hown (hts _ k_1226) dX12_bookLineHere_48 ?_
        have ha_38 : 0 ≤ (sv_24 : Int32).toInt ∧ (sv_24 : Int32).toInt ≤ ((Mv 0) : Int32).toInt ∧ ((Mv 0) : Int32).toInt ≤ 400 := by
          have z_1 := congrArg Int32.toInt c_15
          have z_2 : ¬ (x_18 : Int32).toInt = (0 : Int32).toInt := fun z => c_19 (Int32.toInt_inj.mp z)
          have z_3 := congrArg Int32.toInt c_35
          have y_0 : (0 : Int32).toInt = 0 := by decide
          omega
        refine cV (a := (Ma 0)) (As := [.long 422877685106]) (rest := []) (wr := [((Ma 6), .inl (tc 0, 95, .inl (Mf 6)))]) ⟨hx, hb, hml, hown, hts⟩ hK hX hA (cu_fX12_isWord l D tc sk (Ma 0) (Ma 1) (Ma 2) (Ma 3) (Ma 4) (Ma 5) (Ma 6) (Ma 7) (Ma 8) (Ma 9) (Ma 10) (Ma 11) (Ma 12) (Ma 13) (Ma 14) (Ma 15) (Ma 16) (Ma 17) (Ma 18) (Ma 19) (Ma 20) (Mv 0) (Mv 1) sv_24 (Mv 3) (Mv 4) (Mv 5) (Mv 6) (Mv 7) (Mv 8) (Mv 9) (Mv 10) (Mv 11) (Mv 12) (Mv 13) (Mv 14) (Mf 1) (Mj 0) 422877685106 ha_38 h_bs) k_1220 k_1217 k_1219 k_29 k_106 pl_X12_isWord ⟨Nat.le_of_ble_eq_true rfl, Nat.le_of_ble_eq_true rfl⟩ rfl rfl (va_recv hK hP (ci := 12) (q0 := 1) rfl rfl) hP hD hS [1, 2] [0] rfl rfl rfl rfl rfl (by decide) rfl hl.1 rfl (Nat.le_of_ble_eq_true rfl) dX12_bookLineHere_51 ⟨Nat.le_of_ble_eq_true rfl, Nat.le_of_ble_eq_true rfl⟩ (fun v_39 u_40 H locs hv_41 hP₀ hD₀ hS₀ => ?_)
        obtain ⟨sv_42, rfl⟩ : ∃ z, z = u_40 := ⟨_, rfl⟩
        obtain ⟨r_47, rfl, he_48, pf_43, pf_44, pf_45, pf_46, hm_50, hm_51⟩ := hv_41
        have he_48 : (r_47.toInt = 0 ∨ r_47.toInt = 1) := he_48
        have pf_43 : (sv_24 : Int32).toInt ≤ (sv_42 : Int32).toInt ∧ (sv_42 : Int32).toInt ≤ ((Mv 0) : Int32).toInt := pf_43
        have pf_44 : NSq (Mf 1) (Mv 0) sv_42 := pf_44
        have pf_45 : Stl (Mf 1) (Mv 0) sv_24 sv_42 := pf_45
        have ar_pf_45 := Stl.or pf_45 pf_26
        have pf_46 : SkR (rB (Mf 1) (Mv 0)) sv_24 sv_42 := pf_46
        refine W.eq (g2 := F0 m 54 ls [.int r_47]) rfl ?_
        replace hP : va_P D classes [((Ma 6), .inl (tc 0, 95, .inl (Mf 6))), ((Ma 0), .inr (12, [.ref (Ma 1), .int (Mv 0), .int (Mv 1), .ref (Ma 2), .ref (Ma 3), .ref (Ma 4), .ref (Ma 5), .ref (Ma 6), .int sv_42, .int (Mv 3), .int (Mv 4), .int (Mv 5), .int (Mv 6), .int (Mv 7), .int (Mv 8), .ref (Ma 7), .int (Mv 9), .ref (Ma 8), .int (Mv 10), .ref (Ma 9), .ref (Ma 10), .int (Mv 11), .int (Mv 12), .int (Mv 13), .ref (Ma 11), .int (Mv 14), .ref (Ma 12), .ref (Ma 13), .ref (Ma 14), .ref (Ma 15), .ref (Ma 16), .long (Mj 0), .ref (Ma 17), .ref (Ma 18), .ref (Ma 19), .ref (Ma 20)])), ((Ma 1), .inl (tc 2, 400, .inl (Mf 1)))] H := hP₀
        replace hD : va_D A [((Ma 6), .inl (tc 0, 95, .inl (Mf 6))), ((Ma 0), .inr (12, [.ref (Ma 1), .int (Mv 0), .int (Mv 1), .ref (Ma 2), .ref (Ma 3), .ref (Ma 4), .ref (Ma 5), .ref (Ma 6), .int sv_42, .int (Mv 3), .int (Mv 4), .int (Mv 5), .int (Mv 6), .int (Mv 7), .int (Mv 8), .ref (Ma 7), .int (Mv 9), .ref (Ma 8), .int (Mv 10), .ref (Ma 9), .ref (Ma 10), .int (Mv 11), .int (Mv 12), .int (Mv 13), .ref (Ma 11), .int (Mv 14), .ref (Ma 12), .ref (Ma 13), .ref (Ma 14), .ref (Ma 15), .ref (Ma 16), .long (Mj 0), .ref (Ma 17), .ref (Ma 18), .ref (Ma 19), .ref (Ma 20)])), ((Ma 1), .inl (tc 2, 400, .inl (Mf 1)))] := hD₀
        replace hS := hS₀
        clear hP₀ hD₀ hS₀
        have hE_52 := SkR.eqB pf_28 pf_46
        refine lv_if_eq (tgt := 65) hx hb dX12_bookLineHere_54 (by decide) (fun c_53 => ?_) (fun c_53 => ?_)
        · skip
          have hz_55 : (r_47 : Int32).toInt = 0 := by
            have z_1 := congrArg Int32.toInt c_15
            have z_2 : ¬ (x_18 : Int32).toInt = (0 : Int32).toInt := fun z => c_19 (Int32.toInt_inj.mp z)
            have z_3 := congrArg Int32.toInt c_35
            have z_4 := congrArg Int32.toInt c_53
            have y_0 : (0 : Int32).toInt = 0 := by decide
            omega
          obtain pf_54 := hm_51 hz_55
          have pf_54 : NPk (rB (Mf 1) (Mv 0)) ((sv_42 : Int32).toInt.toNat) (422877685106 : Int64).toInt := pf_54
          refine lv_aload_n hx hb dX12_bookLineHere_65 rfl (lv_at hl 0 rfl) ?_
          have hq_56 : sv_42 = (Mv 2) := SkR.eq h_sk (SkR.trans (SkR.trans pf_8 pf_28) pf_46)
          have ha_57 : 0 ≤ (sv_42 : Int32).toInt ∧ (sv_42 : Int32).toInt ≤ ((Mv 0) : Int32).toInt ∧ ((Mv 0) : Int32).toInt ≤ 400 := by
            have z_1 := congrArg Int32.toInt c_15
            have z_2 : ¬ (x_18 : Int32).toInt = (0 : Int32).toInt := fun z => c_19 (Int32.toInt_inj.mp z)
            have z_3 := congrArg Int32.toInt c_35
            have z_4 := congrArg Int32.toInt c_53
            have y_0 : (0 : Int32).toInt = 0 := by decide
            omega
          have ha_58 : ((Mf 6) 0).toInt = 1 := by
            have z_1 := congrArg Int32.toInt c_15
            have z_2 : ¬ (x_18 : Int32).toInt = (0 : Int32).toInt := fun z => c_19 (Int32.toInt_inj.mp z)
            have z_3 := congrArg Int32.toInt c_35
            have z_4 := congrArg Int32.toInt c_53
            have y_0 : (0 : Int32).toInt = 0 := by decide
            omega
          refine cV (a := (Ma 0)) (As := []) (rest := []) (wr := []) ⟨hx, hb, hml, hown, hts⟩ hK hX hA (cu_zX12_isWatchHere l D tc sk (Ma 0) (Ma 1) (Ma 2) (Ma 3) (Ma 4) (Ma 5) (Ma 6) (Ma 7) (Ma 8) (Ma 9) (Ma 10) (Ma 11) (Ma 12) (Ma 13) (Ma 14) (Ma 15) (Ma 16) (Ma 17) (Ma 18) (Ma 19) (Ma 20) (Mv 0) (Mv 1) sv_42 (Mv 3) (Mv 4) (Mv 5) (Mv 6) (Mv 7) (Mv 8) (Mv 9) (Mv 10) (Mv 11) (Mv 12) (Mv 13) (Mv 14) (Mf 1) (Mf 6) (Mj 0) C ha_57 h_ro ha_58 h_bs h_w (hq_56 ▸ h_lt) h_e) k_1271 k_1268 k_1270 k_40 k_106 pl_X12_isWatchHere ⟨Nat.le_of_ble_eq_true rfl, Nat.le_of_ble_eq_true rfl⟩ rfl rfl (va_recv hK hP (ci := 12) (q0 := 1) rfl rfl) hP hD hS [1, 2, 0] [] rfl rfl rfl rfl rfl (by decide) rfl hl.1 rfl (Nat.le_of_ble_eq_true rfl) dX12_bookLineHere_66 ⟨Nat.le_of_ble_eq_true rfl, Nat.le_of_ble_eq_true rfl⟩ (fun v_59 u_60 H locs hv_61 hP₀ hD₀ hS₀ => ?_)
          obtain ⟨sv_62, sv_63, sv_64, sv_65⟩ := u_60
          obtain ⟨r_67, rfl, he_68, pf_66, hm_70, hm_71⟩ := hv_61
          have he_68 : ((r_67.toInt = 0 ∧ ¬ (sv_63 : Int32).toInt = 0) ∨ (r_67.toInt = 1 ∧ ((sv_65 2).toInt = ((Mf 6) 2).toInt ∧ (sv_65 3).toInt = ((Mf 6) 3).toInt ∧ (sv_65 0).toInt = ((Mf 6) 0).toInt) ∧ (sv_63 : Int32).toInt = 0)) := he_68
          have pf_66 : (sv_42 : Int32).toInt ≤ (sv_62 : Int32).toInt ∧ (sv_62 : Int32).toInt ≤ ((Mv 0) : Int32).toInt := pf_66
          refine W.eq (g2 := F0 m 69 ls [.int r_67]) rfl ?_
          replace hP : va_P D classes [((Ma 0), .inr (12, [.ref (Ma 1), .int (Mv 0), .int (Mv 1), .ref (Ma 2), .ref (Ma 3), .ref (Ma 4), .ref (Ma 5), .ref (Ma 6), .int sv_62, .int sv_63, .int sv_64, .int (Mv 5), .int (Mv 6), .int (Mv 7), .int (Mv 8), .ref (Ma 7), .int (Mv 9), .ref (Ma 8), .int (Mv 10), .ref (Ma 9), .ref (Ma 10), .int (Mv 11), .int (Mv 12), .int (Mv 13), .ref (Ma 11), .int (Mv 14), .ref (Ma 12), .ref (Ma 13), .ref (Ma 14), .ref (Ma 15), .ref (Ma 16), .long (Mj 0), .ref (Ma 17), .ref (Ma 18), .ref (Ma 19), .ref (Ma 20)])), ((Ma 1), .inl (tc 2, 400, .inl (Mf 1))), ((Ma 6), .inl (tc 0, 95, .inl sv_65))] H := hP₀
          replace hD : va_D A [((Ma 0), .inr (12, [.ref (Ma 1), .int (Mv 0), .int (Mv 1), .ref (Ma 2), .ref (Ma 3), .ref (Ma 4), .ref (Ma 5), .ref (Ma 6), .int sv_62, .int sv_63, .int sv_64, .int (Mv 5), .int (Mv 6), .int (Mv 7), .int (Mv 8), .ref (Ma 7), .int (Mv 9), .ref (Ma 8), .int (Mv 10), .ref (Ma 9), .ref (Ma 10), .int (Mv 11), .int (Mv 12), .int (Mv 13), .ref (Ma 11), .int (Mv 14), .ref (Ma 12), .ref (Ma 13), .ref (Ma 14), .ref (Ma 15), .ref (Ma 16), .long (Mj 0), .ref (Ma 17), .ref (Ma 18), .ref (Ma 19), .ref (Ma 20)])), ((Ma 1), .inl (tc 2, 400, .inl (Mf 1))), ((Ma 6), .inl (tc 0, 95, .inl sv_65))] := hD₀
          replace hS := hS₀
          clear hP₀ hD₀ hS₀
          have ha_72 : ((Mv 2) : Int32).toInt ≤ (sv_62 : Int32).toInt ∧ (sv_62 : Int32).toInt ≤ ((Mv 0) : Int32).toInt := by
            have z_1 := congrArg Int32.toInt c_15
            have z_2 : ¬ (x_18 : Int32).toInt = (0 : Int32).toInt := fun z => c_19 (Int32.toInt_inj.mp z)
            have z_3 := congrArg Int32.toInt c_35
            have z_4 := congrArg Int32.toInt c_53
            have y_0 : (0 : Int32).toInt = 0 := by decide
            omega
          have hb_73 : (r_67 : Int32).toInt = 0 ∨ (r_67 : Int32).toInt = 1 := by
            have z_1 := congrArg Int32.toInt c_15
            have z_2 : ¬ (x_18 : Int32).toInt = (0 : Int32).toInt := fun z => c_19 (Int32.toInt_inj.mp z)
            have z_3 := congrArg Int32.toInt c_35
            have z_4 := congrArg Int32.toInt c_53
            have y_0 : (0 : Int32).toInt = 0 := by decide
            omega
          have hp_74 : (((r_67 : Int32).toInt = 0 ∧ ¬ (sv_63 : Int32).toInt = 0) ∨ ((r_67 : Int32).toInt = 1 ∧ (sv_65 0).toInt = 1 ∧ (sv_63 : Int32).toInt = 0)) := by
            have z_1 := congrArg Int32.toInt c_15
            have z_2 : ¬ (x_18 : Int32).toInt = (0 : Int32).toInt := fun z => c_19 (Int32.toInt_inj.mp z)
            have z_3 := congrArg Int32.toInt c_35
            have z_4 := congrArg Int32.toInt c_53
            have y_0 : (0 : Int32).toInt = 0 := by decide
            omega
          have hm_75 : (r_67 : Int32).toInt = 1 → (RdO sv_65) ∧ (QfO (qCL (rB (Mf 1) (Mv 0)) ((Mv 8).toInt - 1).toNat (Mv 2) C) (rB (Mf 1) (Mv 0)) sv_63 sv_62 sv_65) := by
            intro h1r
            obtain ⟨pf_76, pf_77⟩ := hm_70 h1r
            have pf_76 : RdO sv_65 := pf_76
            have ar_pf_76 := RdO.ar pf_76
            have pf_77 : QfO (qz_k3 (rB (Mf 1) (Mv 0)) C (pNX (rB (Mf 1) (Mv 0)) sv_42)) (rB (Mf 1) (Mv 0)) sv_63 sv_62 sv_65 := pf_77
            have ar_pf_77 := pf_77.choose_spec.2.1
            have hw_78 : ¬ pz_wd (rB (Mf 1) (Mv 0)) (sv_4 : Int32).toInt.toNat pz_book = true := by
              have hq := pf_16
              rw [show (1651470187 : Int64).toInt = pz_pl pz_book by decide] at hq
              exact fun z => hq ((PkW.wd (by decide) (by decide) (by decide)).mpr z)
            have hq_79 : sv_4 = (Mv 2) := SkR.eq h_sk pf_8
            have hq_80 : sv_42 = (Mv 2) := SkR.eq h_sk (SkR.trans (SkR.trans pf_8 pf_28) pf_46)
            have hq_81 : sv_4 = sv_42 := hq_79.trans hq_80.symm
            have hw_82 : ¬ pz_wd (rB (Mf 1) (Mv 0)) (sv_24 : Int32).toInt.toNat pz_sky = true := by
              have hq := pf_36
              rw [show (7564153 : Int64).toInt = pz_pl pz_sky by decide] at hq
              exact fun z => hq ((PkW.wd (by decide) (by decide) (by decide)).mpr z)
            have hq_83 : sv_24 = (Mv 2) := SkR.eq h_sk (SkR.trans pf_8 pf_28)
            have hq_84 : sv_42 = (Mv 2) := SkR.eq h_sk (SkR.trans (SkR.trans pf_8 pf_28) pf_46)
            have hq_85 : sv_24 = sv_42 := hq_83.trans hq_84.symm
            have hw_86 : ¬ pz_wd (rB (Mf 1) (Mv 0)) (sv_42 : Int32).toInt.toNat pz_buyer = true := by
              have hq := pf_54
              rw [show (422877685106 : Int64).toInt = pz_pl pz_buyer by decide] at hq
              exact fun z => hq ((PkW.wd (by decide) (by decide) (by decide)).mpr z)
            have hq_88 : sv_42 = (Mv 2) := SkR.eq h_sk (SkR.trans (SkR.trans pf_8 pf_28) pf_46)
            have hw_87 : ¬ pz_wa (rB (Mf 1) (Mv 0)) (sv_42 : Int32).toInt.toNat pz_bws 0 = -1 := by
              rw [hq_88]
              exact h_wk
            have hq_89 : sv_42 = (Mv 2) := SkR.eq h_sk (SkR.trans (SkR.trans pf_8 pf_28) pf_46)
            have hf_90 : QfO (qCL (rB (Mf 1) (Mv 0)) ((Mv 8).toInt - 1).toNat sv_42 C) (rB (Mf 1) (Mv 0)) sv_63 sv_62 sv_65 := by
              have hr_91 : 1 ≤ ((Mv 8).toInt - 1).toNat ∧ ((Mv 8).toInt - 1).toNat < 40 := by
                have z_1 := congrArg Int32.toInt c_15
                have z_2 : ¬ (x_18 : Int32).toInt = (0 : Int32).toInt := fun z => c_19 (Int32.toInt_inj.mp z)
                have z_3 := congrArg Int32.toInt c_35
                have z_4 := congrArg Int32.toInt c_53
                have y_0 : (0 : Int32).toInt = 0 := by decide
                omega
              exact QfO.eq (qk_k3 ((bws_n (hq_81 ▸ hw_78) (hq_85 ▸ hw_82) hw_86).1 (Classical.byContradiction (fun z => hw_87 ((bws_n (hq_81 ▸ hw_78) (hq_85 ▸ hw_82) hw_86).2 z)))) hr_91) pf_77
            exact ⟨pf_76, (QfO.eq (congrArg (fun z => qCL (rB (Mf 1) (Mv 0)) ((Mv 8).toInt - 1).toNat z C) hq_89.symm) hf_90)⟩
          have hm_92 : (r_67 : Int32).toInt = 0 → (QfE (qCL (rB (Mf 1) (Mv 0)) ((Mv 8).toInt - 1).toNat (Mv 2) C) sv_63) := by
            intro h1r
            obtain pf_93 := hm_71 h1r
            have pf_93 : QfE (qz_k3 (rB (Mf 1) (Mv 0)) C (pNX (rB (Mf 1) (Mv 0)) sv_42)) sv_63 := pf_93
            have hw_94 : ¬ pz_wd (rB (Mf 1) (Mv 0)) (sv_4 : Int32).toInt.toNat pz_book = true := by
              have hq := pf_16
              rw [show (1651470187 : Int64).toInt = pz_pl pz_book by decide] at hq
              exact fun z => hq ((PkW.wd (by decide) (by decide) (by decide)).mpr z)
            have hq_95 : sv_4 = (Mv 2) := SkR.eq h_sk pf_8
            have hq_96 : sv_42 = (Mv 2) := SkR.eq h_sk (SkR.trans (SkR.trans pf_8 pf_28) pf_46)
            have hq_97 : sv_4 = sv_42 := hq_95.trans hq_96.symm
            have hw_98 : ¬ pz_wd (rB (Mf 1) (Mv 0)) (sv_24 : Int32).toInt.toNat pz_sky = true := by
              have hq := pf_36
              rw [show (7564153 : Int64).toInt = pz_pl pz_sky by decide] at hq
              exact fun z => hq ((PkW.wd (by decide) (by decide) (by decide)).mpr z)
            have hq_99 : sv_24 = (Mv 2) := SkR.eq h_sk (SkR.trans pf_8 pf_28)
            have hq_100 : sv_42 = (Mv 2) := SkR.eq h_sk (SkR.trans (SkR.trans pf_8 pf_28) pf_46)
            have hq_101 : sv_24 = sv_42 := hq_99.trans hq_100.symm
            have hw_102 : ¬ pz_wd (rB (Mf 1) (Mv 0)) (sv_42 : Int32).toInt.toNat pz_buyer = true := by
              have hq := pf_54
              rw [show (422877685106 : Int64).toInt = pz_pl pz_buyer by decide] at hq
              exact fun z => hq ((PkW.wd (by decide) (by decide) (by decide)).mpr z)
            have hq_104 : sv_42 = (Mv 2) := SkR.eq h_sk (SkR.trans (SkR.trans pf_8 pf_28) pf_46)
            have hw_103 : ¬ pz_wa (rB (Mf 1) (Mv 0)) (sv_42 : Int32).toInt.toNat pz_bws 0 = -1 := by
              rw [hq_104]
              exact h_wk
            have hq_105 : sv_42 = (Mv 2) := SkR.eq h_sk (SkR.trans (SkR.trans pf_8 pf_28) pf_46)
            have hf_106 : QfE (qCL (rB (Mf 1) (Mv 0)) ((Mv 8).toInt - 1).toNat sv_42 C) sv_63 := by
              have hr_107 : 1 ≤ ((Mv 8).toInt - 1).toNat ∧ ((Mv 8).toInt - 1).toNat < 40 := by
                have z_1 := congrArg Int32.toInt c_15
                have z_2 : ¬ (x_18 : Int32).toInt = (0 : Int32).toInt := fun z => c_19 (Int32.toInt_inj.mp z)
                have z_3 := congrArg Int32.toInt c_35
                have z_4 := congrArg Int32.toInt c_53
                have y_0 : (0 : Int32).toInt = 0 := by decide
                omega
              exact QfE.eq (qk_k3 ((bws_n (hq_97 ▸ hw_94) (hq_101 ▸ hw_98) hw_102).1 (Classical.byContradiction (fun z => hw_103 ((bws_n (hq_97 ▸ hw_94) (hq_101 ▸ hw_98) hw_102).2 z)))) hr_107) pf_93
            exact (QfE.eq (congrArg (fun z => qCL (rB (Mf 1) (Mv 0)) ((Mv 8).toInt - 1).toNat z C) hq_105.symm) hf_106)
          exact retI (v := r_67) hx hb hr hlk (nar01 hb_73) hP hD hS (sv_62, sv_63, sv_64, sv_65) ⟨_, rfl, hp_74, ha_72, hm_75, hm_92⟩ [0, 1, 2] rfl rfl dX12_bookLineHere_69 (Nat.le_of_ble_eq_true rfl) (Nat.le_of_ble_eq_true rfl) rfl
        · skip
          have hz_110 : (r_47 : Int32).toInt = 1 := by
            have z_1 := congrArg Int32.toInt c_15
            have z_2 : ¬ (x_18 : Int32).toInt = (0 : Int32).toInt := fun z => c_19 (Int32.toInt_inj.mp z)
            have z_3 := congrArg Int32.toInt c_35
            have z_4 : ¬ (r_47 : Int32).toInt = (0 : Int32).toInt := fun z => c_53 (Int32.toInt_inj.mp z)
            have y_0 : (0 : Int32).toInt = 0 := by decide
            omega
          obtain ⟨pf_108, pf_109⟩ := hm_50 hz_110
          have pf_108 : Ltr (Mf 1) (Mv 0) sv_42 := pf_108
          have ar_pf_108 := pf_108.1
          have at_pf_108 : 97 ≤ ((Mf 1) (sv_42 : Int32).toInt.toNat).toInt ∧ ((Mf 1) (sv_42 : Int32).toInt.toNat).toInt ≤ 122 := pf_108.2
          have pf_109 : PkW (rB (Mf 1) (Mv 0)) ((sv_42 : Int32).toInt.toNat) (422877685106 : Int64).toInt := pf_109
          refine lv_aload_n hx hb dX12_bookLineHere_57 rfl (lv_at hl 0 rfl) ?_
          refine lv_iload_n hx hb dX12_bookLineHere_58 rfl (lv_at hl 1 rfl) ?_
          have hr_111 : 0 ≤ (sv_42 : Int32).toInt := by
            have z_1 := congrArg Int32.toInt c_15
            have z_2 : ¬ (x_18 : Int32).toInt = (0 : Int32).toInt := fun z => c_19 (Int32.toInt_inj.mp z)
            have z_3 := congrArg Int32.toInt c_35
            have z_4 : ¬ (r_47 : Int32).toInt = (0 : Int32).toInt := fun z => c_53 (Int32.toInt_inj.mp z)
            have y_0 : (0 : Int32).toInt = 0 := by decide
            omega
          have rg_112 := rB_rg (n := (Mv 0)) h_bs (sv_42 : Int32).toInt.toNat
          have hl_113 : 97 ≤ rB (Mf 1) (Mv 0) (sv_42 : Int32).toInt.toNat ∧ rB (Mf 1) (Mv 0) (sv_42 : Int32).toInt.toNat ≤ 122 := by
            have z_1 := congrArg Int32.toInt c_15
            have z_2 : ¬ (x_18 : Int32).toInt = (0 : Int32).toInt := fun z => c_19 (Int32.toInt_inj.mp z)
            have z_3 := congrArg Int32.toInt c_35
            have z_4 : ¬ (r_47 : Int32).toInt = (0 : Int32).toInt := fun z => c_53 (Int32.toInt_inj.mp z)
            have y_0 : (0 : Int32).toInt = 0 := by decide
            omega
          have ha_114 : 0 ≤ (sv_42 : Int32).toInt ∧ (sv_42 : Int32).toInt ≤ ((Mv 0) : Int32).toInt ∧ ((Mv 0) : Int32).toInt ≤ 400 := by
            have z_1 := congrArg Int32.toInt c_15
            have z_2 : ¬ (x_18 : Int32).toInt = (0 : Int32).toInt := fun z => c_19 (Int32.toInt_inj.mp z)
            have z_3 := congrArg Int32.toInt c_35
            have z_4 : ¬ (r_47 : Int32).toInt = (0 : Int32).toInt := fun z => c_53 (Int32.toInt_inj.mp z)
            have y_0 : (0 : Int32).toInt = 0 := by decide
            omega
          have ha_115 : ((Mf 6) 0).toInt = 1 := by
            have z_1 := congrArg Int32.toInt c_15
            have z_2 : ¬ (x_18 : Int32).toInt = (0 : Int32).toInt := fun z => c_19 (Int32.toInt_inj.mp z)
            have z_3 := congrArg Int32.toInt c_35
            have z_4 : ¬ (r_47 : Int32).toInt = (0 : Int32).toInt := fun z => c_53 (Int32.toInt_inj.mp z)
            have y_0 : (0 : Int32).toInt = 0 := by decide
            omega
          refine cV (a := (Ma 0)) (As := [.int x1]) (rest := []) (wr := []) ⟨hx, hb, hml, hown, hts⟩ hK hX hA (cu_zX12_isBuyerHere l D tc sk (Ma 0) (Ma 1) (Ma 2) (Ma 3) (Ma 4) (Ma 5) (Ma 6) (Ma 7) (Ma 8) (Ma 9) (Ma 10) (Ma 11) (Ma 12) (Ma 13) (Ma 14) (Ma 15) (Ma 16) (Ma 17) (Ma 18) (Ma 19) (Ma 20) (Mv 0) (Mv 1) sv_42 (Mv 3) (Mv 4) (Mv 5) (Mv 6) (Mv 7) (Mv 8) (Mv 9) (Mv 10) (Mv 11) (Mv 12) (Mv 13) (Mv 14) (Mf 1) (Mf 6) (Mj 0) x1 C ha_114 h_at h_ro ha_115 h_bs h_w (⟨hr_111, hl_113⟩) h_e) k_1267 k_1264 k_1266 k_39 k_106 pl_X12_isBuyerHere ⟨Nat.le_of_ble_eq_true rfl, Nat.le_of_ble_eq_true rfl⟩ rfl rfl (va_recv hK hP (ci := 12) (q0 := 1) rfl rfl) hP hD hS [1, 2, 0] [] rfl rfl rfl rfl rfl (by decide) rfl hl.1 rfl (Nat.le_of_ble_eq_true rfl) dX12_bookLineHere_59 ⟨Nat.le_of_ble_eq_true rfl, Nat.le_of_ble_eq_true rfl⟩ (fun v_116 u_117 H locs hv_118 hP₀ hD₀ hS₀ => ?_)
          obtain ⟨sv_119, sv_120, sv_121, sv_122⟩ := u_117
          obtain ⟨r_124, rfl, he_125, pf_123, hm_127, hm_128⟩ := hv_118
          have he_125 : ((r_124.toInt = 0 ∧ ¬ (sv_120 : Int32).toInt = 0) ∨ (r_124.toInt = 1 ∧ (sv_122 2).toInt = ((Mf 6) 2).toInt ∧ (sv_122 3).toInt = ((Mf 6) 3).toInt + 1 ∧ (sv_122 0).toInt = ((Mf 6) 0).toInt ∧ ((Mf 6) 3).toInt < 6 ∧ (sv_120 : Int32).toInt = 0)) := he_125
          have pf_123 : (sv_42 : Int32).toInt ≤ (sv_119 : Int32).toInt ∧ (sv_119 : Int32).toInt ≤ ((Mv 0) : Int32).toInt := pf_123
          refine W.eq (g2 := F0 m 62 ls [.int r_124]) rfl ?_
          replace hP : va_P D classes [((Ma 0), .inr (12, [.ref (Ma 1), .int (Mv 0), .int (Mv 1), .ref (Ma 2), .ref (Ma 3), .ref (Ma 4), .ref (Ma 5), .ref (Ma 6), .int sv_119, .int sv_120, .int sv_121, .int (Mv 5), .int (Mv 6), .int (Mv 7), .int (Mv 8), .ref (Ma 7), .int (Mv 9), .ref (Ma 8), .int (Mv 10), .ref (Ma 9), .ref (Ma 10), .int (Mv 11), .int (Mv 12), .int (Mv 13), .ref (Ma 11), .int (Mv 14), .ref (Ma 12), .ref (Ma 13), .ref (Ma 14), .ref (Ma 15), .ref (Ma 16), .long (Mj 0), .ref (Ma 17), .ref (Ma 18), .ref (Ma 19), .ref (Ma 20)])), ((Ma 1), .inl (tc 2, 400, .inl (Mf 1))), ((Ma 6), .inl (tc 0, 95, .inl sv_122))] H := hP₀
          replace hD : va_D A [((Ma 0), .inr (12, [.ref (Ma 1), .int (Mv 0), .int (Mv 1), .ref (Ma 2), .ref (Ma 3), .ref (Ma 4), .ref (Ma 5), .ref (Ma 6), .int sv_119, .int sv_120, .int sv_121, .int (Mv 5), .int (Mv 6), .int (Mv 7), .int (Mv 8), .ref (Ma 7), .int (Mv 9), .ref (Ma 8), .int (Mv 10), .ref (Ma 9), .ref (Ma 10), .int (Mv 11), .int (Mv 12), .int (Mv 13), .ref (Ma 11), .int (Mv 14), .ref (Ma 12), .ref (Ma 13), .ref (Ma 14), .ref (Ma 15), .ref (Ma 16), .long (Mj 0), .ref (Ma 17), .ref (Ma 18), .ref (Ma 19), .ref (Ma 20)])), ((Ma 1), .inl (tc 2, 400, .inl (Mf 1))), ((Ma 6), .inl (tc 0, 95, .inl sv_122))] := hD₀
          replace hS := hS₀
          clear hP₀ hD₀ hS₀
          refine lv_goto (tgt := 69) hx hb dX12_bookLineHere_62 (by decide) ?_
          have ha_129 : ((Mv 2) : Int32).toInt ≤ (sv_119 : Int32).toInt ∧ (sv_119 : Int32).toInt ≤ ((Mv 0) : Int32).toInt := by
            have z_1 := congrArg Int32.toInt c_15
            have z_2 : ¬ (x_18 : Int32).toInt = (0 : Int32).toInt := fun z => c_19 (Int32.toInt_inj.mp z)
            have z_3 := congrArg Int32.toInt c_35
            have z_4 : ¬ (r_47 : Int32).toInt = (0 : Int32).toInt := fun z => c_53 (Int32.toInt_inj.mp z)
            have y_0 : (0 : Int32).toInt = 0 := by decide
            omega
          have hb_130 : (r_124 : Int32).toInt = 0 ∨ (r_124 : Int32).toInt = 1 := by
            have z_1 := congrArg Int32.toInt c_15
            have z_2 : ¬ (x_18 : Int32).toInt = (0 : Int32).toInt := fun z => c_19 (Int32.toInt_inj.mp z)
            have z_3 := congrArg Int32.toInt c_35
            have z_4 : ¬ (r_47 : Int32).toInt = (0 : Int32).toInt := fun z => c_53 (Int32.toInt_inj.mp z)
            have y_0 : (0 : Int32).toInt = 0 := by decide
            omega
          have hp_131 : (((r_124 : Int32).toInt = 0 ∧ ¬ (sv_120 : Int32).toInt = 0) ∨ ((r_124 : Int32).toInt = 1 ∧ (sv_122 0).toInt = 1 ∧ (sv_120 : Int32).toInt = 0)) := by
            have z_1 := congrArg Int32.toInt c_15
            have z_2 : ¬ (x_18 : Int32).toInt = (0 : Int32).toInt := fun z => c_19 (Int32.toInt_inj.mp z)
            have z_3 := congrArg Int32.toInt c_35
            have z_4 : ¬ (r_47 : Int32).toInt = (0 : Int32).toInt := fun z => c_53 (Int32.toInt_inj.mp z)
            have y_0 : (0 : Int32).toInt = 0 := by decide
            omega
          have hm_132 : (r_124 : Int32).toInt = 1 → (RdO sv_122) ∧ (QfO (qCL (rB (Mf 1) (Mv 0)) ((Mv 8).toInt - 1).toNat (Mv 2) C) (rB (Mf 1) (Mv 0)) sv_120 sv_119 sv_122) := by
            intro h1r
            obtain ⟨pf_133, pf_134⟩ := hm_127 h1r
            have pf_133 : RdO sv_122 := pf_133
            have ar_pf_133 := RdO.ar pf_133
            have pf_134 : QfO (qz_k2 (rB (Mf 1) (Mv 0)) C (pNX (rB (Mf 1) (Mv 0)) sv_42)) (rB (Mf 1) (Mv 0)) sv_120 sv_119 sv_122 := pf_134
            have ar_pf_134 := pf_134.choose_spec.2.1
            have hw_135 : ¬ pz_wd (rB (Mf 1) (Mv 0)) (sv_4 : Int32).toInt.toNat pz_book = true := by
              have hq := pf_16
              rw [show (1651470187 : Int64).toInt = pz_pl pz_book by decide] at hq
              exact fun z => hq ((PkW.wd (by decide) (by decide) (by decide)).mpr z)
            have hq_136 : sv_4 = (Mv 2) := SkR.eq h_sk pf_8
            have hq_137 : sv_42 = (Mv 2) := SkR.eq h_sk (SkR.trans (SkR.trans pf_8 pf_28) pf_46)
            have hq_138 : sv_4 = sv_42 := hq_136.trans hq_137.symm
            have hw_139 : ¬ pz_wd (rB (Mf 1) (Mv 0)) (sv_24 : Int32).toInt.toNat pz_sky = true := by
              have hq := pf_36
              rw [show (7564153 : Int64).toInt = pz_pl pz_sky by decide] at hq
              exact fun z => hq ((PkW.wd (by decide) (by decide) (by decide)).mpr z)
            have hq_140 : sv_24 = (Mv 2) := SkR.eq h_sk (SkR.trans pf_8 pf_28)
            have hq_141 : sv_42 = (Mv 2) := SkR.eq h_sk (SkR.trans (SkR.trans pf_8 pf_28) pf_46)
            have hq_142 : sv_24 = sv_42 := hq_140.trans hq_141.symm
            have hw_143 : pz_wd (rB (Mf 1) (Mv 0)) (sv_42 : Int32).toInt.toNat pz_buyer = true := by
              have hq := pf_109
              rw [show (422877685106 : Int64).toInt = pz_pl pz_buyer by decide] at hq
              exact (PkW.wd (by decide) (by decide) (by decide)).mp hq
            have hq_144 : sv_42 = (Mv 2) := SkR.eq h_sk (SkR.trans (SkR.trans pf_8 pf_28) pf_46)
            have hf_145 : QfO (qCL (rB (Mf 1) (Mv 0)) ((Mv 8).toInt - 1).toNat sv_42 C) (rB (Mf 1) (Mv 0)) sv_120 sv_119 sv_122 := by
              have hr_146 : 1 ≤ ((Mv 8).toInt - 1).toNat ∧ ((Mv 8).toInt - 1).toNat < 40 := by
                have z_1 := congrArg Int32.toInt c_15
                have z_2 : ¬ (x_18 : Int32).toInt = (0 : Int32).toInt := fun z => c_19 (Int32.toInt_inj.mp z)
                have z_3 := congrArg Int32.toInt c_35
                have z_4 : ¬ (r_47 : Int32).toInt = (0 : Int32).toInt := fun z => c_53 (Int32.toInt_inj.mp z)
                have y_0 : (0 : Int32).toInt = 0 := by decide
                omega
              have hi_147 : C 3 < 6 := by
                have hc := h_e 3 (by decide)
                have z_1 := congrArg Int32.toInt c_15
                have z_2 : ¬ (x_18 : Int32).toInt = (0 : Int32).toInt := fun z => c_19 (Int32.toInt_inj.mp z)
                have z_3 := congrArg Int32.toInt c_35
                have z_4 : ¬ (r_47 : Int32).toInt = (0 : Int32).toInt := fun z => c_53 (Int32.toInt_inj.mp z)
                have y_0 : (0 : Int32).toInt = 0 := by decide
                omega
              exact QfO.eq (qk_k2 (bws_2 (hq_138 ▸ hw_135) (hq_142 ▸ hw_139) hw_143) hr_146 hi_147) pf_134
            exact ⟨pf_133, (QfO.eq (congrArg (fun z => qCL (rB (Mf 1) (Mv 0)) ((Mv 8).toInt - 1).toNat z C) hq_144.symm) hf_145)⟩
          have hm_148 : (r_124 : Int32).toInt = 0 → (QfE (qCL (rB (Mf 1) (Mv 0)) ((Mv 8).toInt - 1).toNat (Mv 2) C) sv_120) := by
            intro h1r
            obtain pf_149 := hm_128 h1r
            have pf_149 : QyE (rB (Mf 1) (Mv 0)) C sv_42 ((Mf 6) 3) x1 sv_120 := pf_149
            have hw_150 : ¬ pz_wd (rB (Mf 1) (Mv 0)) (sv_4 : Int32).toInt.toNat pz_book = true := by
              have hq := pf_16
              rw [show (1651470187 : Int64).toInt = pz_pl pz_book by decide] at hq
              exact fun z => hq ((PkW.wd (by decide) (by decide) (by decide)).mpr z)
            have hq_151 : sv_4 = (Mv 2) := SkR.eq h_sk pf_8
            have hq_152 : sv_42 = (Mv 2) := SkR.eq h_sk (SkR.trans (SkR.trans pf_8 pf_28) pf_46)
            have hq_153 : sv_4 = sv_42 := hq_151.trans hq_152.symm
            have hw_154 : ¬ pz_wd (rB (Mf 1) (Mv 0)) (sv_24 : Int32).toInt.toNat pz_sky = true := by
              have hq := pf_36
              rw [show (7564153 : Int64).toInt = pz_pl pz_sky by decide] at hq
              exact fun z => hq ((PkW.wd (by decide) (by decide) (by decide)).mpr z)
            have hq_155 : sv_24 = (Mv 2) := SkR.eq h_sk (SkR.trans pf_8 pf_28)
            have hq_156 : sv_42 = (Mv 2) := SkR.eq h_sk (SkR.trans (SkR.trans pf_8 pf_28) pf_46)
            have hq_157 : sv_24 = sv_42 := hq_155.trans hq_156.symm
            have hw_158 : pz_wd (rB (Mf 1) (Mv 0)) (sv_42 : Int32).toInt.toNat pz_buyer = true := by
              have hq := pf_109
              rw [show (422877685106 : Int64).toInt = pz_pl pz_buyer by decide] at hq
              exact (PkW.wd (by decide) (by decide) (by decide)).mp hq
            have hq_159 : sv_42 = (Mv 2) := SkR.eq h_sk (SkR.trans (SkR.trans pf_8 pf_28) pf_46)
            have hf_160 : QfE (qCL (rB (Mf 1) (Mv 0)) ((Mv 8).toInt - 1).toNat sv_42 C) sv_120 := by
              have hr_161 : 1 ≤ ((Mv 8).toInt - 1).toNat ∧ ((Mv 8).toInt - 1).toNat < 40 := by
                have z_1 := congrArg Int32.toInt c_15
                have z_2 : ¬ (x_18 : Int32).toInt = (0 : Int32).toInt := fun z => c_19 (Int32.toInt_inj.mp z)
                have z_3 := congrArg Int32.toInt c_35
                have z_4 : ¬ (r_47 : Int32).toInt = (0 : Int32).toInt := fun z => c_53 (Int32.toInt_inj.mp z)
                have y_0 : (0 : Int32).toInt = 0 := by decide
                omega
              have hPn : (sv_42 : Int32).toInt = (Mv 2).toInt := by rw [hq_159]
              have hc3 := h_e 3 (by decide)
              rcases pf_149 with ⟨hz, hw2⟩ | ⟨hz, hw2⟩
              · exact qCL_bad (bws_2 (hq_153 ▸ hw_150) (hq_157 ▸ hw_154) hw_158) (by decide) (Or.inr (Or.inr ⟨rfl, by omega⟩)) (by omega) (by omega)
              · skip
                have hro := RdO.ar h_ro
                exact QfE.eq (qk_k2 (bws_2 (hq_153 ▸ hw_150) (hq_157 ▸ hw_154) hw_158) hr_161 (by omega)) hw2
            exact (QfE.eq (congrArg (fun z => qCL (rB (Mf 1) (Mv 0)) ((Mv 8).toInt - 1).toNat z C) hq_159.symm) hf_160)
          exact retI (v := r_124) hx hb hr hlk (nar01 hb_130) hP hD hS (sv_119, sv_120, sv_121, sv_122) ⟨_, rfl, hp_131, ha_129, hm_132, hm_148⟩ [0, 1, 2] rfl rfl dX12_bookLineHere_69 (Nat.le_of_ble_eq_true rfl) (Nat.le_of_ble_eq_true rfl) rfl
      · skip
        have hz_164 : (r_29 : Int32).toInt = 1 := by
          have z_1 := congrArg Int32.toInt c_15
          have z_2 : ¬ (x_18 : Int32).toInt = (0 : Int32).toInt := fun z => c_19 (Int32.toInt_inj.mp z)
          have z_3 : ¬ (r_29 : Int32).toInt = (0 : Int32).toInt := fun z => c_35 (Int32.toInt_inj.mp z)
          have y_0 : (0 : Int32).toInt = 0 := by decide
          omega
        obtain ⟨pf_162, pf_163⟩ := hm_32 hz_164
        have pf_162 : Ltr (Mf 1) (Mv 0) sv_24 := pf_162
        have ar_pf_162 := pf_162.1
        have at_pf_162 : 97 ≤ ((Mf 1) (sv_24 : Int32).toInt.toNat).toInt ∧ ((Mf 1) (sv_24 : Int32).toInt.toNat).toInt ≤ 122 := pf_162.2
        have pf_163 : PkW (rB (Mf 1) (Mv 0)) ((sv_24 : Int32).toInt.toNat) (7564153 : Int64).toInt := pf_163
        refine lv_aload_n hx hb dX12_bookLineHere_42 rfl (lv_at hl 0 rfl) ?_
        have hr_165 : 0 ≤ (sv_24 : Int32).toInt := by
          have z_1 := congrArg Int32.toInt c_15
          have z_2 : ¬ (x_18 : Int32).toInt = (0 : Int32).toInt := fun z => c_19 (Int32.toInt_inj.mp z)
          have z_3 : ¬ (r_29 : Int32).toInt = (0 : Int32).toInt := fun z => c_35 (Int32.toInt_inj.mp z)
          have y_0 : (0 : Int32).toInt = 0 := by decide
          omega
        have rg_166 := rB_rg (n := (Mv 0)) h_bs (sv_24 : Int32).toInt.toNat
        have hl_167 : 97 ≤ rB (Mf 1) (Mv 0) (sv_24 : Int32).toInt.toNat ∧ rB (Mf 1) (Mv 0) (sv_24 : Int32).toInt.toNat ≤ 122 := by
          have z_1 := congrArg Int32.toInt c_15
          have z_2 : ¬ (x_18 : Int32).toInt = (0 : Int32).toInt := fun z => c_19 (Int32.toInt_inj.mp z)
          have z_3 : ¬ (r_29 : Int32).toInt = (0 : Int32).toInt := fun z => c_35 (Int32.toInt_inj.mp z)
          have y_0 : (0 : Int32).toInt = 0 := by decide
          omega
        have ha_168 : 0 ≤ (sv_24 : Int32).toInt ∧ (sv_24 : Int32).toInt ≤ ((Mv 0) : Int32).toInt ∧ ((Mv 0) : Int32).toInt ≤ 400 := by
          have z_1 := congrArg Int32.toInt c_15
          have z_2 : ¬ (x_18 : Int32).toInt = (0 : Int32).toInt := fun z => c_19 (Int32.toInt_inj.mp z)
          have z_3 : ¬ (r_29 : Int32).toInt = (0 : Int32).toInt := fun z => c_35 (Int32.toInt_inj.mp z)
          have y_0 : (0 : Int32).toInt = 0 := by decide
          omega
        have ha_169 : ((Mf 6) 0).toInt = 1 := by
          have z_1 := congrArg Int32.toInt c_15
          have z_2 : ¬ (x_18 : Int32).toInt = (0 : Int32).toInt := fun z => c_19 (Int32.toInt_inj.mp z)
          have z_3 : ¬ (r_29 : Int32).toInt = (0 : Int32).toInt := fun z => c_35 (Int32.toInt_inj.mp z)
          have y_0 : (0 : Int32).toInt = 0 := by decide
          omega
        refine cV (a := (Ma 0)) (As := []) (rest := []) (wr := []) ⟨hx, hb, hml, hown, hts⟩ hK hX hA (cu_zX12_isSkyHere l D tc sk (Ma 0) (Ma 1) (Ma 2) (Ma 3) (Ma 4) (Ma 5) (Ma 6) (Ma 7) (Ma 8) (Ma 9) (Ma 10) (Ma 11) (Ma 12) (Ma 13) (Ma 14) (Ma 15) (Ma 16) (Ma 17) (Ma 18) (Ma 19) (Ma 20) (Mv 0) (Mv 1) sv_24 (Mv 3) (Mv 4) (Mv 5) (Mv 6) (Mv 7) (Mv 8) (Mv 9) (Mv 10) (Mv 11) (Mv 12) (Mv 13) (Mv 14) (Mf 1) (Mf 6) (Mj 0) C ha_168 h_ro ha_169 h_bs h_w (⟨hr_165, hl_167⟩) h_e) k_1263 k_1260 k_1262 k_38 k_106 pl_X12_isSkyHere ⟨Nat.le_of_ble_eq_true rfl, Nat.le_of_ble_eq_true rfl⟩ rfl rfl (va_recv hK hP (ci := 12) (q0 := 1) rfl rfl) hP hD hS [1, 2, 0] [] rfl rfl rfl rfl rfl (by decide) rfl hl.1 rfl (Nat.le_of_ble_eq_true rfl) dX12_bookLineHere_43 ⟨Nat.le_of_ble_eq_true rfl, Nat.le_of_ble_eq_true rfl⟩ (fun v_170 u_171 H locs hv_172 hP₀ hD₀ hS₀ => ?_)
        obtain ⟨sv_173, sv_174, sv_175, sv_176⟩ := u_171
        obtain ⟨r_178, rfl, he_179, pf_177, hm_181, hm_182⟩ := hv_172
        have he_179 : ((r_178.toInt = 0 ∧ ¬ (sv_174 : Int32).toInt = 0) ∨ (r_178.toInt = 1 ∧ ((sv_176 2).toInt = ((Mf 6) 2).toInt ∧ (sv_176 3).toInt = ((Mf 6) 3).toInt ∧ (sv_176 0).toInt = ((Mf 6) 0).toInt) ∧ (sv_174 : Int32).toInt = 0)) := he_179
        have pf_177 : (sv_24 : Int32).toInt ≤ (sv_173 : Int32).toInt ∧ (sv_173 : Int32).toInt ≤ ((Mv 0) : Int32).toInt := pf_177
        refine W.eq (g2 := F0 m 46 ls [.int r_178]) rfl ?_
        replace hP : va_P D classes [((Ma 0), .inr (12, [.ref (Ma 1), .int (Mv 0), .int (Mv 1), .ref (Ma 2), .ref (Ma 3), .ref (Ma 4), .ref (Ma 5), .ref (Ma 6), .int sv_173, .int sv_174, .int sv_175, .int (Mv 5), .int (Mv 6), .int (Mv 7), .int (Mv 8), .ref (Ma 7), .int (Mv 9), .ref (Ma 8), .int (Mv 10), .ref (Ma 9), .ref (Ma 10), .int (Mv 11), .int (Mv 12), .int (Mv 13), .ref (Ma 11), .int (Mv 14), .ref (Ma 12), .ref (Ma 13), .ref (Ma 14), .ref (Ma 15), .ref (Ma 16), .long (Mj 0), .ref (Ma 17), .ref (Ma 18), .ref (Ma 19), .ref (Ma 20)])), ((Ma 1), .inl (tc 2, 400, .inl (Mf 1))), ((Ma 6), .inl (tc 0, 95, .inl sv_176))] H := hP₀
        replace hD : va_D A [((Ma 0), .inr (12, [.ref (Ma 1), .int (Mv 0), .int (Mv 1), .ref (Ma 2), .ref (Ma 3), .ref (Ma 4), .ref (Ma 5), .ref (Ma 6), .int sv_173, .int sv_174, .int sv_175, .int (Mv 5), .int (Mv 6), .int (Mv 7), .int (Mv 8), .ref (Ma 7), .int (Mv 9), .ref (Ma 8), .int (Mv 10), .ref (Ma 9), .ref (Ma 10), .int (Mv 11), .int (Mv 12), .int (Mv 13), .ref (Ma 11), .int (Mv 14), .ref (Ma 12), .ref (Ma 13), .ref (Ma 14), .ref (Ma 15), .ref (Ma 16), .long (Mj 0), .ref (Ma 17), .ref (Ma 18), .ref (Ma 19), .ref (Ma 20)])), ((Ma 1), .inl (tc 2, 400, .inl (Mf 1))), ((Ma 6), .inl (tc 0, 95, .inl sv_176))] := hD₀
        replace hS := hS₀
        clear hP₀ hD₀ hS₀
        have ha_183 : ((Mv 2) : Int32).toInt ≤ (sv_173 : Int32).toInt ∧ (sv_173 : Int32).toInt ≤ ((Mv 0) : Int32).toInt := by
          have z_1 := congrArg Int32.toInt c_15
          have z_2 : ¬ (x_18 : Int32).toInt = (0 : Int32).toInt := fun z => c_19 (Int32.toInt_inj.mp z)
          have z_3 : ¬ (r_29 : Int32).toInt = (0 : Int32).toInt := fun z => c_35 (Int32.toInt_inj.mp z)
          have y_0 : (0 : Int32).toInt = 0 := by decide
          omega
        have hb_184 : (r_178 : Int32).toInt = 0 ∨ (r_178 : Int32).toInt = 1 := by
          have z_1 := congrArg Int32.toInt c_15
          have z_2 : ¬ (x_18 : Int32).toInt = (0 : Int32).toInt := fun z => c_19 (Int32.toInt_inj.mp z)
          have z_3 : ¬ (r_29 : Int32).toInt = (0 : Int32).toInt := fun z => c_35 (Int32.toInt_inj.mp z)
          have y_0 : (0 : Int32).toInt = 0 := by decide
          omega
        have hp_185 : (((r_178 : Int32).toInt = 0 ∧ ¬ (sv_174 : Int32).toInt = 0) ∨ ((r_178 : Int32).toInt = 1 ∧ (sv_176 0).toInt = 1 ∧ (sv_174 : Int32).toInt = 0)) := by
          have z_1 := congrArg Int32.toInt c_15
          have z_2 : ¬ (x_18 : Int32).toInt = (0 : Int32).toInt := fun z => c_19 (Int32.toInt_inj.mp z)
          have z_3 : ¬ (r_29 : Int32).toInt = (0 : Int32).toInt := fun z => c_35 (Int32.toInt_inj.mp z)
          have y_0 : (0 : Int32).toInt = 0 := by decide
          omega
        have hm_186 : (r_178 : Int32).toInt = 1 → (RdO sv_176) ∧ (QfO (qCL (rB (Mf 1) (Mv 0)) ((Mv 8).toInt - 1).toNat (Mv 2) C) (rB (Mf 1) (Mv 0)) sv_174 sv_173 sv_176) := by
          intro h1r
          obtain ⟨pf_187, pf_188⟩ := hm_181 h1r
          have pf_187 : RdO sv_176 := pf_187
          have ar_pf_187 := RdO.ar pf_187
          have pf_188 : QfO (qz_k1 (rB (Mf 1) (Mv 0)) C (pNX (rB (Mf 1) (Mv 0)) sv_24)) (rB (Mf 1) (Mv 0)) sv_174 sv_173 sv_176 := pf_188
          have ar_pf_188 := pf_188.choose_spec.2.1
          have hw_189 : ¬ pz_wd (rB (Mf 1) (Mv 0)) (sv_4 : Int32).toInt.toNat pz_book = true := by
            have hq := pf_16
            rw [show (1651470187 : Int64).toInt = pz_pl pz_book by decide] at hq
            exact fun z => hq ((PkW.wd (by decide) (by decide) (by decide)).mpr z)
          have hq_190 : sv_4 = (Mv 2) := SkR.eq h_sk pf_8
          have hq_191 : sv_24 = (Mv 2) := SkR.eq h_sk (SkR.trans pf_8 pf_28)
          have hq_192 : sv_4 = sv_24 := hq_190.trans hq_191.symm
          have hw_193 : pz_wd (rB (Mf 1) (Mv 0)) (sv_24 : Int32).toInt.toNat pz_sky = true := by
            have hq := pf_163
            rw [show (7564153 : Int64).toInt = pz_pl pz_sky by decide] at hq
            exact (PkW.wd (by decide) (by decide) (by decide)).mp hq
          have hq_194 : sv_24 = (Mv 2) := SkR.eq h_sk (SkR.trans pf_8 pf_28)
          have hf_195 : QfO (qCL (rB (Mf 1) (Mv 0)) ((Mv 8).toInt - 1).toNat sv_24 C) (rB (Mf 1) (Mv 0)) sv_174 sv_173 sv_176 := by
            have hr_196 : 1 ≤ ((Mv 8).toInt - 1).toNat ∧ ((Mv 8).toInt - 1).toNat < 40 := by
              have z_1 := congrArg Int32.toInt c_15
              have z_2 : ¬ (x_18 : Int32).toInt = (0 : Int32).toInt := fun z => c_19 (Int32.toInt_inj.mp z)
              have z_3 : ¬ (r_29 : Int32).toInt = (0 : Int32).toInt := fun z => c_35 (Int32.toInt_inj.mp z)
              have y_0 : (0 : Int32).toInt = 0 := by decide
              omega
            exact QfO.eq (qk_k1 (bws_1 (hq_192 ▸ hw_189) hw_193) hr_196) pf_188
          exact ⟨pf_187, (QfO.eq (congrArg (fun z => qCL (rB (Mf 1) (Mv 0)) ((Mv 8).toInt - 1).toNat z C) hq_194.symm) hf_195)⟩
        have hm_197 : (r_178 : Int32).toInt = 0 → (QfE (qCL (rB (Mf 1) (Mv 0)) ((Mv 8).toInt - 1).toNat (Mv 2) C) sv_174) := by
          intro h1r
          obtain pf_198 := hm_182 h1r
          have pf_198 : QfE (qz_k1 (rB (Mf 1) (Mv 0)) C (pNX (rB (Mf 1) (Mv 0)) sv_24)) sv_174 := pf_198
          have hw_199 : ¬ pz_wd (rB (Mf 1) (Mv 0)) (sv_4 : Int32).toInt.toNat pz_book = true := by
            have hq := pf_16
            rw [show (1651470187 : Int64).toInt = pz_pl pz_book by decide] at hq
            exact fun z => hq ((PkW.wd (by decide) (by decide) (by decide)).mpr z)
          have hq_200 : sv_4 = (Mv 2) := SkR.eq h_sk pf_8
          have hq_201 : sv_24 = (Mv 2) := SkR.eq h_sk (SkR.trans pf_8 pf_28)
          have hq_202 : sv_4 = sv_24 := hq_200.trans hq_201.symm
          have hw_203 : pz_wd (rB (Mf 1) (Mv 0)) (sv_24 : Int32).toInt.toNat pz_sky = true := by
            have hq := pf_163
            rw [show (7564153 : Int64).toInt = pz_pl pz_sky by decide] at hq
            exact (PkW.wd (by decide) (by decide) (by decide)).mp hq
          have hq_204 : sv_24 = (Mv 2) := SkR.eq h_sk (SkR.trans pf_8 pf_28)
          have hf_205 : QfE (qCL (rB (Mf 1) (Mv 0)) ((Mv 8).toInt - 1).toNat sv_24 C) sv_174 := by
            have hr_206 : 1 ≤ ((Mv 8).toInt - 1).toNat ∧ ((Mv 8).toInt - 1).toNat < 40 := by
              have z_1 := congrArg Int32.toInt c_15
              have z_2 : ¬ (x_18 : Int32).toInt = (0 : Int32).toInt := fun z => c_19 (Int32.toInt_inj.mp z)
              have z_3 : ¬ (r_29 : Int32).toInt = (0 : Int32).toInt := fun z => c_35 (Int32.toInt_inj.mp z)
              have y_0 : (0 : Int32).toInt = 0 := by decide
              omega
            exact QfE.eq (qk_k1 (bws_1 (hq_202 ▸ hw_199) hw_203) hr_206) pf_198
          exact (QfE.eq (congrArg (fun z => qCL (rB (Mf 1) (Mv 0)) ((Mv 8).toInt - 1).toNat z C) hq_204.symm) hf_205)
        exact retI (v := r_178) hx hb hr hlk (nar01 hb_184) hP hD hS (sv_173, sv_174, sv_175, sv_176) ⟨_, rfl, hp_185, ha_183, hm_186, hm_197⟩ [0, 1, 2] rfl rfl dX12_bookLineHere_46 (Nat.le_of_ble_eq_true rfl) (Nat.le_of_ble_eq_true rfl) rfl
    · skip
      refine lv_aload_n hx hb dX12_bookLineHere_25 rfl (lv_at hl 0 rfl) ?_
      refine lv_iconst (v := 4) hx hb dX12_bookLineHere_26 (by decide) ?_
      refine lv_iload_n hx hb dX12_bookLineHere_27 rfl (lv_at hl 1 rfl) ?_
      have ha_207 : 0 ≤ (4 : Int32).toInt ∧ (4 : Int32).toInt ≤ 4 := by
        have z_1 := congrArg Int32.toInt c_15
        have z_2 := congrArg Int32.toInt c_19
        have y_0 : (0 : Int32).toInt = 0 := by decide
        have y_4 : (4 : Int32).toInt = 4 := by decide
        omega
      refine cV (a := (Ma 0)) (As := [.int 4, .int x1]) (rest := []) (wr := [((Ma 6), .inl (tc 0, 95, .inl (Mf 6))), ((Ma 1), .inl (tc 2, 400, .inl (Mf 1)))]) ⟨hx, hb, hml, hown, hts⟩ hK hX hA (cu_fX12_fails l D tc sk (Ma 0) (Ma 1) (Ma 2) (Ma 3) (Ma 4) (Ma 5) (Ma 6) (Ma 7) (Ma 8) (Ma 9) (Ma 10) (Ma 11) (Ma 12) (Ma 13) (Ma 14) (Ma 15) (Ma 16) (Ma 17) (Ma 18) (Ma 19) (Ma 20) (Mv 0) (Mv 1) sv_4 (Mv 3) (Mv 4) (Mv 5) (Mv 6) (Mv 7) (Mv 8) (Mv 9) (Mv 10) (Mv 11) (Mv 12) (Mv 13) (Mv 14) (Mj 0) 4 x1 ha_207 h_at h_w) k_1232 k_1229 k_1231 k_31 k_106 pl_X12_fails ⟨Nat.le_of_ble_eq_true rfl, Nat.le_of_ble_eq_true rfl⟩ rfl rfl (va_recv hK hP (ci := 12) (q0 := 1) rfl rfl) hP hD hS [1] [0, 2] rfl rfl rfl rfl rfl (by decide) rfl hl.1 rfl (Nat.le_of_ble_eq_true rfl) dX12_bookLineHere_28 ⟨Nat.le_of_ble_eq_true rfl, Nat.le_of_ble_eq_true rfl⟩ (fun v_208 u_209 H locs hv_210 hP₀ hD₀ hS₀ => ?_)
      obtain ⟨sv_211, rfl⟩ : ∃ z, z = u_209 := ⟨_, rfl⟩
      obtain ⟨r_214, rfl, he_215, pf_212, pf_213⟩ := hv_210
      have he_215 : r_214.toInt = 0 := he_215
      have pf_212 : ¬ (sv_211 : Int32).toInt = 0 := pf_212
      have pf_213 : (sv_211 : Int32).toInt = 1 + 8 * x1.toInt + (4 : Int32).toInt := pf_213
      refine W.eq (g2 := F0 m 31 ls [.int r_214]) rfl ?_
      replace hP : va_P D classes [((Ma 6), .inl (tc 0, 95, .inl (Mf 6))), ((Ma 1), .inl (tc 2, 400, .inl (Mf 1))), ((Ma 0), .inr (12, [.ref (Ma 1), .int (Mv 0), .int (Mv 1), .ref (Ma 2), .ref (Ma 3), .ref (Ma 4), .ref (Ma 5), .ref (Ma 6), .int sv_4, .int sv_211, .int (Mv 4), .int (Mv 5), .int (Mv 6), .int (Mv 7), .int (Mv 8), .ref (Ma 7), .int (Mv 9), .ref (Ma 8), .int (Mv 10), .ref (Ma 9), .ref (Ma 10), .int (Mv 11), .int (Mv 12), .int (Mv 13), .ref (Ma 11), .int (Mv 14), .ref (Ma 12), .ref (Ma 13), .ref (Ma 14), .ref (Ma 15), .ref (Ma 16), .long (Mj 0), .ref (Ma 17), .ref (Ma 18), .ref (Ma 19), .ref (Ma 20)]))] H := hP₀
      replace hD : va_D A [((Ma 6), .inl (tc 0, 95, .inl (Mf 6))), ((Ma 1), .inl (tc 2, 400, .inl (Mf 1))), ((Ma 0), .inr (12, [.ref (Ma 1), .int (Mv 0), .int (Mv 1), .ref (Ma 2), .ref (Ma 3), .ref (Ma 4), .ref (Ma 5), .ref (Ma 6), .int sv_4, .int sv_211, .int (Mv 4), .int (Mv 5), .int (Mv 6), .int (Mv 7), .int (Mv 8), .ref (Ma 7), .int (Mv 9), .ref (Ma 8), .int (Mv 10), .ref (Ma 9), .ref (Ma 10), .int (Mv 11), .int (Mv 12), .int (Mv 13), .ref (Ma 11), .int (Mv 14), .ref (Ma 12), .ref (Ma 13), .ref (Ma 14), .ref (Ma 15), .ref (Ma 16), .long (Mj 0), .ref (Ma 17), .ref (Ma 18), .ref (Ma 19), .ref (Ma 20)]))] := hD₀
      replace hS := hS₀
      clear hP₀ hD₀ hS₀
      have yf_217 : (4 : Int32).toInt = 4 := by decide
      have hb_218 : (r_214 : Int32).toInt = 0 ∨ (r_214 : Int32).toInt = 1 := by
        have z_1 := congrArg Int32.toInt c_15
        have z_2 := congrArg Int32.toInt c_19
        have y_0 : (0 : Int32).toInt = 0 := by decide
        omega
      have hp_219 : (((r_214 : Int32).toInt = 0 ∧ ¬ (sv_211 : Int32).toInt = 0) ∨ ((r_214 : Int32).toInt = 1 ∧ ((Mf 6) 0).toInt = 1 ∧ (sv_211 : Int32).toInt = 0)) := by
        have z_1 := congrArg Int32.toInt c_15
        have z_2 := congrArg Int32.toInt c_19
        have y_0 : (0 : Int32).toInt = 0 := by decide
        omega
      have hm_220 : (r_214 : Int32).toInt = 1 → (RdO (Mf 6)) ∧ (QfO (qCL (rB (Mf 1) (Mv 0)) ((Mv 8).toInt - 1).toNat (Mv 2) C) (rB (Mf 1) (Mv 0)) sv_211 sv_4 (Mf 6)) := by
        intro h1r
        exfalso
        have z_1 := congrArg Int32.toInt c_15
        have z_2 := congrArg Int32.toInt c_19
        have y_0 : (0 : Int32).toInt = 0 := by decide
        omega
      have hm_221 : (r_214 : Int32).toInt = 0 → (QfE (qCL (rB (Mf 1) (Mv 0)) ((Mv 8).toInt - 1).toNat (Mv 2) C) sv_211) := by
        intro h1r
        have hw_222 : ¬ pz_wd (rB (Mf 1) (Mv 0)) (sv_4 : Int32).toInt.toNat pz_book = true := by
          have hq := pf_16
          rw [show (1651470187 : Int64).toInt = pz_pl pz_book by decide] at hq
          exact fun z => hq ((PkW.wd (by decide) (by decide) (by decide)).mpr z)
        have hq_223 : sv_4 = (Mv 2) := SkR.eq h_sk pf_8
        have hf_224 : QfE (qCL (rB (Mf 1) (Mv 0)) ((Mv 8).toInt - 1).toNat sv_4 C) sv_211 := by
          have hk0 : ¬ pz_wa (rB (Mf 1) (Mv 0)) (sv_4 : Int32).toInt.toNat pz_bws 0 = 0 := bws_ne0 hw_222
          have hw0 : ¬ pz_wa (rB (Mf 1) (Mv 0)) (sv_4 : Int32).toInt.toNat pz_bws 0 = -1 := by
            rw [hq_223]
            exact h_wk
          have hr_225 : ((Mv 8).toInt - 1).toNat = 0 := by
            have z_1 := congrArg Int32.toInt c_15
            have z_2 := congrArg Int32.toInt c_19
            have y_0 : (0 : Int32).toInt = 0 := by decide
            omega
          have hr_226 : 0 ≤ (sv_4 : Int32).toInt := by
            have z_1 := congrArg Int32.toInt c_15
            have z_2 := congrArg Int32.toInt c_19
            have y_0 : (0 : Int32).toInt = 0 := by decide
            omega
          have hPn : (sv_4 : Int32).toInt = (Mv 2).toInt := by rw [hq_223]
          have hi_227 : (sv_211 : Int32).toInt = 1 + 8 * (sv_4 : Int32).toInt + 4 := by
            have z_1 := congrArg Int32.toInt c_15
            have z_2 := congrArg Int32.toInt c_19
            have y_0 : (0 : Int32).toInt = 0 := by decide
            omega
          exact qCL_bad (k := pz_wa (rB (Mf 1) (Mv 0)) (sv_4 : Int32).toInt.toNat pz_bws 0) rfl hw0 (Or.inr (Or.inl (fun z => hk0 (z.mpr hr_225)))) hr_226 hi_227
        exact (QfE.eq (congrArg (fun z => qCL (rB (Mf 1) (Mv 0)) ((Mv 8).toInt - 1).toNat z C) hq_223.symm) hf_224)
      exact retI (v := r_214) hx hb hr hlk (nar01 hb_218) hP hD hS (sv_4, sv_211, (Mv 4), (Mf 6)) ⟨_, rfl, hp_219, pf_5, hm_220, hm_221⟩ [2, 1, 0] rfl rfl dX12_bookLineHere_31 (Nat.le_of_ble_eq_true rfl) (Nat.le_of_ble_eq_true rfl) rfl
  · skip
    have hz_230 : (r_9 : Int32).toInt = 1 := by
      have z_1 : ¬ (r_9 : Int32).toInt = (0 : Int32).toInt := fun z => c_15 (Int32.toInt_inj.mp z)
      have y_0 : (0 : Int32).toInt = 0 := by decide
      omega
    obtain ⟨pf_228, pf_229⟩ := hm_12 hz_230
    have pf_228 : Ltr (Mf 1) (Mv 0) sv_4 := pf_228
    have ar_pf_228 := pf_228.1
    have at_pf_228 : 97 ≤ ((Mf 1) (sv_4 : Int32).toInt.toNat).toInt ∧ ((Mf 1) (sv_4 : Int32).toInt.toNat).toInt ≤ 122 := pf_228.2
    have pf_229 : PkW (rB (Mf 1) (Mv 0)) ((sv_4 : Int32).toInt.toNat) (1651470187 : Int64).toInt := pf_229
    refine lv_aload_n hx hb dX12_bookLineHere_10 rfl (lv_at hl 0 rfl) ?_
    refine lv_iload_n hx hb dX12_bookLineHere_11 rfl (lv_at hl 1 rfl) ?_
    have hr_231 : 0 ≤ (sv_4 : Int32).toInt := by
      have z_1 : ¬ (r_9 : Int32).toInt = (0 : Int32).toInt := fun z => c_15 (Int32.toInt_inj.mp z)
      have y_0 : (0 : Int32).toInt = 0 := by decide
      omega
    have rg_232 := rB_rg (n := (Mv 0)) h_bs (sv_4 : Int32).toInt.toNat
    have hl_233 : 97 ≤ rB (Mf 1) (Mv 0) (sv_4 : Int32).toInt.toNat ∧ rB (Mf 1) (Mv 0) (sv_4 : Int32).toInt.toNat ≤ 122 := by
      have z_1 : ¬ (r_9 : Int32).toInt = (0 : Int32).toInt := fun z => c_15 (Int32.toInt_inj.mp z)
      have y_0 : (0 : Int32).toInt = 0 := by decide
      omega
    have ha_234 : 0 ≤ (sv_4 : Int32).toInt ∧ (sv_4 : Int32).toInt ≤ ((Mv 0) : Int32).toInt ∧ ((Mv 0) : Int32).toInt ≤ 400 := by
      have z_1 : ¬ (r_9 : Int32).toInt = (0 : Int32).toInt := fun z => c_15 (Int32.toInt_inj.mp z)
      have y_0 : (0 : Int32).toInt = 0 := by decide
      omega
    refine cV (a := (Ma 0)) (As := [.int x1]) (rest := []) (wr := []) ⟨hx, hb, hml, hown, hts⟩ hK hX hA (cu_zX12_isBookHere l D tc sk (Ma 0) (Ma 1) (Ma 2) (Ma 3) (Ma 4) (Ma 5) (Ma 6) (Ma 7) (Ma 8) (Ma 9) (Ma 10) (Ma 11) (Ma 12) (Ma 13) (Ma 14) (Ma 15) (Ma 16) (Ma 17) (Ma 18) (Ma 19) (Ma 20) (Mv 0) (Mv 1) sv_4 (Mv 3) (Mv 4) (Mv 5) (Mv 6) (Mv 7) (Mv 8) (Mv 9) (Mv 10) (Mv 11) (Mv 12) (Mv 13) (Mv 14) (Mf 1) (Mf 6) (Mj 0) x1 C ha_234 h_at h_ro h_bs h_w (⟨hr_231, hl_233⟩) h_e) k_1240 k_1237 k_1239 k_33 k_106 pl_X12_isBookHere ⟨Nat.le_of_ble_eq_true rfl, Nat.le_of_ble_eq_true rfl⟩ rfl rfl (va_recv hK hP (ci := 12) (q0 := 1) rfl rfl) hP hD hS [1, 2, 0] [] rfl rfl rfl rfl rfl (by decide) rfl hl.1 rfl (Nat.le_of_ble_eq_true rfl) dX12_bookLineHere_12 ⟨Nat.le_of_ble_eq_true rfl, Nat.le_of_ble_eq_true rfl⟩ (fun v_235 u_236 H locs hv_237 hP₀ hD₀ hS₀ => ?_)
    obtain ⟨sv_238, sv_239, sv_240, sv_241⟩ := u_236
    obtain ⟨r_243, rfl, he_244, pf_242, hm_246, hm_247⟩ := hv_237
    have he_244 : ((r_243.toInt = 0 ∧ ¬ (sv_239 : Int32).toInt = 0) ∨ (r_243.toInt = 1 ∧ (sv_241 0).toInt = 1 ∧ (sv_239 : Int32).toInt = 0 ∧ ((Mf 6) 0).toInt ≤ 0)) := he_244
    have pf_242 : (sv_4 : Int32).toInt ≤ (sv_238 : Int32).toInt ∧ (sv_238 : Int32).toInt ≤ ((Mv 0) : Int32).toInt := pf_242
    refine W.eq (g2 := F0 m 15 ls [.int r_243]) rfl ?_
    replace hP : va_P D classes [((Ma 0), .inr (12, [.ref (Ma 1), .int (Mv 0), .int (Mv 1), .ref (Ma 2), .ref (Ma 3), .ref (Ma 4), .ref (Ma 5), .ref (Ma 6), .int sv_238, .int sv_239, .int sv_240, .int (Mv 5), .int (Mv 6), .int (Mv 7), .int (Mv 8), .ref (Ma 7), .int (Mv 9), .ref (Ma 8), .int (Mv 10), .ref (Ma 9), .ref (Ma 10), .int (Mv 11), .int (Mv 12), .int (Mv 13), .ref (Ma 11), .int (Mv 14), .ref (Ma 12), .ref (Ma 13), .ref (Ma 14), .ref (Ma 15), .ref (Ma 16), .long (Mj 0), .ref (Ma 17), .ref (Ma 18), .ref (Ma 19), .ref (Ma 20)])), ((Ma 1), .inl (tc 2, 400, .inl (Mf 1))), ((Ma 6), .inl (tc 0, 95, .inl sv_241))] H := hP₀
    replace hD : va_D A [((Ma 0), .inr (12, [.ref (Ma 1), .int (Mv 0), .int (Mv 1), .ref (Ma 2), .ref (Ma 3), .ref (Ma 4), .ref (Ma 5), .ref (Ma 6), .int sv_238, .int sv_239, .int sv_240, .int (Mv 5), .int (Mv 6), .int (Mv 7), .int (Mv 8), .ref (Ma 7), .int (Mv 9), .ref (Ma 8), .int (Mv 10), .ref (Ma 9), .ref (Ma 10), .int (Mv 11), .int (Mv 12), .int (Mv 13), .ref (Ma 11), .int (Mv 14), .ref (Ma 12), .ref (Ma 13), .ref (Ma 14), .ref (Ma 15), .ref (Ma 16), .long (Mj 0), .ref (Ma 17), .ref (Ma 18), .ref (Ma 19), .ref (Ma 20)])), ((Ma 1), .inl (tc 2, 400, .inl (Mf 1))), ((Ma 6), .inl (tc 0, 95, .inl sv_241))] := hD₀
    replace hS := hS₀
    clear hP₀ hD₀ hS₀
    have ha_248 : ((Mv 2) : Int32).toInt ≤ (sv_238 : Int32).toInt ∧ (sv_238 : Int32).toInt ≤ ((Mv 0) : Int32).toInt := by
      have z_1 : ¬ (r_9 : Int32).toInt = (0 : Int32).toInt := fun z => c_15 (Int32.toInt_inj.mp z)
      have y_0 : (0 : Int32).toInt = 0 := by decide
      omega
    have hb_249 : (r_243 : Int32).toInt = 0 ∨ (r_243 : Int32).toInt = 1 := by
      have z_1 : ¬ (r_9 : Int32).toInt = (0 : Int32).toInt := fun z => c_15 (Int32.toInt_inj.mp z)
      have y_0 : (0 : Int32).toInt = 0 := by decide
      omega
    have hp_250 : (((r_243 : Int32).toInt = 0 ∧ ¬ (sv_239 : Int32).toInt = 0) ∨ ((r_243 : Int32).toInt = 1 ∧ (sv_241 0).toInt = 1 ∧ (sv_239 : Int32).toInt = 0)) := by
      have z_1 : ¬ (r_9 : Int32).toInt = (0 : Int32).toInt := fun z => c_15 (Int32.toInt_inj.mp z)
      have y_0 : (0 : Int32).toInt = 0 := by decide
      omega
    have hm_251 : (r_243 : Int32).toInt = 1 → (RdO sv_241) ∧ (QfO (qCL (rB (Mf 1) (Mv 0)) ((Mv 8).toInt - 1).toNat (Mv 2) C) (rB (Mf 1) (Mv 0)) sv_239 sv_238 sv_241) := by
      intro h1r
      obtain ⟨pf_252, pf_253⟩ := hm_246 h1r
      have pf_252 : RdO sv_241 := pf_252
      have ar_pf_252 := RdO.ar pf_252
      have pf_253 : QfO (qz_k0 (rB (Mf 1) (Mv 0)) C (pNX (rB (Mf 1) (Mv 0)) sv_4)) (rB (Mf 1) (Mv 0)) sv_239 sv_238 sv_241 := pf_253
      have ar_pf_253 := pf_253.choose_spec.2.1
      have hw_254 : pz_wd (rB (Mf 1) (Mv 0)) (sv_4 : Int32).toInt.toNat pz_book = true := by
        have hq := pf_229
        rw [show (1651470187 : Int64).toInt = pz_pl pz_book by decide] at hq
        exact (PkW.wd (by decide) (by decide) (by decide)).mp hq
      have hq_255 : sv_4 = (Mv 2) := SkR.eq h_sk pf_8
      have hf_256 : QfO (qCL (rB (Mf 1) (Mv 0)) ((Mv 8).toInt - 1).toNat sv_4 C) (rB (Mf 1) (Mv 0)) sv_239 sv_238 sv_241 := by
        have hr_257 : ((Mv 8).toInt - 1).toNat = 0 := by
          have z_1 : ¬ (r_9 : Int32).toInt = (0 : Int32).toInt := fun z => c_15 (Int32.toInt_inj.mp z)
          have y_0 : (0 : Int32).toInt = 0 := by decide
          omega
        exact QfO.eq (qk_k0 (bws_0 hw_254) hr_257) pf_253
      exact ⟨pf_252, (QfO.eq (congrArg (fun z => qCL (rB (Mf 1) (Mv 0)) ((Mv 8).toInt - 1).toNat z C) hq_255.symm) hf_256)⟩
    have hm_258 : (r_243 : Int32).toInt = 0 → (QfE (qCL (rB (Mf 1) (Mv 0)) ((Mv 8).toInt - 1).toNat (Mv 2) C) sv_239) := by
      intro h1r
      obtain pf_259 := hm_247 h1r
      have pf_259 : QoE (rB (Mf 1) (Mv 0)) C sv_4 ((Mf 6) 0) x1 sv_239 := pf_259
      have hw_260 : pz_wd (rB (Mf 1) (Mv 0)) (sv_4 : Int32).toInt.toNat pz_book = true := by
        have hq := pf_229
        rw [show (1651470187 : Int64).toInt = pz_pl pz_book by decide] at hq
        exact (PkW.wd (by decide) (by decide) (by decide)).mp hq
      have hq_261 : sv_4 = (Mv 2) := SkR.eq h_sk pf_8
      have hf_262 : QfE (qCL (rB (Mf 1) (Mv 0)) ((Mv 8).toInt - 1).toNat sv_4 C) sv_239 := by
        have hPn : (sv_4 : Int32).toInt = (Mv 2).toInt := by rw [hq_261]
        rcases pf_259 with ⟨hz, hw2⟩ | ⟨hz, hw2⟩
        · skip
          have hl0 : ¬ ((Mv 8).toInt - 1).toNat = 0 := by omega
          exact qCL_bad (bws_0 hw_260) (by decide) (Or.inr (Or.inl (fun z => hl0 (z.mp rfl)))) (by omega) (by omega)
        · skip
          have hl0 : ((Mv 8).toInt - 1).toNat = 0 := by omega
          exact QfE.eq (qk_k0 (bws_0 hw_260) hl0) hw2
      exact (QfE.eq (congrArg (fun z => qCL (rB (Mf 1) (Mv 0)) ((Mv 8).toInt - 1).toNat z C) hq_261.symm) hf_262)
    exact retI (v := r_243) hx hb hr hlk (nar01 hb_249) hP hD hS (sv_238, sv_239, sv_240, sv_241) ⟨_, rfl, hp_250, ha_248, hm_251, hm_258⟩ [0, 1, 2] rfl rfl dX12_bookLineHere_15 (Nat.le_of_ble_eq_true rfl) (Nat.le_of_ble_eq_true rfl) rfl
set_option maxRecDepth 100000 in
theorem cu_zX12_bookLineHere (l : Launch) (D : va_G) (tc : Nat → ClassId) (sk : (Nat → Nat) × (Nat → Nat)) (Ma_0 : Nat) (Ma_1 : Nat) (Ma_2 : Nat) (Ma_3 : Nat) (Ma_4 : Nat) (Ma_5 : Nat) (Ma_6 : Nat) (Ma_7 : Nat) (Ma_8 : Nat) (Ma_9 : Nat) (Ma_10 : Nat) (Ma_11 : Nat) (Ma_12 : Nat) (Ma_13 : Nat) (Ma_14 : Nat) (Ma_15 : Nat) (Ma_16 : Nat) (Ma_17 : Nat) (Ma_18 : Nat) (Ma_19 : Nat) (Ma_20 : Nat) (Mv_0 : Int32) (Mv_1 : Int32) (Mv_2 : Int32) (Mv_3 : Int32) (Mv_4 : Int32) (Mv_5 : Int32) (Mv_6 : Int32) (Mv_7 : Int32) (Mv_8 : Int32) (Mv_9 : Int32) (Mv_10 : Int32) (Mv_11 : Int32) (Mv_12 : Int32) (Mv_13 : Int32) (Mv_14 : Int32) (Mf_1 : Nat → Int32) (Mf_6 : Nat → Int32) (Mj_0 : Int64) (x1 : Int32) (C : Nat → Int) (h_nx : 0 ≤ (Mv_2 : Int32).toInt ∧ (Mv_2 : Int32).toInt ≤ (Mv_0 : Int32).toInt ∧ (Mv_0 : Int32).toInt ≤ 400) (h_at : 0 ≤ x1.toInt ∧ x1.toInt ≤ 400) (h_ro : RdO Mf_6) (h_bs : ByS Mf_1) (h_w : (Mv_3 : Int32).toInt = 0) (h_sk : SkR (rB Mf_1 Mv_0) Mv_2 Mv_2) (h_lt : LtH (rB Mf_1 Mv_0) Mv_2) (h_wk : BkN (rB Mf_1 Mv_0) Mv_2) (h_r0 : (((Mf_6 0).toInt = 0 ∧ Mv_8.toInt = 1) ∨ ((Mf_6 0).toInt = 1 ∧ 2 ≤ Mv_8.toInt ∧ Mv_8.toInt ≤ 40))) (h_at2 : x1.toInt = Mv_2.toInt) (h_e : RdE Mf_6 C) : Ct l yX12_bookLineHere cX12_bookLineHere 2 (some .boolean) { frames := 4, cells := 0, slots := 0, locals := 94 } D tc sk [.ref Ma_0, .int x1] [(Ma_0, .inr (12, [.ref Ma_1, .int Mv_0, .int Mv_1, .ref Ma_2, .ref Ma_3, .ref Ma_4, .ref Ma_5, .ref Ma_6, .int Mv_2, .int Mv_3, .int Mv_4, .int Mv_5, .int Mv_6, .int Mv_7, .int Mv_8, .ref Ma_7, .int Mv_9, .ref Ma_8, .int Mv_10, .ref Ma_9, .ref Ma_10, .int Mv_11, .int Mv_12, .int Mv_13, .ref Ma_11, .int Mv_14, .ref Ma_12, .ref Ma_13, .ref Ma_14, .ref Ma_15, .ref Ma_16, .long Mj_0, .ref Ma_17, .ref Ma_18, .ref Ma_19, .ref Ma_20])), (Ma_1, .inl (tc 2, 400, .inl Mf_1)), (Ma_6, .inl (tc 0, 95, .inl Mf_6))] (fun (v : Option Value) (u : (Int32) × (Int32) × (Int32) × (Nat → Int32)) => match u with | (oo0x1, oo0x2, oo0x3, oo0x4) => ∃ r : Int32, v = some (.int r) ∧ (((r.toInt = 0 ∧ ¬ (oo0x2 : Int32).toInt = 0) ∨ (r.toInt = 1 ∧ (oo0x4 0).toInt = 1 ∧ (oo0x2 : Int32).toInt = 0))) ∧ ((Mv_2 : Int32).toInt ≤ (oo0x1 : Int32).toInt ∧ (oo0x1 : Int32).toInt ≤ (Mv_0 : Int32).toInt) ∧ (r.toInt = 1 → (RdO oo0x4) ∧ (QfO (qCL (rB Mf_1 Mv_0) (Mv_8.toInt - 1).toNat Mv_2 C) (rB Mf_1 Mv_0) oo0x2 oo0x1 oo0x4)) ∧ (r.toInt = 0 → (QfE (qCL (rB Mf_1 Mv_0) (Mv_8.toInt - 1).toNat Mv_2 C) oo0x2))) (fun (u : (Int32) × (Int32) × (Int32) × (Nat → Int32)) => match u with | (oo0x1, oo0x2, oo0x3, oo0x4) => [(Ma_0, .inr (12, [.ref Ma_1, .int Mv_0, .int Mv_1, .ref Ma_2, .ref Ma_3, .ref Ma_4, .ref Ma_5, .ref Ma_6, .int oo0x1, .int oo0x2, .int oo0x3, .int Mv_5, .int Mv_6, .int Mv_7, .int Mv_8, .ref Ma_7, .int Mv_9, .ref Ma_8, .int Mv_10, .ref Ma_9, .ref Ma_10, .int Mv_11, .int Mv_12, .int Mv_13, .ref Ma_11, .int Mv_14, .ref Ma_12, .ref Ma_13, .ref Ma_14, .ref Ma_15, .ref Ma_16, .long Mj_0, .ref Ma_17, .ref Ma_18, .ref Ma_19, .ref Ma_20])), (Ma_1, .inl (tc 2, 400, .inl Mf_1)), (Ma_6, .inl (tc 0, 95, .inl oo0x4))]) 0 0 :=
  ct_zX12_bookLineHere l D tc sk (fun k => ([Ma_0, Ma_1, Ma_2, Ma_3, Ma_4, Ma_5, Ma_6, Ma_7, Ma_8, Ma_9, Ma_10, Ma_11, Ma_12, Ma_13, Ma_14, Ma_15, Ma_16, Ma_17, Ma_18, Ma_19, Ma_20] : List (Nat)).getD k 0) (fun k => ([Mv_0, Mv_1, Mv_2, Mv_3, Mv_4, Mv_5, Mv_6, Mv_7, Mv_8, Mv_9, Mv_10, Mv_11, Mv_12, Mv_13, Mv_14] : List (Int32)).getD k 0) (fun k => ([(fun _ => 0), Mf_1, (fun _ => 0), (fun _ => 0), (fun _ => 0), (fun _ => 0), Mf_6] : List (Nat → Int32)).getD k (fun _ => 0)) (fun k => ([Mj_0] : List (Int64)).getD k 0) x1 C h_nx h_at h_ro h_bs h_w h_sk h_lt h_wk h_r0 h_at2 h_e
set_option maxHeartbeats 4000000 in
set_option maxRecDepth 100000 in
theorem ct_zX12_clauseHere_b (l : Launch) (D : va_G) (tc : Nat → ClassId) (sk : (Nat → Nat) × (Nat → Nat)) (Ma : Nat → Nat) (Mv : Nat → Int32) (Mf : Nat → Nat → Int32) (Mj : Nat → Int64) (C : Nat → Int) (h_nx : 0 ≤ ((Mv 2) : Int32).toInt ∧ ((Mv 2) : Int32).toInt ≤ ((Mv 0) : Int32).toInt ∧ ((Mv 0) : Int32).toInt ≤ 400) (h_ro : RdO (Mf 6)) (h_bs : ByS (Mf 1)) (h_w : ((Mv 3) : Int32).toInt = 0) (h_r0 : ((((Mf 6) 0).toInt = 0 ∧ (Mv 8).toInt = 0) ∨ (((Mf 6) 0).toInt = 1 ∧ 1 ≤ (Mv 8).toInt ∧ (Mv 8).toInt ≤ 40))) (h_e : RdE (Mf 6) C) : Ct l yX12_clauseHere cX12_clauseHere 3 (some .boolean) { frames := 5, cells := 0, slots := 0, locals := 115 } D tc sk [.ref (Ma 0)] [((Ma 0), .inr (12, [.ref (Ma 1), .int (Mv 0), .int (Mv 1), .ref (Ma 2), .ref (Ma 3), .ref (Ma 4), .ref (Ma 5), .ref (Ma 6), .int (Mv 2), .int (Mv 3), .int (Mv 4), .int 6, .int (Mv 6), .int (Mv 7), .int (Mv 8), .ref (Ma 7), .int (Mv 9), .ref (Ma 8), .int (Mv 10), .ref (Ma 9), .ref (Ma 10), .int (Mv 11), .int (Mv 12), .int (Mv 13), .ref (Ma 11), .int (Mv 14), .ref (Ma 12), .ref (Ma 13), .ref (Ma 14), .ref (Ma 15), .ref (Ma 16), .long (Mj 0), .ref (Ma 17), .ref (Ma 18), .ref (Ma 19), .ref (Ma 20)])), ((Ma 1), .inl (tc 2, 400, .inl (Mf 1))), ((Ma 3), .inl (tc 0, 7, .inl (Mf 3))), ((Ma 6), .inl (tc 0, 95, .inl (Mf 6)))] (fun (v : Option Value) (u : (Int32) × (Int32) × (Int32) × (Int32) × (Nat → Int32)) => match u with | (oo0x1, oo0x2, oo0x3, oo0x4, oo0x5) => ∃ r : Int32, v = some (.int r) ∧ (((r.toInt = 0 ∧ ¬ (oo0x2 : Int32).toInt = 0) ∨ (r.toInt = 1 ∧ (oo0x5 0).toInt = 1 ∧ (oo0x2 : Int32).toInt = 0 ∧ (oo0x4 : Int32).toInt = (Mv 8).toInt + 1 ∧ (oo0x4 : Int32).toInt ≤ 40))) ∧ (((Mv 2) : Int32).toInt ≤ (oo0x1 : Int32).toInt ∧ (oo0x1 : Int32).toInt ≤ ((Mv 0) : Int32).toInt) ∧ (r.toInt = 1 → (RdO oo0x5) ∧ (QfO (qCLs (rB (Mf 1) (Mv 0)) (Mv 8).toInt.toNat (Mv 2) C) (rB (Mf 1) (Mv 0)) oo0x2 oo0x1 oo0x5)) ∧ (r.toInt = 0 → (QfE (qCLs (rB (Mf 1) (Mv 0)) (Mv 8).toInt.toNat (Mv 2) C) oo0x2))) (fun (u : (Int32) × (Int32) × (Int32) × (Int32) × (Nat → Int32)) => match u with | (oo0x1, oo0x2, oo0x3, oo0x4, oo0x5) => [((Ma 0), .inr (12, [.ref (Ma 1), .int (Mv 0), .int (Mv 1), .ref (Ma 2), .ref (Ma 3), .ref (Ma 4), .ref (Ma 5), .ref (Ma 6), .int oo0x1, .int oo0x2, .int oo0x3, .int 6, .int (Mv 6), .int (Mv 7), .int oo0x4, .ref (Ma 7), .int (Mv 9), .ref (Ma 8), .int (Mv 10), .ref (Ma 9), .ref (Ma 10), .int (Mv 11), .int (Mv 12), .int (Mv 13), .ref (Ma 11), .int (Mv 14), .ref (Ma 12), .ref (Ma 13), .ref (Ma 14), .ref (Ma 15), .ref (Ma 16), .long (Mj 0), .ref (Ma 17), .ref (Ma 18), .ref (Ma 19), .ref (Ma 20)])), ((Ma 1), .inl (tc 2, 400, .inl (Mf 1))), ((Ma 3), .inl (tc 0, 7, .inl (Mf 3))), ((Ma 6), .inl (tc 0, 95, .inl oo0x5))]) 0 0 := by
  refine Ct.start (by decide) (Nat.le_of_ble_eq_true rfl) (fun p e s m below meth c A ls hx hb hr hlk hin hml hown hts hK hX hP hD hA hl hS => ?_)
  have hl : lv_has ls 3 [(0, .ref (Ma 0))] := hl
  have ar_h_ro := RdO.ar h_ro
  refine lv_aload_n hx hb dX12_clauseHere_0 rfl (lv_at hl 0 rfl) ?_
  refine cV (a := (Ma 0)) (As := []) (rest := []) (wr := [((Ma 3), .inl (tc 0, 7, .inl (Mf 3))), ((Ma 6), .inl (tc 0, 95, .inl (Mf 6)))]) ⟨hx, hb, hml, hown, hts⟩ hK hX hA (cu_fX12_see l D tc sk (Ma 0) (Ma 1) (Ma 2) (Ma 3) (Ma 4) (Ma 5) (Ma 6) (Ma 7) (Ma 8) (Ma 9) (Ma 10) (Ma 11) (Ma 12) (Ma 13) (Ma 14) (Ma 15) (Ma 16) (Ma 17) (Ma 18) (Ma 19) (Ma 20) (Mv 0) (Mv 1) (Mv 2) (Mv 3) (Mv 4) 6 (Mv 6) (Mv 7) (Mv 8) (Mv 9) (Mv 10) (Mv 11) (Mv 12) (Mv 13) (Mv 14) (Mf 1) (Mj 0) h_nx h_bs) k_1211 k_1208 k_1210 k_27 k_106 pl_X12_see ⟨Nat.le_of_ble_eq_true rfl, Nat.le_of_ble_eq_true rfl⟩ rfl rfl (va_recv hK hP (ci := 12) (q0 := 0) rfl rfl) hP hD hS [0, 1] [2, 3] rfl rfl rfl rfl rfl (by decide) rfl hl.1 rfl (Nat.le_of_ble_eq_true rfl) dX12_clauseHere_1 ⟨Nat.le_of_ble_eq_true rfl, Nat.le_of_ble_eq_true rfl⟩ (fun v_1 u_2 H locs hv_3 hP₀ hD₀ hS₀ => ?_)
  obtain ⟨sv_4, rfl⟩ : ∃ z, z = u_2 := ⟨_, rfl⟩
  obtain ⟨r_9, rfl, he_10, pf_5, pf_6, pf_7, pf_8⟩ := hv_3
  have he_10 : (r_9.toInt = rB (Mf 1) (Mv 0) (sv_4 : Int32).toInt.toNat ∧ (r_9.toInt = -1 ∨ (sv_4 : Int32).toInt < (Mv 0).toInt)) := he_10
  have pf_5 : ((Mv 2) : Int32).toInt ≤ (sv_4 : Int32).toInt ∧ (sv_4 : Int32).toInt ≤ ((Mv 0) : Int32).toInt := pf_5
  have pf_6 : NSq (Mf 1) (Mv 0) sv_4 := pf_6
  have pf_7 : Stl (Mf 1) (Mv 0) (Mv 2) sv_4 := pf_7
  have pf_8 : SkR (rB (Mf 1) (Mv 0)) (Mv 2) sv_4 := pf_8
  refine W.eq (g2 := F0 m 4 ls [.int r_9]) rfl ?_
  replace hP : va_P D classes [((Ma 3), .inl (tc 0, 7, .inl (Mf 3))), ((Ma 6), .inl (tc 0, 95, .inl (Mf 6))), ((Ma 0), .inr (12, [.ref (Ma 1), .int (Mv 0), .int (Mv 1), .ref (Ma 2), .ref (Ma 3), .ref (Ma 4), .ref (Ma 5), .ref (Ma 6), .int sv_4, .int (Mv 3), .int (Mv 4), .int 6, .int (Mv 6), .int (Mv 7), .int (Mv 8), .ref (Ma 7), .int (Mv 9), .ref (Ma 8), .int (Mv 10), .ref (Ma 9), .ref (Ma 10), .int (Mv 11), .int (Mv 12), .int (Mv 13), .ref (Ma 11), .int (Mv 14), .ref (Ma 12), .ref (Ma 13), .ref (Ma 14), .ref (Ma 15), .ref (Ma 16), .long (Mj 0), .ref (Ma 17), .ref (Ma 18), .ref (Ma 19), .ref (Ma 20)])), ((Ma 1), .inl (tc 2, 400, .inl (Mf 1)))] H := hP₀
  replace hD : va_D A [((Ma 3), .inl (tc 0, 7, .inl (Mf 3))), ((Ma 6), .inl (tc 0, 95, .inl (Mf 6))), ((Ma 0), .inr (12, [.ref (Ma 1), .int (Mv 0), .int (Mv 1), .ref (Ma 2), .ref (Ma 3), .ref (Ma 4), .ref (Ma 5), .ref (Ma 6), .int sv_4, .int (Mv 3), .int (Mv 4), .int 6, .int (Mv 6), .int (Mv 7), .int (Mv 8), .ref (Ma 7), .int (Mv 9), .ref (Ma 8), .int (Mv 10), .ref (Ma 9), .ref (Ma 10), .int (Mv 11), .int (Mv 12), .int (Mv 13), .ref (Ma 11), .int (Mv 14), .ref (Ma 12), .ref (Ma 13), .ref (Ma 14), .ref (Ma 15), .ref (Ma 16), .long (Mj 0), .ref (Ma 17), .ref (Ma 18), .ref (Ma 19), .ref (Ma 20)])), ((Ma 1), .inl (tc 2, 400, .inl (Mf 1)))] := hD₀
  replace hS := hS₀
  clear hP₀ hD₀ hS₀
  refine lv_pop hx hb dX12_clauseHere_4 rfl ?_
  refine lv_aload_n hx hb dX12_clauseHere_5 rfl (lv_at hl 0 rfl) ?_
  refine gf_X12_87 hx hb hts hown hK hP 2 rfl rfl dX12_clauseHere_6 ?_
  refine lv_istore_n (lv' := [(1, .int sv_4), (0, .ref (Ma 0))]) hx hb dX12_clauseHere_9 rfl hl (by decide) rfl (fun ls hl₀ => ?_)
  replace hl := hl₀
  clear hl₀
  refine lv_aload_n hx hb dX12_clauseHere_10 rfl (lv_at hl 1 rfl) ?_
  refine gf_X12_145 hx hb hts hown hK hP 2 rfl rfl dX12_clauseHere_11 ?_
  refine lv_bipush (v := 6) hx hb dX12_clauseHere_14 (by decide) ?_
  refine lv_icmp_ne (tgt := 23) hx hb dX12_clauseHere_16 (by decide) (fun c_12 => absurd c_12 (by decide)) (fun c_12 => ?_)
  refine lv_iconst (v := 1) hx hb dX12_clauseHere_19 (by decide) ?_
  refine lv_goto (tgt := 24) hx hb dX12_clauseHere_20 (by decide) ?_
  refine lv_istore_n (lv' := [(2, .int 1), (1, .int sv_4), (0, .ref (Ma 0))]) hx hb dX12_clauseHere_24 rfl hl (by decide) rfl (fun ls hl₀ => ?_)
  replace hl := hl₀
  clear hl₀
  refine lv_iload_n hx hb dX12_clauseHere_25 rfl (lv_at hl 0 rfl) ?_
  refine lv_if_eq (tgt := 39) hx hb dX12_clauseHere_26 (by decide) (fun c_13 => absurd c_13 (by decide)) (fun c_13 => ?_)
  refine lv_aload_n hx hb dX12_clauseHere_29 rfl (lv_at hl 2 rfl) ?_
  have ha_14 : 0 ≤ (sv_4 : Int32).toInt ∧ (sv_4 : Int32).toInt ≤ ((Mv 0) : Int32).toInt ∧ ((Mv 0) : Int32).toInt ≤ 400 := by
    omega
  refine cV (a := (Ma 0)) (As := []) (rest := []) (wr := [((Ma 3), .inl (tc 0, 7, .inl (Mf 3))), ((Ma 6), .inl (tc 0, 95, .inl (Mf 6)))]) ⟨hx, hb, hml, hown, hts⟩ hK hX hA (cu_fX12_isBookWord l D tc sk (Ma 0) (Ma 1) (Ma 2) (Ma 3) (Ma 4) (Ma 5) (Ma 6) (Ma 7) (Ma 8) (Ma 9) (Ma 10) (Ma 11) (Ma 12) (Ma 13) (Ma 14) (Ma 15) (Ma 16) (Ma 17) (Ma 18) (Ma 19) (Ma 20) (Mv 0) (Mv 1) sv_4 (Mv 3) (Mv 4) 6 (Mv 6) (Mv 7) (Mv 8) (Mv 9) (Mv 10) (Mv 11) (Mv 12) (Mv 13) (Mv 14) (Mf 1) (Mj 0) ha_14 h_bs (SkR.self pf_8)) k_1215 k_1212 k_1214 k_28 k_106 pl_X12_isBookWord ⟨Nat.le_of_ble_eq_true rfl, Nat.le_of_ble_eq_true rfl⟩ rfl rfl (va_recv hK hP (ci := 12) (q0 := 2) rfl rfl) hP hD hS [2, 3] [0, 1] rfl rfl rfl rfl rfl (by decide) rfl hl.1 rfl (Nat.le_of_ble_eq_true rfl) dX12_clauseHere_30 ⟨Nat.le_of_ble_eq_true rfl, Nat.le_of_ble_eq_true rfl⟩ (fun v_15 u_16 H locs hv_17 hP₀ hD₀ hS₀ => ?_)
  obtain ⟨sv_18, rfl⟩ : ∃ z, z = u_16 := ⟨_, rfl⟩
  obtain ⟨r_21, rfl, he_22, pf_19, pf_20, hm_24, hm_25⟩ := hv_17
  have he_22 : (r_21.toInt = 0 ∨ r_21.toInt = 1) := he_22
  have pf_19 : (sv_4 : Int32).toInt ≤ (sv_18 : Int32).toInt ∧ (sv_18 : Int32).toInt ≤ ((Mv 0) : Int32).toInt := pf_19
  have pf_20 : SkR (rB (Mf 1) (Mv 0)) sv_4 sv_18 := pf_20
  refine W.eq (g2 := F0 m 33 ls [.int r_21]) rfl ?_
  replace hP : va_P D classes [((Ma 3), .inl (tc 0, 7, .inl (Mf 3))), ((Ma 6), .inl (tc 0, 95, .inl (Mf 6))), ((Ma 0), .inr (12, [.ref (Ma 1), .int (Mv 0), .int (Mv 1), .ref (Ma 2), .ref (Ma 3), .ref (Ma 4), .ref (Ma 5), .ref (Ma 6), .int sv_18, .int (Mv 3), .int (Mv 4), .int 6, .int (Mv 6), .int (Mv 7), .int (Mv 8), .ref (Ma 7), .int (Mv 9), .ref (Ma 8), .int (Mv 10), .ref (Ma 9), .ref (Ma 10), .int (Mv 11), .int (Mv 12), .int (Mv 13), .ref (Ma 11), .int (Mv 14), .ref (Ma 12), .ref (Ma 13), .ref (Ma 14), .ref (Ma 15), .ref (Ma 16), .long (Mj 0), .ref (Ma 17), .ref (Ma 18), .ref (Ma 19), .ref (Ma 20)])), ((Ma 1), .inl (tc 2, 400, .inl (Mf 1)))] H := hP₀
  replace hD : va_D A [((Ma 3), .inl (tc 0, 7, .inl (Mf 3))), ((Ma 6), .inl (tc 0, 95, .inl (Mf 6))), ((Ma 0), .inr (12, [.ref (Ma 1), .int (Mv 0), .int (Mv 1), .ref (Ma 2), .ref (Ma 3), .ref (Ma 4), .ref (Ma 5), .ref (Ma 6), .int sv_18, .int (Mv 3), .int (Mv 4), .int 6, .int (Mv 6), .int (Mv 7), .int (Mv 8), .ref (Ma 7), .int (Mv 9), .ref (Ma 8), .int (Mv 10), .ref (Ma 9), .ref (Ma 10), .int (Mv 11), .int (Mv 12), .int (Mv 13), .ref (Ma 11), .int (Mv 14), .ref (Ma 12), .ref (Ma 13), .ref (Ma 14), .ref (Ma 15), .ref (Ma 16), .long (Mj 0), .ref (Ma 17), .ref (Ma 18), .ref (Ma 19), .ref (Ma 20)])), ((Ma 1), .inl (tc 2, 400, .inl (Mf 1)))] := hD₀
  replace hS := hS₀
  clear hP₀ hD₀ hS₀
  have hE_26 := SkR.eqB pf_8 pf_20
  refine lv_if_ne (tgt := 56) hx hb dX12_clauseHere_33 (by decide) (fun c_27 => ?_) (fun c_27 => ?_)
  · skip
    have hz_30 : (r_21 : Int32).toInt = 1 := by
      have z_1 : ¬ (r_21 : Int32).toInt = (0 : Int32).toInt := fun z => c_27 (Int32.toInt_inj.mp z)
      have y_0 : (0 : Int32).toInt = 0 := by decide
      omega
    obtain ⟨pf_28, pf_29⟩ := hm_24 hz_30
    have pf_28 : BkN (rB (Mf 1) (Mv 0)) sv_4 := pf_28
    have pf_29 : LtH (rB (Mf 1) (Mv 0)) sv_4 := pf_29
    have ar_pf_29 := pf_29.1
    refine lv_aload_n hx hb dX12_clauseHere_56 rfl (lv_at hl 2 rfl) ?_
    refine gf_X12_244 hx hb hts hown hK hP 2 rfl rfl dX12_clauseHere_57 ?_
    refine lv_iload_n hx hb dX12_clauseHere_60 rfl (lv_at hl 0 rfl) ?_
    refine lv_if_eq (tgt := 69) hx hb dX12_clauseHere_61 (by decide) (fun c_31 => absurd c_31 (by decide)) (fun c_31 => ?_)
    refine lv_bipush (v := 40) hx hb dX12_clauseHere_64 (by decide) ?_
    refine lv_goto (tgt := 71) hx hb dX12_clauseHere_66 (by decide) ?_
    refine lv_icmp_ne (tgt := 81) hx hb dX12_clauseHere_71 (by decide) (fun c_32 => ?_) (fun c_32 => ?_)
    · skip
      refine lv_aload_n hx hb dX12_clauseHere_81 rfl (lv_at hl 2 rfl) ?_
      refine lv_dup hx hb dX12_clauseHere_82 rfl ?_
      refine gf_X12_244 hx hb hts hown hK hP 2 rfl rfl dX12_clauseHere_83 ?_
      refine lv_iconst (v := 1) hx hb dX12_clauseHere_86 (by decide) ?_
      refine lv_iadd hx hb dX12_clauseHere_87 ?_
      refine lv_topi (fun x_33 ex_33 => ?_)
      refine pf_X12_244 hx hb hts hown hK hP hD hS 2 rfl (Nat.le_of_ble_eq_true rfl) rfl rfl dX12_clauseHere_88 (fun H locs hP₀ hD₀ hS₀ => ?_)
      replace hP : va_P D classes [((Ma 3), .inl (tc 0, 7, .inl (Mf 3))), ((Ma 6), .inl (tc 0, 95, .inl (Mf 6))), ((Ma 0), .inr (12, [.ref (Ma 1), .int (Mv 0), .int (Mv 1), .ref (Ma 2), .ref (Ma 3), .ref (Ma 4), .ref (Ma 5), .ref (Ma 6), .int sv_18, .int (Mv 3), .int (Mv 4), .int 6, .int (Mv 6), .int (Mv 7), .int x_33, .ref (Ma 7), .int (Mv 9), .ref (Ma 8), .int (Mv 10), .ref (Ma 9), .ref (Ma 10), .int (Mv 11), .int (Mv 12), .int (Mv 13), .ref (Ma 11), .int (Mv 14), .ref (Ma 12), .ref (Ma 13), .ref (Ma 14), .ref (Ma 15), .ref (Ma 16), .long (Mj 0), .ref (Ma 17), .ref (Ma 18), .ref (Ma 19), .ref (Ma 20)])), ((Ma 1), .inl (tc 2, 400, .inl (Mf 1)))] H := hP₀
      replace hD : va_D A [((Ma 3), .inl (tc 0, 7, .inl (Mf 3))), ((Ma 6), .inl (tc 0, 95, .inl (Mf 6))), ((Ma 0), .inr (12, [.ref (Ma 1), .int (Mv 0), .int (Mv 1), .ref (Ma 2), .ref (Ma 3), .ref (Ma 4), .ref (Ma 5), .ref (Ma 6), .int sv_18, .int (Mv 3), .int (Mv 4), .int 6, .int (Mv 6), .int (Mv 7), .int x_33, .ref (Ma 7), .int (Mv 9), .ref (Ma 8), .int (Mv 10), .ref (Ma 9), .ref (Ma 10), .int (Mv 11), .int (Mv 12), .int (Mv 13), .ref (Ma 11), .int (Mv 14), .ref (Ma 12), .ref (Ma 13), .ref (Ma 14), .ref (Ma 15), .ref (Ma 16), .long (Mj 0), .ref (Ma 17), .ref (Ma 18), .ref (Ma 19), .ref (Ma 20)])), ((Ma 1), .inl (tc 2, 400, .inl (Mf 1)))] := hD₀
      replace hS := hS₀
      clear hP₀ hD₀ hS₀
      have tp_x_33 : (x_33 : Int32).toInt = ((Mv 8) : Int32).toInt + 1 := by
        have z_1 : ¬ (r_21 : Int32).toInt = (0 : Int32).toInt := fun z => c_27 (Int32.toInt_inj.mp z)
        have z_2 : ¬ ((Mv 8) : Int32).toInt = (40 : Int32).toInt := fun z => c_32 (Int32.toInt_inj.mp z)
        have y_0 : (0 : Int32).toInt = 0 := by decide
        have y_40 : (40 : Int32).toInt = 40 := by decide
        have y_1 : (1 : Int32).toInt = 1 := by decide
        have t_x_33 : x_33.toInt = ((Mv 8) : Int32).toInt + (1 : Int32).toInt := by rw [ex_33]; exact add_toInt (by omega) (by omega)
        omega
      refine lv_iload_n hx hb dX12_clauseHere_91 rfl (lv_at hl 0 rfl) ?_
      refine lv_if_eq (tgt := 103) hx hb dX12_clauseHere_92 (by decide) (fun c_34 => absurd c_34 (by decide)) (fun c_34 => ?_)
      refine lv_aload_n hx hb dX12_clauseHere_95 rfl (lv_at hl 2 rfl) ?_
      refine lv_iload_n hx hb dX12_clauseHere_96 rfl (lv_at hl 1 rfl) ?_
      have hq_35 : sv_18 = sv_4 := SkR.eq pf_8 pf_20
      have hq_36 : sv_18 = sv_4 := SkR.eq pf_8 pf_20
      have ha_37 : 0 ≤ (sv_18 : Int32).toInt ∧ (sv_18 : Int32).toInt ≤ ((Mv 0) : Int32).toInt ∧ ((Mv 0) : Int32).toInt ≤ 400 := by
        have z_1 : ¬ (r_21 : Int32).toInt = (0 : Int32).toInt := fun z => c_27 (Int32.toInt_inj.mp z)
        have z_2 : ¬ ((Mv 8) : Int32).toInt = (40 : Int32).toInt := fun z => c_32 (Int32.toInt_inj.mp z)
        have y_0 : (0 : Int32).toInt = 0 := by decide
        have y_40 : (40 : Int32).toInt = 40 := by decide
        omega
      have ha_38 : 0 ≤ sv_4.toInt ∧ sv_4.toInt ≤ 400 := by
        have z_1 : ¬ (r_21 : Int32).toInt = (0 : Int32).toInt := fun z => c_27 (Int32.toInt_inj.mp z)
        have z_2 : ¬ ((Mv 8) : Int32).toInt = (40 : Int32).toInt := fun z => c_32 (Int32.toInt_inj.mp z)
        have y_0 : (0 : Int32).toInt = 0 := by decide
        have y_40 : (40 : Int32).toInt = 40 := by decide
        omega
      have ha_39 : ((((Mf 6) 0).toInt = 0 ∧ x_33.toInt = 1) ∨ (((Mf 6) 0).toInt = 1 ∧ 2 ≤ x_33.toInt ∧ x_33.toInt ≤ 40)) := by
        have z_1 : ¬ (r_21 : Int32).toInt = (0 : Int32).toInt := fun z => c_27 (Int32.toInt_inj.mp z)
        have z_2 : ¬ ((Mv 8) : Int32).toInt = (40 : Int32).toInt := fun z => c_32 (Int32.toInt_inj.mp z)
        have y_0 : (0 : Int32).toInt = 0 := by decide
        have y_40 : (40 : Int32).toInt = 40 := by decide
        have y_1 : (1 : Int32).toInt = 1 := by decide
        have t_x_33 : x_33.toInt = ((Mv 8) : Int32).toInt + (1 : Int32).toInt := by rw [ex_33]; exact add_toInt (by omega) (by omega)
        omega
      have ha_40 : sv_4.toInt = sv_18.toInt := by
        have z_1 : ¬ (r_21 : Int32).toInt = (0 : Int32).toInt := fun z => c_27 (Int32.toInt_inj.mp z)
        have z_2 : ¬ ((Mv 8) : Int32).toInt = (40 : Int32).toInt := fun z => c_32 (Int32.toInt_inj.mp z)
        have y_0 : (0 : Int32).toInt = 0 := by decide
        have y_40 : (40 : Int32).toInt = 40 := by decide
        omega
      refine cV (a := (Ma 0)) (As := [.int sv_4]) (rest := []) (wr := [((Ma 3), .inl (tc 0, 7, .inl (Mf 3)))]) ⟨hx, hb, hml, hown, hts⟩ hK hX hA (cu_zX12_bookLineHere l D tc sk (Ma 0) (Ma 1) (Ma 2) (Ma 3) (Ma 4) (Ma 5) (Ma 6) (Ma 7) (Ma 8) (Ma 9) (Ma 10) (Ma 11) (Ma 12) (Ma 13) (Ma 14) (Ma 15) (Ma 16) (Ma 17) (Ma 18) (Ma 19) (Ma 20) (Mv 0) (Mv 1) sv_18 (Mv 3) (Mv 4) 6 (Mv 6) (Mv 7) x_33 (Mv 9) (Mv 10) (Mv 11) (Mv 12) (Mv 13) (Mv 14) (Mf 1) (Mf 6) (Mj 0) sv_4 C ha_37 ha_38 h_ro h_bs h_w (SkR.self pf_20) (hq_35.symm ▸ pf_29) (hq_36.symm ▸ pf_28) ha_39 ha_40 h_e) k_1236 k_1233 k_1235 k_32 k_106 pl_X12_bookLineHere ⟨Nat.le_of_ble_eq_true rfl, Nat.le_of_ble_eq_true rfl⟩ rfl rfl (va_recv hK hP (ci := 12) (q0 := 2) rfl rfl) hP hD hS [2, 3, 1] [0] rfl rfl rfl rfl rfl (by decide) rfl hl.1 rfl (Nat.le_of_ble_eq_true rfl) dX12_clauseHere_97 ⟨Nat.le_of_ble_eq_true rfl, Nat.le_of_ble_eq_true rfl⟩ (fun v_41 u_42 H locs hv_43 hP₀ hD₀ hS₀ => ?_)
      obtain ⟨sv_44, sv_45, sv_46, sv_47⟩ := u_42
      obtain ⟨r_49, rfl, he_50, pf_48, hm_52, hm_53⟩ := hv_43
      have he_50 : ((r_49.toInt = 0 ∧ ¬ (sv_45 : Int32).toInt = 0) ∨ (r_49.toInt = 1 ∧ (sv_47 0).toInt = 1 ∧ (sv_45 : Int32).toInt = 0)) := he_50
      have pf_48 : (sv_18 : Int32).toInt ≤ (sv_44 : Int32).toInt ∧ (sv_44 : Int32).toInt ≤ ((Mv 0) : Int32).toInt := pf_48
      refine W.eq (g2 := F0 m 100 ls [.int r_49]) rfl ?_
      replace hP : va_P D classes [((Ma 3), .inl (tc 0, 7, .inl (Mf 3))), ((Ma 0), .inr (12, [.ref (Ma 1), .int (Mv 0), .int (Mv 1), .ref (Ma 2), .ref (Ma 3), .ref (Ma 4), .ref (Ma 5), .ref (Ma 6), .int sv_44, .int sv_45, .int sv_46, .int 6, .int (Mv 6), .int (Mv 7), .int x_33, .ref (Ma 7), .int (Mv 9), .ref (Ma 8), .int (Mv 10), .ref (Ma 9), .ref (Ma 10), .int (Mv 11), .int (Mv 12), .int (Mv 13), .ref (Ma 11), .int (Mv 14), .ref (Ma 12), .ref (Ma 13), .ref (Ma 14), .ref (Ma 15), .ref (Ma 16), .long (Mj 0), .ref (Ma 17), .ref (Ma 18), .ref (Ma 19), .ref (Ma 20)])), ((Ma 1), .inl (tc 2, 400, .inl (Mf 1))), ((Ma 6), .inl (tc 0, 95, .inl sv_47))] H := hP₀
      replace hD : va_D A [((Ma 3), .inl (tc 0, 7, .inl (Mf 3))), ((Ma 0), .inr (12, [.ref (Ma 1), .int (Mv 0), .int (Mv 1), .ref (Ma 2), .ref (Ma 3), .ref (Ma 4), .ref (Ma 5), .ref (Ma 6), .int sv_44, .int sv_45, .int sv_46, .int 6, .int (Mv 6), .int (Mv 7), .int x_33, .ref (Ma 7), .int (Mv 9), .ref (Ma 8), .int (Mv 10), .ref (Ma 9), .ref (Ma 10), .int (Mv 11), .int (Mv 12), .int (Mv 13), .ref (Ma 11), .int (Mv 14), .ref (Ma 12), .ref (Ma 13), .ref (Ma 14), .ref (Ma 15), .ref (Ma 16), .long (Mj 0), .ref (Ma 17), .ref (Ma 18), .ref (Ma 19), .ref (Ma 20)])), ((Ma 1), .inl (tc 2, 400, .inl (Mf 1))), ((Ma 6), .inl (tc 0, 95, .inl sv_47))] := hD₀
      replace hS := hS₀
      clear hP₀ hD₀ hS₀
      refine lv_goto (tgt := 107) hx hb dX12_clauseHere_100 (by decide) ?_
      have ha_54 : ((Mv 2) : Int32).toInt ≤ (sv_44 : Int32).toInt ∧ (sv_44 : Int32).toInt ≤ ((Mv 0) : Int32).toInt := by
        have z_1 : ¬ (r_21 : Int32).toInt = (0 : Int32).toInt := fun z => c_27 (Int32.toInt_inj.mp z)
        have z_2 : ¬ ((Mv 8) : Int32).toInt = (40 : Int32).toInt := fun z => c_32 (Int32.toInt_inj.mp z)
        have y_0 : (0 : Int32).toInt = 0 := by decide
        have y_40 : (40 : Int32).toInt = 40 := by decide
        omega
      have hb_55 : (r_49 : Int32).toInt = 0 ∨ (r_49 : Int32).toInt = 1 := by
        have z_1 : ¬ (r_21 : Int32).toInt = (0 : Int32).toInt := fun z => c_27 (Int32.toInt_inj.mp z)
        have z_2 : ¬ ((Mv 8) : Int32).toInt = (40 : Int32).toInt := fun z => c_32 (Int32.toInt_inj.mp z)
        have y_0 : (0 : Int32).toInt = 0 := by decide
        have y_40 : (40 : Int32).toInt = 40 := by decide
        omega
      have hp_56 : (((r_49 : Int32).toInt = 0 ∧ ¬ (sv_45 : Int32).toInt = 0) ∨ ((r_49 : Int32).toInt = 1 ∧ (sv_47 0).toInt = 1 ∧ (sv_45 : Int32).toInt = 0 ∧ (x_33 : Int32).toInt = (Mv 8).toInt + 1 ∧ (x_33 : Int32).toInt ≤ 40)) := by
        have z_1 : ¬ (r_21 : Int32).toInt = (0 : Int32).toInt := fun z => c_27 (Int32.toInt_inj.mp z)
        have z_2 : ¬ ((Mv 8) : Int32).toInt = (40 : Int32).toInt := fun z => c_32 (Int32.toInt_inj.mp z)
        have y_0 : (0 : Int32).toInt = 0 := by decide
        have y_40 : (40 : Int32).toInt = 40 := by decide
        have y_1 : (1 : Int32).toInt = 1 := by decide
        have t_x_33 : x_33.toInt = ((Mv 8) : Int32).toInt + (1 : Int32).toInt := by rw [ex_33]; exact add_toInt (by omega) (by omega)
        omega
      have hm_57 : (r_49 : Int32).toInt = 1 → (RdO sv_47) ∧ (QfO (qCLs (rB (Mf 1) (Mv 0)) (Mv 8).toInt.toNat (Mv 2) C) (rB (Mf 1) (Mv 0)) sv_45 sv_44 sv_47) := by
        intro h1r
        obtain ⟨pf_58, pf_59⟩ := hm_52 h1r
        have pf_58 : RdO sv_47 := pf_58
        have ar_pf_58 := RdO.ar pf_58
        have pf_59 : QfO (qCL (rB (Mf 1) (Mv 0)) (x_33.toInt - 1).toNat sv_18 C) (rB (Mf 1) (Mv 0)) sv_45 sv_44 sv_47 := pf_59
        have ar_pf_59 := pf_59.choose_spec.2.1
        have hl_60 : (x_33.toInt - 1).toNat = (Mv 8).toInt.toNat := by
          have z_1 : ¬ (r_21 : Int32).toInt = (0 : Int32).toInt := fun z => c_27 (Int32.toInt_inj.mp z)
          have z_2 : ¬ ((Mv 8) : Int32).toInt = (40 : Int32).toInt := fun z => c_32 (Int32.toInt_inj.mp z)
          have y_0 : (0 : Int32).toInt = 0 := by decide
          have y_40 : (40 : Int32).toInt = 40 := by decide
          have y_1 : (1 : Int32).toInt = 1 := by decide
          have t_x_33 : x_33.toInt = ((Mv 8) : Int32).toInt + (1 : Int32).toInt := by rw [ex_33]; exact add_toInt (by omega) (by omega)
          omega
        have hf_61 : QfO (qCL (rB (Mf 1) (Mv 0)) (Mv 8).toInt.toNat sv_18 C) (rB (Mf 1) (Mv 0)) sv_45 sv_44 sv_47 := by rw [← hl_60]; exact pf_59
        exact ⟨pf_58, (QfO.eq (qCLs_at (SkR.trans pf_8 pf_20)) hf_61)⟩
      have hm_62 : (r_49 : Int32).toInt = 0 → (QfE (qCLs (rB (Mf 1) (Mv 0)) (Mv 8).toInt.toNat (Mv 2) C) sv_45) := by
        intro h1r
        obtain pf_63 := hm_53 h1r
        have pf_63 : QfE (qCL (rB (Mf 1) (Mv 0)) (x_33.toInt - 1).toNat sv_18 C) sv_45 := pf_63
        have hl_64 : (x_33.toInt - 1).toNat = (Mv 8).toInt.toNat := by
          have z_1 : ¬ (r_21 : Int32).toInt = (0 : Int32).toInt := fun z => c_27 (Int32.toInt_inj.mp z)
          have z_2 : ¬ ((Mv 8) : Int32).toInt = (40 : Int32).toInt := fun z => c_32 (Int32.toInt_inj.mp z)
          have y_0 : (0 : Int32).toInt = 0 := by decide
          have y_40 : (40 : Int32).toInt = 40 := by decide
          have y_1 : (1 : Int32).toInt = 1 := by decide
          have t_x_33 : x_33.toInt = ((Mv 8) : Int32).toInt + (1 : Int32).toInt := by rw [ex_33]; exact add_toInt (by omega) (by omega)
          omega
        have hf_65 : QfE (qCL (rB (Mf 1) (Mv 0)) (Mv 8).toInt.toNat sv_18 C) sv_45 := by rw [← hl_64]; exact pf_63
        exact (QfE.eq (qCLs_at (SkR.trans pf_8 pf_20)) hf_65)
      exact retI (v := r_49) hx hb hr hlk (nar01 hb_55) hP hD hS (sv_44, sv_45, sv_46, x_33, sv_47) ⟨_, rfl, hp_56, ha_54, hm_57, hm_62⟩ [1, 2, 0, 3] rfl rfl dX12_clauseHere_107 (Nat.le_of_ble_eq_true rfl) (Nat.le_of_ble_eq_true rfl) rfl
    · skip
      refine lv_aload_n hx hb dX12_clauseHere_74 rfl (lv_at hl 2 rfl) ?_
      refine lv_iconst (v := 4) hx hb dX12_clauseHere_75 (by decide) ?_
      refine lv_iload_n hx hb dX12_clauseHere_76 rfl (lv_at hl 1 rfl) ?_
      have ha_66 : 0 ≤ (4 : Int32).toInt ∧ (4 : Int32).toInt ≤ 4 := by
        have z_1 : ¬ (r_21 : Int32).toInt = (0 : Int32).toInt := fun z => c_27 (Int32.toInt_inj.mp z)
        have z_2 := congrArg Int32.toInt c_32
        have y_0 : (0 : Int32).toInt = 0 := by decide
        have y_40 : (40 : Int32).toInt = 40 := by decide
        have y_4 : (4 : Int32).toInt = 4 := by decide
        omega
      have ha_67 : 0 ≤ sv_4.toInt ∧ sv_4.toInt ≤ 400 := by
        have z_1 : ¬ (r_21 : Int32).toInt = (0 : Int32).toInt := fun z => c_27 (Int32.toInt_inj.mp z)
        have z_2 := congrArg Int32.toInt c_32
        have y_0 : (0 : Int32).toInt = 0 := by decide
        have y_40 : (40 : Int32).toInt = 40 := by decide
        omega
      refine cV (a := (Ma 0)) (As := [.int 4, .int sv_4]) (rest := []) (wr := [((Ma 3), .inl (tc 0, 7, .inl (Mf 3))), ((Ma 6), .inl (tc 0, 95, .inl (Mf 6))), ((Ma 1), .inl (tc 2, 400, .inl (Mf 1)))]) ⟨hx, hb, hml, hown, hts⟩ hK hX hA (cu_fX12_fails l D tc sk (Ma 0) (Ma 1) (Ma 2) (Ma 3) (Ma 4) (Ma 5) (Ma 6) (Ma 7) (Ma 8) (Ma 9) (Ma 10) (Ma 11) (Ma 12) (Ma 13) (Ma 14) (Ma 15) (Ma 16) (Ma 17) (Ma 18) (Ma 19) (Ma 20) (Mv 0) (Mv 1) sv_18 (Mv 3) (Mv 4) 6 (Mv 6) (Mv 7) (Mv 8) (Mv 9) (Mv 10) (Mv 11) (Mv 12) (Mv 13) (Mv 14) (Mj 0) 4 sv_4 ha_66 ha_67 h_w) k_1232 k_1229 k_1231 k_31 k_106 pl_X12_fails ⟨Nat.le_of_ble_eq_true rfl, Nat.le_of_ble_eq_true rfl⟩ rfl rfl (va_recv hK hP (ci := 12) (q0 := 2) rfl rfl) hP hD hS [2] [0, 1, 3] rfl rfl rfl rfl rfl (by decide) rfl hl.1 rfl (Nat.le_of_ble_eq_true rfl) dX12_clauseHere_77 ⟨Nat.le_of_ble_eq_true rfl, Nat.le_of_ble_eq_true rfl⟩ (fun v_68 u_69 H locs hv_70 hP₀ hD₀ hS₀ => ?_)
      obtain ⟨sv_71, rfl⟩ : ∃ z, z = u_69 := ⟨_, rfl⟩
      obtain ⟨r_74, rfl, he_75, pf_72, pf_73⟩ := hv_70
      have he_75 : r_74.toInt = 0 := he_75
      have pf_72 : ¬ (sv_71 : Int32).toInt = 0 := pf_72
      have pf_73 : (sv_71 : Int32).toInt = 1 + 8 * sv_4.toInt + (4 : Int32).toInt := pf_73
      refine W.eq (g2 := F0 m 80 ls [.int r_74]) rfl ?_
      replace hP : va_P D classes [((Ma 3), .inl (tc 0, 7, .inl (Mf 3))), ((Ma 6), .inl (tc 0, 95, .inl (Mf 6))), ((Ma 1), .inl (tc 2, 400, .inl (Mf 1))), ((Ma 0), .inr (12, [.ref (Ma 1), .int (Mv 0), .int (Mv 1), .ref (Ma 2), .ref (Ma 3), .ref (Ma 4), .ref (Ma 5), .ref (Ma 6), .int sv_18, .int sv_71, .int (Mv 4), .int 6, .int (Mv 6), .int (Mv 7), .int (Mv 8), .ref (Ma 7), .int (Mv 9), .ref (Ma 8), .int (Mv 10), .ref (Ma 9), .ref (Ma 10), .int (Mv 11), .int (Mv 12), .int (Mv 13), .ref (Ma 11), .int (Mv 14), .ref (Ma 12), .ref (Ma 13), .ref (Ma 14), .ref (Ma 15), .ref (Ma 16), .long (Mj 0), .ref (Ma 17), .ref (Ma 18), .ref (Ma 19), .ref (Ma 20)]))] H := hP₀
      replace hD : va_D A [((Ma 3), .inl (tc 0, 7, .inl (Mf 3))), ((Ma 6), .inl (tc 0, 95, .inl (Mf 6))), ((Ma 1), .inl (tc 2, 400, .inl (Mf 1))), ((Ma 0), .inr (12, [.ref (Ma 1), .int (Mv 0), .int (Mv 1), .ref (Ma 2), .ref (Ma 3), .ref (Ma 4), .ref (Ma 5), .ref (Ma 6), .int sv_18, .int sv_71, .int (Mv 4), .int 6, .int (Mv 6), .int (Mv 7), .int (Mv 8), .ref (Ma 7), .int (Mv 9), .ref (Ma 8), .int (Mv 10), .ref (Ma 9), .ref (Ma 10), .int (Mv 11), .int (Mv 12), .int (Mv 13), .ref (Ma 11), .int (Mv 14), .ref (Ma 12), .ref (Ma 13), .ref (Ma 14), .ref (Ma 15), .ref (Ma 16), .long (Mj 0), .ref (Ma 17), .ref (Ma 18), .ref (Ma 19), .ref (Ma 20)]))] := hD₀
      replace hS := hS₀
      clear hP₀ hD₀ hS₀
      have yf_77 : (4 : Int32).toInt = 4 := by decide
      have ha_78 : ((Mv 2) : Int32).toInt ≤ (sv_18 : Int32).toInt ∧ (sv_18 : Int32).toInt ≤ ((Mv 0) : Int32).toInt := by
        have z_1 : ¬ (r_21 : Int32).toInt = (0 : Int32).toInt := fun z => c_27 (Int32.toInt_inj.mp z)
        have z_2 := congrArg Int32.toInt c_32
        have y_0 : (0 : Int32).toInt = 0 := by decide
        have y_40 : (40 : Int32).toInt = 40 := by decide
        omega
      have hb_79 : (r_74 : Int32).toInt = 0 ∨ (r_74 : Int32).toInt = 1 := by
        have z_1 : ¬ (r_21 : Int32).toInt = (0 : Int32).toInt := fun z => c_27 (Int32.toInt_inj.mp z)
        have z_2 := congrArg Int32.toInt c_32
        have y_0 : (0 : Int32).toInt = 0 := by decide
        have y_40 : (40 : Int32).toInt = 40 := by decide
        omega
      have hp_80 : (((r_74 : Int32).toInt = 0 ∧ ¬ (sv_71 : Int32).toInt = 0) ∨ ((r_74 : Int32).toInt = 1 ∧ ((Mf 6) 0).toInt = 1 ∧ (sv_71 : Int32).toInt = 0 ∧ ((Mv 8) : Int32).toInt = (Mv 8).toInt + 1 ∧ ((Mv 8) : Int32).toInt ≤ 40)) := by
        have z_1 : ¬ (r_21 : Int32).toInt = (0 : Int32).toInt := fun z => c_27 (Int32.toInt_inj.mp z)
        have z_2 := congrArg Int32.toInt c_32
        have y_0 : (0 : Int32).toInt = 0 := by decide
        have y_40 : (40 : Int32).toInt = 40 := by decide
        omega
      have hm_81 : (r_74 : Int32).toInt = 1 → (RdO (Mf 6)) ∧ (QfO (qCLs (rB (Mf 1) (Mv 0)) (Mv 8).toInt.toNat (Mv 2) C) (rB (Mf 1) (Mv 0)) sv_71 sv_18 (Mf 6)) := by
        intro h1r
        exfalso
        have z_1 : ¬ (r_21 : Int32).toInt = (0 : Int32).toInt := fun z => c_27 (Int32.toInt_inj.mp z)
        have z_2 := congrArg Int32.toInt c_32
        have y_0 : (0 : Int32).toInt = 0 := by decide
        have y_40 : (40 : Int32).toInt = 40 := by decide
        omega
      have hm_82 : (r_74 : Int32).toInt = 0 → (QfE (qCLs (rB (Mf 1) (Mv 0)) (Mv 8).toInt.toNat (Mv 2) C) sv_71) := by
        intro h1r
        have hr_83 : 40 ≤ (Mv 8).toInt.toNat := by
          have z_1 : ¬ (r_21 : Int32).toInt = (0 : Int32).toInt := fun z => c_27 (Int32.toInt_inj.mp z)
          have z_2 := congrArg Int32.toInt c_32
          have y_0 : (0 : Int32).toInt = 0 := by decide
          have y_40 : (40 : Int32).toInt = 40 := by decide
          omega
        have hr_84 : 0 ≤ (sv_4 : Int32).toInt := by
          have z_1 : ¬ (r_21 : Int32).toInt = (0 : Int32).toInt := fun z => c_27 (Int32.toInt_inj.mp z)
          have z_2 := congrArg Int32.toInt c_32
          have y_0 : (0 : Int32).toInt = 0 := by decide
          have y_40 : (40 : Int32).toInt = 40 := by decide
          omega
        have hi_85 : (sv_71 : Int32).toInt = 1 + 8 * (sv_4 : Int32).toInt + 4 := by
          have z_1 : ¬ (r_21 : Int32).toInt = (0 : Int32).toInt := fun z => c_27 (Int32.toInt_inj.mp z)
          have z_2 := congrArg Int32.toInt c_32
          have y_0 : (0 : Int32).toInt = 0 := by decide
          have y_40 : (40 : Int32).toInt = 40 := by decide
          omega
        exact (QfE.eq (qCLs_at pf_8) (qCL_bad (k := pz_wa (rB (Mf 1) (Mv 0)) (sv_4 : Int32).toInt.toNat pz_bws 0) rfl pf_28 (Or.inl hr_83) hr_84 hi_85))
      exact retI (v := r_74) hx hb hr hlk (nar01 hb_79) hP hD hS (sv_18, sv_71, (Mv 4), (Mv 8), (Mf 6)) ⟨_, rfl, hp_80, ha_78, hm_81, hm_82⟩ [3, 2, 0, 1] rfl rfl dX12_clauseHere_80 (Nat.le_of_ble_eq_true rfl) (Nat.le_of_ble_eq_true rfl) rfl
  · skip
    have hz_87 : (r_21 : Int32).toInt = 0 := by
      have z_1 := congrArg Int32.toInt c_27
      have y_0 : (0 : Int32).toInt = 0 := by decide
      omega
    obtain pf_86 := hm_25 hz_87
    have pf_86 : BkW (rB (Mf 1) (Mv 0)) sv_4 (-1) := pf_86
    refine lv_goto (tgt := 49) hx hb dX12_clauseHere_36 (by decide) ?_
    refine lv_aload_n hx hb dX12_clauseHere_49 rfl (lv_at hl 2 rfl) ?_
    refine lv_iconst (v := 0) hx hb dX12_clauseHere_50 (by decide) ?_
    refine lv_iload_n hx hb dX12_clauseHere_51 rfl (lv_at hl 1 rfl) ?_
    have ha_88 : 0 ≤ (0 : Int32).toInt ∧ (0 : Int32).toInt ≤ 4 := by
      have z_1 := congrArg Int32.toInt c_27
      have y_0 : (0 : Int32).toInt = 0 := by decide
      omega
    have ha_89 : 0 ≤ sv_4.toInt ∧ sv_4.toInt ≤ 400 := by
      have z_1 := congrArg Int32.toInt c_27
      have y_0 : (0 : Int32).toInt = 0 := by decide
      omega
    refine cV (a := (Ma 0)) (As := [.int 0, .int sv_4]) (rest := []) (wr := [((Ma 3), .inl (tc 0, 7, .inl (Mf 3))), ((Ma 6), .inl (tc 0, 95, .inl (Mf 6))), ((Ma 1), .inl (tc 2, 400, .inl (Mf 1)))]) ⟨hx, hb, hml, hown, hts⟩ hK hX hA (cu_fX12_fails l D tc sk (Ma 0) (Ma 1) (Ma 2) (Ma 3) (Ma 4) (Ma 5) (Ma 6) (Ma 7) (Ma 8) (Ma 9) (Ma 10) (Ma 11) (Ma 12) (Ma 13) (Ma 14) (Ma 15) (Ma 16) (Ma 17) (Ma 18) (Ma 19) (Ma 20) (Mv 0) (Mv 1) sv_18 (Mv 3) (Mv 4) 6 (Mv 6) (Mv 7) (Mv 8) (Mv 9) (Mv 10) (Mv 11) (Mv 12) (Mv 13) (Mv 14) (Mj 0) 0 sv_4 ha_88 ha_89 h_w) k_1232 k_1229 k_1231 k_31 k_106 pl_X12_fails ⟨Nat.le_of_ble_eq_true rfl, Nat.le_of_ble_eq_true rfl⟩ rfl rfl (va_recv hK hP (ci := 12) (q0 := 2) rfl rfl) hP hD hS [2] [0, 1, 3] rfl rfl rfl rfl rfl (by decide) rfl hl.1 rfl (Nat.le_of_ble_eq_true rfl) dX12_clauseHere_52 ⟨Nat.le_of_ble_eq_true rfl, Nat.le_of_ble_eq_true rfl⟩ (fun v_90 u_91 H locs hv_92 hP₀ hD₀ hS₀ => ?_)
    obtain ⟨sv_93, rfl⟩ : ∃ z, z = u_91 := ⟨_, rfl⟩
    obtain ⟨r_96, rfl, he_97, pf_94, pf_95⟩ := hv_92
    have he_97 : r_96.toInt = 0 := he_97
    have pf_94 : ¬ (sv_93 : Int32).toInt = 0 := pf_94
    have pf_95 : (sv_93 : Int32).toInt = 1 + 8 * sv_4.toInt + (0 : Int32).toInt := pf_95
    refine W.eq (g2 := F0 m 55 ls [.int r_96]) rfl ?_
    replace hP : va_P D classes [((Ma 3), .inl (tc 0, 7, .inl (Mf 3))), ((Ma 6), .inl (tc 0, 95, .inl (Mf 6))), ((Ma 1), .inl (tc 2, 400, .inl (Mf 1))), ((Ma 0), .inr (12, [.ref (Ma 1), .int (Mv 0), .int (Mv 1), .ref (Ma 2), .ref (Ma 3), .ref (Ma 4), .ref (Ma 5), .ref (Ma 6), .int sv_18, .int sv_93, .int (Mv 4), .int 6, .int (Mv 6), .int (Mv 7), .int (Mv 8), .ref (Ma 7), .int (Mv 9), .ref (Ma 8), .int (Mv 10), .ref (Ma 9), .ref (Ma 10), .int (Mv 11), .int (Mv 12), .int (Mv 13), .ref (Ma 11), .int (Mv 14), .ref (Ma 12), .ref (Ma 13), .ref (Ma 14), .ref (Ma 15), .ref (Ma 16), .long (Mj 0), .ref (Ma 17), .ref (Ma 18), .ref (Ma 19), .ref (Ma 20)]))] H := hP₀
    replace hD : va_D A [((Ma 3), .inl (tc 0, 7, .inl (Mf 3))), ((Ma 6), .inl (tc 0, 95, .inl (Mf 6))), ((Ma 1), .inl (tc 2, 400, .inl (Mf 1))), ((Ma 0), .inr (12, [.ref (Ma 1), .int (Mv 0), .int (Mv 1), .ref (Ma 2), .ref (Ma 3), .ref (Ma 4), .ref (Ma 5), .ref (Ma 6), .int sv_18, .int sv_93, .int (Mv 4), .int 6, .int (Mv 6), .int (Mv 7), .int (Mv 8), .ref (Ma 7), .int (Mv 9), .ref (Ma 8), .int (Mv 10), .ref (Ma 9), .ref (Ma 10), .int (Mv 11), .int (Mv 12), .int (Mv 13), .ref (Ma 11), .int (Mv 14), .ref (Ma 12), .ref (Ma 13), .ref (Ma 14), .ref (Ma 15), .ref (Ma 16), .long (Mj 0), .ref (Ma 17), .ref (Ma 18), .ref (Ma 19), .ref (Ma 20)]))] := hD₀
    replace hS := hS₀
    clear hP₀ hD₀ hS₀
    have yf_99 : (0 : Int32).toInt = 0 := by decide
    have ha_100 : ((Mv 2) : Int32).toInt ≤ (sv_18 : Int32).toInt ∧ (sv_18 : Int32).toInt ≤ ((Mv 0) : Int32).toInt := by
      have z_1 := congrArg Int32.toInt c_27
      have y_0 : (0 : Int32).toInt = 0 := by decide
      omega
    have hb_101 : (r_96 : Int32).toInt = 0 ∨ (r_96 : Int32).toInt = 1 := by
      have z_1 := congrArg Int32.toInt c_27
      have y_0 : (0 : Int32).toInt = 0 := by decide
      omega
    have hp_102 : (((r_96 : Int32).toInt = 0 ∧ ¬ (sv_93 : Int32).toInt = 0) ∨ ((r_96 : Int32).toInt = 1 ∧ ((Mf 6) 0).toInt = 1 ∧ (sv_93 : Int32).toInt = 0 ∧ ((Mv 8) : Int32).toInt = (Mv 8).toInt + 1 ∧ ((Mv 8) : Int32).toInt ≤ 40)) := by
      have z_1 := congrArg Int32.toInt c_27
      have y_0 : (0 : Int32).toInt = 0 := by decide
      omega
    have hm_103 : (r_96 : Int32).toInt = 1 → (RdO (Mf 6)) ∧ (QfO (qCLs (rB (Mf 1) (Mv 0)) (Mv 8).toInt.toNat (Mv 2) C) (rB (Mf 1) (Mv 0)) sv_93 sv_18 (Mf 6)) := by
      intro h1r
      exfalso
      have z_1 := congrArg Int32.toInt c_27
      have y_0 : (0 : Int32).toInt = 0 := by decide
      omega
    have hm_104 : (r_96 : Int32).toInt = 0 → (QfE (qCLs (rB (Mf 1) (Mv 0)) (Mv 8).toInt.toNat (Mv 2) C) sv_93) := by
      intro h1r
      have hr_105 : 0 ≤ (sv_4 : Int32).toInt := by
        have z_1 := congrArg Int32.toInt c_27
        have y_0 : (0 : Int32).toInt = 0 := by decide
        omega
      have hi_106 : (sv_93 : Int32).toInt = 1 + 8 * (sv_4 : Int32).toInt := by
        have z_1 := congrArg Int32.toInt c_27
        have y_0 : (0 : Int32).toInt = 0 := by decide
        omega
      exact (QfE.eq (qCLs_at pf_8) (qCL_no pf_86 hr_105 hi_106))
    exact retI (v := r_96) hx hb hr hlk (nar01 hb_101) hP hD hS (sv_18, sv_93, (Mv 4), (Mv 8), (Mf 6)) ⟨_, rfl, hp_102, ha_100, hm_103, hm_104⟩ [3, 2, 0, 1] rfl rfl dX12_clauseHere_55 (Nat.le_of_ble_eq_true rfl) (Nat.le_of_ble_eq_true rfl) rfl
set_option maxRecDepth 100000 in
theorem cu_zX12_clauseHere_b (l : Launch) (D : va_G) (tc : Nat → ClassId) (sk : (Nat → Nat) × (Nat → Nat)) (Ma_0 : Nat) (Ma_1 : Nat) (Ma_2 : Nat) (Ma_3 : Nat) (Ma_4 : Nat) (Ma_5 : Nat) (Ma_6 : Nat) (Ma_7 : Nat) (Ma_8 : Nat) (Ma_9 : Nat) (Ma_10 : Nat) (Ma_11 : Nat) (Ma_12 : Nat) (Ma_13 : Nat) (Ma_14 : Nat) (Ma_15 : Nat) (Ma_16 : Nat) (Ma_17 : Nat) (Ma_18 : Nat) (Ma_19 : Nat) (Ma_20 : Nat) (Mv_0 : Int32) (Mv_1 : Int32) (Mv_2 : Int32) (Mv_3 : Int32) (Mv_4 : Int32) (Mv_6 : Int32) (Mv_7 : Int32) (Mv_8 : Int32) (Mv_9 : Int32) (Mv_10 : Int32) (Mv_11 : Int32) (Mv_12 : Int32) (Mv_13 : Int32) (Mv_14 : Int32) (Mf_1 : Nat → Int32) (Mf_3 : Nat → Int32) (Mf_6 : Nat → Int32) (Mj_0 : Int64) (C : Nat → Int) (h_nx : 0 ≤ (Mv_2 : Int32).toInt ∧ (Mv_2 : Int32).toInt ≤ (Mv_0 : Int32).toInt ∧ (Mv_0 : Int32).toInt ≤ 400) (h_ro : RdO Mf_6) (h_bs : ByS Mf_1) (h_w : (Mv_3 : Int32).toInt = 0) (h_r0 : (((Mf_6 0).toInt = 0 ∧ Mv_8.toInt = 0) ∨ ((Mf_6 0).toInt = 1 ∧ 1 ≤ Mv_8.toInt ∧ Mv_8.toInt ≤ 40))) (h_e : RdE Mf_6 C) : Ct l yX12_clauseHere cX12_clauseHere 3 (some .boolean) { frames := 5, cells := 0, slots := 0, locals := 115 } D tc sk [.ref Ma_0] [(Ma_0, .inr (12, [.ref Ma_1, .int Mv_0, .int Mv_1, .ref Ma_2, .ref Ma_3, .ref Ma_4, .ref Ma_5, .ref Ma_6, .int Mv_2, .int Mv_3, .int Mv_4, .int 6, .int Mv_6, .int Mv_7, .int Mv_8, .ref Ma_7, .int Mv_9, .ref Ma_8, .int Mv_10, .ref Ma_9, .ref Ma_10, .int Mv_11, .int Mv_12, .int Mv_13, .ref Ma_11, .int Mv_14, .ref Ma_12, .ref Ma_13, .ref Ma_14, .ref Ma_15, .ref Ma_16, .long Mj_0, .ref Ma_17, .ref Ma_18, .ref Ma_19, .ref Ma_20])), (Ma_1, .inl (tc 2, 400, .inl Mf_1)), (Ma_3, .inl (tc 0, 7, .inl Mf_3)), (Ma_6, .inl (tc 0, 95, .inl Mf_6))] (fun (v : Option Value) (u : (Int32) × (Int32) × (Int32) × (Int32) × (Nat → Int32)) => match u with | (oo0x1, oo0x2, oo0x3, oo0x4, oo0x5) => ∃ r : Int32, v = some (.int r) ∧ (((r.toInt = 0 ∧ ¬ (oo0x2 : Int32).toInt = 0) ∨ (r.toInt = 1 ∧ (oo0x5 0).toInt = 1 ∧ (oo0x2 : Int32).toInt = 0 ∧ (oo0x4 : Int32).toInt = Mv_8.toInt + 1 ∧ (oo0x4 : Int32).toInt ≤ 40))) ∧ ((Mv_2 : Int32).toInt ≤ (oo0x1 : Int32).toInt ∧ (oo0x1 : Int32).toInt ≤ (Mv_0 : Int32).toInt) ∧ (r.toInt = 1 → (RdO oo0x5) ∧ (QfO (qCLs (rB Mf_1 Mv_0) Mv_8.toInt.toNat Mv_2 C) (rB Mf_1 Mv_0) oo0x2 oo0x1 oo0x5)) ∧ (r.toInt = 0 → (QfE (qCLs (rB Mf_1 Mv_0) Mv_8.toInt.toNat Mv_2 C) oo0x2))) (fun (u : (Int32) × (Int32) × (Int32) × (Int32) × (Nat → Int32)) => match u with | (oo0x1, oo0x2, oo0x3, oo0x4, oo0x5) => [(Ma_0, .inr (12, [.ref Ma_1, .int Mv_0, .int Mv_1, .ref Ma_2, .ref Ma_3, .ref Ma_4, .ref Ma_5, .ref Ma_6, .int oo0x1, .int oo0x2, .int oo0x3, .int 6, .int Mv_6, .int Mv_7, .int oo0x4, .ref Ma_7, .int Mv_9, .ref Ma_8, .int Mv_10, .ref Ma_9, .ref Ma_10, .int Mv_11, .int Mv_12, .int Mv_13, .ref Ma_11, .int Mv_14, .ref Ma_12, .ref Ma_13, .ref Ma_14, .ref Ma_15, .ref Ma_16, .long Mj_0, .ref Ma_17, .ref Ma_18, .ref Ma_19, .ref Ma_20])), (Ma_1, .inl (tc 2, 400, .inl Mf_1)), (Ma_3, .inl (tc 0, 7, .inl Mf_3)), (Ma_6, .inl (tc 0, 95, .inl oo0x5))]) 0 0 :=
  ct_zX12_clauseHere_b l D tc sk (fun k => ([Ma_0, Ma_1, Ma_2, Ma_3, Ma_4, Ma_5, Ma_6, Ma_7, Ma_8, Ma_9, Ma_10, Ma_11, Ma_12, Ma_13, Ma_14, Ma_15, Ma_16, Ma_17, Ma_18, Ma_19, Ma_20] : List (Nat)).getD k 0) (fun k => ([Mv_0, Mv_1, Mv_2, Mv_3, Mv_4, 0, Mv_6, Mv_7, Mv_8, Mv_9, Mv_10, Mv_11, Mv_12, Mv_13, Mv_14] : List (Int32)).getD k 0) (fun k => ([(fun _ => 0), Mf_1, (fun _ => 0), Mf_3, (fun _ => 0), (fun _ => 0), Mf_6] : List (Nat → Int32)).getD k (fun _ => 0)) (fun k => ([Mj_0] : List (Int64)).getD k 0) C h_nx h_ro h_bs h_w h_r0 h_e
set_option maxHeartbeats 4000000 in
set_option maxRecDepth 100000 in
theorem ct_zX12_readsAll_b (l : Launch) (D : va_G) (tc : Nat → ClassId) (sk : (Nat → Nat) × (Nat → Nat)) (Ma : Nat → Nat) (Mv : Nat → Int32) (Mf : Nat → Nat → Int32) (Mj : Nat → Int64) (h_tp : 0 ≤ ((Mv 0) : Int32).toInt ∧ ((Mv 0) : Int32).toInt ≤ 400) (h_ro : RdO (Mf 6)) (h_bs : ByS (Mf 1)) (h_z0 : ((Mf 6) 0).toInt = 0 ∧ ((Mf 6) 2).toInt = 0 ∧ ((Mf 6) 3).toInt = 0) (h_e0 : RdE (Mf 6) qz_0) : Ct l yX12_readsAll cX12_readsAll 2 (some .boolean) { frames := 6, cells := 0, slots := 0, locals := 137 } D tc sk [.ref (Ma 0)] [((Ma 0), .inr (12, [.ref (Ma 1), .int (Mv 0), .int (Mv 1), .ref (Ma 2), .ref (Ma 3), .ref (Ma 4), .ref (Ma 5), .ref (Ma 6), .int (Mv 2), .int (Mv 3), .int (Mv 4), .int 6, .int (Mv 6), .int (Mv 7), .int (Mv 8), .ref (Ma 7), .int (Mv 9), .ref (Ma 8), .int (Mv 10), .ref (Ma 9), .ref (Ma 10), .int (Mv 11), .int (Mv 12), .int (Mv 13), .ref (Ma 11), .int (Mv 14), .ref (Ma 12), .ref (Ma 13), .ref (Ma 14), .ref (Ma 15), .ref (Ma 16), .long (Mj 0), .ref (Ma 17), .ref (Ma 18), .ref (Ma 19), .ref (Ma 20)])), ((Ma 1), .inl (tc 2, 400, .inl (Mf 1))), ((Ma 3), .inl (tc 0, 7, .inl (Mf 3))), ((Ma 6), .inl (tc 0, 95, .inl (Mf 6)))] (fun (v : Option Value) (u : (Int32) × (Int32) × (Int32) × (Int32) × (Nat → Int32) × (Nat → Int32)) => match u with | (oo0x1, oo0x2, oo0x3, oo0x4, oo0x5, oo0x6) => ∃ r : Int32, v = some (.int r) ∧ (((r.toInt = 0 ∧ ¬ (oo0x2 : Int32).toInt = 0) ∨ (r.toInt = 1 ∧ (oo0x2 : Int32).toInt = 0))) ∧ (QkM (rB (Mf 1) (Mv 0)) oo0x2 oo0x6) ∧ (r.toInt = 1 → (RdO oo0x6))) (fun (u : (Int32) × (Int32) × (Int32) × (Int32) × (Nat → Int32) × (Nat → Int32)) => match u with | (oo0x1, oo0x2, oo0x3, oo0x4, oo0x5, oo0x6) => [((Ma 0), .inr (12, [.ref (Ma 1), .int 0, .int (Mv 1), .ref (Ma 2), .ref (Ma 3), .ref (Ma 4), .ref (Ma 5), .ref (Ma 6), .int oo0x1, .int oo0x2, .int oo0x3, .int 6, .int 0, .int (Mv 7), .int oo0x4, .ref (Ma 7), .int (Mv 9), .ref (Ma 8), .int (Mv 10), .ref (Ma 9), .ref (Ma 10), .int (Mv 11), .int (Mv 12), .int (Mv 13), .ref (Ma 11), .int (Mv 14), .ref (Ma 12), .ref (Ma 13), .ref (Ma 14), .ref (Ma 15), .ref (Ma 16), .long (Mj 0), .ref (Ma 17), .ref (Ma 18), .ref (Ma 19), .ref (Ma 20)])), ((Ma 1), .inl (tc 2, 400, .inl (Mf 1))), ((Ma 3), .inl (tc 0, 7, .inl oo0x5)), ((Ma 6), .inl (tc 0, 95, .inl oo0x6))]) 0 0 := by
  refine Ct.start (by decide) (Nat.le_of_ble_eq_true rfl) (fun p e s m below meth c A ls hx hb hr hlk hin hml hown hts hK hX hP hD hA hl hS => ?_)
  have hl : lv_has ls 2 [(0, .ref (Ma 0))] := hl
  have ar_h_ro := RdO.ar h_ro
  refine lv_aload_n hx hb dX12_readsAll_0 rfl (lv_at hl 0 rfl) ?_
  refine gf_X12_17 hx hb hts hown hK hP 0 rfl rfl dX12_readsAll_1 ?_
  refine lv_aload_n hx hb dX12_readsAll_4 rfl (lv_at hl 0 rfl) ?_
  refine gf_X12_145 hx hb hts hown hK hP 0 rfl rfl dX12_readsAll_5 ?_
  refine lv_iconst (v := 0) hx hb dX12_readsAll_8 (by decide) ?_
  refine st_int hx hb hK hP hD hS 2 0 rfl rfl (vin_dec (by decide +kernel)) dX12_readsAll_9 (fun g_1 H locs eg_1 hP₀ hD₀ hS₀ => ?_)
  replace hP : va_P D classes [((Ma 0), .inr (12, [.ref (Ma 1), .int (Mv 0), .int (Mv 1), .ref (Ma 2), .ref (Ma 3), .ref (Ma 4), .ref (Ma 5), .ref (Ma 6), .int (Mv 2), .int (Mv 3), .int (Mv 4), .int 6, .int (Mv 6), .int (Mv 7), .int (Mv 8), .ref (Ma 7), .int (Mv 9), .ref (Ma 8), .int (Mv 10), .ref (Ma 9), .ref (Ma 10), .int (Mv 11), .int (Mv 12), .int (Mv 13), .ref (Ma 11), .int (Mv 14), .ref (Ma 12), .ref (Ma 13), .ref (Ma 14), .ref (Ma 15), .ref (Ma 16), .long (Mj 0), .ref (Ma 17), .ref (Ma 18), .ref (Ma 19), .ref (Ma 20)])), ((Ma 1), .inl (tc 2, 400, .inl (Mf 1))), ((Ma 3), .inl (tc 0, 7, .inl g_1)), ((Ma 6), .inl (tc 0, 95, .inl (Mf 6)))] H := hP₀
  replace hD : va_D A [((Ma 0), .inr (12, [.ref (Ma 1), .int (Mv 0), .int (Mv 1), .ref (Ma 2), .ref (Ma 3), .ref (Ma 4), .ref (Ma 5), .ref (Ma 6), .int (Mv 2), .int (Mv 3), .int (Mv 4), .int 6, .int (Mv 6), .int (Mv 7), .int (Mv 8), .ref (Ma 7), .int (Mv 9), .ref (Ma 8), .int (Mv 10), .ref (Ma 9), .ref (Ma 10), .int (Mv 11), .int (Mv 12), .int (Mv 13), .ref (Ma 11), .int (Mv 14), .ref (Ma 12), .ref (Ma 13), .ref (Ma 14), .ref (Ma 15), .ref (Ma 16), .long (Mj 0), .ref (Ma 17), .ref (Ma 18), .ref (Ma 19), .ref (Ma 20)])), ((Ma 1), .inl (tc 2, 400, .inl (Mf 1))), ((Ma 3), .inl (tc 0, 7, .inl g_1)), ((Ma 6), .inl (tc 0, 95, .inl (Mf 6)))] := hD₀
  replace hS := hS₀
  clear hP₀ hD₀ hS₀
  refine lv_aload_n hx hb dX12_readsAll_10 rfl (lv_at hl 0 rfl) ?_
  refine lv_iconst (v := 0) hx hb dX12_readsAll_11 (by decide) ?_
  refine pf_X12_244 hx hb hts hown hK hP hD hS 0 rfl (Nat.le_of_ble_eq_true rfl) rfl rfl dX12_readsAll_12 (fun H locs hP₀ hD₀ hS₀ => ?_)
  replace hP : va_P D classes [((Ma 0), .inr (12, [.ref (Ma 1), .int (Mv 0), .int (Mv 1), .ref (Ma 2), .ref (Ma 3), .ref (Ma 4), .ref (Ma 5), .ref (Ma 6), .int (Mv 2), .int (Mv 3), .int (Mv 4), .int 6, .int (Mv 6), .int (Mv 7), .int 0, .ref (Ma 7), .int (Mv 9), .ref (Ma 8), .int (Mv 10), .ref (Ma 9), .ref (Ma 10), .int (Mv 11), .int (Mv 12), .int (Mv 13), .ref (Ma 11), .int (Mv 14), .ref (Ma 12), .ref (Ma 13), .ref (Ma 14), .ref (Ma 15), .ref (Ma 16), .long (Mj 0), .ref (Ma 17), .ref (Ma 18), .ref (Ma 19), .ref (Ma 20)])), ((Ma 1), .inl (tc 2, 400, .inl (Mf 1))), ((Ma 3), .inl (tc 0, 7, .inl g_1)), ((Ma 6), .inl (tc 0, 95, .inl (Mf 6)))] H := hP₀
  replace hD : va_D A [((Ma 0), .inr (12, [.ref (Ma 1), .int (Mv 0), .int (Mv 1), .ref (Ma 2), .ref (Ma 3), .ref (Ma 4), .ref (Ma 5), .ref (Ma 6), .int (Mv 2), .int (Mv 3), .int (Mv 4), .int 6, .int (Mv 6), .int (Mv 7), .int 0, .ref (Ma 7), .int (Mv 9), .ref (Ma 8), .int (Mv 10), .ref (Ma 9), .ref (Ma 10), .int (Mv 11), .int (Mv 12), .int (Mv 13), .ref (Ma 11), .int (Mv 14), .ref (Ma 12), .ref (Ma 13), .ref (Ma 14), .ref (Ma 15), .ref (Ma 16), .long (Mj 0), .ref (Ma 17), .ref (Ma 18), .ref (Ma 19), .ref (Ma 20)])), ((Ma 1), .inl (tc 2, 400, .inl (Mf 1))), ((Ma 3), .inl (tc 0, 7, .inl g_1)), ((Ma 6), .inl (tc 0, 95, .inl (Mf 6)))] := hD₀
  replace hS := hS₀
  clear hP₀ hD₀ hS₀
  refine lv_aload_n hx hb dX12_readsAll_15 rfl (lv_at hl 0 rfl) ?_
  refine lv_iconst (v := 0) hx hb dX12_readsAll_16 (by decide) ?_
  refine pf_X12_87 hx hb hts hown hK hP hD hS 0 rfl (Nat.le_of_ble_eq_true rfl) rfl rfl dX12_readsAll_17 (fun H locs hP₀ hD₀ hS₀ => ?_)
  replace hP : va_P D classes [((Ma 0), .inr (12, [.ref (Ma 1), .int (Mv 0), .int (Mv 1), .ref (Ma 2), .ref (Ma 3), .ref (Ma 4), .ref (Ma 5), .ref (Ma 6), .int 0, .int (Mv 3), .int (Mv 4), .int 6, .int (Mv 6), .int (Mv 7), .int 0, .ref (Ma 7), .int (Mv 9), .ref (Ma 8), .int (Mv 10), .ref (Ma 9), .ref (Ma 10), .int (Mv 11), .int (Mv 12), .int (Mv 13), .ref (Ma 11), .int (Mv 14), .ref (Ma 12), .ref (Ma 13), .ref (Ma 14), .ref (Ma 15), .ref (Ma 16), .long (Mj 0), .ref (Ma 17), .ref (Ma 18), .ref (Ma 19), .ref (Ma 20)])), ((Ma 1), .inl (tc 2, 400, .inl (Mf 1))), ((Ma 3), .inl (tc 0, 7, .inl g_1)), ((Ma 6), .inl (tc 0, 95, .inl (Mf 6)))] H := hP₀
  replace hD : va_D A [((Ma 0), .inr (12, [.ref (Ma 1), .int (Mv 0), .int (Mv 1), .ref (Ma 2), .ref (Ma 3), .ref (Ma 4), .ref (Ma 5), .ref (Ma 6), .int 0, .int (Mv 3), .int (Mv 4), .int 6, .int (Mv 6), .int (Mv 7), .int 0, .ref (Ma 7), .int (Mv 9), .ref (Ma 8), .int (Mv 10), .ref (Ma 9), .ref (Ma 10), .int (Mv 11), .int (Mv 12), .int (Mv 13), .ref (Ma 11), .int (Mv 14), .ref (Ma 12), .ref (Ma 13), .ref (Ma 14), .ref (Ma 15), .ref (Ma 16), .long (Mj 0), .ref (Ma 17), .ref (Ma 18), .ref (Ma 19), .ref (Ma 20)])), ((Ma 1), .inl (tc 2, 400, .inl (Mf 1))), ((Ma 3), .inl (tc 0, 7, .inl g_1)), ((Ma 6), .inl (tc 0, 95, .inl (Mf 6)))] := hD₀
  replace hS := hS₀
  clear hP₀ hD₀ hS₀
  refine lv_aload_n hx hb dX12_readsAll_20 rfl (lv_at hl 0 rfl) ?_
  refine lv_iconst (v := 0) hx hb dX12_readsAll_21 (by decide) ?_
  refine pf_X12_84 hx hb hts hown hK hP hD hS 0 rfl (Nat.le_of_ble_eq_true rfl) rfl rfl dX12_readsAll_22 (fun H locs hP₀ hD₀ hS₀ => ?_)
  replace hP : va_P D classes [((Ma 0), .inr (12, [.ref (Ma 1), .int (Mv 0), .int (Mv 1), .ref (Ma 2), .ref (Ma 3), .ref (Ma 4), .ref (Ma 5), .ref (Ma 6), .int 0, .int 0, .int (Mv 4), .int 6, .int (Mv 6), .int (Mv 7), .int 0, .ref (Ma 7), .int (Mv 9), .ref (Ma 8), .int (Mv 10), .ref (Ma 9), .ref (Ma 10), .int (Mv 11), .int (Mv 12), .int (Mv 13), .ref (Ma 11), .int (Mv 14), .ref (Ma 12), .ref (Ma 13), .ref (Ma 14), .ref (Ma 15), .ref (Ma 16), .long (Mj 0), .ref (Ma 17), .ref (Ma 18), .ref (Ma 19), .ref (Ma 20)])), ((Ma 1), .inl (tc 2, 400, .inl (Mf 1))), ((Ma 3), .inl (tc 0, 7, .inl g_1)), ((Ma 6), .inl (tc 0, 95, .inl (Mf 6)))] H := hP₀
  replace hD : va_D A [((Ma 0), .inr (12, [.ref (Ma 1), .int (Mv 0), .int (Mv 1), .ref (Ma 2), .ref (Ma 3), .ref (Ma 4), .ref (Ma 5), .ref (Ma 6), .int 0, .int 0, .int (Mv 4), .int 6, .int (Mv 6), .int (Mv 7), .int 0, .ref (Ma 7), .int (Mv 9), .ref (Ma 8), .int (Mv 10), .ref (Ma 9), .ref (Ma 10), .int (Mv 11), .int (Mv 12), .int (Mv 13), .ref (Ma 11), .int (Mv 14), .ref (Ma 12), .ref (Ma 13), .ref (Ma 14), .ref (Ma 15), .ref (Ma 16), .long (Mj 0), .ref (Ma 17), .ref (Ma 18), .ref (Ma 19), .ref (Ma 20)])), ((Ma 1), .inl (tc 2, 400, .inl (Mf 1))), ((Ma 3), .inl (tc 0, 7, .inl g_1)), ((Ma 6), .inl (tc 0, 95, .inl (Mf 6)))] := hD₀
  replace hS := hS₀
  clear hP₀ hD₀ hS₀
  refine lv_aload_n hx hb dX12_readsAll_25 rfl (lv_at hl 0 rfl) ?_
  refine lv_iconst (v := 0) hx hb dX12_readsAll_26 (by decide) ?_
  refine pf_X12_148 hx hb hts hown hK hP hD hS 0 rfl (Nat.le_of_ble_eq_true rfl) rfl rfl dX12_readsAll_27 (fun H locs hP₀ hD₀ hS₀ => ?_)
  replace hP : va_P D classes [((Ma 0), .inr (12, [.ref (Ma 1), .int (Mv 0), .int (Mv 1), .ref (Ma 2), .ref (Ma 3), .ref (Ma 4), .ref (Ma 5), .ref (Ma 6), .int 0, .int 0, .int (Mv 4), .int 6, .int 0, .int (Mv 7), .int 0, .ref (Ma 7), .int (Mv 9), .ref (Ma 8), .int (Mv 10), .ref (Ma 9), .ref (Ma 10), .int (Mv 11), .int (Mv 12), .int (Mv 13), .ref (Ma 11), .int (Mv 14), .ref (Ma 12), .ref (Ma 13), .ref (Ma 14), .ref (Ma 15), .ref (Ma 16), .long (Mj 0), .ref (Ma 17), .ref (Ma 18), .ref (Ma 19), .ref (Ma 20)])), ((Ma 1), .inl (tc 2, 400, .inl (Mf 1))), ((Ma 3), .inl (tc 0, 7, .inl g_1)), ((Ma 6), .inl (tc 0, 95, .inl (Mf 6)))] H := hP₀
  replace hD : va_D A [((Ma 0), .inr (12, [.ref (Ma 1), .int (Mv 0), .int (Mv 1), .ref (Ma 2), .ref (Ma 3), .ref (Ma 4), .ref (Ma 5), .ref (Ma 6), .int 0, .int 0, .int (Mv 4), .int 6, .int 0, .int (Mv 7), .int 0, .ref (Ma 7), .int (Mv 9), .ref (Ma 8), .int (Mv 10), .ref (Ma 9), .ref (Ma 10), .int (Mv 11), .int (Mv 12), .int (Mv 13), .ref (Ma 11), .int (Mv 14), .ref (Ma 12), .ref (Ma 13), .ref (Ma 14), .ref (Ma 15), .ref (Ma 16), .long (Mj 0), .ref (Ma 17), .ref (Ma 18), .ref (Ma 19), .ref (Ma 20)])), ((Ma 1), .inl (tc 2, 400, .inl (Mf 1))), ((Ma 3), .inl (tc 0, 7, .inl g_1)), ((Ma 6), .inl (tc 0, 95, .inl (Mf 6)))] := hD₀
  replace hS := hS₀
  clear hP₀ hD₀ hS₀
  refine lv_aload_n hx hb dX12_readsAll_30 rfl (lv_at hl 0 rfl) ?_
  have ha_2 : 0 ≤ ((0 : Int32) : Int32).toInt ∧ ((0 : Int32) : Int32).toInt ≤ ((Mv 0) : Int32).toInt ∧ ((Mv 0) : Int32).toInt ≤ 400 := by
    have y_0 : (0 : Int32).toInt = 0 := by decide
    omega
  have ha_3 : ((0 : Int32) : Int32).toInt = 0 := by
    have y_0 : (0 : Int32).toInt = 0 := by decide
    omega
  have ha_4 : ((((Mf 6) 0).toInt = 0 ∧ (0 : Int32).toInt = 0) ∨ (((Mf 6) 0).toInt = 1 ∧ 1 ≤ (0 : Int32).toInt ∧ (0 : Int32).toInt ≤ 40)) := by
    have y_0 : (0 : Int32).toInt = 0 := by decide
    omega
  refine cV (a := (Ma 0)) (As := []) (rest := []) (wr := []) ⟨hx, hb, hml, hown, hts⟩ hK hX hA (cu_zX12_clauseHere_b l D tc sk (Ma 0) (Ma 1) (Ma 2) (Ma 3) (Ma 4) (Ma 5) (Ma 6) (Ma 7) (Ma 8) (Ma 9) (Ma 10) (Ma 11) (Ma 12) (Ma 13) (Ma 14) (Ma 15) (Ma 16) (Ma 17) (Ma 18) (Ma 19) (Ma 20) (Mv 0) (Mv 1) 0 0 (Mv 4) 0 (Mv 7) 0 (Mv 9) (Mv 10) (Mv 11) (Mv 12) (Mv 13) (Mv 14) (Mf 1) g_1 (Mf 6) (Mj 0) qz_0 ha_2 h_ro h_bs ha_3 ha_4 h_e0) k_1207 k_1204 k_1206 k_26 k_106 pl_X12_clauseHere ⟨Nat.le_of_ble_eq_true rfl, Nat.le_of_ble_eq_true rfl⟩ rfl rfl (va_recv hK hP (ci := 12) (q0 := 0) rfl rfl) hP hD hS [0, 1, 2, 3] [] rfl rfl rfl rfl rfl (by decide) rfl hl.1 rfl (Nat.le_of_ble_eq_true rfl) dX12_readsAll_31 ⟨Nat.le_of_ble_eq_true rfl, Nat.le_of_ble_eq_true rfl⟩ (fun v_5 u_6 H locs hv_7 hP₀ hD₀ hS₀ => ?_)
  obtain ⟨sv_8, sv_9, sv_10, sv_11, sv_12⟩ := u_6
  obtain ⟨r_14, rfl, he_15, pf_13, hm_17, hm_18⟩ := hv_7
  have he_15 : ((r_14.toInt = 0 ∧ ¬ (sv_9 : Int32).toInt = 0) ∨ (r_14.toInt = 1 ∧ (sv_12 0).toInt = 1 ∧ (sv_9 : Int32).toInt = 0 ∧ (sv_11 : Int32).toInt = (0 : Int32).toInt + 1 ∧ (sv_11 : Int32).toInt ≤ 40)) := he_15
  have yl_he_15_0 : (0 : Int32).toInt = 0 := by decide
  have pf_13 : ((0 : Int32) : Int32).toInt ≤ (sv_8 : Int32).toInt ∧ (sv_8 : Int32).toInt ≤ ((Mv 0) : Int32).toInt := pf_13
  refine W.eq (g2 := F0 m 34 ls [.int r_14]) rfl ?_
  replace hP : va_P D classes [((Ma 0), .inr (12, [.ref (Ma 1), .int (Mv 0), .int (Mv 1), .ref (Ma 2), .ref (Ma 3), .ref (Ma 4), .ref (Ma 5), .ref (Ma 6), .int sv_8, .int sv_9, .int sv_10, .int 6, .int 0, .int (Mv 7), .int sv_11, .ref (Ma 7), .int (Mv 9), .ref (Ma 8), .int (Mv 10), .ref (Ma 9), .ref (Ma 10), .int (Mv 11), .int (Mv 12), .int (Mv 13), .ref (Ma 11), .int (Mv 14), .ref (Ma 12), .ref (Ma 13), .ref (Ma 14), .ref (Ma 15), .ref (Ma 16), .long (Mj 0), .ref (Ma 17), .ref (Ma 18), .ref (Ma 19), .ref (Ma 20)])), ((Ma 1), .inl (tc 2, 400, .inl (Mf 1))), ((Ma 3), .inl (tc 0, 7, .inl g_1)), ((Ma 6), .inl (tc 0, 95, .inl sv_12))] H := hP₀
  replace hD : va_D A [((Ma 0), .inr (12, [.ref (Ma 1), .int (Mv 0), .int (Mv 1), .ref (Ma 2), .ref (Ma 3), .ref (Ma 4), .ref (Ma 5), .ref (Ma 6), .int sv_8, .int sv_9, .int sv_10, .int 6, .int 0, .int (Mv 7), .int sv_11, .ref (Ma 7), .int (Mv 9), .ref (Ma 8), .int (Mv 10), .ref (Ma 9), .ref (Ma 10), .int (Mv 11), .int (Mv 12), .int (Mv 13), .ref (Ma 11), .int (Mv 14), .ref (Ma 12), .ref (Ma 13), .ref (Ma 14), .ref (Ma 15), .ref (Ma 16), .long (Mj 0), .ref (Ma 17), .ref (Ma 18), .ref (Ma 19), .ref (Ma 20)])), ((Ma 1), .inl (tc 2, 400, .inl (Mf 1))), ((Ma 3), .inl (tc 0, 7, .inl g_1)), ((Ma 6), .inl (tc 0, 95, .inl sv_12))] := hD₀
  replace hS := hS₀
  clear hP₀ hD₀ hS₀
  refine lv_istore_n (lv' := [(1, .int r_14), (0, .ref (Ma 0))]) hx hb dX12_readsAll_34 rfl hl (by decide) rfl (fun ls hl₀ => ?_)
  replace hl := hl₀
  clear hl₀
  have loop_33 : ∀ (n_31 : Nat) (vy_25 : Int32) (vy_26 : Int32) (vy_27 : Int32) (vy_28 : Int32) (vy_29 : Int32) (vy_30 : Nat → Int32) (H : Heap) (locs : List Loc) (ls : Array Slot), (2 * (401 - (vy_26 : Int32).toInt) + (vy_25 : Int32).toInt).toNat < n_31 → (0 ≤ (vy_26 : Int32).toInt ∧ (vy_26 : Int32).toInt ≤ ((Mv 0) : Int32).toInt ∧ ((Mv 0) : Int32).toInt ≤ 400) → ((((vy_25 : Int32).toInt = 0 ∧ ¬ (vy_27 : Int32).toInt = 0) ∨ ((vy_25 : Int32).toInt = 1 ∧ (vy_30 0).toInt = 1 ∧ (vy_27 : Int32).toInt = 0 ∧ 1 ≤ (vy_29 : Int32).toInt ∧ (vy_29 : Int32).toInt ≤ 40))) → (RdG vy_30 vy_25) → (QaL (rB (Mf 1) (Mv 0)) vy_26 vy_29 vy_27 vy_25 vy_30) → va_P D classes [((Ma 0), .inr (12, [.ref (Ma 1), .int (Mv 0), .int (Mv 1), .ref (Ma 2), .ref (Ma 3), .ref (Ma 4), .ref (Ma 5), .ref (Ma 6), .int vy_26, .int vy_27, .int vy_28, .int 6, .int 0, .int (Mv 7), .int vy_29, .ref (Ma 7), .int (Mv 9), .ref (Ma 8), .int (Mv 10), .ref (Ma 9), .ref (Ma 10), .int (Mv 11), .int (Mv 12), .int (Mv 13), .ref (Ma 11), .int (Mv 14), .ref (Ma 12), .ref (Ma 13), .ref (Ma 14), .ref (Ma 15), .ref (Ma 16), .long (Mj 0), .ref (Ma 17), .ref (Ma 18), .ref (Ma 19), .ref (Ma 20)])), ((Ma 1), .inl (tc 2, 400, .inl (Mf 1))), ((Ma 3), .inl (tc 0, 7, .inl g_1)), ((Ma 6), .inl (tc 0, 95, .inl vy_30))] H → va_D A [((Ma 0), .inr (12, [.ref (Ma 1), .int (Mv 0), .int (Mv 1), .ref (Ma 2), .ref (Ma 3), .ref (Ma 4), .ref (Ma 5), .ref (Ma 6), .int vy_26, .int vy_27, .int vy_28, .int 6, .int 0, .int (Mv 7), .int vy_29, .ref (Ma 7), .int (Mv 9), .ref (Ma 8), .int (Mv 10), .ref (Ma 9), .ref (Ma 10), .int (Mv 11), .int (Mv 12), .int (Mv 13), .ref (Ma 11), .int (Mv 14), .ref (Ma 12), .ref (Ma 13), .ref (Ma 14), .ref (Ma 15), .ref (Ma 16), .long (Mj 0), .ref (Ma 17), .ref (Ma 18), .ref (Ma 19), .ref (Ma 20)])), ((Ma 1), .inl (tc 2, 400, .inl (Mf 1))), ((Ma 3), .inl (tc 0, 7, .inl g_1)), ((Ma 6), .inl (tc 0, 95, .inl vy_30))] → va_S A s.heap H locs → lv_has ls 2 [(1, .int vy_25), (0, .ref (Ma 0))] → W p l e ({ frames := 6, cells := 0, slots := 0, locals := 137 }) s m ([.ref (Ma 0)].toArray) below meth c H locs 0 0 (MQ below (QW (fun (v : Option Value) (u : (Int32) × (Int32) × (Int32) × (Int32) × (Nat → Int32) × (Nat → Int32)) => match u with | (oo0x1, oo0x2, oo0x3, oo0x4, oo0x5, oo0x6) => ∃ r : Int32, v = some (.int r) ∧ (((r.toInt = 0 ∧ ¬ (oo0x2 : Int32).toInt = 0) ∨ (r.toInt = 1 ∧ (oo0x2 : Int32).toInt = 0))) ∧ (QkM (rB (Mf 1) (Mv 0)) oo0x2 oo0x6) ∧ (r.toInt = 1 → (RdO oo0x6))) (BW D (fun (u : (Int32) × (Int32) × (Int32) × (Int32) × (Nat → Int32) × (Nat → Int32)) => match u with | (oo0x1, oo0x2, oo0x3, oo0x4, oo0x5, oo0x6) => [((Ma 0), .inr (12, [.ref (Ma 1), .int 0, .int (Mv 1), .ref (Ma 2), .ref (Ma 3), .ref (Ma 4), .ref (Ma 5), .ref (Ma 6), .int oo0x1, .int oo0x2, .int oo0x3, .int 6, .int 0, .int (Mv 7), .int oo0x4, .ref (Ma 7), .int (Mv 9), .ref (Ma 8), .int (Mv 10), .ref (Ma 9), .ref (Ma 10), .int (Mv 11), .int (Mv 12), .int (Mv 13), .ref (Ma 11), .int (Mv 14), .ref (Ma 12), .ref (Ma 13), .ref (Ma 14), .ref (Ma 15), .ref (Ma 16), .long (Mj 0), .ref (Ma 17), .ref (Ma 18), .ref (Ma 19), .ref (Ma 20)])), ((Ma 1), .inl (tc 2, 400, .inl (Mf 1))), ((Ma 3), .inl (tc 0, 7, .inl oo0x5)), ((Ma 6), .inl (tc 0, 95, .inl oo0x6))]) A) A) ([.ref (Ma 0)].toArray) s 0 0 A) (F0 m 35 ls []) := by
    clear hP hD hS hl
    intro n_31
    induction n_31 with
    | zero =>
      intro vy_25 vy_26 vy_27 vy_28 vy_29 vy_30 H locs ls h1
      exact absurd h1 (Nat.not_lt_zero _)
    | succ n_31 ih_32 =>
      intro vy_25 vy_26 vy_27 vy_28 vy_29 vy_30 H locs ls hn_38 pf_34 pf_35 pf_36 pf_37 hP hD hS hl
      refine lv_iload_n hx hb dX12_readsAll_35 rfl (lv_at hl 0 rfl) ?_
      refine lv_if_eq (tgt := 66) hx hb dX12_readsAll_36 (by decide) (fun c_39 => ?_) (fun c_39 => ?_)
      · skip
        refine lv_iload_n hx hb dX12_readsAll_66 rfl (lv_at hl 0 rfl) ?_
        refine lv_if_eq (tgt := 88) hx hb dX12_readsAll_67 (by decide) (fun c_40 => ?_) (fun c_40 => ?_)
        · skip
          refine lv_aload_n hx hb dX12_readsAll_88 rfl (lv_at hl 1 rfl) ?_
          refine lv_iconst (v := 0) hx hb dX12_readsAll_89 (by decide) ?_
          refine pf_X12_77 hx hb hts hown hK hP hD hS 0 rfl (Nat.le_of_ble_eq_true rfl) rfl rfl dX12_readsAll_90 (fun H locs hP₀ hD₀ hS₀ => ?_)
          replace hP : va_P D classes [((Ma 0), .inr (12, [.ref (Ma 1), .int 0, .int (Mv 1), .ref (Ma 2), .ref (Ma 3), .ref (Ma 4), .ref (Ma 5), .ref (Ma 6), .int vy_26, .int vy_27, .int vy_28, .int 6, .int 0, .int (Mv 7), .int vy_29, .ref (Ma 7), .int (Mv 9), .ref (Ma 8), .int (Mv 10), .ref (Ma 9), .ref (Ma 10), .int (Mv 11), .int (Mv 12), .int (Mv 13), .ref (Ma 11), .int (Mv 14), .ref (Ma 12), .ref (Ma 13), .ref (Ma 14), .ref (Ma 15), .ref (Ma 16), .long (Mj 0), .ref (Ma 17), .ref (Ma 18), .ref (Ma 19), .ref (Ma 20)])), ((Ma 1), .inl (tc 2, 400, .inl (Mf 1))), ((Ma 3), .inl (tc 0, 7, .inl g_1)), ((Ma 6), .inl (tc 0, 95, .inl vy_30))] H := hP₀
          replace hD : va_D A [((Ma 0), .inr (12, [.ref (Ma 1), .int 0, .int (Mv 1), .ref (Ma 2), .ref (Ma 3), .ref (Ma 4), .ref (Ma 5), .ref (Ma 6), .int vy_26, .int vy_27, .int vy_28, .int 6, .int 0, .int (Mv 7), .int vy_29, .ref (Ma 7), .int (Mv 9), .ref (Ma 8), .int (Mv 10), .ref (Ma 9), .ref (Ma 10), .int (Mv 11), .int (Mv 12), .int (Mv 13), .ref (Ma 11), .int (Mv 14), .ref (Ma 12), .ref (Ma 13), .ref (Ma 14), .ref (Ma 15), .ref (Ma 16), .long (Mj 0), .ref (Ma 17), .ref (Ma 18), .ref (Ma 19), .ref (Ma 20)])), ((Ma 1), .inl (tc 2, 400, .inl (Mf 1))), ((Ma 3), .inl (tc 0, 7, .inl g_1)), ((Ma 6), .inl (tc 0, 95, .inl vy_30))] := hD₀
          replace hS := hS₀
          clear hP₀ hD₀ hS₀
          refine lv_aload_n hx hb dX12_readsAll_93 rfl (lv_at hl 1 rfl) ?_
          refine gf_X12_84 hx hb hts hown hK hP 0 rfl rfl dX12_readsAll_94 ?_
          refine lv_if_ne (tgt := 104) hx hb dX12_readsAll_97 (by decide) (fun c_41 => ?_) (fun c_41 => ?_)
          · skip
            refine lv_iconst (v := 0) hx hb dX12_readsAll_104 (by decide) ?_
            have hr_42 : (vy_25 : Int32).toInt = 0 := by
              have z_1 := congrArg Int32.toInt c_39
              have z_2 := congrArg Int32.toInt c_40
              have z_3 : ¬ (vy_27 : Int32).toInt = (0 : Int32).toInt := fun z => c_41 (Int32.toInt_inj.mp z)
              have y_0 : (0 : Int32).toInt = 0 := by decide
              omega
            have hr_43 : ¬ (vy_27 : Int32).toInt = 0 := by
              have z_1 := congrArg Int32.toInt c_39
              have z_2 := congrArg Int32.toInt c_40
              have z_3 : ¬ (vy_27 : Int32).toInt = (0 : Int32).toInt := fun z => c_41 (Int32.toInt_inj.mp z)
              have y_0 : (0 : Int32).toInt = 0 := by decide
              omega
            have hp_44 : (((0 : Int32).toInt = 0 ∧ ¬ (vy_27 : Int32).toInt = 0) ∨ ((0 : Int32).toInt = 1 ∧ (vy_27 : Int32).toInt = 0)) := by
              have z_1 := congrArg Int32.toInt c_39
              have z_2 := congrArg Int32.toInt c_40
              have z_3 : ¬ (vy_27 : Int32).toInt = (0 : Int32).toInt := fun z => c_41 (Int32.toInt_inj.mp z)
              have y_0 : (0 : Int32).toInt = 0 := by decide
              omega
            exact retI (v := 0) hx hb hr hlk (rfl) hP hD hS (vy_26, vy_27, vy_28, vy_29, g_1, vy_30) ⟨_, rfl, hp_44, (QkM.rbad pf_37 hr_42 hr_43), (fun h => absurd h (by decide))⟩ [0, 1, 2, 3] rfl rfl dX12_readsAll_105 (Nat.le_of_ble_eq_true rfl) (Nat.le_of_ble_eq_true rfl) rfl
          · skip
            refine lv_iconst (v := 1) hx hb dX12_readsAll_100 (by decide) ?_
            refine lv_goto (tgt := 105) hx hb dX12_readsAll_101 (by decide) ?_
            have hr_45 : (vy_25 : Int32).toInt = 0 := by
              have z_1 := congrArg Int32.toInt c_39
              have z_2 := congrArg Int32.toInt c_40
              have z_3 := congrArg Int32.toInt c_41
              have y_0 : (0 : Int32).toInt = 0 := by decide
              omega
            have hr_46 : ¬ (vy_27 : Int32).toInt = 0 := by
              have z_1 := congrArg Int32.toInt c_39
              have z_2 := congrArg Int32.toInt c_40
              have z_3 := congrArg Int32.toInt c_41
              have y_0 : (0 : Int32).toInt = 0 := by decide
              omega
            have hp_47 : (((1 : Int32).toInt = 0 ∧ ¬ (vy_27 : Int32).toInt = 0) ∨ ((1 : Int32).toInt = 1 ∧ (vy_27 : Int32).toInt = 0)) := by
              have z_1 := congrArg Int32.toInt c_39
              have z_2 := congrArg Int32.toInt c_40
              have z_3 := congrArg Int32.toInt c_41
              have y_0 : (0 : Int32).toInt = 0 := by decide
              have y_1 : (1 : Int32).toInt = 1 := by decide
              have yr : (1 : Int32).toInt = 1 := by decide
              omega
            have hm_48 : (1 : Int32).toInt = 1 → (RdO vy_30) := by
              intro h1r
              have hf_49 : False := by
                have z_1 := congrArg Int32.toInt c_39
                have z_2 := congrArg Int32.toInt c_40
                have z_3 := congrArg Int32.toInt c_41
                have y_0 : (0 : Int32).toInt = 0 := by decide
                omega
              exact (hf_49.elim)
            exact retI (v := 1) hx hb hr hlk (rfl) hP hD hS (vy_26, vy_27, vy_28, vy_29, g_1, vy_30) ⟨_, rfl, hp_47, (QkM.rbad pf_37 hr_45 hr_46), hm_48⟩ [0, 1, 2, 3] rfl rfl dX12_readsAll_105 (Nat.le_of_ble_eq_true rfl) (Nat.le_of_ble_eq_true rfl) rfl
        · skip
          exfalso
          have z_1 := congrArg Int32.toInt c_39
          have z_2 : ¬ (vy_25 : Int32).toInt = (0 : Int32).toInt := fun z => c_40 (Int32.toInt_inj.mp z)
          have y_0 : (0 : Int32).toInt = 0 := by decide
          omega
      · skip
        have hr_51 : (vy_25 : Int32).toInt = 1 := by
          have z_1 : ¬ (vy_25 : Int32).toInt = (0 : Int32).toInt := fun z => c_39 (Int32.toInt_inj.mp z)
          have y_0 : (0 : Int32).toInt = 0 := by decide
          omega
        have pf_50 : RdO vy_30 := pf_36 hr_51
        have ar_pf_50 := RdO.ar pf_50
        refine lv_aload_n hx hb dX12_readsAll_39 rfl (lv_at hl 1 rfl) ?_
        refine cV (a := (Ma 0)) (As := []) (rest := []) (wr := [((Ma 3), .inl (tc 0, 7, .inl g_1)), ((Ma 6), .inl (tc 0, 95, .inl vy_30))]) ⟨hx, hb, hml, hown, hts⟩ hK hX hA (cu_fX12_see l D tc sk (Ma 0) (Ma 1) (Ma 2) (Ma 3) (Ma 4) (Ma 5) (Ma 6) (Ma 7) (Ma 8) (Ma 9) (Ma 10) (Ma 11) (Ma 12) (Ma 13) (Ma 14) (Ma 15) (Ma 16) (Ma 17) (Ma 18) (Ma 19) (Ma 20) (Mv 0) (Mv 1) vy_26 vy_27 vy_28 6 0 (Mv 7) vy_29 (Mv 9) (Mv 10) (Mv 11) (Mv 12) (Mv 13) (Mv 14) (Mf 1) (Mj 0) pf_34 h_bs) k_1211 k_1208 k_1210 k_27 k_106 pl_X12_see ⟨Nat.le_of_ble_eq_true rfl, Nat.le_of_ble_eq_true rfl⟩ rfl rfl (va_recv hK hP (ci := 12) (q0 := 0) rfl rfl) hP hD hS [0, 1] [2, 3] rfl rfl rfl rfl rfl (by decide) rfl hl.1 rfl (Nat.le_of_ble_eq_true rfl) dX12_readsAll_40 ⟨Nat.le_of_ble_eq_true rfl, Nat.le_of_ble_eq_true rfl⟩ (fun v_52 u_53 H locs hv_54 hP₀ hD₀ hS₀ => ?_)
        obtain ⟨sv_55, rfl⟩ : ∃ z, z = u_53 := ⟨_, rfl⟩
        obtain ⟨r_60, rfl, he_61, pf_56, pf_57, pf_58, pf_59⟩ := hv_54
        have he_61 : (r_60.toInt = rB (Mf 1) (Mv 0) (sv_55 : Int32).toInt.toNat ∧ (r_60.toInt = -1 ∨ (sv_55 : Int32).toInt < (Mv 0).toInt)) := he_61
        have pf_56 : (vy_26 : Int32).toInt ≤ (sv_55 : Int32).toInt ∧ (sv_55 : Int32).toInt ≤ ((Mv 0) : Int32).toInt := pf_56
        have pf_57 : NSq (Mf 1) (Mv 0) sv_55 := pf_57
        have pf_58 : Stl (Mf 1) (Mv 0) vy_26 sv_55 := pf_58
        have pf_59 : SkR (rB (Mf 1) (Mv 0)) vy_26 sv_55 := pf_59
        refine W.eq (g2 := F0 m 43 ls [.int r_60]) rfl ?_
        replace hP : va_P D classes [((Ma 3), .inl (tc 0, 7, .inl g_1)), ((Ma 6), .inl (tc 0, 95, .inl vy_30)), ((Ma 0), .inr (12, [.ref (Ma 1), .int (Mv 0), .int (Mv 1), .ref (Ma 2), .ref (Ma 3), .ref (Ma 4), .ref (Ma 5), .ref (Ma 6), .int sv_55, .int vy_27, .int vy_28, .int 6, .int 0, .int (Mv 7), .int vy_29, .ref (Ma 7), .int (Mv 9), .ref (Ma 8), .int (Mv 10), .ref (Ma 9), .ref (Ma 10), .int (Mv 11), .int (Mv 12), .int (Mv 13), .ref (Ma 11), .int (Mv 14), .ref (Ma 12), .ref (Ma 13), .ref (Ma 14), .ref (Ma 15), .ref (Ma 16), .long (Mj 0), .ref (Ma 17), .ref (Ma 18), .ref (Ma 19), .ref (Ma 20)])), ((Ma 1), .inl (tc 2, 400, .inl (Mf 1)))] H := hP₀
        replace hD : va_D A [((Ma 3), .inl (tc 0, 7, .inl g_1)), ((Ma 6), .inl (tc 0, 95, .inl vy_30)), ((Ma 0), .inr (12, [.ref (Ma 1), .int (Mv 0), .int (Mv 1), .ref (Ma 2), .ref (Ma 3), .ref (Ma 4), .ref (Ma 5), .ref (Ma 6), .int sv_55, .int vy_27, .int vy_28, .int 6, .int 0, .int (Mv 7), .int vy_29, .ref (Ma 7), .int (Mv 9), .ref (Ma 8), .int (Mv 10), .ref (Ma 9), .ref (Ma 10), .int (Mv 11), .int (Mv 12), .int (Mv 13), .ref (Ma 11), .int (Mv 14), .ref (Ma 12), .ref (Ma 13), .ref (Ma 14), .ref (Ma 15), .ref (Ma 16), .long (Mj 0), .ref (Ma 17), .ref (Ma 18), .ref (Ma 19), .ref (Ma 20)])), ((Ma 1), .inl (tc 2, 400, .inl (Mf 1)))] := hD₀
        replace hS := hS₀
        clear hP₀ hD₀ hS₀
        refine lv_bipush (v := 59) hx hb dX12_readsAll_43 (by decide) ?_
        refine lv_icmp_ne (tgt := 66) hx hb dX12_readsAll_45 (by decide) (fun c_63 => ?_) (fun c_63 => ?_)
        · skip
          refine lv_iload_n hx hb dX12_readsAll_66 rfl (lv_at hl 0 rfl) ?_
          refine lv_if_eq (tgt := 88) hx hb dX12_readsAll_67 (by decide) (fun c_64 => ?_) (fun c_64 => ?_)
          · skip
            exfalso
            have z_1 : ¬ (vy_25 : Int32).toInt = (0 : Int32).toInt := fun z => c_39 (Int32.toInt_inj.mp z)
            have z_2 : ¬ (r_60 : Int32).toInt = (59 : Int32).toInt := fun z => c_63 (Int32.toInt_inj.mp z)
            have z_3 := congrArg Int32.toInt c_64
            have y_0 : (0 : Int32).toInt = 0 := by decide
            have y_59 : (59 : Int32).toInt = 59 := by decide
            omega
          · skip
            refine lv_aload_n hx hb dX12_readsAll_70 rfl (lv_at hl 1 rfl) ?_
            have ha_65 : 0 ≤ (sv_55 : Int32).toInt ∧ (sv_55 : Int32).toInt ≤ ((Mv 0) : Int32).toInt ∧ ((Mv 0) : Int32).toInt ≤ 400 := by
              have z_1 : ¬ (vy_25 : Int32).toInt = (0 : Int32).toInt := fun z => c_39 (Int32.toInt_inj.mp z)
              have z_2 : ¬ (r_60 : Int32).toInt = (59 : Int32).toInt := fun z => c_63 (Int32.toInt_inj.mp z)
              have z_3 : ¬ (vy_25 : Int32).toInt = (0 : Int32).toInt := fun z => c_64 (Int32.toInt_inj.mp z)
              have y_0 : (0 : Int32).toInt = 0 := by decide
              have y_59 : (59 : Int32).toInt = 59 := by decide
              omega
            refine cV (a := (Ma 0)) (As := []) (rest := []) (wr := [((Ma 3), .inl (tc 0, 7, .inl g_1)), ((Ma 6), .inl (tc 0, 95, .inl vy_30))]) ⟨hx, hb, hml, hown, hts⟩ hK hX hA (cu_fX12_see l D tc sk (Ma 0) (Ma 1) (Ma 2) (Ma 3) (Ma 4) (Ma 5) (Ma 6) (Ma 7) (Ma 8) (Ma 9) (Ma 10) (Ma 11) (Ma 12) (Ma 13) (Ma 14) (Ma 15) (Ma 16) (Ma 17) (Ma 18) (Ma 19) (Ma 20) (Mv 0) (Mv 1) sv_55 vy_27 vy_28 6 0 (Mv 7) vy_29 (Mv 9) (Mv 10) (Mv 11) (Mv 12) (Mv 13) (Mv 14) (Mf 1) (Mj 0) ha_65 h_bs) k_1211 k_1208 k_1210 k_27 k_106 pl_X12_see ⟨Nat.le_of_ble_eq_true rfl, Nat.le_of_ble_eq_true rfl⟩ rfl rfl (va_recv hK hP (ci := 12) (q0 := 2) rfl rfl) hP hD hS [2, 3] [0, 1] rfl rfl rfl rfl rfl (by decide) rfl hl.1 rfl (Nat.le_of_ble_eq_true rfl) dX12_readsAll_71 ⟨Nat.le_of_ble_eq_true rfl, Nat.le_of_ble_eq_true rfl⟩ (fun v_66 u_67 H locs hv_68 hP₀ hD₀ hS₀ => ?_)
            obtain ⟨sv_69, rfl⟩ : ∃ z, z = u_67 := ⟨_, rfl⟩
            obtain ⟨r_74, rfl, he_75, pf_70, pf_71, pf_72, pf_73⟩ := hv_68
            have he_75 : (r_74.toInt = rB (Mf 1) (Mv 0) (sv_69 : Int32).toInt.toNat ∧ (r_74.toInt = -1 ∨ (sv_69 : Int32).toInt < (Mv 0).toInt)) := he_75
            have pf_70 : (sv_55 : Int32).toInt ≤ (sv_69 : Int32).toInt ∧ (sv_69 : Int32).toInt ≤ ((Mv 0) : Int32).toInt := pf_70
            have pf_71 : NSq (Mf 1) (Mv 0) sv_69 := pf_71
            have pf_72 : Stl (Mf 1) (Mv 0) sv_55 sv_69 := pf_72
            have ar_pf_72 := Stl.or pf_72 pf_57
            have pf_73 : SkR (rB (Mf 1) (Mv 0)) sv_55 sv_69 := pf_73
            refine W.eq (g2 := F0 m 74 ls [.int r_74]) rfl ?_
            replace hP : va_P D classes [((Ma 3), .inl (tc 0, 7, .inl g_1)), ((Ma 6), .inl (tc 0, 95, .inl vy_30)), ((Ma 0), .inr (12, [.ref (Ma 1), .int (Mv 0), .int (Mv 1), .ref (Ma 2), .ref (Ma 3), .ref (Ma 4), .ref (Ma 5), .ref (Ma 6), .int sv_69, .int vy_27, .int vy_28, .int 6, .int 0, .int (Mv 7), .int vy_29, .ref (Ma 7), .int (Mv 9), .ref (Ma 8), .int (Mv 10), .ref (Ma 9), .ref (Ma 10), .int (Mv 11), .int (Mv 12), .int (Mv 13), .ref (Ma 11), .int (Mv 14), .ref (Ma 12), .ref (Ma 13), .ref (Ma 14), .ref (Ma 15), .ref (Ma 16), .long (Mj 0), .ref (Ma 17), .ref (Ma 18), .ref (Ma 19), .ref (Ma 20)])), ((Ma 1), .inl (tc 2, 400, .inl (Mf 1)))] H := hP₀
            replace hD : va_D A [((Ma 3), .inl (tc 0, 7, .inl g_1)), ((Ma 6), .inl (tc 0, 95, .inl vy_30)), ((Ma 0), .inr (12, [.ref (Ma 1), .int (Mv 0), .int (Mv 1), .ref (Ma 2), .ref (Ma 3), .ref (Ma 4), .ref (Ma 5), .ref (Ma 6), .int sv_69, .int vy_27, .int vy_28, .int 6, .int 0, .int (Mv 7), .int vy_29, .ref (Ma 7), .int (Mv 9), .ref (Ma 8), .int (Mv 10), .ref (Ma 9), .ref (Ma 10), .int (Mv 11), .int (Mv 12), .int (Mv 13), .ref (Ma 11), .int (Mv 14), .ref (Ma 12), .ref (Ma 13), .ref (Ma 14), .ref (Ma 15), .ref (Ma 16), .long (Mj 0), .ref (Ma 17), .ref (Ma 18), .ref (Ma 19), .ref (Ma 20)])), ((Ma 1), .inl (tc 2, 400, .inl (Mf 1)))] := hD₀
            replace hS := hS₀
            clear hP₀ hD₀ hS₀
            have hE_77 := SkR.eqB pf_59 pf_73
            refine lv_iconst (v := (-1)) hx hb dX12_readsAll_74 (by decide) ?_
            refine lv_icmp_eq (tgt := 88) hx hb dX12_readsAll_75 (by decide) (fun c_78 => ?_) (fun c_78 => ?_)
            · skip
              refine lv_aload_n hx hb dX12_readsAll_88 rfl (lv_at hl 1 rfl) ?_
              refine lv_iconst (v := 0) hx hb dX12_readsAll_89 (by decide) ?_
              refine pf_X12_77 hx hb hts hown hK hP hD hS 2 rfl (Nat.le_of_ble_eq_true rfl) rfl rfl dX12_readsAll_90 (fun H locs hP₀ hD₀ hS₀ => ?_)
              replace hP : va_P D classes [((Ma 3), .inl (tc 0, 7, .inl g_1)), ((Ma 6), .inl (tc 0, 95, .inl vy_30)), ((Ma 0), .inr (12, [.ref (Ma 1), .int 0, .int (Mv 1), .ref (Ma 2), .ref (Ma 3), .ref (Ma 4), .ref (Ma 5), .ref (Ma 6), .int sv_69, .int vy_27, .int vy_28, .int 6, .int 0, .int (Mv 7), .int vy_29, .ref (Ma 7), .int (Mv 9), .ref (Ma 8), .int (Mv 10), .ref (Ma 9), .ref (Ma 10), .int (Mv 11), .int (Mv 12), .int (Mv 13), .ref (Ma 11), .int (Mv 14), .ref (Ma 12), .ref (Ma 13), .ref (Ma 14), .ref (Ma 15), .ref (Ma 16), .long (Mj 0), .ref (Ma 17), .ref (Ma 18), .ref (Ma 19), .ref (Ma 20)])), ((Ma 1), .inl (tc 2, 400, .inl (Mf 1)))] H := hP₀
              replace hD : va_D A [((Ma 3), .inl (tc 0, 7, .inl g_1)), ((Ma 6), .inl (tc 0, 95, .inl vy_30)), ((Ma 0), .inr (12, [.ref (Ma 1), .int 0, .int (Mv 1), .ref (Ma 2), .ref (Ma 3), .ref (Ma 4), .ref (Ma 5), .ref (Ma 6), .int sv_69, .int vy_27, .int vy_28, .int 6, .int 0, .int (Mv 7), .int vy_29, .ref (Ma 7), .int (Mv 9), .ref (Ma 8), .int (Mv 10), .ref (Ma 9), .ref (Ma 10), .int (Mv 11), .int (Mv 12), .int (Mv 13), .ref (Ma 11), .int (Mv 14), .ref (Ma 12), .ref (Ma 13), .ref (Ma 14), .ref (Ma 15), .ref (Ma 16), .long (Mj 0), .ref (Ma 17), .ref (Ma 18), .ref (Ma 19), .ref (Ma 20)])), ((Ma 1), .inl (tc 2, 400, .inl (Mf 1)))] := hD₀
              replace hS := hS₀
              clear hP₀ hD₀ hS₀
              refine lv_aload_n hx hb dX12_readsAll_93 rfl (lv_at hl 1 rfl) ?_
              refine gf_X12_84 hx hb hts hown hK hP 2 rfl rfl dX12_readsAll_94 ?_
              refine lv_if_ne (tgt := 104) hx hb dX12_readsAll_97 (by decide) (fun c_79 => ?_) (fun c_79 => ?_)
              · skip
                refine lv_iconst (v := 0) hx hb dX12_readsAll_104 (by decide) ?_
                have hr_80 : (vy_25 : Int32).toInt = 1 := by
                  have z_1 : ¬ (vy_25 : Int32).toInt = (0 : Int32).toInt := fun z => c_39 (Int32.toInt_inj.mp z)
                  have z_2 : ¬ (r_60 : Int32).toInt = (59 : Int32).toInt := fun z => c_63 (Int32.toInt_inj.mp z)
                  have z_3 : ¬ (vy_25 : Int32).toInt = (0 : Int32).toInt := fun z => c_64 (Int32.toInt_inj.mp z)
                  have z_4 := congrArg Int32.toInt c_78
                  have z_5 : ¬ (vy_27 : Int32).toInt = (0 : Int32).toInt := fun z => c_79 (Int32.toInt_inj.mp z)
                  have y_m1 : (-1 : Int32).toInt = -1 := by decide
                  have y_0 : (0 : Int32).toInt = 0 := by decide
                  have y_59 : (59 : Int32).toInt = 59 := by decide
                  omega
                have hr_81 : (rB (Mf 1) (Mv 0) (sv_69 : Int32).toInt.toNat = -1) := by
                  have z_1 : ¬ (vy_25 : Int32).toInt = (0 : Int32).toInt := fun z => c_39 (Int32.toInt_inj.mp z)
                  have z_2 : ¬ (r_60 : Int32).toInt = (59 : Int32).toInt := fun z => c_63 (Int32.toInt_inj.mp z)
                  have z_3 : ¬ (vy_25 : Int32).toInt = (0 : Int32).toInt := fun z => c_64 (Int32.toInt_inj.mp z)
                  have z_4 := congrArg Int32.toInt c_78
                  have z_5 : ¬ (vy_27 : Int32).toInt = (0 : Int32).toInt := fun z => c_79 (Int32.toInt_inj.mp z)
                  have y_m1 : (-1 : Int32).toInt = -1 := by decide
                  have y_0 : (0 : Int32).toInt = 0 := by decide
                  have y_59 : (59 : Int32).toInt = 59 := by decide
                  omega
                have hp_82 : (((0 : Int32).toInt = 0 ∧ ¬ (vy_27 : Int32).toInt = 0) ∨ ((0 : Int32).toInt = 1 ∧ (vy_27 : Int32).toInt = 0)) := by
                  have z_1 : ¬ (vy_25 : Int32).toInt = (0 : Int32).toInt := fun z => c_39 (Int32.toInt_inj.mp z)
                  have z_2 : ¬ (r_60 : Int32).toInt = (59 : Int32).toInt := fun z => c_63 (Int32.toInt_inj.mp z)
                  have z_3 : ¬ (vy_25 : Int32).toInt = (0 : Int32).toInt := fun z => c_64 (Int32.toInt_inj.mp z)
                  have z_4 := congrArg Int32.toInt c_78
                  have z_5 : ¬ (vy_27 : Int32).toInt = (0 : Int32).toInt := fun z => c_79 (Int32.toInt_inj.mp z)
                  have y_m1 : (-1 : Int32).toInt = -1 := by decide
                  have y_0 : (0 : Int32).toInt = 0 := by decide
                  have y_59 : (59 : Int32).toInt = 59 := by decide
                  omega
                exact retI (v := 0) hx hb hr hlk (rfl) hP hD hS (sv_69, vy_27, vy_28, vy_29, g_1, vy_30) ⟨_, rfl, hp_82, (QkM.rend pf_37 hr_80 (SkR.trans pf_59 pf_73) hr_81), (fun h => absurd h (by decide))⟩ [2, 3, 0, 1] rfl rfl dX12_readsAll_105 (Nat.le_of_ble_eq_true rfl) (Nat.le_of_ble_eq_true rfl) rfl
              · skip
                refine lv_iconst (v := 1) hx hb dX12_readsAll_100 (by decide) ?_
                refine lv_goto (tgt := 105) hx hb dX12_readsAll_101 (by decide) ?_
                have hr_83 : (vy_25 : Int32).toInt = 1 := by
                  have z_1 : ¬ (vy_25 : Int32).toInt = (0 : Int32).toInt := fun z => c_39 (Int32.toInt_inj.mp z)
                  have z_2 : ¬ (r_60 : Int32).toInt = (59 : Int32).toInt := fun z => c_63 (Int32.toInt_inj.mp z)
                  have z_3 : ¬ (vy_25 : Int32).toInt = (0 : Int32).toInt := fun z => c_64 (Int32.toInt_inj.mp z)
                  have z_4 := congrArg Int32.toInt c_78
                  have z_5 := congrArg Int32.toInt c_79
                  have y_m1 : (-1 : Int32).toInt = -1 := by decide
                  have y_0 : (0 : Int32).toInt = 0 := by decide
                  have y_59 : (59 : Int32).toInt = 59 := by decide
                  omega
                have hr_84 : (rB (Mf 1) (Mv 0) (sv_69 : Int32).toInt.toNat = -1) := by
                  have z_1 : ¬ (vy_25 : Int32).toInt = (0 : Int32).toInt := fun z => c_39 (Int32.toInt_inj.mp z)
                  have z_2 : ¬ (r_60 : Int32).toInt = (59 : Int32).toInt := fun z => c_63 (Int32.toInt_inj.mp z)
                  have z_3 : ¬ (vy_25 : Int32).toInt = (0 : Int32).toInt := fun z => c_64 (Int32.toInt_inj.mp z)
                  have z_4 := congrArg Int32.toInt c_78
                  have z_5 := congrArg Int32.toInt c_79
                  have y_m1 : (-1 : Int32).toInt = -1 := by decide
                  have y_0 : (0 : Int32).toInt = 0 := by decide
                  have y_59 : (59 : Int32).toInt = 59 := by decide
                  omega
                have hp_85 : (((1 : Int32).toInt = 0 ∧ ¬ (vy_27 : Int32).toInt = 0) ∨ ((1 : Int32).toInt = 1 ∧ (vy_27 : Int32).toInt = 0)) := by
                  have z_1 : ¬ (vy_25 : Int32).toInt = (0 : Int32).toInt := fun z => c_39 (Int32.toInt_inj.mp z)
                  have z_2 : ¬ (r_60 : Int32).toInt = (59 : Int32).toInt := fun z => c_63 (Int32.toInt_inj.mp z)
                  have z_3 : ¬ (vy_25 : Int32).toInt = (0 : Int32).toInt := fun z => c_64 (Int32.toInt_inj.mp z)
                  have z_4 := congrArg Int32.toInt c_78
                  have z_5 := congrArg Int32.toInt c_79
                  have y_m1 : (-1 : Int32).toInt = -1 := by decide
                  have y_0 : (0 : Int32).toInt = 0 := by decide
                  have y_59 : (59 : Int32).toInt = 59 := by decide
                  have y_1 : (1 : Int32).toInt = 1 := by decide
                  have yr : (1 : Int32).toInt = 1 := by decide
                  omega
                have hm_86 : (1 : Int32).toInt = 1 → (RdO vy_30) := by
                  intro h1r
                  exact pf_50
                exact retI (v := 1) hx hb hr hlk (rfl) hP hD hS (sv_69, vy_27, vy_28, vy_29, g_1, vy_30) ⟨_, rfl, hp_85, (QkM.rend pf_37 hr_83 (SkR.trans pf_59 pf_73) hr_84), hm_86⟩ [2, 3, 0, 1] rfl rfl dX12_readsAll_105 (Nat.le_of_ble_eq_true rfl) (Nat.le_of_ble_eq_true rfl) rfl
            · skip
              refine lv_aload_n hx hb dX12_readsAll_78 rfl (lv_at hl 1 rfl) ?_
              refine lv_iconst (v := 0) hx hb dX12_readsAll_79 (by decide) ?_
              refine lv_aload_n hx hb dX12_readsAll_80 rfl (lv_at hl 1 rfl) ?_
              refine gf_X12_87 hx hb hts hown hK hP 2 rfl rfl dX12_readsAll_81 ?_
              have ha_87 : 0 ≤ (0 : Int32).toInt ∧ (0 : Int32).toInt ≤ 4 := by
                have z_1 : ¬ (vy_25 : Int32).toInt = (0 : Int32).toInt := fun z => c_39 (Int32.toInt_inj.mp z)
                have z_2 : ¬ (r_60 : Int32).toInt = (59 : Int32).toInt := fun z => c_63 (Int32.toInt_inj.mp z)
                have z_3 : ¬ (vy_25 : Int32).toInt = (0 : Int32).toInt := fun z => c_64 (Int32.toInt_inj.mp z)
                have z_4 : ¬ (r_74 : Int32).toInt = ((-1) : Int32).toInt := fun z => c_78 (Int32.toInt_inj.mp z)
                have y_m1 : (-1 : Int32).toInt = -1 := by decide
                have y_0 : (0 : Int32).toInt = 0 := by decide
                have y_59 : (59 : Int32).toInt = 59 := by decide
                omega
              have ha_88 : 0 ≤ sv_69.toInt ∧ sv_69.toInt ≤ 400 := by
                have z_1 : ¬ (vy_25 : Int32).toInt = (0 : Int32).toInt := fun z => c_39 (Int32.toInt_inj.mp z)
                have z_2 : ¬ (r_60 : Int32).toInt = (59 : Int32).toInt := fun z => c_63 (Int32.toInt_inj.mp z)
                have z_3 : ¬ (vy_25 : Int32).toInt = (0 : Int32).toInt := fun z => c_64 (Int32.toInt_inj.mp z)
                have z_4 : ¬ (r_74 : Int32).toInt = ((-1) : Int32).toInt := fun z => c_78 (Int32.toInt_inj.mp z)
                have y_m1 : (-1 : Int32).toInt = -1 := by decide
                have y_0 : (0 : Int32).toInt = 0 := by decide
                have y_59 : (59 : Int32).toInt = 59 := by decide
                omega
              have ha_89 : (vy_27 : Int32).toInt = 0 := by
                have z_1 : ¬ (vy_25 : Int32).toInt = (0 : Int32).toInt := fun z => c_39 (Int32.toInt_inj.mp z)
                have z_2 : ¬ (r_60 : Int32).toInt = (59 : Int32).toInt := fun z => c_63 (Int32.toInt_inj.mp z)
                have z_3 : ¬ (vy_25 : Int32).toInt = (0 : Int32).toInt := fun z => c_64 (Int32.toInt_inj.mp z)
                have z_4 : ¬ (r_74 : Int32).toInt = ((-1) : Int32).toInt := fun z => c_78 (Int32.toInt_inj.mp z)
                have y_m1 : (-1 : Int32).toInt = -1 := by decide
                have y_0 : (0 : Int32).toInt = 0 := by decide
                have y_59 : (59 : Int32).toInt = 59 := by decide
                omega
              refine cV (a := (Ma 0)) (As := [.int 0, .int sv_69]) (rest := []) (wr := [((Ma 3), .inl (tc 0, 7, .inl g_1)), ((Ma 6), .inl (tc 0, 95, .inl vy_30)), ((Ma 1), .inl (tc 2, 400, .inl (Mf 1)))]) ⟨hx, hb, hml, hown, hts⟩ hK hX hA (cu_fX12_fails l D tc sk (Ma 0) (Ma 1) (Ma 2) (Ma 3) (Ma 4) (Ma 5) (Ma 6) (Ma 7) (Ma 8) (Ma 9) (Ma 10) (Ma 11) (Ma 12) (Ma 13) (Ma 14) (Ma 15) (Ma 16) (Ma 17) (Ma 18) (Ma 19) (Ma 20) (Mv 0) (Mv 1) sv_69 vy_27 vy_28 6 0 (Mv 7) vy_29 (Mv 9) (Mv 10) (Mv 11) (Mv 12) (Mv 13) (Mv 14) (Mj 0) 0 sv_69 ha_87 ha_88 ha_89) k_1232 k_1229 k_1231 k_31 k_106 pl_X12_fails ⟨Nat.le_of_ble_eq_true rfl, Nat.le_of_ble_eq_true rfl⟩ rfl rfl (va_recv hK hP (ci := 12) (q0 := 2) rfl rfl) hP hD hS [2] [0, 1, 3] rfl rfl rfl rfl rfl (by decide) rfl hl.1 rfl (Nat.le_of_ble_eq_true rfl) dX12_readsAll_84 ⟨Nat.le_of_ble_eq_true rfl, Nat.le_of_ble_eq_true rfl⟩ (fun v_90 u_91 H locs hv_92 hP₀ hD₀ hS₀ => ?_)
              obtain ⟨sv_93, rfl⟩ : ∃ z, z = u_91 := ⟨_, rfl⟩
              obtain ⟨r_96, rfl, he_97, pf_94, pf_95⟩ := hv_92
              have he_97 : r_96.toInt = 0 := he_97
              have pf_94 : ¬ (sv_93 : Int32).toInt = 0 := pf_94
              have pf_95 : (sv_93 : Int32).toInt = 1 + 8 * sv_69.toInt + (0 : Int32).toInt := pf_95
              refine W.eq (g2 := F0 m 87 ls [.int r_96]) rfl ?_
              replace hP : va_P D classes [((Ma 3), .inl (tc 0, 7, .inl g_1)), ((Ma 6), .inl (tc 0, 95, .inl vy_30)), ((Ma 1), .inl (tc 2, 400, .inl (Mf 1))), ((Ma 0), .inr (12, [.ref (Ma 1), .int (Mv 0), .int (Mv 1), .ref (Ma 2), .ref (Ma 3), .ref (Ma 4), .ref (Ma 5), .ref (Ma 6), .int sv_69, .int sv_93, .int vy_28, .int 6, .int 0, .int (Mv 7), .int vy_29, .ref (Ma 7), .int (Mv 9), .ref (Ma 8), .int (Mv 10), .ref (Ma 9), .ref (Ma 10), .int (Mv 11), .int (Mv 12), .int (Mv 13), .ref (Ma 11), .int (Mv 14), .ref (Ma 12), .ref (Ma 13), .ref (Ma 14), .ref (Ma 15), .ref (Ma 16), .long (Mj 0), .ref (Ma 17), .ref (Ma 18), .ref (Ma 19), .ref (Ma 20)]))] H := hP₀
              replace hD : va_D A [((Ma 3), .inl (tc 0, 7, .inl g_1)), ((Ma 6), .inl (tc 0, 95, .inl vy_30)), ((Ma 1), .inl (tc 2, 400, .inl (Mf 1))), ((Ma 0), .inr (12, [.ref (Ma 1), .int (Mv 0), .int (Mv 1), .ref (Ma 2), .ref (Ma 3), .ref (Ma 4), .ref (Ma 5), .ref (Ma 6), .int sv_69, .int sv_93, .int vy_28, .int 6, .int 0, .int (Mv 7), .int vy_29, .ref (Ma 7), .int (Mv 9), .ref (Ma 8), .int (Mv 10), .ref (Ma 9), .ref (Ma 10), .int (Mv 11), .int (Mv 12), .int (Mv 13), .ref (Ma 11), .int (Mv 14), .ref (Ma 12), .ref (Ma 13), .ref (Ma 14), .ref (Ma 15), .ref (Ma 16), .long (Mj 0), .ref (Ma 17), .ref (Ma 18), .ref (Ma 19), .ref (Ma 20)]))] := hD₀
              replace hS := hS₀
              clear hP₀ hD₀ hS₀
              have yf_99 : (0 : Int32).toInt = 0 := by decide
              refine lv_pop hx hb dX12_readsAll_87 rfl ?_
              refine lv_aload_n hx hb dX12_readsAll_88 rfl (lv_at hl 1 rfl) ?_
              refine lv_iconst (v := 0) hx hb dX12_readsAll_89 (by decide) ?_
              refine pf_X12_77 hx hb hts hown hK hP hD hS 3 rfl (Nat.le_of_ble_eq_true rfl) rfl rfl dX12_readsAll_90 (fun H locs hP₀ hD₀ hS₀ => ?_)
              replace hP : va_P D classes [((Ma 3), .inl (tc 0, 7, .inl g_1)), ((Ma 6), .inl (tc 0, 95, .inl vy_30)), ((Ma 1), .inl (tc 2, 400, .inl (Mf 1))), ((Ma 0), .inr (12, [.ref (Ma 1), .int 0, .int (Mv 1), .ref (Ma 2), .ref (Ma 3), .ref (Ma 4), .ref (Ma 5), .ref (Ma 6), .int sv_69, .int sv_93, .int vy_28, .int 6, .int 0, .int (Mv 7), .int vy_29, .ref (Ma 7), .int (Mv 9), .ref (Ma 8), .int (Mv 10), .ref (Ma 9), .ref (Ma 10), .int (Mv 11), .int (Mv 12), .int (Mv 13), .ref (Ma 11), .int (Mv 14), .ref (Ma 12), .ref (Ma 13), .ref (Ma 14), .ref (Ma 15), .ref (Ma 16), .long (Mj 0), .ref (Ma 17), .ref (Ma 18), .ref (Ma 19), .ref (Ma 20)]))] H := hP₀
              replace hD : va_D A [((Ma 3), .inl (tc 0, 7, .inl g_1)), ((Ma 6), .inl (tc 0, 95, .inl vy_30)), ((Ma 1), .inl (tc 2, 400, .inl (Mf 1))), ((Ma 0), .inr (12, [.ref (Ma 1), .int 0, .int (Mv 1), .ref (Ma 2), .ref (Ma 3), .ref (Ma 4), .ref (Ma 5), .ref (Ma 6), .int sv_69, .int sv_93, .int vy_28, .int 6, .int 0, .int (Mv 7), .int vy_29, .ref (Ma 7), .int (Mv 9), .ref (Ma 8), .int (Mv 10), .ref (Ma 9), .ref (Ma 10), .int (Mv 11), .int (Mv 12), .int (Mv 13), .ref (Ma 11), .int (Mv 14), .ref (Ma 12), .ref (Ma 13), .ref (Ma 14), .ref (Ma 15), .ref (Ma 16), .long (Mj 0), .ref (Ma 17), .ref (Ma 18), .ref (Ma 19), .ref (Ma 20)]))] := hD₀
              replace hS := hS₀
              clear hP₀ hD₀ hS₀
              refine lv_aload_n hx hb dX12_readsAll_93 rfl (lv_at hl 1 rfl) ?_
              refine gf_X12_84 hx hb hts hown hK hP 3 rfl rfl dX12_readsAll_94 ?_
              refine lv_if_ne (tgt := 104) hx hb dX12_readsAll_97 (by decide) (fun c_100 => ?_) (fun c_100 => ?_)
              · skip
                refine lv_iconst (v := 0) hx hb dX12_readsAll_104 (by decide) ?_
                have hr_101 : (vy_25 : Int32).toInt = 1 := by
                  have z_1 : ¬ (vy_25 : Int32).toInt = (0 : Int32).toInt := fun z => c_39 (Int32.toInt_inj.mp z)
                  have z_2 : ¬ (r_60 : Int32).toInt = (59 : Int32).toInt := fun z => c_63 (Int32.toInt_inj.mp z)
                  have z_3 : ¬ (vy_25 : Int32).toInt = (0 : Int32).toInt := fun z => c_64 (Int32.toInt_inj.mp z)
                  have z_4 : ¬ (r_74 : Int32).toInt = ((-1) : Int32).toInt := fun z => c_78 (Int32.toInt_inj.mp z)
                  have z_5 : ¬ (sv_93 : Int32).toInt = (0 : Int32).toInt := fun z => c_100 (Int32.toInt_inj.mp z)
                  have y_m1 : (-1 : Int32).toInt = -1 := by decide
                  have y_0 : (0 : Int32).toInt = 0 := by decide
                  have y_59 : (59 : Int32).toInt = 59 := by decide
                  omega
                have hr_102 : ¬ (rB (Mf 1) (Mv 0) (sv_69 : Int32).toInt.toNat = 59) := by
                  have z_1 : ¬ (vy_25 : Int32).toInt = (0 : Int32).toInt := fun z => c_39 (Int32.toInt_inj.mp z)
                  have z_2 : ¬ (r_60 : Int32).toInt = (59 : Int32).toInt := fun z => c_63 (Int32.toInt_inj.mp z)
                  have z_3 : ¬ (vy_25 : Int32).toInt = (0 : Int32).toInt := fun z => c_64 (Int32.toInt_inj.mp z)
                  have z_4 : ¬ (r_74 : Int32).toInt = ((-1) : Int32).toInt := fun z => c_78 (Int32.toInt_inj.mp z)
                  have z_5 : ¬ (sv_93 : Int32).toInt = (0 : Int32).toInt := fun z => c_100 (Int32.toInt_inj.mp z)
                  have y_m1 : (-1 : Int32).toInt = -1 := by decide
                  have y_0 : (0 : Int32).toInt = 0 := by decide
                  have y_59 : (59 : Int32).toInt = 59 := by decide
                  omega
                have hr_103 : ¬ (rB (Mf 1) (Mv 0) (sv_69 : Int32).toInt.toNat = -1) := by
                  have z_1 : ¬ (vy_25 : Int32).toInt = (0 : Int32).toInt := fun z => c_39 (Int32.toInt_inj.mp z)
                  have z_2 : ¬ (r_60 : Int32).toInt = (59 : Int32).toInt := fun z => c_63 (Int32.toInt_inj.mp z)
                  have z_3 : ¬ (vy_25 : Int32).toInt = (0 : Int32).toInt := fun z => c_64 (Int32.toInt_inj.mp z)
                  have z_4 : ¬ (r_74 : Int32).toInt = ((-1) : Int32).toInt := fun z => c_78 (Int32.toInt_inj.mp z)
                  have z_5 : ¬ (sv_93 : Int32).toInt = (0 : Int32).toInt := fun z => c_100 (Int32.toInt_inj.mp z)
                  have y_m1 : (-1 : Int32).toInt = -1 := by decide
                  have y_0 : (0 : Int32).toInt = 0 := by decide
                  have y_59 : (59 : Int32).toInt = 59 := by decide
                  omega
                have hi_104 : (sv_93 : Int32).toInt = 1 + 8 * (sv_69 : Int32).toInt := by
                  have z_1 : ¬ (vy_25 : Int32).toInt = (0 : Int32).toInt := fun z => c_39 (Int32.toInt_inj.mp z)
                  have z_2 : ¬ (r_60 : Int32).toInt = (59 : Int32).toInt := fun z => c_63 (Int32.toInt_inj.mp z)
                  have z_3 : ¬ (vy_25 : Int32).toInt = (0 : Int32).toInt := fun z => c_64 (Int32.toInt_inj.mp z)
                  have z_4 : ¬ (r_74 : Int32).toInt = ((-1) : Int32).toInt := fun z => c_78 (Int32.toInt_inj.mp z)
                  have z_5 : ¬ (sv_93 : Int32).toInt = (0 : Int32).toInt := fun z => c_100 (Int32.toInt_inj.mp z)
                  have y_m1 : (-1 : Int32).toInt = -1 := by decide
                  have y_0 : (0 : Int32).toInt = 0 := by decide
                  have y_59 : (59 : Int32).toInt = 59 := by decide
                  omega
                have hp_105 : (((0 : Int32).toInt = 0 ∧ ¬ (sv_93 : Int32).toInt = 0) ∨ ((0 : Int32).toInt = 1 ∧ (sv_93 : Int32).toInt = 0)) := by
                  have z_1 : ¬ (vy_25 : Int32).toInt = (0 : Int32).toInt := fun z => c_39 (Int32.toInt_inj.mp z)
                  have z_2 : ¬ (r_60 : Int32).toInt = (59 : Int32).toInt := fun z => c_63 (Int32.toInt_inj.mp z)
                  have z_3 : ¬ (vy_25 : Int32).toInt = (0 : Int32).toInt := fun z => c_64 (Int32.toInt_inj.mp z)
                  have z_4 : ¬ (r_74 : Int32).toInt = ((-1) : Int32).toInt := fun z => c_78 (Int32.toInt_inj.mp z)
                  have z_5 : ¬ (sv_93 : Int32).toInt = (0 : Int32).toInt := fun z => c_100 (Int32.toInt_inj.mp z)
                  have y_m1 : (-1 : Int32).toInt = -1 := by decide
                  have y_0 : (0 : Int32).toInt = 0 := by decide
                  have y_59 : (59 : Int32).toInt = 59 := by decide
                  omega
                exact retI (v := 0) hx hb hr hlk (rfl) hP hD hS (sv_69, sv_93, vy_28, vy_29, g_1, vy_30) ⟨_, rfl, hp_105, (QkM.rmore pf_37 hr_101 (SkR.trans pf_59 pf_73) hr_102 hr_103 hi_104), (fun h => absurd h (by decide))⟩ [3, 2, 0, 1] rfl rfl dX12_readsAll_105 (Nat.le_of_ble_eq_true rfl) (Nat.le_of_ble_eq_true rfl) rfl
              · skip
                refine lv_iconst (v := 1) hx hb dX12_readsAll_100 (by decide) ?_
                refine lv_goto (tgt := 105) hx hb dX12_readsAll_101 (by decide) ?_
                have hr_106 : (vy_25 : Int32).toInt = 1 := by
                  have z_1 : ¬ (vy_25 : Int32).toInt = (0 : Int32).toInt := fun z => c_39 (Int32.toInt_inj.mp z)
                  have z_2 : ¬ (r_60 : Int32).toInt = (59 : Int32).toInt := fun z => c_63 (Int32.toInt_inj.mp z)
                  have z_3 : ¬ (vy_25 : Int32).toInt = (0 : Int32).toInt := fun z => c_64 (Int32.toInt_inj.mp z)
                  have z_4 : ¬ (r_74 : Int32).toInt = ((-1) : Int32).toInt := fun z => c_78 (Int32.toInt_inj.mp z)
                  have z_5 := congrArg Int32.toInt c_100
                  have y_m1 : (-1 : Int32).toInt = -1 := by decide
                  have y_0 : (0 : Int32).toInt = 0 := by decide
                  have y_59 : (59 : Int32).toInt = 59 := by decide
                  omega
                have hr_107 : ¬ (rB (Mf 1) (Mv 0) (sv_69 : Int32).toInt.toNat = 59) := by
                  have z_1 : ¬ (vy_25 : Int32).toInt = (0 : Int32).toInt := fun z => c_39 (Int32.toInt_inj.mp z)
                  have z_2 : ¬ (r_60 : Int32).toInt = (59 : Int32).toInt := fun z => c_63 (Int32.toInt_inj.mp z)
                  have z_3 : ¬ (vy_25 : Int32).toInt = (0 : Int32).toInt := fun z => c_64 (Int32.toInt_inj.mp z)
                  have z_4 : ¬ (r_74 : Int32).toInt = ((-1) : Int32).toInt := fun z => c_78 (Int32.toInt_inj.mp z)
                  have z_5 := congrArg Int32.toInt c_100
                  have y_m1 : (-1 : Int32).toInt = -1 := by decide
                  have y_0 : (0 : Int32).toInt = 0 := by decide
                  have y_59 : (59 : Int32).toInt = 59 := by decide
                  omega
                have hr_108 : ¬ (rB (Mf 1) (Mv 0) (sv_69 : Int32).toInt.toNat = -1) := by
                  have z_1 : ¬ (vy_25 : Int32).toInt = (0 : Int32).toInt := fun z => c_39 (Int32.toInt_inj.mp z)
                  have z_2 : ¬ (r_60 : Int32).toInt = (59 : Int32).toInt := fun z => c_63 (Int32.toInt_inj.mp z)
                  have z_3 : ¬ (vy_25 : Int32).toInt = (0 : Int32).toInt := fun z => c_64 (Int32.toInt_inj.mp z)
                  have z_4 : ¬ (r_74 : Int32).toInt = ((-1) : Int32).toInt := fun z => c_78 (Int32.toInt_inj.mp z)
                  have z_5 := congrArg Int32.toInt c_100
                  have y_m1 : (-1 : Int32).toInt = -1 := by decide
                  have y_0 : (0 : Int32).toInt = 0 := by decide
                  have y_59 : (59 : Int32).toInt = 59 := by decide
                  omega
                have hi_109 : (sv_93 : Int32).toInt = 1 + 8 * (sv_69 : Int32).toInt := by
                  have z_1 : ¬ (vy_25 : Int32).toInt = (0 : Int32).toInt := fun z => c_39 (Int32.toInt_inj.mp z)
                  have z_2 : ¬ (r_60 : Int32).toInt = (59 : Int32).toInt := fun z => c_63 (Int32.toInt_inj.mp z)
                  have z_3 : ¬ (vy_25 : Int32).toInt = (0 : Int32).toInt := fun z => c_64 (Int32.toInt_inj.mp z)
                  have z_4 : ¬ (r_74 : Int32).toInt = ((-1) : Int32).toInt := fun z => c_78 (Int32.toInt_inj.mp z)
                  have z_5 := congrArg Int32.toInt c_100
                  have y_m1 : (-1 : Int32).toInt = -1 := by decide
                  have y_0 : (0 : Int32).toInt = 0 := by decide
                  have y_59 : (59 : Int32).toInt = 59 := by decide
                  omega
                have hp_110 : (((1 : Int32).toInt = 0 ∧ ¬ (sv_93 : Int32).toInt = 0) ∨ ((1 : Int32).toInt = 1 ∧ (sv_93 : Int32).toInt = 0)) := by
                  have z_1 : ¬ (vy_25 : Int32).toInt = (0 : Int32).toInt := fun z => c_39 (Int32.toInt_inj.mp z)
                  have z_2 : ¬ (r_60 : Int32).toInt = (59 : Int32).toInt := fun z => c_63 (Int32.toInt_inj.mp z)
                  have z_3 : ¬ (vy_25 : Int32).toInt = (0 : Int32).toInt := fun z => c_64 (Int32.toInt_inj.mp z)
                  have z_4 : ¬ (r_74 : Int32).toInt = ((-1) : Int32).toInt := fun z => c_78 (Int32.toInt_inj.mp z)
                  have z_5 := congrArg Int32.toInt c_100
                  have y_m1 : (-1 : Int32).toInt = -1 := by decide
                  have y_0 : (0 : Int32).toInt = 0 := by decide
                  have y_59 : (59 : Int32).toInt = 59 := by decide
                  have y_1 : (1 : Int32).toInt = 1 := by decide
                  have yr : (1 : Int32).toInt = 1 := by decide
                  omega
                have hm_111 : (1 : Int32).toInt = 1 → (RdO vy_30) := by
                  intro h1r
                  exact pf_50
                exact retI (v := 1) hx hb hr hlk (rfl) hP hD hS (sv_69, sv_93, vy_28, vy_29, g_1, vy_30) ⟨_, rfl, hp_110, (QkM.rmore pf_37 hr_106 (SkR.trans pf_59 pf_73) hr_107 hr_108 hi_109), hm_111⟩ [3, 2, 0, 1] rfl rfl dX12_readsAll_105 (Nat.le_of_ble_eq_true rfl) (Nat.le_of_ble_eq_true rfl) rfl
        · skip
          refine lv_aload_n hx hb dX12_readsAll_48 rfl (lv_at hl 1 rfl) ?_
          refine lv_dup hx hb dX12_readsAll_49 rfl ?_
          refine gf_X12_87 hx hb hts hown hK hP 2 rfl rfl dX12_readsAll_50 ?_
          refine lv_iconst (v := 1) hx hb dX12_readsAll_53 (by decide) ?_
          refine lv_iadd hx hb dX12_readsAll_54 ?_
          refine lv_topi (fun x_112 ex_112 => ?_)
          refine pf_X12_87 hx hb hts hown hK hP hD hS 2 rfl (Nat.le_of_ble_eq_true rfl) rfl rfl dX12_readsAll_55 (fun H locs hP₀ hD₀ hS₀ => ?_)
          replace hP : va_P D classes [((Ma 3), .inl (tc 0, 7, .inl g_1)), ((Ma 6), .inl (tc 0, 95, .inl vy_30)), ((Ma 0), .inr (12, [.ref (Ma 1), .int (Mv 0), .int (Mv 1), .ref (Ma 2), .ref (Ma 3), .ref (Ma 4), .ref (Ma 5), .ref (Ma 6), .int x_112, .int vy_27, .int vy_28, .int 6, .int 0, .int (Mv 7), .int vy_29, .ref (Ma 7), .int (Mv 9), .ref (Ma 8), .int (Mv 10), .ref (Ma 9), .ref (Ma 10), .int (Mv 11), .int (Mv 12), .int (Mv 13), .ref (Ma 11), .int (Mv 14), .ref (Ma 12), .ref (Ma 13), .ref (Ma 14), .ref (Ma 15), .ref (Ma 16), .long (Mj 0), .ref (Ma 17), .ref (Ma 18), .ref (Ma 19), .ref (Ma 20)])), ((Ma 1), .inl (tc 2, 400, .inl (Mf 1)))] H := hP₀
          replace hD : va_D A [((Ma 3), .inl (tc 0, 7, .inl g_1)), ((Ma 6), .inl (tc 0, 95, .inl vy_30)), ((Ma 0), .inr (12, [.ref (Ma 1), .int (Mv 0), .int (Mv 1), .ref (Ma 2), .ref (Ma 3), .ref (Ma 4), .ref (Ma 5), .ref (Ma 6), .int x_112, .int vy_27, .int vy_28, .int 6, .int 0, .int (Mv 7), .int vy_29, .ref (Ma 7), .int (Mv 9), .ref (Ma 8), .int (Mv 10), .ref (Ma 9), .ref (Ma 10), .int (Mv 11), .int (Mv 12), .int (Mv 13), .ref (Ma 11), .int (Mv 14), .ref (Ma 12), .ref (Ma 13), .ref (Ma 14), .ref (Ma 15), .ref (Ma 16), .long (Mj 0), .ref (Ma 17), .ref (Ma 18), .ref (Ma 19), .ref (Ma 20)])), ((Ma 1), .inl (tc 2, 400, .inl (Mf 1)))] := hD₀
          replace hS := hS₀
          clear hP₀ hD₀ hS₀
          have tp_x_112 : (x_112 : Int32).toInt = (sv_55 : Int32).toInt + 1 := by
            have z_1 : ¬ (vy_25 : Int32).toInt = (0 : Int32).toInt := fun z => c_39 (Int32.toInt_inj.mp z)
            have z_2 := congrArg Int32.toInt c_63
            have y_0 : (0 : Int32).toInt = 0 := by decide
            have y_59 : (59 : Int32).toInt = 59 := by decide
            have y_1 : (1 : Int32).toInt = 1 := by decide
            have t_x_112 : x_112.toInt = (sv_55 : Int32).toInt + (1 : Int32).toInt := by rw [ex_112]; exact add_toInt (by omega) (by omega)
            omega
          refine lv_aload_n hx hb dX12_readsAll_58 rfl (lv_at hl 1 rfl) ?_
          have hr_117 : (vy_25 : Int32).toInt = 1 := by
            have z_1 : ¬ (vy_25 : Int32).toInt = (0 : Int32).toInt := fun z => c_39 (Int32.toInt_inj.mp z)
            have z_2 := congrArg Int32.toInt c_63
            have y_0 : (0 : Int32).toInt = 0 := by decide
            have y_59 : (59 : Int32).toInt = 59 := by decide
            omega
          obtain ⟨cq_113, pf_114, pf_115, pf_116⟩ := pf_37.1 hr_117
          have ha_118 : 0 ≤ (x_112 : Int32).toInt ∧ (x_112 : Int32).toInt ≤ ((Mv 0) : Int32).toInt ∧ ((Mv 0) : Int32).toInt ≤ 400 := by
            have z_1 : ¬ (vy_25 : Int32).toInt = (0 : Int32).toInt := fun z => c_39 (Int32.toInt_inj.mp z)
            have z_2 := congrArg Int32.toInt c_63
            have y_0 : (0 : Int32).toInt = 0 := by decide
            have y_59 : (59 : Int32).toInt = 59 := by decide
            have y_1 : (1 : Int32).toInt = 1 := by decide
            have t_x_112 : x_112.toInt = (sv_55 : Int32).toInt + (1 : Int32).toInt := by rw [ex_112]; exact add_toInt (by omega) (by omega)
            omega
          have ha_119 : (vy_27 : Int32).toInt = 0 := by
            have z_1 : ¬ (vy_25 : Int32).toInt = (0 : Int32).toInt := fun z => c_39 (Int32.toInt_inj.mp z)
            have z_2 := congrArg Int32.toInt c_63
            have y_0 : (0 : Int32).toInt = 0 := by decide
            have y_59 : (59 : Int32).toInt = 59 := by decide
            omega
          have ha_120 : (((vy_30 0).toInt = 0 ∧ vy_29.toInt = 0) ∨ ((vy_30 0).toInt = 1 ∧ 1 ≤ vy_29.toInt ∧ vy_29.toInt ≤ 40)) := by
            have z_1 : ¬ (vy_25 : Int32).toInt = (0 : Int32).toInt := fun z => c_39 (Int32.toInt_inj.mp z)
            have z_2 := congrArg Int32.toInt c_63
            have y_0 : (0 : Int32).toInt = 0 := by decide
            have y_59 : (59 : Int32).toInt = 59 := by decide
            omega
          refine cV (a := (Ma 0)) (As := []) (rest := []) (wr := []) ⟨hx, hb, hml, hown, hts⟩ hK hX hA (cu_zX12_clauseHere_b l D tc sk (Ma 0) (Ma 1) (Ma 2) (Ma 3) (Ma 4) (Ma 5) (Ma 6) (Ma 7) (Ma 8) (Ma 9) (Ma 10) (Ma 11) (Ma 12) (Ma 13) (Ma 14) (Ma 15) (Ma 16) (Ma 17) (Ma 18) (Ma 19) (Ma 20) (Mv 0) (Mv 1) x_112 vy_27 vy_28 0 (Mv 7) vy_29 (Mv 9) (Mv 10) (Mv 11) (Mv 12) (Mv 13) (Mv 14) (Mf 1) g_1 vy_30 (Mj 0) cq_113 ha_118 pf_50 h_bs ha_119 ha_120 pf_115) k_1207 k_1204 k_1206 k_26 k_106 pl_X12_clauseHere ⟨Nat.le_of_ble_eq_true rfl, Nat.le_of_ble_eq_true rfl⟩ rfl rfl (va_recv hK hP (ci := 12) (q0 := 2) rfl rfl) hP hD hS [2, 3, 0, 1] [] rfl rfl rfl rfl rfl (by decide) rfl hl.1 rfl (Nat.le_of_ble_eq_true rfl) dX12_readsAll_59 ⟨Nat.le_of_ble_eq_true rfl, Nat.le_of_ble_eq_true rfl⟩ (fun v_121 u_122 H locs hv_123 hP₀ hD₀ hS₀ => ?_)
          obtain ⟨sv_124, sv_125, sv_126, sv_127, sv_128⟩ := u_122
          obtain ⟨r_130, rfl, he_131, pf_129, hm_133, hm_134⟩ := hv_123
          have he_131 : ((r_130.toInt = 0 ∧ ¬ (sv_125 : Int32).toInt = 0) ∨ (r_130.toInt = 1 ∧ (sv_128 0).toInt = 1 ∧ (sv_125 : Int32).toInt = 0 ∧ (sv_127 : Int32).toInt = vy_29.toInt + 1 ∧ (sv_127 : Int32).toInt ≤ 40)) := he_131
          have pf_129 : (x_112 : Int32).toInt ≤ (sv_124 : Int32).toInt ∧ (sv_124 : Int32).toInt ≤ ((Mv 0) : Int32).toInt := pf_129
          refine W.eq (g2 := F0 m 62 ls [.int r_130]) rfl ?_
          replace hP : va_P D classes [((Ma 0), .inr (12, [.ref (Ma 1), .int (Mv 0), .int (Mv 1), .ref (Ma 2), .ref (Ma 3), .ref (Ma 4), .ref (Ma 5), .ref (Ma 6), .int sv_124, .int sv_125, .int sv_126, .int 6, .int 0, .int (Mv 7), .int sv_127, .ref (Ma 7), .int (Mv 9), .ref (Ma 8), .int (Mv 10), .ref (Ma 9), .ref (Ma 10), .int (Mv 11), .int (Mv 12), .int (Mv 13), .ref (Ma 11), .int (Mv 14), .ref (Ma 12), .ref (Ma 13), .ref (Ma 14), .ref (Ma 15), .ref (Ma 16), .long (Mj 0), .ref (Ma 17), .ref (Ma 18), .ref (Ma 19), .ref (Ma 20)])), ((Ma 1), .inl (tc 2, 400, .inl (Mf 1))), ((Ma 3), .inl (tc 0, 7, .inl g_1)), ((Ma 6), .inl (tc 0, 95, .inl sv_128))] H := hP₀
          replace hD : va_D A [((Ma 0), .inr (12, [.ref (Ma 1), .int (Mv 0), .int (Mv 1), .ref (Ma 2), .ref (Ma 3), .ref (Ma 4), .ref (Ma 5), .ref (Ma 6), .int sv_124, .int sv_125, .int sv_126, .int 6, .int 0, .int (Mv 7), .int sv_127, .ref (Ma 7), .int (Mv 9), .ref (Ma 8), .int (Mv 10), .ref (Ma 9), .ref (Ma 10), .int (Mv 11), .int (Mv 12), .int (Mv 13), .ref (Ma 11), .int (Mv 14), .ref (Ma 12), .ref (Ma 13), .ref (Ma 14), .ref (Ma 15), .ref (Ma 16), .long (Mj 0), .ref (Ma 17), .ref (Ma 18), .ref (Ma 19), .ref (Ma 20)])), ((Ma 1), .inl (tc 2, 400, .inl (Mf 1))), ((Ma 3), .inl (tc 0, 7, .inl g_1)), ((Ma 6), .inl (tc 0, 95, .inl sv_128))] := hD₀
          replace hS := hS₀
          clear hP₀ hD₀ hS₀
          refine lv_istore_n (lv' := [(1, .int r_130), (0, .ref (Ma 0))]) hx hb dX12_readsAll_62 rfl hl (by decide) rfl (fun ls hl₀ => ?_)
          replace hl := hl₀
          clear hl₀
          refine lv_goto (tgt := 35) hx hb dX12_readsAll_63 (by decide) ?_
          have hb_135 : 2 * (401 - (sv_124 : Int32).toInt) + (r_130 : Int32).toInt < 2 * (401 - (vy_26 : Int32).toInt) + (vy_25 : Int32).toInt ∧ 1 ≤ 2 * (401 - (vy_26 : Int32).toInt) + (vy_25 : Int32).toInt := by
            have z_1 : ¬ (vy_25 : Int32).toInt = (0 : Int32).toInt := fun z => c_39 (Int32.toInt_inj.mp z)
            have z_2 := congrArg Int32.toInt c_63
            have y_0 : (0 : Int32).toInt = 0 := by decide
            have y_59 : (59 : Int32).toInt = 59 := by decide
            omega
          have ha_136 : 0 ≤ (sv_124 : Int32).toInt ∧ (sv_124 : Int32).toInt ≤ ((Mv 0) : Int32).toInt ∧ ((Mv 0) : Int32).toInt ≤ 400 := by
            have z_1 : ¬ (vy_25 : Int32).toInt = (0 : Int32).toInt := fun z => c_39 (Int32.toInt_inj.mp z)
            have z_2 := congrArg Int32.toInt c_63
            have y_0 : (0 : Int32).toInt = 0 := by decide
            have y_59 : (59 : Int32).toInt = 59 := by decide
            omega
          have ha_137 : (((r_130 : Int32).toInt = 0 ∧ ¬ (sv_125 : Int32).toInt = 0) ∨ ((r_130 : Int32).toInt = 1 ∧ (sv_128 0).toInt = 1 ∧ (sv_125 : Int32).toInt = 0 ∧ 1 ≤ (sv_127 : Int32).toInt ∧ (sv_127 : Int32).toInt ≤ 40)) := by
            have z_1 : ¬ (vy_25 : Int32).toInt = (0 : Int32).toInt := fun z => c_39 (Int32.toInt_inj.mp z)
            have z_2 := congrArg Int32.toInt c_63
            have y_0 : (0 : Int32).toInt = 0 := by decide
            have y_59 : (59 : Int32).toInt = 59 := by decide
            omega
          have hc_138 : QlR (rB (Mf 1) (Mv 0)) vy_29 x_112 cq_113 r_130 sv_125 sv_124 sv_128 := ⟨fun z => (hm_133 z).2, hm_134⟩
          have hl_139 : (r_130 : Int32).toInt = 1 → (sv_127 : Int32).toInt = (vy_29 : Int32).toInt + 1 := by
            intro hz
            have z_1 : ¬ (vy_25 : Int32).toInt = (0 : Int32).toInt := fun z => c_39 (Int32.toInt_inj.mp z)
            have z_2 := congrArg Int32.toInt c_63
            have y_0 : (0 : Int32).toInt = 0 := by decide
            have y_59 : (59 : Int32).toInt = 59 := by decide
            omega
          have hr_140 : (rB (Mf 1) (Mv 0) (sv_55 : Int32).toInt.toNat = 59) := by
            have z_1 : ¬ (vy_25 : Int32).toInt = (0 : Int32).toInt := fun z => c_39 (Int32.toInt_inj.mp z)
            have z_2 := congrArg Int32.toInt c_63
            have y_0 : (0 : Int32).toInt = 0 := by decide
            have y_59 : (59 : Int32).toInt = 59 := by decide
            omega
          have hi_141 : (x_112 : Int32).toInt = (sv_55 : Int32).toInt + 1 := by
            have z_1 : ¬ (vy_25 : Int32).toInt = (0 : Int32).toInt := fun z => c_39 (Int32.toInt_inj.mp z)
            have z_2 := congrArg Int32.toInt c_63
            have y_0 : (0 : Int32).toInt = 0 := by decide
            have y_59 : (59 : Int32).toInt = 59 := by decide
            have y_1 : (1 : Int32).toInt = 1 := by decide
            have t_x_112 : x_112.toInt = (sv_55 : Int32).toInt + (1 : Int32).toInt := by rw [ex_112]; exact add_toInt (by omega) (by omega)
            omega
          have hr_142 : 0 ≤ (vy_29 : Int32).toInt := by
            have z_1 : ¬ (vy_25 : Int32).toInt = (0 : Int32).toInt := fun z => c_39 (Int32.toInt_inj.mp z)
            have z_2 := congrArg Int32.toInt c_63
            have y_0 : (0 : Int32).toInt = 0 := by decide
            have y_59 : (59 : Int32).toInt = 59 := by decide
            omega
          exact ih_32 r_130 sv_124 sv_125 sv_126 sv_127 sv_128 _ _ _ (by omega) ha_136 ha_137 (fun z => (hm_133 z).1) (QaL.next (rB_fi h_tp.2) pf_116 pf_59 hr_140 hi_141 hc_138 hl_139 hr_142) (hP.sub [0, 1, 2, 3] rfl) (hD.sub [0, 1, 2, 3] rfl rfl) hS (lv_sub hl [0, 1] rfl)
  have ha_143 : 0 ≤ (sv_8 : Int32).toInt ∧ (sv_8 : Int32).toInt ≤ ((Mv 0) : Int32).toInt ∧ ((Mv 0) : Int32).toInt ≤ 400 := by
    omega
  have ha_144 : (((r_14 : Int32).toInt = 0 ∧ ¬ (sv_9 : Int32).toInt = 0) ∨ ((r_14 : Int32).toInt = 1 ∧ (sv_12 0).toInt = 1 ∧ (sv_9 : Int32).toInt = 0 ∧ 1 ≤ (sv_11 : Int32).toInt ∧ (sv_11 : Int32).toInt ≤ 40)) := by
    omega
  have hc_145 : QlR (rB (Mf 1) (Mv 0)) 0 (0 : Int32) qz_0 r_14 sv_9 sv_8 sv_12 := ⟨fun z => (hm_17 z).2, hm_18⟩
  have hl_146 : (r_14 : Int32).toInt = 1 → (sv_11 : Int32).toInt = (0 : Int32).toInt + 1 := by
    intro hz
    omega
  have hl_147 : (r_14 : Int32).toInt = 1 → (sv_11 : Int32).toInt = 1 := by
    intro hz
    have h1 := hl_146 hz
    have h2 : (0 : Int32).toInt = 0 := by decide
    omega
  exact loop_33 _ r_14 sv_8 sv_9 sv_10 sv_11 sv_12 _ _ _ (Nat.lt_succ_self _) ha_143 ha_144 (fun z => (hm_17 z).1) (QaL.first (by decide) (by decide) hc_145 hl_147) hP hD hS hl
set_option maxRecDepth 100000 in
theorem cu_zX12_readsAll_b (l : Launch) (D : va_G) (tc : Nat → ClassId) (sk : (Nat → Nat) × (Nat → Nat)) (Ma_0 : Nat) (Ma_1 : Nat) (Ma_2 : Nat) (Ma_3 : Nat) (Ma_4 : Nat) (Ma_5 : Nat) (Ma_6 : Nat) (Ma_7 : Nat) (Ma_8 : Nat) (Ma_9 : Nat) (Ma_10 : Nat) (Ma_11 : Nat) (Ma_12 : Nat) (Ma_13 : Nat) (Ma_14 : Nat) (Ma_15 : Nat) (Ma_16 : Nat) (Ma_17 : Nat) (Ma_18 : Nat) (Ma_19 : Nat) (Ma_20 : Nat) (Mv_0 : Int32) (Mv_1 : Int32) (Mv_2 : Int32) (Mv_3 : Int32) (Mv_4 : Int32) (Mv_6 : Int32) (Mv_7 : Int32) (Mv_8 : Int32) (Mv_9 : Int32) (Mv_10 : Int32) (Mv_11 : Int32) (Mv_12 : Int32) (Mv_13 : Int32) (Mv_14 : Int32) (Mf_1 : Nat → Int32) (Mf_3 : Nat → Int32) (Mf_6 : Nat → Int32) (Mj_0 : Int64) (h_tp : 0 ≤ (Mv_0 : Int32).toInt ∧ (Mv_0 : Int32).toInt ≤ 400) (h_ro : RdO Mf_6) (h_bs : ByS Mf_1) (h_z0 : (Mf_6 0).toInt = 0 ∧ (Mf_6 2).toInt = 0 ∧ (Mf_6 3).toInt = 0) (h_e0 : RdE Mf_6 qz_0) : Ct l yX12_readsAll cX12_readsAll 2 (some .boolean) { frames := 6, cells := 0, slots := 0, locals := 137 } D tc sk [.ref Ma_0] [(Ma_0, .inr (12, [.ref Ma_1, .int Mv_0, .int Mv_1, .ref Ma_2, .ref Ma_3, .ref Ma_4, .ref Ma_5, .ref Ma_6, .int Mv_2, .int Mv_3, .int Mv_4, .int 6, .int Mv_6, .int Mv_7, .int Mv_8, .ref Ma_7, .int Mv_9, .ref Ma_8, .int Mv_10, .ref Ma_9, .ref Ma_10, .int Mv_11, .int Mv_12, .int Mv_13, .ref Ma_11, .int Mv_14, .ref Ma_12, .ref Ma_13, .ref Ma_14, .ref Ma_15, .ref Ma_16, .long Mj_0, .ref Ma_17, .ref Ma_18, .ref Ma_19, .ref Ma_20])), (Ma_1, .inl (tc 2, 400, .inl Mf_1)), (Ma_3, .inl (tc 0, 7, .inl Mf_3)), (Ma_6, .inl (tc 0, 95, .inl Mf_6))] (fun (v : Option Value) (u : (Int32) × (Int32) × (Int32) × (Int32) × (Nat → Int32) × (Nat → Int32)) => match u with | (oo0x1, oo0x2, oo0x3, oo0x4, oo0x5, oo0x6) => ∃ r : Int32, v = some (.int r) ∧ (((r.toInt = 0 ∧ ¬ (oo0x2 : Int32).toInt = 0) ∨ (r.toInt = 1 ∧ (oo0x2 : Int32).toInt = 0))) ∧ (QkM (rB Mf_1 Mv_0) oo0x2 oo0x6) ∧ (r.toInt = 1 → (RdO oo0x6))) (fun (u : (Int32) × (Int32) × (Int32) × (Int32) × (Nat → Int32) × (Nat → Int32)) => match u with | (oo0x1, oo0x2, oo0x3, oo0x4, oo0x5, oo0x6) => [(Ma_0, .inr (12, [.ref Ma_1, .int 0, .int Mv_1, .ref Ma_2, .ref Ma_3, .ref Ma_4, .ref Ma_5, .ref Ma_6, .int oo0x1, .int oo0x2, .int oo0x3, .int 6, .int 0, .int Mv_7, .int oo0x4, .ref Ma_7, .int Mv_9, .ref Ma_8, .int Mv_10, .ref Ma_9, .ref Ma_10, .int Mv_11, .int Mv_12, .int Mv_13, .ref Ma_11, .int Mv_14, .ref Ma_12, .ref Ma_13, .ref Ma_14, .ref Ma_15, .ref Ma_16, .long Mj_0, .ref Ma_17, .ref Ma_18, .ref Ma_19, .ref Ma_20])), (Ma_1, .inl (tc 2, 400, .inl Mf_1)), (Ma_3, .inl (tc 0, 7, .inl oo0x5)), (Ma_6, .inl (tc 0, 95, .inl oo0x6))]) 0 0 :=
  ct_zX12_readsAll_b l D tc sk (fun k => ([Ma_0, Ma_1, Ma_2, Ma_3, Ma_4, Ma_5, Ma_6, Ma_7, Ma_8, Ma_9, Ma_10, Ma_11, Ma_12, Ma_13, Ma_14, Ma_15, Ma_16, Ma_17, Ma_18, Ma_19, Ma_20] : List (Nat)).getD k 0) (fun k => ([Mv_0, Mv_1, Mv_2, Mv_3, Mv_4, 0, Mv_6, Mv_7, Mv_8, Mv_9, Mv_10, Mv_11, Mv_12, Mv_13, Mv_14] : List (Int32)).getD k 0) (fun k => ([(fun _ => 0), Mf_1, (fun _ => 0), Mf_3, (fun _ => 0), (fun _ => 0), Mf_6] : List (Nat → Int32)).getD k (fun _ => 0)) (fun k => ([Mj_0] : List (Int64)).getD k 0) h_tp h_ro h_bs h_z0 h_e0
