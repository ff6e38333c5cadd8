set_option maxHeartbeats 4000000 in
set_option maxRecDepth 100000 in
theorem ct_fX12_bookLineHere (l : Launch) (D : va_G) (tc : Nat → ClassId) (sk : (Nat → Nat) × (Nat → Nat)) (Ma : Nat → Nat) (Mv : Nat → Int32) (Mf : Nat → Nat → Int32) (Mj : Nat → Int64) (x1 : Int32) (h_nx : 0 ≤ ((Mv 2) : Int32).toInt ∧ ((Mv 2) : Int32).toInt ≤ ((Mv 0) : Int32).toInt ∧ ((Mv 0) : Int32).toInt ≤ 400) (h_at : 0 ≤ x1.toInt ∧ x1.toInt ≤ 400) (h_ro : RdO (Mf 6)) (h_bs : ByS (Mf 1)) (h_w : ((Mv 3) : Int32).toInt = 0) (h_sk : SkR (rB (Mf 1) (Mv 0)) (Mv 2) (Mv 2)) (h_lt : LtH (rB (Mf 1) (Mv 0)) (Mv 2)) (h_wk : BkN (rB (Mf 1) (Mv 0)) (Mv 2)) (h_r0 : ((((Mf 6) 0).toInt = 0 ∧ (Mv 8).toInt = 1) ∨ (((Mf 6) 0).toInt = 1 ∧ 2 ≤ (Mv 8).toInt ∧ (Mv 8).toInt ≤ 40))) (h_at2 : x1.toInt = (Mv 2).toInt) : Ct l yX12_bookLineHere cX12_bookLineHere 2 (some .boolean) { frames := 4, cells := 0, slots := 0, locals := 94 } D tc sk [.ref (Ma 0), .int x1] [((Ma 0), .inr (12, [.ref (Ma 1), .int (Mv 0), .int (Mv 1), .ref (Ma 2), .ref (Ma 3), .ref (Ma 4), .ref (Ma 5), .ref (Ma 6), .int (Mv 2), .int (Mv 3), .int (Mv 4), .int (Mv 5), .int (Mv 6), .int (Mv 7), .int (Mv 8), .ref (Ma 7), .int (Mv 9), .ref (Ma 8), .int (Mv 10), .ref (Ma 9), .ref (Ma 10), .int (Mv 11), .int (Mv 12), .int (Mv 13), .ref (Ma 11), .int (Mv 14), .ref (Ma 12), .ref (Ma 13), .ref (Ma 14), .ref (Ma 15), .ref (Ma 16), .long (Mj 0), .ref (Ma 17), .ref (Ma 18), .ref (Ma 19), .ref (Ma 20)])), ((Ma 1), .inl (tc 2, 400, .inl (Mf 1))), ((Ma 6), .inl (tc 0, 95, .inl (Mf 6)))] (fun (v : Option Value) (u : (Int32) × (Int32) × (Int32) × (Nat → Int32)) => match u with | (oo0x1, oo0x2, oo0x3, oo0x4) => ∃ r : Int32, v = some (.int r) ∧ (((r.toInt = 0 ∧ ¬ (oo0x2 : Int32).toInt = 0) ∨ (r.toInt = 1 ∧ (oo0x4 0).toInt = 1 ∧ (oo0x2 : Int32).toInt = 0))) ∧ (((Mv 2) : Int32).toInt ≤ (oo0x1 : Int32).toInt ∧ (oo0x1 : Int32).toInt ≤ ((Mv 0) : Int32).toInt) ∧ (r.toInt = 1 → (RdO oo0x4) ∧ (BfO (bCL (rB (Mf 1) (Mv 0)) ((Mv 8).toInt - 1).toNat (Mv 2) ((Mf 6) 2) ((Mf 6) 3)) (rB (Mf 1) (Mv 0)) oo0x2 oo0x1 (oo0x4 2) (oo0x4 3))) ∧ (r.toInt = 0 → (BfE (bCL (rB (Mf 1) (Mv 0)) ((Mv 8).toInt - 1).toNat (Mv 2) ((Mf 6) 2) ((Mf 6) 3)) oo0x2))) (fun (u : (Int32) × (Int32) × (Int32) × (Nat → Int32)) => match u with | (oo0x1, oo0x2, oo0x3, oo0x4) => [((Ma 0), .inr (12, [.ref (Ma 1), .int (Mv 0), .int (Mv 1), .ref (Ma 2), .ref (Ma 3), .ref (Ma 4), .ref (Ma 5), .ref (Ma 6), .int oo0x1, .int oo0x2, .int oo0x3, .int (Mv 5), .int (Mv 6), .int (Mv 7), .int (Mv 8), .ref (Ma 7), .int (Mv 9), .ref (Ma 8), .int (Mv 10), .ref (Ma 9), .ref (Ma 10), .int (Mv 11), .int (Mv 12), .int (Mv 13), .ref (Ma 11), .int (Mv 14), .ref (Ma 12), .ref (Ma 13), .ref (Ma 14), .ref (Ma 15), .ref (Ma 16), .long (Mj 0), .ref (Ma 17), .ref (Ma 18), .ref (Ma 19), .ref (Ma 20)])), ((Ma 1), .inl (tc 2, 400, .inl (Mf 1))), ((Ma 6), .inl (tc 0, 95, .inl oo0x4))]) 0 0 := by
  refine Ct.start (by decide) (Nat.le_of_ble_eq_true rfl) (fun p e s m below meth c A ls hx hb hr hlk hin hml hown hts hK hX hP hD hA hl hS => ?_)
  have hl : lv_has ls 2 [(0, .ref (Ma 0)), (1, .int x1)] := hl
  have ar_h_ro := RdO.ar h_ro
  have ar_h_lt := h_lt.1
  refine lv_aload_n hx hb dX12_bookLineHere_0 rfl (lv_at hl 0 rfl) ?_
  refine lv_ldc2 hx hb hown (hts _ k_1216) dX12_bookLineHere_1 ?_
  refine cV (a := (Ma 0)) (As := [.long 1651470187]) (rest := []) (wr := [((Ma 6), .inl (tc 0, 95, .inl (Mf 6)))]) ⟨hx, hb, hml, hown, hts⟩ hK hX hA (cu_fX12_isWord l D tc sk (Ma 0) (Ma 1) (Ma 2) (Ma 3) (Ma 4) (Ma 5) (Ma 6) (Ma 7) (Ma 8) (Ma 9) (Ma 10) (Ma 11) (Ma 12) (Ma 13) (Ma 14) (Ma 15) (Ma 16) (Ma 17) (Ma 18) (Ma 19) (Ma 20) (Mv 0) (Mv 1) (Mv 2) (Mv 3) (Mv 4) (Mv 5) (Mv 6) (Mv 7) (Mv 8) (Mv 9) (Mv 10) (Mv 11) (Mv 12) (Mv 13) (Mv 14) (Mf 1) (Mj 0) 1651470187 h_nx h_bs) k_1220 k_1217 k_1219 k_29 k_106 pl_X12_isWord ⟨Nat.le_of_ble_eq_true rfl, Nat.le_of_ble_eq_true rfl⟩ rfl rfl (va_recv hK hP (ci := 12) (q0 := 0) rfl rfl) hP hD hS [0, 1] [2] rfl rfl rfl rfl rfl (by decide) rfl hl.1 rfl (Nat.le_of_ble_eq_true rfl) dX12_bookLineHere_4 ⟨Nat.le_of_ble_eq_true rfl, Nat.le_of_ble_eq_true rfl⟩ (fun v_1 u_2 H locs hv_3 hP₀ hD₀ hS₀ => ?_)
  obtain ⟨sv_4, rfl⟩ : ∃ z, z = u_2 := ⟨_, rfl⟩
  obtain ⟨r_9, rfl, he_10, pf_5, pf_6, pf_7, pf_8, hm_12, hm_13⟩ := hv_3
  have he_10 : (r_9.toInt = 0 ∨ r_9.toInt = 1) := he_10
  have pf_5 : ((Mv 2) : Int32).toInt ≤ (sv_4 : Int32).toInt ∧ (sv_4 : Int32).toInt ≤ ((Mv 0) : Int32).toInt := pf_5
  have pf_6 : NSq (Mf 1) (Mv 0) sv_4 := pf_6
  have pf_7 : Stl (Mf 1) (Mv 0) (Mv 2) sv_4 := pf_7
  have pf_8 : SkR (rB (Mf 1) (Mv 0)) (Mv 2) sv_4 := pf_8
  refine W.eq (g2 := F0 m 7 ls [.int r_9]) rfl ?_
  replace hP : va_P D classes [((Ma 6), .inl (tc 0, 95, .inl (Mf 6))), ((Ma 0), .inr (12, [.ref (Ma 1), .int (Mv 0), .int (Mv 1), .ref (Ma 2), .ref (Ma 3), .ref (Ma 4), .ref (Ma 5), .ref (Ma 6), .int sv_4, .int (Mv 3), .int (Mv 4), .int (Mv 5), .int (Mv 6), .int (Mv 7), .int (Mv 8), .ref (Ma 7), .int (Mv 9), .ref (Ma 8), .int (Mv 10), .ref (Ma 9), .ref (Ma 10), .int (Mv 11), .int (Mv 12), .int (Mv 13), .ref (Ma 11), .int (Mv 14), .ref (Ma 12), .ref (Ma 13), .ref (Ma 14), .ref (Ma 15), .ref (Ma 16), .long (Mj 0), .ref (Ma 17), .ref (Ma 18), .ref (Ma 19), .ref (Ma 20)])), ((Ma 1), .inl (tc 2, 400, .inl (Mf 1)))] H := hP₀
  replace hD : va_D A [((Ma 6), .inl (tc 0, 95, .inl (Mf 6))), ((Ma 0), .inr (12, [.ref (Ma 1), .int (Mv 0), .int (Mv 1), .ref (Ma 2), .ref (Ma 3), .ref (Ma 4), .ref (Ma 5), .ref (Ma 6), .int sv_4, .int (Mv 3), .int (Mv 4), .int (Mv 5), .int (Mv 6), .int (Mv 7), .int (Mv 8), .ref (Ma 7), .int (Mv 9), .ref (Ma 8), .int (Mv 10), .ref (Ma 9), .ref (Ma 10), .int (Mv 11), .int (Mv 12), .int (Mv 13), .ref (Ma 11), .int (Mv 14), .ref (Ma 12), .ref (Ma 13), .ref (Ma 14), .ref (Ma 15), .ref (Ma 16), .long (Mj 0), .ref (Ma 17), .ref (Ma 18), .ref (Ma 19), .ref (Ma 20)])), ((Ma 1), .inl (tc 2, 400, .inl (Mf 1)))] := hD₀
  replace hS := hS₀
  clear hP₀ hD₀ hS₀
  have hE_14 := SkR.eqB h_sk pf_8
  refine lv_if_eq (tgt := 16) hx hb dX12_bookLineHere_7 (by decide) (fun c_15 => ?_) (fun c_15 => ?_)
  · skip
    have hz_17 : (r_9 : Int32).toInt = 0 := by
      have z_1 := congrArg Int32.toInt c_15
      have y_0 : (0 : Int32).toInt = 0 := by decide
      omega
    obtain pf_16 := hm_13 hz_17
    have pf_16 : NPk (rB (Mf 1) (Mv 0)) ((sv_4 : Int32).toInt.toNat) (1651470187 : Int64).toInt := pf_16
    refine lv_aload_n hx hb dX12_bookLineHere_16 rfl (lv_at hl 0 rfl) ?_
    refine gf_X12_26 hx hb hts hown hK hP 1 rfl rfl dX12_bookLineHere_17 ?_
    refine lv_iconst (v := 0) hx hb dX12_bookLineHere_20 (by decide) ?_
    refine va_iald hx hb hK hP 0 0 rfl rfl (vin_dec (by decide +kernel)) dX12_bookLineHere_21 ?_
    refine lv_topi (fun x_18 ex_18 => ?_)
    have lx_18 : x_18.toInt = ((Mf 6) 0).toInt := congrArg Int32.toInt ex_18
    refine lv_if_ne (tgt := 32) hx hb dX12_bookLineHere_22 (by decide) (fun c_19 => ?_) (fun c_19 => ?_)
    · skip
      refine lv_aload_n hx hb dX12_bookLineHere_32 rfl (lv_at hl 0 rfl) ?_
      refine lv_ldc2 hx hb hown (hts _ k_1225) dX12_bookLineHere_33 ?_
      have ha_20 : 0 ≤ (sv_4 : Int32).toInt ∧ (sv_4 : Int32).toInt ≤ ((Mv 0) : Int32).toInt ∧ ((Mv 0) : Int32).toInt ≤ 400 := by
        have z_1 := congrArg Int32.toInt c_15
        have z_2 : ¬ (x_18 : Int32).toInt = (0 : Int32).toInt := fun z => c_19 (Int32.toInt_inj.mp z)
        have y_0 : (0 : Int32).toInt = 0 := by decide
        omega
      refine cV (a := (Ma 0)) (As := [.long 7564153]) (rest := []) (wr := [((Ma 6), .inl (tc 0, 95, .inl (Mf 6)))]) ⟨hx, hb, hml, hown, hts⟩ hK hX hA (cu_fX12_isWord l D tc sk (Ma 0) (Ma 1) (Ma 2) (Ma 3) (Ma 4) (Ma 5) (Ma 6) (Ma 7) (Ma 8) (Ma 9) (Ma 10) (Ma 11) (Ma 12) (Ma 13) (Ma 14) (Ma 15) (Ma 16) (Ma 17) (Ma 18) (Ma 19) (Ma 20) (Mv 0) (Mv 1) sv_4 (Mv 3) (Mv 4) (Mv 5) (Mv 6) (Mv 7) (Mv 8) (Mv 9) (Mv 10) (Mv 11) (Mv 12) (Mv 13) (Mv 14) (Mf 1) (Mj 0) 7564153 ha_20 h_bs) k_1220 k_1217 k_1219 k_29 k_106 pl_X12_isWord ⟨Nat.le_of_ble_eq_true rfl, Nat.le_of_ble_eq_true rfl⟩ rfl rfl (va_recv hK hP (ci := 12) (q0 := 1) rfl rfl) hP hD hS [1, 2] [0] rfl rfl rfl rfl rfl (by decide) rfl hl.1 rfl (Nat.le_of_ble_eq_true rfl) dX12_bookLineHere_36 ⟨Nat.le_of_ble_eq_true rfl, Nat.le_of_ble_eq_true rfl⟩ (fun v_21 u_22 H locs hv_23 hP₀ hD₀ hS₀ => ?_)
      obtain ⟨sv_24, rfl⟩ : ∃ z, z = u_22 := ⟨_, rfl⟩
      obtain ⟨r_29, rfl, he_30, pf_25, pf_26, pf_27, pf_28, hm_32, hm_33⟩ := hv_23
      have he_30 : (r_29.toInt = 0 ∨ r_29.toInt = 1) := he_30
      have pf_25 : (sv_4 : Int32).toInt ≤ (sv_24 : Int32).toInt ∧ (sv_24 : Int32).toInt ≤ ((Mv 0) : Int32).toInt := pf_25
      have pf_26 : NSq (Mf 1) (Mv 0) sv_24 := pf_26
      have pf_27 : Stl (Mf 1) (Mv 0) sv_4 sv_24 := pf_27
      have ar_pf_27 := Stl.or pf_27 pf_6
      have pf_28 : SkR (rB (Mf 1) (Mv 0)) sv_4 sv_24 := pf_28
      refine W.eq (g2 := F0 m 39 ls [.int r_29]) rfl ?_
      replace hP : va_P D classes [((Ma 6), .inl (tc 0, 95, .inl (Mf 6))), ((Ma 0), .inr (12, [.ref (Ma 1), .int (Mv 0), .int (Mv 1), .ref (Ma 2), .ref (Ma 3), .ref (Ma 4), .ref (Ma 5), .ref (Ma 6), .int sv_24, .int (Mv 3), .int (Mv 4), .int (Mv 5), .int (Mv 6), .int (Mv 7), .int (Mv 8), .ref (Ma 7), .int (Mv 9), .ref (Ma 8), .int (Mv 10), .ref (Ma 9), .ref (Ma 10), .int (Mv 11), .int (Mv 12), .int (Mv 13), .ref (Ma 11), .int (Mv 14), .ref (Ma 12), .ref (Ma 13), .ref (Ma 14), .ref (Ma 15), .ref (Ma 16), .long (Mj 0), .ref (Ma 17), .ref (Ma 18), .ref (Ma 19), .ref (Ma 20)])), ((Ma 1), .inl (tc 2, 400, .inl (Mf 1)))] H := hP₀
      replace hD : va_D A [((Ma 6), .inl (tc 0, 95, .inl (Mf 6))), ((Ma 0), .inr (12, [.ref (Ma 1), .int (Mv 0), .int (Mv 1), .ref (Ma 2), .ref (Ma 3), .ref (Ma 4), .ref (Ma 5), .ref (Ma 6), .int sv_24, .int (Mv 3), .int (Mv 4), .int (Mv 5), .int (Mv 6), .int (Mv 7), .int (Mv 8), .ref (Ma 7), .int (Mv 9), .ref (Ma 8), .int (Mv 10), .ref (Ma 9), .ref (Ma 10), .int (Mv 11), .int (Mv 12), .int (Mv 13), .ref (Ma 11), .int (Mv 14), .ref (Ma 12), .ref (Ma 13), .ref (Ma 14), .ref (Ma 15), .ref (Ma 16), .long (Mj 0), .ref (Ma 17), .ref (Ma 18), .ref (Ma 19), .ref (Ma 20)])), ((Ma 1), .inl (tc 2, 400, .inl (Mf 1)))] := hD₀
      replace hS := hS₀
      clear hP₀ hD₀ hS₀
      have hE_34 := SkR.eqB pf_8 pf_28
      refine lv_if_eq (tgt := 47) hx hb dX12_bookLineHere_39 (by decide) (fun c_35 => ?_) (fun c_35 => ?_)
      · skip
        have hz_37 : (r_29 : Int32).toInt = 0 := by
          have z_1 := congrArg Int32.toInt c_15
          have z_2 : ¬ (x_18 : Int32).toInt = (0 : Int32).toInt := fun z => c_19 (Int32.toInt_inj.mp z)
          have z_3 := congrArg Int32.toInt c_35
          have y_0 : (0 : Int32).toInt = 0 := by decide
          omega
        obtain pf_36 := hm_33 hz_37
        have pf_36 : NPk (rB (Mf 1) (Mv 0)) ((sv_24 : Int32).toInt.toNat) (7564153 : Int64).toInt := pf_36
        refine lv_aload_n hx hb dX12_bookLineHere_47 rfl (lv_at hl 0 rfl) ?_
        refine lv_ldc2 hx hb hown (hts _ k_1226) dX12_bookLineHere_48 ?_
        have ha_38 : 0 ≤ (sv_24 : Int32).toInt ∧ (sv_24 : Int32).toInt ≤ ((Mv 0) : Int32).toInt ∧ ((Mv 0) : Int32).toInt ≤ 400 := by
          have z_1 := congrArg Int32.toInt c_15
          have z_2 : ¬ (x_18 : Int32).toInt = (0 : Int32).toInt := fun z => c_19 (Int32.toInt_inj.mp z)
          have z_3 := congrArg Int32.toInt c_35
          have y_0 : (0 : Int32).toInt = 0 := by decide
          omega
        refine cV (a := (Ma 0)) (As := [.long 422877685106]) (rest := []) (wr := [((Ma 6), .inl (tc 0, 95, .inl (Mf 6)))]) ⟨hx, hb, hml, hown, hts⟩ hK hX hA (cu_fX12_isWord l D tc sk (Ma 0) (Ma 1) (Ma 2) (Ma 3) (Ma 4) (Ma 5) (Ma 6) (Ma 7) (Ma 8) (Ma 9) (Ma 10) (Ma 11) (Ma 12) (Ma 13) (Ma 14) (Ma 15) (Ma 16) (Ma 17) (Ma 18) (Ma 19) (Ma 20) (Mv 0) (Mv 1) sv_24 (Mv 3) (Mv 4) (Mv 5) (Mv 6) (Mv 7) (Mv 8) (Mv 9) (Mv 10) (Mv 11) (Mv 12) (Mv 13) (Mv 14) (Mf 1) (Mj 0) 422877685106 ha_38 h_bs) k_1220 k_1217 k_1219 k_29 k_106 pl_X12_isWord ⟨Nat.le_of_ble_eq_true rfl, Nat.le_of_ble_eq_true rfl⟩ rfl rfl (va_recv hK hP (ci := 12) (q0 := 1) rfl rfl) hP hD hS [1, 2] [0] rfl rfl rfl rfl rfl (by decide) rfl hl.1 rfl (Nat.le_of_ble_eq_true rfl) dX12_bookLineHere_51 ⟨Nat.le_of_ble_eq_true rfl, Nat.le_of_ble_eq_true rfl⟩ (fun v_39 u_40 H locs hv_41 hP₀ hD₀ hS₀ => ?_)
        obtain ⟨sv_42, rfl⟩ : ∃ z, z = u_40 := ⟨_, rfl⟩
        obtain ⟨r_47, rfl, he_48, pf_43, pf_44, pf_45, pf_46, hm_50, hm_51⟩ := hv_41
        have he_48 : (r_47.toInt = 0 ∨ r_47.toInt = 1) := he_48
        have pf_43 : (sv_24 : Int32).toInt ≤ (sv_42 : Int32).toInt ∧ (sv_42 : Int32).toInt ≤ ((Mv 0) : Int32).toInt := pf_43
        have pf_44 : NSq (Mf 1) (Mv 0) sv_42 := pf_44
        have pf_45 : Stl (Mf 1) (Mv 0) sv_24 sv_42 := pf_45
        have ar_pf_45 := Stl.or pf_45 pf_26
        have pf_46 : SkR (rB (Mf 1) (Mv 0)) sv_24 sv_42 := pf_46
        refine W.eq (g2 := F0 m 54 ls [.int r_47]) rfl ?_
        replace hP : va_P D classes [((Ma 6), .inl (tc 0, 95, .inl (Mf 6))), ((Ma 0), .inr (12, [.ref (Ma 1), .int (Mv 0), .int (Mv 1), .ref (Ma 2), .ref (Ma 3), .ref (Ma 4), .ref (Ma 5), .ref (Ma 6), .int sv_42, .int (Mv 3), .int (Mv 4), .int (Mv 5), .int (Mv 6), .int (Mv 7), .int (Mv 8), .ref (Ma 7), .int (Mv 9), .ref (Ma 8), .int (Mv 10), .ref (Ma 9), .ref (Ma 10), .int (Mv 11), .int (Mv 12), .int (Mv 13), .ref (Ma 11), .int (Mv 14), .ref (Ma 12), .ref (Ma 13), .ref (Ma 14), .ref (Ma 15), .ref (Ma 16), .long (Mj 0), .ref (Ma 17), .ref (Ma 18), .ref (Ma 19), .ref (Ma 20)])), ((Ma 1), .inl (tc 2, 400, .inl (Mf 1)))] H := hP₀
        replace hD : va_D A [((Ma 6), .inl (tc 0, 95, .inl (Mf 6))), ((Ma 0), .inr (12, [.ref (Ma 1), .int (Mv 0), .int (Mv 1), .ref (Ma 2), .ref (Ma 3), .ref (Ma 4), .ref (Ma 5), .ref (Ma 6), .int sv_42, .int (Mv 3), .int (Mv 4), .int (Mv 5), .int (Mv 6), .int (Mv 7), .int (Mv 8), .ref (Ma 7), .int (Mv 9), .ref (Ma 8), .int (Mv 10), .ref (Ma 9), .ref (Ma 10), .int (Mv 11), .int (Mv 12), .int (Mv 13), .ref (Ma 11), .int (Mv 14), .ref (Ma 12), .ref (Ma 13), .ref (Ma 14), .ref (Ma 15), .ref (Ma 16), .long (Mj 0), .ref (Ma 17), .ref (Ma 18), .ref (Ma 19), .ref (Ma 20)])), ((Ma 1), .inl (tc 2, 400, .inl (Mf 1)))] := hD₀
        replace hS := hS₀
        clear hP₀ hD₀ hS₀
        have hE_52 := SkR.eqB pf_28 pf_46
        refine lv_if_eq (tgt := 65) hx hb dX12_bookLineHere_54 (by decide) (fun c_53 => ?_) (fun c_53 => ?_)
        · skip
          have hz_55 : (r_47 : Int32).toInt = 0 := by
            have z_1 := congrArg Int32.toInt c_15
            have z_2 : ¬ (x_18 : Int32).toInt = (0 : Int32).toInt := fun z => c_19 (Int32.toInt_inj.mp z)
            have z_3 := congrArg Int32.toInt c_35
            have z_4 := congrArg Int32.toInt c_53
            have y_0 : (0 : Int32).toInt = 0 := by decide
            omega
          obtain pf_54 := hm_51 hz_55
          have pf_54 : NPk (rB (Mf 1) (Mv 0)) ((sv_42 : Int32).toInt.toNat) (422877685106 : Int64).toInt := pf_54
          refine lv_aload_n hx hb dX12_bookLineHere_65 rfl (lv_at hl 0 rfl) ?_
          have hq_56 : sv_42 = (Mv 2) := SkR.eq h_sk (SkR.trans (SkR.trans pf_8 pf_28) pf_46)
          have ha_57 : 0 ≤ (sv_42 : Int32).toInt ∧ (sv_42 : Int32).toInt ≤ ((Mv 0) : Int32).toInt ∧ ((Mv 0) : Int32).toInt ≤ 400 := by
            have z_1 := congrArg Int32.toInt c_15
            have z_2 : ¬ (x_18 : Int32).toInt = (0 : Int32).toInt := fun z => c_19 (Int32.toInt_inj.mp z)
            have z_3 := congrArg Int32.toInt c_35
            have z_4 := congrArg Int32.toInt c_53
            have y_0 : (0 : Int32).toInt = 0 := by decide
            omega
          have ha_58 : ((Mf 6) 0).toInt = 1 := by
            have z_1 := congrArg Int32.toInt c_15
            have z_2 : ¬ (x_18 : Int32).toInt = (0 : Int32).toInt := fun z => c_19 (Int32.toInt_inj.mp z)
            have z_3 := congrArg Int32.toInt c_35
            have z_4 := congrArg Int32.toInt c_53
            have y_0 : (0 : Int32).toInt = 0 := by decide
            omega
          refine cV (a := (Ma 0)) (As := []) (rest := []) (wr := []) ⟨hx, hb, hml, hown, hts⟩ hK hX hA (cu_fX12_isWatchHere l D tc sk (Ma 0) (Ma 1) (Ma 2) (Ma 3) (Ma 4) (Ma 5) (Ma 6) (Ma 7) (Ma 8) (Ma 9) (Ma 10) (Ma 11) (Ma 12) (Ma 13) (Ma 14) (Ma 15) (Ma 16) (Ma 17) (Ma 18) (Ma 19) (Ma 20) (Mv 0) (Mv 1) sv_42 (Mv 3) (Mv 4) (Mv 5) (Mv 6) (Mv 7) (Mv 8) (Mv 9) (Mv 10) (Mv 11) (Mv 12) (Mv 13) (Mv 14) (Mf 1) (Mf 6) (Mj 0) ha_57 h_ro ha_58 h_bs h_w (hq_56 ▸ h_lt)) k_1271 k_1268 k_1270 k_40 k_106 pl_X12_isWatchHere ⟨Nat.le_of_ble_eq_true rfl, Nat.le_of_ble_eq_true rfl⟩ rfl rfl (va_recv hK hP (ci := 12) (q0 := 1) rfl rfl) hP hD hS [1, 2, 0] [] rfl rfl rfl rfl rfl (by decide) rfl hl.1 rfl (Nat.le_of_ble_eq_true rfl) dX12_bookLineHere_66 ⟨Nat.le_of_ble_eq_true rfl, Nat.le_of_ble_eq_true rfl⟩ (fun v_59 u_60 H locs hv_61 hP₀ hD₀ hS₀ => ?_)
          obtain ⟨sv_62, sv_63, sv_64, sv_65⟩ := u_60
          obtain ⟨r_67, rfl, he_68, pf_66, hm_70, hm_71⟩ := hv_61
          have he_68 : ((r_67.toInt = 0 ∧ ¬ (sv_63 : Int32).toInt = 0) ∨ (r_67.toInt = 1 ∧ ((sv_65 2).toInt = ((Mf 6) 2).toInt ∧ (sv_65 3).toInt = ((Mf 6) 3).toInt ∧ (sv_65 0).toInt = ((Mf 6) 0).toInt) ∧ (sv_63 : Int32).toInt = 0)) := he_68
          have pf_66 : (sv_42 : Int32).toInt ≤ (sv_62 : Int32).toInt ∧ (sv_62 : Int32).toInt ≤ ((Mv 0) : Int32).toInt := pf_66
          refine W.eq (g2 := F0 m 69 ls [.int r_67]) rfl ?_
          replace hP : va_P D classes [((Ma 0), .inr (12, [.ref (Ma 1), .int (Mv 0), .int (Mv 1), .ref (Ma 2), .ref (Ma 3), .ref (Ma 4), .ref (Ma 5), .ref (Ma 6), .int sv_62, .int sv_63, .int sv_64, .int (Mv 5), .int (Mv 6), .int (Mv 7), .int (Mv 8), .ref (Ma 7), .int (Mv 9), .ref (Ma 8), .int (Mv 10), .ref (Ma 9), .ref (Ma 10), .int (Mv 11), .int (Mv 12), .int (Mv 13), .ref (Ma 11), .int (Mv 14), .ref (Ma 12), .ref (Ma 13), .ref (Ma 14), .ref (Ma 15), .ref (Ma 16), .long (Mj 0), .ref (Ma 17), .ref (Ma 18), .ref (Ma 19), .ref (Ma 20)])), ((Ma 1), .inl (tc 2, 400, .inl (Mf 1))), ((Ma 6), .inl (tc 0, 95, .inl sv_65))] H := hP₀
          replace hD : va_D A [((Ma 0), .inr (12, [.ref (Ma 1), .int (Mv 0), .int (Mv 1), .ref (Ma 2), .ref (Ma 3), .ref (Ma 4), .ref (Ma 5), .ref (Ma 6), .int sv_62, .int sv_63, .int sv_64, .int (Mv 5), .int (Mv 6), .int (Mv 7), .int (Mv 8), .ref (Ma 7), .int (Mv 9), .ref (Ma 8), .int (Mv 10), .ref (Ma 9), .ref (Ma 10), .int (Mv 11), .int (Mv 12), .int (Mv 13), .ref (Ma 11), .int (Mv 14), .ref (Ma 12), .ref (Ma 13), .ref (Ma 14), .ref (Ma 15), .ref (Ma 16), .long (Mj 0), .ref (Ma 17), .ref (Ma 18), .ref (Ma 19), .ref (Ma 20)])), ((Ma 1), .inl (tc 2, 400, .inl (Mf 1))), ((Ma 6), .inl (tc 0, 95, .inl sv_65))] := hD₀
          replace hS := hS₀
          clear hP₀ hD₀ hS₀
          have ha_72 : ((Mv 2) : Int32).toInt ≤ (sv_62 : Int32).toInt ∧ (sv_62 : Int32).toInt ≤ ((Mv 0) : Int32).toInt := by
            have z_1 := congrArg Int32.toInt c_15
            have z_2 : ¬ (x_18 : Int32).toInt = (0 : Int32).toInt := fun z => c_19 (Int32.toInt_inj.mp z)
            have z_3 := congrArg Int32.toInt c_35
            have z_4 := congrArg Int32.toInt c_53
            have y_0 : (0 : Int32).toInt = 0 := by decide
            omega
          have hb_73 : (r_67 : Int32).toInt = 0 ∨ (r_67 : Int32).toInt = 1 := by
            have z_1 := congrArg Int32.toInt c_15
            have z_2 : ¬ (x_18 : Int32).toInt = (0 : Int32).toInt := fun z => c_19 (Int32.toInt_inj.mp z)
            have z_3 := congrArg Int32.toInt c_35
            have z_4 := congrArg Int32.toInt c_53
            have y_0 : (0 : Int32).toInt = 0 := by decide
            omega
          have hp_74 : (((r_67 : Int32).toInt = 0 ∧ ¬ (sv_63 : Int32).toInt = 0) ∨ ((r_67 : Int32).toInt = 1 ∧ (sv_65 0).toInt = 1 ∧ (sv_63 : Int32).toInt = 0)) := by
            have z_1 := congrArg Int32.toInt c_15
            have z_2 : ¬ (x_18 : Int32).toInt = (0 : Int32).toInt := fun z => c_19 (Int32.toInt_inj.mp z)
            have z_3 := congrArg Int32.toInt c_35
            have z_4 := congrArg Int32.toInt c_53
            have y_0 : (0 : Int32).toInt = 0 := by decide
            omega
          have hm_75 : (r_67 : Int32).toInt = 1 → (RdO sv_65) ∧ (BfO (bCL (rB (Mf 1) (Mv 0)) ((Mv 8).toInt - 1).toNat (Mv 2) ((Mf 6) 2) ((Mf 6) 3)) (rB (Mf 1) (Mv 0)) sv_63 sv_62 (sv_65 2) (sv_65 3)) := by
            intro h1r
            obtain ⟨pf_76, pf_77⟩ := hm_70 h1r
            have pf_76 : RdO sv_65 := pf_76
            have ar_pf_76 := RdO.ar pf_76
            have pf_77 : RgO (bR3 (rB (Mf 1) (Mv 0)) sv_42 ((Mf 6) 2) ((Mf 6) 3)) (rB (Mf 1) (Mv 0)) sv_63 sv_62 := pf_77
            have ar_pf_77 := pf_77.2
            have hw_78 : ¬ pz_wd (rB (Mf 1) (Mv 0)) (sv_4 : Int32).toInt.toNat pz_book = true := by
              have hq := pf_16
              rw [show (1651470187 : Int64).toInt = pz_pl pz_book by decide] at hq
              exact fun z => hq ((PkW.wd (by decide) (by decide) (by decide)).mpr z)
            have hq_79 : sv_4 = (Mv 2) := SkR.eq h_sk pf_8
            have hq_80 : sv_42 = (Mv 2) := SkR.eq h_sk (SkR.trans (SkR.trans pf_8 pf_28) pf_46)
            have hq_81 : sv_4 = sv_42 := hq_79.trans hq_80.symm
            have hw_82 : ¬ pz_wd (rB (Mf 1) (Mv 0)) (sv_24 : Int32).toInt.toNat pz_sky = true := by
              have hq := pf_36
              rw [show (7564153 : Int64).toInt = pz_pl pz_sky by decide] at hq
              exact fun z => hq ((PkW.wd (by decide) (by decide) (by decide)).mpr z)
            have hq_83 : sv_24 = (Mv 2) := SkR.eq h_sk (SkR.trans pf_8 pf_28)
            have hq_84 : sv_42 = (Mv 2) := SkR.eq h_sk (SkR.trans (SkR.trans pf_8 pf_28) pf_46)
            have hq_85 : sv_24 = sv_42 := hq_83.trans hq_84.symm
            have hw_86 : ¬ pz_wd (rB (Mf 1) (Mv 0)) (sv_42 : Int32).toInt.toNat pz_buyer = true := by
              have hq := pf_54
              rw [show (422877685106 : Int64).toInt = pz_pl pz_buyer by decide] at hq
              exact fun z => hq ((PkW.wd (by decide) (by decide) (by decide)).mpr z)
            have hq_88 : sv_42 = (Mv 2) := SkR.eq h_sk (SkR.trans (SkR.trans pf_8 pf_28) pf_46)
            have hw_87 : ¬ pz_wa (rB (Mf 1) (Mv 0)) (sv_42 : Int32).toInt.toNat pz_bws 0 = -1 := by
              rw [hq_88]
              exact h_wk
            have hq_89 : sv_42 = (Mv 2) := SkR.eq h_sk (SkR.trans (SkR.trans pf_8 pf_28) pf_46)
            have hf_90 : BfO (bCL (rB (Mf 1) (Mv 0)) ((Mv 8).toInt - 1).toNat sv_42 ((Mf 6) 2) ((Mf 6) 3)) (rB (Mf 1) (Mv 0)) sv_63 sv_62 (sv_65 2) (sv_65 3) := by
              have hr_91 : 1 ≤ ((Mv 8).toInt - 1).toNat ∧ ((Mv 8).toInt - 1).toNat < 40 := by
                have z_1 := congrArg Int32.toInt c_15
                have z_2 : ¬ (x_18 : Int32).toInt = (0 : Int32).toInt := fun z => c_19 (Int32.toInt_inj.mp z)
                have z_3 := congrArg Int32.toInt c_35
                have z_4 := congrArg Int32.toInt c_53
                have y_0 : (0 : Int32).toInt = 0 := by decide
                omega
              have hp_92 : ((((Mf 6) 2).toInt, ((Mf 6) 3).toInt) : Int × Int) = ((sv_65 2).toInt, (sv_65 3).toInt) := by
                have p1 : ((Mf 6) 2).toInt = (sv_65 2).toInt := by
                  have z_1 := congrArg Int32.toInt c_15
                  have z_2 : ¬ (x_18 : Int32).toInt = (0 : Int32).toInt := fun z => c_19 (Int32.toInt_inj.mp z)
                  have z_3 := congrArg Int32.toInt c_35
                  have z_4 := congrArg Int32.toInt c_53
                  have y_0 : (0 : Int32).toInt = 0 := by decide
                  omega
                have p2 : ((Mf 6) 3).toInt = (sv_65 3).toInt := by
                  have z_1 := congrArg Int32.toInt c_15
                  have z_2 : ¬ (x_18 : Int32).toInt = (0 : Int32).toInt := fun z => c_19 (Int32.toInt_inj.mp z)
                  have z_3 := congrArg Int32.toInt c_35
                  have z_4 := congrArg Int32.toInt c_53
                  have y_0 : (0 : Int32).toInt = 0 := by decide
                  omega
                rw [p1, p2]
              exact BfO.eq (bk_k3 ((bws_n (hq_81 ▸ hw_78) (hq_85 ▸ hw_82) hw_86).1 (Classical.byContradiction (fun z => hw_87 ((bws_n (hq_81 ▸ hw_78) (hq_85 ▸ hw_82) hw_86).2 z)))) hr_91) (BfO.of pf_77 hp_92)
            exact ⟨pf_76, (BfO.eq (congrArg (fun z => bCL (rB (Mf 1) (Mv 0)) ((Mv 8).toInt - 1).toNat z ((Mf 6) 2) ((Mf 6) 3)) hq_89.symm) hf_90)⟩
          have hm_93 : (r_67 : Int32).toInt = 0 → (BfE (bCL (rB (Mf 1) (Mv 0)) ((Mv 8).toInt - 1).toNat (Mv 2) ((Mf 6) 2) ((Mf 6) 3)) sv_63) := by
            intro h1r
            obtain pf_94 := hm_71 h1r
            have pf_94 : RgE (bR3 (rB (Mf 1) (Mv 0)) sv_42 ((Mf 6) 2) ((Mf 6) 3)) sv_63 := pf_94
            have hw_95 : ¬ pz_wd (rB (Mf 1) (Mv 0)) (sv_4 : Int32).toInt.toNat pz_book = true := by
              have hq := pf_16
              rw [show (1651470187 : Int64).toInt = pz_pl pz_book by decide] at hq
              exact fun z => hq ((PkW.wd (by decide) (by decide) (by decide)).mpr z)
            have hq_96 : sv_4 = (Mv 2) := SkR.eq h_sk pf_8
            have hq_97 : sv_42 = (Mv 2) := SkR.eq h_sk (SkR.trans (SkR.trans pf_8 pf_28) pf_46)
            have hq_98 : sv_4 = sv_42 := hq_96.trans hq_97.symm
            have hw_99 : ¬ pz_wd (rB (Mf 1) (Mv 0)) (sv_24 : Int32).toInt.toNat pz_sky = true := by
              have hq := pf_36
              rw [show (7564153 : Int64).toInt = pz_pl pz_sky by decide] at hq
              exact fun z => hq ((PkW.wd (by decide) (by decide) (by decide)).mpr z)
            have hq_100 : sv_24 = (Mv 2) := SkR.eq h_sk (SkR.trans pf_8 pf_28)
            have hq_101 : sv_42 = (Mv 2) := SkR.eq h_sk (SkR.trans (SkR.trans pf_8 pf_28) pf_46)
            have hq_102 : sv_24 = sv_42 := hq_100.trans hq_101.symm
            have hw_103 : ¬ pz_wd (rB (Mf 1) (Mv 0)) (sv_42 : Int32).toInt.toNat pz_buyer = true := by
              have hq := pf_54
              rw [show (422877685106 : Int64).toInt = pz_pl pz_buyer by decide] at hq
              exact fun z => hq ((PkW.wd (by decide) (by decide) (by decide)).mpr z)
            have hq_105 : sv_42 = (Mv 2) := SkR.eq h_sk (SkR.trans (SkR.trans pf_8 pf_28) pf_46)
            have hw_104 : ¬ pz_wa (rB (Mf 1) (Mv 0)) (sv_42 : Int32).toInt.toNat pz_bws 0 = -1 := by
              rw [hq_105]
              exact h_wk
            have hq_106 : sv_42 = (Mv 2) := SkR.eq h_sk (SkR.trans (SkR.trans pf_8 pf_28) pf_46)
            have hf_107 : BfE (bCL (rB (Mf 1) (Mv 0)) ((Mv 8).toInt - 1).toNat sv_42 ((Mf 6) 2) ((Mf 6) 3)) sv_63 := by
              have hr_108 : 1 ≤ ((Mv 8).toInt - 1).toNat ∧ ((Mv 8).toInt - 1).toNat < 40 := by
                have z_1 := congrArg Int32.toInt c_15
                have z_2 : ¬ (x_18 : Int32).toInt = (0 : Int32).toInt := fun z => c_19 (Int32.toInt_inj.mp z)
                have z_3 := congrArg Int32.toInt c_35
                have z_4 := congrArg Int32.toInt c_53
                have y_0 : (0 : Int32).toInt = 0 := by decide
                omega
              exact BfE.eq (bk_k3 ((bws_n (hq_98 ▸ hw_95) (hq_102 ▸ hw_99) hw_103).1 (Classical.byContradiction (fun z => hw_104 ((bws_n (hq_98 ▸ hw_95) (hq_102 ▸ hw_99) hw_103).2 z)))) hr_108) (BfE.of pf_94)
            exact (BfE.eq (congrArg (fun z => bCL (rB (Mf 1) (Mv 0)) ((Mv 8).toInt - 1).toNat z ((Mf 6) 2) ((Mf 6) 3)) hq_106.symm) hf_107)
          exact retI (v := r_67) hx hb hr hlk (nar01 hb_73) hP hD hS (sv_62, sv_63, sv_64, sv_65) ⟨_, rfl, hp_74, ha_72, hm_75, hm_93⟩ [0, 1, 2] rfl rfl dX12_bookLineHere_69 (Nat.le_of_ble_eq_true rfl) (Nat.le_of_ble_eq_true rfl) rfl
        · skip
          have hz_111 : (r_47 : Int32).toInt = 1 := by
            have z_1 := congrArg Int32.toInt c_15
            have z_2 : ¬ (x_18 : Int32).toInt = (0 : Int32).toInt := fun z => c_19 (Int32.toInt_inj.mp z)
            have z_3 := congrArg Int32.toInt c_35
            have z_4 : ¬ (r_47 : Int32).toInt = (0 : Int32).toInt := fun z => c_53 (Int32.toInt_inj.mp z)
            have y_0 : (0 : Int32).toInt = 0 := by decide
            omega
          obtain ⟨pf_109, pf_110⟩ := hm_50 hz_111
          have pf_109 : Ltr (Mf 1) (Mv 0) sv_42 := pf_109
          have ar_pf_109 := pf_109.1
          have at_pf_109 : 97 ≤ ((Mf 1) (sv_42 : Int32).toInt.toNat).toInt ∧ ((Mf 1) (sv_42 : Int32).toInt.toNat).toInt ≤ 122 := pf_109.2
          have pf_110 : PkW (rB (Mf 1) (Mv 0)) ((sv_42 : Int32).toInt.toNat) (422877685106 : Int64).toInt := pf_110
          refine lv_aload_n hx hb dX12_bookLineHere_57 rfl (lv_at hl 0 rfl) ?_
          refine lv_iload_n hx hb dX12_bookLineHere_58 rfl (lv_at hl 1 rfl) ?_
          have hr_112 : 0 ≤ (sv_42 : Int32).toInt := by
            have z_1 := congrArg Int32.toInt c_15
            have z_2 : ¬ (x_18 : Int32).toInt = (0 : Int32).toInt := fun z => c_19 (Int32.toInt_inj.mp z)
            have z_3 := congrArg Int32.toInt c_35
            have z_4 : ¬ (r_47 : Int32).toInt = (0 : Int32).toInt := fun z => c_53 (Int32.toInt_inj.mp z)
            have y_0 : (0 : Int32).toInt = 0 := by decide
            omega
          have rg_113 := rB_rg (n := (Mv 0)) h_bs (sv_42 : Int32).toInt.toNat
          have hl_114 : 97 ≤ rB (Mf 1) (Mv 0) (sv_42 : Int32).toInt.toNat ∧ rB (Mf 1) (Mv 0) (sv_42 : Int32).toInt.toNat ≤ 122 := by
            have z_1 := congrArg Int32.toInt c_15
            have z_2 : ¬ (x_18 : Int32).toInt = (0 : Int32).toInt := fun z => c_19 (Int32.toInt_inj.mp z)
            have z_3 := congrArg Int32.toInt c_35
            have z_4 : ¬ (r_47 : Int32).toInt = (0 : Int32).toInt := fun z => c_53 (Int32.toInt_inj.mp z)
            have y_0 : (0 : Int32).toInt = 0 := by decide
            omega
          have ha_115 : 0 ≤ (sv_42 : Int32).toInt ∧ (sv_42 : Int32).toInt ≤ ((Mv 0) : Int32).toInt ∧ ((Mv 0) : Int32).toInt ≤ 400 := by
            have z_1 := congrArg Int32.toInt c_15
            have z_2 : ¬ (x_18 : Int32).toInt = (0 : Int32).toInt := fun z => c_19 (Int32.toInt_inj.mp z)
            have z_3 := congrArg Int32.toInt c_35
            have z_4 : ¬ (r_47 : Int32).toInt = (0 : Int32).toInt := fun z => c_53 (Int32.toInt_inj.mp z)
            have y_0 : (0 : Int32).toInt = 0 := by decide
            omega
          have ha_116 : ((Mf 6) 0).toInt = 1 := by
            have z_1 := congrArg Int32.toInt c_15
            have z_2 : ¬ (x_18 : Int32).toInt = (0 : Int32).toInt := fun z => c_19 (Int32.toInt_inj.mp z)
            have z_3 := congrArg Int32.toInt c_35
            have z_4 : ¬ (r_47 : Int32).toInt = (0 : Int32).toInt := fun z => c_53 (Int32.toInt_inj.mp z)
            have y_0 : (0 : Int32).toInt = 0 := by decide
            omega
          refine cV (a := (Ma 0)) (As := [.int x1]) (rest := []) (wr := []) ⟨hx, hb, hml, hown, hts⟩ hK hX hA (cu_fX12_isBuyerHere l D tc sk (Ma 0) (Ma 1) (Ma 2) (Ma 3) (Ma 4) (Ma 5) (Ma 6) (Ma 7) (Ma 8) (Ma 9) (Ma 10) (Ma 11) (Ma 12) (Ma 13) (Ma 14) (Ma 15) (Ma 16) (Ma 17) (Ma 18) (Ma 19) (Ma 20) (Mv 0) (Mv 1) sv_42 (Mv 3) (Mv 4) (Mv 5) (Mv 6) (Mv 7) (Mv 8) (Mv 9) (Mv 10) (Mv 11) (Mv 12) (Mv 13) (Mv 14) (Mf 1) (Mf 6) (Mj 0) x1 ha_115 h_at h_ro ha_116 h_bs h_w (⟨hr_112, hl_114⟩)) k_1267 k_1264 k_1266 k_39 k_106 pl_X12_isBuyerHere ⟨Nat.le_of_ble_eq_true rfl, Nat.le_of_ble_eq_true rfl⟩ rfl rfl (va_recv hK hP (ci := 12) (q0 := 1) rfl rfl) hP hD hS [1, 2, 0] [] rfl rfl rfl rfl rfl (by decide) rfl hl.1 rfl (Nat.le_of_ble_eq_true rfl) dX12_bookLineHere_59 ⟨Nat.le_of_ble_eq_true rfl, Nat.le_of_ble_eq_true rfl⟩ (fun v_117 u_118 H locs hv_119 hP₀ hD₀ hS₀ => ?_)
          obtain ⟨sv_120, sv_121, sv_122, sv_123⟩ := u_118
          obtain ⟨r_125, rfl, he_126, pf_124, hm_128, hm_129⟩ := hv_119
          have he_126 : ((r_125.toInt = 0 ∧ ¬ (sv_121 : Int32).toInt = 0) ∨ (r_125.toInt = 1 ∧ (sv_123 2).toInt = ((Mf 6) 2).toInt ∧ (sv_123 3).toInt = ((Mf 6) 3).toInt + 1 ∧ (sv_123 0).toInt = ((Mf 6) 0).toInt ∧ ((Mf 6) 3).toInt < 6 ∧ (sv_121 : Int32).toInt = 0)) := he_126
          have pf_124 : (sv_42 : Int32).toInt ≤ (sv_120 : Int32).toInt ∧ (sv_120 : Int32).toInt ≤ ((Mv 0) : Int32).toInt := pf_124
          refine W.eq (g2 := F0 m 62 ls [.int r_125]) rfl ?_
          replace hP : va_P D classes [((Ma 0), .inr (12, [.ref (Ma 1), .int (Mv 0), .int (Mv 1), .ref (Ma 2), .ref (Ma 3), .ref (Ma 4), .ref (Ma 5), .ref (Ma 6), .int sv_120, .int sv_121, .int sv_122, .int (Mv 5), .int (Mv 6), .int (Mv 7), .int (Mv 8), .ref (Ma 7), .int (Mv 9), .ref (Ma 8), .int (Mv 10), .ref (Ma 9), .ref (Ma 10), .int (Mv 11), .int (Mv 12), .int (Mv 13), .ref (Ma 11), .int (Mv 14), .ref (Ma 12), .ref (Ma 13), .ref (Ma 14), .ref (Ma 15), .ref (Ma 16), .long (Mj 0), .ref (Ma 17), .ref (Ma 18), .ref (Ma 19), .ref (Ma 20)])), ((Ma 1), .inl (tc 2, 400, .inl (Mf 1))), ((Ma 6), .inl (tc 0, 95, .inl sv_123))] H := hP₀
          replace hD : va_D A [((Ma 0), .inr (12, [.ref (Ma 1), .int (Mv 0), .int (Mv 1), .ref (Ma 2), .ref (Ma 3), .ref (Ma 4), .ref (Ma 5), .ref (Ma 6), .int sv_120, .int sv_121, .int sv_122, .int (Mv 5), .int (Mv 6), .int (Mv 7), .int (Mv 8), .ref (Ma 7), .int (Mv 9), .ref (Ma 8), .int (Mv 10), .ref (Ma 9), .ref (Ma 10), .int (Mv 11), .int (Mv 12), .int (Mv 13), .ref (Ma 11), .int (Mv 14), .ref (Ma 12), .ref (Ma 13), .ref (Ma 14), .ref (Ma 15), .ref (Ma 16), .long (Mj 0), .ref (Ma 17), .ref (Ma 18), .ref (Ma 19), .ref (Ma 20)])), ((Ma 1), .inl (tc 2, 400, .inl (Mf 1))), ((Ma 6), .inl (tc 0, 95, .inl sv_123))] := hD₀
          replace hS := hS₀
          clear hP₀ hD₀ hS₀
          refine lv_goto (tgt := 69) hx hb dX12_bookLineHere_62 (by decide) ?_
          have ha_130 : ((Mv 2) : Int32).toInt ≤ (sv_120 : Int32).toInt ∧ (sv_120 : Int32).toInt ≤ ((Mv 0) : Int32).toInt := by
            have z_1 := congrArg Int32.toInt c_15
            have z_2 : ¬ (x_18 : Int32).toInt = (0 : Int32).toInt := fun z => c_19 (Int32.toInt_inj.mp z)
            have z_3 := congrArg Int32.toInt c_35
            have z_4 : ¬ (r_47 : Int32).toInt = (0 : Int32).toInt := fun z => c_53 (Int32.toInt_inj.mp z)
            have y_0 : (0 : Int32).toInt = 0 := by decide
            omega
          have hb_131 : (r_125 : Int32).toInt = 0 ∨ (r_125 : Int32).toInt = 1 := by
            have z_1 := congrArg Int32.toInt c_15
            have z_2 : ¬ (x_18 : Int32).toInt = (0 : Int32).toInt := fun z => c_19 (Int32.toInt_inj.mp z)
            have z_3 := congrArg Int32.toInt c_35
            have z_4 : ¬ (r_47 : Int32).toInt = (0 : Int32).toInt := fun z => c_53 (Int32.toInt_inj.mp z)
            have y_0 : (0 : Int32).toInt = 0 := by decide
            omega
          have hp_132 : (((r_125 : Int32).toInt = 0 ∧ ¬ (sv_121 : Int32).toInt = 0) ∨ ((r_125 : Int32).toInt = 1 ∧ (sv_123 0).toInt = 1 ∧ (sv_121 : Int32).toInt = 0)) := by
            have z_1 := congrArg Int32.toInt c_15
            have z_2 : ¬ (x_18 : Int32).toInt = (0 : Int32).toInt := fun z => c_19 (Int32.toInt_inj.mp z)
            have z_3 := congrArg Int32.toInt c_35
            have z_4 : ¬ (r_47 : Int32).toInt = (0 : Int32).toInt := fun z => c_53 (Int32.toInt_inj.mp z)
            have y_0 : (0 : Int32).toInt = 0 := by decide
            omega
          have hm_133 : (r_125 : Int32).toInt = 1 → (RdO sv_123) ∧ (BfO (bCL (rB (Mf 1) (Mv 0)) ((Mv 8).toInt - 1).toNat (Mv 2) ((Mf 6) 2) ((Mf 6) 3)) (rB (Mf 1) (Mv 0)) sv_121 sv_120 (sv_123 2) (sv_123 3)) := by
            intro h1r
            obtain ⟨pf_134, pf_135⟩ := hm_128 h1r
            have pf_134 : RdO sv_123 := pf_134
            have ar_pf_134 := RdO.ar pf_134
            have pf_135 : RgO (bR2 (rB (Mf 1) (Mv 0)) sv_42) (rB (Mf 1) (Mv 0)) sv_121 sv_120 := pf_135
            have ar_pf_135 := pf_135.2
            have hw_136 : ¬ pz_wd (rB (Mf 1) (Mv 0)) (sv_4 : Int32).toInt.toNat pz_book = true := by
              have hq := pf_16
              rw [show (1651470187 : Int64).toInt = pz_pl pz_book by decide] at hq
              exact fun z => hq ((PkW.wd (by decide) (by decide) (by decide)).mpr z)
            have hq_137 : sv_4 = (Mv 2) := SkR.eq h_sk pf_8
            have hq_138 : sv_42 = (Mv 2) := SkR.eq h_sk (SkR.trans (SkR.trans pf_8 pf_28) pf_46)
            have hq_139 : sv_4 = sv_42 := hq_137.trans hq_138.symm
            have hw_140 : ¬ pz_wd (rB (Mf 1) (Mv 0)) (sv_24 : Int32).toInt.toNat pz_sky = true := by
              have hq := pf_36
              rw [show (7564153 : Int64).toInt = pz_pl pz_sky by decide] at hq
              exact fun z => hq ((PkW.wd (by decide) (by decide) (by decide)).mpr z)
            have hq_141 : sv_24 = (Mv 2) := SkR.eq h_sk (SkR.trans pf_8 pf_28)
            have hq_142 : sv_42 = (Mv 2) := SkR.eq h_sk (SkR.trans (SkR.trans pf_8 pf_28) pf_46)
            have hq_143 : sv_24 = sv_42 := hq_141.trans hq_142.symm
            have hw_144 : pz_wd (rB (Mf 1) (Mv 0)) (sv_42 : Int32).toInt.toNat pz_buyer = true := by
              have hq := pf_110
              rw [show (422877685106 : Int64).toInt = pz_pl pz_buyer by decide] at hq
              exact (PkW.wd (by decide) (by decide) (by decide)).mp hq
            have hq_145 : sv_42 = (Mv 2) := SkR.eq h_sk (SkR.trans (SkR.trans pf_8 pf_28) pf_46)
            have hf_146 : BfO (bCL (rB (Mf 1) (Mv 0)) ((Mv 8).toInt - 1).toNat sv_42 ((Mf 6) 2) ((Mf 6) 3)) (rB (Mf 1) (Mv 0)) sv_121 sv_120 (sv_123 2) (sv_123 3) := by
              have hr_147 : 1 ≤ ((Mv 8).toInt - 1).toNat ∧ ((Mv 8).toInt - 1).toNat < 40 := by
                have z_1 := congrArg Int32.toInt c_15
                have z_2 : ¬ (x_18 : Int32).toInt = (0 : Int32).toInt := fun z => c_19 (Int32.toInt_inj.mp z)
                have z_3 := congrArg Int32.toInt c_35
                have z_4 : ¬ (r_47 : Int32).toInt = (0 : Int32).toInt := fun z => c_53 (Int32.toInt_inj.mp z)
                have y_0 : (0 : Int32).toInt = 0 := by decide
                omega
              have hr_148 : ((Mf 6) 3).toInt < 6 := by
                have z_1 := congrArg Int32.toInt c_15
                have z_2 : ¬ (x_18 : Int32).toInt = (0 : Int32).toInt := fun z => c_19 (Int32.toInt_inj.mp z)
                have z_3 := congrArg Int32.toInt c_35
                have z_4 : ¬ (r_47 : Int32).toInt = (0 : Int32).toInt := fun z => c_53 (Int32.toInt_inj.mp z)
                have y_0 : (0 : Int32).toInt = 0 := by decide
                omega
              have hp_149 : ((((Mf 6) 2).toInt, ((Mf 6) 3).toInt + 1) : Int × Int) = ((sv_123 2).toInt, (sv_123 3).toInt) := by
                have p1 : ((Mf 6) 2).toInt = (sv_123 2).toInt := by
                  have z_1 := congrArg Int32.toInt c_15
                  have z_2 : ¬ (x_18 : Int32).toInt = (0 : Int32).toInt := fun z => c_19 (Int32.toInt_inj.mp z)
                  have z_3 := congrArg Int32.toInt c_35
                  have z_4 : ¬ (r_47 : Int32).toInt = (0 : Int32).toInt := fun z => c_53 (Int32.toInt_inj.mp z)
                  have y_0 : (0 : Int32).toInt = 0 := by decide
                  omega
                have p2 : ((Mf 6) 3).toInt + 1 = (sv_123 3).toInt := by
                  have z_1 := congrArg Int32.toInt c_15
                  have z_2 : ¬ (x_18 : Int32).toInt = (0 : Int32).toInt := fun z => c_19 (Int32.toInt_inj.mp z)
                  have z_3 := congrArg Int32.toInt c_35
                  have z_4 : ¬ (r_47 : Int32).toInt = (0 : Int32).toInt := fun z => c_53 (Int32.toInt_inj.mp z)
                  have y_0 : (0 : Int32).toInt = 0 := by decide
                  omega
                rw [p1, p2]
              exact BfO.eq (bk_k2 (bws_2 (hq_139 ▸ hw_136) (hq_143 ▸ hw_140) hw_144) hr_147 hr_148) (BfO.of pf_135 hp_149)
            exact ⟨pf_134, (BfO.eq (congrArg (fun z => bCL (rB (Mf 1) (Mv 0)) ((Mv 8).toInt - 1).toNat z ((Mf 6) 2) ((Mf 6) 3)) hq_145.symm) hf_146)⟩
          have hm_150 : (r_125 : Int32).toInt = 0 → (BfE (bCL (rB (Mf 1) (Mv 0)) ((Mv 8).toInt - 1).toNat (Mv 2) ((Mf 6) 2) ((Mf 6) 3)) sv_121) := by
            intro h1r
            obtain pf_151 := hm_129 h1r
            have pf_151 : ByE (rB (Mf 1) (Mv 0)) sv_42 ((Mf 6) 3) x1 sv_121 := pf_151
            have hw_152 : ¬ pz_wd (rB (Mf 1) (Mv 0)) (sv_4 : Int32).toInt.toNat pz_book = true := by
              have hq := pf_16
              rw [show (1651470187 : Int64).toInt = pz_pl pz_book by decide] at hq
              exact fun z => hq ((PkW.wd (by decide) (by decide) (by decide)).mpr z)
            have hq_153 : sv_4 = (Mv 2) := SkR.eq h_sk pf_8
            have hq_154 : sv_42 = (Mv 2) := SkR.eq h_sk (SkR.trans (SkR.trans pf_8 pf_28) pf_46)
            have hq_155 : sv_4 = sv_42 := hq_153.trans hq_154.symm
            have hw_156 : ¬ pz_wd (rB (Mf 1) (Mv 0)) (sv_24 : Int32).toInt.toNat pz_sky = true := by
              have hq := pf_36
              rw [show (7564153 : Int64).toInt = pz_pl pz_sky by decide] at hq
              exact fun z => hq ((PkW.wd (by decide) (by decide) (by decide)).mpr z)
            have hq_157 : sv_24 = (Mv 2) := SkR.eq h_sk (SkR.trans pf_8 pf_28)
            have hq_158 : sv_42 = (Mv 2) := SkR.eq h_sk (SkR.trans (SkR.trans pf_8 pf_28) pf_46)
            have hq_159 : sv_24 = sv_42 := hq_157.trans hq_158.symm
            have hw_160 : pz_wd (rB (Mf 1) (Mv 0)) (sv_42 : Int32).toInt.toNat pz_buyer = true := by
              have hq := pf_110
              rw [show (422877685106 : Int64).toInt = pz_pl pz_buyer by decide] at hq
              exact (PkW.wd (by decide) (by decide) (by decide)).mp hq
            have hq_161 : sv_42 = (Mv 2) := SkR.eq h_sk (SkR.trans (SkR.trans pf_8 pf_28) pf_46)
            have hf_162 : BfE (bCL (rB (Mf 1) (Mv 0)) ((Mv 8).toInt - 1).toNat sv_42 ((Mf 6) 2) ((Mf 6) 3)) sv_121 := by
              have hr_163 : 1 ≤ ((Mv 8).toInt - 1).toNat ∧ ((Mv 8).toInt - 1).toNat < 40 := by
                have z_1 := congrArg Int32.toInt c_15
                have z_2 : ¬ (x_18 : Int32).toInt = (0 : Int32).toInt := fun z => c_19 (Int32.toInt_inj.mp z)
                have z_3 := congrArg Int32.toInt c_35
                have z_4 : ¬ (r_47 : Int32).toInt = (0 : Int32).toInt := fun z => c_53 (Int32.toInt_inj.mp z)
                have y_0 : (0 : Int32).toInt = 0 := by decide
                omega
              have hPn : (sv_42 : Int32).toInt = (Mv 2).toInt := by rw [hq_161]
              rcases pf_151 with ⟨hz, hw2⟩ | ⟨hz, hw2⟩
              · exact bCL_bad (bws_2 (hq_155 ▸ hw_152) (hq_159 ▸ hw_156) hw_160) (by decide) (Or.inr (Or.inr ⟨rfl, by omega⟩)) (by omega) (by omega)
              · skip
                have hro := RdO.ar h_ro
                exact BfE.eq (bk_k2 (bws_2 (hq_155 ▸ hw_152) (hq_159 ▸ hw_156) hw_160) hr_163 (by omega)) (BfE.of hw2)
            exact (BfE.eq (congrArg (fun z => bCL (rB (Mf 1) (Mv 0)) ((Mv 8).toInt - 1).toNat z ((Mf 6) 2) ((Mf 6) 3)) hq_161.symm) hf_162)
          exact retI (v := r_125) hx hb hr hlk (nar01 hb_131) hP hD hS (sv_120, sv_121, sv_122, sv_123) ⟨_, rfl, hp_132, ha_130, hm_133, hm_150⟩ [0, 1, 2] rfl rfl dX12_bookLineHere_69 (Nat.le_of_ble_eq_true rfl) (Nat.le_of_ble_eq_true rfl) rfl
      · skip
        have hz_166 : (r_29 : Int32).toInt = 1 := by
          have z_1 := congrArg Int32.toInt c_15
          have z_2 : ¬ (x_18 : Int32).toInt = (0 : Int32).toInt := fun z => c_19 (Int32.toInt_inj.mp z)
          have z_3 : ¬ (r_29 : Int32).toInt = (0 : Int32).toInt := fun z => c_35 (Int32.toInt_inj.mp z)
          have y_0 : (0 : Int32).toInt = 0 := by decide
          omega
        obtain ⟨pf_164, pf_165⟩ := hm_32 hz_166
        have pf_164 : Ltr (Mf 1) (Mv 0) sv_24 := pf_164
        have ar_pf_164 := pf_164.1
        have at_pf_164 : 97 ≤ ((Mf 1) (sv_24 : Int32).toInt.toNat).toInt ∧ ((Mf 1) (sv_24 : Int32).toInt.toNat).toInt ≤ 122 := pf_164.2
        have pf_165 : PkW (rB (Mf 1) (Mv 0)) ((sv_24 : Int32).toInt.toNat) (7564153 : Int64).toInt := pf_165
        refine lv_aload_n hx hb dX12_bookLineHere_42 rfl (lv_at hl 0 rfl) ?_
        have hr_167 : 0 ≤ (sv_24 : Int32).toInt := by
          have z_1 := congrArg Int32.toInt c_15
          have z_2 : ¬ (x_18 : Int32).toInt = (0 : Int32).toInt := fun z => c_19 (Int32.toInt_inj.mp z)
          have z_3 : ¬ (r_29 : Int32).toInt = (0 : Int32).toInt := fun z => c_35 (Int32.toInt_inj.mp z)
          have y_0 : (0 : Int32).toInt = 0 := by decide
          omega
        have rg_168 := rB_rg (n := (Mv 0)) h_bs (sv_24 : Int32).toInt.toNat
        have hl_169 : 97 ≤ rB (Mf 1) (Mv 0) (sv_24 : Int32).toInt.toNat ∧ rB (Mf 1) (Mv 0) (sv_24 : Int32).toInt.toNat ≤ 122 := by
          have z_1 := congrArg Int32.toInt c_15
          have z_2 : ¬ (x_18 : Int32).toInt = (0 : Int32).toInt := fun z => c_19 (Int32.toInt_inj.mp z)
          have z_3 : ¬ (r_29 : Int32).toInt = (0 : Int32).toInt := fun z => c_35 (Int32.toInt_inj.mp z)
          have y_0 : (0 : Int32).toInt = 0 := by decide
          omega
        have ha_170 : 0 ≤ (sv_24 : Int32).toInt ∧ (sv_24 : Int32).toInt ≤ ((Mv 0) : Int32).toInt ∧ ((Mv 0) : Int32).toInt ≤ 400 := by
          have z_1 := congrArg Int32.toInt c_15
          have z_2 : ¬ (x_18 : Int32).toInt = (0 : Int32).toInt := fun z => c_19 (Int32.toInt_inj.mp z)
          have z_3 : ¬ (r_29 : Int32).toInt = (0 : Int32).toInt := fun z => c_35 (Int32.toInt_inj.mp z)
          have y_0 : (0 : Int32).toInt = 0 := by decide
          omega
        have ha_171 : ((Mf 6) 0).toInt = 1 := by
          have z_1 := congrArg Int32.toInt c_15
          have z_2 : ¬ (x_18 : Int32).toInt = (0 : Int32).toInt := fun z => c_19 (Int32.toInt_inj.mp z)
          have z_3 : ¬ (r_29 : Int32).toInt = (0 : Int32).toInt := fun z => c_35 (Int32.toInt_inj.mp z)
          have y_0 : (0 : Int32).toInt = 0 := by decide
          omega
        refine cV (a := (Ma 0)) (As := []) (rest := []) (wr := []) ⟨hx, hb, hml, hown, hts⟩ hK hX hA (cu_fX12_isSkyHere l D tc sk (Ma 0) (Ma 1) (Ma 2) (Ma 3) (Ma 4) (Ma 5) (Ma 6) (Ma 7) (Ma 8) (Ma 9) (Ma 10) (Ma 11) (Ma 12) (Ma 13) (Ma 14) (Ma 15) (Ma 16) (Ma 17) (Ma 18) (Ma 19) (Ma 20) (Mv 0) (Mv 1) sv_24 (Mv 3) (Mv 4) (Mv 5) (Mv 6) (Mv 7) (Mv 8) (Mv 9) (Mv 10) (Mv 11) (Mv 12) (Mv 13) (Mv 14) (Mf 1) (Mf 6) (Mj 0) ha_170 h_ro ha_171 h_bs h_w (⟨hr_167, hl_169⟩)) k_1263 k_1260 k_1262 k_38 k_106 pl_X12_isSkyHere ⟨Nat.le_of_ble_eq_true rfl, Nat.le_of_ble_eq_true rfl⟩ rfl rfl (va_recv hK hP (ci := 12) (q0 := 1) rfl rfl) hP hD hS [1, 2, 0] [] rfl rfl rfl rfl rfl (by decide) rfl hl.1 rfl (Nat.le_of_ble_eq_true rfl) dX12_bookLineHere_43 ⟨Nat.le_of_ble_eq_true rfl, Nat.le_of_ble_eq_true rfl⟩ (fun v_172 u_173 H locs hv_174 hP₀ hD₀ hS₀ => ?_)
        obtain ⟨sv_175, sv_176, sv_177, sv_178⟩ := u_173
        obtain ⟨r_180, rfl, he_181, pf_179, hm_183, hm_184⟩ := hv_174
        have he_181 : ((r_180.toInt = 0 ∧ ¬ (sv_176 : Int32).toInt = 0) ∨ (r_180.toInt = 1 ∧ ((sv_178 2).toInt = ((Mf 6) 2).toInt ∧ (sv_178 3).toInt = ((Mf 6) 3).toInt ∧ (sv_178 0).toInt = ((Mf 6) 0).toInt) ∧ (sv_176 : Int32).toInt = 0)) := he_181
        have pf_179 : (sv_24 : Int32).toInt ≤ (sv_175 : Int32).toInt ∧ (sv_175 : Int32).toInt ≤ ((Mv 0) : Int32).toInt := pf_179
        refine W.eq (g2 := F0 m 46 ls [.int r_180]) rfl ?_
        replace hP : va_P D classes [((Ma 0), .inr (12, [.ref (Ma 1), .int (Mv 0), .int (Mv 1), .ref (Ma 2), .ref (Ma 3), .ref (Ma 4), .ref (Ma 5), .ref (Ma 6), .int sv_175, .int sv_176, .int sv_177, .int (Mv 5), .int (Mv 6), .int (Mv 7), .int (Mv 8), .ref (Ma 7), .int (Mv 9), .ref (Ma 8), .int (Mv 10), .ref (Ma 9), .ref (Ma 10), .int (Mv 11), .int (Mv 12), .int (Mv 13), .ref (Ma 11), .int (Mv 14), .ref (Ma 12), .ref (Ma 13), .ref (Ma 14), .ref (Ma 15), .ref (Ma 16), .long (Mj 0), .ref (Ma 17), .ref (Ma 18), .ref (Ma 19), .ref (Ma 20)])), ((Ma 1), .inl (tc 2, 400, .inl (Mf 1))), ((Ma 6), .inl (tc 0, 95, .inl sv_178))] H := hP₀
        replace hD : va_D A [((Ma 0), .inr (12, [.ref (Ma 1), .int (Mv 0), .int (Mv 1), .ref (Ma 2), .ref (Ma 3), .ref (Ma 4), .ref (Ma 5), .ref (Ma 6), .int sv_175, .int sv_176, .int sv_177, .int (Mv 5), .int (Mv 6), .int (Mv 7), .int (Mv 8), .ref (Ma 7), .int (Mv 9), .ref (Ma 8), .int (Mv 10), .ref (Ma 9), .ref (Ma 10), .int (Mv 11), .int (Mv 12), .int (Mv 13), .ref (Ma 11), .int (Mv 14), .ref (Ma 12), .ref (Ma 13), .ref (Ma 14), .ref (Ma 15), .ref (Ma 16), .long (Mj 0), .ref (Ma 17), .ref (Ma 18), .ref (Ma 19), .ref (Ma 20)])), ((Ma 1), .inl (tc 2, 400, .inl (Mf 1))), ((Ma 6), .inl (tc 0, 95, .inl sv_178))] := hD₀
        replace hS := hS₀
        clear hP₀ hD₀ hS₀
        have ha_185 : ((Mv 2) : Int32).toInt ≤ (sv_175 : Int32).toInt ∧ (sv_175 : Int32).toInt ≤ ((Mv 0) : Int32).toInt := by
          have z_1 := congrArg Int32.toInt c_15
          have z_2 : ¬ (x_18 : Int32).toInt = (0 : Int32).toInt := fun z => c_19 (Int32.toInt_inj.mp z)
          have z_3 : ¬ (r_29 : Int32).toInt = (0 : Int32).toInt := fun z => c_35 (Int32.toInt_inj.mp z)
          have y_0 : (0 : Int32).toInt = 0 := by decide
          omega
        have hb_186 : (r_180 : Int32).toInt = 0 ∨ (r_180 : Int32).toInt = 1 := by
          have z_1 := congrArg Int32.toInt c_15
          have z_2 : ¬ (x_18 : Int32).toInt = (0 : Int32).toInt := fun z => c_19 (Int32.toInt_inj.mp z)
          have z_3 : ¬ (r_29 : Int32).toInt = (0 : Int32).toInt := fun z => c_35 (Int32.toInt_inj.mp z)
          have y_0 : (0 : Int32).toInt = 0 := by decide
          omega
        have hp_187 : (((r_180 : Int32).toInt = 0 ∧ ¬ (sv_176 : Int32).toInt = 0) ∨ ((r_180 : Int32).toInt = 1 ∧ (sv_178 0).toInt = 1 ∧ (sv_176 : Int32).toInt = 0)) := by
          have z_1 := congrArg Int32.toInt c_15
          have z_2 : ¬ (x_18 : Int32).toInt = (0 : Int32).toInt := fun z => c_19 (Int32.toInt_inj.mp z)
          have z_3 : ¬ (r_29 : Int32).toInt = (0 : Int32).toInt := fun z => c_35 (Int32.toInt_inj.mp z)
          have y_0 : (0 : Int32).toInt = 0 := by decide
          omega
        have hm_188 : (r_180 : Int32).toInt = 1 → (RdO sv_178) ∧ (BfO (bCL (rB (Mf 1) (Mv 0)) ((Mv 8).toInt - 1).toNat (Mv 2) ((Mf 6) 2) ((Mf 6) 3)) (rB (Mf 1) (Mv 0)) sv_176 sv_175 (sv_178 2) (sv_178 3)) := by
          intro h1r
          obtain ⟨pf_189, pf_190⟩ := hm_183 h1r
          have pf_189 : RdO sv_178 := pf_189
          have ar_pf_189 := RdO.ar pf_189
          have pf_190 : RgO (bR1 (rB (Mf 1) (Mv 0)) sv_24 ((Mf 6) 2)) (rB (Mf 1) (Mv 0)) sv_176 sv_175 := pf_190
          have ar_pf_190 := pf_190.2
          have hw_191 : ¬ pz_wd (rB (Mf 1) (Mv 0)) (sv_4 : Int32).toInt.toNat pz_book = true := by
            have hq := pf_16
            rw [show (1651470187 : Int64).toInt = pz_pl pz_book by decide] at hq
            exact fun z => hq ((PkW.wd (by decide) (by decide) (by decide)).mpr z)
          have hq_192 : sv_4 = (Mv 2) := SkR.eq h_sk pf_8
          have hq_193 : sv_24 = (Mv 2) := SkR.eq h_sk (SkR.trans pf_8 pf_28)
          have hq_194 : sv_4 = sv_24 := hq_192.trans hq_193.symm
          have hw_195 : pz_wd (rB (Mf 1) (Mv 0)) (sv_24 : Int32).toInt.toNat pz_sky = true := by
            have hq := pf_165
            rw [show (7564153 : Int64).toInt = pz_pl pz_sky by decide] at hq
            exact (PkW.wd (by decide) (by decide) (by decide)).mp hq
          have hq_196 : sv_24 = (Mv 2) := SkR.eq h_sk (SkR.trans pf_8 pf_28)
          have hf_197 : BfO (bCL (rB (Mf 1) (Mv 0)) ((Mv 8).toInt - 1).toNat sv_24 ((Mf 6) 2) ((Mf 6) 3)) (rB (Mf 1) (Mv 0)) sv_176 sv_175 (sv_178 2) (sv_178 3) := by
            have hr_198 : 1 ≤ ((Mv 8).toInt - 1).toNat ∧ ((Mv 8).toInt - 1).toNat < 40 := by
              have z_1 := congrArg Int32.toInt c_15
              have z_2 : ¬ (x_18 : Int32).toInt = (0 : Int32).toInt := fun z => c_19 (Int32.toInt_inj.mp z)
              have z_3 : ¬ (r_29 : Int32).toInt = (0 : Int32).toInt := fun z => c_35 (Int32.toInt_inj.mp z)
              have y_0 : (0 : Int32).toInt = 0 := by decide
              omega
            have hp_199 : ((((Mf 6) 2).toInt, ((Mf 6) 3).toInt) : Int × Int) = ((sv_178 2).toInt, (sv_178 3).toInt) := by
              have p1 : ((Mf 6) 2).toInt = (sv_178 2).toInt := by
                have z_1 := congrArg Int32.toInt c_15
                have z_2 : ¬ (x_18 : Int32).toInt = (0 : Int32).toInt := fun z => c_19 (Int32.toInt_inj.mp z)
                have z_3 : ¬ (r_29 : Int32).toInt = (0 : Int32).toInt := fun z => c_35 (Int32.toInt_inj.mp z)
                have y_0 : (0 : Int32).toInt = 0 := by decide
                omega
              have p2 : ((Mf 6) 3).toInt = (sv_178 3).toInt := by
                have z_1 := congrArg Int32.toInt c_15
                have z_2 : ¬ (x_18 : Int32).toInt = (0 : Int32).toInt := fun z => c_19 (Int32.toInt_inj.mp z)
                have z_3 : ¬ (r_29 : Int32).toInt = (0 : Int32).toInt := fun z => c_35 (Int32.toInt_inj.mp z)
                have y_0 : (0 : Int32).toInt = 0 := by decide
                omega
              rw [p1, p2]
            exact BfO.eq (bk_k1 (bws_1 (hq_194 ▸ hw_191) hw_195) hr_198) (BfO.of pf_190 hp_199)
          exact ⟨pf_189, (BfO.eq (congrArg (fun z => bCL (rB (Mf 1) (Mv 0)) ((Mv 8).toInt - 1).toNat z ((Mf 6) 2) ((Mf 6) 3)) hq_196.symm) hf_197)⟩
        have hm_200 : (r_180 : Int32).toInt = 0 → (BfE (bCL (rB (Mf 1) (Mv 0)) ((Mv 8).toInt - 1).toNat (Mv 2) ((Mf 6) 2) ((Mf 6) 3)) sv_176) := by
          intro h1r
          obtain pf_201 := hm_184 h1r
          have pf_201 : RgE (bR1 (rB (Mf 1) (Mv 0)) sv_24 ((Mf 6) 2)) sv_176 := pf_201
          have hw_202 : ¬ pz_wd (rB (Mf 1) (Mv 0)) (sv_4 : Int32).toInt.toNat pz_book = true := by
            have hq := pf_16
            rw [show (1651470187 : Int64).toInt = pz_pl pz_book by decide] at hq
            exact fun z => hq ((PkW.wd (by decide) (by decide) (by decide)).mpr z)
          have hq_203 : sv_4 = (Mv 2) := SkR.eq h_sk pf_8
          have hq_204 : sv_24 = (Mv 2) := SkR.eq h_sk (SkR.trans pf_8 pf_28)
          have hq_205 : sv_4 = sv_24 := hq_203.trans hq_204.symm
          have hw_206 : pz_wd (rB (Mf 1) (Mv 0)) (sv_24 : Int32).toInt.toNat pz_sky = true := by
            have hq := pf_165
            rw [show (7564153 : Int64).toInt = pz_pl pz_sky by decide] at hq
            exact (PkW.wd (by decide) (by decide) (by decide)).mp hq
          have hq_207 : sv_24 = (Mv 2) := SkR.eq h_sk (SkR.trans pf_8 pf_28)
          have hf_208 : BfE (bCL (rB (Mf 1) (Mv 0)) ((Mv 8).toInt - 1).toNat sv_24 ((Mf 6) 2) ((Mf 6) 3)) sv_176 := by
            have hr_209 : 1 ≤ ((Mv 8).toInt - 1).toNat ∧ ((Mv 8).toInt - 1).toNat < 40 := by
              have z_1 := congrArg Int32.toInt c_15
              have z_2 : ¬ (x_18 : Int32).toInt = (0 : Int32).toInt := fun z => c_19 (Int32.toInt_inj.mp z)
              have z_3 : ¬ (r_29 : Int32).toInt = (0 : Int32).toInt := fun z => c_35 (Int32.toInt_inj.mp z)
              have y_0 : (0 : Int32).toInt = 0 := by decide
              omega
            exact BfE.eq (bk_k1 (bws_1 (hq_205 ▸ hw_202) hw_206) hr_209) (BfE.of pf_201)
          exact (BfE.eq (congrArg (fun z => bCL (rB (Mf 1) (Mv 0)) ((Mv 8).toInt - 1).toNat z ((Mf 6) 2) ((Mf 6) 3)) hq_207.symm) hf_208)
        exact retI (v := r_180) hx hb hr hlk (nar01 hb_186) hP hD hS (sv_175, sv_176, sv_177, sv_178) ⟨_, rfl, hp_187, ha_185, hm_188, hm_200⟩ [0, 1, 2] rfl rfl dX12_bookLineHere_46 (Nat.le_of_ble_eq_true rfl) (Nat.le_of_ble_eq_true rfl) rfl
    · skip
      refine lv_aload_n hx hb dX12_bookLineHere_25 rfl (lv_at hl 0 rfl) ?_
      refine lv_iconst (v := 4) hx hb dX12_bookLineHere_26 (by decide) ?_
      refine lv_iload_n hx hb dX12_bookLineHere_27 rfl (lv_at hl 1 rfl) ?_
      have ha_210 : 0 ≤ (4 : Int32).toInt ∧ (4 : Int32).toInt ≤ 4 := by
        have z_1 := congrArg Int32.toInt c_15
        have z_2 := congrArg Int32.toInt c_19
        have y_0 : (0 : Int32).toInt = 0 := by decide
        have y_4 : (4 : Int32).toInt = 4 := by decide
        omega
      refine cV (a := (Ma 0)) (As := [.int 4, .int x1]) (rest := []) (wr := [((Ma 6), .inl (tc 0, 95, .inl (Mf 6))), ((Ma 1), .inl (tc 2, 400, .inl (Mf 1)))]) ⟨hx, hb, hml, hown, hts⟩ hK hX hA (cu_fX12_fails l D tc sk (Ma 0) (Ma 1) (Ma 2) (Ma 3) (Ma 4) (Ma 5) (Ma 6) (Ma 7) (Ma 8) (Ma 9) (Ma 10) (Ma 11) (Ma 12) (Ma 13) (Ma 14) (Ma 15) (Ma 16) (Ma 17) (Ma 18) (Ma 19) (Ma 20) (Mv 0) (Mv 1) sv_4 (Mv 3) (Mv 4) (Mv 5) (Mv 6) (Mv 7) (Mv 8) (Mv 9) (Mv 10) (Mv 11) (Mv 12) (Mv 13) (Mv 14) (Mj 0) 4 x1 ha_210 h_at h_w) k_1232 k_1229 k_1231 k_31 k_106 pl_X12_fails ⟨Nat.le_of_ble_eq_true rfl, Nat.le_of_ble_eq_true rfl⟩ rfl rfl (va_recv hK hP (ci := 12) (q0 := 1) rfl rfl) hP hD hS [1] [0, 2] rfl rfl rfl rfl rfl (by decide) rfl hl.1 rfl (Nat.le_of_ble_eq_true rfl) dX12_bookLineHere_28 ⟨Nat.le_of_ble_eq_true rfl, Nat.le_of_ble_eq_true rfl⟩ (fun v_211 u_212 H locs hv_213 hP₀ hD₀ hS₀ => ?_)
      obtain ⟨sv_214, rfl⟩ : ∃ z, z = u_212 := ⟨_, rfl⟩
      obtain ⟨r_217, rfl, he_218, pf_215, pf_216⟩ := hv_213
      have he_218 : r_217.toInt = 0 := he_218
      have pf_215 : ¬ (sv_214 : Int32).toInt = 0 := pf_215
      have pf_216 : (sv_214 : Int32).toInt = 1 + 8 * x1.toInt + (4 : Int32).toInt := pf_216
      refine W.eq (g2 := F0 m 31 ls [.int r_217]) rfl ?_
      replace hP : va_P D classes [((Ma 6), .inl (tc 0, 95, .inl (Mf 6))), ((Ma 1), .inl (tc 2, 400, .inl (Mf 1))), ((Ma 0), .inr (12, [.ref (Ma 1), .int (Mv 0), .int (Mv 1), .ref (Ma 2), .ref (Ma 3), .ref (Ma 4), .ref (Ma 5), .ref (Ma 6), .int sv_4, .int sv_214, .int (Mv 4), .int (Mv 5), .int (Mv 6), .int (Mv 7), .int (Mv 8), .ref (Ma 7), .int (Mv 9), .ref (Ma 8), .int (Mv 10), .ref (Ma 9), .ref (Ma 10), .int (Mv 11), .int (Mv 12), .int (Mv 13), .ref (Ma 11), .int (Mv 14), .ref (Ma 12), .ref (Ma 13), .ref (Ma 14), .ref (Ma 15), .ref (Ma 16), .long (Mj 0), .ref (Ma 17), .ref (Ma 18), .ref (Ma 19), .ref (Ma 20)]))] H := hP₀
      replace hD : va_D A [((Ma 6), .inl (tc 0, 95, .inl (Mf 6))), ((Ma 1), .inl (tc 2, 400, .inl (Mf 1))), ((Ma 0), .inr (12, [.ref (Ma 1), .int (Mv 0), .int (Mv 1), .ref (Ma 2), .ref (Ma 3), .ref (Ma 4), .ref (Ma 5), .ref (Ma 6), .int sv_4, .int sv_214, .int (Mv 4), .int (Mv 5), .int (Mv 6), .int (Mv 7), .int (Mv 8), .ref (Ma 7), .int (Mv 9), .ref (Ma 8), .int (Mv 10), .ref (Ma 9), .ref (Ma 10), .int (Mv 11), .int (Mv 12), .int (Mv 13), .ref (Ma 11), .int (Mv 14), .ref (Ma 12), .ref (Ma 13), .ref (Ma 14), .ref (Ma 15), .ref (Ma 16), .long (Mj 0), .ref (Ma 17), .ref (Ma 18), .ref (Ma 19), .ref (Ma 20)]))] := hD₀
      replace hS := hS₀
      clear hP₀ hD₀ hS₀
      have yf_220 : (4 : Int32).toInt = 4 := by decide
      have hb_221 : (r_217 : Int32).toInt = 0 ∨ (r_217 : Int32).toInt = 1 := by
        have z_1 := congrArg Int32.toInt c_15
        have z_2 := congrArg Int32.toInt c_19
        have y_0 : (0 : Int32).toInt = 0 := by decide
        omega
      have hp_222 : (((r_217 : Int32).toInt = 0 ∧ ¬ (sv_214 : Int32).toInt = 0) ∨ ((r_217 : Int32).toInt = 1 ∧ ((Mf 6) 0).toInt = 1 ∧ (sv_214 : Int32).toInt = 0)) := by
        have z_1 := congrArg Int32.toInt c_15
        have z_2 := congrArg Int32.toInt c_19
        have y_0 : (0 : Int32).toInt = 0 := by decide
        omega
      have hm_223 : (r_217 : Int32).toInt = 1 → (RdO (Mf 6)) ∧ (BfO (bCL (rB (Mf 1) (Mv 0)) ((Mv 8).toInt - 1).toNat (Mv 2) ((Mf 6) 2) ((Mf 6) 3)) (rB (Mf 1) (Mv 0)) sv_214 sv_4 ((Mf 6) 2) ((Mf 6) 3)) := by
        intro h1r
        exfalso
        have z_1 := congrArg Int32.toInt c_15
        have z_2 := congrArg Int32.toInt c_19
        have y_0 : (0 : Int32).toInt = 0 := by decide
        omega
      have hm_224 : (r_217 : Int32).toInt = 0 → (BfE (bCL (rB (Mf 1) (Mv 0)) ((Mv 8).toInt - 1).toNat (Mv 2) ((Mf 6) 2) ((Mf 6) 3)) sv_214) := by
        intro h1r
        have hw_225 : ¬ pz_wd (rB (Mf 1) (Mv 0)) (sv_4 : Int32).toInt.toNat pz_book = true := by
          have hq := pf_16
          rw [show (1651470187 : Int64).toInt = pz_pl pz_book by decide] at hq
          exact fun z => hq ((PkW.wd (by decide) (by decide) (by decide)).mpr z)
        have hq_226 : sv_4 = (Mv 2) := SkR.eq h_sk pf_8
        have hf_227 : BfE (bCL (rB (Mf 1) (Mv 0)) ((Mv 8).toInt - 1).toNat sv_4 ((Mf 6) 2) ((Mf 6) 3)) sv_214 := by
          have hk0 : ¬ pz_wa (rB (Mf 1) (Mv 0)) (sv_4 : Int32).toInt.toNat pz_bws 0 = 0 := bws_ne0 hw_225
          have hw0 : ¬ pz_wa (rB (Mf 1) (Mv 0)) (sv_4 : Int32).toInt.toNat pz_bws 0 = -1 := by
            rw [hq_226]
            exact h_wk
          have hr_228 : ((Mv 8).toInt - 1).toNat = 0 := by
            have z_1 := congrArg Int32.toInt c_15
            have z_2 := congrArg Int32.toInt c_19
            have y_0 : (0 : Int32).toInt = 0 := by decide
            omega
          have hr_229 : 0 ≤ (sv_4 : Int32).toInt := by
            have z_1 := congrArg Int32.toInt c_15
            have z_2 := congrArg Int32.toInt c_19
            have y_0 : (0 : Int32).toInt = 0 := by decide
            omega
          have hPn : (sv_4 : Int32).toInt = (Mv 2).toInt := by rw [hq_226]
          have hi_230 : (sv_214 : Int32).toInt = 1 + 8 * (sv_4 : Int32).toInt + 4 := by
            have z_1 := congrArg Int32.toInt c_15
            have z_2 := congrArg Int32.toInt c_19
            have y_0 : (0 : Int32).toInt = 0 := by decide
            omega
          exact bCL_bad (k := pz_wa (rB (Mf 1) (Mv 0)) (sv_4 : Int32).toInt.toNat pz_bws 0) rfl hw0 (Or.inr (Or.inl (fun z => hk0 (z.mpr hr_228)))) hr_229 hi_230
        exact (BfE.eq (congrArg (fun z => bCL (rB (Mf 1) (Mv 0)) ((Mv 8).toInt - 1).toNat z ((Mf 6) 2) ((Mf 6) 3)) hq_226.symm) hf_227)
      exact retI (v := r_217) hx hb hr hlk (nar01 hb_221) hP hD hS (sv_4, sv_214, (Mv 4), (Mf 6)) ⟨_, rfl, hp_222, pf_5, hm_223, hm_224⟩ [2, 1, 0] rfl rfl dX12_bookLineHere_31 (Nat.le_of_ble_eq_true rfl) (Nat.le_of_ble_eq_true rfl) rfl
  · skip
    have hz_233 : (r_9 : Int32).toInt = 1 := by
      have z_1 : ¬ (r_9 : Int32).toInt = (0 : Int32).toInt := fun z => c_15 (Int32.toInt_inj.mp z)
      have y_0 : (0 : Int32).toInt = 0 := by decide
      omega
    obtain ⟨pf_231, pf_232⟩ := hm_12 hz_233
    have pf_231 : Ltr (Mf 1) (Mv 0) sv_4 := pf_231
    have ar_pf_231 := pf_231.1
    have at_pf_231 : 97 ≤ ((Mf 1) (sv_4 : Int32).toInt.toNat).toInt ∧ ((Mf 1) (sv_4 : Int32).toInt.toNat).toInt ≤ 122 := pf_231.2
    have pf_232 : PkW (rB (Mf 1) (Mv 0)) ((sv_4 : Int32).toInt.toNat) (1651470187 : Int64).toInt := pf_232
    refine lv_aload_n hx hb dX12_bookLineHere_10 rfl (lv_at hl 0 rfl) ?_
    refine lv_iload_n hx hb dX12_bookLineHere_11 rfl (lv_at hl 1 rfl) ?_
    have hr_234 : 0 ≤ (sv_4 : Int32).toInt := by
      have z_1 : ¬ (r_9 : Int32).toInt = (0 : Int32).toInt := fun z => c_15 (Int32.toInt_inj.mp z)
      have y_0 : (0 : Int32).toInt = 0 := by decide
      omega
    have rg_235 := rB_rg (n := (Mv 0)) h_bs (sv_4 : Int32).toInt.toNat
    have hl_236 : 97 ≤ rB (Mf 1) (Mv 0) (sv_4 : Int32).toInt.toNat ∧ rB (Mf 1) (Mv 0) (sv_4 : Int32).toInt.toNat ≤ 122 := by
      have z_1 : ¬ (r_9 : Int32).toInt = (0 : Int32).toInt := fun z => c_15 (Int32.toInt_inj.mp z)
      have y_0 : (0 : Int32).toInt = 0 := by decide
      omega
    have ha_237 : 0 ≤ (sv_4 : Int32).toInt ∧ (sv_4 : Int32).toInt ≤ ((Mv 0) : Int32).toInt ∧ ((Mv 0) : Int32).toInt ≤ 400 := by
      have z_1 : ¬ (r_9 : Int32).toInt = (0 : Int32).toInt := fun z => c_15 (Int32.toInt_inj.mp z)
      have y_0 : (0 : Int32).toInt = 0 := by decide
      omega
    refine cV (a := (Ma 0)) (As := [.int x1]) (rest := []) (wr := []) ⟨hx, hb, hml, hown, hts⟩ hK hX hA (cu_fX12_isBookHere l D tc sk (Ma 0) (Ma 1) (Ma 2) (Ma 3) (Ma 4) (Ma 5) (Ma 6) (Ma 7) (Ma 8) (Ma 9) (Ma 10) (Ma 11) (Ma 12) (Ma 13) (Ma 14) (Ma 15) (Ma 16) (Ma 17) (Ma 18) (Ma 19) (Ma 20) (Mv 0) (Mv 1) sv_4 (Mv 3) (Mv 4) (Mv 5) (Mv 6) (Mv 7) (Mv 8) (Mv 9) (Mv 10) (Mv 11) (Mv 12) (Mv 13) (Mv 14) (Mf 1) (Mf 6) (Mj 0) x1 ha_237 h_at h_ro h_bs h_w (⟨hr_234, hl_236⟩)) k_1240 k_1237 k_1239 k_33 k_106 pl_X12_isBookHere ⟨Nat.le_of_ble_eq_true rfl, Nat.le_of_ble_eq_true rfl⟩ rfl rfl (va_recv hK hP (ci := 12) (q0 := 1) rfl rfl) hP hD hS [1, 2, 0] [] rfl rfl rfl rfl rfl (by decide) rfl hl.1 rfl (Nat.le_of_ble_eq_true rfl) dX12_bookLineHere_12 ⟨Nat.le_of_ble_eq_true rfl, Nat.le_of_ble_eq_true rfl⟩ (fun v_238 u_239 H locs hv_240 hP₀ hD₀ hS₀ => ?_)
    obtain ⟨sv_241, sv_242, sv_243, sv_244⟩ := u_239
    obtain ⟨r_246, rfl, he_247, pf_245, hm_249, hm_250⟩ := hv_240
    have he_247 : ((r_246.toInt = 0 ∧ ¬ (sv_242 : Int32).toInt = 0) ∨ (r_246.toInt = 1 ∧ (sv_244 0).toInt = 1 ∧ (sv_242 : Int32).toInt = 0 ∧ ((Mf 6) 0).toInt ≤ 0)) := he_247
    have pf_245 : (sv_4 : Int32).toInt ≤ (sv_241 : Int32).toInt ∧ (sv_241 : Int32).toInt ≤ ((Mv 0) : Int32).toInt := pf_245
    refine W.eq (g2 := F0 m 15 ls [.int r_246]) rfl ?_
    replace hP : va_P D classes [((Ma 0), .inr (12, [.ref (Ma 1), .int (Mv 0), .int (Mv 1), .ref (Ma 2), .ref (Ma 3), .ref (Ma 4), .ref (Ma 5), .ref (Ma 6), .int sv_241, .int sv_242, .int sv_243, .int (Mv 5), .int (Mv 6), .int (Mv 7), .int (Mv 8), .ref (Ma 7), .int (Mv 9), .ref (Ma 8), .int (Mv 10), .ref (Ma 9), .ref (Ma 10), .int (Mv 11), .int (Mv 12), .int (Mv 13), .ref (Ma 11), .int (Mv 14), .ref (Ma 12), .ref (Ma 13), .ref (Ma 14), .ref (Ma 15), .ref (Ma 16), .long (Mj 0), .ref (Ma 17), .ref (Ma 18), .ref (Ma 19), .ref (Ma 20)])), ((Ma 1), .inl (tc 2, 400, .inl (Mf 1))), ((Ma 6), .inl (tc 0, 95, .inl sv_244))] H := hP₀
    replace hD : va_D A [((Ma 0), .inr (12, [.ref (Ma 1), .int (Mv 0), .int (Mv 1), .ref (Ma 2), .ref (Ma 3), .ref (Ma 4), .ref (Ma 5), .ref (Ma 6), .int sv_241, .int sv_242, .int sv_243, .int (Mv 5), .int (Mv 6), .int (Mv 7), .int (Mv 8), .ref (Ma 7), .int (Mv 9), .ref (Ma 8), .int (Mv 10), .ref (Ma 9), .ref (Ma 10), .int (Mv 11), .int (Mv 12), .int (Mv 13), .ref (Ma 11), .int (Mv 14), .ref (Ma 12), .ref (Ma 13), .ref (Ma 14), .ref (Ma 15), .ref (Ma 16), .long (Mj 0), .ref (Ma 17), .ref (Ma 18), .ref (Ma 19), .ref (Ma 20)])), ((Ma 1), .inl (tc 2, 400, .inl (Mf 1))), ((Ma 6), .inl (tc 0, 95, .inl sv_244))] := hD₀
    replace hS := hS₀
    clear hP₀ hD₀ hS₀
    have ha_251 : ((Mv 2) : Int32).toInt ≤ (sv_241 : Int32).toInt ∧ (sv_241 : Int32).toInt ≤ ((Mv 0) : Int32).toInt := by
      have z_1 : ¬ (r_9 : Int32).toInt = (0 : Int32).toInt := fun z => c_15 (Int32.toInt_inj.mp z)
      have y_0 : (0 : Int32).toInt = 0 := by decide
      omega
    have hb_252 : (r_246 : Int32).toInt = 0 ∨ (r_246 : Int32).toInt = 1 := by
      have z_1 : ¬ (r_9 : Int32).toInt = (0 : Int32).toInt := fun z => c_15 (Int32.toInt_inj.mp z)
      have y_0 : (0 : Int32).toInt = 0 := by decide
      omega
    have hp_253 : (((r_246 : Int32).toInt = 0 ∧ ¬ (sv_242 : Int32).toInt = 0) ∨ ((r_246 : Int32).toInt = 1 ∧ (sv_244 0).toInt = 1 ∧ (sv_242 : Int32).toInt = 0)) := by
      have z_1 : ¬ (r_9 : Int32).toInt = (0 : Int32).toInt := fun z => c_15 (Int32.toInt_inj.mp z)
      have y_0 : (0 : Int32).toInt = 0 := by decide
      omega
    have hm_254 : (r_246 : Int32).toInt = 1 → (RdO sv_244) ∧ (BfO (bCL (rB (Mf 1) (Mv 0)) ((Mv 8).toInt - 1).toNat (Mv 2) ((Mf 6) 2) ((Mf 6) 3)) (rB (Mf 1) (Mv 0)) sv_242 sv_241 (sv_244 2) (sv_244 3)) := by
      intro h1r
      obtain ⟨pf_255, pf_256⟩ := hm_249 h1r
      have pf_255 : RdO sv_244 := pf_255
      have ar_pf_255 := RdO.ar pf_255
      have pf_256 : BfO (bK0 (rB (Mf 1) (Mv 0)) sv_4 ((Mf 6) 3)) (rB (Mf 1) (Mv 0)) sv_242 sv_241 (sv_244 2) (sv_244 3) := pf_256
      have ar_pf_256 := pf_256.2
      have hw_257 : pz_wd (rB (Mf 1) (Mv 0)) (sv_4 : Int32).toInt.toNat pz_book = true := by
        have hq := pf_232
        rw [show (1651470187 : Int64).toInt = pz_pl pz_book by decide] at hq
        exact (PkW.wd (by decide) (by decide) (by decide)).mp hq
      have hq_258 : sv_4 = (Mv 2) := SkR.eq h_sk pf_8
      have hf_259 : BfO (bCL (rB (Mf 1) (Mv 0)) ((Mv 8).toInt - 1).toNat sv_4 ((Mf 6) 2) ((Mf 6) 3)) (rB (Mf 1) (Mv 0)) sv_242 sv_241 (sv_244 2) (sv_244 3) := by
        have hr_260 : ((Mv 8).toInt - 1).toNat = 0 := by
          have z_1 : ¬ (r_9 : Int32).toInt = (0 : Int32).toInt := fun z => c_15 (Int32.toInt_inj.mp z)
          have y_0 : (0 : Int32).toInt = 0 := by decide
          omega
        exact BfO.eq (bk_k0 (bws_0 hw_257) hr_260) pf_256
      exact ⟨pf_255, (BfO.eq (congrArg (fun z => bCL (rB (Mf 1) (Mv 0)) ((Mv 8).toInt - 1).toNat z ((Mf 6) 2) ((Mf 6) 3)) hq_258.symm) hf_259)⟩
    have hm_261 : (r_246 : Int32).toInt = 0 → (BfE (bCL (rB (Mf 1) (Mv 0)) ((Mv 8).toInt - 1).toNat (Mv 2) ((Mf 6) 2) ((Mf 6) 3)) sv_242) := by
      intro h1r
      obtain pf_262 := hm_250 h1r
      have pf_262 : BoE (rB (Mf 1) (Mv 0)) sv_4 ((Mf 6) 3) ((Mf 6) 0) x1 sv_242 := pf_262
      have hw_263 : pz_wd (rB (Mf 1) (Mv 0)) (sv_4 : Int32).toInt.toNat pz_book = true := by
        have hq := pf_232
        rw [show (1651470187 : Int64).toInt = pz_pl pz_book by decide] at hq
        exact (PkW.wd (by decide) (by decide) (by decide)).mp hq
      have hq_264 : sv_4 = (Mv 2) := SkR.eq h_sk pf_8
      have hf_265 : BfE (bCL (rB (Mf 1) (Mv 0)) ((Mv 8).toInt - 1).toNat sv_4 ((Mf 6) 2) ((Mf 6) 3)) sv_242 := by
        have hPn : (sv_4 : Int32).toInt = (Mv 2).toInt := by rw [hq_264]
        rcases pf_262 with ⟨hz, hw2⟩ | ⟨hz, hw2⟩
        · skip
          have hl0 : ¬ ((Mv 8).toInt - 1).toNat = 0 := by omega
          exact bCL_bad (bws_0 hw_263) (by decide) (Or.inr (Or.inl (fun z => hl0 (z.mp rfl)))) (by omega) (by omega)
        · skip
          have hl0 : ((Mv 8).toInt - 1).toNat = 0 := by omega
          exact BfE.eq (bk_k0 (bws_0 hw_263) hl0) hw2
      exact (BfE.eq (congrArg (fun z => bCL (rB (Mf 1) (Mv 0)) ((Mv 8).toInt - 1).toNat z ((Mf 6) 2) ((Mf 6) 3)) hq_264.symm) hf_265)
    exact retI (v := r_246) hx hb hr hlk (nar01 hb_252) hP hD hS (sv_241, sv_242, sv_243, sv_244) ⟨_, rfl, hp_253, ha_251, hm_254, hm_261⟩ [0, 1, 2] rfl rfl dX12_bookLineHere_15 (Nat.le_of_ble_eq_true rfl) (Nat.le_of_ble_eq_true rfl) rfl
set_option maxRecDepth 100000 in
theorem cu_fX12_bookLineHere (l : Launch) (D : va_G) (tc : Nat → ClassId) (sk : (Nat → Nat) × (Nat → Nat)) (Ma_0 : Nat) (Ma_1 : Nat) (Ma_2 : Nat) (Ma_3 : Nat) (Ma_4 : Nat) (Ma_5 : Nat) (Ma_6 : Nat) (Ma_7 : Nat) (Ma_8 : Nat) (Ma_9 : Nat) (Ma_10 : Nat) (Ma_11 : Nat) (Ma_12 : Nat) (Ma_13 : Nat) (Ma_14 : Nat) (Ma_15 : Nat) (Ma_16 : Nat) (Ma_17 : Nat) (Ma_18 : Nat) (Ma_19 : Nat) (Ma_20 : Nat) (Mv_0 : Int32) (Mv_1 : Int32) (Mv_2 : Int32) (Mv_3 : Int32) (Mv_4 : Int32) (Mv_5 : Int32) (Mv_6 : Int32) (Mv_7 : Int32) (Mv_8 : Int32) (Mv_9 : Int32) (Mv_10 : Int32) (Mv_11 : Int32) (Mv_12 : Int32) (Mv_13 : Int32) (Mv_14 : Int32) (Mf_1 : Nat → Int32) (Mf_6 : Nat → Int32) (Mj_0 : Int64) (x1 : Int32) (h_nx : 0 ≤ (Mv_2 : Int32).toInt ∧ (Mv_2 : Int32).toInt ≤ (Mv_0 : Int32).toInt ∧ (Mv_0 : Int32).toInt ≤ 400) (h_at : 0 ≤ x1.toInt ∧ x1.toInt ≤ 400) (h_ro : RdO Mf_6) (h_bs : ByS Mf_1) (h_w : (Mv_3 : Int32).toInt = 0) (h_sk : SkR (rB Mf_1 Mv_0) Mv_2 Mv_2) (h_lt : LtH (rB Mf_1 Mv_0) Mv_2) (h_wk : BkN (rB Mf_1 Mv_0) Mv_2) (h_r0 : (((Mf_6 0).toInt = 0 ∧ Mv_8.toInt = 1) ∨ ((Mf_6 0).toInt = 1 ∧ 2 ≤ Mv_8.toInt ∧ Mv_8.toInt ≤ 40))) (h_at2 : x1.toInt = Mv_2.toInt) : Ct l yX12_bookLineHere cX12_bookLineHere 2 (some .boolean) { frames := 4, cells := 0, slots := 0, locals := 94 } D tc sk [.ref Ma_0, .int x1] [(Ma_0, .inr (12, [.ref Ma_1, .int Mv_0, .int Mv_1, .ref Ma_2, .ref Ma_3, .ref Ma_4, .ref Ma_5, .ref Ma_6, .int Mv_2, .int Mv_3, .int Mv_4, .int Mv_5, .int Mv_6, .int Mv_7, .int Mv_8, .ref Ma_7, .int Mv_9, .ref Ma_8, .int Mv_10, .ref Ma_9, .ref Ma_10, .int Mv_11, .int Mv_12, .int Mv_13, .ref Ma_11, .int Mv_14, .ref Ma_12, .ref Ma_13, .ref Ma_14, .ref Ma_15, .ref Ma_16, .long Mj_0, .ref Ma_17, .ref Ma_18, .ref Ma_19, .ref Ma_20])), (Ma_1, .inl (tc 2, 400, .inl Mf_1)), (Ma_6, .inl (tc 0, 95, .inl Mf_6))] (fun (v : Option Value) (u : (Int32) × (Int32) × (Int32) × (Nat → Int32)) => match u with | (oo0x1, oo0x2, oo0x3, oo0x4) => ∃ r : Int32, v = some (.int r) ∧ (((r.toInt = 0 ∧ ¬ (oo0x2 : Int32).toInt = 0) ∨ (r.toInt = 1 ∧ (oo0x4 0).toInt = 1 ∧ (oo0x2 : Int32).toInt = 0))) ∧ ((Mv_2 : Int32).toInt ≤ (oo0x1 : Int32).toInt ∧ (oo0x1 : Int32).toInt ≤ (Mv_0 : Int32).toInt) ∧ (r.toInt = 1 → (RdO oo0x4) ∧ (BfO (bCL (rB Mf_1 Mv_0) (Mv_8.toInt - 1).toNat Mv_2 (Mf_6 2) (Mf_6 3)) (rB Mf_1 Mv_0) oo0x2 oo0x1 (oo0x4 2) (oo0x4 3))) ∧ (r.toInt = 0 → (BfE (bCL (rB Mf_1 Mv_0) (Mv_8.toInt - 1).toNat Mv_2 (Mf_6 2) (Mf_6 3)) oo0x2))) (fun (u : (Int32) × (Int32) × (Int32) × (Nat → Int32)) => match u with | (oo0x1, oo0x2, oo0x3, oo0x4) => [(Ma_0, .inr (12, [.ref Ma_1, .int Mv_0, .int Mv_1, .ref Ma_2, .ref Ma_3, .ref Ma_4, .ref Ma_5, .ref Ma_6, .int oo0x1, .int oo0x2, .int oo0x3, .int Mv_5, .int Mv_6, .int Mv_7, .int Mv_8, .ref Ma_7, .int Mv_9, .ref Ma_8, .int Mv_10, .ref Ma_9, .ref Ma_10, .int Mv_11, .int Mv_12, .int Mv_13, .ref Ma_11, .int Mv_14, .ref Ma_12, .ref Ma_13, .ref Ma_14, .ref Ma_15, .ref Ma_16, .long Mj_0, .ref Ma_17, .ref Ma_18, .ref Ma_19, .ref Ma_20])), (Ma_1, .inl (tc 2, 400, .inl Mf_1)), (Ma_6, .inl (tc 0, 95, .inl oo0x4))]) 0 0 :=
  ct_fX12_bookLineHere l D tc sk (fun k => ([Ma_0, Ma_1, Ma_2, Ma_3, Ma_4, Ma_5, Ma_6, Ma_7, Ma_8, Ma_9, Ma_10, Ma_11, Ma_12, Ma_13, Ma_14, Ma_15, Ma_16, Ma_17, Ma_18, Ma_19, Ma_20] : List (Nat)).getD k 0) (fun k => ([Mv_0, Mv_1, Mv_2, Mv_3, Mv_4, Mv_5, Mv_6, Mv_7, Mv_8, Mv_9, Mv_10, Mv_11, Mv_12, Mv_13, Mv_14] : List (Int32)).getD k 0) (fun k => ([(fun _ => 0), Mf_1, (fun _ => 0), (fun _ => 0), (fun _ => 0), (fun _ => 0), Mf_6] : List (Nat → Int32)).getD k (fun _ => 0)) (fun k => ([Mj_0] : List (Int64)).getD k 0) x1 h_nx h_at h_ro h_bs h_w h_sk h_lt h_wk h_r0 h_at2
