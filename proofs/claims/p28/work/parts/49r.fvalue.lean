set_option maxHeartbeats 4000000 in
set_option maxRecDepth 100000 in
theorem ct_fX12_value (l : Launch) (D : va_G) (tc : Nat → ClassId) (sk : (Nat → Nat) × (Nat → Nat)) (Ma : Nat → Nat) (Mv : Nat → Int32) (Mf : Nat → Nat → Int32) (Mj : Nat → Int64) (b : Int32) (d : Nat) (h_nx : 0 ≤ ((Mv 2) : Int32).toInt ∧ ((Mv 2) : Int32).toInt ≤ ((Mv 0) : Int32).toInt ∧ ((Mv 0) : Int32).toInt ≤ 400) (h_cd : Cd (Mf 2) (Mf 3) (Mv 5) b (Mv 6) d) (h_L : ((Mf 3) (Mv 5).toNatClampNeg).toInt ≤ ((Mv 2) : Int32).toInt) (h_md : 0 ≤ ((Mv 6) : Int32).toInt ∧ ((Mv 6) : Int32).toInt ≤ 60) (h_bs : ByS (Mf 1)) (h_w : ((Mv 3) : Int32).toInt = 0) : Ct l yX12_value cX12_value 3 (some .boolean) { frames := 3, cells := 0, slots := 0, locals := 66 } D tc sk [.ref (Ma 0)] [((Ma 0), .inr (12, [.ref (Ma 1), .int (Mv 0), .int (Mv 1), .ref (Ma 2), .ref (Ma 3), .ref (Ma 4), .ref (Ma 5), .ref (Ma 6), .int (Mv 2), .int (Mv 3), .int (Mv 4), .int (Mv 5), .int (Mv 6), .int (Mv 7), .int (Mv 8), .ref (Ma 7), .int (Mv 9), .ref (Ma 8), .int (Mv 10), .ref (Ma 9), .ref (Ma 10), .int (Mv 11), .int (Mv 12), .int (Mv 13), .ref (Ma 11), .int (Mv 14), .ref (Ma 12), .ref (Ma 13), .ref (Ma 14), .ref (Ma 15), .ref (Ma 16), .long (Mj 0), .ref (Ma 17), .ref (Ma 18), .ref (Ma 19), .ref (Ma 20)])), ((Ma 1), .inl (tc 2, 400, .inl (Mf 1))), ((Ma 2), .inl (tc 0, 2400, .inl (Mf 2))), ((Ma 3), .inl (tc 0, 7, .inl (Mf 3)))] (fun (v : Option Value) (u : (Int32) × (Int32) × (Int32) × (Int32) × (Nat → Int32) × (Nat → Int32)) => match u with | (oo0x1, oo0x2, oo0x3, oo0x4, oo0x5, oo0x6) => ∃ r : Int32, v = some (.int r) ∧ (((r.toInt = 0 ∧ ¬ (oo0x2 : Int32).toInt = 0) ∨ (r.toInt = 1 ∧ ((Mf 3) (Mv 5).toNatClampNeg).toInt + 1 ≤ (oo0x6 (Mv 5).toNatClampNeg).toInt ∧ (oo0x6 (Mv 5).toNatClampNeg).toInt + ((Mv 2) : Int32).toInt ≤ ((Mf 3) (Mv 5).toNatClampNeg).toInt + (oo0x1 : Int32).toInt ∧ ((Mv 2) : Int32).toInt + 1 ≤ (oo0x1 : Int32).toInt))) ∧ (((Mv 2) : Int32).toInt ≤ (oo0x1 : Int32).toInt ∧ (oo0x1 : Int32).toInt ≤ ((Mv 0) : Int32).toInt) ∧ (((Mv 6) : Int32).toInt ≤ (oo0x4 : Int32).toInt ∧ (oo0x4 : Int32).toInt ≤ 60) ∧ (Agr (Mf 2) oo0x5 (400 * ((Mv 5) : Int32).toInt + ((Mf 3) (Mv 5).toNatClampNeg).toInt)) ∧ (r.toInt = 1 → (Cd oo0x5 oo0x6 (Mv 5) b oo0x4 (d + 1)) ∧ (RfO (pz_val (rB (Mf 1) (Mv 0)) (St0 (rB (Mf 1) (Mv 0)) (Mv 2) (Mv 6))) (rB (Mf 1) (Mv 0)) oo0x2 oo0x1 oo0x4)) ∧ (r.toInt = 0 → (RfE (pz_val (rB (Mf 1) (Mv 0)) (St0 (rB (Mf 1) (Mv 0)) (Mv 2) (Mv 6))) oo0x2))) (fun (u : (Int32) × (Int32) × (Int32) × (Int32) × (Nat → Int32) × (Nat → Int32)) => match u with | (oo0x1, oo0x2, oo0x3, oo0x4, oo0x5, oo0x6) => [((Ma 0), .inr (12, [.ref (Ma 1), .int (Mv 0), .int (Mv 1), .ref (Ma 2), .ref (Ma 3), .ref (Ma 4), .ref (Ma 5), .ref (Ma 6), .int oo0x1, .int oo0x2, .int oo0x3, .int (Mv 5), .int oo0x4, .int (Mv 7), .int (Mv 8), .ref (Ma 7), .int (Mv 9), .ref (Ma 8), .int (Mv 10), .ref (Ma 9), .ref (Ma 10), .int (Mv 11), .int (Mv 12), .int (Mv 13), .ref (Ma 11), .int (Mv 14), .ref (Ma 12), .ref (Ma 13), .ref (Ma 14), .ref (Ma 15), .ref (Ma 16), .long (Mj 0), .ref (Ma 17), .ref (Ma 18), .ref (Ma 19), .ref (Ma 20)])), ((Ma 1), .inl (tc 2, 400, .inl (Mf 1))), ((Ma 2), .inl (tc 0, 2400, .inl oo0x5)), ((Ma 3), .inl (tc 0, 7, .inl oo0x6))]) 0 0 := by
  refine Ct.start (by decide) (Nat.le_of_ble_eq_true rfl) (fun p e s m below meth c A ls hx hb hr hlk hin hml hown hts hK hX hP hD hA hl hS => ?_)
  have hl : lv_has ls 3 [(0, .ref (Ma 0))] := hl
  have ar_h_cd := Cd.ar h_cd
  refine lv_aload_n hx hb dX12_value_0 rfl (lv_at hl 0 rfl) ?_
  refine cV (a := (Ma 0)) (As := []) (rest := []) (wr := [((Ma 2), .inl (tc 0, 2400, .inl (Mf 2))), ((Ma 3), .inl (tc 0, 7, .inl (Mf 3)))]) ⟨hx, hb, hml, hown, hts⟩ hK hX hA (cu_fX12_see l D tc sk (Ma 0) (Ma 1) (Ma 2) (Ma 3) (Ma 4) (Ma 5) (Ma 6) (Ma 7) (Ma 8) (Ma 9) (Ma 10) (Ma 11) (Ma 12) (Ma 13) (Ma 14) (Ma 15) (Ma 16) (Ma 17) (Ma 18) (Ma 19) (Ma 20) (Mv 0) (Mv 1) (Mv 2) (Mv 3) (Mv 4) (Mv 5) (Mv 6) (Mv 7) (Mv 8) (Mv 9) (Mv 10) (Mv 11) (Mv 12) (Mv 13) (Mv 14) (Mf 1) (Mj 0) h_nx h_bs) k_1211 k_1208 k_1210 k_27 k_106 pl_X12_see ⟨Nat.le_of_ble_eq_true rfl, Nat.le_of_ble_eq_true rfl⟩ rfl rfl (va_recv hK hP (ci := 12) (q0 := 0) rfl rfl) hP hD hS [0, 1] [2, 3] rfl rfl rfl rfl rfl (by decide) rfl hl.1 rfl (Nat.le_of_ble_eq_true rfl) dX12_value_1 ⟨Nat.le_of_ble_eq_true rfl, Nat.le_of_ble_eq_true rfl⟩ (fun v_1 u_2 H locs hv_3 hP₀ hD₀ hS₀ => ?_)
  obtain ⟨sv_4, rfl⟩ : ∃ z, z = u_2 := ⟨_, rfl⟩
  obtain ⟨r_9, rfl, he_10, pf_5, pf_6, pf_7, pf_8⟩ := hv_3
  have he_10 : (r_9.toInt = rB (Mf 1) (Mv 0) (sv_4 : Int32).toInt.toNat ∧ (r_9.toInt = -1 ∨ (sv_4 : Int32).toInt < (Mv 0).toInt)) := he_10
  have pf_5 : ((Mv 2) : Int32).toInt ≤ (sv_4 : Int32).toInt ∧ (sv_4 : Int32).toInt ≤ ((Mv 0) : Int32).toInt := pf_5
  have pf_6 : NSq (Mf 1) (Mv 0) sv_4 := pf_6
  have pf_7 : Stl (Mf 1) (Mv 0) (Mv 2) sv_4 := pf_7
  have pf_8 : SkR (rB (Mf 1) (Mv 0)) (Mv 2) sv_4 := pf_8
  refine W.eq (g2 := F0 m 4 ls [.int r_9]) rfl ?_
  replace hP : va_P D classes [((Ma 2), .inl (tc 0, 2400, .inl (Mf 2))), ((Ma 3), .inl (tc 0, 7, .inl (Mf 3))), ((Ma 0), .inr (12, [.ref (Ma 1), .int (Mv 0), .int (Mv 1), .ref (Ma 2), .ref (Ma 3), .ref (Ma 4), .ref (Ma 5), .ref (Ma 6), .int sv_4, .int (Mv 3), .int (Mv 4), .int (Mv 5), .int (Mv 6), .int (Mv 7), .int (Mv 8), .ref (Ma 7), .int (Mv 9), .ref (Ma 8), .int (Mv 10), .ref (Ma 9), .ref (Ma 10), .int (Mv 11), .int (Mv 12), .int (Mv 13), .ref (Ma 11), .int (Mv 14), .ref (Ma 12), .ref (Ma 13), .ref (Ma 14), .ref (Ma 15), .ref (Ma 16), .long (Mj 0), .ref (Ma 17), .ref (Ma 18), .ref (Ma 19), .ref (Ma 20)])), ((Ma 1), .inl (tc 2, 400, .inl (Mf 1)))] H := hP₀
  replace hD : va_D A [((Ma 2), .inl (tc 0, 2400, .inl (Mf 2))), ((Ma 3), .inl (tc 0, 7, .inl (Mf 3))), ((Ma 0), .inr (12, [.ref (Ma 1), .int (Mv 0), .int (Mv 1), .ref (Ma 2), .ref (Ma 3), .ref (Ma 4), .ref (Ma 5), .ref (Ma 6), .int sv_4, .int (Mv 3), .int (Mv 4), .int (Mv 5), .int (Mv 6), .int (Mv 7), .int (Mv 8), .ref (Ma 7), .int (Mv 9), .ref (Ma 8), .int (Mv 10), .ref (Ma 9), .ref (Ma 10), .int (Mv 11), .int (Mv 12), .int (Mv 13), .ref (Ma 11), .int (Mv 14), .ref (Ma 12), .ref (Ma 13), .ref (Ma 14), .ref (Ma 15), .ref (Ma 16), .long (Mj 0), .ref (Ma 17), .ref (Ma 18), .ref (Ma 19), .ref (Ma 20)])), ((Ma 1), .inl (tc 2, 400, .inl (Mf 1)))] := hD₀
  replace hS := hS₀
  clear hP₀ hD₀ hS₀
  refine lv_pop hx hb dX12_value_4 rfl ?_
  refine lv_aload_n hx hb dX12_value_5 rfl (lv_at hl 0 rfl) ?_
  refine gf_X12_87 hx hb hts hown hK hP 2 rfl rfl dX12_value_6 ?_
  refine lv_istore_n (lv' := [(1, .int sv_4), (0, .ref (Ma 0))]) hx hb dX12_value_9 rfl hl (by decide) rfl (fun ls hl₀ => ?_)
  replace hl := hl₀
  clear hl₀
  refine lv_aload_n hx hb dX12_value_10 rfl (lv_at hl 1 rfl) ?_
  refine lv_aload_n hx hb dX12_value_11 rfl (lv_at hl 1 rfl) ?_
  refine gf_X12_87 hx hb hts hown hK hP 2 rfl rfl dX12_value_12 ?_
  have ha_12 : 0 ≤ sv_4.toInt := by
    omega
  have ha_13 : (Mv 0).toInt ≤ 400 := by
    omega
  refine cV (a := (Ma 0)) (As := [.int sv_4]) (rest := []) (wr := [((Ma 2), .inl (tc 0, 2400, .inl (Mf 2))), ((Ma 3), .inl (tc 0, 7, .inl (Mf 3)))]) ⟨hx, hb, hml, hown, hts⟩ hK hX hA (cu_X12_isDigit l D tc sk (Ma 0) (Ma 1) (Ma 2) (Ma 3) (Ma 4) (Ma 5) (Ma 6) (Ma 7) (Ma 8) (Ma 9) (Ma 10) (Ma 11) (Ma 12) (Ma 13) (Ma 14) (Ma 15) (Ma 16) (Ma 17) (Ma 18) (Ma 19) (Ma 20) (Mv 0) (Mv 1) sv_4 (Mv 3) (Mv 4) (Mv 5) (Mv 6) (Mv 7) (Mv 8) (Mv 9) (Mv 10) (Mv 11) (Mv 12) (Mv 13) (Mv 14) (Mf 1) (Mj 0) sv_4 ha_12 ha_13) k_1256 k_1253 k_1255 k_37 k_106 pl_X12_isDigit ⟨Nat.le_of_ble_eq_true rfl, Nat.le_of_ble_eq_true rfl⟩ rfl rfl (va_recv hK hP (ci := 12) (q0 := 2) rfl rfl) hP hD hS [2, 3] [0, 1] rfl rfl rfl rfl rfl (by decide) rfl hl.1 rfl (Nat.le_of_ble_eq_true rfl) dX12_value_15 ⟨Nat.le_of_ble_eq_true rfl, Nat.le_of_ble_eq_true rfl⟩ (fun v_14 u_15 H locs hv_16 hP₀ hD₀ hS₀ => ?_)
  obtain ⟨r_17, rfl, he_18, hm_20, hm_21⟩ := hv_16
  have he_18 : (r_17.toInt = 0 ∨ r_17.toInt = 1) := he_18
  refine W.eq (g2 := F0 m 18 ls [.int r_17]) rfl ?_
  replace hP : va_P D classes [((Ma 2), .inl (tc 0, 2400, .inl (Mf 2))), ((Ma 3), .inl (tc 0, 7, .inl (Mf 3))), ((Ma 0), .inr (12, [.ref (Ma 1), .int (Mv 0), .int (Mv 1), .ref (Ma 2), .ref (Ma 3), .ref (Ma 4), .ref (Ma 5), .ref (Ma 6), .int sv_4, .int (Mv 3), .int (Mv 4), .int (Mv 5), .int (Mv 6), .int (Mv 7), .int (Mv 8), .ref (Ma 7), .int (Mv 9), .ref (Ma 8), .int (Mv 10), .ref (Ma 9), .ref (Ma 10), .int (Mv 11), .int (Mv 12), .int (Mv 13), .ref (Ma 11), .int (Mv 14), .ref (Ma 12), .ref (Ma 13), .ref (Ma 14), .ref (Ma 15), .ref (Ma 16), .long (Mj 0), .ref (Ma 17), .ref (Ma 18), .ref (Ma 19), .ref (Ma 20)])), ((Ma 1), .inl (tc 2, 400, .inl (Mf 1)))] H := hP₀
  replace hD : va_D A [((Ma 2), .inl (tc 0, 2400, .inl (Mf 2))), ((Ma 3), .inl (tc 0, 7, .inl (Mf 3))), ((Ma 0), .inr (12, [.ref (Ma 1), .int (Mv 0), .int (Mv 1), .ref (Ma 2), .ref (Ma 3), .ref (Ma 4), .ref (Ma 5), .ref (Ma 6), .int sv_4, .int (Mv 3), .int (Mv 4), .int (Mv 5), .int (Mv 6), .int (Mv 7), .int (Mv 8), .ref (Ma 7), .int (Mv 9), .ref (Ma 8), .int (Mv 10), .ref (Ma 9), .ref (Ma 10), .int (Mv 11), .int (Mv 12), .int (Mv 13), .ref (Ma 11), .int (Mv 14), .ref (Ma 12), .ref (Ma 13), .ref (Ma 14), .ref (Ma 15), .ref (Ma 16), .long (Mj 0), .ref (Ma 17), .ref (Ma 18), .ref (Ma 19), .ref (Ma 20)])), ((Ma 1), .inl (tc 2, 400, .inl (Mf 1)))] := hD₀
  replace hS := hS₀
  clear hP₀ hD₀ hS₀
  refine lv_if_eq (tgt := 52) hx hb dX12_value_18 (by decide) (fun c_22 => ?_) (fun c_22 => ?_)
  · skip
    have hz_24 : (r_17 : Int32).toInt = 0 := by
      have z_1 := congrArg Int32.toInt c_22
      have y_0 : (0 : Int32).toInt = 0 := by decide
      omega
    obtain pf_23 := hm_21 hz_24
    have pf_23 : NDgt (Mf 1) (Mv 0) sv_4 := pf_23
    have at_pf_23 : ¬ ((sv_4 : Int32).toInt < (Mv 0).toInt ∧ 48 ≤ ((Mf 1) (sv_4 : Int32).toInt.toNat).toInt ∧ ((Mf 1) (sv_4 : Int32).toInt.toNat).toInt ≤ 57) := pf_23
    refine lv_aload_n hx hb dX12_value_52 rfl (lv_at hl 1 rfl) ?_
    have ha_25 : 0 ≤ (sv_4 : Int32).toInt ∧ (sv_4 : Int32).toInt ≤ ((Mv 0) : Int32).toInt ∧ ((Mv 0) : Int32).toInt ≤ 400 := by
      have z_1 := congrArg Int32.toInt c_22
      have y_0 : (0 : Int32).toInt = 0 := by decide
      omega
    refine cV (a := (Ma 0)) (As := []) (rest := []) (wr := [((Ma 2), .inl (tc 0, 2400, .inl (Mf 2))), ((Ma 3), .inl (tc 0, 7, .inl (Mf 3)))]) ⟨hx, hb, hml, hown, hts⟩ hK hX hA (cu_fX12_wordHere l D tc sk (Ma 0) (Ma 1) (Ma 2) (Ma 3) (Ma 4) (Ma 5) (Ma 6) (Ma 7) (Ma 8) (Ma 9) (Ma 10) (Ma 11) (Ma 12) (Ma 13) (Ma 14) (Ma 15) (Ma 16) (Ma 17) (Ma 18) (Ma 19) (Ma 20) (Mv 0) (Mv 1) sv_4 (Mv 3) (Mv 4) (Mv 5) (Mv 6) (Mv 7) (Mv 8) (Mv 9) (Mv 10) (Mv 11) (Mv 12) (Mv 13) (Mv 14) (Mf 1) (Mj 0) ha_25 h_bs) k_1300 k_1297 k_1299 k_47 k_106 pl_X12_wordHere ⟨Nat.le_of_ble_eq_true rfl, Nat.le_of_ble_eq_true rfl⟩ rfl rfl (va_recv hK hP (ci := 12) (q0 := 2) rfl rfl) hP hD hS [2, 3] [0, 1] rfl rfl rfl rfl rfl (by decide) rfl hl.1 rfl (Nat.le_of_ble_eq_true rfl) dX12_value_53 ⟨Nat.le_of_ble_eq_true rfl, Nat.le_of_ble_eq_true rfl⟩ (fun v_26 u_27 H locs hv_28 hP₀ hD₀ hS₀ => ?_)
    obtain ⟨sv_29, rfl⟩ : ∃ z, z = u_27 := ⟨_, rfl⟩
    obtain ⟨r_32, rfl, he_33, pf_30, pf_31, hm_35⟩ := hv_28
    have he_33 : (r_32.toInt = pz_wa (rB (Mf 1) (Mv 0)) (pz_sk (rB (Mf 1) (Mv 0)) sv_4.toInt.toNat) pz_words 0 ∧ (r_32.toInt = -1 ∨ (0 ≤ r_32.toInt ∧ r_32.toInt ≤ 12))) := he_33
    have pf_30 : (sv_4 : Int32).toInt ≤ (sv_29 : Int32).toInt ∧ (sv_29 : Int32).toInt ≤ ((Mv 0) : Int32).toInt := pf_30
    have pf_31 : SkR (rB (Mf 1) (Mv 0)) sv_4 sv_29 := pf_31
    refine W.eq (g2 := F0 m 56 ls [.int r_32]) rfl ?_
    replace hP : va_P D classes [((Ma 2), .inl (tc 0, 2400, .inl (Mf 2))), ((Ma 3), .inl (tc 0, 7, .inl (Mf 3))), ((Ma 0), .inr (12, [.ref (Ma 1), .int (Mv 0), .int (Mv 1), .ref (Ma 2), .ref (Ma 3), .ref (Ma 4), .ref (Ma 5), .ref (Ma 6), .int sv_29, .int (Mv 3), .int (Mv 4), .int (Mv 5), .int (Mv 6), .int (Mv 7), .int (Mv 8), .ref (Ma 7), .int (Mv 9), .ref (Ma 8), .int (Mv 10), .ref (Ma 9), .ref (Ma 10), .int (Mv 11), .int (Mv 12), .int (Mv 13), .ref (Ma 11), .int (Mv 14), .ref (Ma 12), .ref (Ma 13), .ref (Ma 14), .ref (Ma 15), .ref (Ma 16), .long (Mj 0), .ref (Ma 17), .ref (Ma 18), .ref (Ma 19), .ref (Ma 20)])), ((Ma 1), .inl (tc 2, 400, .inl (Mf 1)))] H := hP₀
    replace hD : va_D A [((Ma 2), .inl (tc 0, 2400, .inl (Mf 2))), ((Ma 3), .inl (tc 0, 7, .inl (Mf 3))), ((Ma 0), .inr (12, [.ref (Ma 1), .int (Mv 0), .int (Mv 1), .ref (Ma 2), .ref (Ma 3), .ref (Ma 4), .ref (Ma 5), .ref (Ma 6), .int sv_29, .int (Mv 3), .int (Mv 4), .int (Mv 5), .int (Mv 6), .int (Mv 7), .int (Mv 8), .ref (Ma 7), .int (Mv 9), .ref (Ma 8), .int (Mv 10), .ref (Ma 9), .ref (Ma 10), .int (Mv 11), .int (Mv 12), .int (Mv 13), .ref (Ma 11), .int (Mv 14), .ref (Ma 12), .ref (Ma 13), .ref (Ma 14), .ref (Ma 15), .ref (Ma 16), .long (Mj 0), .ref (Ma 17), .ref (Ma 18), .ref (Ma 19), .ref (Ma 20)])), ((Ma 1), .inl (tc 2, 400, .inl (Mf 1)))] := hD₀
    replace hS := hS₀
    clear hP₀ hD₀ hS₀
    have hE_36 := SkR.eqB pf_8 pf_31
    refine lv_istore_n (lv' := [(2, .int r_32), (1, .int sv_4), (0, .ref (Ma 0))]) hx hb dX12_value_56 rfl hl (by decide) rfl (fun ls hl₀ => ?_)
    replace hl := hl₀
    clear hl₀
    refine lv_iload_n hx hb dX12_value_57 rfl (lv_at hl 0 rfl) ?_
    refine lv_if_ge (tgt := 68) hx hb dX12_value_58 (by decide) (fun c_37 => ?_) (fun c_37 => ?_)
    · skip
      have hz_39 : 0 ≤ (r_32 : Int32).toInt := by
        have z_1 := congrArg Int32.toInt c_22
        have z_2 := Int32.le_iff_toInt_le.mp c_37
        have y_0 : (0 : Int32).toInt = 0 := by decide
        omega
      obtain pf_38 := hm_35 hz_39
      have pf_38 : Ltr (Mf 1) (Mv 0) sv_29 := pf_38
      have ar_pf_38 := pf_38.1
      have at_pf_38 : 97 ≤ ((Mf 1) (sv_29 : Int32).toInt.toNat).toInt ∧ ((Mf 1) (sv_29 : Int32).toInt.toNat).toInt ≤ 122 := pf_38.2
      refine lv_aload_n hx hb dX12_value_68 rfl (lv_at hl 2 rfl) ?_
      refine lv_iload_n hx hb dX12_value_69 rfl (lv_at hl 1 rfl) ?_
      have ha_40 : 0 ≤ sv_4.toInt ∧ sv_4.toInt ≤ 400 := by
        have z_1 := congrArg Int32.toInt c_22
        have z_2 := Int32.le_iff_toInt_le.mp c_37
        have y_0 : (0 : Int32).toInt = 0 := by decide
        omega
      refine cV (a := (Ma 0)) (As := [.int sv_4]) (rest := []) (wr := [((Ma 2), .inl (tc 0, 2400, .inl (Mf 2))), ((Ma 3), .inl (tc 0, 7, .inl (Mf 3))), ((Ma 1), .inl (tc 2, 400, .inl (Mf 1)))]) ⟨hx, hb, hml, hown, hts⟩ hK hX hA (cu_fX12_makes l D tc sk (Ma 0) (Ma 1) (Ma 2) (Ma 3) (Ma 4) (Ma 5) (Ma 6) (Ma 7) (Ma 8) (Ma 9) (Ma 10) (Ma 11) (Ma 12) (Ma 13) (Ma 14) (Ma 15) (Ma 16) (Ma 17) (Ma 18) (Ma 19) (Ma 20) (Mv 0) (Mv 1) sv_29 (Mv 3) (Mv 4) (Mv 5) (Mv 6) (Mv 7) (Mv 8) (Mv 9) (Mv 10) (Mv 11) (Mv 12) (Mv 13) (Mv 14) (Mj 0) sv_4 ha_40 h_md h_w) k_1292 k_1289 k_1291 k_45 k_106 pl_X12_makes ⟨Nat.le_of_ble_eq_true rfl, Nat.le_of_ble_eq_true rfl⟩ rfl rfl (va_recv hK hP (ci := 12) (q0 := 2) rfl rfl) hP hD hS [2] [0, 1, 3] rfl rfl rfl rfl rfl (by decide) rfl hl.1 rfl (Nat.le_of_ble_eq_true rfl) dX12_value_70 ⟨Nat.le_of_ble_eq_true rfl, Nat.le_of_ble_eq_true rfl⟩ (fun v_41 u_42 H locs hv_43 hP₀ hD₀ hS₀ => ?_)
      obtain ⟨sv_44, sv_45⟩ := u_42
      obtain ⟨r_47, rfl, he_48, pf_46⟩ := hv_43
      have he_48 : ((r_47.toInt = 0 ∧ ¬ (sv_44 : Int32).toInt = 0 ∧ (Mv 6).toInt = 60 ∧ (sv_44 : Int32).toInt = 1 + 8 * sv_4.toInt + 3) ∨ (r_47.toInt = 1 ∧ (sv_45 : Int32).toInt = (Mv 6).toInt + 1 ∧ (Mv 6).toInt < 60 ∧ (sv_44 : Int32).toInt = 0)) := he_48
      have pf_46 : ((Mv 6) : Int32).toInt ≤ (sv_45 : Int32).toInt ∧ (sv_45 : Int32).toInt ≤ 60 := pf_46
      refine W.eq (g2 := F0 m 73 ls [.int r_47]) rfl ?_
      replace hP : va_P D classes [((Ma 2), .inl (tc 0, 2400, .inl (Mf 2))), ((Ma 3), .inl (tc 0, 7, .inl (Mf 3))), ((Ma 1), .inl (tc 2, 400, .inl (Mf 1))), ((Ma 0), .inr (12, [.ref (Ma 1), .int (Mv 0), .int (Mv 1), .ref (Ma 2), .ref (Ma 3), .ref (Ma 4), .ref (Ma 5), .ref (Ma 6), .int sv_29, .int sv_44, .int (Mv 4), .int (Mv 5), .int sv_45, .int (Mv 7), .int (Mv 8), .ref (Ma 7), .int (Mv 9), .ref (Ma 8), .int (Mv 10), .ref (Ma 9), .ref (Ma 10), .int (Mv 11), .int (Mv 12), .int (Mv 13), .ref (Ma 11), .int (Mv 14), .ref (Ma 12), .ref (Ma 13), .ref (Ma 14), .ref (Ma 15), .ref (Ma 16), .long (Mj 0), .ref (Ma 17), .ref (Ma 18), .ref (Ma 19), .ref (Ma 20)]))] H := hP₀
      replace hD : va_D A [((Ma 2), .inl (tc 0, 2400, .inl (Mf 2))), ((Ma 3), .inl (tc 0, 7, .inl (Mf 3))), ((Ma 1), .inl (tc 2, 400, .inl (Mf 1))), ((Ma 0), .inr (12, [.ref (Ma 1), .int (Mv 0), .int (Mv 1), .ref (Ma 2), .ref (Ma 3), .ref (Ma 4), .ref (Ma 5), .ref (Ma 6), .int sv_29, .int sv_44, .int (Mv 4), .int (Mv 5), .int sv_45, .int (Mv 7), .int (Mv 8), .ref (Ma 7), .int (Mv 9), .ref (Ma 8), .int (Mv 10), .ref (Ma 9), .ref (Ma 10), .int (Mv 11), .int (Mv 12), .int (Mv 13), .ref (Ma 11), .int (Mv 14), .ref (Ma 12), .ref (Ma 13), .ref (Ma 14), .ref (Ma 15), .ref (Ma 16), .long (Mj 0), .ref (Ma 17), .ref (Ma 18), .ref (Ma 19), .ref (Ma 20)]))] := hD₀
      replace hS := hS₀
      clear hP₀ hD₀ hS₀
      have hr_51 : ((Mv 6) : Int32).toInt ≤ (sv_45 : Int32).toInt ∧ (sv_45 : Int32).toInt ≤ 60 := by
        have z_1 := congrArg Int32.toInt c_22
        have z_2 := Int32.le_iff_toInt_le.mp c_37
        have y_0 : (0 : Int32).toInt = 0 := by decide
        omega
      have pf_50 : Cd (Mf 2) (Mf 3) (Mv 5) b sv_45 d := Cd.mono h_cd hr_51
      have ar_pf_50 := Cd.ar pf_50
      refine lv_if_ne (tgt := 78) hx hb dX12_value_73 (by decide) (fun c_52 => ?_) (fun c_52 => ?_)
      · skip
        refine lv_aload_n hx hb dX12_value_78 rfl (lv_at hl 2 rfl) ?_
        have ha_53 : 0 ≤ (sv_29 : Int32).toInt ∧ (sv_29 : Int32).toInt ≤ ((Mv 0) : Int32).toInt ∧ ((Mv 0) : Int32).toInt ≤ 400 := by
          have z_1 := congrArg Int32.toInt c_22
          have z_2 := Int32.le_iff_toInt_le.mp c_37
          have z_3 : ¬ (r_47 : Int32).toInt = (0 : Int32).toInt := fun z => c_52 (Int32.toInt_inj.mp z)
          have y_0 : (0 : Int32).toInt = 0 := by decide
          omega
        refine cV (a := (Ma 0)) (As := []) (rest := []) (wr := [((Ma 2), .inl (tc 0, 2400, .inl (Mf 2))), ((Ma 3), .inl (tc 0, 7, .inl (Mf 3)))]) ⟨hx, hb, hml, hown, hts⟩ hK hX hA (cu_fX12_passWord l D tc sk (Ma 0) (Ma 1) (Ma 2) (Ma 3) (Ma 4) (Ma 5) (Ma 6) (Ma 7) (Ma 8) (Ma 9) (Ma 10) (Ma 11) (Ma 12) (Ma 13) (Ma 14) (Ma 15) (Ma 16) (Ma 17) (Ma 18) (Ma 19) (Ma 20) (Mv 0) (Mv 1) sv_29 sv_44 (Mv 4) (Mv 5) sv_45 (Mv 7) (Mv 8) (Mv 9) (Mv 10) (Mv 11) (Mv 12) (Mv 13) (Mv 14) (Mf 1) (Mj 0) ha_53 h_bs) k_1244 k_1241 k_1243 k_34 k_106 pl_X12_passWord ⟨Nat.le_of_ble_eq_true rfl, Nat.le_of_ble_eq_true rfl⟩ rfl rfl (va_recv hK hP (ci := 12) (q0 := 3) rfl rfl) hP hD hS [3, 2] [0, 1] rfl rfl rfl rfl rfl (by decide) rfl hl.1 rfl (Nat.le_of_ble_eq_true rfl) dX12_value_79 ⟨Nat.le_of_ble_eq_true rfl, Nat.le_of_ble_eq_true rfl⟩ (fun v_54 u_55 H locs hv_56 hP₀ hD₀ hS₀ => ?_)
        obtain ⟨sv_57, rfl⟩ : ∃ z, z = u_55 := ⟨_, rfl⟩
        obtain ⟨rfl, pf_58, pf_59, pf_60⟩ := hv_56
        have pf_58 : (sv_29 : Int32).toInt ≤ (sv_57 : Int32).toInt ∧ (sv_57 : Int32).toInt ≤ ((Mv 0) : Int32).toInt := pf_58
        have pf_59 : Pw (Mf 1) (Mv 0) sv_29 sv_57 := pf_59
        have ar_pf_59 := pf_59 pf_38
        have pf_60 : PsR (rB (Mf 1) (Mv 0)) sv_29 sv_57 := pf_60
        refine W.eq (g2 := F0 m 82 ls []) rfl ?_
        replace hP : va_P D classes [((Ma 2), .inl (tc 0, 2400, .inl (Mf 2))), ((Ma 3), .inl (tc 0, 7, .inl (Mf 3))), ((Ma 0), .inr (12, [.ref (Ma 1), .int (Mv 0), .int (Mv 1), .ref (Ma 2), .ref (Ma 3), .ref (Ma 4), .ref (Ma 5), .ref (Ma 6), .int sv_57, .int sv_44, .int (Mv 4), .int (Mv 5), .int sv_45, .int (Mv 7), .int (Mv 8), .ref (Ma 7), .int (Mv 9), .ref (Ma 8), .int (Mv 10), .ref (Ma 9), .ref (Ma 10), .int (Mv 11), .int (Mv 12), .int (Mv 13), .ref (Ma 11), .int (Mv 14), .ref (Ma 12), .ref (Ma 13), .ref (Ma 14), .ref (Ma 15), .ref (Ma 16), .long (Mj 0), .ref (Ma 17), .ref (Ma 18), .ref (Ma 19), .ref (Ma 20)])), ((Ma 1), .inl (tc 2, 400, .inl (Mf 1)))] H := hP₀
        replace hD : va_D A [((Ma 2), .inl (tc 0, 2400, .inl (Mf 2))), ((Ma 3), .inl (tc 0, 7, .inl (Mf 3))), ((Ma 0), .inr (12, [.ref (Ma 1), .int (Mv 0), .int (Mv 1), .ref (Ma 2), .ref (Ma 3), .ref (Ma 4), .ref (Ma 5), .ref (Ma 6), .int sv_57, .int sv_44, .int (Mv 4), .int (Mv 5), .int sv_45, .int (Mv 7), .int (Mv 8), .ref (Ma 7), .int (Mv 9), .ref (Ma 8), .int (Mv 10), .ref (Ma 9), .ref (Ma 10), .int (Mv 11), .int (Mv 12), .int (Mv 13), .ref (Ma 11), .int (Mv 14), .ref (Ma 12), .ref (Ma 13), .ref (Ma 14), .ref (Ma 15), .ref (Ma 16), .long (Mj 0), .ref (Ma 17), .ref (Ma 18), .ref (Ma 19), .ref (Ma 20)])), ((Ma 1), .inl (tc 2, 400, .inl (Mf 1)))] := hD₀
        replace hS := hS₀
        clear hP₀ hD₀ hS₀
        refine lv_aload_n hx hb dX12_value_82 rfl (lv_at hl 2 rfl) ?_
        refine lv_iconst (v := 1) hx hb dX12_value_83 (by decide) ?_
        refine lv_iload_n hx hb dX12_value_84 rfl (lv_at hl 0 rfl) ?_
        have hr_61 : (d : Int) < 60 := by
          have z_1 := congrArg Int32.toInt c_22
          have z_2 := Int32.le_iff_toInt_le.mp c_37
          have z_3 : ¬ (r_47 : Int32).toInt = (0 : Int32).toInt := fun z => c_52 (Int32.toInt_inj.mp z)
          have y_0 : (0 : Int32).toInt = 0 := by decide
          omega
        have hr_62 : 0 ≤ (r_32 : Int32).toInt ∧ (r_32 : Int32).toInt ≤ 12 := by
          have z_1 := congrArg Int32.toInt c_22
          have z_2 := Int32.le_iff_toInt_le.mp c_37
          have z_3 : ¬ (r_47 : Int32).toInt = (0 : Int32).toInt := fun z => c_52 (Int32.toInt_inj.mp z)
          have y_0 : (0 : Int32).toInt = 0 := by decide
          omega
        have ha_63 : ((d + 1) : Int) ≤ sv_45.toInt := by
          have z_1 := congrArg Int32.toInt c_22
          have z_2 := Int32.le_iff_toInt_le.mp c_37
          have z_3 : ¬ (r_47 : Int32).toInt = (0 : Int32).toInt := fun z => c_52 (Int32.toInt_inj.mp z)
          have y_0 : (0 : Int32).toInt = 0 := by decide
          omega
        have ha_64 : ((Mf 3) (Mv 5).toNatClampNeg).toInt < 400 := by
          have z_1 := congrArg Int32.toInt c_22
          have z_2 := Int32.le_iff_toInt_le.mp c_37
          have z_3 : ¬ (r_47 : Int32).toInt = (0 : Int32).toInt := fun z => c_52 (Int32.toInt_inj.mp z)
          have y_0 : (0 : Int32).toInt = 0 := by decide
          omega
        refine cV (a := (Ma 0)) (As := [.int 1, .int r_32]) (rest := []) (wr := [((Ma 1), .inl (tc 2, 400, .inl (Mf 1)))]) ⟨hx, hb, hml, hown, hts⟩ hK hX hA (cu_X12_puts l D tc sk (Ma 0) (Ma 1) (Ma 2) (Ma 3) (Ma 4) (Ma 5) (Ma 6) (Ma 7) (Ma 8) (Ma 9) (Ma 10) (Ma 11) (Ma 12) (Ma 13) (Ma 14) (Ma 15) (Ma 16) (Ma 17) (Ma 18) (Ma 19) (Ma 20) (Mv 0) (Mv 1) sv_57 sv_44 (Mv 4) (Mv 5) sv_45 (Mv 7) (Mv 8) (Mv 9) (Mv 10) (Mv 11) (Mv 12) (Mv 13) (Mv 14) (Mf 2) (Mf 3) (Mj 0) 1 r_32 b sv_45 d (d + 1) pf_50 (StpR.word hr_61 hr_62) ha_63 ha_64) k_1296 k_1293 k_1295 k_46 k_106 pl_X12_puts ⟨Nat.le_of_ble_eq_true rfl, Nat.le_of_ble_eq_true rfl⟩ rfl rfl (va_recv hK hP (ci := 12) (q0 := 2) rfl rfl) hP hD hS [2, 0, 1] [3] rfl rfl rfl rfl rfl (by decide) rfl hl.1 rfl (Nat.le_of_ble_eq_true rfl) dX12_value_85 ⟨Nat.le_of_ble_eq_true rfl, Nat.le_of_ble_eq_true rfl⟩ (fun v_65 u_66 H locs hv_67 hP₀ hD₀ hS₀ => ?_)
        obtain ⟨sv_68, sv_69⟩ := u_66
        obtain ⟨rfl, pf_70, pf_71, pf_72⟩ := hv_67
        have pf_70 : Cd sv_68 sv_69 (Mv 5) b sv_45 (d + 1) := pf_70
        have ar_pf_70 := Cd.ar pf_70
        have pf_71 : Agr (Mf 2) sv_68 (400 * ((Mv 5) : Int32).toInt + ((Mf 3) (Mv 5).toNatClampNeg).toInt) := pf_71
        have pf_72 : (sv_69 (Mv 5).toNatClampNeg).toInt = ((Mf 3) (Mv 5).toNatClampNeg).toInt + 1 := pf_72
        refine W.eq (g2 := F0 m 88 ls []) rfl ?_
        replace hP : va_P D classes [((Ma 1), .inl (tc 2, 400, .inl (Mf 1))), ((Ma 0), .inr (12, [.ref (Ma 1), .int (Mv 0), .int (Mv 1), .ref (Ma 2), .ref (Ma 3), .ref (Ma 4), .ref (Ma 5), .ref (Ma 6), .int sv_57, .int sv_44, .int (Mv 4), .int (Mv 5), .int sv_45, .int (Mv 7), .int (Mv 8), .ref (Ma 7), .int (Mv 9), .ref (Ma 8), .int (Mv 10), .ref (Ma 9), .ref (Ma 10), .int (Mv 11), .int (Mv 12), .int (Mv 13), .ref (Ma 11), .int (Mv 14), .ref (Ma 12), .ref (Ma 13), .ref (Ma 14), .ref (Ma 15), .ref (Ma 16), .long (Mj 0), .ref (Ma 17), .ref (Ma 18), .ref (Ma 19), .ref (Ma 20)])), ((Ma 2), .inl (tc 0, 2400, .inl sv_68)), ((Ma 3), .inl (tc 0, 7, .inl sv_69))] H := hP₀
        replace hD : va_D A [((Ma 1), .inl (tc 2, 400, .inl (Mf 1))), ((Ma 0), .inr (12, [.ref (Ma 1), .int (Mv 0), .int (Mv 1), .ref (Ma 2), .ref (Ma 3), .ref (Ma 4), .ref (Ma 5), .ref (Ma 6), .int sv_57, .int sv_44, .int (Mv 4), .int (Mv 5), .int sv_45, .int (Mv 7), .int (Mv 8), .ref (Ma 7), .int (Mv 9), .ref (Ma 8), .int (Mv 10), .ref (Ma 9), .ref (Ma 10), .int (Mv 11), .int (Mv 12), .int (Mv 13), .ref (Ma 11), .int (Mv 14), .ref (Ma 12), .ref (Ma 13), .ref (Ma 14), .ref (Ma 15), .ref (Ma 16), .long (Mj 0), .ref (Ma 17), .ref (Ma 18), .ref (Ma 19), .ref (Ma 20)])), ((Ma 2), .inl (tc 0, 2400, .inl sv_68)), ((Ma 3), .inl (tc 0, 7, .inl sv_69))] := hD₀
        replace hS := hS₀
        clear hP₀ hD₀ hS₀
        refine lv_iconst (v := 1) hx hb dX12_value_88 (by decide) ?_
        have ha_73 : ((Mv 2) : Int32).toInt ≤ (sv_57 : Int32).toInt ∧ (sv_57 : Int32).toInt ≤ ((Mv 0) : Int32).toInt := by
          have z_1 := congrArg Int32.toInt c_22
          have z_2 := Int32.le_iff_toInt_le.mp c_37
          have z_3 : ¬ (r_47 : Int32).toInt = (0 : Int32).toInt := fun z => c_52 (Int32.toInt_inj.mp z)
          have y_0 : (0 : Int32).toInt = 0 := by decide
          omega
        have hp_74 : (((1 : Int32).toInt = 0 ∧ ¬ (sv_44 : Int32).toInt = 0) ∨ ((1 : Int32).toInt = 1 ∧ ((Mf 3) (Mv 5).toNatClampNeg).toInt + 1 ≤ (sv_69 (Mv 5).toNatClampNeg).toInt ∧ (sv_69 (Mv 5).toNatClampNeg).toInt + ((Mv 2) : Int32).toInt ≤ ((Mf 3) (Mv 5).toNatClampNeg).toInt + (sv_57 : Int32).toInt ∧ ((Mv 2) : Int32).toInt + 1 ≤ (sv_57 : Int32).toInt)) := by
          have z_1 := congrArg Int32.toInt c_22
          have z_2 := Int32.le_iff_toInt_le.mp c_37
          have z_3 : ¬ (r_47 : Int32).toInt = (0 : Int32).toInt := fun z => c_52 (Int32.toInt_inj.mp z)
          have y_0 : (0 : Int32).toInt = 0 := by decide
          have y_1 : (1 : Int32).toInt = 1 := by decide
          have yr : (1 : Int32).toInt = 1 := by decide
          omega
        have hm_75 : (1 : Int32).toInt = 1 → (Cd sv_68 sv_69 (Mv 5) b sv_45 (d + 1)) ∧ (RfO (pz_val (rB (Mf 1) (Mv 0)) (St0 (rB (Mf 1) (Mv 0)) (Mv 2) (Mv 6))) (rB (Mf 1) (Mv 0)) sv_44 sv_57 sv_45) := by
          intro h1r
          have hr_76 : 0 ≤ (sv_4 : Int32).toInt := by
            have z_1 := congrArg Int32.toInt c_22
            have z_2 := Int32.le_iff_toInt_le.mp c_37
            have z_3 : ¬ (r_47 : Int32).toInt = (0 : Int32).toInt := fun z => c_52 (Int32.toInt_inj.mp z)
            have y_0 : (0 : Int32).toInt = 0 := by decide
            omega
          have rg_77 := rB_rg (n := (Mv 0)) h_bs (sv_4 : Int32).toInt.toNat
          have hn_78 : ¬ (48 ≤ rB (Mf 1) (Mv 0) (sv_4 : Int32).toInt.toNat ∧ rB (Mf 1) (Mv 0) (sv_4 : Int32).toInt.toNat ≤ 57) := by
            have z_1 := congrArg Int32.toInt c_22
            have z_2 := Int32.le_iff_toInt_le.mp c_37
            have z_3 : ¬ (r_47 : Int32).toInt = (0 : Int32).toInt := fun z => c_52 (Int32.toInt_inj.mp z)
            have y_0 : (0 : Int32).toInt = 0 := by decide
            omega
          have hw_79 : (r_32 : Int32).toInt = pz_wa (rB (Mf 1) (Mv 0)) (sv_4 : Int32).toInt.toNat pz_words 0 := by
            have hq := he_33.1
            rw [(pf_8).2.1] at hq
            exact hq
          have hr_80 : ¬ (r_32 : Int32).toInt = -1 := by
            have z_1 := congrArg Int32.toInt c_22
            have z_2 := Int32.le_iff_toInt_le.mp c_37
            have z_3 : ¬ (r_47 : Int32).toInt = (0 : Int32).toInt := fun z => c_52 (Int32.toInt_inj.mp z)
            have y_0 : (0 : Int32).toInt = 0 := by decide
            omega
          have hq_81 : sv_29 = sv_4 := SkR.eq pf_8 pf_31
          have rg_82 := rB_rg (n := (Mv 0)) h_bs (sv_29 : Int32).toInt.toNat
          have hl_83 : 97 ≤ rB (Mf 1) (Mv 0) (sv_29 : Int32).toInt.toNat ∧ rB (Mf 1) (Mv 0) (sv_29 : Int32).toInt.toNat ≤ 122 := by
            have z_1 := congrArg Int32.toInt c_22
            have z_2 := Int32.le_iff_toInt_le.mp c_37
            have z_3 : ¬ (r_47 : Int32).toInt = (0 : Int32).toInt := fun z => c_52 (Int32.toInt_inj.mp z)
            have y_0 : (0 : Int32).toInt = 0 := by decide
            omega
          have hr_84 : 0 ≤ (Mv 6).toInt ∧ (Mv 6).toInt < 60 ∧ (sv_45 : Int32).toInt = (Mv 6).toInt + 1 := by
            have z_1 := congrArg Int32.toInt c_22
            have z_2 := Int32.le_iff_toInt_le.mp c_37
            have z_3 : ¬ (r_47 : Int32).toInt = (0 : Int32).toInt := fun z => c_52 (Int32.toInt_inj.mp z)
            have y_0 : (0 : Int32).toInt = 0 := by decide
            omega
          have hi_85 : (sv_44 : Int32).toInt = 0 := by
            have z_1 := congrArg Int32.toInt c_22
            have z_2 := Int32.le_iff_toInt_le.mp c_37
            have z_3 : ¬ (r_47 : Int32).toInt = (0 : Int32).toInt := fun z => c_52 (Int32.toInt_inj.mp z)
            have y_0 : (0 : Int32).toInt = 0 := by decide
            omega
          exact ⟨pf_70, (RfO.word pf_8 hn_78 (fun z => hr_80 (hw_79.trans z)) (hq_81 ▸ hl_83) (hq_81 ▸ pf_60) hr_84 hi_85)⟩
        exact retI (v := 1) hx hb hr hlk (rfl) hP hD hS (sv_57, sv_44, (Mv 4), sv_45, sv_68, sv_69) ⟨_, rfl, hp_74, ha_73, pf_46, pf_71, hm_75, (fun h => absurd h (by decide))⟩ [1, 0, 2, 3] rfl rfl dX12_value_89 (Nat.le_of_ble_eq_true rfl) (Nat.le_of_ble_eq_true rfl) rfl
      · skip
        refine lv_iconst (v := 0) hx hb dX12_value_76 (by decide) ?_
        have ha_86 : ((Mv 2) : Int32).toInt ≤ (sv_29 : Int32).toInt ∧ (sv_29 : Int32).toInt ≤ ((Mv 0) : Int32).toInt := by
          have z_1 := congrArg Int32.toInt c_22
          have z_2 := Int32.le_iff_toInt_le.mp c_37
          have z_3 := congrArg Int32.toInt c_52
          have y_0 : (0 : Int32).toInt = 0 := by decide
          omega
        have hp_87 : (((0 : Int32).toInt = 0 ∧ ¬ (sv_44 : Int32).toInt = 0) ∨ ((0 : Int32).toInt = 1 ∧ ((Mf 3) (Mv 5).toNatClampNeg).toInt + 1 ≤ ((Mf 3) (Mv 5).toNatClampNeg).toInt ∧ ((Mf 3) (Mv 5).toNatClampNeg).toInt + ((Mv 2) : Int32).toInt ≤ ((Mf 3) (Mv 5).toNatClampNeg).toInt + (sv_29 : Int32).toInt ∧ ((Mv 2) : Int32).toInt + 1 ≤ (sv_29 : Int32).toInt)) := by
          have z_1 := congrArg Int32.toInt c_22
          have z_2 := Int32.le_iff_toInt_le.mp c_37
          have z_3 := congrArg Int32.toInt c_52
          have y_0 : (0 : Int32).toInt = 0 := by decide
          omega
        have hm_88 : (0 : Int32).toInt = 0 → (RfE (pz_val (rB (Mf 1) (Mv 0)) (St0 (rB (Mf 1) (Mv 0)) (Mv 2) (Mv 6))) sv_44) := by
          intro h1r
          have hr_89 : 0 ≤ (sv_4 : Int32).toInt := by
            have z_1 := congrArg Int32.toInt c_22
            have z_2 := Int32.le_iff_toInt_le.mp c_37
            have z_3 := congrArg Int32.toInt c_52
            have y_0 : (0 : Int32).toInt = 0 := by decide
            omega
          have rg_90 := rB_rg (n := (Mv 0)) h_bs (sv_4 : Int32).toInt.toNat
          have hn_91 : ¬ (48 ≤ rB (Mf 1) (Mv 0) (sv_4 : Int32).toInt.toNat ∧ rB (Mf 1) (Mv 0) (sv_4 : Int32).toInt.toNat ≤ 57) := by
            have z_1 := congrArg Int32.toInt c_22
            have z_2 := Int32.le_iff_toInt_le.mp c_37
            have z_3 := congrArg Int32.toInt c_52
            have y_0 : (0 : Int32).toInt = 0 := by decide
            omega
          have hw_92 : (r_32 : Int32).toInt = pz_wa (rB (Mf 1) (Mv 0)) (sv_4 : Int32).toInt.toNat pz_words 0 := by
            have hq := he_33.1
            rw [(pf_8).2.1] at hq
            exact hq
          have hr_93 : ¬ (r_32 : Int32).toInt = -1 := by
            have z_1 := congrArg Int32.toInt c_22
            have z_2 := Int32.le_iff_toInt_le.mp c_37
            have z_3 := congrArg Int32.toInt c_52
            have y_0 : (0 : Int32).toInt = 0 := by decide
            omega
          have hr_94 : 60 ≤ (Mv 6).toInt := by
            have z_1 := congrArg Int32.toInt c_22
            have z_2 := Int32.le_iff_toInt_le.mp c_37
            have z_3 := congrArg Int32.toInt c_52
            have y_0 : (0 : Int32).toInt = 0 := by decide
            omega
          have hi_95 : (sv_44 : Int32).toInt = 1 + 8 * (sv_4 : Int32).toInt + 3 := by
            have z_1 := congrArg Int32.toInt c_22
            have z_2 := Int32.le_iff_toInt_le.mp c_37
            have z_3 := congrArg Int32.toInt c_52
            have y_0 : (0 : Int32).toInt = 0 := by decide
            omega
          exact (RfE.wordMax pf_8 hn_91 (fun z => hr_93 (hw_92.trans z)) hr_94 hr_89 hi_95)
        exact retI (v := 0) hx hb hr hlk (rfl) hP hD hS (sv_29, sv_44, (Mv 4), sv_45, (Mf 2), (Mf 3)) ⟨_, rfl, hp_87, ha_86, pf_46, (Agr.rf), (fun h => absurd h (by decide)), hm_88⟩ [3, 2, 0, 1] rfl rfl dX12_value_77 (Nat.le_of_ble_eq_true rfl) (Nat.le_of_ble_eq_true rfl) rfl
    · skip
      refine lv_aload_n hx hb dX12_value_61 rfl (lv_at hl 2 rfl) ?_
      refine lv_iconst (v := 0) hx hb dX12_value_62 (by decide) ?_
      refine lv_iload_n hx hb dX12_value_63 rfl (lv_at hl 1 rfl) ?_
      have ha_96 : 0 ≤ (0 : Int32).toInt ∧ (0 : Int32).toInt ≤ 4 := by
        have z_1 := congrArg Int32.toInt c_22
        have z_2 := Int32.lt_iff_toInt_lt.mp (Int32.not_le.mp c_37)
        have y_0 : (0 : Int32).toInt = 0 := by decide
        omega
      have ha_97 : 0 ≤ sv_4.toInt ∧ sv_4.toInt ≤ 400 := by
        have z_1 := congrArg Int32.toInt c_22
        have z_2 := Int32.lt_iff_toInt_lt.mp (Int32.not_le.mp c_37)
        have y_0 : (0 : Int32).toInt = 0 := by decide
        omega
      refine cV (a := (Ma 0)) (As := [.int 0, .int sv_4]) (rest := []) (wr := [((Ma 2), .inl (tc 0, 2400, .inl (Mf 2))), ((Ma 3), .inl (tc 0, 7, .inl (Mf 3))), ((Ma 1), .inl (tc 2, 400, .inl (Mf 1)))]) ⟨hx, hb, hml, hown, hts⟩ hK hX hA (cu_fX12_fails l D tc sk (Ma 0) (Ma 1) (Ma 2) (Ma 3) (Ma 4) (Ma 5) (Ma 6) (Ma 7) (Ma 8) (Ma 9) (Ma 10) (Ma 11) (Ma 12) (Ma 13) (Ma 14) (Ma 15) (Ma 16) (Ma 17) (Ma 18) (Ma 19) (Ma 20) (Mv 0) (Mv 1) sv_29 (Mv 3) (Mv 4) (Mv 5) (Mv 6) (Mv 7) (Mv 8) (Mv 9) (Mv 10) (Mv 11) (Mv 12) (Mv 13) (Mv 14) (Mj 0) 0 sv_4 ha_96 ha_97 h_w) k_1232 k_1229 k_1231 k_31 k_106 pl_X12_fails ⟨Nat.le_of_ble_eq_true rfl, Nat.le_of_ble_eq_true rfl⟩ rfl rfl (va_recv hK hP (ci := 12) (q0 := 2) rfl rfl) hP hD hS [2] [0, 1, 3] rfl rfl rfl rfl rfl (by decide) rfl hl.1 rfl (Nat.le_of_ble_eq_true rfl) dX12_value_64 ⟨Nat.le_of_ble_eq_true rfl, Nat.le_of_ble_eq_true rfl⟩ (fun v_98 u_99 H locs hv_100 hP₀ hD₀ hS₀ => ?_)
      obtain ⟨sv_101, rfl⟩ : ∃ z, z = u_99 := ⟨_, rfl⟩
      obtain ⟨r_104, rfl, he_105, pf_102, pf_103⟩ := hv_100
      have he_105 : r_104.toInt = 0 := he_105
      have pf_102 : ¬ (sv_101 : Int32).toInt = 0 := pf_102
      have pf_103 : (sv_101 : Int32).toInt = 1 + 8 * sv_4.toInt + (0 : Int32).toInt := pf_103
      refine W.eq (g2 := F0 m 67 ls [.int r_104]) rfl ?_
      replace hP : va_P D classes [((Ma 2), .inl (tc 0, 2400, .inl (Mf 2))), ((Ma 3), .inl (tc 0, 7, .inl (Mf 3))), ((Ma 1), .inl (tc 2, 400, .inl (Mf 1))), ((Ma 0), .inr (12, [.ref (Ma 1), .int (Mv 0), .int (Mv 1), .ref (Ma 2), .ref (Ma 3), .ref (Ma 4), .ref (Ma 5), .ref (Ma 6), .int sv_29, .int sv_101, .int (Mv 4), .int (Mv 5), .int (Mv 6), .int (Mv 7), .int (Mv 8), .ref (Ma 7), .int (Mv 9), .ref (Ma 8), .int (Mv 10), .ref (Ma 9), .ref (Ma 10), .int (Mv 11), .int (Mv 12), .int (Mv 13), .ref (Ma 11), .int (Mv 14), .ref (Ma 12), .ref (Ma 13), .ref (Ma 14), .ref (Ma 15), .ref (Ma 16), .long (Mj 0), .ref (Ma 17), .ref (Ma 18), .ref (Ma 19), .ref (Ma 20)]))] H := hP₀
      replace hD : va_D A [((Ma 2), .inl (tc 0, 2400, .inl (Mf 2))), ((Ma 3), .inl (tc 0, 7, .inl (Mf 3))), ((Ma 1), .inl (tc 2, 400, .inl (Mf 1))), ((Ma 0), .inr (12, [.ref (Ma 1), .int (Mv 0), .int (Mv 1), .ref (Ma 2), .ref (Ma 3), .ref (Ma 4), .ref (Ma 5), .ref (Ma 6), .int sv_29, .int sv_101, .int (Mv 4), .int (Mv 5), .int (Mv 6), .int (Mv 7), .int (Mv 8), .ref (Ma 7), .int (Mv 9), .ref (Ma 8), .int (Mv 10), .ref (Ma 9), .ref (Ma 10), .int (Mv 11), .int (Mv 12), .int (Mv 13), .ref (Ma 11), .int (Mv 14), .ref (Ma 12), .ref (Ma 13), .ref (Ma 14), .ref (Ma 15), .ref (Ma 16), .long (Mj 0), .ref (Ma 17), .ref (Ma 18), .ref (Ma 19), .ref (Ma 20)]))] := hD₀
      replace hS := hS₀
      clear hP₀ hD₀ hS₀
      have yf_107 : (0 : Int32).toInt = 0 := by decide
      have ha_108 : ((Mv 2) : Int32).toInt ≤ (sv_29 : Int32).toInt ∧ (sv_29 : Int32).toInt ≤ ((Mv 0) : Int32).toInt := by
        have z_1 := congrArg Int32.toInt c_22
        have z_2 := Int32.lt_iff_toInt_lt.mp (Int32.not_le.mp c_37)
        have y_0 : (0 : Int32).toInt = 0 := by decide
        omega
      have ha_109 : ((Mv 6) : Int32).toInt ≤ ((Mv 6) : Int32).toInt ∧ ((Mv 6) : Int32).toInt ≤ 60 := by
        have z_1 := congrArg Int32.toInt c_22
        have z_2 := Int32.lt_iff_toInt_lt.mp (Int32.not_le.mp c_37)
        have y_0 : (0 : Int32).toInt = 0 := by decide
        omega
      have hb_110 : (r_104 : Int32).toInt = 0 ∨ (r_104 : Int32).toInt = 1 := by
        have z_1 := congrArg Int32.toInt c_22
        have z_2 := Int32.lt_iff_toInt_lt.mp (Int32.not_le.mp c_37)
        have y_0 : (0 : Int32).toInt = 0 := by decide
        omega
      have hp_111 : (((r_104 : Int32).toInt = 0 ∧ ¬ (sv_101 : Int32).toInt = 0) ∨ ((r_104 : Int32).toInt = 1 ∧ ((Mf 3) (Mv 5).toNatClampNeg).toInt + 1 ≤ ((Mf 3) (Mv 5).toNatClampNeg).toInt ∧ ((Mf 3) (Mv 5).toNatClampNeg).toInt + ((Mv 2) : Int32).toInt ≤ ((Mf 3) (Mv 5).toNatClampNeg).toInt + (sv_29 : Int32).toInt ∧ ((Mv 2) : Int32).toInt + 1 ≤ (sv_29 : Int32).toInt)) := by
        have z_1 := congrArg Int32.toInt c_22
        have z_2 := Int32.lt_iff_toInt_lt.mp (Int32.not_le.mp c_37)
        have y_0 : (0 : Int32).toInt = 0 := by decide
        omega
      have hm_112 : (r_104 : Int32).toInt = 1 → (Cd (Mf 2) (Mf 3) (Mv 5) b (Mv 6) (d + 1)) ∧ (RfO (pz_val (rB (Mf 1) (Mv 0)) (St0 (rB (Mf 1) (Mv 0)) (Mv 2) (Mv 6))) (rB (Mf 1) (Mv 0)) sv_101 sv_29 (Mv 6)) := by
        intro h1r
        exfalso
        have z_1 := congrArg Int32.toInt c_22
        have z_2 := Int32.lt_iff_toInt_lt.mp (Int32.not_le.mp c_37)
        have y_0 : (0 : Int32).toInt = 0 := by decide
        omega
      have hm_113 : (r_104 : Int32).toInt = 0 → (RfE (pz_val (rB (Mf 1) (Mv 0)) (St0 (rB (Mf 1) (Mv 0)) (Mv 2) (Mv 6))) sv_101) := by
        intro h1r
        have hr_114 : 0 ≤ (sv_4 : Int32).toInt := by
          have z_1 := congrArg Int32.toInt c_22
          have z_2 := Int32.lt_iff_toInt_lt.mp (Int32.not_le.mp c_37)
          have y_0 : (0 : Int32).toInt = 0 := by decide
          omega
        have rg_115 := rB_rg (n := (Mv 0)) h_bs (sv_4 : Int32).toInt.toNat
        have hn_116 : ¬ (48 ≤ rB (Mf 1) (Mv 0) (sv_4 : Int32).toInt.toNat ∧ rB (Mf 1) (Mv 0) (sv_4 : Int32).toInt.toNat ≤ 57) := by
          have z_1 := congrArg Int32.toInt c_22
          have z_2 := Int32.lt_iff_toInt_lt.mp (Int32.not_le.mp c_37)
          have y_0 : (0 : Int32).toInt = 0 := by decide
          omega
        have hw_117 : (r_32 : Int32).toInt = pz_wa (rB (Mf 1) (Mv 0)) (sv_4 : Int32).toInt.toNat pz_words 0 := by
          have hq := he_33.1
          rw [(pf_8).2.1] at hq
          exact hq
        have hr_118 : (r_32 : Int32).toInt = -1 := by
          have z_1 := congrArg Int32.toInt c_22
          have z_2 := Int32.lt_iff_toInt_lt.mp (Int32.not_le.mp c_37)
          have y_0 : (0 : Int32).toInt = 0 := by decide
          omega
        have hi_119 : (sv_101 : Int32).toInt = 1 + 8 * (sv_4 : Int32).toInt := by
          have z_1 := congrArg Int32.toInt c_22
          have z_2 := Int32.lt_iff_toInt_lt.mp (Int32.not_le.mp c_37)
          have y_0 : (0 : Int32).toInt = 0 := by decide
          omega
        exact (RfE.none pf_8 hn_116 (hw_117.symm.trans hr_118) hr_114 hi_119)
      exact retI (v := r_104) hx hb hr hlk (nar01 hb_110) hP hD hS (sv_29, sv_101, (Mv 4), (Mv 6), (Mf 2), (Mf 3)) ⟨_, rfl, hp_111, ha_108, ha_109, (Agr.rf), hm_112, hm_113⟩ [3, 2, 0, 1] rfl rfl dX12_value_67 (Nat.le_of_ble_eq_true rfl) (Nat.le_of_ble_eq_true rfl) rfl
  · skip
    have hz_121 : (r_17 : Int32).toInt = 1 := by
      have z_1 : ¬ (r_17 : Int32).toInt = (0 : Int32).toInt := fun z => c_22 (Int32.toInt_inj.mp z)
      have y_0 : (0 : Int32).toInt = 0 := by decide
      omega
    obtain pf_120 := hm_20 hz_121
    have pf_120 : Dgt (Mf 1) (Mv 0) sv_4 := pf_120
    have ar_pf_120 := pf_120.1
    have at_pf_120 : 48 ≤ ((Mf 1) (sv_4 : Int32).toInt.toNat).toInt ∧ ((Mf 1) (sv_4 : Int32).toInt.toNat).toInt ≤ 57 := pf_120.2
    refine lv_aload_n hx hb dX12_value_21 rfl (lv_at hl 1 rfl) ?_
    refine lv_iconst (v := 0) hx hb dX12_value_22 (by decide) ?_
    refine lv_ldc hx hb hown (hts _ k_1288) dX12_value_23 ?_
    have ha_122 : 0 ≤ (sv_4 : Int32).toInt ∧ (sv_4 : Int32).toInt ≤ ((Mv 0) : Int32).toInt ∧ ((Mv 0) : Int32).toInt ≤ 400 := by
      have z_1 : ¬ (r_17 : Int32).toInt = (0 : Int32).toInt := fun z => c_22 (Int32.toInt_inj.mp z)
      have y_0 : (0 : Int32).toInt = 0 := by decide
      omega
    refine cV (a := (Ma 0)) (As := [.int 0, .int 99999]) (rest := []) (wr := [((Ma 2), .inl (tc 0, 2400, .inl (Mf 2))), ((Ma 3), .inl (tc 0, 7, .inl (Mf 3)))]) ⟨hx, hb, hml, hown, hts⟩ hK hX hA (cu_fX12_numberHere l D tc sk (Ma 0) (Ma 1) (Ma 2) (Ma 3) (Ma 4) (Ma 5) (Ma 6) (Ma 7) (Ma 8) (Ma 9) (Ma 10) (Ma 11) (Ma 12) (Ma 13) (Ma 14) (Ma 15) (Ma 16) (Ma 17) (Ma 18) (Ma 19) (Ma 20) (Mv 0) (Mv 1) sv_4 (Mv 3) (Mv 4) (Mv 5) (Mv 6) (Mv 7) (Mv 8) (Mv 9) (Mv 10) (Mv 11) (Mv 12) (Mv 13) (Mv 14) (Mf 1) (Mj 0) 0 99999 ha_122 h_bs h_w) k_1252 k_1249 k_1251 k_36 k_106 pl_X12_numberHere ⟨Nat.le_of_ble_eq_true rfl, Nat.le_of_ble_eq_true rfl⟩ rfl rfl (va_recv hK hP (ci := 12) (q0 := 2) rfl rfl) hP hD hS [2, 3] [0, 1] rfl rfl rfl rfl rfl (by decide) rfl hl.1 rfl (Nat.le_of_ble_eq_true rfl) dX12_value_25 ⟨Nat.le_of_ble_eq_true rfl, Nat.le_of_ble_eq_true rfl⟩ (fun v_123 u_124 H locs hv_125 hP₀ hD₀ hS₀ => ?_)
    obtain ⟨sv_126, sv_127, sv_128⟩ := u_124
    obtain ⟨r_130, rfl, he_131, pf_129, hm_133, hm_134⟩ := hv_125
    have he_131 : ((r_130.toInt = 0 ∧ ¬ (sv_127 : Int32).toInt = 0) ∨ (r_130.toInt = 1 ∧ (0 : Int32).toInt ≤ (sv_128 : Int32).toInt ∧ (sv_128 : Int32).toInt ≤ (99999 : Int32).toInt ∧ sv_4.toInt + 1 ≤ (sv_126 : Int32).toInt)) := he_131
    have pf_129 : (sv_4 : Int32).toInt ≤ (sv_126 : Int32).toInt ∧ (sv_126 : Int32).toInt ≤ ((Mv 0) : Int32).toInt := pf_129
    refine W.eq (g2 := F0 m 28 ls [.int r_130]) rfl ?_
    replace hP : va_P D classes [((Ma 2), .inl (tc 0, 2400, .inl (Mf 2))), ((Ma 3), .inl (tc 0, 7, .inl (Mf 3))), ((Ma 0), .inr (12, [.ref (Ma 1), .int (Mv 0), .int (Mv 1), .ref (Ma 2), .ref (Ma 3), .ref (Ma 4), .ref (Ma 5), .ref (Ma 6), .int sv_126, .int sv_127, .int sv_128, .int (Mv 5), .int (Mv 6), .int (Mv 7), .int (Mv 8), .ref (Ma 7), .int (Mv 9), .ref (Ma 8), .int (Mv 10), .ref (Ma 9), .ref (Ma 10), .int (Mv 11), .int (Mv 12), .int (Mv 13), .ref (Ma 11), .int (Mv 14), .ref (Ma 12), .ref (Ma 13), .ref (Ma 14), .ref (Ma 15), .ref (Ma 16), .long (Mj 0), .ref (Ma 17), .ref (Ma 18), .ref (Ma 19), .ref (Ma 20)])), ((Ma 1), .inl (tc 2, 400, .inl (Mf 1)))] H := hP₀
    replace hD : va_D A [((Ma 2), .inl (tc 0, 2400, .inl (Mf 2))), ((Ma 3), .inl (tc 0, 7, .inl (Mf 3))), ((Ma 0), .inr (12, [.ref (Ma 1), .int (Mv 0), .int (Mv 1), .ref (Ma 2), .ref (Ma 3), .ref (Ma 4), .ref (Ma 5), .ref (Ma 6), .int sv_126, .int sv_127, .int sv_128, .int (Mv 5), .int (Mv 6), .int (Mv 7), .int (Mv 8), .ref (Ma 7), .int (Mv 9), .ref (Ma 8), .int (Mv 10), .ref (Ma 9), .ref (Ma 10), .int (Mv 11), .int (Mv 12), .int (Mv 13), .ref (Ma 11), .int (Mv 14), .ref (Ma 12), .ref (Ma 13), .ref (Ma 14), .ref (Ma 15), .ref (Ma 16), .long (Mj 0), .ref (Ma 17), .ref (Ma 18), .ref (Ma 19), .ref (Ma 20)])), ((Ma 1), .inl (tc 2, 400, .inl (Mf 1)))] := hD₀
    replace hS := hS₀
    clear hP₀ hD₀ hS₀
    refine lv_if_eq (tgt := 39) hx hb dX12_value_28 (by decide) (fun c_135 => ?_) (fun c_135 => ?_)
    · skip
      have hz_137 : (r_130 : Int32).toInt = 0 := by
        have z_1 : ¬ (r_17 : Int32).toInt = (0 : Int32).toInt := fun z => c_22 (Int32.toInt_inj.mp z)
        have z_2 := congrArg Int32.toInt c_135
        have y_0 : (0 : Int32).toInt = 0 := by decide
        omega
      obtain pf_136 := hm_134 hz_137
      have pf_136 : NmE (rB (Mf 1) (Mv 0)) (0 : Int32).toInt (99999 : Int32).toInt sv_4 sv_127 := pf_136
      refine lv_iconst (v := 0) hx hb dX12_value_39 (by decide) ?_
      have ha_138 : ((Mv 2) : Int32).toInt ≤ (sv_126 : Int32).toInt ∧ (sv_126 : Int32).toInt ≤ ((Mv 0) : Int32).toInt := by
        have z_1 : ¬ (r_17 : Int32).toInt = (0 : Int32).toInt := fun z => c_22 (Int32.toInt_inj.mp z)
        have z_2 := congrArg Int32.toInt c_135
        have y_0 : (0 : Int32).toInt = 0 := by decide
        omega
      have ha_139 : ((Mv 6) : Int32).toInt ≤ ((Mv 6) : Int32).toInt ∧ ((Mv 6) : Int32).toInt ≤ 60 := by
        have z_1 : ¬ (r_17 : Int32).toInt = (0 : Int32).toInt := fun z => c_22 (Int32.toInt_inj.mp z)
        have z_2 := congrArg Int32.toInt c_135
        have y_0 : (0 : Int32).toInt = 0 := by decide
        omega
      have hp_140 : (((0 : Int32).toInt = 0 ∧ ¬ (sv_127 : Int32).toInt = 0) ∨ ((0 : Int32).toInt = 1 ∧ ((Mf 3) (Mv 5).toNatClampNeg).toInt + 1 ≤ ((Mf 3) (Mv 5).toNatClampNeg).toInt ∧ ((Mf 3) (Mv 5).toNatClampNeg).toInt + ((Mv 2) : Int32).toInt ≤ ((Mf 3) (Mv 5).toNatClampNeg).toInt + (sv_126 : Int32).toInt ∧ ((Mv 2) : Int32).toInt + 1 ≤ (sv_126 : Int32).toInt)) := by
        have z_1 : ¬ (r_17 : Int32).toInt = (0 : Int32).toInt := fun z => c_22 (Int32.toInt_inj.mp z)
        have z_2 := congrArg Int32.toInt c_135
        have y_0 : (0 : Int32).toInt = 0 := by decide
        omega
      have hm_141 : (0 : Int32).toInt = 0 → (RfE (pz_val (rB (Mf 1) (Mv 0)) (St0 (rB (Mf 1) (Mv 0)) (Mv 2) (Mv 6))) sv_127) := by
        intro h1r
        have hr_142 : 0 ≤ (sv_4 : Int32).toInt := by
          have z_1 : ¬ (r_17 : Int32).toInt = (0 : Int32).toInt := fun z => c_22 (Int32.toInt_inj.mp z)
          have z_2 := congrArg Int32.toInt c_135
          have y_0 : (0 : Int32).toInt = 0 := by decide
          omega
        have rg_143 := rB_rg (n := (Mv 0)) h_bs (sv_4 : Int32).toInt.toNat
        have hl_144 : 48 ≤ rB (Mf 1) (Mv 0) (sv_4 : Int32).toInt.toNat ∧ rB (Mf 1) (Mv 0) (sv_4 : Int32).toInt.toNat ≤ 57 := by
          have z_1 : ¬ (r_17 : Int32).toInt = (0 : Int32).toInt := fun z => c_22 (Int32.toInt_inj.mp z)
          have z_2 := congrArg Int32.toInt c_135
          have y_0 : (0 : Int32).toInt = 0 := by decide
          omega
        exact (RfE.num pf_8 hl_144 (by have hq := pf_136; rw [show (0 : Int32).toInt = 0 by decide, show (99999 : Int32).toInt = 99999 by decide] at hq; exact hq))
      exact retI (v := 0) hx hb hr hlk (rfl) hP hD hS (sv_126, sv_127, sv_128, (Mv 6), (Mf 2), (Mf 3)) ⟨_, rfl, hp_140, ha_138, ha_139, (Agr.rf), (fun h => absurd h (by decide)), hm_141⟩ [2, 3, 0, 1] rfl rfl dX12_value_40 (Nat.le_of_ble_eq_true rfl) (Nat.le_of_ble_eq_true rfl) rfl
    · skip
      have hz_146 : (r_130 : Int32).toInt = 1 := by
        have z_1 : ¬ (r_17 : Int32).toInt = (0 : Int32).toInt := fun z => c_22 (Int32.toInt_inj.mp z)
        have z_2 : ¬ (r_130 : Int32).toInt = (0 : Int32).toInt := fun z => c_135 (Int32.toInt_inj.mp z)
        have y_0 : (0 : Int32).toInt = 0 := by decide
        omega
      obtain pf_145 := hm_133 hz_146
      have pf_145 : NmO (rB (Mf 1) (Mv 0)) (0 : Int32).toInt (99999 : Int32).toInt sv_4 sv_128 sv_126 sv_127 := pf_145
      have ar_pf_145 := pf_145.2.2
      refine lv_aload_n hx hb dX12_value_31 rfl (lv_at hl 1 rfl) ?_
      refine lv_iload_n hx hb dX12_value_32 rfl (lv_at hl 0 rfl) ?_
      have ha_147 : 0 ≤ sv_4.toInt ∧ sv_4.toInt ≤ 400 := by
        have z_1 : ¬ (r_17 : Int32).toInt = (0 : Int32).toInt := fun z => c_22 (Int32.toInt_inj.mp z)
        have z_2 : ¬ (r_130 : Int32).toInt = (0 : Int32).toInt := fun z => c_135 (Int32.toInt_inj.mp z)
        have y_0 : (0 : Int32).toInt = 0 := by decide
        omega
      have ha_148 : (sv_127 : Int32).toInt = 0 := by
        have z_1 : ¬ (r_17 : Int32).toInt = (0 : Int32).toInt := fun z => c_22 (Int32.toInt_inj.mp z)
        have z_2 : ¬ (r_130 : Int32).toInt = (0 : Int32).toInt := fun z => c_135 (Int32.toInt_inj.mp z)
        have y_0 : (0 : Int32).toInt = 0 := by decide
        omega
      refine cV (a := (Ma 0)) (As := [.int sv_4]) (rest := []) (wr := [((Ma 2), .inl (tc 0, 2400, .inl (Mf 2))), ((Ma 3), .inl (tc 0, 7, .inl (Mf 3))), ((Ma 1), .inl (tc 2, 400, .inl (Mf 1)))]) ⟨hx, hb, hml, hown, hts⟩ hK hX hA (cu_fX12_makes l D tc sk (Ma 0) (Ma 1) (Ma 2) (Ma 3) (Ma 4) (Ma 5) (Ma 6) (Ma 7) (Ma 8) (Ma 9) (Ma 10) (Ma 11) (Ma 12) (Ma 13) (Ma 14) (Ma 15) (Ma 16) (Ma 17) (Ma 18) (Ma 19) (Ma 20) (Mv 0) (Mv 1) sv_126 sv_127 sv_128 (Mv 5) (Mv 6) (Mv 7) (Mv 8) (Mv 9) (Mv 10) (Mv 11) (Mv 12) (Mv 13) (Mv 14) (Mj 0) sv_4 ha_147 h_md ha_148) k_1292 k_1289 k_1291 k_45 k_106 pl_X12_makes ⟨Nat.le_of_ble_eq_true rfl, Nat.le_of_ble_eq_true rfl⟩ rfl rfl (va_recv hK hP (ci := 12) (q0 := 2) rfl rfl) hP hD hS [2] [0, 1, 3] rfl rfl rfl rfl rfl (by decide) rfl hl.1 rfl (Nat.le_of_ble_eq_true rfl) dX12_value_33 ⟨Nat.le_of_ble_eq_true rfl, Nat.le_of_ble_eq_true rfl⟩ (fun v_149 u_150 H locs hv_151 hP₀ hD₀ hS₀ => ?_)
      obtain ⟨sv_152, sv_153⟩ := u_150
      obtain ⟨r_155, rfl, he_156, pf_154⟩ := hv_151
      have he_156 : ((r_155.toInt = 0 ∧ ¬ (sv_152 : Int32).toInt = 0 ∧ (Mv 6).toInt = 60 ∧ (sv_152 : Int32).toInt = 1 + 8 * sv_4.toInt + 3) ∨ (r_155.toInt = 1 ∧ (sv_153 : Int32).toInt = (Mv 6).toInt + 1 ∧ (Mv 6).toInt < 60 ∧ (sv_152 : Int32).toInt = 0)) := he_156
      have pf_154 : ((Mv 6) : Int32).toInt ≤ (sv_153 : Int32).toInt ∧ (sv_153 : Int32).toInt ≤ 60 := pf_154
      refine W.eq (g2 := F0 m 36 ls [.int r_155]) rfl ?_
      replace hP : va_P D classes [((Ma 2), .inl (tc 0, 2400, .inl (Mf 2))), ((Ma 3), .inl (tc 0, 7, .inl (Mf 3))), ((Ma 1), .inl (tc 2, 400, .inl (Mf 1))), ((Ma 0), .inr (12, [.ref (Ma 1), .int (Mv 0), .int (Mv 1), .ref (Ma 2), .ref (Ma 3), .ref (Ma 4), .ref (Ma 5), .ref (Ma 6), .int sv_126, .int sv_152, .int sv_128, .int (Mv 5), .int sv_153, .int (Mv 7), .int (Mv 8), .ref (Ma 7), .int (Mv 9), .ref (Ma 8), .int (Mv 10), .ref (Ma 9), .ref (Ma 10), .int (Mv 11), .int (Mv 12), .int (Mv 13), .ref (Ma 11), .int (Mv 14), .ref (Ma 12), .ref (Ma 13), .ref (Ma 14), .ref (Ma 15), .ref (Ma 16), .long (Mj 0), .ref (Ma 17), .ref (Ma 18), .ref (Ma 19), .ref (Ma 20)]))] H := hP₀
      replace hD : va_D A [((Ma 2), .inl (tc 0, 2400, .inl (Mf 2))), ((Ma 3), .inl (tc 0, 7, .inl (Mf 3))), ((Ma 1), .inl (tc 2, 400, .inl (Mf 1))), ((Ma 0), .inr (12, [.ref (Ma 1), .int (Mv 0), .int (Mv 1), .ref (Ma 2), .ref (Ma 3), .ref (Ma 4), .ref (Ma 5), .ref (Ma 6), .int sv_126, .int sv_152, .int sv_128, .int (Mv 5), .int sv_153, .int (Mv 7), .int (Mv 8), .ref (Ma 7), .int (Mv 9), .ref (Ma 8), .int (Mv 10), .ref (Ma 9), .ref (Ma 10), .int (Mv 11), .int (Mv 12), .int (Mv 13), .ref (Ma 11), .int (Mv 14), .ref (Ma 12), .ref (Ma 13), .ref (Ma 14), .ref (Ma 15), .ref (Ma 16), .long (Mj 0), .ref (Ma 17), .ref (Ma 18), .ref (Ma 19), .ref (Ma 20)]))] := hD₀
      replace hS := hS₀
      clear hP₀ hD₀ hS₀
      have hr_159 : ((Mv 6) : Int32).toInt ≤ (sv_153 : Int32).toInt ∧ (sv_153 : Int32).toInt ≤ 60 := by
        have z_1 : ¬ (r_17 : Int32).toInt = (0 : Int32).toInt := fun z => c_22 (Int32.toInt_inj.mp z)
        have z_2 : ¬ (r_130 : Int32).toInt = (0 : Int32).toInt := fun z => c_135 (Int32.toInt_inj.mp z)
        have y_0 : (0 : Int32).toInt = 0 := by decide
        omega
      have pf_158 : Cd (Mf 2) (Mf 3) (Mv 5) b sv_153 d := Cd.mono h_cd hr_159
      have ar_pf_158 := Cd.ar pf_158
      refine lv_if_ne (tgt := 41) hx hb dX12_value_36 (by decide) (fun c_160 => ?_) (fun c_160 => ?_)
      · skip
        refine lv_aload_n hx hb dX12_value_41 rfl (lv_at hl 1 rfl) ?_
        refine lv_iconst (v := 0) hx hb dX12_value_42 (by decide) ?_
        refine lv_aload_n hx hb dX12_value_43 rfl (lv_at hl 1 rfl) ?_
        refine gf_X12_112 hx hb hts hown hK hP 3 rfl rfl dX12_value_44 ?_
        have hr_161 : (d : Int) < 60 := by
          have z_1 : ¬ (r_17 : Int32).toInt = (0 : Int32).toInt := fun z => c_22 (Int32.toInt_inj.mp z)
          have z_2 : ¬ (r_130 : Int32).toInt = (0 : Int32).toInt := fun z => c_135 (Int32.toInt_inj.mp z)
          have z_3 : ¬ (r_155 : Int32).toInt = (0 : Int32).toInt := fun z => c_160 (Int32.toInt_inj.mp z)
          have y_0 : (0 : Int32).toInt = 0 := by decide
          omega
        have ha_162 : ((d + 1) : Int) ≤ sv_153.toInt := by
          have z_1 : ¬ (r_17 : Int32).toInt = (0 : Int32).toInt := fun z => c_22 (Int32.toInt_inj.mp z)
          have z_2 : ¬ (r_130 : Int32).toInt = (0 : Int32).toInt := fun z => c_135 (Int32.toInt_inj.mp z)
          have z_3 : ¬ (r_155 : Int32).toInt = (0 : Int32).toInt := fun z => c_160 (Int32.toInt_inj.mp z)
          have y_0 : (0 : Int32).toInt = 0 := by decide
          omega
        have ha_163 : ((Mf 3) (Mv 5).toNatClampNeg).toInt < 400 := by
          have z_1 : ¬ (r_17 : Int32).toInt = (0 : Int32).toInt := fun z => c_22 (Int32.toInt_inj.mp z)
          have z_2 : ¬ (r_130 : Int32).toInt = (0 : Int32).toInt := fun z => c_135 (Int32.toInt_inj.mp z)
          have z_3 : ¬ (r_155 : Int32).toInt = (0 : Int32).toInt := fun z => c_160 (Int32.toInt_inj.mp z)
          have y_0 : (0 : Int32).toInt = 0 := by decide
          omega
        refine cV (a := (Ma 0)) (As := [.int 0, .int sv_128]) (rest := []) (wr := [((Ma 1), .inl (tc 2, 400, .inl (Mf 1)))]) ⟨hx, hb, hml, hown, hts⟩ hK hX hA (cu_X12_puts l D tc sk (Ma 0) (Ma 1) (Ma 2) (Ma 3) (Ma 4) (Ma 5) (Ma 6) (Ma 7) (Ma 8) (Ma 9) (Ma 10) (Ma 11) (Ma 12) (Ma 13) (Ma 14) (Ma 15) (Ma 16) (Ma 17) (Ma 18) (Ma 19) (Ma 20) (Mv 0) (Mv 1) sv_126 sv_152 sv_128 (Mv 5) sv_153 (Mv 7) (Mv 8) (Mv 9) (Mv 10) (Mv 11) (Mv 12) (Mv 13) (Mv 14) (Mf 2) (Mf 3) (Mj 0) 0 sv_128 b sv_153 d (d + 1) pf_158 (StpR.num hr_161) ha_162 ha_163) k_1296 k_1293 k_1295 k_46 k_106 pl_X12_puts ⟨Nat.le_of_ble_eq_true rfl, Nat.le_of_ble_eq_true rfl⟩ rfl rfl (va_recv hK hP (ci := 12) (q0 := 3) rfl rfl) hP hD hS [3, 0, 1] [2] rfl rfl rfl rfl rfl (by decide) rfl hl.1 rfl (Nat.le_of_ble_eq_true rfl) dX12_value_47 ⟨Nat.le_of_ble_eq_true rfl, Nat.le_of_ble_eq_true rfl⟩ (fun v_164 u_165 H locs hv_166 hP₀ hD₀ hS₀ => ?_)
        obtain ⟨sv_167, sv_168⟩ := u_165
        obtain ⟨rfl, pf_169, pf_170, pf_171⟩ := hv_166
        have pf_169 : Cd sv_167 sv_168 (Mv 5) b sv_153 (d + 1) := pf_169
        have ar_pf_169 := Cd.ar pf_169
        have pf_170 : Agr (Mf 2) sv_167 (400 * ((Mv 5) : Int32).toInt + ((Mf 3) (Mv 5).toNatClampNeg).toInt) := pf_170
        have pf_171 : (sv_168 (Mv 5).toNatClampNeg).toInt = ((Mf 3) (Mv 5).toNatClampNeg).toInt + 1 := pf_171
        refine W.eq (g2 := F0 m 50 ls []) rfl ?_
        replace hP : va_P D classes [((Ma 1), .inl (tc 2, 400, .inl (Mf 1))), ((Ma 0), .inr (12, [.ref (Ma 1), .int (Mv 0), .int (Mv 1), .ref (Ma 2), .ref (Ma 3), .ref (Ma 4), .ref (Ma 5), .ref (Ma 6), .int sv_126, .int sv_152, .int sv_128, .int (Mv 5), .int sv_153, .int (Mv 7), .int (Mv 8), .ref (Ma 7), .int (Mv 9), .ref (Ma 8), .int (Mv 10), .ref (Ma 9), .ref (Ma 10), .int (Mv 11), .int (Mv 12), .int (Mv 13), .ref (Ma 11), .int (Mv 14), .ref (Ma 12), .ref (Ma 13), .ref (Ma 14), .ref (Ma 15), .ref (Ma 16), .long (Mj 0), .ref (Ma 17), .ref (Ma 18), .ref (Ma 19), .ref (Ma 20)])), ((Ma 2), .inl (tc 0, 2400, .inl sv_167)), ((Ma 3), .inl (tc 0, 7, .inl sv_168))] H := hP₀
        replace hD : va_D A [((Ma 1), .inl (tc 2, 400, .inl (Mf 1))), ((Ma 0), .inr (12, [.ref (Ma 1), .int (Mv 0), .int (Mv 1), .ref (Ma 2), .ref (Ma 3), .ref (Ma 4), .ref (Ma 5), .ref (Ma 6), .int sv_126, .int sv_152, .int sv_128, .int (Mv 5), .int sv_153, .int (Mv 7), .int (Mv 8), .ref (Ma 7), .int (Mv 9), .ref (Ma 8), .int (Mv 10), .ref (Ma 9), .ref (Ma 10), .int (Mv 11), .int (Mv 12), .int (Mv 13), .ref (Ma 11), .int (Mv 14), .ref (Ma 12), .ref (Ma 13), .ref (Ma 14), .ref (Ma 15), .ref (Ma 16), .long (Mj 0), .ref (Ma 17), .ref (Ma 18), .ref (Ma 19), .ref (Ma 20)])), ((Ma 2), .inl (tc 0, 2400, .inl sv_167)), ((Ma 3), .inl (tc 0, 7, .inl sv_168))] := hD₀
        replace hS := hS₀
        clear hP₀ hD₀ hS₀
        refine lv_iconst (v := 1) hx hb dX12_value_50 (by decide) ?_
        have ha_172 : ((Mv 2) : Int32).toInt ≤ (sv_126 : Int32).toInt ∧ (sv_126 : Int32).toInt ≤ ((Mv 0) : Int32).toInt := by
          have z_1 : ¬ (r_17 : Int32).toInt = (0 : Int32).toInt := fun z => c_22 (Int32.toInt_inj.mp z)
          have z_2 : ¬ (r_130 : Int32).toInt = (0 : Int32).toInt := fun z => c_135 (Int32.toInt_inj.mp z)
          have z_3 : ¬ (r_155 : Int32).toInt = (0 : Int32).toInt := fun z => c_160 (Int32.toInt_inj.mp z)
          have y_0 : (0 : Int32).toInt = 0 := by decide
          omega
        have hp_173 : (((1 : Int32).toInt = 0 ∧ ¬ (sv_152 : Int32).toInt = 0) ∨ ((1 : Int32).toInt = 1 ∧ ((Mf 3) (Mv 5).toNatClampNeg).toInt + 1 ≤ (sv_168 (Mv 5).toNatClampNeg).toInt ∧ (sv_168 (Mv 5).toNatClampNeg).toInt + ((Mv 2) : Int32).toInt ≤ ((Mf 3) (Mv 5).toNatClampNeg).toInt + (sv_126 : Int32).toInt ∧ ((Mv 2) : Int32).toInt + 1 ≤ (sv_126 : Int32).toInt)) := by
          have z_1 : ¬ (r_17 : Int32).toInt = (0 : Int32).toInt := fun z => c_22 (Int32.toInt_inj.mp z)
          have z_2 : ¬ (r_130 : Int32).toInt = (0 : Int32).toInt := fun z => c_135 (Int32.toInt_inj.mp z)
          have z_3 : ¬ (r_155 : Int32).toInt = (0 : Int32).toInt := fun z => c_160 (Int32.toInt_inj.mp z)
          have y_0 : (0 : Int32).toInt = 0 := by decide
          have y_1 : (1 : Int32).toInt = 1 := by decide
          have yr : (1 : Int32).toInt = 1 := by decide
          omega
        have hm_174 : (1 : Int32).toInt = 1 → (Cd sv_167 sv_168 (Mv 5) b sv_153 (d + 1)) ∧ (RfO (pz_val (rB (Mf 1) (Mv 0)) (St0 (rB (Mf 1) (Mv 0)) (Mv 2) (Mv 6))) (rB (Mf 1) (Mv 0)) sv_152 sv_126 sv_153) := by
          intro h1r
          have hr_175 : 0 ≤ (sv_4 : Int32).toInt := by
            have z_1 : ¬ (r_17 : Int32).toInt = (0 : Int32).toInt := fun z => c_22 (Int32.toInt_inj.mp z)
            have z_2 : ¬ (r_130 : Int32).toInt = (0 : Int32).toInt := fun z => c_135 (Int32.toInt_inj.mp z)
            have z_3 : ¬ (r_155 : Int32).toInt = (0 : Int32).toInt := fun z => c_160 (Int32.toInt_inj.mp z)
            have y_0 : (0 : Int32).toInt = 0 := by decide
            omega
          have rg_176 := rB_rg (n := (Mv 0)) h_bs (sv_4 : Int32).toInt.toNat
          have hl_177 : 48 ≤ rB (Mf 1) (Mv 0) (sv_4 : Int32).toInt.toNat ∧ rB (Mf 1) (Mv 0) (sv_4 : Int32).toInt.toNat ≤ 57 := by
            have z_1 : ¬ (r_17 : Int32).toInt = (0 : Int32).toInt := fun z => c_22 (Int32.toInt_inj.mp z)
            have z_2 : ¬ (r_130 : Int32).toInt = (0 : Int32).toInt := fun z => c_135 (Int32.toInt_inj.mp z)
            have z_3 : ¬ (r_155 : Int32).toInt = (0 : Int32).toInt := fun z => c_160 (Int32.toInt_inj.mp z)
            have y_0 : (0 : Int32).toInt = 0 := by decide
            omega
          have hr_178 : 0 ≤ (Mv 6).toInt ∧ (Mv 6).toInt < 60 ∧ (sv_153 : Int32).toInt = (Mv 6).toInt + 1 := by
            have z_1 : ¬ (r_17 : Int32).toInt = (0 : Int32).toInt := fun z => c_22 (Int32.toInt_inj.mp z)
            have z_2 : ¬ (r_130 : Int32).toInt = (0 : Int32).toInt := fun z => c_135 (Int32.toInt_inj.mp z)
            have z_3 : ¬ (r_155 : Int32).toInt = (0 : Int32).toInt := fun z => c_160 (Int32.toInt_inj.mp z)
            have y_0 : (0 : Int32).toInt = 0 := by decide
            omega
          have hi_179 : (sv_152 : Int32).toInt = 0 := by
            have z_1 : ¬ (r_17 : Int32).toInt = (0 : Int32).toInt := fun z => c_22 (Int32.toInt_inj.mp z)
            have z_2 : ¬ (r_130 : Int32).toInt = (0 : Int32).toInt := fun z => c_135 (Int32.toInt_inj.mp z)
            have z_3 : ¬ (r_155 : Int32).toInt = (0 : Int32).toInt := fun z => c_160 (Int32.toInt_inj.mp z)
            have y_0 : (0 : Int32).toInt = 0 := by decide
            omega
          exact ⟨pf_169, (RfO.num pf_8 hl_177 (by have hq := pf_145; rw [show (0 : Int32).toInt = 0 by decide, show (99999 : Int32).toInt = 99999 by decide] at hq; exact hq) hr_178 hi_179)⟩
        exact retI (v := 1) hx hb hr hlk (rfl) hP hD hS (sv_126, sv_152, sv_128, sv_153, sv_167, sv_168) ⟨_, rfl, hp_173, ha_172, pf_154, pf_170, hm_174, (fun h => absurd h (by decide))⟩ [1, 0, 2, 3] rfl rfl dX12_value_51 (Nat.le_of_ble_eq_true rfl) (Nat.le_of_ble_eq_true rfl) rfl
      · skip
        refine lv_iconst (v := 0) hx hb dX12_value_39 (by decide) ?_
        have ha_180 : ((Mv 2) : Int32).toInt ≤ (sv_126 : Int32).toInt ∧ (sv_126 : Int32).toInt ≤ ((Mv 0) : Int32).toInt := by
          have z_1 : ¬ (r_17 : Int32).toInt = (0 : Int32).toInt := fun z => c_22 (Int32.toInt_inj.mp z)
          have z_2 : ¬ (r_130 : Int32).toInt = (0 : Int32).toInt := fun z => c_135 (Int32.toInt_inj.mp z)
          have z_3 := congrArg Int32.toInt c_160
          have y_0 : (0 : Int32).toInt = 0 := by decide
          omega
        have hp_181 : (((0 : Int32).toInt = 0 ∧ ¬ (sv_152 : Int32).toInt = 0) ∨ ((0 : Int32).toInt = 1 ∧ ((Mf 3) (Mv 5).toNatClampNeg).toInt + 1 ≤ ((Mf 3) (Mv 5).toNatClampNeg).toInt ∧ ((Mf 3) (Mv 5).toNatClampNeg).toInt + ((Mv 2) : Int32).toInt ≤ ((Mf 3) (Mv 5).toNatClampNeg).toInt + (sv_126 : Int32).toInt ∧ ((Mv 2) : Int32).toInt + 1 ≤ (sv_126 : Int32).toInt)) := by
          have z_1 : ¬ (r_17 : Int32).toInt = (0 : Int32).toInt := fun z => c_22 (Int32.toInt_inj.mp z)
          have z_2 : ¬ (r_130 : Int32).toInt = (0 : Int32).toInt := fun z => c_135 (Int32.toInt_inj.mp z)
          have z_3 := congrArg Int32.toInt c_160
          have y_0 : (0 : Int32).toInt = 0 := by decide
          omega
        have hm_182 : (0 : Int32).toInt = 0 → (RfE (pz_val (rB (Mf 1) (Mv 0)) (St0 (rB (Mf 1) (Mv 0)) (Mv 2) (Mv 6))) sv_152) := by
          intro h1r
          have hr_183 : 0 ≤ (sv_4 : Int32).toInt := by
            have z_1 : ¬ (r_17 : Int32).toInt = (0 : Int32).toInt := fun z => c_22 (Int32.toInt_inj.mp z)
            have z_2 : ¬ (r_130 : Int32).toInt = (0 : Int32).toInt := fun z => c_135 (Int32.toInt_inj.mp z)
            have z_3 := congrArg Int32.toInt c_160
            have y_0 : (0 : Int32).toInt = 0 := by decide
            omega
          have rg_184 := rB_rg (n := (Mv 0)) h_bs (sv_4 : Int32).toInt.toNat
          have hl_185 : 48 ≤ rB (Mf 1) (Mv 0) (sv_4 : Int32).toInt.toNat ∧ rB (Mf 1) (Mv 0) (sv_4 : Int32).toInt.toNat ≤ 57 := by
            have z_1 : ¬ (r_17 : Int32).toInt = (0 : Int32).toInt := fun z => c_22 (Int32.toInt_inj.mp z)
            have z_2 : ¬ (r_130 : Int32).toInt = (0 : Int32).toInt := fun z => c_135 (Int32.toInt_inj.mp z)
            have z_3 := congrArg Int32.toInt c_160
            have y_0 : (0 : Int32).toInt = 0 := by decide
            omega
          have hr_186 : 60 ≤ (Mv 6).toInt := by
            have z_1 : ¬ (r_17 : Int32).toInt = (0 : Int32).toInt := fun z => c_22 (Int32.toInt_inj.mp z)
            have z_2 : ¬ (r_130 : Int32).toInt = (0 : Int32).toInt := fun z => c_135 (Int32.toInt_inj.mp z)
            have z_3 := congrArg Int32.toInt c_160
            have y_0 : (0 : Int32).toInt = 0 := by decide
            omega
          have hi_187 : (sv_152 : Int32).toInt = 1 + 8 * (sv_4 : Int32).toInt + 3 := by
            have z_1 : ¬ (r_17 : Int32).toInt = (0 : Int32).toInt := fun z => c_22 (Int32.toInt_inj.mp z)
            have z_2 : ¬ (r_130 : Int32).toInt = (0 : Int32).toInt := fun z => c_135 (Int32.toInt_inj.mp z)
            have z_3 := congrArg Int32.toInt c_160
            have y_0 : (0 : Int32).toInt = 0 := by decide
            omega
          exact (RfE.numMax pf_8 hl_185 (by have hq := pf_145; rw [show (0 : Int32).toInt = 0 by decide, show (99999 : Int32).toInt = 99999 by decide] at hq; exact hq) hr_186 hr_183 hi_187)
        exact retI (v := 0) hx hb hr hlk (rfl) hP hD hS (sv_126, sv_152, sv_128, sv_153, (Mf 2), (Mf 3)) ⟨_, rfl, hp_181, ha_180, pf_154, (Agr.rf), (fun h => absurd h (by decide)), hm_182⟩ [3, 2, 0, 1] rfl rfl dX12_value_40 (Nat.le_of_ble_eq_true rfl) (Nat.le_of_ble_eq_true rfl) rfl
set_option maxRecDepth 100000 in
theorem cu_fX12_value (l : Launch) (D : va_G) (tc : Nat → ClassId) (sk : (Nat → Nat) × (Nat → Nat)) (Ma_0 : Nat) (Ma_1 : Nat) (Ma_2 : Nat) (Ma_3 : Nat) (Ma_4 : Nat) (Ma_5 : Nat) (Ma_6 : Nat) (Ma_7 : Nat) (Ma_8 : Nat) (Ma_9 : Nat) (Ma_10 : Nat) (Ma_11 : Nat) (Ma_12 : Nat) (Ma_13 : Nat) (Ma_14 : Nat) (Ma_15 : Nat) (Ma_16 : Nat) (Ma_17 : Nat) (Ma_18 : Nat) (Ma_19 : Nat) (Ma_20 : Nat) (Mv_0 : Int32) (Mv_1 : Int32) (Mv_2 : Int32) (Mv_3 : Int32) (Mv_4 : Int32) (Mv_5 : Int32) (Mv_6 : Int32) (Mv_7 : Int32) (Mv_8 : Int32) (Mv_9 : Int32) (Mv_10 : Int32) (Mv_11 : Int32) (Mv_12 : Int32) (Mv_13 : Int32) (Mv_14 : Int32) (Mf_1 : Nat → Int32) (Mf_2 : Nat → Int32) (Mf_3 : Nat → Int32) (Mj_0 : Int64) (b : Int32) (d : Nat) (h_nx : 0 ≤ (Mv_2 : Int32).toInt ∧ (Mv_2 : Int32).toInt ≤ (Mv_0 : Int32).toInt ∧ (Mv_0 : Int32).toInt ≤ 400) (h_cd : Cd Mf_2 Mf_3 Mv_5 b Mv_6 d) (h_L : (Mf_3 Mv_5.toNatClampNeg).toInt ≤ (Mv_2 : Int32).toInt) (h_md : 0 ≤ (Mv_6 : Int32).toInt ∧ (Mv_6 : Int32).toInt ≤ 60) (h_bs : ByS Mf_1) (h_w : (Mv_3 : Int32).toInt = 0) : Ct l yX12_value cX12_value 3 (some .boolean) { frames := 3, cells := 0, slots := 0, locals := 66 } D tc sk [.ref Ma_0] [(Ma_0, .inr (12, [.ref Ma_1, .int Mv_0, .int Mv_1, .ref Ma_2, .ref Ma_3, .ref Ma_4, .ref Ma_5, .ref Ma_6, .int Mv_2, .int Mv_3, .int Mv_4, .int Mv_5, .int Mv_6, .int Mv_7, .int Mv_8, .ref Ma_7, .int Mv_9, .ref Ma_8, .int Mv_10, .ref Ma_9, .ref Ma_10, .int Mv_11, .int Mv_12, .int Mv_13, .ref Ma_11, .int Mv_14, .ref Ma_12, .ref Ma_13, .ref Ma_14, .ref Ma_15, .ref Ma_16, .long Mj_0, .ref Ma_17, .ref Ma_18, .ref Ma_19, .ref Ma_20])), (Ma_1, .inl (tc 2, 400, .inl Mf_1)), (Ma_2, .inl (tc 0, 2400, .inl Mf_2)), (Ma_3, .inl (tc 0, 7, .inl Mf_3))] (fun (v : Option Value) (u : (Int32) × (Int32) × (Int32) × (Int32) × (Nat → Int32) × (Nat → Int32)) => match u with | (oo0x1, oo0x2, oo0x3, oo0x4, oo0x5, oo0x6) => ∃ r : Int32, v = some (.int r) ∧ (((r.toInt = 0 ∧ ¬ (oo0x2 : Int32).toInt = 0) ∨ (r.toInt = 1 ∧ (Mf_3 Mv_5.toNatClampNeg).toInt + 1 ≤ (oo0x6 Mv_5.toNatClampNeg).toInt ∧ (oo0x6 Mv_5.toNatClampNeg).toInt + (Mv_2 : Int32).toInt ≤ (Mf_3 Mv_5.toNatClampNeg).toInt + (oo0x1 : Int32).toInt ∧ (Mv_2 : Int32).toInt + 1 ≤ (oo0x1 : Int32).toInt))) ∧ ((Mv_2 : Int32).toInt ≤ (oo0x1 : Int32).toInt ∧ (oo0x1 : Int32).toInt ≤ (Mv_0 : Int32).toInt) ∧ ((Mv_6 : Int32).toInt ≤ (oo0x4 : Int32).toInt ∧ (oo0x4 : Int32).toInt ≤ 60) ∧ (Agr Mf_2 oo0x5 (400 * (Mv_5 : Int32).toInt + (Mf_3 Mv_5.toNatClampNeg).toInt)) ∧ (r.toInt = 1 → (Cd oo0x5 oo0x6 Mv_5 b oo0x4 (d + 1)) ∧ (RfO (pz_val (rB Mf_1 Mv_0) (St0 (rB Mf_1 Mv_0) Mv_2 Mv_6)) (rB Mf_1 Mv_0) oo0x2 oo0x1 oo0x4)) ∧ (r.toInt = 0 → (RfE (pz_val (rB Mf_1 Mv_0) (St0 (rB Mf_1 Mv_0) Mv_2 Mv_6)) oo0x2))) (fun (u : (Int32) × (Int32) × (Int32) × (Int32) × (Nat → Int32) × (Nat → Int32)) => match u with | (oo0x1, oo0x2, oo0x3, oo0x4, oo0x5, oo0x6) => [(Ma_0, .inr (12, [.ref Ma_1, .int Mv_0, .int Mv_1, .ref Ma_2, .ref Ma_3, .ref Ma_4, .ref Ma_5, .ref Ma_6, .int oo0x1, .int oo0x2, .int oo0x3, .int Mv_5, .int oo0x4, .int Mv_7, .int Mv_8, .ref Ma_7, .int Mv_9, .ref Ma_8, .int Mv_10, .ref Ma_9, .ref Ma_10, .int Mv_11, .int Mv_12, .int Mv_13, .ref Ma_11, .int Mv_14, .ref Ma_12, .ref Ma_13, .ref Ma_14, .ref Ma_15, .ref Ma_16, .long Mj_0, .ref Ma_17, .ref Ma_18, .ref Ma_19, .ref Ma_20])), (Ma_1, .inl (tc 2, 400, .inl Mf_1)), (Ma_2, .inl (tc 0, 2400, .inl oo0x5)), (Ma_3, .inl (tc 0, 7, .inl oo0x6))]) 0 0 :=
  ct_fX12_value l D tc sk (fun k => ([Ma_0, Ma_1, Ma_2, Ma_3, Ma_4, Ma_5, Ma_6, Ma_7, Ma_8, Ma_9, Ma_10, Ma_11, Ma_12, Ma_13, Ma_14, Ma_15, Ma_16, Ma_17, Ma_18, Ma_19, Ma_20] : List (Nat)).getD k 0) (fun k => ([Mv_0, Mv_1, Mv_2, Mv_3, Mv_4, Mv_5, Mv_6, Mv_7, Mv_8, Mv_9, Mv_10, Mv_11, Mv_12, Mv_13, Mv_14] : List (Int32)).getD k 0) (fun k => ([(fun _ => 0), Mf_1, Mf_2, Mf_3] : List (Nat → Int32)).getD k (fun _ => 0)) (fun k => ([Mj_0] : List (Int64)).getD k 0) b d h_nx h_cd h_L h_md h_bs h_w
