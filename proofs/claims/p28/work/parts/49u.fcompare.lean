set_option maxHeartbeats 4000000 in
set_option maxRecDepth 100000 in
theorem ct_fX12_compare (l : Launch) (D : va_G) (tc : Nat → ClassId) (sk : (Nat → Nat) × (Nat → Nat)) (Ma : Nat → Nat) (Mv : Nat → Int32) (Mf : Nat → Nat → Int32) (Mj : Nat → Int64) (b : Int32) (d : Nat) (h_nx : 0 ≤ ((Mv 2) : Int32).toInt ∧ ((Mv 2) : Int32).toInt ≤ ((Mv 0) : Int32).toInt ∧ ((Mv 0) : Int32).toInt ≤ 400) (h_cd : Cd (Mf 2) (Mf 3) (Mv 5) b (Mv 6) d) (h_L : ((Mf 3) (Mv 5).toNatClampNeg).toInt ≤ ((Mv 2) : Int32).toInt) (h_md : 0 ≤ ((Mv 6) : Int32).toInt ∧ ((Mv 6) : Int32).toInt ≤ 60) (h_bs : ByS (Mf 1)) (h_w : ((Mv 3) : Int32).toInt = 0) : Ct l yX12_compare cX12_compare 5 (some .boolean) { frames := 6, cells := 0, slots := 0, locals := 130 } D tc sk [.ref (Ma 0)] [((Ma 0), .inr (12, [.ref (Ma 1), .int (Mv 0), .int (Mv 1), .ref (Ma 2), .ref (Ma 3), .ref (Ma 4), .ref (Ma 5), .ref (Ma 6), .int (Mv 2), .int (Mv 3), .int (Mv 4), .int (Mv 5), .int (Mv 6), .int (Mv 7), .int (Mv 8), .ref (Ma 7), .int (Mv 9), .ref (Ma 8), .int (Mv 10), .ref (Ma 9), .ref (Ma 10), .int (Mv 11), .int (Mv 12), .int (Mv 13), .ref (Ma 11), .int (Mv 14), .ref (Ma 12), .ref (Ma 13), .ref (Ma 14), .ref (Ma 15), .ref (Ma 16), .long (Mj 0), .ref (Ma 17), .ref (Ma 18), .ref (Ma 19), .ref (Ma 20)])), ((Ma 1), .inl (tc 2, 400, .inl (Mf 1))), ((Ma 2), .inl (tc 0, 2400, .inl (Mf 2))), ((Ma 3), .inl (tc 0, 7, .inl (Mf 3)))] (fun (v : Option Value) (u : (Int32) × (Int32) × (Int32) × (Int32) × (Nat → Int32) × (Nat → Int32)) => match u with | (oo0x1, oo0x2, oo0x3, oo0x4, oo0x5, oo0x6) => ∃ r : Int32, v = some (.int r) ∧ (((r.toInt = 0 ∧ ¬ (oo0x2 : Int32).toInt = 0) ∨ (r.toInt = 1 ∧ ((Mf 3) (Mv 5).toNatClampNeg).toInt + 1 ≤ (oo0x6 (Mv 5).toNatClampNeg).toInt ∧ (oo0x6 (Mv 5).toNatClampNeg).toInt + ((Mv 2) : Int32).toInt ≤ ((Mf 3) (Mv 5).toNatClampNeg).toInt + (oo0x1 : Int32).toInt ∧ ((Mv 2) : Int32).toInt + 1 ≤ (oo0x1 : Int32).toInt))) ∧ (((Mv 2) : Int32).toInt ≤ (oo0x1 : Int32).toInt ∧ (oo0x1 : Int32).toInt ≤ ((Mv 0) : Int32).toInt) ∧ (((Mv 6) : Int32).toInt ≤ (oo0x4 : Int32).toInt ∧ (oo0x4 : Int32).toInt ≤ 60) ∧ (Agr (Mf 2) oo0x5 (400 * ((Mv 5) : Int32).toInt + ((Mf 3) (Mv 5).toNatClampNeg).toInt)) ∧ (r.toInt = 1 → (Cd oo0x5 oo0x6 (Mv 5) b oo0x4 (d + 1)) ∧ (RfO (pz_com (rB (Mf 1) (Mv 0)) (St0 (rB (Mf 1) (Mv 0)) (Mv 2) (Mv 6))) (rB (Mf 1) (Mv 0)) oo0x2 oo0x1 oo0x4)) ∧ (r.toInt = 0 → (RfE (pz_com (rB (Mf 1) (Mv 0)) (St0 (rB (Mf 1) (Mv 0)) (Mv 2) (Mv 6))) oo0x2))) (fun (u : (Int32) × (Int32) × (Int32) × (Int32) × (Nat → Int32) × (Nat → Int32)) => match u with | (oo0x1, oo0x2, oo0x3, oo0x4, oo0x5, oo0x6) => [((Ma 0), .inr (12, [.ref (Ma 1), .int (Mv 0), .int (Mv 1), .ref (Ma 2), .ref (Ma 3), .ref (Ma 4), .ref (Ma 5), .ref (Ma 6), .int oo0x1, .int oo0x2, .int oo0x3, .int (Mv 5), .int oo0x4, .int (Mv 7), .int (Mv 8), .ref (Ma 7), .int (Mv 9), .ref (Ma 8), .int (Mv 10), .ref (Ma 9), .ref (Ma 10), .int (Mv 11), .int (Mv 12), .int (Mv 13), .ref (Ma 11), .int (Mv 14), .ref (Ma 12), .ref (Ma 13), .ref (Ma 14), .ref (Ma 15), .ref (Ma 16), .long (Mj 0), .ref (Ma 17), .ref (Ma 18), .ref (Ma 19), .ref (Ma 20)])), ((Ma 1), .inl (tc 2, 400, .inl (Mf 1))), ((Ma 2), .inl (tc 0, 2400, .inl oo0x5)), ((Ma 3), .inl (tc 0, 7, .inl oo0x6))]) 0 0 := by
  refine Ct.start (by decide) (Nat.le_of_ble_eq_true rfl) (fun p e s m below meth c A ls hx hb hr hlk hin hml hown hts hK hX hP hD hA hl hS => ?_)
  have hl : lv_has ls 5 [(0, .ref (Ma 0))] := hl
  have ar_h_cd := Cd.ar h_cd
  refine lv_aload_n hx hb dX12_compare_0 rfl (lv_at hl 0 rfl) ?_
  refine cV (a := (Ma 0)) (As := []) (rest := []) (wr := []) ⟨hx, hb, hml, hown, hts⟩ hK hX hA (cu_fX12_sum l D tc sk (Ma 0) (Ma 1) (Ma 2) (Ma 3) (Ma 4) (Ma 5) (Ma 6) (Ma 7) (Ma 8) (Ma 9) (Ma 10) (Ma 11) (Ma 12) (Ma 13) (Ma 14) (Ma 15) (Ma 16) (Ma 17) (Ma 18) (Ma 19) (Ma 20) (Mv 0) (Mv 1) (Mv 2) (Mv 3) (Mv 4) (Mv 5) (Mv 6) (Mv 7) (Mv 8) (Mv 9) (Mv 10) (Mv 11) (Mv 12) (Mv 13) (Mv 14) (Mf 1) (Mf 2) (Mf 3) (Mj 0) b d h_nx h_cd h_L h_md h_bs h_w) k_1279 k_1276 k_1278 k_42 k_106 pl_X12_sum ⟨Nat.le_of_ble_eq_true rfl, Nat.le_of_ble_eq_true rfl⟩ rfl rfl (va_recv hK hP (ci := 12) (q0 := 0) rfl rfl) hP hD hS [0, 1, 2, 3] [] rfl rfl rfl rfl rfl (by decide) rfl hl.1 rfl (Nat.le_of_ble_eq_true rfl) dX12_compare_1 ⟨Nat.le_of_ble_eq_true rfl, Nat.le_of_ble_eq_true rfl⟩ (fun v_1 u_2 H locs hv_3 hP₀ hD₀ hS₀ => ?_)
  obtain ⟨sv_4, sv_5, sv_6, sv_7, sv_8, sv_9⟩ := u_2
  obtain ⟨r_13, rfl, he_14, pf_10, pf_11, pf_12, hm_16, hm_17⟩ := hv_3
  have he_14 : ((r_13.toInt = 0 ∧ ¬ (sv_5 : Int32).toInt = 0) ∨ (r_13.toInt = 1 ∧ ((Mf 3) (Mv 5).toNatClampNeg).toInt + 1 ≤ (sv_9 (Mv 5).toNatClampNeg).toInt ∧ (sv_9 (Mv 5).toNatClampNeg).toInt + ((Mv 2) : Int32).toInt ≤ ((Mf 3) (Mv 5).toNatClampNeg).toInt + (sv_4 : Int32).toInt ∧ ((Mv 2) : Int32).toInt + 1 ≤ (sv_4 : Int32).toInt)) := he_14
  have pf_10 : ((Mv 2) : Int32).toInt ≤ (sv_4 : Int32).toInt ∧ (sv_4 : Int32).toInt ≤ ((Mv 0) : Int32).toInt := pf_10
  have pf_11 : ((Mv 6) : Int32).toInt ≤ (sv_7 : Int32).toInt ∧ (sv_7 : Int32).toInt ≤ 60 := pf_11
  have pf_12 : Agr (Mf 2) sv_8 (400 * ((Mv 5) : Int32).toInt + ((Mf 3) (Mv 5).toNatClampNeg).toInt) := pf_12
  refine W.eq (g2 := F0 m 4 ls [.int r_13]) rfl ?_
  replace hP : va_P D classes [((Ma 0), .inr (12, [.ref (Ma 1), .int (Mv 0), .int (Mv 1), .ref (Ma 2), .ref (Ma 3), .ref (Ma 4), .ref (Ma 5), .ref (Ma 6), .int sv_4, .int sv_5, .int sv_6, .int (Mv 5), .int sv_7, .int (Mv 7), .int (Mv 8), .ref (Ma 7), .int (Mv 9), .ref (Ma 8), .int (Mv 10), .ref (Ma 9), .ref (Ma 10), .int (Mv 11), .int (Mv 12), .int (Mv 13), .ref (Ma 11), .int (Mv 14), .ref (Ma 12), .ref (Ma 13), .ref (Ma 14), .ref (Ma 15), .ref (Ma 16), .long (Mj 0), .ref (Ma 17), .ref (Ma 18), .ref (Ma 19), .ref (Ma 20)])), ((Ma 1), .inl (tc 2, 400, .inl (Mf 1))), ((Ma 2), .inl (tc 0, 2400, .inl sv_8)), ((Ma 3), .inl (tc 0, 7, .inl sv_9))] H := hP₀
  replace hD : va_D A [((Ma 0), .inr (12, [.ref (Ma 1), .int (Mv 0), .int (Mv 1), .ref (Ma 2), .ref (Ma 3), .ref (Ma 4), .ref (Ma 5), .ref (Ma 6), .int sv_4, .int sv_5, .int sv_6, .int (Mv 5), .int sv_7, .int (Mv 7), .int (Mv 8), .ref (Ma 7), .int (Mv 9), .ref (Ma 8), .int (Mv 10), .ref (Ma 9), .ref (Ma 10), .int (Mv 11), .int (Mv 12), .int (Mv 13), .ref (Ma 11), .int (Mv 14), .ref (Ma 12), .ref (Ma 13), .ref (Ma 14), .ref (Ma 15), .ref (Ma 16), .long (Mj 0), .ref (Ma 17), .ref (Ma 18), .ref (Ma 19), .ref (Ma 20)])), ((Ma 1), .inl (tc 2, 400, .inl (Mf 1))), ((Ma 2), .inl (tc 0, 2400, .inl sv_8)), ((Ma 3), .inl (tc 0, 7, .inl sv_9))] := hD₀
  replace hS := hS₀
  clear hP₀ hD₀ hS₀
  refine lv_if_ne (tgt := 9) hx hb dX12_compare_4 (by decide) (fun c_18 => ?_) (fun c_18 => ?_)
  · skip
    have hz_21 : (r_13 : Int32).toInt = 1 := by
      have z_1 : ¬ (r_13 : Int32).toInt = (0 : Int32).toInt := fun z => c_18 (Int32.toInt_inj.mp z)
      have y_0 : (0 : Int32).toInt = 0 := by decide
      omega
    obtain ⟨pf_19, pf_20⟩ := hm_16 hz_21
    have pf_19 : Cd sv_8 sv_9 (Mv 5) b sv_7 (d + 1) := pf_19
    have ar_pf_19 := Cd.ar pf_19
    have pf_20 : RfO (pz_sum (rB (Mf 1) (Mv 0)) (St0 (rB (Mf 1) (Mv 0)) (Mv 2) (Mv 6))) (rB (Mf 1) (Mv 0)) sv_5 sv_4 sv_7 := pf_20
    have ar_pf_20 := RfO.wr pf_20
    refine lv_aload_n hx hb dX12_compare_9 rfl (lv_at hl 0 rfl) ?_
    have ha_22 : 0 ≤ (sv_4 : Int32).toInt ∧ (sv_4 : Int32).toInt ≤ ((Mv 0) : Int32).toInt ∧ ((Mv 0) : Int32).toInt ≤ 400 := by
      have z_1 : ¬ (r_13 : Int32).toInt = (0 : Int32).toInt := fun z => c_18 (Int32.toInt_inj.mp z)
      have y_0 : (0 : Int32).toInt = 0 := by decide
      omega
    refine cV (a := (Ma 0)) (As := []) (rest := []) (wr := [((Ma 2), .inl (tc 0, 2400, .inl sv_8)), ((Ma 3), .inl (tc 0, 7, .inl sv_9))]) ⟨hx, hb, hml, hown, hts⟩ hK hX hA (cu_fX12_see l D tc sk (Ma 0) (Ma 1) (Ma 2) (Ma 3) (Ma 4) (Ma 5) (Ma 6) (Ma 7) (Ma 8) (Ma 9) (Ma 10) (Ma 11) (Ma 12) (Ma 13) (Ma 14) (Ma 15) (Ma 16) (Ma 17) (Ma 18) (Ma 19) (Ma 20) (Mv 0) (Mv 1) sv_4 sv_5 sv_6 (Mv 5) sv_7 (Mv 7) (Mv 8) (Mv 9) (Mv 10) (Mv 11) (Mv 12) (Mv 13) (Mv 14) (Mf 1) (Mj 0) ha_22 h_bs) k_1211 k_1208 k_1210 k_27 k_106 pl_X12_see ⟨Nat.le_of_ble_eq_true rfl, Nat.le_of_ble_eq_true rfl⟩ rfl rfl (va_recv hK hP (ci := 12) (q0 := 0) rfl rfl) hP hD hS [0, 1] [2, 3] rfl rfl rfl rfl rfl (by decide) rfl hl.1 rfl (Nat.le_of_ble_eq_true rfl) dX12_compare_10 ⟨Nat.le_of_ble_eq_true rfl, Nat.le_of_ble_eq_true rfl⟩ (fun v_23 u_24 H locs hv_25 hP₀ hD₀ hS₀ => ?_)
    obtain ⟨sv_26, rfl⟩ : ∃ z, z = u_24 := ⟨_, rfl⟩
    obtain ⟨r_31, rfl, he_32, pf_27, pf_28, pf_29, pf_30⟩ := hv_25
    have he_32 : (r_31.toInt = rB (Mf 1) (Mv 0) (sv_26 : Int32).toInt.toNat ∧ (r_31.toInt = -1 ∨ (sv_26 : Int32).toInt < (Mv 0).toInt)) := he_32
    have pf_27 : (sv_4 : Int32).toInt ≤ (sv_26 : Int32).toInt ∧ (sv_26 : Int32).toInt ≤ ((Mv 0) : Int32).toInt := pf_27
    have pf_28 : NSq (Mf 1) (Mv 0) sv_26 := pf_28
    have pf_29 : Stl (Mf 1) (Mv 0) sv_4 sv_26 := pf_29
    have pf_30 : SkR (rB (Mf 1) (Mv 0)) sv_4 sv_26 := pf_30
    refine W.eq (g2 := F0 m 13 ls [.int r_31]) rfl ?_
    replace hP : va_P D classes [((Ma 2), .inl (tc 0, 2400, .inl sv_8)), ((Ma 3), .inl (tc 0, 7, .inl sv_9)), ((Ma 0), .inr (12, [.ref (Ma 1), .int (Mv 0), .int (Mv 1), .ref (Ma 2), .ref (Ma 3), .ref (Ma 4), .ref (Ma 5), .ref (Ma 6), .int sv_26, .int sv_5, .int sv_6, .int (Mv 5), .int sv_7, .int (Mv 7), .int (Mv 8), .ref (Ma 7), .int (Mv 9), .ref (Ma 8), .int (Mv 10), .ref (Ma 9), .ref (Ma 10), .int (Mv 11), .int (Mv 12), .int (Mv 13), .ref (Ma 11), .int (Mv 14), .ref (Ma 12), .ref (Ma 13), .ref (Ma 14), .ref (Ma 15), .ref (Ma 16), .long (Mj 0), .ref (Ma 17), .ref (Ma 18), .ref (Ma 19), .ref (Ma 20)])), ((Ma 1), .inl (tc 2, 400, .inl (Mf 1)))] H := hP₀
    replace hD : va_D A [((Ma 2), .inl (tc 0, 2400, .inl sv_8)), ((Ma 3), .inl (tc 0, 7, .inl sv_9)), ((Ma 0), .inr (12, [.ref (Ma 1), .int (Mv 0), .int (Mv 1), .ref (Ma 2), .ref (Ma 3), .ref (Ma 4), .ref (Ma 5), .ref (Ma 6), .int sv_26, .int sv_5, .int sv_6, .int (Mv 5), .int sv_7, .int (Mv 7), .int (Mv 8), .ref (Ma 7), .int (Mv 9), .ref (Ma 8), .int (Mv 10), .ref (Ma 9), .ref (Ma 10), .int (Mv 11), .int (Mv 12), .int (Mv 13), .ref (Ma 11), .int (Mv 14), .ref (Ma 12), .ref (Ma 13), .ref (Ma 14), .ref (Ma 15), .ref (Ma 16), .long (Mj 0), .ref (Ma 17), .ref (Ma 18), .ref (Ma 19), .ref (Ma 20)])), ((Ma 1), .inl (tc 2, 400, .inl (Mf 1)))] := hD₀
    replace hS := hS₀
    clear hP₀ hD₀ hS₀
    refine lv_istore_n (lv' := [(1, .int r_31), (0, .ref (Ma 0))]) hx hb dX12_compare_13 rfl hl (by decide) rfl (fun ls hl₀ => ?_)
    replace hl := hl₀
    clear hl₀
    refine lv_aload_n hx hb dX12_compare_14 rfl (lv_at hl 1 rfl) ?_
    refine gf_X12_87 hx hb hts hown hK hP 2 rfl rfl dX12_compare_15 ?_
    refine lv_istore_n (lv' := [(2, .int sv_26), (1, .int r_31), (0, .ref (Ma 0))]) hx hb dX12_compare_18 rfl hl (by decide) rfl (fun ls hl₀ => ?_)
    replace hl := hl₀
    clear hl₀
    refine lv_iload_n hx hb dX12_compare_19 rfl (lv_at hl 1 rfl) ?_
    refine lv_bipush (v := 60) hx hb dX12_compare_20 (by decide) ?_
    refine lv_icmp_eq (tgt := 44) hx hb dX12_compare_22 (by decide) (fun c_34 => ?_) (fun c_34 => ?_)
    · skip
      refine lv_aload_n hx hb dX12_compare_44 rfl (lv_at hl 2 rfl) ?_
      refine lv_dup hx hb dX12_compare_45 rfl ?_
      refine gf_X12_87 hx hb hts hown hK hP 2 rfl rfl dX12_compare_46 ?_
      refine lv_iconst (v := 1) hx hb dX12_compare_49 (by decide) ?_
      refine lv_iadd hx hb dX12_compare_50 ?_
      refine lv_topi (fun x_35 ex_35 => ?_)
      refine pf_X12_87 hx hb hts hown hK hP hD hS 2 rfl (Nat.le_of_ble_eq_true rfl) rfl rfl dX12_compare_51 (fun H locs hP₀ hD₀ hS₀ => ?_)
      replace hP : va_P D classes [((Ma 2), .inl (tc 0, 2400, .inl sv_8)), ((Ma 3), .inl (tc 0, 7, .inl sv_9)), ((Ma 0), .inr (12, [.ref (Ma 1), .int (Mv 0), .int (Mv 1), .ref (Ma 2), .ref (Ma 3), .ref (Ma 4), .ref (Ma 5), .ref (Ma 6), .int x_35, .int sv_5, .int sv_6, .int (Mv 5), .int sv_7, .int (Mv 7), .int (Mv 8), .ref (Ma 7), .int (Mv 9), .ref (Ma 8), .int (Mv 10), .ref (Ma 9), .ref (Ma 10), .int (Mv 11), .int (Mv 12), .int (Mv 13), .ref (Ma 11), .int (Mv 14), .ref (Ma 12), .ref (Ma 13), .ref (Ma 14), .ref (Ma 15), .ref (Ma 16), .long (Mj 0), .ref (Ma 17), .ref (Ma 18), .ref (Ma 19), .ref (Ma 20)])), ((Ma 1), .inl (tc 2, 400, .inl (Mf 1)))] H := hP₀
      replace hD : va_D A [((Ma 2), .inl (tc 0, 2400, .inl sv_8)), ((Ma 3), .inl (tc 0, 7, .inl sv_9)), ((Ma 0), .inr (12, [.ref (Ma 1), .int (Mv 0), .int (Mv 1), .ref (Ma 2), .ref (Ma 3), .ref (Ma 4), .ref (Ma 5), .ref (Ma 6), .int x_35, .int sv_5, .int sv_6, .int (Mv 5), .int sv_7, .int (Mv 7), .int (Mv 8), .ref (Ma 7), .int (Mv 9), .ref (Ma 8), .int (Mv 10), .ref (Ma 9), .ref (Ma 10), .int (Mv 11), .int (Mv 12), .int (Mv 13), .ref (Ma 11), .int (Mv 14), .ref (Ma 12), .ref (Ma 13), .ref (Ma 14), .ref (Ma 15), .ref (Ma 16), .long (Mj 0), .ref (Ma 17), .ref (Ma 18), .ref (Ma 19), .ref (Ma 20)])), ((Ma 1), .inl (tc 2, 400, .inl (Mf 1)))] := hD₀
      replace hS := hS₀
      clear hP₀ hD₀ hS₀
      have tp_x_35 : (x_35 : Int32).toInt = (sv_26 : Int32).toInt + 1 := by
        have z_1 : ¬ (r_13 : Int32).toInt = (0 : Int32).toInt := fun z => c_18 (Int32.toInt_inj.mp z)
        have z_2 := congrArg Int32.toInt c_34
        have y_0 : (0 : Int32).toInt = 0 := by decide
        have y_60 : (60 : Int32).toInt = 60 := by decide
        have y_1 : (1 : Int32).toInt = 1 := by decide
        have t_x_35 : x_35.toInt = (sv_26 : Int32).toInt + (1 : Int32).toInt := by rw [ex_35]; exact add_toInt (by omega) (by omega)
        omega
      refine lv_iload_n hx hb dX12_compare_54 rfl (lv_at hl 1 rfl) ?_
      refine lv_bipush (v := 61) hx hb dX12_compare_55 (by decide) ?_
      refine lv_icmp_eq (tgt := 89) hx hb dX12_compare_57 (by decide) (fun c_36 => ?_) (fun c_36 => ?_)
      · skip
        refine lv_iconst (v := 0) hx hb dX12_compare_89 (by decide) ?_
        refine lv_istore_n (lv' := [(3, .int 0), (2, .int sv_26), (1, .int r_31), (0, .ref (Ma 0))]) hx hb dX12_compare_90 rfl hl (by decide) rfl (fun ls hl₀ => ?_)
        replace hl := hl₀
        clear hl₀
        refine lv_iload_n hx hb dX12_compare_91 rfl (lv_at hl 0 rfl) ?_
        refine lv_if_eq (tgt := 105) hx hb dX12_compare_92 (by decide) (fun c_37 => ?_) (fun c_37 => absurd c_37 (by decide))
        refine lv_aload_n hx hb dX12_compare_105 rfl (lv_at hl 3 rfl) ?_
        refine lv_iload_n hx hb dX12_compare_106 rfl (lv_at hl 1 rfl) ?_
        have ha_38 : 0 ≤ sv_26.toInt ∧ sv_26.toInt ≤ 400 := by
          have z_1 : ¬ (r_13 : Int32).toInt = (0 : Int32).toInt := fun z => c_18 (Int32.toInt_inj.mp z)
          have z_2 := congrArg Int32.toInt c_34
          have z_3 := congrArg Int32.toInt c_36
          have y_0 : (0 : Int32).toInt = 0 := by decide
          have y_60 : (60 : Int32).toInt = 60 := by decide
          have y_61 : (61 : Int32).toInt = 61 := by decide
          omega
        have ha_39 : 0 ≤ (sv_7 : Int32).toInt ∧ (sv_7 : Int32).toInt ≤ 60 := by
          have z_1 : ¬ (r_13 : Int32).toInt = (0 : Int32).toInt := fun z => c_18 (Int32.toInt_inj.mp z)
          have z_2 := congrArg Int32.toInt c_34
          have z_3 := congrArg Int32.toInt c_36
          have y_0 : (0 : Int32).toInt = 0 := by decide
          have y_60 : (60 : Int32).toInt = 60 := by decide
          have y_61 : (61 : Int32).toInt = 61 := by decide
          omega
        have ha_40 : (sv_5 : Int32).toInt = 0 := by
          have z_1 : ¬ (r_13 : Int32).toInt = (0 : Int32).toInt := fun z => c_18 (Int32.toInt_inj.mp z)
          have z_2 := congrArg Int32.toInt c_34
          have z_3 := congrArg Int32.toInt c_36
          have y_0 : (0 : Int32).toInt = 0 := by decide
          have y_60 : (60 : Int32).toInt = 60 := by decide
          have y_61 : (61 : Int32).toInt = 61 := by decide
          omega
        refine cV (a := (Ma 0)) (As := [.int sv_26]) (rest := []) (wr := [((Ma 2), .inl (tc 0, 2400, .inl sv_8)), ((Ma 3), .inl (tc 0, 7, .inl sv_9)), ((Ma 1), .inl (tc 2, 400, .inl (Mf 1)))]) ⟨hx, hb, hml, hown, hts⟩ hK hX hA (cu_fX12_makes l D tc sk (Ma 0) (Ma 1) (Ma 2) (Ma 3) (Ma 4) (Ma 5) (Ma 6) (Ma 7) (Ma 8) (Ma 9) (Ma 10) (Ma 11) (Ma 12) (Ma 13) (Ma 14) (Ma 15) (Ma 16) (Ma 17) (Ma 18) (Ma 19) (Ma 20) (Mv 0) (Mv 1) x_35 sv_5 sv_6 (Mv 5) sv_7 (Mv 7) (Mv 8) (Mv 9) (Mv 10) (Mv 11) (Mv 12) (Mv 13) (Mv 14) (Mj 0) sv_26 ha_38 ha_39 ha_40) k_1292 k_1289 k_1291 k_45 k_106 pl_X12_makes ⟨Nat.le_of_ble_eq_true rfl, Nat.le_of_ble_eq_true rfl⟩ rfl rfl (va_recv hK hP (ci := 12) (q0 := 2) rfl rfl) hP hD hS [2] [0, 1, 3] rfl rfl rfl rfl rfl (by decide) rfl hl.1 rfl (Nat.le_of_ble_eq_true rfl) dX12_compare_107 ⟨Nat.le_of_ble_eq_true rfl, Nat.le_of_ble_eq_true rfl⟩ (fun v_41 u_42 H locs hv_43 hP₀ hD₀ hS₀ => ?_)
        obtain ⟨sv_44, sv_45⟩ := u_42
        obtain ⟨r_47, rfl, he_48, pf_46⟩ := hv_43
        have he_48 : ((r_47.toInt = 0 ∧ ¬ (sv_44 : Int32).toInt = 0 ∧ sv_7.toInt = 60 ∧ (sv_44 : Int32).toInt = 1 + 8 * sv_26.toInt + 3) ∨ (r_47.toInt = 1 ∧ (sv_45 : Int32).toInt = sv_7.toInt + 1 ∧ sv_7.toInt < 60 ∧ (sv_44 : Int32).toInt = 0)) := he_48
        have pf_46 : (sv_7 : Int32).toInt ≤ (sv_45 : Int32).toInt ∧ (sv_45 : Int32).toInt ≤ 60 := pf_46
        refine W.eq (g2 := F0 m 110 ls [.int r_47]) rfl ?_
        replace hP : va_P D classes [((Ma 2), .inl (tc 0, 2400, .inl sv_8)), ((Ma 3), .inl (tc 0, 7, .inl sv_9)), ((Ma 1), .inl (tc 2, 400, .inl (Mf 1))), ((Ma 0), .inr (12, [.ref (Ma 1), .int (Mv 0), .int (Mv 1), .ref (Ma 2), .ref (Ma 3), .ref (Ma 4), .ref (Ma 5), .ref (Ma 6), .int x_35, .int sv_44, .int sv_6, .int (Mv 5), .int sv_45, .int (Mv 7), .int (Mv 8), .ref (Ma 7), .int (Mv 9), .ref (Ma 8), .int (Mv 10), .ref (Ma 9), .ref (Ma 10), .int (Mv 11), .int (Mv 12), .int (Mv 13), .ref (Ma 11), .int (Mv 14), .ref (Ma 12), .ref (Ma 13), .ref (Ma 14), .ref (Ma 15), .ref (Ma 16), .long (Mj 0), .ref (Ma 17), .ref (Ma 18), .ref (Ma 19), .ref (Ma 20)]))] H := hP₀
        replace hD : va_D A [((Ma 2), .inl (tc 0, 2400, .inl sv_8)), ((Ma 3), .inl (tc 0, 7, .inl sv_9)), ((Ma 1), .inl (tc 2, 400, .inl (Mf 1))), ((Ma 0), .inr (12, [.ref (Ma 1), .int (Mv 0), .int (Mv 1), .ref (Ma 2), .ref (Ma 3), .ref (Ma 4), .ref (Ma 5), .ref (Ma 6), .int x_35, .int sv_44, .int sv_6, .int (Mv 5), .int sv_45, .int (Mv 7), .int (Mv 8), .ref (Ma 7), .int (Mv 9), .ref (Ma 8), .int (Mv 10), .ref (Ma 9), .ref (Ma 10), .int (Mv 11), .int (Mv 12), .int (Mv 13), .ref (Ma 11), .int (Mv 14), .ref (Ma 12), .ref (Ma 13), .ref (Ma 14), .ref (Ma 15), .ref (Ma 16), .long (Mj 0), .ref (Ma 17), .ref (Ma 18), .ref (Ma 19), .ref (Ma 20)]))] := hD₀
        replace hS := hS₀
        clear hP₀ hD₀ hS₀
        have hr_51 : (sv_7 : Int32).toInt ≤ (sv_45 : Int32).toInt ∧ (sv_45 : Int32).toInt ≤ 60 := by
          have z_1 : ¬ (r_13 : Int32).toInt = (0 : Int32).toInt := fun z => c_18 (Int32.toInt_inj.mp z)
          have z_2 := congrArg Int32.toInt c_34
          have z_3 := congrArg Int32.toInt c_36
          have y_0 : (0 : Int32).toInt = 0 := by decide
          have y_60 : (60 : Int32).toInt = 60 := by decide
          have y_61 : (61 : Int32).toInt = 61 := by decide
          omega
        have pf_50 : Cd sv_8 sv_9 (Mv 5) b sv_45 (d + 1) := Cd.mono pf_19 hr_51
        have ar_pf_50 := Cd.ar pf_50
        refine lv_if_ne (tgt := 115) hx hb dX12_compare_110 (by decide) (fun c_52 => ?_) (fun c_52 => ?_)
        · skip
          refine lv_iload_n hx hb dX12_compare_115 rfl (lv_at hl 2 rfl) ?_
          refine lv_bipush (v := 60) hx hb dX12_compare_116 (by decide) ?_
          refine lv_icmp_ne (tgt := 133) hx hb dX12_compare_118 (by decide) (fun c_53 => ?_) (fun c_53 => ?_)
          · skip
            exfalso
            have z_1 : ¬ (r_13 : Int32).toInt = (0 : Int32).toInt := fun z => c_18 (Int32.toInt_inj.mp z)
            have z_2 := congrArg Int32.toInt c_34
            have z_3 := congrArg Int32.toInt c_36
            have z_4 : ¬ (r_47 : Int32).toInt = (0 : Int32).toInt := fun z => c_52 (Int32.toInt_inj.mp z)
            have z_5 : ¬ (r_31 : Int32).toInt = (60 : Int32).toInt := fun z => c_53 (Int32.toInt_inj.mp z)
            have y_0 : (0 : Int32).toInt = 0 := by decide
            have y_60 : (60 : Int32).toInt = 60 := by decide
            have y_61 : (61 : Int32).toInt = 61 := by decide
            omega
          · skip
            refine lv_iload_n hx hb dX12_compare_121 rfl (lv_at hl 0 rfl) ?_
            refine lv_if_eq (tgt := 129) hx hb dX12_compare_122 (by decide) (fun c_54 => ?_) (fun c_54 => absurd c_54 (by decide))
            refine lv_iconst (v := 0) hx hb dX12_compare_129 (by decide) ?_
            refine lv_goto (tgt := 152) hx hb dX12_compare_130 (by decide) ?_
            refine lv_istore (lv' := [(4, .int 0), (3, .int 0), (2, .int sv_26), (1, .int r_31), (0, .ref (Ma 0))]) hx hb dX12_compare_152 hl (by decide) rfl (fun ls hl₀ => ?_)
            replace hl := hl₀
            clear hl₀
            refine lv_aload_n hx hb dX12_compare_154 rfl (lv_at hl 4 rfl) ?_
            have ha_55 : 0 ≤ (x_35 : Int32).toInt ∧ (x_35 : Int32).toInt ≤ ((Mv 0) : Int32).toInt ∧ ((Mv 0) : Int32).toInt ≤ 400 := by
              have z_1 : ¬ (r_13 : Int32).toInt = (0 : Int32).toInt := fun z => c_18 (Int32.toInt_inj.mp z)
              have z_2 := congrArg Int32.toInt c_34
              have z_3 := congrArg Int32.toInt c_36
              have z_4 : ¬ (r_47 : Int32).toInt = (0 : Int32).toInt := fun z => c_52 (Int32.toInt_inj.mp z)
              have z_5 := congrArg Int32.toInt c_53
              have y_0 : (0 : Int32).toInt = 0 := by decide
              have y_60 : (60 : Int32).toInt = 60 := by decide
              have y_61 : (61 : Int32).toInt = 61 := by decide
              have y_1 : (1 : Int32).toInt = 1 := by decide
              have t_x_35 : x_35.toInt = (sv_26 : Int32).toInt + (1 : Int32).toInt := by rw [ex_35]; exact add_toInt (by omega) (by omega)
              omega
            have ha_56 : (sv_9 (Mv 5).toNatClampNeg).toInt ≤ (x_35 : Int32).toInt := by
              have z_1 : ¬ (r_13 : Int32).toInt = (0 : Int32).toInt := fun z => c_18 (Int32.toInt_inj.mp z)
              have z_2 := congrArg Int32.toInt c_34
              have z_3 := congrArg Int32.toInt c_36
              have z_4 : ¬ (r_47 : Int32).toInt = (0 : Int32).toInt := fun z => c_52 (Int32.toInt_inj.mp z)
              have z_5 := congrArg Int32.toInt c_53
              have y_0 : (0 : Int32).toInt = 0 := by decide
              have y_60 : (60 : Int32).toInt = 60 := by decide
              have y_61 : (61 : Int32).toInt = 61 := by decide
              have y_1 : (1 : Int32).toInt = 1 := by decide
              have t_x_35 : x_35.toInt = (sv_26 : Int32).toInt + (1 : Int32).toInt := by rw [ex_35]; exact add_toInt (by omega) (by omega)
              omega
            have ha_57 : 0 ≤ (sv_45 : Int32).toInt ∧ (sv_45 : Int32).toInt ≤ 60 := by
              have z_1 : ¬ (r_13 : Int32).toInt = (0 : Int32).toInt := fun z => c_18 (Int32.toInt_inj.mp z)
              have z_2 := congrArg Int32.toInt c_34
              have z_3 := congrArg Int32.toInt c_36
              have z_4 : ¬ (r_47 : Int32).toInt = (0 : Int32).toInt := fun z => c_52 (Int32.toInt_inj.mp z)
              have z_5 := congrArg Int32.toInt c_53
              have y_0 : (0 : Int32).toInt = 0 := by decide
              have y_60 : (60 : Int32).toInt = 60 := by decide
              have y_61 : (61 : Int32).toInt = 61 := by decide
              omega
            have ha_58 : (sv_44 : Int32).toInt = 0 := by
              have z_1 : ¬ (r_13 : Int32).toInt = (0 : Int32).toInt := fun z => c_18 (Int32.toInt_inj.mp z)
              have z_2 := congrArg Int32.toInt c_34
              have z_3 := congrArg Int32.toInt c_36
              have z_4 : ¬ (r_47 : Int32).toInt = (0 : Int32).toInt := fun z => c_52 (Int32.toInt_inj.mp z)
              have z_5 := congrArg Int32.toInt c_53
              have y_0 : (0 : Int32).toInt = 0 := by decide
              have y_60 : (60 : Int32).toInt = 60 := by decide
              have y_61 : (61 : Int32).toInt = 61 := by decide
              omega
            refine cV (a := (Ma 0)) (As := []) (rest := []) (wr := []) ⟨hx, hb, hml, hown, hts⟩ hK hX hA (cu_fX12_sum l D tc sk (Ma 0) (Ma 1) (Ma 2) (Ma 3) (Ma 4) (Ma 5) (Ma 6) (Ma 7) (Ma 8) (Ma 9) (Ma 10) (Ma 11) (Ma 12) (Ma 13) (Ma 14) (Ma 15) (Ma 16) (Ma 17) (Ma 18) (Ma 19) (Ma 20) (Mv 0) (Mv 1) x_35 sv_44 sv_6 (Mv 5) sv_45 (Mv 7) (Mv 8) (Mv 9) (Mv 10) (Mv 11) (Mv 12) (Mv 13) (Mv 14) (Mf 1) sv_8 sv_9 (Mj 0) b (d + 1) ha_55 pf_50 ha_56 ha_57 h_bs ha_58) k_1279 k_1276 k_1278 k_42 k_106 pl_X12_sum ⟨Nat.le_of_ble_eq_true rfl, Nat.le_of_ble_eq_true rfl⟩ rfl rfl (va_recv hK hP (ci := 12) (q0 := 3) rfl rfl) hP hD hS [3, 2, 0, 1] [] rfl rfl rfl rfl rfl (by decide) rfl hl.1 rfl (Nat.le_of_ble_eq_true rfl) dX12_compare_155 ⟨Nat.le_of_ble_eq_true rfl, Nat.le_of_ble_eq_true rfl⟩ (fun v_59 u_60 H locs hv_61 hP₀ hD₀ hS₀ => ?_)
            obtain ⟨sv_62, sv_63, sv_64, sv_65, sv_66, sv_67⟩ := u_60
            obtain ⟨r_71, rfl, he_72, pf_68, pf_69, pf_70, hm_74, hm_75⟩ := hv_61
            have he_72 : ((r_71.toInt = 0 ∧ ¬ (sv_63 : Int32).toInt = 0) ∨ (r_71.toInt = 1 ∧ (sv_9 (Mv 5).toNatClampNeg).toInt + 1 ≤ (sv_67 (Mv 5).toNatClampNeg).toInt ∧ (sv_67 (Mv 5).toNatClampNeg).toInt + (x_35 : Int32).toInt ≤ (sv_9 (Mv 5).toNatClampNeg).toInt + (sv_62 : Int32).toInt ∧ (x_35 : Int32).toInt + 1 ≤ (sv_62 : Int32).toInt)) := he_72
            have pf_68 : (x_35 : Int32).toInt ≤ (sv_62 : Int32).toInt ∧ (sv_62 : Int32).toInt ≤ ((Mv 0) : Int32).toInt := pf_68
            have pf_69 : (sv_45 : Int32).toInt ≤ (sv_65 : Int32).toInt ∧ (sv_65 : Int32).toInt ≤ 60 := pf_69
            have pf_70 : Agr sv_8 sv_66 (400 * ((Mv 5) : Int32).toInt + (sv_9 (Mv 5).toNatClampNeg).toInt) := pf_70
            refine W.eq (g2 := F0 m 158 ls [.int r_71]) rfl ?_
            replace hP : va_P D classes [((Ma 0), .inr (12, [.ref (Ma 1), .int (Mv 0), .int (Mv 1), .ref (Ma 2), .ref (Ma 3), .ref (Ma 4), .ref (Ma 5), .ref (Ma 6), .int sv_62, .int sv_63, .int sv_64, .int (Mv 5), .int sv_65, .int (Mv 7), .int (Mv 8), .ref (Ma 7), .int (Mv 9), .ref (Ma 8), .int (Mv 10), .ref (Ma 9), .ref (Ma 10), .int (Mv 11), .int (Mv 12), .int (Mv 13), .ref (Ma 11), .int (Mv 14), .ref (Ma 12), .ref (Ma 13), .ref (Ma 14), .ref (Ma 15), .ref (Ma 16), .long (Mj 0), .ref (Ma 17), .ref (Ma 18), .ref (Ma 19), .ref (Ma 20)])), ((Ma 1), .inl (tc 2, 400, .inl (Mf 1))), ((Ma 2), .inl (tc 0, 2400, .inl sv_66)), ((Ma 3), .inl (tc 0, 7, .inl sv_67))] H := hP₀
            replace hD : va_D A [((Ma 0), .inr (12, [.ref (Ma 1), .int (Mv 0), .int (Mv 1), .ref (Ma 2), .ref (Ma 3), .ref (Ma 4), .ref (Ma 5), .ref (Ma 6), .int sv_62, .int sv_63, .int sv_64, .int (Mv 5), .int sv_65, .int (Mv 7), .int (Mv 8), .ref (Ma 7), .int (Mv 9), .ref (Ma 8), .int (Mv 10), .ref (Ma 9), .ref (Ma 10), .int (Mv 11), .int (Mv 12), .int (Mv 13), .ref (Ma 11), .int (Mv 14), .ref (Ma 12), .ref (Ma 13), .ref (Ma 14), .ref (Ma 15), .ref (Ma 16), .long (Mj 0), .ref (Ma 17), .ref (Ma 18), .ref (Ma 19), .ref (Ma 20)])), ((Ma 1), .inl (tc 2, 400, .inl (Mf 1))), ((Ma 2), .inl (tc 0, 2400, .inl sv_66)), ((Ma 3), .inl (tc 0, 7, .inl sv_67))] := hD₀
            replace hS := hS₀
            clear hP₀ hD₀ hS₀
            refine lv_if_ne (tgt := 163) hx hb dX12_compare_158 (by decide) (fun c_76 => ?_) (fun c_76 => ?_)
            · skip
              have hz_79 : (r_71 : Int32).toInt = 1 := by
                have z_1 : ¬ (r_13 : Int32).toInt = (0 : Int32).toInt := fun z => c_18 (Int32.toInt_inj.mp z)
                have z_2 := congrArg Int32.toInt c_34
                have z_3 := congrArg Int32.toInt c_36
                have z_4 : ¬ (r_47 : Int32).toInt = (0 : Int32).toInt := fun z => c_52 (Int32.toInt_inj.mp z)
                have z_5 := congrArg Int32.toInt c_53
                have z_6 : ¬ (r_71 : Int32).toInt = (0 : Int32).toInt := fun z => c_76 (Int32.toInt_inj.mp z)
                have y_0 : (0 : Int32).toInt = 0 := by decide
                have y_60 : (60 : Int32).toInt = 60 := by decide
                have y_61 : (61 : Int32).toInt = 61 := by decide
                omega
              obtain ⟨pf_77, pf_78⟩ := hm_74 hz_79
              have pf_77 : Cd sv_66 sv_67 (Mv 5) b sv_65 ((d + 1) + 1) := pf_77
              have ar_pf_77 := Cd.ar pf_77
              have pf_78 : RfO (pz_sum (rB (Mf 1) (Mv 0)) (St0 (rB (Mf 1) (Mv 0)) x_35 sv_45)) (rB (Mf 1) (Mv 0)) sv_63 sv_62 sv_65 := pf_78
              have ar_pf_78 := RfO.wr pf_78
              refine lv_aload_n hx hb dX12_compare_163 rfl (lv_at hl 4 rfl) ?_
              refine lv_bipush (v := 6) hx hb dX12_compare_164 (by decide) ?_
              refine lv_iload hx hb dX12_compare_166 (lv_at hl 0 rfl) ?_
              refine lv_iadd hx hb dX12_compare_168 ?_
              refine lv_lit (v := 6) (by decide) ?_
              refine lv_iconst (v := 0) hx hb dX12_compare_169 (by decide) ?_
              have ha_80 : ((d + 1) : Int) ≤ sv_65.toInt := by
                have z_1 : ¬ (r_13 : Int32).toInt = (0 : Int32).toInt := fun z => c_18 (Int32.toInt_inj.mp z)
                have z_2 := congrArg Int32.toInt c_34
                have z_3 := congrArg Int32.toInt c_36
                have z_4 : ¬ (r_47 : Int32).toInt = (0 : Int32).toInt := fun z => c_52 (Int32.toInt_inj.mp z)
                have z_5 := congrArg Int32.toInt c_53
                have z_6 : ¬ (r_71 : Int32).toInt = (0 : Int32).toInt := fun z => c_76 (Int32.toInt_inj.mp z)
                have y_0 : (0 : Int32).toInt = 0 := by decide
                have y_60 : (60 : Int32).toInt = 60 := by decide
                have y_61 : (61 : Int32).toInt = 61 := by decide
                omega
              have ha_81 : (sv_67 (Mv 5).toNatClampNeg).toInt < 400 := by
                have z_1 : ¬ (r_13 : Int32).toInt = (0 : Int32).toInt := fun z => c_18 (Int32.toInt_inj.mp z)
                have z_2 := congrArg Int32.toInt c_34
                have z_3 := congrArg Int32.toInt c_36
                have z_4 : ¬ (r_47 : Int32).toInt = (0 : Int32).toInt := fun z => c_52 (Int32.toInt_inj.mp z)
                have z_5 := congrArg Int32.toInt c_53
                have z_6 : ¬ (r_71 : Int32).toInt = (0 : Int32).toInt := fun z => c_76 (Int32.toInt_inj.mp z)
                have y_0 : (0 : Int32).toInt = 0 := by decide
                have y_60 : (60 : Int32).toInt = 60 := by decide
                have y_61 : (61 : Int32).toInt = 61 := by decide
                omega
              refine cV (a := (Ma 0)) (As := [.int 6, .int 0]) (rest := []) (wr := [((Ma 1), .inl (tc 2, 400, .inl (Mf 1)))]) ⟨hx, hb, hml, hown, hts⟩ hK hX hA (cu_X12_puts l D tc sk (Ma 0) (Ma 1) (Ma 2) (Ma 3) (Ma 4) (Ma 5) (Ma 6) (Ma 7) (Ma 8) (Ma 9) (Ma 10) (Ma 11) (Ma 12) (Ma 13) (Ma 14) (Ma 15) (Ma 16) (Ma 17) (Ma 18) (Ma 19) (Ma 20) (Mv 0) (Mv 1) sv_62 sv_63 sv_64 (Mv 5) sv_65 (Mv 7) (Mv 8) (Mv 9) (Mv 10) (Mv 11) (Mv 12) (Mv 13) (Mv 14) sv_66 sv_67 (Mj 0) 6 0 b sv_65 ((d + 1) + 1) (d + 1) pf_77 (StpR.op (by decide) rfl (by omega)) ha_80 ha_81) k_1296 k_1293 k_1295 k_46 k_106 pl_X12_puts ⟨Nat.le_of_ble_eq_true rfl, Nat.le_of_ble_eq_true rfl⟩ rfl rfl (va_recv hK hP (ci := 12) (q0 := 0) rfl rfl) hP hD hS [0, 2, 3] [1] rfl rfl rfl rfl rfl (by decide) rfl hl.1 rfl (Nat.le_of_ble_eq_true rfl) dX12_compare_170 ⟨Nat.le_of_ble_eq_true rfl, Nat.le_of_ble_eq_true rfl⟩ (fun v_82 u_83 H locs hv_84 hP₀ hD₀ hS₀ => ?_)
              obtain ⟨sv_85, sv_86⟩ := u_83
              obtain ⟨rfl, pf_87, pf_88, pf_89⟩ := hv_84
              have pf_87 : Cd sv_85 sv_86 (Mv 5) b sv_65 (d + 1) := pf_87
              have ar_pf_87 := Cd.ar pf_87
              have pf_88 : Agr sv_66 sv_85 (400 * ((Mv 5) : Int32).toInt + (sv_67 (Mv 5).toNatClampNeg).toInt) := pf_88
              have pf_89 : (sv_86 (Mv 5).toNatClampNeg).toInt = (sv_67 (Mv 5).toNatClampNeg).toInt + 1 := pf_89
              refine W.eq (g2 := F0 m 173 ls []) rfl ?_
              replace hP : va_P D classes [((Ma 1), .inl (tc 2, 400, .inl (Mf 1))), ((Ma 0), .inr (12, [.ref (Ma 1), .int (Mv 0), .int (Mv 1), .ref (Ma 2), .ref (Ma 3), .ref (Ma 4), .ref (Ma 5), .ref (Ma 6), .int sv_62, .int sv_63, .int sv_64, .int (Mv 5), .int sv_65, .int (Mv 7), .int (Mv 8), .ref (Ma 7), .int (Mv 9), .ref (Ma 8), .int (Mv 10), .ref (Ma 9), .ref (Ma 10), .int (Mv 11), .int (Mv 12), .int (Mv 13), .ref (Ma 11), .int (Mv 14), .ref (Ma 12), .ref (Ma 13), .ref (Ma 14), .ref (Ma 15), .ref (Ma 16), .long (Mj 0), .ref (Ma 17), .ref (Ma 18), .ref (Ma 19), .ref (Ma 20)])), ((Ma 2), .inl (tc 0, 2400, .inl sv_85)), ((Ma 3), .inl (tc 0, 7, .inl sv_86))] H := hP₀
              replace hD : va_D A [((Ma 1), .inl (tc 2, 400, .inl (Mf 1))), ((Ma 0), .inr (12, [.ref (Ma 1), .int (Mv 0), .int (Mv 1), .ref (Ma 2), .ref (Ma 3), .ref (Ma 4), .ref (Ma 5), .ref (Ma 6), .int sv_62, .int sv_63, .int sv_64, .int (Mv 5), .int sv_65, .int (Mv 7), .int (Mv 8), .ref (Ma 7), .int (Mv 9), .ref (Ma 8), .int (Mv 10), .ref (Ma 9), .ref (Ma 10), .int (Mv 11), .int (Mv 12), .int (Mv 13), .ref (Ma 11), .int (Mv 14), .ref (Ma 12), .ref (Ma 13), .ref (Ma 14), .ref (Ma 15), .ref (Ma 16), .long (Mj 0), .ref (Ma 17), .ref (Ma 18), .ref (Ma 19), .ref (Ma 20)])), ((Ma 2), .inl (tc 0, 2400, .inl sv_85)), ((Ma 3), .inl (tc 0, 7, .inl sv_86))] := hD₀
              replace hS := hS₀
              clear hP₀ hD₀ hS₀
              refine lv_iconst (v := 1) hx hb dX12_compare_173 (by decide) ?_
              have ha_90 : ((Mv 2) : Int32).toInt ≤ (sv_62 : Int32).toInt ∧ (sv_62 : Int32).toInt ≤ ((Mv 0) : Int32).toInt := by
                have z_1 : ¬ (r_13 : Int32).toInt = (0 : Int32).toInt := fun z => c_18 (Int32.toInt_inj.mp z)
                have z_2 := congrArg Int32.toInt c_34
                have z_3 := congrArg Int32.toInt c_36
                have z_4 : ¬ (r_47 : Int32).toInt = (0 : Int32).toInt := fun z => c_52 (Int32.toInt_inj.mp z)
                have z_5 := congrArg Int32.toInt c_53
                have z_6 : ¬ (r_71 : Int32).toInt = (0 : Int32).toInt := fun z => c_76 (Int32.toInt_inj.mp z)
                have y_0 : (0 : Int32).toInt = 0 := by decide
                have y_60 : (60 : Int32).toInt = 60 := by decide
                have y_61 : (61 : Int32).toInt = 61 := by decide
                omega
              have ha_91 : ((Mv 6) : Int32).toInt ≤ (sv_65 : Int32).toInt ∧ (sv_65 : Int32).toInt ≤ 60 := by
                have z_1 : ¬ (r_13 : Int32).toInt = (0 : Int32).toInt := fun z => c_18 (Int32.toInt_inj.mp z)
                have z_2 := congrArg Int32.toInt c_34
                have z_3 := congrArg Int32.toInt c_36
                have z_4 : ¬ (r_47 : Int32).toInt = (0 : Int32).toInt := fun z => c_52 (Int32.toInt_inj.mp z)
                have z_5 := congrArg Int32.toInt c_53
                have z_6 : ¬ (r_71 : Int32).toInt = (0 : Int32).toInt := fun z => c_76 (Int32.toInt_inj.mp z)
                have y_0 : (0 : Int32).toInt = 0 := by decide
                have y_60 : (60 : Int32).toInt = 60 := by decide
                have y_61 : (61 : Int32).toInt = 61 := by decide
                omega
              have hr_92 : (400 * ((Mv 5) : Int32).toInt + ((Mf 3) (Mv 5).toNatClampNeg).toInt) ≤ (400 * ((Mv 5) : Int32).toInt + ((Mf 3) (Mv 5).toNatClampNeg).toInt) := by
                have z_1 : ¬ (r_13 : Int32).toInt = (0 : Int32).toInt := fun z => c_18 (Int32.toInt_inj.mp z)
                have z_2 := congrArg Int32.toInt c_34
                have z_3 := congrArg Int32.toInt c_36
                have z_4 : ¬ (r_47 : Int32).toInt = (0 : Int32).toInt := fun z => c_52 (Int32.toInt_inj.mp z)
                have z_5 := congrArg Int32.toInt c_53
                have z_6 : ¬ (r_71 : Int32).toInt = (0 : Int32).toInt := fun z => c_76 (Int32.toInt_inj.mp z)
                have y_0 : (0 : Int32).toInt = 0 := by decide
                have y_60 : (60 : Int32).toInt = 60 := by decide
                have y_61 : (61 : Int32).toInt = 61 := by decide
                omega
              have hr_93 : (400 * ((Mv 5) : Int32).toInt + ((Mf 3) (Mv 5).toNatClampNeg).toInt) ≤ (400 * ((Mv 5) : Int32).toInt + (sv_9 (Mv 5).toNatClampNeg).toInt) := by
                have z_1 : ¬ (r_13 : Int32).toInt = (0 : Int32).toInt := fun z => c_18 (Int32.toInt_inj.mp z)
                have z_2 := congrArg Int32.toInt c_34
                have z_3 := congrArg Int32.toInt c_36
                have z_4 : ¬ (r_47 : Int32).toInt = (0 : Int32).toInt := fun z => c_52 (Int32.toInt_inj.mp z)
                have z_5 := congrArg Int32.toInt c_53
                have z_6 : ¬ (r_71 : Int32).toInt = (0 : Int32).toInt := fun z => c_76 (Int32.toInt_inj.mp z)
                have y_0 : (0 : Int32).toInt = 0 := by decide
                have y_60 : (60 : Int32).toInt = 60 := by decide
                have y_61 : (61 : Int32).toInt = 61 := by decide
                omega
              have hr_94 : (400 * ((Mv 5) : Int32).toInt + ((Mf 3) (Mv 5).toNatClampNeg).toInt) ≤ (400 * ((Mv 5) : Int32).toInt + (sv_67 (Mv 5).toNatClampNeg).toInt) := by
                have z_1 : ¬ (r_13 : Int32).toInt = (0 : Int32).toInt := fun z => c_18 (Int32.toInt_inj.mp z)
                have z_2 := congrArg Int32.toInt c_34
                have z_3 := congrArg Int32.toInt c_36
                have z_4 : ¬ (r_47 : Int32).toInt = (0 : Int32).toInt := fun z => c_52 (Int32.toInt_inj.mp z)
                have z_5 := congrArg Int32.toInt c_53
                have z_6 : ¬ (r_71 : Int32).toInt = (0 : Int32).toInt := fun z => c_76 (Int32.toInt_inj.mp z)
                have y_0 : (0 : Int32).toInt = 0 := by decide
                have y_60 : (60 : Int32).toInt = 60 := by decide
                have y_61 : (61 : Int32).toInt = 61 := by decide
                omega
              have hp_95 : (((1 : Int32).toInt = 0 ∧ ¬ (sv_63 : Int32).toInt = 0) ∨ ((1 : Int32).toInt = 1 ∧ ((Mf 3) (Mv 5).toNatClampNeg).toInt + 1 ≤ (sv_86 (Mv 5).toNatClampNeg).toInt ∧ (sv_86 (Mv 5).toNatClampNeg).toInt + ((Mv 2) : Int32).toInt ≤ ((Mf 3) (Mv 5).toNatClampNeg).toInt + (sv_62 : Int32).toInt ∧ ((Mv 2) : Int32).toInt + 1 ≤ (sv_62 : Int32).toInt)) := by
                have z_1 : ¬ (r_13 : Int32).toInt = (0 : Int32).toInt := fun z => c_18 (Int32.toInt_inj.mp z)
                have z_2 := congrArg Int32.toInt c_34
                have z_3 := congrArg Int32.toInt c_36
                have z_4 : ¬ (r_47 : Int32).toInt = (0 : Int32).toInt := fun z => c_52 (Int32.toInt_inj.mp z)
                have z_5 := congrArg Int32.toInt c_53
                have z_6 : ¬ (r_71 : Int32).toInt = (0 : Int32).toInt := fun z => c_76 (Int32.toInt_inj.mp z)
                have y_0 : (0 : Int32).toInt = 0 := by decide
                have y_60 : (60 : Int32).toInt = 60 := by decide
                have y_61 : (61 : Int32).toInt = 61 := by decide
                have y_1 : (1 : Int32).toInt = 1 := by decide
                have yr : (1 : Int32).toInt = 1 := by decide
                omega
              have hm_96 : (1 : Int32).toInt = 1 → (Cd sv_85 sv_86 (Mv 5) b sv_65 (d + 1)) ∧ (RfO (pz_com (rB (Mf 1) (Mv 0)) (St0 (rB (Mf 1) (Mv 0)) (Mv 2) (Mv 6))) (rB (Mf 1) (Mv 0)) sv_63 sv_62 sv_65) := by
                intro h1r
                have hr_97 : (rB (Mf 1) (Mv 0) (sv_26 : Int32).toInt.toNat = 60 ∨ rB (Mf 1) (Mv 0) (sv_26 : Int32).toInt.toNat = 61 ∨ rB (Mf 1) (Mv 0) (sv_26 : Int32).toInt.toNat = 62) := by
                  have z_1 : ¬ (r_13 : Int32).toInt = (0 : Int32).toInt := fun z => c_18 (Int32.toInt_inj.mp z)
                  have z_2 := congrArg Int32.toInt c_34
                  have z_3 := congrArg Int32.toInt c_36
                  have z_4 : ¬ (r_47 : Int32).toInt = (0 : Int32).toInt := fun z => c_52 (Int32.toInt_inj.mp z)
                  have z_5 := congrArg Int32.toInt c_53
                  have z_6 : ¬ (r_71 : Int32).toInt = (0 : Int32).toInt := fun z => c_76 (Int32.toInt_inj.mp z)
                  have y_0 : (0 : Int32).toInt = 0 := by decide
                  have y_60 : (60 : Int32).toInt = 60 := by decide
                  have y_61 : (61 : Int32).toInt = 61 := by decide
                  omega
                have rg_98 := rB_rg (n := (Mv 0)) h_bs ((sv_26 : Int32).toInt.toNat + 1)
                have hr_99 : ((x_35 : Int32).toInt = (sv_26 : Int32).toInt + 1 ∧ ¬ ((rB (Mf 1) (Mv 0) (sv_26 : Int32).toInt.toNat = 60 ∨ rB (Mf 1) (Mv 0) (sv_26 : Int32).toInt.toNat = 62) ∧ rB (Mf 1) (Mv 0) ((sv_26 : Int32).toInt.toNat + 1) = 61)) ∨ ((x_35 : Int32).toInt = (sv_26 : Int32).toInt + 2 ∧ (rB (Mf 1) (Mv 0) (sv_26 : Int32).toInt.toNat = 60 ∨ rB (Mf 1) (Mv 0) (sv_26 : Int32).toInt.toNat = 62) ∧ rB (Mf 1) (Mv 0) ((sv_26 : Int32).toInt.toNat + 1) = 61) := by
                  have z_1 : ¬ (r_13 : Int32).toInt = (0 : Int32).toInt := fun z => c_18 (Int32.toInt_inj.mp z)
                  have z_2 := congrArg Int32.toInt c_34
                  have z_3 := congrArg Int32.toInt c_36
                  have z_4 : ¬ (r_47 : Int32).toInt = (0 : Int32).toInt := fun z => c_52 (Int32.toInt_inj.mp z)
                  have z_5 := congrArg Int32.toInt c_53
                  have z_6 : ¬ (r_71 : Int32).toInt = (0 : Int32).toInt := fun z => c_76 (Int32.toInt_inj.mp z)
                  have y_0 : (0 : Int32).toInt = 0 := by decide
                  have y_60 : (60 : Int32).toInt = 60 := by decide
                  have y_61 : (61 : Int32).toInt = 61 := by decide
                  have y_1 : (1 : Int32).toInt = 1 := by decide
                  have t_x_35 : x_35.toInt = (sv_26 : Int32).toInt + (1 : Int32).toInt := by rw [ex_35]; exact add_toInt (by omega) (by omega)
                  omega
                have hr_100 : 0 ≤ (sv_7 : Int32).toInt ∧ (sv_7 : Int32).toInt < 60 ∧ (sv_45 : Int32).toInt = (sv_7 : Int32).toInt + 1 := by
                  have z_1 : ¬ (r_13 : Int32).toInt = (0 : Int32).toInt := fun z => c_18 (Int32.toInt_inj.mp z)
                  have z_2 := congrArg Int32.toInt c_34
                  have z_3 := congrArg Int32.toInt c_36
                  have z_4 : ¬ (r_47 : Int32).toInt = (0 : Int32).toInt := fun z => c_52 (Int32.toInt_inj.mp z)
                  have z_5 := congrArg Int32.toInt c_53
                  have z_6 : ¬ (r_71 : Int32).toInt = (0 : Int32).toInt := fun z => c_76 (Int32.toInt_inj.mp z)
                  have y_0 : (0 : Int32).toInt = 0 := by decide
                  have y_60 : (60 : Int32).toInt = 60 := by decide
                  have y_61 : (61 : Int32).toInt = 61 := by decide
                  omega
                exact ⟨pf_87, (RfO.com pf_20 pf_30 hr_97 hr_99 hr_100 pf_78)⟩
              exact retI (v := 1) hx hb hr hlk (rfl) hP hD hS (sv_62, sv_63, sv_64, sv_65, sv_85, sv_86) ⟨_, rfl, hp_95, ha_90, ha_91, (Agr.trans (k' := (400 * ((Mv 5) : Int32).toInt + ((Mf 3) (Mv 5).toNatClampNeg).toInt)) (Agr.trans (k' := (400 * ((Mv 5) : Int32).toInt + ((Mf 3) (Mv 5).toNatClampNeg).toInt)) (Agr.mono pf_12 hr_92) pf_70 ⟨Int.le_refl _, hr_93⟩) pf_88 ⟨Int.le_refl _, hr_94⟩), hm_96, (fun h => absurd h (by decide))⟩ [1, 0, 2, 3] rfl rfl dX12_compare_174 (Nat.le_of_ble_eq_true rfl) (Nat.le_of_ble_eq_true rfl) rfl
            · skip
              have hz_102 : (r_71 : Int32).toInt = 0 := by
                have z_1 : ¬ (r_13 : Int32).toInt = (0 : Int32).toInt := fun z => c_18 (Int32.toInt_inj.mp z)
                have z_2 := congrArg Int32.toInt c_34
                have z_3 := congrArg Int32.toInt c_36
                have z_4 : ¬ (r_47 : Int32).toInt = (0 : Int32).toInt := fun z => c_52 (Int32.toInt_inj.mp z)
                have z_5 := congrArg Int32.toInt c_53
                have z_6 := congrArg Int32.toInt c_76
                have y_0 : (0 : Int32).toInt = 0 := by decide
                have y_60 : (60 : Int32).toInt = 60 := by decide
                have y_61 : (61 : Int32).toInt = 61 := by decide
                omega
              obtain pf_101 := hm_75 hz_102
              have pf_101 : RfE (pz_sum (rB (Mf 1) (Mv 0)) (St0 (rB (Mf 1) (Mv 0)) x_35 sv_45)) sv_63 := pf_101
              refine lv_iconst (v := 0) hx hb dX12_compare_161 (by decide) ?_
              have ha_103 : ((Mv 2) : Int32).toInt ≤ (sv_62 : Int32).toInt ∧ (sv_62 : Int32).toInt ≤ ((Mv 0) : Int32).toInt := by
                have z_1 : ¬ (r_13 : Int32).toInt = (0 : Int32).toInt := fun z => c_18 (Int32.toInt_inj.mp z)
                have z_2 := congrArg Int32.toInt c_34
                have z_3 := congrArg Int32.toInt c_36
                have z_4 : ¬ (r_47 : Int32).toInt = (0 : Int32).toInt := fun z => c_52 (Int32.toInt_inj.mp z)
                have z_5 := congrArg Int32.toInt c_53
                have z_6 := congrArg Int32.toInt c_76
                have y_0 : (0 : Int32).toInt = 0 := by decide
                have y_60 : (60 : Int32).toInt = 60 := by decide
                have y_61 : (61 : Int32).toInt = 61 := by decide
                omega
              have ha_104 : ((Mv 6) : Int32).toInt ≤ (sv_65 : Int32).toInt ∧ (sv_65 : Int32).toInt ≤ 60 := by
                have z_1 : ¬ (r_13 : Int32).toInt = (0 : Int32).toInt := fun z => c_18 (Int32.toInt_inj.mp z)
                have z_2 := congrArg Int32.toInt c_34
                have z_3 := congrArg Int32.toInt c_36
                have z_4 : ¬ (r_47 : Int32).toInt = (0 : Int32).toInt := fun z => c_52 (Int32.toInt_inj.mp z)
                have z_5 := congrArg Int32.toInt c_53
                have z_6 := congrArg Int32.toInt c_76
                have y_0 : (0 : Int32).toInt = 0 := by decide
                have y_60 : (60 : Int32).toInt = 60 := by decide
                have y_61 : (61 : Int32).toInt = 61 := by decide
                omega
              have hr_105 : (400 * ((Mv 5) : Int32).toInt + ((Mf 3) (Mv 5).toNatClampNeg).toInt) ≤ (400 * ((Mv 5) : Int32).toInt + ((Mf 3) (Mv 5).toNatClampNeg).toInt) := by
                have z_1 : ¬ (r_13 : Int32).toInt = (0 : Int32).toInt := fun z => c_18 (Int32.toInt_inj.mp z)
                have z_2 := congrArg Int32.toInt c_34
                have z_3 := congrArg Int32.toInt c_36
                have z_4 : ¬ (r_47 : Int32).toInt = (0 : Int32).toInt := fun z => c_52 (Int32.toInt_inj.mp z)
                have z_5 := congrArg Int32.toInt c_53
                have z_6 := congrArg Int32.toInt c_76
                have y_0 : (0 : Int32).toInt = 0 := by decide
                have y_60 : (60 : Int32).toInt = 60 := by decide
                have y_61 : (61 : Int32).toInt = 61 := by decide
                omega
              have hr_106 : (400 * ((Mv 5) : Int32).toInt + ((Mf 3) (Mv 5).toNatClampNeg).toInt) ≤ (400 * ((Mv 5) : Int32).toInt + (sv_9 (Mv 5).toNatClampNeg).toInt) := by
                have z_1 : ¬ (r_13 : Int32).toInt = (0 : Int32).toInt := fun z => c_18 (Int32.toInt_inj.mp z)
                have z_2 := congrArg Int32.toInt c_34
                have z_3 := congrArg Int32.toInt c_36
                have z_4 : ¬ (r_47 : Int32).toInt = (0 : Int32).toInt := fun z => c_52 (Int32.toInt_inj.mp z)
                have z_5 := congrArg Int32.toInt c_53
                have z_6 := congrArg Int32.toInt c_76
                have y_0 : (0 : Int32).toInt = 0 := by decide
                have y_60 : (60 : Int32).toInt = 60 := by decide
                have y_61 : (61 : Int32).toInt = 61 := by decide
                omega
              have hp_107 : (((0 : Int32).toInt = 0 ∧ ¬ (sv_63 : Int32).toInt = 0) ∨ ((0 : Int32).toInt = 1 ∧ ((Mf 3) (Mv 5).toNatClampNeg).toInt + 1 ≤ (sv_67 (Mv 5).toNatClampNeg).toInt ∧ (sv_67 (Mv 5).toNatClampNeg).toInt + ((Mv 2) : Int32).toInt ≤ ((Mf 3) (Mv 5).toNatClampNeg).toInt + (sv_62 : Int32).toInt ∧ ((Mv 2) : Int32).toInt + 1 ≤ (sv_62 : Int32).toInt)) := by
                have z_1 : ¬ (r_13 : Int32).toInt = (0 : Int32).toInt := fun z => c_18 (Int32.toInt_inj.mp z)
                have z_2 := congrArg Int32.toInt c_34
                have z_3 := congrArg Int32.toInt c_36
                have z_4 : ¬ (r_47 : Int32).toInt = (0 : Int32).toInt := fun z => c_52 (Int32.toInt_inj.mp z)
                have z_5 := congrArg Int32.toInt c_53
                have z_6 := congrArg Int32.toInt c_76
                have y_0 : (0 : Int32).toInt = 0 := by decide
                have y_60 : (60 : Int32).toInt = 60 := by decide
                have y_61 : (61 : Int32).toInt = 61 := by decide
                omega
              have hm_108 : (0 : Int32).toInt = 0 → (RfE (pz_com (rB (Mf 1) (Mv 0)) (St0 (rB (Mf 1) (Mv 0)) (Mv 2) (Mv 6))) sv_63) := by
                intro h1r
                have hr_109 : (rB (Mf 1) (Mv 0) (sv_26 : Int32).toInt.toNat = 60 ∨ rB (Mf 1) (Mv 0) (sv_26 : Int32).toInt.toNat = 61 ∨ rB (Mf 1) (Mv 0) (sv_26 : Int32).toInt.toNat = 62) := by
                  have z_1 : ¬ (r_13 : Int32).toInt = (0 : Int32).toInt := fun z => c_18 (Int32.toInt_inj.mp z)
                  have z_2 := congrArg Int32.toInt c_34
                  have z_3 := congrArg Int32.toInt c_36
                  have z_4 : ¬ (r_47 : Int32).toInt = (0 : Int32).toInt := fun z => c_52 (Int32.toInt_inj.mp z)
                  have z_5 := congrArg Int32.toInt c_53
                  have z_6 := congrArg Int32.toInt c_76
                  have y_0 : (0 : Int32).toInt = 0 := by decide
                  have y_60 : (60 : Int32).toInt = 60 := by decide
                  have y_61 : (61 : Int32).toInt = 61 := by decide
                  omega
                have rg_110 := rB_rg (n := (Mv 0)) h_bs ((sv_26 : Int32).toInt.toNat + 1)
                have hr_111 : ((x_35 : Int32).toInt = (sv_26 : Int32).toInt + 1 ∧ ¬ ((rB (Mf 1) (Mv 0) (sv_26 : Int32).toInt.toNat = 60 ∨ rB (Mf 1) (Mv 0) (sv_26 : Int32).toInt.toNat = 62) ∧ rB (Mf 1) (Mv 0) ((sv_26 : Int32).toInt.toNat + 1) = 61)) ∨ ((x_35 : Int32).toInt = (sv_26 : Int32).toInt + 2 ∧ (rB (Mf 1) (Mv 0) (sv_26 : Int32).toInt.toNat = 60 ∨ rB (Mf 1) (Mv 0) (sv_26 : Int32).toInt.toNat = 62) ∧ rB (Mf 1) (Mv 0) ((sv_26 : Int32).toInt.toNat + 1) = 61) := by
                  have z_1 : ¬ (r_13 : Int32).toInt = (0 : Int32).toInt := fun z => c_18 (Int32.toInt_inj.mp z)
                  have z_2 := congrArg Int32.toInt c_34
                  have z_3 := congrArg Int32.toInt c_36
                  have z_4 : ¬ (r_47 : Int32).toInt = (0 : Int32).toInt := fun z => c_52 (Int32.toInt_inj.mp z)
                  have z_5 := congrArg Int32.toInt c_53
                  have z_6 := congrArg Int32.toInt c_76
                  have y_0 : (0 : Int32).toInt = 0 := by decide
                  have y_60 : (60 : Int32).toInt = 60 := by decide
                  have y_61 : (61 : Int32).toInt = 61 := by decide
                  have y_1 : (1 : Int32).toInt = 1 := by decide
                  have t_x_35 : x_35.toInt = (sv_26 : Int32).toInt + (1 : Int32).toInt := by rw [ex_35]; exact add_toInt (by omega) (by omega)
                  omega
                have hr_112 : 0 ≤ (sv_7 : Int32).toInt ∧ (sv_7 : Int32).toInt < 60 ∧ (sv_45 : Int32).toInt = (sv_7 : Int32).toInt + 1 := by
                  have z_1 : ¬ (r_13 : Int32).toInt = (0 : Int32).toInt := fun z => c_18 (Int32.toInt_inj.mp z)
                  have z_2 := congrArg Int32.toInt c_34
                  have z_3 := congrArg Int32.toInt c_36
                  have z_4 : ¬ (r_47 : Int32).toInt = (0 : Int32).toInt := fun z => c_52 (Int32.toInt_inj.mp z)
                  have z_5 := congrArg Int32.toInt c_53
                  have z_6 := congrArg Int32.toInt c_76
                  have y_0 : (0 : Int32).toInt = 0 := by decide
                  have y_60 : (60 : Int32).toInt = 60 := by decide
                  have y_61 : (61 : Int32).toInt = 61 := by decide
                  omega
                exact (RfE.com2 pf_20 pf_30 hr_109 hr_111 hr_112 pf_101)
              exact retI (v := 0) hx hb hr hlk (rfl) hP hD hS (sv_62, sv_63, sv_64, sv_65, sv_66, sv_67) ⟨_, rfl, hp_107, ha_103, ha_104, (Agr.trans (k' := (400 * ((Mv 5) : Int32).toInt + ((Mf 3) (Mv 5).toNatClampNeg).toInt)) (Agr.mono pf_12 hr_105) pf_70 ⟨Int.le_refl _, hr_106⟩), (fun h => absurd h (by decide)), hm_108⟩ [0, 1, 2, 3] rfl rfl dX12_compare_162 (Nat.le_of_ble_eq_true rfl) (Nat.le_of_ble_eq_true rfl) rfl
        · skip
          refine lv_iconst (v := 0) hx hb dX12_compare_113 (by decide) ?_
          have ha_113 : ((Mv 2) : Int32).toInt ≤ (x_35 : Int32).toInt ∧ (x_35 : Int32).toInt ≤ ((Mv 0) : Int32).toInt := by
            have z_1 : ¬ (r_13 : Int32).toInt = (0 : Int32).toInt := fun z => c_18 (Int32.toInt_inj.mp z)
            have z_2 := congrArg Int32.toInt c_34
            have z_3 := congrArg Int32.toInt c_36
            have z_4 := congrArg Int32.toInt c_52
            have y_0 : (0 : Int32).toInt = 0 := by decide
            have y_60 : (60 : Int32).toInt = 60 := by decide
            have y_61 : (61 : Int32).toInt = 61 := by decide
            have y_1 : (1 : Int32).toInt = 1 := by decide
            have t_x_35 : x_35.toInt = (sv_26 : Int32).toInt + (1 : Int32).toInt := by rw [ex_35]; exact add_toInt (by omega) (by omega)
            omega
          have ha_114 : ((Mv 6) : Int32).toInt ≤ (sv_45 : Int32).toInt ∧ (sv_45 : Int32).toInt ≤ 60 := by
            have z_1 : ¬ (r_13 : Int32).toInt = (0 : Int32).toInt := fun z => c_18 (Int32.toInt_inj.mp z)
            have z_2 := congrArg Int32.toInt c_34
            have z_3 := congrArg Int32.toInt c_36
            have z_4 := congrArg Int32.toInt c_52
            have y_0 : (0 : Int32).toInt = 0 := by decide
            have y_60 : (60 : Int32).toInt = 60 := by decide
            have y_61 : (61 : Int32).toInt = 61 := by decide
            omega
          have hp_115 : (((0 : Int32).toInt = 0 ∧ ¬ (sv_44 : Int32).toInt = 0) ∨ ((0 : Int32).toInt = 1 ∧ ((Mf 3) (Mv 5).toNatClampNeg).toInt + 1 ≤ (sv_9 (Mv 5).toNatClampNeg).toInt ∧ (sv_9 (Mv 5).toNatClampNeg).toInt + ((Mv 2) : Int32).toInt ≤ ((Mf 3) (Mv 5).toNatClampNeg).toInt + (x_35 : Int32).toInt ∧ ((Mv 2) : Int32).toInt + 1 ≤ (x_35 : Int32).toInt)) := by
            have z_1 : ¬ (r_13 : Int32).toInt = (0 : Int32).toInt := fun z => c_18 (Int32.toInt_inj.mp z)
            have z_2 := congrArg Int32.toInt c_34
            have z_3 := congrArg Int32.toInt c_36
            have z_4 := congrArg Int32.toInt c_52
            have y_0 : (0 : Int32).toInt = 0 := by decide
            have y_60 : (60 : Int32).toInt = 60 := by decide
            have y_61 : (61 : Int32).toInt = 61 := by decide
            have y_1 : (1 : Int32).toInt = 1 := by decide
            have t_x_35 : x_35.toInt = (sv_26 : Int32).toInt + (1 : Int32).toInt := by rw [ex_35]; exact add_toInt (by omega) (by omega)
            omega
          have hm_116 : (0 : Int32).toInt = 0 → (RfE (pz_com (rB (Mf 1) (Mv 0)) (St0 (rB (Mf 1) (Mv 0)) (Mv 2) (Mv 6))) sv_44) := by
            intro h1r
            have hr_117 : (rB (Mf 1) (Mv 0) (sv_26 : Int32).toInt.toNat = 60 ∨ rB (Mf 1) (Mv 0) (sv_26 : Int32).toInt.toNat = 61 ∨ rB (Mf 1) (Mv 0) (sv_26 : Int32).toInt.toNat = 62) := by
              have z_1 : ¬ (r_13 : Int32).toInt = (0 : Int32).toInt := fun z => c_18 (Int32.toInt_inj.mp z)
              have z_2 := congrArg Int32.toInt c_34
              have z_3 := congrArg Int32.toInt c_36
              have z_4 := congrArg Int32.toInt c_52
              have y_0 : (0 : Int32).toInt = 0 := by decide
              have y_60 : (60 : Int32).toInt = 60 := by decide
              have y_61 : (61 : Int32).toInt = 61 := by decide
              omega
            have hr_118 : 60 ≤ (sv_7 : Int32).toInt := by
              have z_1 : ¬ (r_13 : Int32).toInt = (0 : Int32).toInt := fun z => c_18 (Int32.toInt_inj.mp z)
              have z_2 := congrArg Int32.toInt c_34
              have z_3 := congrArg Int32.toInt c_36
              have z_4 := congrArg Int32.toInt c_52
              have y_0 : (0 : Int32).toInt = 0 := by decide
              have y_60 : (60 : Int32).toInt = 60 := by decide
              have y_61 : (61 : Int32).toInt = 61 := by decide
              omega
            have hi_119 : (sv_44 : Int32).toInt = 1 + 8 * (sv_26 : Int32).toInt + 3 := by
              have z_1 : ¬ (r_13 : Int32).toInt = (0 : Int32).toInt := fun z => c_18 (Int32.toInt_inj.mp z)
              have z_2 := congrArg Int32.toInt c_34
              have z_3 := congrArg Int32.toInt c_36
              have z_4 := congrArg Int32.toInt c_52
              have y_0 : (0 : Int32).toInt = 0 := by decide
              have y_60 : (60 : Int32).toInt = 60 := by decide
              have y_61 : (61 : Int32).toInt = 61 := by decide
              omega
            exact (RfE.com3 pf_20 pf_30 hr_117 hr_118 hi_119)
          exact retI (v := 0) hx hb hr hlk (rfl) hP hD hS (x_35, sv_44, sv_6, sv_45, sv_8, sv_9) ⟨_, rfl, hp_115, ha_113, ha_114, pf_12, (fun h => absurd h (by decide)), hm_116⟩ [3, 2, 0, 1] rfl rfl dX12_compare_114 (Nat.le_of_ble_eq_true rfl) (Nat.le_of_ble_eq_true rfl) rfl
      · skip
        refine lv_aload_n hx hb dX12_compare_60 rfl (lv_at hl 2 rfl) ?_
        refine gf_X12_87 hx hb hts hown hK hP 2 rfl rfl dX12_compare_61 ?_
        refine lv_aload_n hx hb dX12_compare_64 rfl (lv_at hl 2 rfl) ?_
        refine gf_X12_77 hx hb hts hown hK hP 2 rfl rfl dX12_compare_65 ?_
        refine lv_icmp_ge (tgt := 89) hx hb dX12_compare_68 (by decide) (fun c_120 => ?_) (fun c_120 => ?_)
        · skip
          refine lv_iconst (v := 0) hx hb dX12_compare_89 (by decide) ?_
          refine lv_istore_n (lv' := [(3, .int 0), (2, .int sv_26), (1, .int r_31), (0, .ref (Ma 0))]) hx hb dX12_compare_90 rfl hl (by decide) rfl (fun ls hl₀ => ?_)
          replace hl := hl₀
          clear hl₀
          refine lv_iload_n hx hb dX12_compare_91 rfl (lv_at hl 0 rfl) ?_
          refine lv_if_eq (tgt := 105) hx hb dX12_compare_92 (by decide) (fun c_121 => ?_) (fun c_121 => absurd c_121 (by decide))
          refine lv_aload_n hx hb dX12_compare_105 rfl (lv_at hl 3 rfl) ?_
          refine lv_iload_n hx hb dX12_compare_106 rfl (lv_at hl 1 rfl) ?_
          have ha_122 : 0 ≤ sv_26.toInt ∧ sv_26.toInt ≤ 400 := by
            have z_1 : ¬ (r_13 : Int32).toInt = (0 : Int32).toInt := fun z => c_18 (Int32.toInt_inj.mp z)
            have z_2 := congrArg Int32.toInt c_34
            have z_3 : ¬ (r_31 : Int32).toInt = (61 : Int32).toInt := fun z => c_36 (Int32.toInt_inj.mp z)
            have z_4 := Int32.le_iff_toInt_le.mp c_120
            have y_0 : (0 : Int32).toInt = 0 := by decide
            have y_60 : (60 : Int32).toInt = 60 := by decide
            have y_61 : (61 : Int32).toInt = 61 := by decide
            have y_1 : (1 : Int32).toInt = 1 := by decide
            have t_x_35 : x_35.toInt = (sv_26 : Int32).toInt + (1 : Int32).toInt := by rw [ex_35]; exact add_toInt (by omega) (by omega)
            omega
          have ha_123 : 0 ≤ (sv_7 : Int32).toInt ∧ (sv_7 : Int32).toInt ≤ 60 := by
            have z_1 : ¬ (r_13 : Int32).toInt = (0 : Int32).toInt := fun z => c_18 (Int32.toInt_inj.mp z)
            have z_2 := congrArg Int32.toInt c_34
            have z_3 : ¬ (r_31 : Int32).toInt = (61 : Int32).toInt := fun z => c_36 (Int32.toInt_inj.mp z)
            have z_4 := Int32.le_iff_toInt_le.mp c_120
            have y_0 : (0 : Int32).toInt = 0 := by decide
            have y_60 : (60 : Int32).toInt = 60 := by decide
            have y_61 : (61 : Int32).toInt = 61 := by decide
            have y_1 : (1 : Int32).toInt = 1 := by decide
            have t_x_35 : x_35.toInt = (sv_26 : Int32).toInt + (1 : Int32).toInt := by rw [ex_35]; exact add_toInt (by omega) (by omega)
            omega
          have ha_124 : (sv_5 : Int32).toInt = 0 := by
            have z_1 : ¬ (r_13 : Int32).toInt = (0 : Int32).toInt := fun z => c_18 (Int32.toInt_inj.mp z)
            have z_2 := congrArg Int32.toInt c_34
            have z_3 : ¬ (r_31 : Int32).toInt = (61 : Int32).toInt := fun z => c_36 (Int32.toInt_inj.mp z)
            have z_4 := Int32.le_iff_toInt_le.mp c_120
            have y_0 : (0 : Int32).toInt = 0 := by decide
            have y_60 : (60 : Int32).toInt = 60 := by decide
            have y_61 : (61 : Int32).toInt = 61 := by decide
            have y_1 : (1 : Int32).toInt = 1 := by decide
            have t_x_35 : x_35.toInt = (sv_26 : Int32).toInt + (1 : Int32).toInt := by rw [ex_35]; exact add_toInt (by omega) (by omega)
            omega
          refine cV (a := (Ma 0)) (As := [.int sv_26]) (rest := []) (wr := [((Ma 2), .inl (tc 0, 2400, .inl sv_8)), ((Ma 3), .inl (tc 0, 7, .inl sv_9)), ((Ma 1), .inl (tc 2, 400, .inl (Mf 1)))]) ⟨hx, hb, hml, hown, hts⟩ hK hX hA (cu_fX12_makes l D tc sk (Ma 0) (Ma 1) (Ma 2) (Ma 3) (Ma 4) (Ma 5) (Ma 6) (Ma 7) (Ma 8) (Ma 9) (Ma 10) (Ma 11) (Ma 12) (Ma 13) (Ma 14) (Ma 15) (Ma 16) (Ma 17) (Ma 18) (Ma 19) (Ma 20) (Mv 0) (Mv 1) x_35 sv_5 sv_6 (Mv 5) sv_7 (Mv 7) (Mv 8) (Mv 9) (Mv 10) (Mv 11) (Mv 12) (Mv 13) (Mv 14) (Mj 0) sv_26 ha_122 ha_123 ha_124) k_1292 k_1289 k_1291 k_45 k_106 pl_X12_makes ⟨Nat.le_of_ble_eq_true rfl, Nat.le_of_ble_eq_true rfl⟩ rfl rfl (va_recv hK hP (ci := 12) (q0 := 2) rfl rfl) hP hD hS [2] [0, 1, 3] rfl rfl rfl rfl rfl (by decide) rfl hl.1 rfl (Nat.le_of_ble_eq_true rfl) dX12_compare_107 ⟨Nat.le_of_ble_eq_true rfl, Nat.le_of_ble_eq_true rfl⟩ (fun v_125 u_126 H locs hv_127 hP₀ hD₀ hS₀ => ?_)
          obtain ⟨sv_128, sv_129⟩ := u_126
          obtain ⟨r_131, rfl, he_132, pf_130⟩ := hv_127
          have he_132 : ((r_131.toInt = 0 ∧ ¬ (sv_128 : Int32).toInt = 0 ∧ sv_7.toInt = 60 ∧ (sv_128 : Int32).toInt = 1 + 8 * sv_26.toInt + 3) ∨ (r_131.toInt = 1 ∧ (sv_129 : Int32).toInt = sv_7.toInt + 1 ∧ sv_7.toInt < 60 ∧ (sv_128 : Int32).toInt = 0)) := he_132
          have pf_130 : (sv_7 : Int32).toInt ≤ (sv_129 : Int32).toInt ∧ (sv_129 : Int32).toInt ≤ 60 := pf_130
          refine W.eq (g2 := F0 m 110 ls [.int r_131]) rfl ?_
          replace hP : va_P D classes [((Ma 2), .inl (tc 0, 2400, .inl sv_8)), ((Ma 3), .inl (tc 0, 7, .inl sv_9)), ((Ma 1), .inl (tc 2, 400, .inl (Mf 1))), ((Ma 0), .inr (12, [.ref (Ma 1), .int (Mv 0), .int (Mv 1), .ref (Ma 2), .ref (Ma 3), .ref (Ma 4), .ref (Ma 5), .ref (Ma 6), .int x_35, .int sv_128, .int sv_6, .int (Mv 5), .int sv_129, .int (Mv 7), .int (Mv 8), .ref (Ma 7), .int (Mv 9), .ref (Ma 8), .int (Mv 10), .ref (Ma 9), .ref (Ma 10), .int (Mv 11), .int (Mv 12), .int (Mv 13), .ref (Ma 11), .int (Mv 14), .ref (Ma 12), .ref (Ma 13), .ref (Ma 14), .ref (Ma 15), .ref (Ma 16), .long (Mj 0), .ref (Ma 17), .ref (Ma 18), .ref (Ma 19), .ref (Ma 20)]))] H := hP₀
          replace hD : va_D A [((Ma 2), .inl (tc 0, 2400, .inl sv_8)), ((Ma 3), .inl (tc 0, 7, .inl sv_9)), ((Ma 1), .inl (tc 2, 400, .inl (Mf 1))), ((Ma 0), .inr (12, [.ref (Ma 1), .int (Mv 0), .int (Mv 1), .ref (Ma 2), .ref (Ma 3), .ref (Ma 4), .ref (Ma 5), .ref (Ma 6), .int x_35, .int sv_128, .int sv_6, .int (Mv 5), .int sv_129, .int (Mv 7), .int (Mv 8), .ref (Ma 7), .int (Mv 9), .ref (Ma 8), .int (Mv 10), .ref (Ma 9), .ref (Ma 10), .int (Mv 11), .int (Mv 12), .int (Mv 13), .ref (Ma 11), .int (Mv 14), .ref (Ma 12), .ref (Ma 13), .ref (Ma 14), .ref (Ma 15), .ref (Ma 16), .long (Mj 0), .ref (Ma 17), .ref (Ma 18), .ref (Ma 19), .ref (Ma 20)]))] := hD₀
          replace hS := hS₀
          clear hP₀ hD₀ hS₀
          have hr_135 : (sv_7 : Int32).toInt ≤ (sv_129 : Int32).toInt ∧ (sv_129 : Int32).toInt ≤ 60 := by
            have z_1 : ¬ (r_13 : Int32).toInt = (0 : Int32).toInt := fun z => c_18 (Int32.toInt_inj.mp z)
            have z_2 := congrArg Int32.toInt c_34
            have z_3 : ¬ (r_31 : Int32).toInt = (61 : Int32).toInt := fun z => c_36 (Int32.toInt_inj.mp z)
            have z_4 := Int32.le_iff_toInt_le.mp c_120
            have y_0 : (0 : Int32).toInt = 0 := by decide
            have y_60 : (60 : Int32).toInt = 60 := by decide
            have y_61 : (61 : Int32).toInt = 61 := by decide
            have y_1 : (1 : Int32).toInt = 1 := by decide
            have t_x_35 : x_35.toInt = (sv_26 : Int32).toInt + (1 : Int32).toInt := by rw [ex_35]; exact add_toInt (by omega) (by omega)
            omega
          have pf_134 : Cd sv_8 sv_9 (Mv 5) b sv_129 (d + 1) := Cd.mono pf_19 hr_135
          have ar_pf_134 := Cd.ar pf_134
          refine lv_if_ne (tgt := 115) hx hb dX12_compare_110 (by decide) (fun c_136 => ?_) (fun c_136 => ?_)
          · skip
            refine lv_iload_n hx hb dX12_compare_115 rfl (lv_at hl 2 rfl) ?_
            refine lv_bipush (v := 60) hx hb dX12_compare_116 (by decide) ?_
            refine lv_icmp_ne (tgt := 133) hx hb dX12_compare_118 (by decide) (fun c_137 => ?_) (fun c_137 => ?_)
            · skip
              exfalso
              have z_1 : ¬ (r_13 : Int32).toInt = (0 : Int32).toInt := fun z => c_18 (Int32.toInt_inj.mp z)
              have z_2 := congrArg Int32.toInt c_34
              have z_3 : ¬ (r_31 : Int32).toInt = (61 : Int32).toInt := fun z => c_36 (Int32.toInt_inj.mp z)
              have z_4 := Int32.le_iff_toInt_le.mp c_120
              have z_5 : ¬ (r_131 : Int32).toInt = (0 : Int32).toInt := fun z => c_136 (Int32.toInt_inj.mp z)
              have z_6 : ¬ (r_31 : Int32).toInt = (60 : Int32).toInt := fun z => c_137 (Int32.toInt_inj.mp z)
              have y_0 : (0 : Int32).toInt = 0 := by decide
              have y_60 : (60 : Int32).toInt = 60 := by decide
              have y_61 : (61 : Int32).toInt = 61 := by decide
              have y_1 : (1 : Int32).toInt = 1 := by decide
              have t_x_35 : x_35.toInt = (sv_26 : Int32).toInt + (1 : Int32).toInt := by rw [ex_35]; exact add_toInt (by omega) (by omega)
              omega
            · skip
              refine lv_iload_n hx hb dX12_compare_121 rfl (lv_at hl 0 rfl) ?_
              refine lv_if_eq (tgt := 129) hx hb dX12_compare_122 (by decide) (fun c_138 => ?_) (fun c_138 => absurd c_138 (by decide))
              refine lv_iconst (v := 0) hx hb dX12_compare_129 (by decide) ?_
              refine lv_goto (tgt := 152) hx hb dX12_compare_130 (by decide) ?_
              refine lv_istore (lv' := [(4, .int 0), (3, .int 0), (2, .int sv_26), (1, .int r_31), (0, .ref (Ma 0))]) hx hb dX12_compare_152 hl (by decide) rfl (fun ls hl₀ => ?_)
              replace hl := hl₀
              clear hl₀
              refine lv_aload_n hx hb dX12_compare_154 rfl (lv_at hl 4 rfl) ?_
              have ha_139 : 0 ≤ (x_35 : Int32).toInt ∧ (x_35 : Int32).toInt ≤ ((Mv 0) : Int32).toInt ∧ ((Mv 0) : Int32).toInt ≤ 400 := by
                have z_1 : ¬ (r_13 : Int32).toInt = (0 : Int32).toInt := fun z => c_18 (Int32.toInt_inj.mp z)
                have z_2 := congrArg Int32.toInt c_34
                have z_3 : ¬ (r_31 : Int32).toInt = (61 : Int32).toInt := fun z => c_36 (Int32.toInt_inj.mp z)
                have z_4 := Int32.le_iff_toInt_le.mp c_120
                have z_5 : ¬ (r_131 : Int32).toInt = (0 : Int32).toInt := fun z => c_136 (Int32.toInt_inj.mp z)
                have z_6 := congrArg Int32.toInt c_137
                have y_0 : (0 : Int32).toInt = 0 := by decide
                have y_60 : (60 : Int32).toInt = 60 := by decide
                have y_61 : (61 : Int32).toInt = 61 := by decide
                have y_1 : (1 : Int32).toInt = 1 := by decide
                have t_x_35 : x_35.toInt = (sv_26 : Int32).toInt + (1 : Int32).toInt := by rw [ex_35]; exact add_toInt (by omega) (by omega)
                omega
              have ha_140 : (sv_9 (Mv 5).toNatClampNeg).toInt ≤ (x_35 : Int32).toInt := by
                have z_1 : ¬ (r_13 : Int32).toInt = (0 : Int32).toInt := fun z => c_18 (Int32.toInt_inj.mp z)
                have z_2 := congrArg Int32.toInt c_34
                have z_3 : ¬ (r_31 : Int32).toInt = (61 : Int32).toInt := fun z => c_36 (Int32.toInt_inj.mp z)
                have z_4 := Int32.le_iff_toInt_le.mp c_120
                have z_5 : ¬ (r_131 : Int32).toInt = (0 : Int32).toInt := fun z => c_136 (Int32.toInt_inj.mp z)
                have z_6 := congrArg Int32.toInt c_137
                have y_0 : (0 : Int32).toInt = 0 := by decide
                have y_60 : (60 : Int32).toInt = 60 := by decide
                have y_61 : (61 : Int32).toInt = 61 := by decide
                have y_1 : (1 : Int32).toInt = 1 := by decide
                have t_x_35 : x_35.toInt = (sv_26 : Int32).toInt + (1 : Int32).toInt := by rw [ex_35]; exact add_toInt (by omega) (by omega)
                omega
              have ha_141 : 0 ≤ (sv_129 : Int32).toInt ∧ (sv_129 : Int32).toInt ≤ 60 := by
                have z_1 : ¬ (r_13 : Int32).toInt = (0 : Int32).toInt := fun z => c_18 (Int32.toInt_inj.mp z)
                have z_2 := congrArg Int32.toInt c_34
                have z_3 : ¬ (r_31 : Int32).toInt = (61 : Int32).toInt := fun z => c_36 (Int32.toInt_inj.mp z)
                have z_4 := Int32.le_iff_toInt_le.mp c_120
                have z_5 : ¬ (r_131 : Int32).toInt = (0 : Int32).toInt := fun z => c_136 (Int32.toInt_inj.mp z)
                have z_6 := congrArg Int32.toInt c_137
                have y_0 : (0 : Int32).toInt = 0 := by decide
                have y_60 : (60 : Int32).toInt = 60 := by decide
                have y_61 : (61 : Int32).toInt = 61 := by decide
                have y_1 : (1 : Int32).toInt = 1 := by decide
                have t_x_35 : x_35.toInt = (sv_26 : Int32).toInt + (1 : Int32).toInt := by rw [ex_35]; exact add_toInt (by omega) (by omega)
                omega
              have ha_142 : (sv_128 : Int32).toInt = 0 := by
                have z_1 : ¬ (r_13 : Int32).toInt = (0 : Int32).toInt := fun z => c_18 (Int32.toInt_inj.mp z)
                have z_2 := congrArg Int32.toInt c_34
                have z_3 : ¬ (r_31 : Int32).toInt = (61 : Int32).toInt := fun z => c_36 (Int32.toInt_inj.mp z)
                have z_4 := Int32.le_iff_toInt_le.mp c_120
                have z_5 : ¬ (r_131 : Int32).toInt = (0 : Int32).toInt := fun z => c_136 (Int32.toInt_inj.mp z)
                have z_6 := congrArg Int32.toInt c_137
                have y_0 : (0 : Int32).toInt = 0 := by decide
                have y_60 : (60 : Int32).toInt = 60 := by decide
                have y_61 : (61 : Int32).toInt = 61 := by decide
                have y_1 : (1 : Int32).toInt = 1 := by decide
                have t_x_35 : x_35.toInt = (sv_26 : Int32).toInt + (1 : Int32).toInt := by rw [ex_35]; exact add_toInt (by omega) (by omega)
                omega
              refine cV (a := (Ma 0)) (As := []) (rest := []) (wr := []) ⟨hx, hb, hml, hown, hts⟩ hK hX hA (cu_fX12_sum l D tc sk (Ma 0) (Ma 1) (Ma 2) (Ma 3) (Ma 4) (Ma 5) (Ma 6) (Ma 7) (Ma 8) (Ma 9) (Ma 10) (Ma 11) (Ma 12) (Ma 13) (Ma 14) (Ma 15) (Ma 16) (Ma 17) (Ma 18) (Ma 19) (Ma 20) (Mv 0) (Mv 1) x_35 sv_128 sv_6 (Mv 5) sv_129 (Mv 7) (Mv 8) (Mv 9) (Mv 10) (Mv 11) (Mv 12) (Mv 13) (Mv 14) (Mf 1) sv_8 sv_9 (Mj 0) b (d + 1) ha_139 pf_134 ha_140 ha_141 h_bs ha_142) k_1279 k_1276 k_1278 k_42 k_106 pl_X12_sum ⟨Nat.le_of_ble_eq_true rfl, Nat.le_of_ble_eq_true rfl⟩ rfl rfl (va_recv hK hP (ci := 12) (q0 := 3) rfl rfl) hP hD hS [3, 2, 0, 1] [] rfl rfl rfl rfl rfl (by decide) rfl hl.1 rfl (Nat.le_of_ble_eq_true rfl) dX12_compare_155 ⟨Nat.le_of_ble_eq_true rfl, Nat.le_of_ble_eq_true rfl⟩ (fun v_143 u_144 H locs hv_145 hP₀ hD₀ hS₀ => ?_)
              obtain ⟨sv_146, sv_147, sv_148, sv_149, sv_150, sv_151⟩ := u_144
              obtain ⟨r_155, rfl, he_156, pf_152, pf_153, pf_154, hm_158, hm_159⟩ := hv_145
              have he_156 : ((r_155.toInt = 0 ∧ ¬ (sv_147 : Int32).toInt = 0) ∨ (r_155.toInt = 1 ∧ (sv_9 (Mv 5).toNatClampNeg).toInt + 1 ≤ (sv_151 (Mv 5).toNatClampNeg).toInt ∧ (sv_151 (Mv 5).toNatClampNeg).toInt + (x_35 : Int32).toInt ≤ (sv_9 (Mv 5).toNatClampNeg).toInt + (sv_146 : Int32).toInt ∧ (x_35 : Int32).toInt + 1 ≤ (sv_146 : Int32).toInt)) := he_156
              have pf_152 : (x_35 : Int32).toInt ≤ (sv_146 : Int32).toInt ∧ (sv_146 : Int32).toInt ≤ ((Mv 0) : Int32).toInt := pf_152
              have pf_153 : (sv_129 : Int32).toInt ≤ (sv_149 : Int32).toInt ∧ (sv_149 : Int32).toInt ≤ 60 := pf_153
              have pf_154 : Agr sv_8 sv_150 (400 * ((Mv 5) : Int32).toInt + (sv_9 (Mv 5).toNatClampNeg).toInt) := pf_154
              refine W.eq (g2 := F0 m 158 ls [.int r_155]) rfl ?_
              replace hP : va_P D classes [((Ma 0), .inr (12, [.ref (Ma 1), .int (Mv 0), .int (Mv 1), .ref (Ma 2), .ref (Ma 3), .ref (Ma 4), .ref (Ma 5), .ref (Ma 6), .int sv_146, .int sv_147, .int sv_148, .int (Mv 5), .int sv_149, .int (Mv 7), .int (Mv 8), .ref (Ma 7), .int (Mv 9), .ref (Ma 8), .int (Mv 10), .ref (Ma 9), .ref (Ma 10), .int (Mv 11), .int (Mv 12), .int (Mv 13), .ref (Ma 11), .int (Mv 14), .ref (Ma 12), .ref (Ma 13), .ref (Ma 14), .ref (Ma 15), .ref (Ma 16), .long (Mj 0), .ref (Ma 17), .ref (Ma 18), .ref (Ma 19), .ref (Ma 20)])), ((Ma 1), .inl (tc 2, 400, .inl (Mf 1))), ((Ma 2), .inl (tc 0, 2400, .inl sv_150)), ((Ma 3), .inl (tc 0, 7, .inl sv_151))] H := hP₀
              replace hD : va_D A [((Ma 0), .inr (12, [.ref (Ma 1), .int (Mv 0), .int (Mv 1), .ref (Ma 2), .ref (Ma 3), .ref (Ma 4), .ref (Ma 5), .ref (Ma 6), .int sv_146, .int sv_147, .int sv_148, .int (Mv 5), .int sv_149, .int (Mv 7), .int (Mv 8), .ref (Ma 7), .int (Mv 9), .ref (Ma 8), .int (Mv 10), .ref (Ma 9), .ref (Ma 10), .int (Mv 11), .int (Mv 12), .int (Mv 13), .ref (Ma 11), .int (Mv 14), .ref (Ma 12), .ref (Ma 13), .ref (Ma 14), .ref (Ma 15), .ref (Ma 16), .long (Mj 0), .ref (Ma 17), .ref (Ma 18), .ref (Ma 19), .ref (Ma 20)])), ((Ma 1), .inl (tc 2, 400, .inl (Mf 1))), ((Ma 2), .inl (tc 0, 2400, .inl sv_150)), ((Ma 3), .inl (tc 0, 7, .inl sv_151))] := hD₀
              replace hS := hS₀
              clear hP₀ hD₀ hS₀
              refine lv_if_ne (tgt := 163) hx hb dX12_compare_158 (by decide) (fun c_160 => ?_) (fun c_160 => ?_)
              · skip
                have hz_163 : (r_155 : Int32).toInt = 1 := by
                  have z_1 : ¬ (r_13 : Int32).toInt = (0 : Int32).toInt := fun z => c_18 (Int32.toInt_inj.mp z)
                  have z_2 := congrArg Int32.toInt c_34
                  have z_3 : ¬ (r_31 : Int32).toInt = (61 : Int32).toInt := fun z => c_36 (Int32.toInt_inj.mp z)
                  have z_4 := Int32.le_iff_toInt_le.mp c_120
                  have z_5 : ¬ (r_131 : Int32).toInt = (0 : Int32).toInt := fun z => c_136 (Int32.toInt_inj.mp z)
                  have z_6 := congrArg Int32.toInt c_137
                  have z_7 : ¬ (r_155 : Int32).toInt = (0 : Int32).toInt := fun z => c_160 (Int32.toInt_inj.mp z)
                  have y_0 : (0 : Int32).toInt = 0 := by decide
                  have y_60 : (60 : Int32).toInt = 60 := by decide
                  have y_61 : (61 : Int32).toInt = 61 := by decide
                  have y_1 : (1 : Int32).toInt = 1 := by decide
                  have t_x_35 : x_35.toInt = (sv_26 : Int32).toInt + (1 : Int32).toInt := by rw [ex_35]; exact add_toInt (by omega) (by omega)
                  omega
                obtain ⟨pf_161, pf_162⟩ := hm_158 hz_163
                have pf_161 : Cd sv_150 sv_151 (Mv 5) b sv_149 ((d + 1) + 1) := pf_161
                have ar_pf_161 := Cd.ar pf_161
                have pf_162 : RfO (pz_sum (rB (Mf 1) (Mv 0)) (St0 (rB (Mf 1) (Mv 0)) x_35 sv_129)) (rB (Mf 1) (Mv 0)) sv_147 sv_146 sv_149 := pf_162
                have ar_pf_162 := RfO.wr pf_162
                refine lv_aload_n hx hb dX12_compare_163 rfl (lv_at hl 4 rfl) ?_
                refine lv_bipush (v := 6) hx hb dX12_compare_164 (by decide) ?_
                refine lv_iload hx hb dX12_compare_166 (lv_at hl 0 rfl) ?_
                refine lv_iadd hx hb dX12_compare_168 ?_
                refine lv_lit (v := 6) (by decide) ?_
                refine lv_iconst (v := 0) hx hb dX12_compare_169 (by decide) ?_
                have ha_164 : ((d + 1) : Int) ≤ sv_149.toInt := by
                  have z_1 : ¬ (r_13 : Int32).toInt = (0 : Int32).toInt := fun z => c_18 (Int32.toInt_inj.mp z)
                  have z_2 := congrArg Int32.toInt c_34
                  have z_3 : ¬ (r_31 : Int32).toInt = (61 : Int32).toInt := fun z => c_36 (Int32.toInt_inj.mp z)
                  have z_4 := Int32.le_iff_toInt_le.mp c_120
                  have z_5 : ¬ (r_131 : Int32).toInt = (0 : Int32).toInt := fun z => c_136 (Int32.toInt_inj.mp z)
                  have z_6 := congrArg Int32.toInt c_137
                  have z_7 : ¬ (r_155 : Int32).toInt = (0 : Int32).toInt := fun z => c_160 (Int32.toInt_inj.mp z)
                  have y_0 : (0 : Int32).toInt = 0 := by decide
                  have y_60 : (60 : Int32).toInt = 60 := by decide
                  have y_61 : (61 : Int32).toInt = 61 := by decide
                  have y_1 : (1 : Int32).toInt = 1 := by decide
                  have t_x_35 : x_35.toInt = (sv_26 : Int32).toInt + (1 : Int32).toInt := by rw [ex_35]; exact add_toInt (by omega) (by omega)
                  omega
                have ha_165 : (sv_151 (Mv 5).toNatClampNeg).toInt < 400 := by
                  have z_1 : ¬ (r_13 : Int32).toInt = (0 : Int32).toInt := fun z => c_18 (Int32.toInt_inj.mp z)
                  have z_2 := congrArg Int32.toInt c_34
                  have z_3 : ¬ (r_31 : Int32).toInt = (61 : Int32).toInt := fun z => c_36 (Int32.toInt_inj.mp z)
                  have z_4 := Int32.le_iff_toInt_le.mp c_120
                  have z_5 : ¬ (r_131 : Int32).toInt = (0 : Int32).toInt := fun z => c_136 (Int32.toInt_inj.mp z)
                  have z_6 := congrArg Int32.toInt c_137
                  have z_7 : ¬ (r_155 : Int32).toInt = (0 : Int32).toInt := fun z => c_160 (Int32.toInt_inj.mp z)
                  have y_0 : (0 : Int32).toInt = 0 := by decide
                  have y_60 : (60 : Int32).toInt = 60 := by decide
                  have y_61 : (61 : Int32).toInt = 61 := by decide
                  have y_1 : (1 : Int32).toInt = 1 := by decide
                  have t_x_35 : x_35.toInt = (sv_26 : Int32).toInt + (1 : Int32).toInt := by rw [ex_35]; exact add_toInt (by omega) (by omega)
                  omega
                refine cV (a := (Ma 0)) (As := [.int 6, .int 0]) (rest := []) (wr := [((Ma 1), .inl (tc 2, 400, .inl (Mf 1)))]) ⟨hx, hb, hml, hown, hts⟩ hK hX hA (cu_X12_puts l D tc sk (Ma 0) (Ma 1) (Ma 2) (Ma 3) (Ma 4) (Ma 5) (Ma 6) (Ma 7) (Ma 8) (Ma 9) (Ma 10) (Ma 11) (Ma 12) (Ma 13) (Ma 14) (Ma 15) (Ma 16) (Ma 17) (Ma 18) (Ma 19) (Ma 20) (Mv 0) (Mv 1) sv_146 sv_147 sv_148 (Mv 5) sv_149 (Mv 7) (Mv 8) (Mv 9) (Mv 10) (Mv 11) (Mv 12) (Mv 13) (Mv 14) sv_150 sv_151 (Mj 0) 6 0 b sv_149 ((d + 1) + 1) (d + 1) pf_161 (StpR.op (by decide) rfl (by omega)) ha_164 ha_165) k_1296 k_1293 k_1295 k_46 k_106 pl_X12_puts ⟨Nat.le_of_ble_eq_true rfl, Nat.le_of_ble_eq_true rfl⟩ rfl rfl (va_recv hK hP (ci := 12) (q0 := 0) rfl rfl) hP hD hS [0, 2, 3] [1] rfl rfl rfl rfl rfl (by decide) rfl hl.1 rfl (Nat.le_of_ble_eq_true rfl) dX12_compare_170 ⟨Nat.le_of_ble_eq_true rfl, Nat.le_of_ble_eq_true rfl⟩ (fun v_166 u_167 H locs hv_168 hP₀ hD₀ hS₀ => ?_)
                obtain ⟨sv_169, sv_170⟩ := u_167
                obtain ⟨rfl, pf_171, pf_172, pf_173⟩ := hv_168
                have pf_171 : Cd sv_169 sv_170 (Mv 5) b sv_149 (d + 1) := pf_171
                have ar_pf_171 := Cd.ar pf_171
                have pf_172 : Agr sv_150 sv_169 (400 * ((Mv 5) : Int32).toInt + (sv_151 (Mv 5).toNatClampNeg).toInt) := pf_172
                have pf_173 : (sv_170 (Mv 5).toNatClampNeg).toInt = (sv_151 (Mv 5).toNatClampNeg).toInt + 1 := pf_173
                refine W.eq (g2 := F0 m 173 ls []) rfl ?_
                replace hP : va_P D classes [((Ma 1), .inl (tc 2, 400, .inl (Mf 1))), ((Ma 0), .inr (12, [.ref (Ma 1), .int (Mv 0), .int (Mv 1), .ref (Ma 2), .ref (Ma 3), .ref (Ma 4), .ref (Ma 5), .ref (Ma 6), .int sv_146, .int sv_147, .int sv_148, .int (Mv 5), .int sv_149, .int (Mv 7), .int (Mv 8), .ref (Ma 7), .int (Mv 9), .ref (Ma 8), .int (Mv 10), .ref (Ma 9), .ref (Ma 10), .int (Mv 11), .int (Mv 12), .int (Mv 13), .ref (Ma 11), .int (Mv 14), .ref (Ma 12), .ref (Ma 13), .ref (Ma 14), .ref (Ma 15), .ref (Ma 16), .long (Mj 0), .ref (Ma 17), .ref (Ma 18), .ref (Ma 19), .ref (Ma 20)])), ((Ma 2), .inl (tc 0, 2400, .inl sv_169)), ((Ma 3), .inl (tc 0, 7, .inl sv_170))] H := hP₀
                replace hD : va_D A [((Ma 1), .inl (tc 2, 400, .inl (Mf 1))), ((Ma 0), .inr (12, [.ref (Ma 1), .int (Mv 0), .int (Mv 1), .ref (Ma 2), .ref (Ma 3), .ref (Ma 4), .ref (Ma 5), .ref (Ma 6), .int sv_146, .int sv_147, .int sv_148, .int (Mv 5), .int sv_149, .int (Mv 7), .int (Mv 8), .ref (Ma 7), .int (Mv 9), .ref (Ma 8), .int (Mv 10), .ref (Ma 9), .ref (Ma 10), .int (Mv 11), .int (Mv 12), .int (Mv 13), .ref (Ma 11), .int (Mv 14), .ref (Ma 12), .ref (Ma 13), .ref (Ma 14), .ref (Ma 15), .ref (Ma 16), .long (Mj 0), .ref (Ma 17), .ref (Ma 18), .ref (Ma 19), .ref (Ma 20)])), ((Ma 2), .inl (tc 0, 2400, .inl sv_169)), ((Ma 3), .inl (tc 0, 7, .inl sv_170))] := hD₀
                replace hS := hS₀
                clear hP₀ hD₀ hS₀
                refine lv_iconst (v := 1) hx hb dX12_compare_173 (by decide) ?_
                have ha_174 : ((Mv 2) : Int32).toInt ≤ (sv_146 : Int32).toInt ∧ (sv_146 : Int32).toInt ≤ ((Mv 0) : Int32).toInt := by
                  have z_1 : ¬ (r_13 : Int32).toInt = (0 : Int32).toInt := fun z => c_18 (Int32.toInt_inj.mp z)
                  have z_2 := congrArg Int32.toInt c_34
                  have z_3 : ¬ (r_31 : Int32).toInt = (61 : Int32).toInt := fun z => c_36 (Int32.toInt_inj.mp z)
                  have z_4 := Int32.le_iff_toInt_le.mp c_120
                  have z_5 : ¬ (r_131 : Int32).toInt = (0 : Int32).toInt := fun z => c_136 (Int32.toInt_inj.mp z)
                  have z_6 := congrArg Int32.toInt c_137
                  have z_7 : ¬ (r_155 : Int32).toInt = (0 : Int32).toInt := fun z => c_160 (Int32.toInt_inj.mp z)
                  have y_0 : (0 : Int32).toInt = 0 := by decide
                  have y_60 : (60 : Int32).toInt = 60 := by decide
                  have y_61 : (61 : Int32).toInt = 61 := by decide
                  have y_1 : (1 : Int32).toInt = 1 := by decide
                  have t_x_35 : x_35.toInt = (sv_26 : Int32).toInt + (1 : Int32).toInt := by rw [ex_35]; exact add_toInt (by omega) (by omega)
                  omega
                have ha_175 : ((Mv 6) : Int32).toInt ≤ (sv_149 : Int32).toInt ∧ (sv_149 : Int32).toInt ≤ 60 := by
                  have z_1 : ¬ (r_13 : Int32).toInt = (0 : Int32).toInt := fun z => c_18 (Int32.toInt_inj.mp z)
                  have z_2 := congrArg Int32.toInt c_34
                  have z_3 : ¬ (r_31 : Int32).toInt = (61 : Int32).toInt := fun z => c_36 (Int32.toInt_inj.mp z)
                  have z_4 := Int32.le_iff_toInt_le.mp c_120
                  have z_5 : ¬ (r_131 : Int32).toInt = (0 : Int32).toInt := fun z => c_136 (Int32.toInt_inj.mp z)
                  have z_6 := congrArg Int32.toInt c_137
                  have z_7 : ¬ (r_155 : Int32).toInt = (0 : Int32).toInt := fun z => c_160 (Int32.toInt_inj.mp z)
                  have y_0 : (0 : Int32).toInt = 0 := by decide
                  have y_60 : (60 : Int32).toInt = 60 := by decide
                  have y_61 : (61 : Int32).toInt = 61 := by decide
                  have y_1 : (1 : Int32).toInt = 1 := by decide
                  have t_x_35 : x_35.toInt = (sv_26 : Int32).toInt + (1 : Int32).toInt := by rw [ex_35]; exact add_toInt (by omega) (by omega)
                  omega
                have hr_176 : (400 * ((Mv 5) : Int32).toInt + ((Mf 3) (Mv 5).toNatClampNeg).toInt) ≤ (400 * ((Mv 5) : Int32).toInt + ((Mf 3) (Mv 5).toNatClampNeg).toInt) := by
                  have z_1 : ¬ (r_13 : Int32).toInt = (0 : Int32).toInt := fun z => c_18 (Int32.toInt_inj.mp z)
                  have z_2 := congrArg Int32.toInt c_34
                  have z_3 : ¬ (r_31 : Int32).toInt = (61 : Int32).toInt := fun z => c_36 (Int32.toInt_inj.mp z)
                  have z_4 := Int32.le_iff_toInt_le.mp c_120
                  have z_5 : ¬ (r_131 : Int32).toInt = (0 : Int32).toInt := fun z => c_136 (Int32.toInt_inj.mp z)
                  have z_6 := congrArg Int32.toInt c_137
                  have z_7 : ¬ (r_155 : Int32).toInt = (0 : Int32).toInt := fun z => c_160 (Int32.toInt_inj.mp z)
                  have y_0 : (0 : Int32).toInt = 0 := by decide
                  have y_60 : (60 : Int32).toInt = 60 := by decide
                  have y_61 : (61 : Int32).toInt = 61 := by decide
                  have y_1 : (1 : Int32).toInt = 1 := by decide
                  have t_x_35 : x_35.toInt = (sv_26 : Int32).toInt + (1 : Int32).toInt := by rw [ex_35]; exact add_toInt (by omega) (by omega)
                  omega
                have hr_177 : (400 * ((Mv 5) : Int32).toInt + ((Mf 3) (Mv 5).toNatClampNeg).toInt) ≤ (400 * ((Mv 5) : Int32).toInt + (sv_9 (Mv 5).toNatClampNeg).toInt) := by
                  have z_1 : ¬ (r_13 : Int32).toInt = (0 : Int32).toInt := fun z => c_18 (Int32.toInt_inj.mp z)
                  have z_2 := congrArg Int32.toInt c_34
                  have z_3 : ¬ (r_31 : Int32).toInt = (61 : Int32).toInt := fun z => c_36 (Int32.toInt_inj.mp z)
                  have z_4 := Int32.le_iff_toInt_le.mp c_120
                  have z_5 : ¬ (r_131 : Int32).toInt = (0 : Int32).toInt := fun z => c_136 (Int32.toInt_inj.mp z)
                  have z_6 := congrArg Int32.toInt c_137
                  have z_7 : ¬ (r_155 : Int32).toInt = (0 : Int32).toInt := fun z => c_160 (Int32.toInt_inj.mp z)
                  have y_0 : (0 : Int32).toInt = 0 := by decide
                  have y_60 : (60 : Int32).toInt = 60 := by decide
                  have y_61 : (61 : Int32).toInt = 61 := by decide
                  have y_1 : (1 : Int32).toInt = 1 := by decide
                  have t_x_35 : x_35.toInt = (sv_26 : Int32).toInt + (1 : Int32).toInt := by rw [ex_35]; exact add_toInt (by omega) (by omega)
                  omega
                have hr_178 : (400 * ((Mv 5) : Int32).toInt + ((Mf 3) (Mv 5).toNatClampNeg).toInt) ≤ (400 * ((Mv 5) : Int32).toInt + (sv_151 (Mv 5).toNatClampNeg).toInt) := by
                  have z_1 : ¬ (r_13 : Int32).toInt = (0 : Int32).toInt := fun z => c_18 (Int32.toInt_inj.mp z)
                  have z_2 := congrArg Int32.toInt c_34
                  have z_3 : ¬ (r_31 : Int32).toInt = (61 : Int32).toInt := fun z => c_36 (Int32.toInt_inj.mp z)
                  have z_4 := Int32.le_iff_toInt_le.mp c_120
                  have z_5 : ¬ (r_131 : Int32).toInt = (0 : Int32).toInt := fun z => c_136 (Int32.toInt_inj.mp z)
                  have z_6 := congrArg Int32.toInt c_137
                  have z_7 : ¬ (r_155 : Int32).toInt = (0 : Int32).toInt := fun z => c_160 (Int32.toInt_inj.mp z)
                  have y_0 : (0 : Int32).toInt = 0 := by decide
                  have y_60 : (60 : Int32).toInt = 60 := by decide
                  have y_61 : (61 : Int32).toInt = 61 := by decide
                  have y_1 : (1 : Int32).toInt = 1 := by decide
                  have t_x_35 : x_35.toInt = (sv_26 : Int32).toInt + (1 : Int32).toInt := by rw [ex_35]; exact add_toInt (by omega) (by omega)
                  omega
                have hp_179 : (((1 : Int32).toInt = 0 ∧ ¬ (sv_147 : Int32).toInt = 0) ∨ ((1 : Int32).toInt = 1 ∧ ((Mf 3) (Mv 5).toNatClampNeg).toInt + 1 ≤ (sv_170 (Mv 5).toNatClampNeg).toInt ∧ (sv_170 (Mv 5).toNatClampNeg).toInt + ((Mv 2) : Int32).toInt ≤ ((Mf 3) (Mv 5).toNatClampNeg).toInt + (sv_146 : Int32).toInt ∧ ((Mv 2) : Int32).toInt + 1 ≤ (sv_146 : Int32).toInt)) := by
                  have z_1 : ¬ (r_13 : Int32).toInt = (0 : Int32).toInt := fun z => c_18 (Int32.toInt_inj.mp z)
                  have z_2 := congrArg Int32.toInt c_34
                  have z_3 : ¬ (r_31 : Int32).toInt = (61 : Int32).toInt := fun z => c_36 (Int32.toInt_inj.mp z)
                  have z_4 := Int32.le_iff_toInt_le.mp c_120
                  have z_5 : ¬ (r_131 : Int32).toInt = (0 : Int32).toInt := fun z => c_136 (Int32.toInt_inj.mp z)
                  have z_6 := congrArg Int32.toInt c_137
                  have z_7 : ¬ (r_155 : Int32).toInt = (0 : Int32).toInt := fun z => c_160 (Int32.toInt_inj.mp z)
                  have y_0 : (0 : Int32).toInt = 0 := by decide
                  have y_60 : (60 : Int32).toInt = 60 := by decide
                  have y_61 : (61 : Int32).toInt = 61 := by decide
                  have y_1 : (1 : Int32).toInt = 1 := by decide
                  have t_x_35 : x_35.toInt = (sv_26 : Int32).toInt + (1 : Int32).toInt := by rw [ex_35]; exact add_toInt (by omega) (by omega)
                  have yr : (1 : Int32).toInt = 1 := by decide
                  omega
                have hm_180 : (1 : Int32).toInt = 1 → (Cd sv_169 sv_170 (Mv 5) b sv_149 (d + 1)) ∧ (RfO (pz_com (rB (Mf 1) (Mv 0)) (St0 (rB (Mf 1) (Mv 0)) (Mv 2) (Mv 6))) (rB (Mf 1) (Mv 0)) sv_147 sv_146 sv_149) := by
                  intro h1r
                  have hr_181 : (rB (Mf 1) (Mv 0) (sv_26 : Int32).toInt.toNat = 60 ∨ rB (Mf 1) (Mv 0) (sv_26 : Int32).toInt.toNat = 61 ∨ rB (Mf 1) (Mv 0) (sv_26 : Int32).toInt.toNat = 62) := by
                    have z_1 : ¬ (r_13 : Int32).toInt = (0 : Int32).toInt := fun z => c_18 (Int32.toInt_inj.mp z)
                    have z_2 := congrArg Int32.toInt c_34
                    have z_3 : ¬ (r_31 : Int32).toInt = (61 : Int32).toInt := fun z => c_36 (Int32.toInt_inj.mp z)
                    have z_4 := Int32.le_iff_toInt_le.mp c_120
                    have z_5 : ¬ (r_131 : Int32).toInt = (0 : Int32).toInt := fun z => c_136 (Int32.toInt_inj.mp z)
                    have z_6 := congrArg Int32.toInt c_137
                    have z_7 : ¬ (r_155 : Int32).toInt = (0 : Int32).toInt := fun z => c_160 (Int32.toInt_inj.mp z)
                    have y_0 : (0 : Int32).toInt = 0 := by decide
                    have y_60 : (60 : Int32).toInt = 60 := by decide
                    have y_61 : (61 : Int32).toInt = 61 := by decide
                    have y_1 : (1 : Int32).toInt = 1 := by decide
                    have t_x_35 : x_35.toInt = (sv_26 : Int32).toInt + (1 : Int32).toInt := by rw [ex_35]; exact add_toInt (by omega) (by omega)
                    omega
                  have rg_182 := rB_rg (n := (Mv 0)) h_bs ((sv_26 : Int32).toInt.toNat + 1)
                  have hr_183 : ((x_35 : Int32).toInt = (sv_26 : Int32).toInt + 1 ∧ ¬ ((rB (Mf 1) (Mv 0) (sv_26 : Int32).toInt.toNat = 60 ∨ rB (Mf 1) (Mv 0) (sv_26 : Int32).toInt.toNat = 62) ∧ rB (Mf 1) (Mv 0) ((sv_26 : Int32).toInt.toNat + 1) = 61)) ∨ ((x_35 : Int32).toInt = (sv_26 : Int32).toInt + 2 ∧ (rB (Mf 1) (Mv 0) (sv_26 : Int32).toInt.toNat = 60 ∨ rB (Mf 1) (Mv 0) (sv_26 : Int32).toInt.toNat = 62) ∧ rB (Mf 1) (Mv 0) ((sv_26 : Int32).toInt.toNat + 1) = 61) := by
                    have z_1 : ¬ (r_13 : Int32).toInt = (0 : Int32).toInt := fun z => c_18 (Int32.toInt_inj.mp z)
                    have z_2 := congrArg Int32.toInt c_34
                    have z_3 : ¬ (r_31 : Int32).toInt = (61 : Int32).toInt := fun z => c_36 (Int32.toInt_inj.mp z)
                    have z_4 := Int32.le_iff_toInt_le.mp c_120
                    have z_5 : ¬ (r_131 : Int32).toInt = (0 : Int32).toInt := fun z => c_136 (Int32.toInt_inj.mp z)
                    have z_6 := congrArg Int32.toInt c_137
                    have z_7 : ¬ (r_155 : Int32).toInt = (0 : Int32).toInt := fun z => c_160 (Int32.toInt_inj.mp z)
                    have y_0 : (0 : Int32).toInt = 0 := by decide
                    have y_60 : (60 : Int32).toInt = 60 := by decide
                    have y_61 : (61 : Int32).toInt = 61 := by decide
                    have y_1 : (1 : Int32).toInt = 1 := by decide
                    have t_x_35 : x_35.toInt = (sv_26 : Int32).toInt + (1 : Int32).toInt := by rw [ex_35]; exact add_toInt (by omega) (by omega)
                    omega
                  have hr_184 : 0 ≤ (sv_7 : Int32).toInt ∧ (sv_7 : Int32).toInt < 60 ∧ (sv_129 : Int32).toInt = (sv_7 : Int32).toInt + 1 := by
                    have z_1 : ¬ (r_13 : Int32).toInt = (0 : Int32).toInt := fun z => c_18 (Int32.toInt_inj.mp z)
                    have z_2 := congrArg Int32.toInt c_34
                    have z_3 : ¬ (r_31 : Int32).toInt = (61 : Int32).toInt := fun z => c_36 (Int32.toInt_inj.mp z)
                    have z_4 := Int32.le_iff_toInt_le.mp c_120
                    have z_5 : ¬ (r_131 : Int32).toInt = (0 : Int32).toInt := fun z => c_136 (Int32.toInt_inj.mp z)
                    have z_6 := congrArg Int32.toInt c_137
                    have z_7 : ¬ (r_155 : Int32).toInt = (0 : Int32).toInt := fun z => c_160 (Int32.toInt_inj.mp z)
                    have y_0 : (0 : Int32).toInt = 0 := by decide
                    have y_60 : (60 : Int32).toInt = 60 := by decide
                    have y_61 : (61 : Int32).toInt = 61 := by decide
                    have y_1 : (1 : Int32).toInt = 1 := by decide
                    have t_x_35 : x_35.toInt = (sv_26 : Int32).toInt + (1 : Int32).toInt := by rw [ex_35]; exact add_toInt (by omega) (by omega)
                    omega
                  exact ⟨pf_171, (RfO.com pf_20 pf_30 hr_181 hr_183 hr_184 pf_162)⟩
                exact retI (v := 1) hx hb hr hlk (rfl) hP hD hS (sv_146, sv_147, sv_148, sv_149, sv_169, sv_170) ⟨_, rfl, hp_179, ha_174, ha_175, (Agr.trans (k' := (400 * ((Mv 5) : Int32).toInt + ((Mf 3) (Mv 5).toNatClampNeg).toInt)) (Agr.trans (k' := (400 * ((Mv 5) : Int32).toInt + ((Mf 3) (Mv 5).toNatClampNeg).toInt)) (Agr.mono pf_12 hr_176) pf_154 ⟨Int.le_refl _, hr_177⟩) pf_172 ⟨Int.le_refl _, hr_178⟩), hm_180, (fun h => absurd h (by decide))⟩ [1, 0, 2, 3] rfl rfl dX12_compare_174 (Nat.le_of_ble_eq_true rfl) (Nat.le_of_ble_eq_true rfl) rfl
              · skip
                have hz_186 : (r_155 : Int32).toInt = 0 := by
                  have z_1 : ¬ (r_13 : Int32).toInt = (0 : Int32).toInt := fun z => c_18 (Int32.toInt_inj.mp z)
                  have z_2 := congrArg Int32.toInt c_34
                  have z_3 : ¬ (r_31 : Int32).toInt = (61 : Int32).toInt := fun z => c_36 (Int32.toInt_inj.mp z)
                  have z_4 := Int32.le_iff_toInt_le.mp c_120
                  have z_5 : ¬ (r_131 : Int32).toInt = (0 : Int32).toInt := fun z => c_136 (Int32.toInt_inj.mp z)
                  have z_6 := congrArg Int32.toInt c_137
                  have z_7 := congrArg Int32.toInt c_160
                  have y_0 : (0 : Int32).toInt = 0 := by decide
                  have y_60 : (60 : Int32).toInt = 60 := by decide
                  have y_61 : (61 : Int32).toInt = 61 := by decide
                  have y_1 : (1 : Int32).toInt = 1 := by decide
                  have t_x_35 : x_35.toInt = (sv_26 : Int32).toInt + (1 : Int32).toInt := by rw [ex_35]; exact add_toInt (by omega) (by omega)
                  omega
                obtain pf_185 := hm_159 hz_186
                have pf_185 : RfE (pz_sum (rB (Mf 1) (Mv 0)) (St0 (rB (Mf 1) (Mv 0)) x_35 sv_129)) sv_147 := pf_185
                refine lv_iconst (v := 0) hx hb dX12_compare_161 (by decide) ?_
                have ha_187 : ((Mv 2) : Int32).toInt ≤ (sv_146 : Int32).toInt ∧ (sv_146 : Int32).toInt ≤ ((Mv 0) : Int32).toInt := by
                  have z_1 : ¬ (r_13 : Int32).toInt = (0 : Int32).toInt := fun z => c_18 (Int32.toInt_inj.mp z)
                  have z_2 := congrArg Int32.toInt c_34
                  have z_3 : ¬ (r_31 : Int32).toInt = (61 : Int32).toInt := fun z => c_36 (Int32.toInt_inj.mp z)
                  have z_4 := Int32.le_iff_toInt_le.mp c_120
                  have z_5 : ¬ (r_131 : Int32).toInt = (0 : Int32).toInt := fun z => c_136 (Int32.toInt_inj.mp z)
                  have z_6 := congrArg Int32.toInt c_137
                  have z_7 := congrArg Int32.toInt c_160
                  have y_0 : (0 : Int32).toInt = 0 := by decide
                  have y_60 : (60 : Int32).toInt = 60 := by decide
                  have y_61 : (61 : Int32).toInt = 61 := by decide
                  have y_1 : (1 : Int32).toInt = 1 := by decide
                  have t_x_35 : x_35.toInt = (sv_26 : Int32).toInt + (1 : Int32).toInt := by rw [ex_35]; exact add_toInt (by omega) (by omega)
                  omega
                have ha_188 : ((Mv 6) : Int32).toInt ≤ (sv_149 : Int32).toInt ∧ (sv_149 : Int32).toInt ≤ 60 := by
                  have z_1 : ¬ (r_13 : Int32).toInt = (0 : Int32).toInt := fun z => c_18 (Int32.toInt_inj.mp z)
                  have z_2 := congrArg Int32.toInt c_34
                  have z_3 : ¬ (r_31 : Int32).toInt = (61 : Int32).toInt := fun z => c_36 (Int32.toInt_inj.mp z)
                  have z_4 := Int32.le_iff_toInt_le.mp c_120
                  have z_5 : ¬ (r_131 : Int32).toInt = (0 : Int32).toInt := fun z => c_136 (Int32.toInt_inj.mp z)
                  have z_6 := congrArg Int32.toInt c_137
                  have z_7 := congrArg Int32.toInt c_160
                  have y_0 : (0 : Int32).toInt = 0 := by decide
                  have y_60 : (60 : Int32).toInt = 60 := by decide
                  have y_61 : (61 : Int32).toInt = 61 := by decide
                  have y_1 : (1 : Int32).toInt = 1 := by decide
                  have t_x_35 : x_35.toInt = (sv_26 : Int32).toInt + (1 : Int32).toInt := by rw [ex_35]; exact add_toInt (by omega) (by omega)
                  omega
                have hr_189 : (400 * ((Mv 5) : Int32).toInt + ((Mf 3) (Mv 5).toNatClampNeg).toInt) ≤ (400 * ((Mv 5) : Int32).toInt + ((Mf 3) (Mv 5).toNatClampNeg).toInt) := by
                  have z_1 : ¬ (r_13 : Int32).toInt = (0 : Int32).toInt := fun z => c_18 (Int32.toInt_inj.mp z)
                  have z_2 := congrArg Int32.toInt c_34
                  have z_3 : ¬ (r_31 : Int32).toInt = (61 : Int32).toInt := fun z => c_36 (Int32.toInt_inj.mp z)
                  have z_4 := Int32.le_iff_toInt_le.mp c_120
                  have z_5 : ¬ (r_131 : Int32).toInt = (0 : Int32).toInt := fun z => c_136 (Int32.toInt_inj.mp z)
                  have z_6 := congrArg Int32.toInt c_137
                  have z_7 := congrArg Int32.toInt c_160
                  have y_0 : (0 : Int32).toInt = 0 := by decide
                  have y_60 : (60 : Int32).toInt = 60 := by decide
                  have y_61 : (61 : Int32).toInt = 61 := by decide
                  have y_1 : (1 : Int32).toInt = 1 := by decide
                  have t_x_35 : x_35.toInt = (sv_26 : Int32).toInt + (1 : Int32).toInt := by rw [ex_35]; exact add_toInt (by omega) (by omega)
                  omega
                have hr_190 : (400 * ((Mv 5) : Int32).toInt + ((Mf 3) (Mv 5).toNatClampNeg).toInt) ≤ (400 * ((Mv 5) : Int32).toInt + (sv_9 (Mv 5).toNatClampNeg).toInt) := by
                  have z_1 : ¬ (r_13 : Int32).toInt = (0 : Int32).toInt := fun z => c_18 (Int32.toInt_inj.mp z)
                  have z_2 := congrArg Int32.toInt c_34
                  have z_3 : ¬ (r_31 : Int32).toInt = (61 : Int32).toInt := fun z => c_36 (Int32.toInt_inj.mp z)
                  have z_4 := Int32.le_iff_toInt_le.mp c_120
                  have z_5 : ¬ (r_131 : Int32).toInt = (0 : Int32).toInt := fun z => c_136 (Int32.toInt_inj.mp z)
                  have z_6 := congrArg Int32.toInt c_137
                  have z_7 := congrArg Int32.toInt c_160
                  have y_0 : (0 : Int32).toInt = 0 := by decide
                  have y_60 : (60 : Int32).toInt = 60 := by decide
                  have y_61 : (61 : Int32).toInt = 61 := by decide
                  have y_1 : (1 : Int32).toInt = 1 := by decide
                  have t_x_35 : x_35.toInt = (sv_26 : Int32).toInt + (1 : Int32).toInt := by rw [ex_35]; exact add_toInt (by omega) (by omega)
                  omega
                have hp_191 : (((0 : Int32).toInt = 0 ∧ ¬ (sv_147 : Int32).toInt = 0) ∨ ((0 : Int32).toInt = 1 ∧ ((Mf 3) (Mv 5).toNatClampNeg).toInt + 1 ≤ (sv_151 (Mv 5).toNatClampNeg).toInt ∧ (sv_151 (Mv 5).toNatClampNeg).toInt + ((Mv 2) : Int32).toInt ≤ ((Mf 3) (Mv 5).toNatClampNeg).toInt + (sv_146 : Int32).toInt ∧ ((Mv 2) : Int32).toInt + 1 ≤ (sv_146 : Int32).toInt)) := by
                  have z_1 : ¬ (r_13 : Int32).toInt = (0 : Int32).toInt := fun z => c_18 (Int32.toInt_inj.mp z)
                  have z_2 := congrArg Int32.toInt c_34
                  have z_3 : ¬ (r_31 : Int32).toInt = (61 : Int32).toInt := fun z => c_36 (Int32.toInt_inj.mp z)
                  have z_4 := Int32.le_iff_toInt_le.mp c_120
                  have z_5 : ¬ (r_131 : Int32).toInt = (0 : Int32).toInt := fun z => c_136 (Int32.toInt_inj.mp z)
                  have z_6 := congrArg Int32.toInt c_137
                  have z_7 := congrArg Int32.toInt c_160
                  have y_0 : (0 : Int32).toInt = 0 := by decide
                  have y_60 : (60 : Int32).toInt = 60 := by decide
                  have y_61 : (61 : Int32).toInt = 61 := by decide
                  have y_1 : (1 : Int32).toInt = 1 := by decide
                  have t_x_35 : x_35.toInt = (sv_26 : Int32).toInt + (1 : Int32).toInt := by rw [ex_35]; exact add_toInt (by omega) (by omega)
                  omega
                have hm_192 : (0 : Int32).toInt = 0 → (RfE (pz_com (rB (Mf 1) (Mv 0)) (St0 (rB (Mf 1) (Mv 0)) (Mv 2) (Mv 6))) sv_147) := by
                  intro h1r
                  have hr_193 : (rB (Mf 1) (Mv 0) (sv_26 : Int32).toInt.toNat = 60 ∨ rB (Mf 1) (Mv 0) (sv_26 : Int32).toInt.toNat = 61 ∨ rB (Mf 1) (Mv 0) (sv_26 : Int32).toInt.toNat = 62) := by
                    have z_1 : ¬ (r_13 : Int32).toInt = (0 : Int32).toInt := fun z => c_18 (Int32.toInt_inj.mp z)
                    have z_2 := congrArg Int32.toInt c_34
                    have z_3 : ¬ (r_31 : Int32).toInt = (61 : Int32).toInt := fun z => c_36 (Int32.toInt_inj.mp z)
                    have z_4 := Int32.le_iff_toInt_le.mp c_120
                    have z_5 : ¬ (r_131 : Int32).toInt = (0 : Int32).toInt := fun z => c_136 (Int32.toInt_inj.mp z)
                    have z_6 := congrArg Int32.toInt c_137
                    have z_7 := congrArg Int32.toInt c_160
                    have y_0 : (0 : Int32).toInt = 0 := by decide
                    have y_60 : (60 : Int32).toInt = 60 := by decide
                    have y_61 : (61 : Int32).toInt = 61 := by decide
                    have y_1 : (1 : Int32).toInt = 1 := by decide
                    have t_x_35 : x_35.toInt = (sv_26 : Int32).toInt + (1 : Int32).toInt := by rw [ex_35]; exact add_toInt (by omega) (by omega)
                    omega
                  have rg_194 := rB_rg (n := (Mv 0)) h_bs ((sv_26 : Int32).toInt.toNat + 1)
                  have hr_195 : ((x_35 : Int32).toInt = (sv_26 : Int32).toInt + 1 ∧ ¬ ((rB (Mf 1) (Mv 0) (sv_26 : Int32).toInt.toNat = 60 ∨ rB (Mf 1) (Mv 0) (sv_26 : Int32).toInt.toNat = 62) ∧ rB (Mf 1) (Mv 0) ((sv_26 : Int32).toInt.toNat + 1) = 61)) ∨ ((x_35 : Int32).toInt = (sv_26 : Int32).toInt + 2 ∧ (rB (Mf 1) (Mv 0) (sv_26 : Int32).toInt.toNat = 60 ∨ rB (Mf 1) (Mv 0) (sv_26 : Int32).toInt.toNat = 62) ∧ rB (Mf 1) (Mv 0) ((sv_26 : Int32).toInt.toNat + 1) = 61) := by
                    have z_1 : ¬ (r_13 : Int32).toInt = (0 : Int32).toInt := fun z => c_18 (Int32.toInt_inj.mp z)
                    have z_2 := congrArg Int32.toInt c_34
                    have z_3 : ¬ (r_31 : Int32).toInt = (61 : Int32).toInt := fun z => c_36 (Int32.toInt_inj.mp z)
                    have z_4 := Int32.le_iff_toInt_le.mp c_120
                    have z_5 : ¬ (r_131 : Int32).toInt = (0 : Int32).toInt := fun z => c_136 (Int32.toInt_inj.mp z)
                    have z_6 := congrArg Int32.toInt c_137
                    have z_7 := congrArg Int32.toInt c_160
                    have y_0 : (0 : Int32).toInt = 0 := by decide
                    have y_60 : (60 : Int32).toInt = 60 := by decide
                    have y_61 : (61 : Int32).toInt = 61 := by decide
                    have y_1 : (1 : Int32).toInt = 1 := by decide
                    have t_x_35 : x_35.toInt = (sv_26 : Int32).toInt + (1 : Int32).toInt := by rw [ex_35]; exact add_toInt (by omega) (by omega)
                    omega
                  have hr_196 : 0 ≤ (sv_7 : Int32).toInt ∧ (sv_7 : Int32).toInt < 60 ∧ (sv_129 : Int32).toInt = (sv_7 : Int32).toInt + 1 := by
                    have z_1 : ¬ (r_13 : Int32).toInt = (0 : Int32).toInt := fun z => c_18 (Int32.toInt_inj.mp z)
                    have z_2 := congrArg Int32.toInt c_34
                    have z_3 : ¬ (r_31 : Int32).toInt = (61 : Int32).toInt := fun z => c_36 (Int32.toInt_inj.mp z)
                    have z_4 := Int32.le_iff_toInt_le.mp c_120
                    have z_5 : ¬ (r_131 : Int32).toInt = (0 : Int32).toInt := fun z => c_136 (Int32.toInt_inj.mp z)
                    have z_6 := congrArg Int32.toInt c_137
                    have z_7 := congrArg Int32.toInt c_160
                    have y_0 : (0 : Int32).toInt = 0 := by decide
                    have y_60 : (60 : Int32).toInt = 60 := by decide
                    have y_61 : (61 : Int32).toInt = 61 := by decide
                    have y_1 : (1 : Int32).toInt = 1 := by decide
                    have t_x_35 : x_35.toInt = (sv_26 : Int32).toInt + (1 : Int32).toInt := by rw [ex_35]; exact add_toInt (by omega) (by omega)
                    omega
                  exact (RfE.com2 pf_20 pf_30 hr_193 hr_195 hr_196 pf_185)
                exact retI (v := 0) hx hb hr hlk (rfl) hP hD hS (sv_146, sv_147, sv_148, sv_149, sv_150, sv_151) ⟨_, rfl, hp_191, ha_187, ha_188, (Agr.trans (k' := (400 * ((Mv 5) : Int32).toInt + ((Mf 3) (Mv 5).toNatClampNeg).toInt)) (Agr.mono pf_12 hr_189) pf_154 ⟨Int.le_refl _, hr_190⟩), (fun h => absurd h (by decide)), hm_192⟩ [0, 1, 2, 3] rfl rfl dX12_compare_162 (Nat.le_of_ble_eq_true rfl) (Nat.le_of_ble_eq_true rfl) rfl
          · skip
            refine lv_iconst (v := 0) hx hb dX12_compare_113 (by decide) ?_
            have ha_197 : ((Mv 2) : Int32).toInt ≤ (x_35 : Int32).toInt ∧ (x_35 : Int32).toInt ≤ ((Mv 0) : Int32).toInt := by
              have z_1 : ¬ (r_13 : Int32).toInt = (0 : Int32).toInt := fun z => c_18 (Int32.toInt_inj.mp z)
              have z_2 := congrArg Int32.toInt c_34
              have z_3 : ¬ (r_31 : Int32).toInt = (61 : Int32).toInt := fun z => c_36 (Int32.toInt_inj.mp z)
              have z_4 := Int32.le_iff_toInt_le.mp c_120
              have z_5 := congrArg Int32.toInt c_136
              have y_0 : (0 : Int32).toInt = 0 := by decide
              have y_60 : (60 : Int32).toInt = 60 := by decide
              have y_61 : (61 : Int32).toInt = 61 := by decide
              have y_1 : (1 : Int32).toInt = 1 := by decide
              have t_x_35 : x_35.toInt = (sv_26 : Int32).toInt + (1 : Int32).toInt := by rw [ex_35]; exact add_toInt (by omega) (by omega)
              omega
            have ha_198 : ((Mv 6) : Int32).toInt ≤ (sv_129 : Int32).toInt ∧ (sv_129 : Int32).toInt ≤ 60 := by
              have z_1 : ¬ (r_13 : Int32).toInt = (0 : Int32).toInt := fun z => c_18 (Int32.toInt_inj.mp z)
              have z_2 := congrArg Int32.toInt c_34
              have z_3 : ¬ (r_31 : Int32).toInt = (61 : Int32).toInt := fun z => c_36 (Int32.toInt_inj.mp z)
              have z_4 := Int32.le_iff_toInt_le.mp c_120
              have z_5 := congrArg Int32.toInt c_136
              have y_0 : (0 : Int32).toInt = 0 := by decide
              have y_60 : (60 : Int32).toInt = 60 := by decide
              have y_61 : (61 : Int32).toInt = 61 := by decide
              have y_1 : (1 : Int32).toInt = 1 := by decide
              have t_x_35 : x_35.toInt = (sv_26 : Int32).toInt + (1 : Int32).toInt := by rw [ex_35]; exact add_toInt (by omega) (by omega)
              omega
            have hp_199 : (((0 : Int32).toInt = 0 ∧ ¬ (sv_128 : Int32).toInt = 0) ∨ ((0 : Int32).toInt = 1 ∧ ((Mf 3) (Mv 5).toNatClampNeg).toInt + 1 ≤ (sv_9 (Mv 5).toNatClampNeg).toInt ∧ (sv_9 (Mv 5).toNatClampNeg).toInt + ((Mv 2) : Int32).toInt ≤ ((Mf 3) (Mv 5).toNatClampNeg).toInt + (x_35 : Int32).toInt ∧ ((Mv 2) : Int32).toInt + 1 ≤ (x_35 : Int32).toInt)) := by
              have z_1 : ¬ (r_13 : Int32).toInt = (0 : Int32).toInt := fun z => c_18 (Int32.toInt_inj.mp z)
              have z_2 := congrArg Int32.toInt c_34
              have z_3 : ¬ (r_31 : Int32).toInt = (61 : Int32).toInt := fun z => c_36 (Int32.toInt_inj.mp z)
              have z_4 := Int32.le_iff_toInt_le.mp c_120
              have z_5 := congrArg Int32.toInt c_136
              have y_0 : (0 : Int32).toInt = 0 := by decide
              have y_60 : (60 : Int32).toInt = 60 := by decide
              have y_61 : (61 : Int32).toInt = 61 := by decide
              have y_1 : (1 : Int32).toInt = 1 := by decide
              have t_x_35 : x_35.toInt = (sv_26 : Int32).toInt + (1 : Int32).toInt := by rw [ex_35]; exact add_toInt (by omega) (by omega)
              omega
            have hm_200 : (0 : Int32).toInt = 0 → (RfE (pz_com (rB (Mf 1) (Mv 0)) (St0 (rB (Mf 1) (Mv 0)) (Mv 2) (Mv 6))) sv_128) := by
              intro h1r
              have hr_201 : (rB (Mf 1) (Mv 0) (sv_26 : Int32).toInt.toNat = 60 ∨ rB (Mf 1) (Mv 0) (sv_26 : Int32).toInt.toNat = 61 ∨ rB (Mf 1) (Mv 0) (sv_26 : Int32).toInt.toNat = 62) := by
                have z_1 : ¬ (r_13 : Int32).toInt = (0 : Int32).toInt := fun z => c_18 (Int32.toInt_inj.mp z)
                have z_2 := congrArg Int32.toInt c_34
                have z_3 : ¬ (r_31 : Int32).toInt = (61 : Int32).toInt := fun z => c_36 (Int32.toInt_inj.mp z)
                have z_4 := Int32.le_iff_toInt_le.mp c_120
                have z_5 := congrArg Int32.toInt c_136
                have y_0 : (0 : Int32).toInt = 0 := by decide
                have y_60 : (60 : Int32).toInt = 60 := by decide
                have y_61 : (61 : Int32).toInt = 61 := by decide
                have y_1 : (1 : Int32).toInt = 1 := by decide
                have t_x_35 : x_35.toInt = (sv_26 : Int32).toInt + (1 : Int32).toInt := by rw [ex_35]; exact add_toInt (by omega) (by omega)
                omega
              have hr_202 : 60 ≤ (sv_7 : Int32).toInt := by
                have z_1 : ¬ (r_13 : Int32).toInt = (0 : Int32).toInt := fun z => c_18 (Int32.toInt_inj.mp z)
                have z_2 := congrArg Int32.toInt c_34
                have z_3 : ¬ (r_31 : Int32).toInt = (61 : Int32).toInt := fun z => c_36 (Int32.toInt_inj.mp z)
                have z_4 := Int32.le_iff_toInt_le.mp c_120
                have z_5 := congrArg Int32.toInt c_136
                have y_0 : (0 : Int32).toInt = 0 := by decide
                have y_60 : (60 : Int32).toInt = 60 := by decide
                have y_61 : (61 : Int32).toInt = 61 := by decide
                have y_1 : (1 : Int32).toInt = 1 := by decide
                have t_x_35 : x_35.toInt = (sv_26 : Int32).toInt + (1 : Int32).toInt := by rw [ex_35]; exact add_toInt (by omega) (by omega)
                omega
              have hi_203 : (sv_128 : Int32).toInt = 1 + 8 * (sv_26 : Int32).toInt + 3 := by
                have z_1 : ¬ (r_13 : Int32).toInt = (0 : Int32).toInt := fun z => c_18 (Int32.toInt_inj.mp z)
                have z_2 := congrArg Int32.toInt c_34
                have z_3 : ¬ (r_31 : Int32).toInt = (61 : Int32).toInt := fun z => c_36 (Int32.toInt_inj.mp z)
                have z_4 := Int32.le_iff_toInt_le.mp c_120
                have z_5 := congrArg Int32.toInt c_136
                have y_0 : (0 : Int32).toInt = 0 := by decide
                have y_60 : (60 : Int32).toInt = 60 := by decide
                have y_61 : (61 : Int32).toInt = 61 := by decide
                have y_1 : (1 : Int32).toInt = 1 := by decide
                have t_x_35 : x_35.toInt = (sv_26 : Int32).toInt + (1 : Int32).toInt := by rw [ex_35]; exact add_toInt (by omega) (by omega)
                omega
              exact (RfE.com3 pf_20 pf_30 hr_201 hr_202 hi_203)
            exact retI (v := 0) hx hb hr hlk (rfl) hP hD hS (x_35, sv_128, sv_6, sv_129, sv_8, sv_9) ⟨_, rfl, hp_199, ha_197, ha_198, pf_12, (fun h => absurd h (by decide)), hm_200⟩ [3, 2, 0, 1] rfl rfl dX12_compare_114 (Nat.le_of_ble_eq_true rfl) (Nat.le_of_ble_eq_true rfl) rfl
        · skip
          refine lv_aload_n hx hb dX12_compare_71 rfl (lv_at hl 2 rfl) ?_
          refine gf_X12_7 hx hb hts hown hK hP 2 rfl rfl dX12_compare_72 ?_
          refine lv_aload_n hx hb dX12_compare_75 rfl (lv_at hl 2 rfl) ?_
          refine gf_X12_87 hx hb hts hown hK hP 2 rfl rfl dX12_compare_76 ?_
          have hi_204 : vp_in x_35 400 := by
            have z_1 : ¬ (r_13 : Int32).toInt = (0 : Int32).toInt := fun z => c_18 (Int32.toInt_inj.mp z)
            have z_2 := congrArg Int32.toInt c_34
            have z_3 : ¬ (r_31 : Int32).toInt = (61 : Int32).toInt := fun z => c_36 (Int32.toInt_inj.mp z)
            have z_4 := Int32.lt_iff_toInt_lt.mp (Int32.not_le.mp c_120)
            have y_0 : (0 : Int32).toInt = 0 := by decide
            have y_60 : (60 : Int32).toInt = 60 := by decide
            have y_61 : (61 : Int32).toInt = 61 := by decide
            have y_1 : (1 : Int32).toInt = 1 := by decide
            have t_x_35 : x_35.toInt = (sv_26 : Int32).toInt + (1 : Int32).toInt := by rw [ex_35]; exact add_toInt (by omega) (by omega)
            refine vp_in_iff.mpr ⟨?_, ?_⟩ <;> omega
          refine va_bald hx hb hK hP 3 2 rfl rfl hi_204 dX12_compare_79 ?_
          refine lv_topi (fun x_205 ex_205 => ?_)
          have kx_205 : x_205.toInt = ((Mf 1) (x_35 : Int32).toInt.toNat).toInt := congrArg Int32.toInt ex_205
          have kcx_205 : x_205.toInt = ((Mf 1) (x_35 : Int32).toNatClampNeg).toInt := congrArg Int32.toInt ex_205
          refine lv_bipush (v := 61) hx hb dX12_compare_80 (by decide) ?_
          refine lv_icmp_ne (tgt := 89) hx hb dX12_compare_82 (by decide) (fun c_206 => ?_) (fun c_206 => ?_)
          · skip
            refine lv_iconst (v := 0) hx hb dX12_compare_89 (by decide) ?_
            refine lv_istore_n (lv' := [(3, .int 0), (2, .int sv_26), (1, .int r_31), (0, .ref (Ma 0))]) hx hb dX12_compare_90 rfl hl (by decide) rfl (fun ls hl₀ => ?_)
            replace hl := hl₀
            clear hl₀
            refine lv_iload_n hx hb dX12_compare_91 rfl (lv_at hl 0 rfl) ?_
            refine lv_if_eq (tgt := 105) hx hb dX12_compare_92 (by decide) (fun c_207 => ?_) (fun c_207 => absurd c_207 (by decide))
            refine lv_aload_n hx hb dX12_compare_105 rfl (lv_at hl 3 rfl) ?_
            refine lv_iload_n hx hb dX12_compare_106 rfl (lv_at hl 1 rfl) ?_
            have ha_208 : 0 ≤ sv_26.toInt ∧ sv_26.toInt ≤ 400 := by
              have z_1 : ¬ (r_13 : Int32).toInt = (0 : Int32).toInt := fun z => c_18 (Int32.toInt_inj.mp z)
              have z_2 := congrArg Int32.toInt c_34
              have z_3 : ¬ (r_31 : Int32).toInt = (61 : Int32).toInt := fun z => c_36 (Int32.toInt_inj.mp z)
              have z_4 := Int32.lt_iff_toInt_lt.mp (Int32.not_le.mp c_120)
              have z_5 : ¬ (x_205 : Int32).toInt = (61 : Int32).toInt := fun z => c_206 (Int32.toInt_inj.mp z)
              have y_0 : (0 : Int32).toInt = 0 := by decide
              have y_60 : (60 : Int32).toInt = 60 := by decide
              have y_61 : (61 : Int32).toInt = 61 := by decide
              have y_1 : (1 : Int32).toInt = 1 := by decide
              have t_x_35 : x_35.toInt = (sv_26 : Int32).toInt + (1 : Int32).toInt := by rw [ex_35]; exact add_toInt (by omega) (by omega)
              omega
            have ha_209 : 0 ≤ (sv_7 : Int32).toInt ∧ (sv_7 : Int32).toInt ≤ 60 := by
              have z_1 : ¬ (r_13 : Int32).toInt = (0 : Int32).toInt := fun z => c_18 (Int32.toInt_inj.mp z)
              have z_2 := congrArg Int32.toInt c_34
              have z_3 : ¬ (r_31 : Int32).toInt = (61 : Int32).toInt := fun z => c_36 (Int32.toInt_inj.mp z)
              have z_4 := Int32.lt_iff_toInt_lt.mp (Int32.not_le.mp c_120)
              have z_5 : ¬ (x_205 : Int32).toInt = (61 : Int32).toInt := fun z => c_206 (Int32.toInt_inj.mp z)
              have y_0 : (0 : Int32).toInt = 0 := by decide
              have y_60 : (60 : Int32).toInt = 60 := by decide
              have y_61 : (61 : Int32).toInt = 61 := by decide
              have y_1 : (1 : Int32).toInt = 1 := by decide
              have t_x_35 : x_35.toInt = (sv_26 : Int32).toInt + (1 : Int32).toInt := by rw [ex_35]; exact add_toInt (by omega) (by omega)
              omega
            have ha_210 : (sv_5 : Int32).toInt = 0 := by
              have z_1 : ¬ (r_13 : Int32).toInt = (0 : Int32).toInt := fun z => c_18 (Int32.toInt_inj.mp z)
              have z_2 := congrArg Int32.toInt c_34
              have z_3 : ¬ (r_31 : Int32).toInt = (61 : Int32).toInt := fun z => c_36 (Int32.toInt_inj.mp z)
              have z_4 := Int32.lt_iff_toInt_lt.mp (Int32.not_le.mp c_120)
              have z_5 : ¬ (x_205 : Int32).toInt = (61 : Int32).toInt := fun z => c_206 (Int32.toInt_inj.mp z)
              have y_0 : (0 : Int32).toInt = 0 := by decide
              have y_60 : (60 : Int32).toInt = 60 := by decide
              have y_61 : (61 : Int32).toInt = 61 := by decide
              have y_1 : (1 : Int32).toInt = 1 := by decide
              have t_x_35 : x_35.toInt = (sv_26 : Int32).toInt + (1 : Int32).toInt := by rw [ex_35]; exact add_toInt (by omega) (by omega)
              omega
            refine cV (a := (Ma 0)) (As := [.int sv_26]) (rest := []) (wr := [((Ma 2), .inl (tc 0, 2400, .inl sv_8)), ((Ma 3), .inl (tc 0, 7, .inl sv_9)), ((Ma 1), .inl (tc 2, 400, .inl (Mf 1)))]) ⟨hx, hb, hml, hown, hts⟩ hK hX hA (cu_fX12_makes l D tc sk (Ma 0) (Ma 1) (Ma 2) (Ma 3) (Ma 4) (Ma 5) (Ma 6) (Ma 7) (Ma 8) (Ma 9) (Ma 10) (Ma 11) (Ma 12) (Ma 13) (Ma 14) (Ma 15) (Ma 16) (Ma 17) (Ma 18) (Ma 19) (Ma 20) (Mv 0) (Mv 1) x_35 sv_5 sv_6 (Mv 5) sv_7 (Mv 7) (Mv 8) (Mv 9) (Mv 10) (Mv 11) (Mv 12) (Mv 13) (Mv 14) (Mj 0) sv_26 ha_208 ha_209 ha_210) k_1292 k_1289 k_1291 k_45 k_106 pl_X12_makes ⟨Nat.le_of_ble_eq_true rfl, Nat.le_of_ble_eq_true rfl⟩ rfl rfl (va_recv hK hP (ci := 12) (q0 := 2) rfl rfl) hP hD hS [2] [0, 1, 3] rfl rfl rfl rfl rfl (by decide) rfl hl.1 rfl (Nat.le_of_ble_eq_true rfl) dX12_compare_107 ⟨Nat.le_of_ble_eq_true rfl, Nat.le_of_ble_eq_true rfl⟩ (fun v_211 u_212 H locs hv_213 hP₀ hD₀ hS₀ => ?_)
            obtain ⟨sv_214, sv_215⟩ := u_212
            obtain ⟨r_217, rfl, he_218, pf_216⟩ := hv_213
            have he_218 : ((r_217.toInt = 0 ∧ ¬ (sv_214 : Int32).toInt = 0 ∧ sv_7.toInt = 60 ∧ (sv_214 : Int32).toInt = 1 + 8 * sv_26.toInt + 3) ∨ (r_217.toInt = 1 ∧ (sv_215 : Int32).toInt = sv_7.toInt + 1 ∧ sv_7.toInt < 60 ∧ (sv_214 : Int32).toInt = 0)) := he_218
            have pf_216 : (sv_7 : Int32).toInt ≤ (sv_215 : Int32).toInt ∧ (sv_215 : Int32).toInt ≤ 60 := pf_216
            refine W.eq (g2 := F0 m 110 ls [.int r_217]) rfl ?_
            replace hP : va_P D classes [((Ma 2), .inl (tc 0, 2400, .inl sv_8)), ((Ma 3), .inl (tc 0, 7, .inl sv_9)), ((Ma 1), .inl (tc 2, 400, .inl (Mf 1))), ((Ma 0), .inr (12, [.ref (Ma 1), .int (Mv 0), .int (Mv 1), .ref (Ma 2), .ref (Ma 3), .ref (Ma 4), .ref (Ma 5), .ref (Ma 6), .int x_35, .int sv_214, .int sv_6, .int (Mv 5), .int sv_215, .int (Mv 7), .int (Mv 8), .ref (Ma 7), .int (Mv 9), .ref (Ma 8), .int (Mv 10), .ref (Ma 9), .ref (Ma 10), .int (Mv 11), .int (Mv 12), .int (Mv 13), .ref (Ma 11), .int (Mv 14), .ref (Ma 12), .ref (Ma 13), .ref (Ma 14), .ref (Ma 15), .ref (Ma 16), .long (Mj 0), .ref (Ma 17), .ref (Ma 18), .ref (Ma 19), .ref (Ma 20)]))] H := hP₀
            replace hD : va_D A [((Ma 2), .inl (tc 0, 2400, .inl sv_8)), ((Ma 3), .inl (tc 0, 7, .inl sv_9)), ((Ma 1), .inl (tc 2, 400, .inl (Mf 1))), ((Ma 0), .inr (12, [.ref (Ma 1), .int (Mv 0), .int (Mv 1), .ref (Ma 2), .ref (Ma 3), .ref (Ma 4), .ref (Ma 5), .ref (Ma 6), .int x_35, .int sv_214, .int sv_6, .int (Mv 5), .int sv_215, .int (Mv 7), .int (Mv 8), .ref (Ma 7), .int (Mv 9), .ref (Ma 8), .int (Mv 10), .ref (Ma 9), .ref (Ma 10), .int (Mv 11), .int (Mv 12), .int (Mv 13), .ref (Ma 11), .int (Mv 14), .ref (Ma 12), .ref (Ma 13), .ref (Ma 14), .ref (Ma 15), .ref (Ma 16), .long (Mj 0), .ref (Ma 17), .ref (Ma 18), .ref (Ma 19), .ref (Ma 20)]))] := hD₀
            replace hS := hS₀
            clear hP₀ hD₀ hS₀
            have hr_221 : (sv_7 : Int32).toInt ≤ (sv_215 : Int32).toInt ∧ (sv_215 : Int32).toInt ≤ 60 := by
              have z_1 : ¬ (r_13 : Int32).toInt = (0 : Int32).toInt := fun z => c_18 (Int32.toInt_inj.mp z)
              have z_2 := congrArg Int32.toInt c_34
              have z_3 : ¬ (r_31 : Int32).toInt = (61 : Int32).toInt := fun z => c_36 (Int32.toInt_inj.mp z)
              have z_4 := Int32.lt_iff_toInt_lt.mp (Int32.not_le.mp c_120)
              have z_5 : ¬ (x_205 : Int32).toInt = (61 : Int32).toInt := fun z => c_206 (Int32.toInt_inj.mp z)
              have y_0 : (0 : Int32).toInt = 0 := by decide
              have y_60 : (60 : Int32).toInt = 60 := by decide
              have y_61 : (61 : Int32).toInt = 61 := by decide
              have y_1 : (1 : Int32).toInt = 1 := by decide
              have t_x_35 : x_35.toInt = (sv_26 : Int32).toInt + (1 : Int32).toInt := by rw [ex_35]; exact add_toInt (by omega) (by omega)
              omega
            have pf_220 : Cd sv_8 sv_9 (Mv 5) b sv_215 (d + 1) := Cd.mono pf_19 hr_221
            have ar_pf_220 := Cd.ar pf_220
            refine lv_if_ne (tgt := 115) hx hb dX12_compare_110 (by decide) (fun c_222 => ?_) (fun c_222 => ?_)
            · skip
              refine lv_iload_n hx hb dX12_compare_115 rfl (lv_at hl 2 rfl) ?_
              refine lv_bipush (v := 60) hx hb dX12_compare_116 (by decide) ?_
              refine lv_icmp_ne (tgt := 133) hx hb dX12_compare_118 (by decide) (fun c_223 => ?_) (fun c_223 => ?_)
              · skip
                exfalso
                have z_1 : ¬ (r_13 : Int32).toInt = (0 : Int32).toInt := fun z => c_18 (Int32.toInt_inj.mp z)
                have z_2 := congrArg Int32.toInt c_34
                have z_3 : ¬ (r_31 : Int32).toInt = (61 : Int32).toInt := fun z => c_36 (Int32.toInt_inj.mp z)
                have z_4 := Int32.lt_iff_toInt_lt.mp (Int32.not_le.mp c_120)
                have z_5 : ¬ (x_205 : Int32).toInt = (61 : Int32).toInt := fun z => c_206 (Int32.toInt_inj.mp z)
                have z_6 : ¬ (r_217 : Int32).toInt = (0 : Int32).toInt := fun z => c_222 (Int32.toInt_inj.mp z)
                have z_7 : ¬ (r_31 : Int32).toInt = (60 : Int32).toInt := fun z => c_223 (Int32.toInt_inj.mp z)
                have y_0 : (0 : Int32).toInt = 0 := by decide
                have y_60 : (60 : Int32).toInt = 60 := by decide
                have y_61 : (61 : Int32).toInt = 61 := by decide
                have y_1 : (1 : Int32).toInt = 1 := by decide
                have t_x_35 : x_35.toInt = (sv_26 : Int32).toInt + (1 : Int32).toInt := by rw [ex_35]; exact add_toInt (by omega) (by omega)
                omega
              · skip
                refine lv_iload_n hx hb dX12_compare_121 rfl (lv_at hl 0 rfl) ?_
                refine lv_if_eq (tgt := 129) hx hb dX12_compare_122 (by decide) (fun c_224 => ?_) (fun c_224 => absurd c_224 (by decide))
                refine lv_iconst (v := 0) hx hb dX12_compare_129 (by decide) ?_
                refine lv_goto (tgt := 152) hx hb dX12_compare_130 (by decide) ?_
                refine lv_istore (lv' := [(4, .int 0), (3, .int 0), (2, .int sv_26), (1, .int r_31), (0, .ref (Ma 0))]) hx hb dX12_compare_152 hl (by decide) rfl (fun ls hl₀ => ?_)
                replace hl := hl₀
                clear hl₀
                refine lv_aload_n hx hb dX12_compare_154 rfl (lv_at hl 4 rfl) ?_
                have ha_225 : 0 ≤ (x_35 : Int32).toInt ∧ (x_35 : Int32).toInt ≤ ((Mv 0) : Int32).toInt ∧ ((Mv 0) : Int32).toInt ≤ 400 := by
                  have z_1 : ¬ (r_13 : Int32).toInt = (0 : Int32).toInt := fun z => c_18 (Int32.toInt_inj.mp z)
                  have z_2 := congrArg Int32.toInt c_34
                  have z_3 : ¬ (r_31 : Int32).toInt = (61 : Int32).toInt := fun z => c_36 (Int32.toInt_inj.mp z)
                  have z_4 := Int32.lt_iff_toInt_lt.mp (Int32.not_le.mp c_120)
                  have z_5 : ¬ (x_205 : Int32).toInt = (61 : Int32).toInt := fun z => c_206 (Int32.toInt_inj.mp z)
                  have z_6 : ¬ (r_217 : Int32).toInt = (0 : Int32).toInt := fun z => c_222 (Int32.toInt_inj.mp z)
                  have z_7 := congrArg Int32.toInt c_223
                  have y_0 : (0 : Int32).toInt = 0 := by decide
                  have y_60 : (60 : Int32).toInt = 60 := by decide
                  have y_61 : (61 : Int32).toInt = 61 := by decide
                  have y_1 : (1 : Int32).toInt = 1 := by decide
                  have t_x_35 : x_35.toInt = (sv_26 : Int32).toInt + (1 : Int32).toInt := by rw [ex_35]; exact add_toInt (by omega) (by omega)
                  omega
                have ha_226 : (sv_9 (Mv 5).toNatClampNeg).toInt ≤ (x_35 : Int32).toInt := by
                  have z_1 : ¬ (r_13 : Int32).toInt = (0 : Int32).toInt := fun z => c_18 (Int32.toInt_inj.mp z)
                  have z_2 := congrArg Int32.toInt c_34
                  have z_3 : ¬ (r_31 : Int32).toInt = (61 : Int32).toInt := fun z => c_36 (Int32.toInt_inj.mp z)
                  have z_4 := Int32.lt_iff_toInt_lt.mp (Int32.not_le.mp c_120)
                  have z_5 : ¬ (x_205 : Int32).toInt = (61 : Int32).toInt := fun z => c_206 (Int32.toInt_inj.mp z)
                  have z_6 : ¬ (r_217 : Int32).toInt = (0 : Int32).toInt := fun z => c_222 (Int32.toInt_inj.mp z)
                  have z_7 := congrArg Int32.toInt c_223
                  have y_0 : (0 : Int32).toInt = 0 := by decide
                  have y_60 : (60 : Int32).toInt = 60 := by decide
                  have y_61 : (61 : Int32).toInt = 61 := by decide
                  have y_1 : (1 : Int32).toInt = 1 := by decide
                  have t_x_35 : x_35.toInt = (sv_26 : Int32).toInt + (1 : Int32).toInt := by rw [ex_35]; exact add_toInt (by omega) (by omega)
                  omega
                have ha_227 : 0 ≤ (sv_215 : Int32).toInt ∧ (sv_215 : Int32).toInt ≤ 60 := by
                  have z_1 : ¬ (r_13 : Int32).toInt = (0 : Int32).toInt := fun z => c_18 (Int32.toInt_inj.mp z)
                  have z_2 := congrArg Int32.toInt c_34
                  have z_3 : ¬ (r_31 : Int32).toInt = (61 : Int32).toInt := fun z => c_36 (Int32.toInt_inj.mp z)
                  have z_4 := Int32.lt_iff_toInt_lt.mp (Int32.not_le.mp c_120)
                  have z_5 : ¬ (x_205 : Int32).toInt = (61 : Int32).toInt := fun z => c_206 (Int32.toInt_inj.mp z)
                  have z_6 : ¬ (r_217 : Int32).toInt = (0 : Int32).toInt := fun z => c_222 (Int32.toInt_inj.mp z)
                  have z_7 := congrArg Int32.toInt c_223
                  have y_0 : (0 : Int32).toInt = 0 := by decide
                  have y_60 : (60 : Int32).toInt = 60 := by decide
                  have y_61 : (61 : Int32).toInt = 61 := by decide
                  have y_1 : (1 : Int32).toInt = 1 := by decide
                  have t_x_35 : x_35.toInt = (sv_26 : Int32).toInt + (1 : Int32).toInt := by rw [ex_35]; exact add_toInt (by omega) (by omega)
                  omega
                have ha_228 : (sv_214 : Int32).toInt = 0 := by
                  have z_1 : ¬ (r_13 : Int32).toInt = (0 : Int32).toInt := fun z => c_18 (Int32.toInt_inj.mp z)
                  have z_2 := congrArg Int32.toInt c_34
                  have z_3 : ¬ (r_31 : Int32).toInt = (61 : Int32).toInt := fun z => c_36 (Int32.toInt_inj.mp z)
                  have z_4 := Int32.lt_iff_toInt_lt.mp (Int32.not_le.mp c_120)
                  have z_5 : ¬ (x_205 : Int32).toInt = (61 : Int32).toInt := fun z => c_206 (Int32.toInt_inj.mp z)
                  have z_6 : ¬ (r_217 : Int32).toInt = (0 : Int32).toInt := fun z => c_222 (Int32.toInt_inj.mp z)
                  have z_7 := congrArg Int32.toInt c_223
                  have y_0 : (0 : Int32).toInt = 0 := by decide
                  have y_60 : (60 : Int32).toInt = 60 := by decide
                  have y_61 : (61 : Int32).toInt = 61 := by decide
                  have y_1 : (1 : Int32).toInt = 1 := by decide
                  have t_x_35 : x_35.toInt = (sv_26 : Int32).toInt + (1 : Int32).toInt := by rw [ex_35]; exact add_toInt (by omega) (by omega)
                  omega
                refine cV (a := (Ma 0)) (As := []) (rest := []) (wr := []) ⟨hx, hb, hml, hown, hts⟩ hK hX hA (cu_fX12_sum l D tc sk (Ma 0) (Ma 1) (Ma 2) (Ma 3) (Ma 4) (Ma 5) (Ma 6) (Ma 7) (Ma 8) (Ma 9) (Ma 10) (Ma 11) (Ma 12) (Ma 13) (Ma 14) (Ma 15) (Ma 16) (Ma 17) (Ma 18) (Ma 19) (Ma 20) (Mv 0) (Mv 1) x_35 sv_214 sv_6 (Mv 5) sv_215 (Mv 7) (Mv 8) (Mv 9) (Mv 10) (Mv 11) (Mv 12) (Mv 13) (Mv 14) (Mf 1) sv_8 sv_9 (Mj 0) b (d + 1) ha_225 pf_220 ha_226 ha_227 h_bs ha_228) k_1279 k_1276 k_1278 k_42 k_106 pl_X12_sum ⟨Nat.le_of_ble_eq_true rfl, Nat.le_of_ble_eq_true rfl⟩ rfl rfl (va_recv hK hP (ci := 12) (q0 := 3) rfl rfl) hP hD hS [3, 2, 0, 1] [] rfl rfl rfl rfl rfl (by decide) rfl hl.1 rfl (Nat.le_of_ble_eq_true rfl) dX12_compare_155 ⟨Nat.le_of_ble_eq_true rfl, Nat.le_of_ble_eq_true rfl⟩ (fun v_229 u_230 H locs hv_231 hP₀ hD₀ hS₀ => ?_)
                obtain ⟨sv_232, sv_233, sv_234, sv_235, sv_236, sv_237⟩ := u_230
                obtain ⟨r_241, rfl, he_242, pf_238, pf_239, pf_240, hm_244, hm_245⟩ := hv_231
                have he_242 : ((r_241.toInt = 0 ∧ ¬ (sv_233 : Int32).toInt = 0) ∨ (r_241.toInt = 1 ∧ (sv_9 (Mv 5).toNatClampNeg).toInt + 1 ≤ (sv_237 (Mv 5).toNatClampNeg).toInt ∧ (sv_237 (Mv 5).toNatClampNeg).toInt + (x_35 : Int32).toInt ≤ (sv_9 (Mv 5).toNatClampNeg).toInt + (sv_232 : Int32).toInt ∧ (x_35 : Int32).toInt + 1 ≤ (sv_232 : Int32).toInt)) := he_242
                have pf_238 : (x_35 : Int32).toInt ≤ (sv_232 : Int32).toInt ∧ (sv_232 : Int32).toInt ≤ ((Mv 0) : Int32).toInt := pf_238
                have pf_239 : (sv_215 : Int32).toInt ≤ (sv_235 : Int32).toInt ∧ (sv_235 : Int32).toInt ≤ 60 := pf_239
                have pf_240 : Agr sv_8 sv_236 (400 * ((Mv 5) : Int32).toInt + (sv_9 (Mv 5).toNatClampNeg).toInt) := pf_240
                refine W.eq (g2 := F0 m 158 ls [.int r_241]) rfl ?_
                replace hP : va_P D classes [((Ma 0), .inr (12, [.ref (Ma 1), .int (Mv 0), .int (Mv 1), .ref (Ma 2), .ref (Ma 3), .ref (Ma 4), .ref (Ma 5), .ref (Ma 6), .int sv_232, .int sv_233, .int sv_234, .int (Mv 5), .int sv_235, .int (Mv 7), .int (Mv 8), .ref (Ma 7), .int (Mv 9), .ref (Ma 8), .int (Mv 10), .ref (Ma 9), .ref (Ma 10), .int (Mv 11), .int (Mv 12), .int (Mv 13), .ref (Ma 11), .int (Mv 14), .ref (Ma 12), .ref (Ma 13), .ref (Ma 14), .ref (Ma 15), .ref (Ma 16), .long (Mj 0), .ref (Ma 17), .ref (Ma 18), .ref (Ma 19), .ref (Ma 20)])), ((Ma 1), .inl (tc 2, 400, .inl (Mf 1))), ((Ma 2), .inl (tc 0, 2400, .inl sv_236)), ((Ma 3), .inl (tc 0, 7, .inl sv_237))] H := hP₀
                replace hD : va_D A [((Ma 0), .inr (12, [.ref (Ma 1), .int (Mv 0), .int (Mv 1), .ref (Ma 2), .ref (Ma 3), .ref (Ma 4), .ref (Ma 5), .ref (Ma 6), .int sv_232, .int sv_233, .int sv_234, .int (Mv 5), .int sv_235, .int (Mv 7), .int (Mv 8), .ref (Ma 7), .int (Mv 9), .ref (Ma 8), .int (Mv 10), .ref (Ma 9), .ref (Ma 10), .int (Mv 11), .int (Mv 12), .int (Mv 13), .ref (Ma 11), .int (Mv 14), .ref (Ma 12), .ref (Ma 13), .ref (Ma 14), .ref (Ma 15), .ref (Ma 16), .long (Mj 0), .ref (Ma 17), .ref (Ma 18), .ref (Ma 19), .ref (Ma 20)])), ((Ma 1), .inl (tc 2, 400, .inl (Mf 1))), ((Ma 2), .inl (tc 0, 2400, .inl sv_236)), ((Ma 3), .inl (tc 0, 7, .inl sv_237))] := hD₀
                replace hS := hS₀
                clear hP₀ hD₀ hS₀
                refine lv_if_ne (tgt := 163) hx hb dX12_compare_158 (by decide) (fun c_246 => ?_) (fun c_246 => ?_)
                · skip
                  have hz_249 : (r_241 : Int32).toInt = 1 := by
                    have z_1 : ¬ (r_13 : Int32).toInt = (0 : Int32).toInt := fun z => c_18 (Int32.toInt_inj.mp z)
                    have z_2 := congrArg Int32.toInt c_34
                    have z_3 : ¬ (r_31 : Int32).toInt = (61 : Int32).toInt := fun z => c_36 (Int32.toInt_inj.mp z)
                    have z_4 := Int32.lt_iff_toInt_lt.mp (Int32.not_le.mp c_120)
                    have z_5 : ¬ (x_205 : Int32).toInt = (61 : Int32).toInt := fun z => c_206 (Int32.toInt_inj.mp z)
                    have z_6 : ¬ (r_217 : Int32).toInt = (0 : Int32).toInt := fun z => c_222 (Int32.toInt_inj.mp z)
                    have z_7 := congrArg Int32.toInt c_223
                    have z_8 : ¬ (r_241 : Int32).toInt = (0 : Int32).toInt := fun z => c_246 (Int32.toInt_inj.mp z)
                    have y_0 : (0 : Int32).toInt = 0 := by decide
                    have y_60 : (60 : Int32).toInt = 60 := by decide
                    have y_61 : (61 : Int32).toInt = 61 := by decide
                    have y_1 : (1 : Int32).toInt = 1 := by decide
                    have t_x_35 : x_35.toInt = (sv_26 : Int32).toInt + (1 : Int32).toInt := by rw [ex_35]; exact add_toInt (by omega) (by omega)
                    omega
                  obtain ⟨pf_247, pf_248⟩ := hm_244 hz_249
                  have pf_247 : Cd sv_236 sv_237 (Mv 5) b sv_235 ((d + 1) + 1) := pf_247
                  have ar_pf_247 := Cd.ar pf_247
                  have pf_248 : RfO (pz_sum (rB (Mf 1) (Mv 0)) (St0 (rB (Mf 1) (Mv 0)) x_35 sv_215)) (rB (Mf 1) (Mv 0)) sv_233 sv_232 sv_235 := pf_248
                  have ar_pf_248 := RfO.wr pf_248
                  refine lv_aload_n hx hb dX12_compare_163 rfl (lv_at hl 4 rfl) ?_
                  refine lv_bipush (v := 6) hx hb dX12_compare_164 (by decide) ?_
                  refine lv_iload hx hb dX12_compare_166 (lv_at hl 0 rfl) ?_
                  refine lv_iadd hx hb dX12_compare_168 ?_
                  refine lv_lit (v := 6) (by decide) ?_
                  refine lv_iconst (v := 0) hx hb dX12_compare_169 (by decide) ?_
                  have ha_250 : ((d + 1) : Int) ≤ sv_235.toInt := by
                    have z_1 : ¬ (r_13 : Int32).toInt = (0 : Int32).toInt := fun z => c_18 (Int32.toInt_inj.mp z)
                    have z_2 := congrArg Int32.toInt c_34
                    have z_3 : ¬ (r_31 : Int32).toInt = (61 : Int32).toInt := fun z => c_36 (Int32.toInt_inj.mp z)
                    have z_4 := Int32.lt_iff_toInt_lt.mp (Int32.not_le.mp c_120)
                    have z_5 : ¬ (x_205 : Int32).toInt = (61 : Int32).toInt := fun z => c_206 (Int32.toInt_inj.mp z)
                    have z_6 : ¬ (r_217 : Int32).toInt = (0 : Int32).toInt := fun z => c_222 (Int32.toInt_inj.mp z)
                    have z_7 := congrArg Int32.toInt c_223
                    have z_8 : ¬ (r_241 : Int32).toInt = (0 : Int32).toInt := fun z => c_246 (Int32.toInt_inj.mp z)
                    have y_0 : (0 : Int32).toInt = 0 := by decide
                    have y_60 : (60 : Int32).toInt = 60 := by decide
                    have y_61 : (61 : Int32).toInt = 61 := by decide
                    have y_1 : (1 : Int32).toInt = 1 := by decide
                    have t_x_35 : x_35.toInt = (sv_26 : Int32).toInt + (1 : Int32).toInt := by rw [ex_35]; exact add_toInt (by omega) (by omega)
                    omega
                  have ha_251 : (sv_237 (Mv 5).toNatClampNeg).toInt < 400 := by
                    have z_1 : ¬ (r_13 : Int32).toInt = (0 : Int32).toInt := fun z => c_18 (Int32.toInt_inj.mp z)
                    have z_2 := congrArg Int32.toInt c_34
                    have z_3 : ¬ (r_31 : Int32).toInt = (61 : Int32).toInt := fun z => c_36 (Int32.toInt_inj.mp z)
                    have z_4 := Int32.lt_iff_toInt_lt.mp (Int32.not_le.mp c_120)
                    have z_5 : ¬ (x_205 : Int32).toInt = (61 : Int32).toInt := fun z => c_206 (Int32.toInt_inj.mp z)
                    have z_6 : ¬ (r_217 : Int32).toInt = (0 : Int32).toInt := fun z => c_222 (Int32.toInt_inj.mp z)
                    have z_7 := congrArg Int32.toInt c_223
                    have z_8 : ¬ (r_241 : Int32).toInt = (0 : Int32).toInt := fun z => c_246 (Int32.toInt_inj.mp z)
                    have y_0 : (0 : Int32).toInt = 0 := by decide
                    have y_60 : (60 : Int32).toInt = 60 := by decide
                    have y_61 : (61 : Int32).toInt = 61 := by decide
                    have y_1 : (1 : Int32).toInt = 1 := by decide
                    have t_x_35 : x_35.toInt = (sv_26 : Int32).toInt + (1 : Int32).toInt := by rw [ex_35]; exact add_toInt (by omega) (by omega)
                    omega
                  refine cV (a := (Ma 0)) (As := [.int 6, .int 0]) (rest := []) (wr := [((Ma 1), .inl (tc 2, 400, .inl (Mf 1)))]) ⟨hx, hb, hml, hown, hts⟩ hK hX hA (cu_X12_puts l D tc sk (Ma 0) (Ma 1) (Ma 2) (Ma 3) (Ma 4) (Ma 5) (Ma 6) (Ma 7) (Ma 8) (Ma 9) (Ma 10) (Ma 11) (Ma 12) (Ma 13) (Ma 14) (Ma 15) (Ma 16) (Ma 17) (Ma 18) (Ma 19) (Ma 20) (Mv 0) (Mv 1) sv_232 sv_233 sv_234 (Mv 5) sv_235 (Mv 7) (Mv 8) (Mv 9) (Mv 10) (Mv 11) (Mv 12) (Mv 13) (Mv 14) sv_236 sv_237 (Mj 0) 6 0 b sv_235 ((d + 1) + 1) (d + 1) pf_247 (StpR.op (by decide) rfl (by omega)) ha_250 ha_251) k_1296 k_1293 k_1295 k_46 k_106 pl_X12_puts ⟨Nat.le_of_ble_eq_true rfl, Nat.le_of_ble_eq_true rfl⟩ rfl rfl (va_recv hK hP (ci := 12) (q0 := 0) rfl rfl) hP hD hS [0, 2, 3] [1] rfl rfl rfl rfl rfl (by decide) rfl hl.1 rfl (Nat.le_of_ble_eq_true rfl) dX12_compare_170 ⟨Nat.le_of_ble_eq_true rfl, Nat.le_of_ble_eq_true rfl⟩ (fun v_252 u_253 H locs hv_254 hP₀ hD₀ hS₀ => ?_)
                  obtain ⟨sv_255, sv_256⟩ := u_253
                  obtain ⟨rfl, pf_257, pf_258, pf_259⟩ := hv_254
                  have pf_257 : Cd sv_255 sv_256 (Mv 5) b sv_235 (d + 1) := pf_257
                  have ar_pf_257 := Cd.ar pf_257
                  have pf_258 : Agr sv_236 sv_255 (400 * ((Mv 5) : Int32).toInt + (sv_237 (Mv 5).toNatClampNeg).toInt) := pf_258
                  have pf_259 : (sv_256 (Mv 5).toNatClampNeg).toInt = (sv_237 (Mv 5).toNatClampNeg).toInt + 1 := pf_259
                  refine W.eq (g2 := F0 m 173 ls []) rfl ?_
                  replace hP : va_P D classes [((Ma 1), .inl (tc 2, 400, .inl (Mf 1))), ((Ma 0), .inr (12, [.ref (Ma 1), .int (Mv 0), .int (Mv 1), .ref (Ma 2), .ref (Ma 3), .ref (Ma 4), .ref (Ma 5), .ref (Ma 6), .int sv_232, .int sv_233, .int sv_234, .int (Mv 5), .int sv_235, .int (Mv 7), .int (Mv 8), .ref (Ma 7), .int (Mv 9), .ref (Ma 8), .int (Mv 10), .ref (Ma 9), .ref (Ma 10), .int (Mv 11), .int (Mv 12), .int (Mv 13), .ref (Ma 11), .int (Mv 14), .ref (Ma 12), .ref (Ma 13), .ref (Ma 14), .ref (Ma 15), .ref (Ma 16), .long (Mj 0), .ref (Ma 17), .ref (Ma 18), .ref (Ma 19), .ref (Ma 20)])), ((Ma 2), .inl (tc 0, 2400, .inl sv_255)), ((Ma 3), .inl (tc 0, 7, .inl sv_256))] H := hP₀
                  replace hD : va_D A [((Ma 1), .inl (tc 2, 400, .inl (Mf 1))), ((Ma 0), .inr (12, [.ref (Ma 1), .int (Mv 0), .int (Mv 1), .ref (Ma 2), .ref (Ma 3), .ref (Ma 4), .ref (Ma 5), .ref (Ma 6), .int sv_232, .int sv_233, .int sv_234, .int (Mv 5), .int sv_235, .int (Mv 7), .int (Mv 8), .ref (Ma 7), .int (Mv 9), .ref (Ma 8), .int (Mv 10), .ref (Ma 9), .ref (Ma 10), .int (Mv 11), .int (Mv 12), .int (Mv 13), .ref (Ma 11), .int (Mv 14), .ref (Ma 12), .ref (Ma 13), .ref (Ma 14), .ref (Ma 15), .ref (Ma 16), .long (Mj 0), .ref (Ma 17), .ref (Ma 18), .ref (Ma 19), .ref (Ma 20)])), ((Ma 2), .inl (tc 0, 2400, .inl sv_255)), ((Ma 3), .inl (tc 0, 7, .inl sv_256))] := hD₀
                  replace hS := hS₀
                  clear hP₀ hD₀ hS₀
                  refine lv_iconst (v := 1) hx hb dX12_compare_173 (by decide) ?_
                  have ha_260 : ((Mv 2) : Int32).toInt ≤ (sv_232 : Int32).toInt ∧ (sv_232 : Int32).toInt ≤ ((Mv 0) : Int32).toInt := by
                    have z_1 : ¬ (r_13 : Int32).toInt = (0 : Int32).toInt := fun z => c_18 (Int32.toInt_inj.mp z)
                    have z_2 := congrArg Int32.toInt c_34
                    have z_3 : ¬ (r_31 : Int32).toInt = (61 : Int32).toInt := fun z => c_36 (Int32.toInt_inj.mp z)
                    have z_4 := Int32.lt_iff_toInt_lt.mp (Int32.not_le.mp c_120)
                    have z_5 : ¬ (x_205 : Int32).toInt = (61 : Int32).toInt := fun z => c_206 (Int32.toInt_inj.mp z)
                    have z_6 : ¬ (r_217 : Int32).toInt = (0 : Int32).toInt := fun z => c_222 (Int32.toInt_inj.mp z)
                    have z_7 := congrArg Int32.toInt c_223
                    have z_8 : ¬ (r_241 : Int32).toInt = (0 : Int32).toInt := fun z => c_246 (Int32.toInt_inj.mp z)
                    have y_0 : (0 : Int32).toInt = 0 := by decide
                    have y_60 : (60 : Int32).toInt = 60 := by decide
                    have y_61 : (61 : Int32).toInt = 61 := by decide
                    have y_1 : (1 : Int32).toInt = 1 := by decide
                    have t_x_35 : x_35.toInt = (sv_26 : Int32).toInt + (1 : Int32).toInt := by rw [ex_35]; exact add_toInt (by omega) (by omega)
                    omega
                  have ha_261 : ((Mv 6) : Int32).toInt ≤ (sv_235 : Int32).toInt ∧ (sv_235 : Int32).toInt ≤ 60 := by
                    have z_1 : ¬ (r_13 : Int32).toInt = (0 : Int32).toInt := fun z => c_18 (Int32.toInt_inj.mp z)
                    have z_2 := congrArg Int32.toInt c_34
                    have z_3 : ¬ (r_31 : Int32).toInt = (61 : Int32).toInt := fun z => c_36 (Int32.toInt_inj.mp z)
                    have z_4 := Int32.lt_iff_toInt_lt.mp (Int32.not_le.mp c_120)
                    have z_5 : ¬ (x_205 : Int32).toInt = (61 : Int32).toInt := fun z => c_206 (Int32.toInt_inj.mp z)
                    have z_6 : ¬ (r_217 : Int32).toInt = (0 : Int32).toInt := fun z => c_222 (Int32.toInt_inj.mp z)
                    have z_7 := congrArg Int32.toInt c_223
                    have z_8 : ¬ (r_241 : Int32).toInt = (0 : Int32).toInt := fun z => c_246 (Int32.toInt_inj.mp z)
                    have y_0 : (0 : Int32).toInt = 0 := by decide
                    have y_60 : (60 : Int32).toInt = 60 := by decide
                    have y_61 : (61 : Int32).toInt = 61 := by decide
                    have y_1 : (1 : Int32).toInt = 1 := by decide
                    have t_x_35 : x_35.toInt = (sv_26 : Int32).toInt + (1 : Int32).toInt := by rw [ex_35]; exact add_toInt (by omega) (by omega)
                    omega
                  have hr_262 : (400 * ((Mv 5) : Int32).toInt + ((Mf 3) (Mv 5).toNatClampNeg).toInt) ≤ (400 * ((Mv 5) : Int32).toInt + ((Mf 3) (Mv 5).toNatClampNeg).toInt) := by
                    have z_1 : ¬ (r_13 : Int32).toInt = (0 : Int32).toInt := fun z => c_18 (Int32.toInt_inj.mp z)
                    have z_2 := congrArg Int32.toInt c_34
                    have z_3 : ¬ (r_31 : Int32).toInt = (61 : Int32).toInt := fun z => c_36 (Int32.toInt_inj.mp z)
                    have z_4 := Int32.lt_iff_toInt_lt.mp (Int32.not_le.mp c_120)
                    have z_5 : ¬ (x_205 : Int32).toInt = (61 : Int32).toInt := fun z => c_206 (Int32.toInt_inj.mp z)
                    have z_6 : ¬ (r_217 : Int32).toInt = (0 : Int32).toInt := fun z => c_222 (Int32.toInt_inj.mp z)
                    have z_7 := congrArg Int32.toInt c_223
                    have z_8 : ¬ (r_241 : Int32).toInt = (0 : Int32).toInt := fun z => c_246 (Int32.toInt_inj.mp z)
                    have y_0 : (0 : Int32).toInt = 0 := by decide
                    have y_60 : (60 : Int32).toInt = 60 := by decide
                    have y_61 : (61 : Int32).toInt = 61 := by decide
                    have y_1 : (1 : Int32).toInt = 1 := by decide
                    have t_x_35 : x_35.toInt = (sv_26 : Int32).toInt + (1 : Int32).toInt := by rw [ex_35]; exact add_toInt (by omega) (by omega)
                    omega
                  have hr_263 : (400 * ((Mv 5) : Int32).toInt + ((Mf 3) (Mv 5).toNatClampNeg).toInt) ≤ (400 * ((Mv 5) : Int32).toInt + (sv_9 (Mv 5).toNatClampNeg).toInt) := by
                    have z_1 : ¬ (r_13 : Int32).toInt = (0 : Int32).toInt := fun z => c_18 (Int32.toInt_inj.mp z)
                    have z_2 := congrArg Int32.toInt c_34
                    have z_3 : ¬ (r_31 : Int32).toInt = (61 : Int32).toInt := fun z => c_36 (Int32.toInt_inj.mp z)
                    have z_4 := Int32.lt_iff_toInt_lt.mp (Int32.not_le.mp c_120)
                    have z_5 : ¬ (x_205 : Int32).toInt = (61 : Int32).toInt := fun z => c_206 (Int32.toInt_inj.mp z)
                    have z_6 : ¬ (r_217 : Int32).toInt = (0 : Int32).toInt := fun z => c_222 (Int32.toInt_inj.mp z)
                    have z_7 := congrArg Int32.toInt c_223
                    have z_8 : ¬ (r_241 : Int32).toInt = (0 : Int32).toInt := fun z => c_246 (Int32.toInt_inj.mp z)
                    have y_0 : (0 : Int32).toInt = 0 := by decide
                    have y_60 : (60 : Int32).toInt = 60 := by decide
                    have y_61 : (61 : Int32).toInt = 61 := by decide
                    have y_1 : (1 : Int32).toInt = 1 := by decide
                    have t_x_35 : x_35.toInt = (sv_26 : Int32).toInt + (1 : Int32).toInt := by rw [ex_35]; exact add_toInt (by omega) (by omega)
                    omega
                  have hr_264 : (400 * ((Mv 5) : Int32).toInt + ((Mf 3) (Mv 5).toNatClampNeg).toInt) ≤ (400 * ((Mv 5) : Int32).toInt + (sv_237 (Mv 5).toNatClampNeg).toInt) := by
                    have z_1 : ¬ (r_13 : Int32).toInt = (0 : Int32).toInt := fun z => c_18 (Int32.toInt_inj.mp z)
                    have z_2 := congrArg Int32.toInt c_34
                    have z_3 : ¬ (r_31 : Int32).toInt = (61 : Int32).toInt := fun z => c_36 (Int32.toInt_inj.mp z)
                    have z_4 := Int32.lt_iff_toInt_lt.mp (Int32.not_le.mp c_120)
                    have z_5 : ¬ (x_205 : Int32).toInt = (61 : Int32).toInt := fun z => c_206 (Int32.toInt_inj.mp z)
                    have z_6 : ¬ (r_217 : Int32).toInt = (0 : Int32).toInt := fun z => c_222 (Int32.toInt_inj.mp z)
                    have z_7 := congrArg Int32.toInt c_223
                    have z_8 : ¬ (r_241 : Int32).toInt = (0 : Int32).toInt := fun z => c_246 (Int32.toInt_inj.mp z)
                    have y_0 : (0 : Int32).toInt = 0 := by decide
                    have y_60 : (60 : Int32).toInt = 60 := by decide
                    have y_61 : (61 : Int32).toInt = 61 := by decide
                    have y_1 : (1 : Int32).toInt = 1 := by decide
                    have t_x_35 : x_35.toInt = (sv_26 : Int32).toInt + (1 : Int32).toInt := by rw [ex_35]; exact add_toInt (by omega) (by omega)
                    omega
                  have hp_265 : (((1 : Int32).toInt = 0 ∧ ¬ (sv_233 : Int32).toInt = 0) ∨ ((1 : Int32).toInt = 1 ∧ ((Mf 3) (Mv 5).toNatClampNeg).toInt + 1 ≤ (sv_256 (Mv 5).toNatClampNeg).toInt ∧ (sv_256 (Mv 5).toNatClampNeg).toInt + ((Mv 2) : Int32).toInt ≤ ((Mf 3) (Mv 5).toNatClampNeg).toInt + (sv_232 : Int32).toInt ∧ ((Mv 2) : Int32).toInt + 1 ≤ (sv_232 : Int32).toInt)) := by
                    have z_1 : ¬ (r_13 : Int32).toInt = (0 : Int32).toInt := fun z => c_18 (Int32.toInt_inj.mp z)
                    have z_2 := congrArg Int32.toInt c_34
                    have z_3 : ¬ (r_31 : Int32).toInt = (61 : Int32).toInt := fun z => c_36 (Int32.toInt_inj.mp z)
                    have z_4 := Int32.lt_iff_toInt_lt.mp (Int32.not_le.mp c_120)
                    have z_5 : ¬ (x_205 : Int32).toInt = (61 : Int32).toInt := fun z => c_206 (Int32.toInt_inj.mp z)
                    have z_6 : ¬ (r_217 : Int32).toInt = (0 : Int32).toInt := fun z => c_222 (Int32.toInt_inj.mp z)
                    have z_7 := congrArg Int32.toInt c_223
                    have z_8 : ¬ (r_241 : Int32).toInt = (0 : Int32).toInt := fun z => c_246 (Int32.toInt_inj.mp z)
                    have y_0 : (0 : Int32).toInt = 0 := by decide
                    have y_60 : (60 : Int32).toInt = 60 := by decide
                    have y_61 : (61 : Int32).toInt = 61 := by decide
                    have y_1 : (1 : Int32).toInt = 1 := by decide
                    have t_x_35 : x_35.toInt = (sv_26 : Int32).toInt + (1 : Int32).toInt := by rw [ex_35]; exact add_toInt (by omega) (by omega)
                    have yr : (1 : Int32).toInt = 1 := by decide
                    omega
                  have hm_266 : (1 : Int32).toInt = 1 → (Cd sv_255 sv_256 (Mv 5) b sv_235 (d + 1)) ∧ (RfO (pz_com (rB (Mf 1) (Mv 0)) (St0 (rB (Mf 1) (Mv 0)) (Mv 2) (Mv 6))) (rB (Mf 1) (Mv 0)) sv_233 sv_232 sv_235) := by
                    intro h1r
                    have hr_267 : (rB (Mf 1) (Mv 0) (sv_26 : Int32).toInt.toNat = 60 ∨ rB (Mf 1) (Mv 0) (sv_26 : Int32).toInt.toNat = 61 ∨ rB (Mf 1) (Mv 0) (sv_26 : Int32).toInt.toNat = 62) := by
                      have z_1 : ¬ (r_13 : Int32).toInt = (0 : Int32).toInt := fun z => c_18 (Int32.toInt_inj.mp z)
                      have z_2 := congrArg Int32.toInt c_34
                      have z_3 : ¬ (r_31 : Int32).toInt = (61 : Int32).toInt := fun z => c_36 (Int32.toInt_inj.mp z)
                      have z_4 := Int32.lt_iff_toInt_lt.mp (Int32.not_le.mp c_120)
                      have z_5 : ¬ (x_205 : Int32).toInt = (61 : Int32).toInt := fun z => c_206 (Int32.toInt_inj.mp z)
                      have z_6 : ¬ (r_217 : Int32).toInt = (0 : Int32).toInt := fun z => c_222 (Int32.toInt_inj.mp z)
                      have z_7 := congrArg Int32.toInt c_223
                      have z_8 : ¬ (r_241 : Int32).toInt = (0 : Int32).toInt := fun z => c_246 (Int32.toInt_inj.mp z)
                      have y_0 : (0 : Int32).toInt = 0 := by decide
                      have y_60 : (60 : Int32).toInt = 60 := by decide
                      have y_61 : (61 : Int32).toInt = 61 := by decide
                      have y_1 : (1 : Int32).toInt = 1 := by decide
                      have t_x_35 : x_35.toInt = (sv_26 : Int32).toInt + (1 : Int32).toInt := by rw [ex_35]; exact add_toInt (by omega) (by omega)
                      omega
                    have rg_268 := rB_rg (n := (Mv 0)) h_bs ((sv_26 : Int32).toInt.toNat + 1)
                    have hk_269 : ((Mf 1) (x_35 : Int32).toInt.toNat).toInt = ((Mf 1) ((sv_26 : Int32).toInt.toNat + 1)).toInt := congrArg (fun z => ((Mf 1) z).toInt) (by
                      have z_1 : ¬ (r_13 : Int32).toInt = (0 : Int32).toInt := fun z => c_18 (Int32.toInt_inj.mp z)
                      have z_2 := congrArg Int32.toInt c_34
                      have z_3 : ¬ (r_31 : Int32).toInt = (61 : Int32).toInt := fun z => c_36 (Int32.toInt_inj.mp z)
                      have z_4 := Int32.lt_iff_toInt_lt.mp (Int32.not_le.mp c_120)
                      have z_5 : ¬ (x_205 : Int32).toInt = (61 : Int32).toInt := fun z => c_206 (Int32.toInt_inj.mp z)
                      have z_6 : ¬ (r_217 : Int32).toInt = (0 : Int32).toInt := fun z => c_222 (Int32.toInt_inj.mp z)
                      have z_7 := congrArg Int32.toInt c_223
                      have z_8 : ¬ (r_241 : Int32).toInt = (0 : Int32).toInt := fun z => c_246 (Int32.toInt_inj.mp z)
                      have y_0 : (0 : Int32).toInt = 0 := by decide
                      have y_60 : (60 : Int32).toInt = 60 := by decide
                      have y_61 : (61 : Int32).toInt = 61 := by decide
                      have y_1 : (1 : Int32).toInt = 1 := by decide
                      have t_x_35 : x_35.toInt = (sv_26 : Int32).toInt + (1 : Int32).toInt := by rw [ex_35]; exact add_toInt (by omega) (by omega)
                      omega)
                    have hr_270 : ((x_35 : Int32).toInt = (sv_26 : Int32).toInt + 1 ∧ ¬ ((rB (Mf 1) (Mv 0) (sv_26 : Int32).toInt.toNat = 60 ∨ rB (Mf 1) (Mv 0) (sv_26 : Int32).toInt.toNat = 62) ∧ rB (Mf 1) (Mv 0) ((sv_26 : Int32).toInt.toNat + 1) = 61)) ∨ ((x_35 : Int32).toInt = (sv_26 : Int32).toInt + 2 ∧ (rB (Mf 1) (Mv 0) (sv_26 : Int32).toInt.toNat = 60 ∨ rB (Mf 1) (Mv 0) (sv_26 : Int32).toInt.toNat = 62) ∧ rB (Mf 1) (Mv 0) ((sv_26 : Int32).toInt.toNat + 1) = 61) := by
                      have z_1 : ¬ (r_13 : Int32).toInt = (0 : Int32).toInt := fun z => c_18 (Int32.toInt_inj.mp z)
                      have z_2 := congrArg Int32.toInt c_34
                      have z_3 : ¬ (r_31 : Int32).toInt = (61 : Int32).toInt := fun z => c_36 (Int32.toInt_inj.mp z)
                      have z_4 := Int32.lt_iff_toInt_lt.mp (Int32.not_le.mp c_120)
                      have z_5 : ¬ (x_205 : Int32).toInt = (61 : Int32).toInt := fun z => c_206 (Int32.toInt_inj.mp z)
                      have z_6 : ¬ (r_217 : Int32).toInt = (0 : Int32).toInt := fun z => c_222 (Int32.toInt_inj.mp z)
                      have z_7 := congrArg Int32.toInt c_223
                      have z_8 : ¬ (r_241 : Int32).toInt = (0 : Int32).toInt := fun z => c_246 (Int32.toInt_inj.mp z)
                      have y_0 : (0 : Int32).toInt = 0 := by decide
                      have y_60 : (60 : Int32).toInt = 60 := by decide
                      have y_61 : (61 : Int32).toInt = 61 := by decide
                      have y_1 : (1 : Int32).toInt = 1 := by decide
                      have t_x_35 : x_35.toInt = (sv_26 : Int32).toInt + (1 : Int32).toInt := by rw [ex_35]; exact add_toInt (by omega) (by omega)
                      omega
                    have hr_271 : 0 ≤ (sv_7 : Int32).toInt ∧ (sv_7 : Int32).toInt < 60 ∧ (sv_215 : Int32).toInt = (sv_7 : Int32).toInt + 1 := by
                      have z_1 : ¬ (r_13 : Int32).toInt = (0 : Int32).toInt := fun z => c_18 (Int32.toInt_inj.mp z)
                      have z_2 := congrArg Int32.toInt c_34
                      have z_3 : ¬ (r_31 : Int32).toInt = (61 : Int32).toInt := fun z => c_36 (Int32.toInt_inj.mp z)
                      have z_4 := Int32.lt_iff_toInt_lt.mp (Int32.not_le.mp c_120)
                      have z_5 : ¬ (x_205 : Int32).toInt = (61 : Int32).toInt := fun z => c_206 (Int32.toInt_inj.mp z)
                      have z_6 : ¬ (r_217 : Int32).toInt = (0 : Int32).toInt := fun z => c_222 (Int32.toInt_inj.mp z)
                      have z_7 := congrArg Int32.toInt c_223
                      have z_8 : ¬ (r_241 : Int32).toInt = (0 : Int32).toInt := fun z => c_246 (Int32.toInt_inj.mp z)
                      have y_0 : (0 : Int32).toInt = 0 := by decide
                      have y_60 : (60 : Int32).toInt = 60 := by decide
                      have y_61 : (61 : Int32).toInt = 61 := by decide
                      have y_1 : (1 : Int32).toInt = 1 := by decide
                      have t_x_35 : x_35.toInt = (sv_26 : Int32).toInt + (1 : Int32).toInt := by rw [ex_35]; exact add_toInt (by omega) (by omega)
                      omega
                    exact ⟨pf_257, (RfO.com pf_20 pf_30 hr_267 hr_270 hr_271 pf_248)⟩
                  exact retI (v := 1) hx hb hr hlk (rfl) hP hD hS (sv_232, sv_233, sv_234, sv_235, sv_255, sv_256) ⟨_, rfl, hp_265, ha_260, ha_261, (Agr.trans (k' := (400 * ((Mv 5) : Int32).toInt + ((Mf 3) (Mv 5).toNatClampNeg).toInt)) (Agr.trans (k' := (400 * ((Mv 5) : Int32).toInt + ((Mf 3) (Mv 5).toNatClampNeg).toInt)) (Agr.mono pf_12 hr_262) pf_240 ⟨Int.le_refl _, hr_263⟩) pf_258 ⟨Int.le_refl _, hr_264⟩), hm_266, (fun h => absurd h (by decide))⟩ [1, 0, 2, 3] rfl rfl dX12_compare_174 (Nat.le_of_ble_eq_true rfl) (Nat.le_of_ble_eq_true rfl) rfl
                · skip
                  have hz_273 : (r_241 : Int32).toInt = 0 := by
                    have z_1 : ¬ (r_13 : Int32).toInt = (0 : Int32).toInt := fun z => c_18 (Int32.toInt_inj.mp z)
                    have z_2 := congrArg Int32.toInt c_34
                    have z_3 : ¬ (r_31 : Int32).toInt = (61 : Int32).toInt := fun z => c_36 (Int32.toInt_inj.mp z)
                    have z_4 := Int32.lt_iff_toInt_lt.mp (Int32.not_le.mp c_120)
                    have z_5 : ¬ (x_205 : Int32).toInt = (61 : Int32).toInt := fun z => c_206 (Int32.toInt_inj.mp z)
                    have z_6 : ¬ (r_217 : Int32).toInt = (0 : Int32).toInt := fun z => c_222 (Int32.toInt_inj.mp z)
                    have z_7 := congrArg Int32.toInt c_223
                    have z_8 := congrArg Int32.toInt c_246
                    have y_0 : (0 : Int32).toInt = 0 := by decide
                    have y_60 : (60 : Int32).toInt = 60 := by decide
                    have y_61 : (61 : Int32).toInt = 61 := by decide
                    have y_1 : (1 : Int32).toInt = 1 := by decide
                    have t_x_35 : x_35.toInt = (sv_26 : Int32).toInt + (1 : Int32).toInt := by rw [ex_35]; exact add_toInt (by omega) (by omega)
                    omega
                  obtain pf_272 := hm_245 hz_273
                  have pf_272 : RfE (pz_sum (rB (Mf 1) (Mv 0)) (St0 (rB (Mf 1) (Mv 0)) x_35 sv_215)) sv_233 := pf_272
                  refine lv_iconst (v := 0) hx hb dX12_compare_161 (by decide) ?_
                  have ha_274 : ((Mv 2) : Int32).toInt ≤ (sv_232 : Int32).toInt ∧ (sv_232 : Int32).toInt ≤ ((Mv 0) : Int32).toInt := by
                    have z_1 : ¬ (r_13 : Int32).toInt = (0 : Int32).toInt := fun z => c_18 (Int32.toInt_inj.mp z)
                    have z_2 := congrArg Int32.toInt c_34
                    have z_3 : ¬ (r_31 : Int32).toInt = (61 : Int32).toInt := fun z => c_36 (Int32.toInt_inj.mp z)
                    have z_4 := Int32.lt_iff_toInt_lt.mp (Int32.not_le.mp c_120)
                    have z_5 : ¬ (x_205 : Int32).toInt = (61 : Int32).toInt := fun z => c_206 (Int32.toInt_inj.mp z)
                    have z_6 : ¬ (r_217 : Int32).toInt = (0 : Int32).toInt := fun z => c_222 (Int32.toInt_inj.mp z)
                    have z_7 := congrArg Int32.toInt c_223
                    have z_8 := congrArg Int32.toInt c_246
                    have y_0 : (0 : Int32).toInt = 0 := by decide
                    have y_60 : (60 : Int32).toInt = 60 := by decide
                    have y_61 : (61 : Int32).toInt = 61 := by decide
                    have y_1 : (1 : Int32).toInt = 1 := by decide
                    have t_x_35 : x_35.toInt = (sv_26 : Int32).toInt + (1 : Int32).toInt := by rw [ex_35]; exact add_toInt (by omega) (by omega)
                    omega
                  have ha_275 : ((Mv 6) : Int32).toInt ≤ (sv_235 : Int32).toInt ∧ (sv_235 : Int32).toInt ≤ 60 := by
                    have z_1 : ¬ (r_13 : Int32).toInt = (0 : Int32).toInt := fun z => c_18 (Int32.toInt_inj.mp z)
                    have z_2 := congrArg Int32.toInt c_34
                    have z_3 : ¬ (r_31 : Int32).toInt = (61 : Int32).toInt := fun z => c_36 (Int32.toInt_inj.mp z)
                    have z_4 := Int32.lt_iff_toInt_lt.mp (Int32.not_le.mp c_120)
                    have z_5 : ¬ (x_205 : Int32).toInt = (61 : Int32).toInt := fun z => c_206 (Int32.toInt_inj.mp z)
                    have z_6 : ¬ (r_217 : Int32).toInt = (0 : Int32).toInt := fun z => c_222 (Int32.toInt_inj.mp z)
                    have z_7 := congrArg Int32.toInt c_223
                    have z_8 := congrArg Int32.toInt c_246
                    have y_0 : (0 : Int32).toInt = 0 := by decide
                    have y_60 : (60 : Int32).toInt = 60 := by decide
                    have y_61 : (61 : Int32).toInt = 61 := by decide
                    have y_1 : (1 : Int32).toInt = 1 := by decide
                    have t_x_35 : x_35.toInt = (sv_26 : Int32).toInt + (1 : Int32).toInt := by rw [ex_35]; exact add_toInt (by omega) (by omega)
                    omega
                  have hr_276 : (400 * ((Mv 5) : Int32).toInt + ((Mf 3) (Mv 5).toNatClampNeg).toInt) ≤ (400 * ((Mv 5) : Int32).toInt + ((Mf 3) (Mv 5).toNatClampNeg).toInt) := by
                    have z_1 : ¬ (r_13 : Int32).toInt = (0 : Int32).toInt := fun z => c_18 (Int32.toInt_inj.mp z)
                    have z_2 := congrArg Int32.toInt c_34
                    have z_3 : ¬ (r_31 : Int32).toInt = (61 : Int32).toInt := fun z => c_36 (Int32.toInt_inj.mp z)
                    have z_4 := Int32.lt_iff_toInt_lt.mp (Int32.not_le.mp c_120)
                    have z_5 : ¬ (x_205 : Int32).toInt = (61 : Int32).toInt := fun z => c_206 (Int32.toInt_inj.mp z)
                    have z_6 : ¬ (r_217 : Int32).toInt = (0 : Int32).toInt := fun z => c_222 (Int32.toInt_inj.mp z)
                    have z_7 := congrArg Int32.toInt c_223
                    have z_8 := congrArg Int32.toInt c_246
                    have y_0 : (0 : Int32).toInt = 0 := by decide
                    have y_60 : (60 : Int32).toInt = 60 := by decide
                    have y_61 : (61 : Int32).toInt = 61 := by decide
                    have y_1 : (1 : Int32).toInt = 1 := by decide
                    have t_x_35 : x_35.toInt = (sv_26 : Int32).toInt + (1 : Int32).toInt := by rw [ex_35]; exact add_toInt (by omega) (by omega)
                    omega
                  have hr_277 : (400 * ((Mv 5) : Int32).toInt + ((Mf 3) (Mv 5).toNatClampNeg).toInt) ≤ (400 * ((Mv 5) : Int32).toInt + (sv_9 (Mv 5).toNatClampNeg).toInt) := by
                    have z_1 : ¬ (r_13 : Int32).toInt = (0 : Int32).toInt := fun z => c_18 (Int32.toInt_inj.mp z)
                    have z_2 := congrArg Int32.toInt c_34
                    have z_3 : ¬ (r_31 : Int32).toInt = (61 : Int32).toInt := fun z => c_36 (Int32.toInt_inj.mp z)
                    have z_4 := Int32.lt_iff_toInt_lt.mp (Int32.not_le.mp c_120)
                    have z_5 : ¬ (x_205 : Int32).toInt = (61 : Int32).toInt := fun z => c_206 (Int32.toInt_inj.mp z)
                    have z_6 : ¬ (r_217 : Int32).toInt = (0 : Int32).toInt := fun z => c_222 (Int32.toInt_inj.mp z)
                    have z_7 := congrArg Int32.toInt c_223
                    have z_8 := congrArg Int32.toInt c_246
                    have y_0 : (0 : Int32).toInt = 0 := by decide
                    have y_60 : (60 : Int32).toInt = 60 := by decide
                    have y_61 : (61 : Int32).toInt = 61 := by decide
                    have y_1 : (1 : Int32).toInt = 1 := by decide
                    have t_x_35 : x_35.toInt = (sv_26 : Int32).toInt + (1 : Int32).toInt := by rw [ex_35]; exact add_toInt (by omega) (by omega)
                    omega
                  have hp_278 : (((0 : Int32).toInt = 0 ∧ ¬ (sv_233 : Int32).toInt = 0) ∨ ((0 : Int32).toInt = 1 ∧ ((Mf 3) (Mv 5).toNatClampNeg).toInt + 1 ≤ (sv_237 (Mv 5).toNatClampNeg).toInt ∧ (sv_237 (Mv 5).toNatClampNeg).toInt + ((Mv 2) : Int32).toInt ≤ ((Mf 3) (Mv 5).toNatClampNeg).toInt + (sv_232 : Int32).toInt ∧ ((Mv 2) : Int32).toInt + 1 ≤ (sv_232 : Int32).toInt)) := by
                    have z_1 : ¬ (r_13 : Int32).toInt = (0 : Int32).toInt := fun z => c_18 (Int32.toInt_inj.mp z)
                    have z_2 := congrArg Int32.toInt c_34
                    have z_3 : ¬ (r_31 : Int32).toInt = (61 : Int32).toInt := fun z => c_36 (Int32.toInt_inj.mp z)
                    have z_4 := Int32.lt_iff_toInt_lt.mp (Int32.not_le.mp c_120)
                    have z_5 : ¬ (x_205 : Int32).toInt = (61 : Int32).toInt := fun z => c_206 (Int32.toInt_inj.mp z)
                    have z_6 : ¬ (r_217 : Int32).toInt = (0 : Int32).toInt := fun z => c_222 (Int32.toInt_inj.mp z)
                    have z_7 := congrArg Int32.toInt c_223
                    have z_8 := congrArg Int32.toInt c_246
                    have y_0 : (0 : Int32).toInt = 0 := by decide
                    have y_60 : (60 : Int32).toInt = 60 := by decide
                    have y_61 : (61 : Int32).toInt = 61 := by decide
                    have y_1 : (1 : Int32).toInt = 1 := by decide
                    have t_x_35 : x_35.toInt = (sv_26 : Int32).toInt + (1 : Int32).toInt := by rw [ex_35]; exact add_toInt (by omega) (by omega)
                    omega
                  have hm_279 : (0 : Int32).toInt = 0 → (RfE (pz_com (rB (Mf 1) (Mv 0)) (St0 (rB (Mf 1) (Mv 0)) (Mv 2) (Mv 6))) sv_233) := by
                    intro h1r
                    have hr_280 : (rB (Mf 1) (Mv 0) (sv_26 : Int32).toInt.toNat = 60 ∨ rB (Mf 1) (Mv 0) (sv_26 : Int32).toInt.toNat = 61 ∨ rB (Mf 1) (Mv 0) (sv_26 : Int32).toInt.toNat = 62) := by
                      have z_1 : ¬ (r_13 : Int32).toInt = (0 : Int32).toInt := fun z => c_18 (Int32.toInt_inj.mp z)
                      have z_2 := congrArg Int32.toInt c_34
                      have z_3 : ¬ (r_31 : Int32).toInt = (61 : Int32).toInt := fun z => c_36 (Int32.toInt_inj.mp z)
                      have z_4 := Int32.lt_iff_toInt_lt.mp (Int32.not_le.mp c_120)
                      have z_5 : ¬ (x_205 : Int32).toInt = (61 : Int32).toInt := fun z => c_206 (Int32.toInt_inj.mp z)
                      have z_6 : ¬ (r_217 : Int32).toInt = (0 : Int32).toInt := fun z => c_222 (Int32.toInt_inj.mp z)
                      have z_7 := congrArg Int32.toInt c_223
                      have z_8 := congrArg Int32.toInt c_246
                      have y_0 : (0 : Int32).toInt = 0 := by decide
                      have y_60 : (60 : Int32).toInt = 60 := by decide
                      have y_61 : (61 : Int32).toInt = 61 := by decide
                      have y_1 : (1 : Int32).toInt = 1 := by decide
                      have t_x_35 : x_35.toInt = (sv_26 : Int32).toInt + (1 : Int32).toInt := by rw [ex_35]; exact add_toInt (by omega) (by omega)
                      omega
                    have rg_281 := rB_rg (n := (Mv 0)) h_bs ((sv_26 : Int32).toInt.toNat + 1)
                    have hk_282 : ((Mf 1) (x_35 : Int32).toInt.toNat).toInt = ((Mf 1) ((sv_26 : Int32).toInt.toNat + 1)).toInt := congrArg (fun z => ((Mf 1) z).toInt) (by
                      have z_1 : ¬ (r_13 : Int32).toInt = (0 : Int32).toInt := fun z => c_18 (Int32.toInt_inj.mp z)
                      have z_2 := congrArg Int32.toInt c_34
                      have z_3 : ¬ (r_31 : Int32).toInt = (61 : Int32).toInt := fun z => c_36 (Int32.toInt_inj.mp z)
                      have z_4 := Int32.lt_iff_toInt_lt.mp (Int32.not_le.mp c_120)
                      have z_5 : ¬ (x_205 : Int32).toInt = (61 : Int32).toInt := fun z => c_206 (Int32.toInt_inj.mp z)
                      have z_6 : ¬ (r_217 : Int32).toInt = (0 : Int32).toInt := fun z => c_222 (Int32.toInt_inj.mp z)
                      have z_7 := congrArg Int32.toInt c_223
                      have z_8 := congrArg Int32.toInt c_246
                      have y_0 : (0 : Int32).toInt = 0 := by decide
                      have y_60 : (60 : Int32).toInt = 60 := by decide
                      have y_61 : (61 : Int32).toInt = 61 := by decide
                      have y_1 : (1 : Int32).toInt = 1 := by decide
                      have t_x_35 : x_35.toInt = (sv_26 : Int32).toInt + (1 : Int32).toInt := by rw [ex_35]; exact add_toInt (by omega) (by omega)
                      omega)
                    have hr_283 : ((x_35 : Int32).toInt = (sv_26 : Int32).toInt + 1 ∧ ¬ ((rB (Mf 1) (Mv 0) (sv_26 : Int32).toInt.toNat = 60 ∨ rB (Mf 1) (Mv 0) (sv_26 : Int32).toInt.toNat = 62) ∧ rB (Mf 1) (Mv 0) ((sv_26 : Int32).toInt.toNat + 1) = 61)) ∨ ((x_35 : Int32).toInt = (sv_26 : Int32).toInt + 2 ∧ (rB (Mf 1) (Mv 0) (sv_26 : Int32).toInt.toNat = 60 ∨ rB (Mf 1) (Mv 0) (sv_26 : Int32).toInt.toNat = 62) ∧ rB (Mf 1) (Mv 0) ((sv_26 : Int32).toInt.toNat + 1) = 61) := by
                      have z_1 : ¬ (r_13 : Int32).toInt = (0 : Int32).toInt := fun z => c_18 (Int32.toInt_inj.mp z)
                      have z_2 := congrArg Int32.toInt c_34
                      have z_3 : ¬ (r_31 : Int32).toInt = (61 : Int32).toInt := fun z => c_36 (Int32.toInt_inj.mp z)
                      have z_4 := Int32.lt_iff_toInt_lt.mp (Int32.not_le.mp c_120)
                      have z_5 : ¬ (x_205 : Int32).toInt = (61 : Int32).toInt := fun z => c_206 (Int32.toInt_inj.mp z)
                      have z_6 : ¬ (r_217 : Int32).toInt = (0 : Int32).toInt := fun z => c_222 (Int32.toInt_inj.mp z)
                      have z_7 := congrArg Int32.toInt c_223
                      have z_8 := congrArg Int32.toInt c_246
                      have y_0 : (0 : Int32).toInt = 0 := by decide
                      have y_60 : (60 : Int32).toInt = 60 := by decide
                      have y_61 : (61 : Int32).toInt = 61 := by decide
                      have y_1 : (1 : Int32).toInt = 1 := by decide
                      have t_x_35 : x_35.toInt = (sv_26 : Int32).toInt + (1 : Int32).toInt := by rw [ex_35]; exact add_toInt (by omega) (by omega)
                      omega
                    have hr_284 : 0 ≤ (sv_7 : Int32).toInt ∧ (sv_7 : Int32).toInt < 60 ∧ (sv_215 : Int32).toInt = (sv_7 : Int32).toInt + 1 := by
                      have z_1 : ¬ (r_13 : Int32).toInt = (0 : Int32).toInt := fun z => c_18 (Int32.toInt_inj.mp z)
                      have z_2 := congrArg Int32.toInt c_34
                      have z_3 : ¬ (r_31 : Int32).toInt = (61 : Int32).toInt := fun z => c_36 (Int32.toInt_inj.mp z)
                      have z_4 := Int32.lt_iff_toInt_lt.mp (Int32.not_le.mp c_120)
                      have z_5 : ¬ (x_205 : Int32).toInt = (61 : Int32).toInt := fun z => c_206 (Int32.toInt_inj.mp z)
                      have z_6 : ¬ (r_217 : Int32).toInt = (0 : Int32).toInt := fun z => c_222 (Int32.toInt_inj.mp z)
                      have z_7 := congrArg Int32.toInt c_223
                      have z_8 := congrArg Int32.toInt c_246
                      have y_0 : (0 : Int32).toInt = 0 := by decide
                      have y_60 : (60 : Int32).toInt = 60 := by decide
                      have y_61 : (61 : Int32).toInt = 61 := by decide
                      have y_1 : (1 : Int32).toInt = 1 := by decide
                      have t_x_35 : x_35.toInt = (sv_26 : Int32).toInt + (1 : Int32).toInt := by rw [ex_35]; exact add_toInt (by omega) (by omega)
                      omega
                    exact (RfE.com2 pf_20 pf_30 hr_280 hr_283 hr_284 pf_272)
                  exact retI (v := 0) hx hb hr hlk (rfl) hP hD hS (sv_232, sv_233, sv_234, sv_235, sv_236, sv_237) ⟨_, rfl, hp_278, ha_274, ha_275, (Agr.trans (k' := (400 * ((Mv 5) : Int32).toInt + ((Mf 3) (Mv 5).toNatClampNeg).toInt)) (Agr.mono pf_12 hr_276) pf_240 ⟨Int.le_refl _, hr_277⟩), (fun h => absurd h (by decide)), hm_279⟩ [0, 1, 2, 3] rfl rfl dX12_compare_162 (Nat.le_of_ble_eq_true rfl) (Nat.le_of_ble_eq_true rfl) rfl
            · skip
              refine lv_iconst (v := 0) hx hb dX12_compare_113 (by decide) ?_
              have ha_285 : ((Mv 2) : Int32).toInt ≤ (x_35 : Int32).toInt ∧ (x_35 : Int32).toInt ≤ ((Mv 0) : Int32).toInt := by
                have z_1 : ¬ (r_13 : Int32).toInt = (0 : Int32).toInt := fun z => c_18 (Int32.toInt_inj.mp z)
                have z_2 := congrArg Int32.toInt c_34
                have z_3 : ¬ (r_31 : Int32).toInt = (61 : Int32).toInt := fun z => c_36 (Int32.toInt_inj.mp z)
                have z_4 := Int32.lt_iff_toInt_lt.mp (Int32.not_le.mp c_120)
                have z_5 : ¬ (x_205 : Int32).toInt = (61 : Int32).toInt := fun z => c_206 (Int32.toInt_inj.mp z)
                have z_6 := congrArg Int32.toInt c_222
                have y_0 : (0 : Int32).toInt = 0 := by decide
                have y_60 : (60 : Int32).toInt = 60 := by decide
                have y_61 : (61 : Int32).toInt = 61 := by decide
                have y_1 : (1 : Int32).toInt = 1 := by decide
                have t_x_35 : x_35.toInt = (sv_26 : Int32).toInt + (1 : Int32).toInt := by rw [ex_35]; exact add_toInt (by omega) (by omega)
                omega
              have ha_286 : ((Mv 6) : Int32).toInt ≤ (sv_215 : Int32).toInt ∧ (sv_215 : Int32).toInt ≤ 60 := by
                have z_1 : ¬ (r_13 : Int32).toInt = (0 : Int32).toInt := fun z => c_18 (Int32.toInt_inj.mp z)
                have z_2 := congrArg Int32.toInt c_34
                have z_3 : ¬ (r_31 : Int32).toInt = (61 : Int32).toInt := fun z => c_36 (Int32.toInt_inj.mp z)
                have z_4 := Int32.lt_iff_toInt_lt.mp (Int32.not_le.mp c_120)
                have z_5 : ¬ (x_205 : Int32).toInt = (61 : Int32).toInt := fun z => c_206 (Int32.toInt_inj.mp z)
                have z_6 := congrArg Int32.toInt c_222
                have y_0 : (0 : Int32).toInt = 0 := by decide
                have y_60 : (60 : Int32).toInt = 60 := by decide
                have y_61 : (61 : Int32).toInt = 61 := by decide
                have y_1 : (1 : Int32).toInt = 1 := by decide
                have t_x_35 : x_35.toInt = (sv_26 : Int32).toInt + (1 : Int32).toInt := by rw [ex_35]; exact add_toInt (by omega) (by omega)
                omega
              have hp_287 : (((0 : Int32).toInt = 0 ∧ ¬ (sv_214 : Int32).toInt = 0) ∨ ((0 : Int32).toInt = 1 ∧ ((Mf 3) (Mv 5).toNatClampNeg).toInt + 1 ≤ (sv_9 (Mv 5).toNatClampNeg).toInt ∧ (sv_9 (Mv 5).toNatClampNeg).toInt + ((Mv 2) : Int32).toInt ≤ ((Mf 3) (Mv 5).toNatClampNeg).toInt + (x_35 : Int32).toInt ∧ ((Mv 2) : Int32).toInt + 1 ≤ (x_35 : Int32).toInt)) := by
                have z_1 : ¬ (r_13 : Int32).toInt = (0 : Int32).toInt := fun z => c_18 (Int32.toInt_inj.mp z)
                have z_2 := congrArg Int32.toInt c_34
                have z_3 : ¬ (r_31 : Int32).toInt = (61 : Int32).toInt := fun z => c_36 (Int32.toInt_inj.mp z)
                have z_4 := Int32.lt_iff_toInt_lt.mp (Int32.not_le.mp c_120)
                have z_5 : ¬ (x_205 : Int32).toInt = (61 : Int32).toInt := fun z => c_206 (Int32.toInt_inj.mp z)
                have z_6 := congrArg Int32.toInt c_222
                have y_0 : (0 : Int32).toInt = 0 := by decide
                have y_60 : (60 : Int32).toInt = 60 := by decide
                have y_61 : (61 : Int32).toInt = 61 := by decide
                have y_1 : (1 : Int32).toInt = 1 := by decide
                have t_x_35 : x_35.toInt = (sv_26 : Int32).toInt + (1 : Int32).toInt := by rw [ex_35]; exact add_toInt (by omega) (by omega)
                omega
              have hm_288 : (0 : Int32).toInt = 0 → (RfE (pz_com (rB (Mf 1) (Mv 0)) (St0 (rB (Mf 1) (Mv 0)) (Mv 2) (Mv 6))) sv_214) := by
                intro h1r
                have hr_289 : (rB (Mf 1) (Mv 0) (sv_26 : Int32).toInt.toNat = 60 ∨ rB (Mf 1) (Mv 0) (sv_26 : Int32).toInt.toNat = 61 ∨ rB (Mf 1) (Mv 0) (sv_26 : Int32).toInt.toNat = 62) := by
                  have z_1 : ¬ (r_13 : Int32).toInt = (0 : Int32).toInt := fun z => c_18 (Int32.toInt_inj.mp z)
                  have z_2 := congrArg Int32.toInt c_34
                  have z_3 : ¬ (r_31 : Int32).toInt = (61 : Int32).toInt := fun z => c_36 (Int32.toInt_inj.mp z)
                  have z_4 := Int32.lt_iff_toInt_lt.mp (Int32.not_le.mp c_120)
                  have z_5 : ¬ (x_205 : Int32).toInt = (61 : Int32).toInt := fun z => c_206 (Int32.toInt_inj.mp z)
                  have z_6 := congrArg Int32.toInt c_222
                  have y_0 : (0 : Int32).toInt = 0 := by decide
                  have y_60 : (60 : Int32).toInt = 60 := by decide
                  have y_61 : (61 : Int32).toInt = 61 := by decide
                  have y_1 : (1 : Int32).toInt = 1 := by decide
                  have t_x_35 : x_35.toInt = (sv_26 : Int32).toInt + (1 : Int32).toInt := by rw [ex_35]; exact add_toInt (by omega) (by omega)
                  omega
                have hr_290 : 60 ≤ (sv_7 : Int32).toInt := by
                  have z_1 : ¬ (r_13 : Int32).toInt = (0 : Int32).toInt := fun z => c_18 (Int32.toInt_inj.mp z)
                  have z_2 := congrArg Int32.toInt c_34
                  have z_3 : ¬ (r_31 : Int32).toInt = (61 : Int32).toInt := fun z => c_36 (Int32.toInt_inj.mp z)
                  have z_4 := Int32.lt_iff_toInt_lt.mp (Int32.not_le.mp c_120)
                  have z_5 : ¬ (x_205 : Int32).toInt = (61 : Int32).toInt := fun z => c_206 (Int32.toInt_inj.mp z)
                  have z_6 := congrArg Int32.toInt c_222
                  have y_0 : (0 : Int32).toInt = 0 := by decide
                  have y_60 : (60 : Int32).toInt = 60 := by decide
                  have y_61 : (61 : Int32).toInt = 61 := by decide
                  have y_1 : (1 : Int32).toInt = 1 := by decide
                  have t_x_35 : x_35.toInt = (sv_26 : Int32).toInt + (1 : Int32).toInt := by rw [ex_35]; exact add_toInt (by omega) (by omega)
                  omega
                have hi_291 : (sv_214 : Int32).toInt = 1 + 8 * (sv_26 : Int32).toInt + 3 := by
                  have z_1 : ¬ (r_13 : Int32).toInt = (0 : Int32).toInt := fun z => c_18 (Int32.toInt_inj.mp z)
                  have z_2 := congrArg Int32.toInt c_34
                  have z_3 : ¬ (r_31 : Int32).toInt = (61 : Int32).toInt := fun z => c_36 (Int32.toInt_inj.mp z)
                  have z_4 := Int32.lt_iff_toInt_lt.mp (Int32.not_le.mp c_120)
                  have z_5 : ¬ (x_205 : Int32).toInt = (61 : Int32).toInt := fun z => c_206 (Int32.toInt_inj.mp z)
                  have z_6 := congrArg Int32.toInt c_222
                  have y_0 : (0 : Int32).toInt = 0 := by decide
                  have y_60 : (60 : Int32).toInt = 60 := by decide
                  have y_61 : (61 : Int32).toInt = 61 := by decide
                  have y_1 : (1 : Int32).toInt = 1 := by decide
                  have t_x_35 : x_35.toInt = (sv_26 : Int32).toInt + (1 : Int32).toInt := by rw [ex_35]; exact add_toInt (by omega) (by omega)
                  omega
                exact (RfE.com3 pf_20 pf_30 hr_289 hr_290 hi_291)
              exact retI (v := 0) hx hb hr hlk (rfl) hP hD hS (x_35, sv_214, sv_6, sv_215, sv_8, sv_9) ⟨_, rfl, hp_287, ha_285, ha_286, pf_12, (fun h => absurd h (by decide)), hm_288⟩ [3, 2, 0, 1] rfl rfl dX12_compare_114 (Nat.le_of_ble_eq_true rfl) (Nat.le_of_ble_eq_true rfl) rfl
          · skip
            refine lv_iconst (v := 1) hx hb dX12_compare_85 (by decide) ?_
            refine lv_goto (tgt := 90) hx hb dX12_compare_86 (by decide) ?_
            refine lv_istore_n (lv' := [(3, .int 1), (2, .int sv_26), (1, .int r_31), (0, .ref (Ma 0))]) hx hb dX12_compare_90 rfl hl (by decide) rfl (fun ls hl₀ => ?_)
            replace hl := hl₀
            clear hl₀
            refine lv_iload_n hx hb dX12_compare_91 rfl (lv_at hl 0 rfl) ?_
            refine lv_if_eq (tgt := 105) hx hb dX12_compare_92 (by decide) (fun c_292 => absurd c_292 (by decide)) (fun c_292 => ?_)
            refine lv_aload_n hx hb dX12_compare_95 rfl (lv_at hl 3 rfl) ?_
            refine lv_dup hx hb dX12_compare_96 rfl ?_
            refine gf_X12_87 hx hb hts hown hK hP 2 rfl rfl dX12_compare_97 ?_
            refine lv_iconst (v := 1) hx hb dX12_compare_100 (by decide) ?_
            refine lv_iadd hx hb dX12_compare_101 ?_
            refine lv_topi (fun x_293 ex_293 => ?_)
            refine pf_X12_87 hx hb hts hown hK hP hD hS 2 rfl (Nat.le_of_ble_eq_true rfl) rfl rfl dX12_compare_102 (fun H locs hP₀ hD₀ hS₀ => ?_)
            replace hP : va_P D classes [((Ma 2), .inl (tc 0, 2400, .inl sv_8)), ((Ma 3), .inl (tc 0, 7, .inl sv_9)), ((Ma 0), .inr (12, [.ref (Ma 1), .int (Mv 0), .int (Mv 1), .ref (Ma 2), .ref (Ma 3), .ref (Ma 4), .ref (Ma 5), .ref (Ma 6), .int x_293, .int sv_5, .int sv_6, .int (Mv 5), .int sv_7, .int (Mv 7), .int (Mv 8), .ref (Ma 7), .int (Mv 9), .ref (Ma 8), .int (Mv 10), .ref (Ma 9), .ref (Ma 10), .int (Mv 11), .int (Mv 12), .int (Mv 13), .ref (Ma 11), .int (Mv 14), .ref (Ma 12), .ref (Ma 13), .ref (Ma 14), .ref (Ma 15), .ref (Ma 16), .long (Mj 0), .ref (Ma 17), .ref (Ma 18), .ref (Ma 19), .ref (Ma 20)])), ((Ma 1), .inl (tc 2, 400, .inl (Mf 1)))] H := hP₀
            replace hD : va_D A [((Ma 2), .inl (tc 0, 2400, .inl sv_8)), ((Ma 3), .inl (tc 0, 7, .inl sv_9)), ((Ma 0), .inr (12, [.ref (Ma 1), .int (Mv 0), .int (Mv 1), .ref (Ma 2), .ref (Ma 3), .ref (Ma 4), .ref (Ma 5), .ref (Ma 6), .int x_293, .int sv_5, .int sv_6, .int (Mv 5), .int sv_7, .int (Mv 7), .int (Mv 8), .ref (Ma 7), .int (Mv 9), .ref (Ma 8), .int (Mv 10), .ref (Ma 9), .ref (Ma 10), .int (Mv 11), .int (Mv 12), .int (Mv 13), .ref (Ma 11), .int (Mv 14), .ref (Ma 12), .ref (Ma 13), .ref (Ma 14), .ref (Ma 15), .ref (Ma 16), .long (Mj 0), .ref (Ma 17), .ref (Ma 18), .ref (Ma 19), .ref (Ma 20)])), ((Ma 1), .inl (tc 2, 400, .inl (Mf 1)))] := hD₀
            replace hS := hS₀
            clear hP₀ hD₀ hS₀
            have tp_x_293 : (x_293 : Int32).toInt = (x_35 : Int32).toInt + 1 := by
              have z_1 : ¬ (r_13 : Int32).toInt = (0 : Int32).toInt := fun z => c_18 (Int32.toInt_inj.mp z)
              have z_2 := congrArg Int32.toInt c_34
              have z_3 : ¬ (r_31 : Int32).toInt = (61 : Int32).toInt := fun z => c_36 (Int32.toInt_inj.mp z)
              have z_4 := Int32.lt_iff_toInt_lt.mp (Int32.not_le.mp c_120)
              have z_5 := congrArg Int32.toInt c_206
              have y_0 : (0 : Int32).toInt = 0 := by decide
              have y_60 : (60 : Int32).toInt = 60 := by decide
              have y_61 : (61 : Int32).toInt = 61 := by decide
              have y_1 : (1 : Int32).toInt = 1 := by decide
              have t_x_35 : x_35.toInt = (sv_26 : Int32).toInt + (1 : Int32).toInt := by rw [ex_35]; exact add_toInt (by omega) (by omega)
              have t_x_293 : x_293.toInt = (x_35 : Int32).toInt + (1 : Int32).toInt := by rw [ex_293]; exact add_toInt (by omega) (by omega)
              omega
            refine lv_aload_n hx hb dX12_compare_105 rfl (lv_at hl 3 rfl) ?_
            refine lv_iload_n hx hb dX12_compare_106 rfl (lv_at hl 1 rfl) ?_
            have ha_294 : 0 ≤ sv_26.toInt ∧ sv_26.toInt ≤ 400 := by
              have z_1 : ¬ (r_13 : Int32).toInt = (0 : Int32).toInt := fun z => c_18 (Int32.toInt_inj.mp z)
              have z_2 := congrArg Int32.toInt c_34
              have z_3 : ¬ (r_31 : Int32).toInt = (61 : Int32).toInt := fun z => c_36 (Int32.toInt_inj.mp z)
              have z_4 := Int32.lt_iff_toInt_lt.mp (Int32.not_le.mp c_120)
              have z_5 := congrArg Int32.toInt c_206
              have y_0 : (0 : Int32).toInt = 0 := by decide
              have y_60 : (60 : Int32).toInt = 60 := by decide
              have y_61 : (61 : Int32).toInt = 61 := by decide
              have y_1 : (1 : Int32).toInt = 1 := by decide
              have t_x_35 : x_35.toInt = (sv_26 : Int32).toInt + (1 : Int32).toInt := by rw [ex_35]; exact add_toInt (by omega) (by omega)
              omega
            have ha_295 : 0 ≤ (sv_7 : Int32).toInt ∧ (sv_7 : Int32).toInt ≤ 60 := by
              have z_1 : ¬ (r_13 : Int32).toInt = (0 : Int32).toInt := fun z => c_18 (Int32.toInt_inj.mp z)
              have z_2 := congrArg Int32.toInt c_34
              have z_3 : ¬ (r_31 : Int32).toInt = (61 : Int32).toInt := fun z => c_36 (Int32.toInt_inj.mp z)
              have z_4 := Int32.lt_iff_toInt_lt.mp (Int32.not_le.mp c_120)
              have z_5 := congrArg Int32.toInt c_206
              have y_0 : (0 : Int32).toInt = 0 := by decide
              have y_60 : (60 : Int32).toInt = 60 := by decide
              have y_61 : (61 : Int32).toInt = 61 := by decide
              have y_1 : (1 : Int32).toInt = 1 := by decide
              have t_x_35 : x_35.toInt = (sv_26 : Int32).toInt + (1 : Int32).toInt := by rw [ex_35]; exact add_toInt (by omega) (by omega)
              omega
            have ha_296 : (sv_5 : Int32).toInt = 0 := by
              have z_1 : ¬ (r_13 : Int32).toInt = (0 : Int32).toInt := fun z => c_18 (Int32.toInt_inj.mp z)
              have z_2 := congrArg Int32.toInt c_34
              have z_3 : ¬ (r_31 : Int32).toInt = (61 : Int32).toInt := fun z => c_36 (Int32.toInt_inj.mp z)
              have z_4 := Int32.lt_iff_toInt_lt.mp (Int32.not_le.mp c_120)
              have z_5 := congrArg Int32.toInt c_206
              have y_0 : (0 : Int32).toInt = 0 := by decide
              have y_60 : (60 : Int32).toInt = 60 := by decide
              have y_61 : (61 : Int32).toInt = 61 := by decide
              have y_1 : (1 : Int32).toInt = 1 := by decide
              have t_x_35 : x_35.toInt = (sv_26 : Int32).toInt + (1 : Int32).toInt := by rw [ex_35]; exact add_toInt (by omega) (by omega)
              omega
            refine cV (a := (Ma 0)) (As := [.int sv_26]) (rest := []) (wr := [((Ma 2), .inl (tc 0, 2400, .inl sv_8)), ((Ma 3), .inl (tc 0, 7, .inl sv_9)), ((Ma 1), .inl (tc 2, 400, .inl (Mf 1)))]) ⟨hx, hb, hml, hown, hts⟩ hK hX hA (cu_fX12_makes l D tc sk (Ma 0) (Ma 1) (Ma 2) (Ma 3) (Ma 4) (Ma 5) (Ma 6) (Ma 7) (Ma 8) (Ma 9) (Ma 10) (Ma 11) (Ma 12) (Ma 13) (Ma 14) (Ma 15) (Ma 16) (Ma 17) (Ma 18) (Ma 19) (Ma 20) (Mv 0) (Mv 1) x_293 sv_5 sv_6 (Mv 5) sv_7 (Mv 7) (Mv 8) (Mv 9) (Mv 10) (Mv 11) (Mv 12) (Mv 13) (Mv 14) (Mj 0) sv_26 ha_294 ha_295 ha_296) k_1292 k_1289 k_1291 k_45 k_106 pl_X12_makes ⟨Nat.le_of_ble_eq_true rfl, Nat.le_of_ble_eq_true rfl⟩ rfl rfl (va_recv hK hP (ci := 12) (q0 := 2) rfl rfl) hP hD hS [2] [0, 1, 3] rfl rfl rfl rfl rfl (by decide) rfl hl.1 rfl (Nat.le_of_ble_eq_true rfl) dX12_compare_107 ⟨Nat.le_of_ble_eq_true rfl, Nat.le_of_ble_eq_true rfl⟩ (fun v_297 u_298 H locs hv_299 hP₀ hD₀ hS₀ => ?_)
            obtain ⟨sv_300, sv_301⟩ := u_298
            obtain ⟨r_303, rfl, he_304, pf_302⟩ := hv_299
            have he_304 : ((r_303.toInt = 0 ∧ ¬ (sv_300 : Int32).toInt = 0 ∧ sv_7.toInt = 60 ∧ (sv_300 : Int32).toInt = 1 + 8 * sv_26.toInt + 3) ∨ (r_303.toInt = 1 ∧ (sv_301 : Int32).toInt = sv_7.toInt + 1 ∧ sv_7.toInt < 60 ∧ (sv_300 : Int32).toInt = 0)) := he_304
            have pf_302 : (sv_7 : Int32).toInt ≤ (sv_301 : Int32).toInt ∧ (sv_301 : Int32).toInt ≤ 60 := pf_302
            refine W.eq (g2 := F0 m 110 ls [.int r_303]) rfl ?_
            replace hP : va_P D classes [((Ma 2), .inl (tc 0, 2400, .inl sv_8)), ((Ma 3), .inl (tc 0, 7, .inl sv_9)), ((Ma 1), .inl (tc 2, 400, .inl (Mf 1))), ((Ma 0), .inr (12, [.ref (Ma 1), .int (Mv 0), .int (Mv 1), .ref (Ma 2), .ref (Ma 3), .ref (Ma 4), .ref (Ma 5), .ref (Ma 6), .int x_293, .int sv_300, .int sv_6, .int (Mv 5), .int sv_301, .int (Mv 7), .int (Mv 8), .ref (Ma 7), .int (Mv 9), .ref (Ma 8), .int (Mv 10), .ref (Ma 9), .ref (Ma 10), .int (Mv 11), .int (Mv 12), .int (Mv 13), .ref (Ma 11), .int (Mv 14), .ref (Ma 12), .ref (Ma 13), .ref (Ma 14), .ref (Ma 15), .ref (Ma 16), .long (Mj 0), .ref (Ma 17), .ref (Ma 18), .ref (Ma 19), .ref (Ma 20)]))] H := hP₀
            replace hD : va_D A [((Ma 2), .inl (tc 0, 2400, .inl sv_8)), ((Ma 3), .inl (tc 0, 7, .inl sv_9)), ((Ma 1), .inl (tc 2, 400, .inl (Mf 1))), ((Ma 0), .inr (12, [.ref (Ma 1), .int (Mv 0), .int (Mv 1), .ref (Ma 2), .ref (Ma 3), .ref (Ma 4), .ref (Ma 5), .ref (Ma 6), .int x_293, .int sv_300, .int sv_6, .int (Mv 5), .int sv_301, .int (Mv 7), .int (Mv 8), .ref (Ma 7), .int (Mv 9), .ref (Ma 8), .int (Mv 10), .ref (Ma 9), .ref (Ma 10), .int (Mv 11), .int (Mv 12), .int (Mv 13), .ref (Ma 11), .int (Mv 14), .ref (Ma 12), .ref (Ma 13), .ref (Ma 14), .ref (Ma 15), .ref (Ma 16), .long (Mj 0), .ref (Ma 17), .ref (Ma 18), .ref (Ma 19), .ref (Ma 20)]))] := hD₀
            replace hS := hS₀
            clear hP₀ hD₀ hS₀
            have hr_307 : (sv_7 : Int32).toInt ≤ (sv_301 : Int32).toInt ∧ (sv_301 : Int32).toInt ≤ 60 := by
              have z_1 : ¬ (r_13 : Int32).toInt = (0 : Int32).toInt := fun z => c_18 (Int32.toInt_inj.mp z)
              have z_2 := congrArg Int32.toInt c_34
              have z_3 : ¬ (r_31 : Int32).toInt = (61 : Int32).toInt := fun z => c_36 (Int32.toInt_inj.mp z)
              have z_4 := Int32.lt_iff_toInt_lt.mp (Int32.not_le.mp c_120)
              have z_5 := congrArg Int32.toInt c_206
              have y_0 : (0 : Int32).toInt = 0 := by decide
              have y_60 : (60 : Int32).toInt = 60 := by decide
              have y_61 : (61 : Int32).toInt = 61 := by decide
              have y_1 : (1 : Int32).toInt = 1 := by decide
              have t_x_35 : x_35.toInt = (sv_26 : Int32).toInt + (1 : Int32).toInt := by rw [ex_35]; exact add_toInt (by omega) (by omega)
              omega
            have pf_306 : Cd sv_8 sv_9 (Mv 5) b sv_301 (d + 1) := Cd.mono pf_19 hr_307
            have ar_pf_306 := Cd.ar pf_306
            refine lv_if_ne (tgt := 115) hx hb dX12_compare_110 (by decide) (fun c_308 => ?_) (fun c_308 => ?_)
            · skip
              refine lv_iload_n hx hb dX12_compare_115 rfl (lv_at hl 2 rfl) ?_
              refine lv_bipush (v := 60) hx hb dX12_compare_116 (by decide) ?_
              refine lv_icmp_ne (tgt := 133) hx hb dX12_compare_118 (by decide) (fun c_309 => ?_) (fun c_309 => ?_)
              · skip
                exfalso
                have z_1 : ¬ (r_13 : Int32).toInt = (0 : Int32).toInt := fun z => c_18 (Int32.toInt_inj.mp z)
                have z_2 := congrArg Int32.toInt c_34
                have z_3 : ¬ (r_31 : Int32).toInt = (61 : Int32).toInt := fun z => c_36 (Int32.toInt_inj.mp z)
                have z_4 := Int32.lt_iff_toInt_lt.mp (Int32.not_le.mp c_120)
                have z_5 := congrArg Int32.toInt c_206
                have z_6 : ¬ (r_303 : Int32).toInt = (0 : Int32).toInt := fun z => c_308 (Int32.toInt_inj.mp z)
                have z_7 : ¬ (r_31 : Int32).toInt = (60 : Int32).toInt := fun z => c_309 (Int32.toInt_inj.mp z)
                have y_0 : (0 : Int32).toInt = 0 := by decide
                have y_60 : (60 : Int32).toInt = 60 := by decide
                have y_61 : (61 : Int32).toInt = 61 := by decide
                have y_1 : (1 : Int32).toInt = 1 := by decide
                have t_x_35 : x_35.toInt = (sv_26 : Int32).toInt + (1 : Int32).toInt := by rw [ex_35]; exact add_toInt (by omega) (by omega)
                omega
              · skip
                refine lv_iload_n hx hb dX12_compare_121 rfl (lv_at hl 0 rfl) ?_
                refine lv_if_eq (tgt := 129) hx hb dX12_compare_122 (by decide) (fun c_310 => absurd c_310 (by decide)) (fun c_310 => ?_)
                refine lv_iconst (v := 1) hx hb dX12_compare_125 (by decide) ?_
                refine lv_goto (tgt := 152) hx hb dX12_compare_126 (by decide) ?_
                refine lv_istore (lv' := [(4, .int 1), (3, .int 1), (2, .int sv_26), (1, .int r_31), (0, .ref (Ma 0))]) hx hb dX12_compare_152 hl (by decide) rfl (fun ls hl₀ => ?_)
                replace hl := hl₀
                clear hl₀
                refine lv_aload_n hx hb dX12_compare_154 rfl (lv_at hl 4 rfl) ?_
                have ha_311 : 0 ≤ (x_293 : Int32).toInt ∧ (x_293 : Int32).toInt ≤ ((Mv 0) : Int32).toInt ∧ ((Mv 0) : Int32).toInt ≤ 400 := by
                  have z_1 : ¬ (r_13 : Int32).toInt = (0 : Int32).toInt := fun z => c_18 (Int32.toInt_inj.mp z)
                  have z_2 := congrArg Int32.toInt c_34
                  have z_3 : ¬ (r_31 : Int32).toInt = (61 : Int32).toInt := fun z => c_36 (Int32.toInt_inj.mp z)
                  have z_4 := Int32.lt_iff_toInt_lt.mp (Int32.not_le.mp c_120)
                  have z_5 := congrArg Int32.toInt c_206
                  have z_6 : ¬ (r_303 : Int32).toInt = (0 : Int32).toInt := fun z => c_308 (Int32.toInt_inj.mp z)
                  have z_7 := congrArg Int32.toInt c_309
                  have y_0 : (0 : Int32).toInt = 0 := by decide
                  have y_60 : (60 : Int32).toInt = 60 := by decide
                  have y_61 : (61 : Int32).toInt = 61 := by decide
                  have y_1 : (1 : Int32).toInt = 1 := by decide
                  have t_x_35 : x_35.toInt = (sv_26 : Int32).toInt + (1 : Int32).toInt := by rw [ex_35]; exact add_toInt (by omega) (by omega)
                  have t_x_293 : x_293.toInt = (x_35 : Int32).toInt + (1 : Int32).toInt := by rw [ex_293]; exact add_toInt (by omega) (by omega)
                  omega
                have ha_312 : (sv_9 (Mv 5).toNatClampNeg).toInt ≤ (x_293 : Int32).toInt := by
                  have z_1 : ¬ (r_13 : Int32).toInt = (0 : Int32).toInt := fun z => c_18 (Int32.toInt_inj.mp z)
                  have z_2 := congrArg Int32.toInt c_34
                  have z_3 : ¬ (r_31 : Int32).toInt = (61 : Int32).toInt := fun z => c_36 (Int32.toInt_inj.mp z)
                  have z_4 := Int32.lt_iff_toInt_lt.mp (Int32.not_le.mp c_120)
                  have z_5 := congrArg Int32.toInt c_206
                  have z_6 : ¬ (r_303 : Int32).toInt = (0 : Int32).toInt := fun z => c_308 (Int32.toInt_inj.mp z)
                  have z_7 := congrArg Int32.toInt c_309
                  have y_0 : (0 : Int32).toInt = 0 := by decide
                  have y_60 : (60 : Int32).toInt = 60 := by decide
                  have y_61 : (61 : Int32).toInt = 61 := by decide
                  have y_1 : (1 : Int32).toInt = 1 := by decide
                  have t_x_35 : x_35.toInt = (sv_26 : Int32).toInt + (1 : Int32).toInt := by rw [ex_35]; exact add_toInt (by omega) (by omega)
                  have t_x_293 : x_293.toInt = (x_35 : Int32).toInt + (1 : Int32).toInt := by rw [ex_293]; exact add_toInt (by omega) (by omega)
                  omega
                have ha_313 : 0 ≤ (sv_301 : Int32).toInt ∧ (sv_301 : Int32).toInt ≤ 60 := by
                  have z_1 : ¬ (r_13 : Int32).toInt = (0 : Int32).toInt := fun z => c_18 (Int32.toInt_inj.mp z)
                  have z_2 := congrArg Int32.toInt c_34
                  have z_3 : ¬ (r_31 : Int32).toInt = (61 : Int32).toInt := fun z => c_36 (Int32.toInt_inj.mp z)
                  have z_4 := Int32.lt_iff_toInt_lt.mp (Int32.not_le.mp c_120)
                  have z_5 := congrArg Int32.toInt c_206
                  have z_6 : ¬ (r_303 : Int32).toInt = (0 : Int32).toInt := fun z => c_308 (Int32.toInt_inj.mp z)
                  have z_7 := congrArg Int32.toInt c_309
                  have y_0 : (0 : Int32).toInt = 0 := by decide
                  have y_60 : (60 : Int32).toInt = 60 := by decide
                  have y_61 : (61 : Int32).toInt = 61 := by decide
                  have y_1 : (1 : Int32).toInt = 1 := by decide
                  have t_x_35 : x_35.toInt = (sv_26 : Int32).toInt + (1 : Int32).toInt := by rw [ex_35]; exact add_toInt (by omega) (by omega)
                  omega
                have ha_314 : (sv_300 : Int32).toInt = 0 := by
                  have z_1 : ¬ (r_13 : Int32).toInt = (0 : Int32).toInt := fun z => c_18 (Int32.toInt_inj.mp z)
                  have z_2 := congrArg Int32.toInt c_34
                  have z_3 : ¬ (r_31 : Int32).toInt = (61 : Int32).toInt := fun z => c_36 (Int32.toInt_inj.mp z)
                  have z_4 := Int32.lt_iff_toInt_lt.mp (Int32.not_le.mp c_120)
                  have z_5 := congrArg Int32.toInt c_206
                  have z_6 : ¬ (r_303 : Int32).toInt = (0 : Int32).toInt := fun z => c_308 (Int32.toInt_inj.mp z)
                  have z_7 := congrArg Int32.toInt c_309
                  have y_0 : (0 : Int32).toInt = 0 := by decide
                  have y_60 : (60 : Int32).toInt = 60 := by decide
                  have y_61 : (61 : Int32).toInt = 61 := by decide
                  have y_1 : (1 : Int32).toInt = 1 := by decide
                  have t_x_35 : x_35.toInt = (sv_26 : Int32).toInt + (1 : Int32).toInt := by rw [ex_35]; exact add_toInt (by omega) (by omega)
                  omega
                refine cV (a := (Ma 0)) (As := []) (rest := []) (wr := []) ⟨hx, hb, hml, hown, hts⟩ hK hX hA (cu_fX12_sum l D tc sk (Ma 0) (Ma 1) (Ma 2) (Ma 3) (Ma 4) (Ma 5) (Ma 6) (Ma 7) (Ma 8) (Ma 9) (Ma 10) (Ma 11) (Ma 12) (Ma 13) (Ma 14) (Ma 15) (Ma 16) (Ma 17) (Ma 18) (Ma 19) (Ma 20) (Mv 0) (Mv 1) x_293 sv_300 sv_6 (Mv 5) sv_301 (Mv 7) (Mv 8) (Mv 9) (Mv 10) (Mv 11) (Mv 12) (Mv 13) (Mv 14) (Mf 1) sv_8 sv_9 (Mj 0) b (d + 1) ha_311 pf_306 ha_312 ha_313 h_bs ha_314) k_1279 k_1276 k_1278 k_42 k_106 pl_X12_sum ⟨Nat.le_of_ble_eq_true rfl, Nat.le_of_ble_eq_true rfl⟩ rfl rfl (va_recv hK hP (ci := 12) (q0 := 3) rfl rfl) hP hD hS [3, 2, 0, 1] [] rfl rfl rfl rfl rfl (by decide) rfl hl.1 rfl (Nat.le_of_ble_eq_true rfl) dX12_compare_155 ⟨Nat.le_of_ble_eq_true rfl, Nat.le_of_ble_eq_true rfl⟩ (fun v_315 u_316 H locs hv_317 hP₀ hD₀ hS₀ => ?_)
                obtain ⟨sv_318, sv_319, sv_320, sv_321, sv_322, sv_323⟩ := u_316
                obtain ⟨r_327, rfl, he_328, pf_324, pf_325, pf_326, hm_330, hm_331⟩ := hv_317
                have he_328 : ((r_327.toInt = 0 ∧ ¬ (sv_319 : Int32).toInt = 0) ∨ (r_327.toInt = 1 ∧ (sv_9 (Mv 5).toNatClampNeg).toInt + 1 ≤ (sv_323 (Mv 5).toNatClampNeg).toInt ∧ (sv_323 (Mv 5).toNatClampNeg).toInt + (x_293 : Int32).toInt ≤ (sv_9 (Mv 5).toNatClampNeg).toInt + (sv_318 : Int32).toInt ∧ (x_293 : Int32).toInt + 1 ≤ (sv_318 : Int32).toInt)) := he_328
                have pf_324 : (x_293 : Int32).toInt ≤ (sv_318 : Int32).toInt ∧ (sv_318 : Int32).toInt ≤ ((Mv 0) : Int32).toInt := pf_324
                have pf_325 : (sv_301 : Int32).toInt ≤ (sv_321 : Int32).toInt ∧ (sv_321 : Int32).toInt ≤ 60 := pf_325
                have pf_326 : Agr sv_8 sv_322 (400 * ((Mv 5) : Int32).toInt + (sv_9 (Mv 5).toNatClampNeg).toInt) := pf_326
                refine W.eq (g2 := F0 m 158 ls [.int r_327]) rfl ?_
                replace hP : va_P D classes [((Ma 0), .inr (12, [.ref (Ma 1), .int (Mv 0), .int (Mv 1), .ref (Ma 2), .ref (Ma 3), .ref (Ma 4), .ref (Ma 5), .ref (Ma 6), .int sv_318, .int sv_319, .int sv_320, .int (Mv 5), .int sv_321, .int (Mv 7), .int (Mv 8), .ref (Ma 7), .int (Mv 9), .ref (Ma 8), .int (Mv 10), .ref (Ma 9), .ref (Ma 10), .int (Mv 11), .int (Mv 12), .int (Mv 13), .ref (Ma 11), .int (Mv 14), .ref (Ma 12), .ref (Ma 13), .ref (Ma 14), .ref (Ma 15), .ref (Ma 16), .long (Mj 0), .ref (Ma 17), .ref (Ma 18), .ref (Ma 19), .ref (Ma 20)])), ((Ma 1), .inl (tc 2, 400, .inl (Mf 1))), ((Ma 2), .inl (tc 0, 2400, .inl sv_322)), ((Ma 3), .inl (tc 0, 7, .inl sv_323))] H := hP₀
                replace hD : va_D A [((Ma 0), .inr (12, [.ref (Ma 1), .int (Mv 0), .int (Mv 1), .ref (Ma 2), .ref (Ma 3), .ref (Ma 4), .ref (Ma 5), .ref (Ma 6), .int sv_318, .int sv_319, .int sv_320, .int (Mv 5), .int sv_321, .int (Mv 7), .int (Mv 8), .ref (Ma 7), .int (Mv 9), .ref (Ma 8), .int (Mv 10), .ref (Ma 9), .ref (Ma 10), .int (Mv 11), .int (Mv 12), .int (Mv 13), .ref (Ma 11), .int (Mv 14), .ref (Ma 12), .ref (Ma 13), .ref (Ma 14), .ref (Ma 15), .ref (Ma 16), .long (Mj 0), .ref (Ma 17), .ref (Ma 18), .ref (Ma 19), .ref (Ma 20)])), ((Ma 1), .inl (tc 2, 400, .inl (Mf 1))), ((Ma 2), .inl (tc 0, 2400, .inl sv_322)), ((Ma 3), .inl (tc 0, 7, .inl sv_323))] := hD₀
                replace hS := hS₀
                clear hP₀ hD₀ hS₀
                refine lv_if_ne (tgt := 163) hx hb dX12_compare_158 (by decide) (fun c_332 => ?_) (fun c_332 => ?_)
                · skip
                  have hz_335 : (r_327 : Int32).toInt = 1 := by
                    have z_1 : ¬ (r_13 : Int32).toInt = (0 : Int32).toInt := fun z => c_18 (Int32.toInt_inj.mp z)
                    have z_2 := congrArg Int32.toInt c_34
                    have z_3 : ¬ (r_31 : Int32).toInt = (61 : Int32).toInt := fun z => c_36 (Int32.toInt_inj.mp z)
                    have z_4 := Int32.lt_iff_toInt_lt.mp (Int32.not_le.mp c_120)
                    have z_5 := congrArg Int32.toInt c_206
                    have z_6 : ¬ (r_303 : Int32).toInt = (0 : Int32).toInt := fun z => c_308 (Int32.toInt_inj.mp z)
                    have z_7 := congrArg Int32.toInt c_309
                    have z_8 : ¬ (r_327 : Int32).toInt = (0 : Int32).toInt := fun z => c_332 (Int32.toInt_inj.mp z)
                    have y_0 : (0 : Int32).toInt = 0 := by decide
                    have y_60 : (60 : Int32).toInt = 60 := by decide
                    have y_61 : (61 : Int32).toInt = 61 := by decide
                    have y_1 : (1 : Int32).toInt = 1 := by decide
                    have t_x_35 : x_35.toInt = (sv_26 : Int32).toInt + (1 : Int32).toInt := by rw [ex_35]; exact add_toInt (by omega) (by omega)
                    omega
                  obtain ⟨pf_333, pf_334⟩ := hm_330 hz_335
                  have pf_333 : Cd sv_322 sv_323 (Mv 5) b sv_321 ((d + 1) + 1) := pf_333
                  have ar_pf_333 := Cd.ar pf_333
                  have pf_334 : RfO (pz_sum (rB (Mf 1) (Mv 0)) (St0 (rB (Mf 1) (Mv 0)) x_293 sv_301)) (rB (Mf 1) (Mv 0)) sv_319 sv_318 sv_321 := pf_334
                  have ar_pf_334 := RfO.wr pf_334
                  refine lv_aload_n hx hb dX12_compare_163 rfl (lv_at hl 4 rfl) ?_
                  refine lv_bipush (v := 6) hx hb dX12_compare_164 (by decide) ?_
                  refine lv_iload hx hb dX12_compare_166 (lv_at hl 0 rfl) ?_
                  refine lv_iadd hx hb dX12_compare_168 ?_
                  refine lv_lit (v := 7) (by decide) ?_
                  refine lv_iconst (v := 0) hx hb dX12_compare_169 (by decide) ?_
                  have ha_336 : ((d + 1) : Int) ≤ sv_321.toInt := by
                    have z_1 : ¬ (r_13 : Int32).toInt = (0 : Int32).toInt := fun z => c_18 (Int32.toInt_inj.mp z)
                    have z_2 := congrArg Int32.toInt c_34
                    have z_3 : ¬ (r_31 : Int32).toInt = (61 : Int32).toInt := fun z => c_36 (Int32.toInt_inj.mp z)
                    have z_4 := Int32.lt_iff_toInt_lt.mp (Int32.not_le.mp c_120)
                    have z_5 := congrArg Int32.toInt c_206
                    have z_6 : ¬ (r_303 : Int32).toInt = (0 : Int32).toInt := fun z => c_308 (Int32.toInt_inj.mp z)
                    have z_7 := congrArg Int32.toInt c_309
                    have z_8 : ¬ (r_327 : Int32).toInt = (0 : Int32).toInt := fun z => c_332 (Int32.toInt_inj.mp z)
                    have y_0 : (0 : Int32).toInt = 0 := by decide
                    have y_60 : (60 : Int32).toInt = 60 := by decide
                    have y_61 : (61 : Int32).toInt = 61 := by decide
                    have y_1 : (1 : Int32).toInt = 1 := by decide
                    have t_x_35 : x_35.toInt = (sv_26 : Int32).toInt + (1 : Int32).toInt := by rw [ex_35]; exact add_toInt (by omega) (by omega)
                    omega
                  have ha_337 : (sv_323 (Mv 5).toNatClampNeg).toInt < 400 := by
                    have z_1 : ¬ (r_13 : Int32).toInt = (0 : Int32).toInt := fun z => c_18 (Int32.toInt_inj.mp z)
                    have z_2 := congrArg Int32.toInt c_34
                    have z_3 : ¬ (r_31 : Int32).toInt = (61 : Int32).toInt := fun z => c_36 (Int32.toInt_inj.mp z)
                    have z_4 := Int32.lt_iff_toInt_lt.mp (Int32.not_le.mp c_120)
                    have z_5 := congrArg Int32.toInt c_206
                    have z_6 : ¬ (r_303 : Int32).toInt = (0 : Int32).toInt := fun z => c_308 (Int32.toInt_inj.mp z)
                    have z_7 := congrArg Int32.toInt c_309
                    have z_8 : ¬ (r_327 : Int32).toInt = (0 : Int32).toInt := fun z => c_332 (Int32.toInt_inj.mp z)
                    have y_0 : (0 : Int32).toInt = 0 := by decide
                    have y_60 : (60 : Int32).toInt = 60 := by decide
                    have y_61 : (61 : Int32).toInt = 61 := by decide
                    have y_1 : (1 : Int32).toInt = 1 := by decide
                    have t_x_35 : x_35.toInt = (sv_26 : Int32).toInt + (1 : Int32).toInt := by rw [ex_35]; exact add_toInt (by omega) (by omega)
                    omega
                  refine cV (a := (Ma 0)) (As := [.int 7, .int 0]) (rest := []) (wr := [((Ma 1), .inl (tc 2, 400, .inl (Mf 1)))]) ⟨hx, hb, hml, hown, hts⟩ hK hX hA (cu_X12_puts l D tc sk (Ma 0) (Ma 1) (Ma 2) (Ma 3) (Ma 4) (Ma 5) (Ma 6) (Ma 7) (Ma 8) (Ma 9) (Ma 10) (Ma 11) (Ma 12) (Ma 13) (Ma 14) (Ma 15) (Ma 16) (Ma 17) (Ma 18) (Ma 19) (Ma 20) (Mv 0) (Mv 1) sv_318 sv_319 sv_320 (Mv 5) sv_321 (Mv 7) (Mv 8) (Mv 9) (Mv 10) (Mv 11) (Mv 12) (Mv 13) (Mv 14) sv_322 sv_323 (Mj 0) 7 0 b sv_321 ((d + 1) + 1) (d + 1) pf_333 (StpR.op (by decide) rfl (by omega)) ha_336 ha_337) k_1296 k_1293 k_1295 k_46 k_106 pl_X12_puts ⟨Nat.le_of_ble_eq_true rfl, Nat.le_of_ble_eq_true rfl⟩ rfl rfl (va_recv hK hP (ci := 12) (q0 := 0) rfl rfl) hP hD hS [0, 2, 3] [1] rfl rfl rfl rfl rfl (by decide) rfl hl.1 rfl (Nat.le_of_ble_eq_true rfl) dX12_compare_170 ⟨Nat.le_of_ble_eq_true rfl, Nat.le_of_ble_eq_true rfl⟩ (fun v_338 u_339 H locs hv_340 hP₀ hD₀ hS₀ => ?_)
                  obtain ⟨sv_341, sv_342⟩ := u_339
                  obtain ⟨rfl, pf_343, pf_344, pf_345⟩ := hv_340
                  have pf_343 : Cd sv_341 sv_342 (Mv 5) b sv_321 (d + 1) := pf_343
                  have ar_pf_343 := Cd.ar pf_343
                  have pf_344 : Agr sv_322 sv_341 (400 * ((Mv 5) : Int32).toInt + (sv_323 (Mv 5).toNatClampNeg).toInt) := pf_344
                  have pf_345 : (sv_342 (Mv 5).toNatClampNeg).toInt = (sv_323 (Mv 5).toNatClampNeg).toInt + 1 := pf_345
                  refine W.eq (g2 := F0 m 173 ls []) rfl ?_
                  replace hP : va_P D classes [((Ma 1), .inl (tc 2, 400, .inl (Mf 1))), ((Ma 0), .inr (12, [.ref (Ma 1), .int (Mv 0), .int (Mv 1), .ref (Ma 2), .ref (Ma 3), .ref (Ma 4), .ref (Ma 5), .ref (Ma 6), .int sv_318, .int sv_319, .int sv_320, .int (Mv 5), .int sv_321, .int (Mv 7), .int (Mv 8), .ref (Ma 7), .int (Mv 9), .ref (Ma 8), .int (Mv 10), .ref (Ma 9), .ref (Ma 10), .int (Mv 11), .int (Mv 12), .int (Mv 13), .ref (Ma 11), .int (Mv 14), .ref (Ma 12), .ref (Ma 13), .ref (Ma 14), .ref (Ma 15), .ref (Ma 16), .long (Mj 0), .ref (Ma 17), .ref (Ma 18), .ref (Ma 19), .ref (Ma 20)])), ((Ma 2), .inl (tc 0, 2400, .inl sv_341)), ((Ma 3), .inl (tc 0, 7, .inl sv_342))] H := hP₀
                  replace hD : va_D A [((Ma 1), .inl (tc 2, 400, .inl (Mf 1))), ((Ma 0), .inr (12, [.ref (Ma 1), .int (Mv 0), .int (Mv 1), .ref (Ma 2), .ref (Ma 3), .ref (Ma 4), .ref (Ma 5), .ref (Ma 6), .int sv_318, .int sv_319, .int sv_320, .int (Mv 5), .int sv_321, .int (Mv 7), .int (Mv 8), .ref (Ma 7), .int (Mv 9), .ref (Ma 8), .int (Mv 10), .ref (Ma 9), .ref (Ma 10), .int (Mv 11), .int (Mv 12), .int (Mv 13), .ref (Ma 11), .int (Mv 14), .ref (Ma 12), .ref (Ma 13), .ref (Ma 14), .ref (Ma 15), .ref (Ma 16), .long (Mj 0), .ref (Ma 17), .ref (Ma 18), .ref (Ma 19), .ref (Ma 20)])), ((Ma 2), .inl (tc 0, 2400, .inl sv_341)), ((Ma 3), .inl (tc 0, 7, .inl sv_342))] := hD₀
                  replace hS := hS₀
                  clear hP₀ hD₀ hS₀
                  refine lv_iconst (v := 1) hx hb dX12_compare_173 (by decide) ?_
                  have ha_346 : ((Mv 2) : Int32).toInt ≤ (sv_318 : Int32).toInt ∧ (sv_318 : Int32).toInt ≤ ((Mv 0) : Int32).toInt := by
                    have z_1 : ¬ (r_13 : Int32).toInt = (0 : Int32).toInt := fun z => c_18 (Int32.toInt_inj.mp z)
                    have z_2 := congrArg Int32.toInt c_34
                    have z_3 : ¬ (r_31 : Int32).toInt = (61 : Int32).toInt := fun z => c_36 (Int32.toInt_inj.mp z)
                    have z_4 := Int32.lt_iff_toInt_lt.mp (Int32.not_le.mp c_120)
                    have z_5 := congrArg Int32.toInt c_206
                    have z_6 : ¬ (r_303 : Int32).toInt = (0 : Int32).toInt := fun z => c_308 (Int32.toInt_inj.mp z)
                    have z_7 := congrArg Int32.toInt c_309
                    have z_8 : ¬ (r_327 : Int32).toInt = (0 : Int32).toInt := fun z => c_332 (Int32.toInt_inj.mp z)
                    have y_0 : (0 : Int32).toInt = 0 := by decide
                    have y_60 : (60 : Int32).toInt = 60 := by decide
                    have y_61 : (61 : Int32).toInt = 61 := by decide
                    have y_1 : (1 : Int32).toInt = 1 := by decide
                    have t_x_35 : x_35.toInt = (sv_26 : Int32).toInt + (1 : Int32).toInt := by rw [ex_35]; exact add_toInt (by omega) (by omega)
                    omega
                  have ha_347 : ((Mv 6) : Int32).toInt ≤ (sv_321 : Int32).toInt ∧ (sv_321 : Int32).toInt ≤ 60 := by
                    have z_1 : ¬ (r_13 : Int32).toInt = (0 : Int32).toInt := fun z => c_18 (Int32.toInt_inj.mp z)
                    have z_2 := congrArg Int32.toInt c_34
                    have z_3 : ¬ (r_31 : Int32).toInt = (61 : Int32).toInt := fun z => c_36 (Int32.toInt_inj.mp z)
                    have z_4 := Int32.lt_iff_toInt_lt.mp (Int32.not_le.mp c_120)
                    have z_5 := congrArg Int32.toInt c_206
                    have z_6 : ¬ (r_303 : Int32).toInt = (0 : Int32).toInt := fun z => c_308 (Int32.toInt_inj.mp z)
                    have z_7 := congrArg Int32.toInt c_309
                    have z_8 : ¬ (r_327 : Int32).toInt = (0 : Int32).toInt := fun z => c_332 (Int32.toInt_inj.mp z)
                    have y_0 : (0 : Int32).toInt = 0 := by decide
                    have y_60 : (60 : Int32).toInt = 60 := by decide
                    have y_61 : (61 : Int32).toInt = 61 := by decide
                    have y_1 : (1 : Int32).toInt = 1 := by decide
                    have t_x_35 : x_35.toInt = (sv_26 : Int32).toInt + (1 : Int32).toInt := by rw [ex_35]; exact add_toInt (by omega) (by omega)
                    omega
                  have hr_348 : (400 * ((Mv 5) : Int32).toInt + ((Mf 3) (Mv 5).toNatClampNeg).toInt) ≤ (400 * ((Mv 5) : Int32).toInt + ((Mf 3) (Mv 5).toNatClampNeg).toInt) := by
                    have z_1 : ¬ (r_13 : Int32).toInt = (0 : Int32).toInt := fun z => c_18 (Int32.toInt_inj.mp z)
                    have z_2 := congrArg Int32.toInt c_34
                    have z_3 : ¬ (r_31 : Int32).toInt = (61 : Int32).toInt := fun z => c_36 (Int32.toInt_inj.mp z)
                    have z_4 := Int32.lt_iff_toInt_lt.mp (Int32.not_le.mp c_120)
                    have z_5 := congrArg Int32.toInt c_206
                    have z_6 : ¬ (r_303 : Int32).toInt = (0 : Int32).toInt := fun z => c_308 (Int32.toInt_inj.mp z)
                    have z_7 := congrArg Int32.toInt c_309
                    have z_8 : ¬ (r_327 : Int32).toInt = (0 : Int32).toInt := fun z => c_332 (Int32.toInt_inj.mp z)
                    have y_0 : (0 : Int32).toInt = 0 := by decide
                    have y_60 : (60 : Int32).toInt = 60 := by decide
                    have y_61 : (61 : Int32).toInt = 61 := by decide
                    have y_1 : (1 : Int32).toInt = 1 := by decide
                    have t_x_35 : x_35.toInt = (sv_26 : Int32).toInt + (1 : Int32).toInt := by rw [ex_35]; exact add_toInt (by omega) (by omega)
                    omega
                  have hr_349 : (400 * ((Mv 5) : Int32).toInt + ((Mf 3) (Mv 5).toNatClampNeg).toInt) ≤ (400 * ((Mv 5) : Int32).toInt + (sv_9 (Mv 5).toNatClampNeg).toInt) := by
                    have z_1 : ¬ (r_13 : Int32).toInt = (0 : Int32).toInt := fun z => c_18 (Int32.toInt_inj.mp z)
                    have z_2 := congrArg Int32.toInt c_34
                    have z_3 : ¬ (r_31 : Int32).toInt = (61 : Int32).toInt := fun z => c_36 (Int32.toInt_inj.mp z)
                    have z_4 := Int32.lt_iff_toInt_lt.mp (Int32.not_le.mp c_120)
                    have z_5 := congrArg Int32.toInt c_206
                    have z_6 : ¬ (r_303 : Int32).toInt = (0 : Int32).toInt := fun z => c_308 (Int32.toInt_inj.mp z)
                    have z_7 := congrArg Int32.toInt c_309
                    have z_8 : ¬ (r_327 : Int32).toInt = (0 : Int32).toInt := fun z => c_332 (Int32.toInt_inj.mp z)
                    have y_0 : (0 : Int32).toInt = 0 := by decide
                    have y_60 : (60 : Int32).toInt = 60 := by decide
                    have y_61 : (61 : Int32).toInt = 61 := by decide
                    have y_1 : (1 : Int32).toInt = 1 := by decide
                    have t_x_35 : x_35.toInt = (sv_26 : Int32).toInt + (1 : Int32).toInt := by rw [ex_35]; exact add_toInt (by omega) (by omega)
                    omega
                  have hr_350 : (400 * ((Mv 5) : Int32).toInt + ((Mf 3) (Mv 5).toNatClampNeg).toInt) ≤ (400 * ((Mv 5) : Int32).toInt + (sv_323 (Mv 5).toNatClampNeg).toInt) := by
                    have z_1 : ¬ (r_13 : Int32).toInt = (0 : Int32).toInt := fun z => c_18 (Int32.toInt_inj.mp z)
                    have z_2 := congrArg Int32.toInt c_34
                    have z_3 : ¬ (r_31 : Int32).toInt = (61 : Int32).toInt := fun z => c_36 (Int32.toInt_inj.mp z)
                    have z_4 := Int32.lt_iff_toInt_lt.mp (Int32.not_le.mp c_120)
                    have z_5 := congrArg Int32.toInt c_206
                    have z_6 : ¬ (r_303 : Int32).toInt = (0 : Int32).toInt := fun z => c_308 (Int32.toInt_inj.mp z)
                    have z_7 := congrArg Int32.toInt c_309
                    have z_8 : ¬ (r_327 : Int32).toInt = (0 : Int32).toInt := fun z => c_332 (Int32.toInt_inj.mp z)
                    have y_0 : (0 : Int32).toInt = 0 := by decide
                    have y_60 : (60 : Int32).toInt = 60 := by decide
                    have y_61 : (61 : Int32).toInt = 61 := by decide
                    have y_1 : (1 : Int32).toInt = 1 := by decide
                    have t_x_35 : x_35.toInt = (sv_26 : Int32).toInt + (1 : Int32).toInt := by rw [ex_35]; exact add_toInt (by omega) (by omega)
                    omega
                  have hp_351 : (((1 : Int32).toInt = 0 ∧ ¬ (sv_319 : Int32).toInt = 0) ∨ ((1 : Int32).toInt = 1 ∧ ((Mf 3) (Mv 5).toNatClampNeg).toInt + 1 ≤ (sv_342 (Mv 5).toNatClampNeg).toInt ∧ (sv_342 (Mv 5).toNatClampNeg).toInt + ((Mv 2) : Int32).toInt ≤ ((Mf 3) (Mv 5).toNatClampNeg).toInt + (sv_318 : Int32).toInt ∧ ((Mv 2) : Int32).toInt + 1 ≤ (sv_318 : Int32).toInt)) := by
                    have z_1 : ¬ (r_13 : Int32).toInt = (0 : Int32).toInt := fun z => c_18 (Int32.toInt_inj.mp z)
                    have z_2 := congrArg Int32.toInt c_34
                    have z_3 : ¬ (r_31 : Int32).toInt = (61 : Int32).toInt := fun z => c_36 (Int32.toInt_inj.mp z)
                    have z_4 := Int32.lt_iff_toInt_lt.mp (Int32.not_le.mp c_120)
                    have z_5 := congrArg Int32.toInt c_206
                    have z_6 : ¬ (r_303 : Int32).toInt = (0 : Int32).toInt := fun z => c_308 (Int32.toInt_inj.mp z)
                    have z_7 := congrArg Int32.toInt c_309
                    have z_8 : ¬ (r_327 : Int32).toInt = (0 : Int32).toInt := fun z => c_332 (Int32.toInt_inj.mp z)
                    have y_0 : (0 : Int32).toInt = 0 := by decide
                    have y_60 : (60 : Int32).toInt = 60 := by decide
                    have y_61 : (61 : Int32).toInt = 61 := by decide
                    have y_1 : (1 : Int32).toInt = 1 := by decide
                    have t_x_35 : x_35.toInt = (sv_26 : Int32).toInt + (1 : Int32).toInt := by rw [ex_35]; exact add_toInt (by omega) (by omega)
                    have yr : (1 : Int32).toInt = 1 := by decide
                    omega
                  have hm_352 : (1 : Int32).toInt = 1 → (Cd sv_341 sv_342 (Mv 5) b sv_321 (d + 1)) ∧ (RfO (pz_com (rB (Mf 1) (Mv 0)) (St0 (rB (Mf 1) (Mv 0)) (Mv 2) (Mv 6))) (rB (Mf 1) (Mv 0)) sv_319 sv_318 sv_321) := by
                    intro h1r
                    have hr_353 : (rB (Mf 1) (Mv 0) (sv_26 : Int32).toInt.toNat = 60 ∨ rB (Mf 1) (Mv 0) (sv_26 : Int32).toInt.toNat = 61 ∨ rB (Mf 1) (Mv 0) (sv_26 : Int32).toInt.toNat = 62) := by
                      have z_1 : ¬ (r_13 : Int32).toInt = (0 : Int32).toInt := fun z => c_18 (Int32.toInt_inj.mp z)
                      have z_2 := congrArg Int32.toInt c_34
                      have z_3 : ¬ (r_31 : Int32).toInt = (61 : Int32).toInt := fun z => c_36 (Int32.toInt_inj.mp z)
                      have z_4 := Int32.lt_iff_toInt_lt.mp (Int32.not_le.mp c_120)
                      have z_5 := congrArg Int32.toInt c_206
                      have z_6 : ¬ (r_303 : Int32).toInt = (0 : Int32).toInt := fun z => c_308 (Int32.toInt_inj.mp z)
                      have z_7 := congrArg Int32.toInt c_309
                      have z_8 : ¬ (r_327 : Int32).toInt = (0 : Int32).toInt := fun z => c_332 (Int32.toInt_inj.mp z)
                      have y_0 : (0 : Int32).toInt = 0 := by decide
                      have y_60 : (60 : Int32).toInt = 60 := by decide
                      have y_61 : (61 : Int32).toInt = 61 := by decide
                      have y_1 : (1 : Int32).toInt = 1 := by decide
                      have t_x_35 : x_35.toInt = (sv_26 : Int32).toInt + (1 : Int32).toInt := by rw [ex_35]; exact add_toInt (by omega) (by omega)
                      omega
                    have rg_354 := rB_rg (n := (Mv 0)) h_bs ((sv_26 : Int32).toInt.toNat + 1)
                    have hk_355 : ((Mf 1) (x_35 : Int32).toInt.toNat).toInt = ((Mf 1) ((sv_26 : Int32).toInt.toNat + 1)).toInt := congrArg (fun z => ((Mf 1) z).toInt) (by
                      have z_1 : ¬ (r_13 : Int32).toInt = (0 : Int32).toInt := fun z => c_18 (Int32.toInt_inj.mp z)
                      have z_2 := congrArg Int32.toInt c_34
                      have z_3 : ¬ (r_31 : Int32).toInt = (61 : Int32).toInt := fun z => c_36 (Int32.toInt_inj.mp z)
                      have z_4 := Int32.lt_iff_toInt_lt.mp (Int32.not_le.mp c_120)
                      have z_5 := congrArg Int32.toInt c_206
                      have z_6 : ¬ (r_303 : Int32).toInt = (0 : Int32).toInt := fun z => c_308 (Int32.toInt_inj.mp z)
                      have z_7 := congrArg Int32.toInt c_309
                      have z_8 : ¬ (r_327 : Int32).toInt = (0 : Int32).toInt := fun z => c_332 (Int32.toInt_inj.mp z)
                      have y_0 : (0 : Int32).toInt = 0 := by decide
                      have y_60 : (60 : Int32).toInt = 60 := by decide
                      have y_61 : (61 : Int32).toInt = 61 := by decide
                      have y_1 : (1 : Int32).toInt = 1 := by decide
                      have t_x_35 : x_35.toInt = (sv_26 : Int32).toInt + (1 : Int32).toInt := by rw [ex_35]; exact add_toInt (by omega) (by omega)
                      omega)
                    have hr_356 : ((x_293 : Int32).toInt = (sv_26 : Int32).toInt + 1 ∧ ¬ ((rB (Mf 1) (Mv 0) (sv_26 : Int32).toInt.toNat = 60 ∨ rB (Mf 1) (Mv 0) (sv_26 : Int32).toInt.toNat = 62) ∧ rB (Mf 1) (Mv 0) ((sv_26 : Int32).toInt.toNat + 1) = 61)) ∨ ((x_293 : Int32).toInt = (sv_26 : Int32).toInt + 2 ∧ (rB (Mf 1) (Mv 0) (sv_26 : Int32).toInt.toNat = 60 ∨ rB (Mf 1) (Mv 0) (sv_26 : Int32).toInt.toNat = 62) ∧ rB (Mf 1) (Mv 0) ((sv_26 : Int32).toInt.toNat + 1) = 61) := by
                      have z_1 : ¬ (r_13 : Int32).toInt = (0 : Int32).toInt := fun z => c_18 (Int32.toInt_inj.mp z)
                      have z_2 := congrArg Int32.toInt c_34
                      have z_3 : ¬ (r_31 : Int32).toInt = (61 : Int32).toInt := fun z => c_36 (Int32.toInt_inj.mp z)
                      have z_4 := Int32.lt_iff_toInt_lt.mp (Int32.not_le.mp c_120)
                      have z_5 := congrArg Int32.toInt c_206
                      have z_6 : ¬ (r_303 : Int32).toInt = (0 : Int32).toInt := fun z => c_308 (Int32.toInt_inj.mp z)
                      have z_7 := congrArg Int32.toInt c_309
                      have z_8 : ¬ (r_327 : Int32).toInt = (0 : Int32).toInt := fun z => c_332 (Int32.toInt_inj.mp z)
                      have y_0 : (0 : Int32).toInt = 0 := by decide
                      have y_60 : (60 : Int32).toInt = 60 := by decide
                      have y_61 : (61 : Int32).toInt = 61 := by decide
                      have y_1 : (1 : Int32).toInt = 1 := by decide
                      have t_x_35 : x_35.toInt = (sv_26 : Int32).toInt + (1 : Int32).toInt := by rw [ex_35]; exact add_toInt (by omega) (by omega)
                      have t_x_293 : x_293.toInt = (x_35 : Int32).toInt + (1 : Int32).toInt := by rw [ex_293]; exact add_toInt (by omega) (by omega)
                      omega
                    have hr_357 : 0 ≤ (sv_7 : Int32).toInt ∧ (sv_7 : Int32).toInt < 60 ∧ (sv_301 : Int32).toInt = (sv_7 : Int32).toInt + 1 := by
                      have z_1 : ¬ (r_13 : Int32).toInt = (0 : Int32).toInt := fun z => c_18 (Int32.toInt_inj.mp z)
                      have z_2 := congrArg Int32.toInt c_34
                      have z_3 : ¬ (r_31 : Int32).toInt = (61 : Int32).toInt := fun z => c_36 (Int32.toInt_inj.mp z)
                      have z_4 := Int32.lt_iff_toInt_lt.mp (Int32.not_le.mp c_120)
                      have z_5 := congrArg Int32.toInt c_206
                      have z_6 : ¬ (r_303 : Int32).toInt = (0 : Int32).toInt := fun z => c_308 (Int32.toInt_inj.mp z)
                      have z_7 := congrArg Int32.toInt c_309
                      have z_8 : ¬ (r_327 : Int32).toInt = (0 : Int32).toInt := fun z => c_332 (Int32.toInt_inj.mp z)
                      have y_0 : (0 : Int32).toInt = 0 := by decide
                      have y_60 : (60 : Int32).toInt = 60 := by decide
                      have y_61 : (61 : Int32).toInt = 61 := by decide
                      have y_1 : (1 : Int32).toInt = 1 := by decide
                      have t_x_35 : x_35.toInt = (sv_26 : Int32).toInt + (1 : Int32).toInt := by rw [ex_35]; exact add_toInt (by omega) (by omega)
                      omega
                    exact ⟨pf_343, (RfO.com pf_20 pf_30 hr_353 hr_356 hr_357 pf_334)⟩
                  exact retI (v := 1) hx hb hr hlk (rfl) hP hD hS (sv_318, sv_319, sv_320, sv_321, sv_341, sv_342) ⟨_, rfl, hp_351, ha_346, ha_347, (Agr.trans (k' := (400 * ((Mv 5) : Int32).toInt + ((Mf 3) (Mv 5).toNatClampNeg).toInt)) (Agr.trans (k' := (400 * ((Mv 5) : Int32).toInt + ((Mf 3) (Mv 5).toNatClampNeg).toInt)) (Agr.mono pf_12 hr_348) pf_326 ⟨Int.le_refl _, hr_349⟩) pf_344 ⟨Int.le_refl _, hr_350⟩), hm_352, (fun h => absurd h (by decide))⟩ [1, 0, 2, 3] rfl rfl dX12_compare_174 (Nat.le_of_ble_eq_true rfl) (Nat.le_of_ble_eq_true rfl) rfl
                · skip
                  have hz_359 : (r_327 : Int32).toInt = 0 := by
                    have z_1 : ¬ (r_13 : Int32).toInt = (0 : Int32).toInt := fun z => c_18 (Int32.toInt_inj.mp z)
                    have z_2 := congrArg Int32.toInt c_34
                    have z_3 : ¬ (r_31 : Int32).toInt = (61 : Int32).toInt := fun z => c_36 (Int32.toInt_inj.mp z)
                    have z_4 := Int32.lt_iff_toInt_lt.mp (Int32.not_le.mp c_120)
                    have z_5 := congrArg Int32.toInt c_206
                    have z_6 : ¬ (r_303 : Int32).toInt = (0 : Int32).toInt := fun z => c_308 (Int32.toInt_inj.mp z)
                    have z_7 := congrArg Int32.toInt c_309
                    have z_8 := congrArg Int32.toInt c_332
                    have y_0 : (0 : Int32).toInt = 0 := by decide
                    have y_60 : (60 : Int32).toInt = 60 := by decide
                    have y_61 : (61 : Int32).toInt = 61 := by decide
                    have y_1 : (1 : Int32).toInt = 1 := by decide
                    have t_x_35 : x_35.toInt = (sv_26 : Int32).toInt + (1 : Int32).toInt := by rw [ex_35]; exact add_toInt (by omega) (by omega)
                    omega
                  obtain pf_358 := hm_331 hz_359
                  have pf_358 : RfE (pz_sum (rB (Mf 1) (Mv 0)) (St0 (rB (Mf 1) (Mv 0)) x_293 sv_301)) sv_319 := pf_358
                  refine lv_iconst (v := 0) hx hb dX12_compare_161 (by decide) ?_
                  have ha_360 : ((Mv 2) : Int32).toInt ≤ (sv_318 : Int32).toInt ∧ (sv_318 : Int32).toInt ≤ ((Mv 0) : Int32).toInt := by
                    have z_1 : ¬ (r_13 : Int32).toInt = (0 : Int32).toInt := fun z => c_18 (Int32.toInt_inj.mp z)
                    have z_2 := congrArg Int32.toInt c_34
                    have z_3 : ¬ (r_31 : Int32).toInt = (61 : Int32).toInt := fun z => c_36 (Int32.toInt_inj.mp z)
                    have z_4 := Int32.lt_iff_toInt_lt.mp (Int32.not_le.mp c_120)
                    have z_5 := congrArg Int32.toInt c_206
                    have z_6 : ¬ (r_303 : Int32).toInt = (0 : Int32).toInt := fun z => c_308 (Int32.toInt_inj.mp z)
                    have z_7 := congrArg Int32.toInt c_309
                    have z_8 := congrArg Int32.toInt c_332
                    have y_0 : (0 : Int32).toInt = 0 := by decide
                    have y_60 : (60 : Int32).toInt = 60 := by decide
                    have y_61 : (61 : Int32).toInt = 61 := by decide
                    have y_1 : (1 : Int32).toInt = 1 := by decide
                    have t_x_35 : x_35.toInt = (sv_26 : Int32).toInt + (1 : Int32).toInt := by rw [ex_35]; exact add_toInt (by omega) (by omega)
                    omega
                  have ha_361 : ((Mv 6) : Int32).toInt ≤ (sv_321 : Int32).toInt ∧ (sv_321 : Int32).toInt ≤ 60 := by
                    have z_1 : ¬ (r_13 : Int32).toInt = (0 : Int32).toInt := fun z => c_18 (Int32.toInt_inj.mp z)
                    have z_2 := congrArg Int32.toInt c_34
                    have z_3 : ¬ (r_31 : Int32).toInt = (61 : Int32).toInt := fun z => c_36 (Int32.toInt_inj.mp z)
                    have z_4 := Int32.lt_iff_toInt_lt.mp (Int32.not_le.mp c_120)
                    have z_5 := congrArg Int32.toInt c_206
                    have z_6 : ¬ (r_303 : Int32).toInt = (0 : Int32).toInt := fun z => c_308 (Int32.toInt_inj.mp z)
                    have z_7 := congrArg Int32.toInt c_309
                    have z_8 := congrArg Int32.toInt c_332
                    have y_0 : (0 : Int32).toInt = 0 := by decide
                    have y_60 : (60 : Int32).toInt = 60 := by decide
                    have y_61 : (61 : Int32).toInt = 61 := by decide
                    have y_1 : (1 : Int32).toInt = 1 := by decide
                    have t_x_35 : x_35.toInt = (sv_26 : Int32).toInt + (1 : Int32).toInt := by rw [ex_35]; exact add_toInt (by omega) (by omega)
                    omega
                  have hr_362 : (400 * ((Mv 5) : Int32).toInt + ((Mf 3) (Mv 5).toNatClampNeg).toInt) ≤ (400 * ((Mv 5) : Int32).toInt + ((Mf 3) (Mv 5).toNatClampNeg).toInt) := by
                    have z_1 : ¬ (r_13 : Int32).toInt = (0 : Int32).toInt := fun z => c_18 (Int32.toInt_inj.mp z)
                    have z_2 := congrArg Int32.toInt c_34
                    have z_3 : ¬ (r_31 : Int32).toInt = (61 : Int32).toInt := fun z => c_36 (Int32.toInt_inj.mp z)
                    have z_4 := Int32.lt_iff_toInt_lt.mp (Int32.not_le.mp c_120)
                    have z_5 := congrArg Int32.toInt c_206
                    have z_6 : ¬ (r_303 : Int32).toInt = (0 : Int32).toInt := fun z => c_308 (Int32.toInt_inj.mp z)
                    have z_7 := congrArg Int32.toInt c_309
                    have z_8 := congrArg Int32.toInt c_332
                    have y_0 : (0 : Int32).toInt = 0 := by decide
                    have y_60 : (60 : Int32).toInt = 60 := by decide
                    have y_61 : (61 : Int32).toInt = 61 := by decide
                    have y_1 : (1 : Int32).toInt = 1 := by decide
                    have t_x_35 : x_35.toInt = (sv_26 : Int32).toInt + (1 : Int32).toInt := by rw [ex_35]; exact add_toInt (by omega) (by omega)
                    omega
                  have hr_363 : (400 * ((Mv 5) : Int32).toInt + ((Mf 3) (Mv 5).toNatClampNeg).toInt) ≤ (400 * ((Mv 5) : Int32).toInt + (sv_9 (Mv 5).toNatClampNeg).toInt) := by
                    have z_1 : ¬ (r_13 : Int32).toInt = (0 : Int32).toInt := fun z => c_18 (Int32.toInt_inj.mp z)
                    have z_2 := congrArg Int32.toInt c_34
                    have z_3 : ¬ (r_31 : Int32).toInt = (61 : Int32).toInt := fun z => c_36 (Int32.toInt_inj.mp z)
                    have z_4 := Int32.lt_iff_toInt_lt.mp (Int32.not_le.mp c_120)
                    have z_5 := congrArg Int32.toInt c_206
                    have z_6 : ¬ (r_303 : Int32).toInt = (0 : Int32).toInt := fun z => c_308 (Int32.toInt_inj.mp z)
                    have z_7 := congrArg Int32.toInt c_309
                    have z_8 := congrArg Int32.toInt c_332
                    have y_0 : (0 : Int32).toInt = 0 := by decide
                    have y_60 : (60 : Int32).toInt = 60 := by decide
                    have y_61 : (61 : Int32).toInt = 61 := by decide
                    have y_1 : (1 : Int32).toInt = 1 := by decide
                    have t_x_35 : x_35.toInt = (sv_26 : Int32).toInt + (1 : Int32).toInt := by rw [ex_35]; exact add_toInt (by omega) (by omega)
                    omega
                  have hp_364 : (((0 : Int32).toInt = 0 ∧ ¬ (sv_319 : Int32).toInt = 0) ∨ ((0 : Int32).toInt = 1 ∧ ((Mf 3) (Mv 5).toNatClampNeg).toInt + 1 ≤ (sv_323 (Mv 5).toNatClampNeg).toInt ∧ (sv_323 (Mv 5).toNatClampNeg).toInt + ((Mv 2) : Int32).toInt ≤ ((Mf 3) (Mv 5).toNatClampNeg).toInt + (sv_318 : Int32).toInt ∧ ((Mv 2) : Int32).toInt + 1 ≤ (sv_318 : Int32).toInt)) := by
                    have z_1 : ¬ (r_13 : Int32).toInt = (0 : Int32).toInt := fun z => c_18 (Int32.toInt_inj.mp z)
                    have z_2 := congrArg Int32.toInt c_34
                    have z_3 : ¬ (r_31 : Int32).toInt = (61 : Int32).toInt := fun z => c_36 (Int32.toInt_inj.mp z)
                    have z_4 := Int32.lt_iff_toInt_lt.mp (Int32.not_le.mp c_120)
                    have z_5 := congrArg Int32.toInt c_206
                    have z_6 : ¬ (r_303 : Int32).toInt = (0 : Int32).toInt := fun z => c_308 (Int32.toInt_inj.mp z)
                    have z_7 := congrArg Int32.toInt c_309
                    have z_8 := congrArg Int32.toInt c_332
                    have y_0 : (0 : Int32).toInt = 0 := by decide
                    have y_60 : (60 : Int32).toInt = 60 := by decide
                    have y_61 : (61 : Int32).toInt = 61 := by decide
                    have y_1 : (1 : Int32).toInt = 1 := by decide
                    have t_x_35 : x_35.toInt = (sv_26 : Int32).toInt + (1 : Int32).toInt := by rw [ex_35]; exact add_toInt (by omega) (by omega)
                    omega
                  have hm_365 : (0 : Int32).toInt = 0 → (RfE (pz_com (rB (Mf 1) (Mv 0)) (St0 (rB (Mf 1) (Mv 0)) (Mv 2) (Mv 6))) sv_319) := by
                    intro h1r
                    have hr_366 : (rB (Mf 1) (Mv 0) (sv_26 : Int32).toInt.toNat = 60 ∨ rB (Mf 1) (Mv 0) (sv_26 : Int32).toInt.toNat = 61 ∨ rB (Mf 1) (Mv 0) (sv_26 : Int32).toInt.toNat = 62) := by
                      have z_1 : ¬ (r_13 : Int32).toInt = (0 : Int32).toInt := fun z => c_18 (Int32.toInt_inj.mp z)
                      have z_2 := congrArg Int32.toInt c_34
                      have z_3 : ¬ (r_31 : Int32).toInt = (61 : Int32).toInt := fun z => c_36 (Int32.toInt_inj.mp z)
                      have z_4 := Int32.lt_iff_toInt_lt.mp (Int32.not_le.mp c_120)
                      have z_5 := congrArg Int32.toInt c_206
                      have z_6 : ¬ (r_303 : Int32).toInt = (0 : Int32).toInt := fun z => c_308 (Int32.toInt_inj.mp z)
                      have z_7 := congrArg Int32.toInt c_309
                      have z_8 := congrArg Int32.toInt c_332
                      have y_0 : (0 : Int32).toInt = 0 := by decide
                      have y_60 : (60 : Int32).toInt = 60 := by decide
                      have y_61 : (61 : Int32).toInt = 61 := by decide
                      have y_1 : (1 : Int32).toInt = 1 := by decide
                      have t_x_35 : x_35.toInt = (sv_26 : Int32).toInt + (1 : Int32).toInt := by rw [ex_35]; exact add_toInt (by omega) (by omega)
                      omega
                    have rg_367 := rB_rg (n := (Mv 0)) h_bs ((sv_26 : Int32).toInt.toNat + 1)
                    have hk_368 : ((Mf 1) (x_35 : Int32).toInt.toNat).toInt = ((Mf 1) ((sv_26 : Int32).toInt.toNat + 1)).toInt := congrArg (fun z => ((Mf 1) z).toInt) (by
                      have z_1 : ¬ (r_13 : Int32).toInt = (0 : Int32).toInt := fun z => c_18 (Int32.toInt_inj.mp z)
                      have z_2 := congrArg Int32.toInt c_34
                      have z_3 : ¬ (r_31 : Int32).toInt = (61 : Int32).toInt := fun z => c_36 (Int32.toInt_inj.mp z)
                      have z_4 := Int32.lt_iff_toInt_lt.mp (Int32.not_le.mp c_120)
                      have z_5 := congrArg Int32.toInt c_206
                      have z_6 : ¬ (r_303 : Int32).toInt = (0 : Int32).toInt := fun z => c_308 (Int32.toInt_inj.mp z)
                      have z_7 := congrArg Int32.toInt c_309
                      have z_8 := congrArg Int32.toInt c_332
                      have y_0 : (0 : Int32).toInt = 0 := by decide
                      have y_60 : (60 : Int32).toInt = 60 := by decide
                      have y_61 : (61 : Int32).toInt = 61 := by decide
                      have y_1 : (1 : Int32).toInt = 1 := by decide
                      have t_x_35 : x_35.toInt = (sv_26 : Int32).toInt + (1 : Int32).toInt := by rw [ex_35]; exact add_toInt (by omega) (by omega)
                      omega)
                    have hr_369 : ((x_293 : Int32).toInt = (sv_26 : Int32).toInt + 1 ∧ ¬ ((rB (Mf 1) (Mv 0) (sv_26 : Int32).toInt.toNat = 60 ∨ rB (Mf 1) (Mv 0) (sv_26 : Int32).toInt.toNat = 62) ∧ rB (Mf 1) (Mv 0) ((sv_26 : Int32).toInt.toNat + 1) = 61)) ∨ ((x_293 : Int32).toInt = (sv_26 : Int32).toInt + 2 ∧ (rB (Mf 1) (Mv 0) (sv_26 : Int32).toInt.toNat = 60 ∨ rB (Mf 1) (Mv 0) (sv_26 : Int32).toInt.toNat = 62) ∧ rB (Mf 1) (Mv 0) ((sv_26 : Int32).toInt.toNat + 1) = 61) := by
                      have z_1 : ¬ (r_13 : Int32).toInt = (0 : Int32).toInt := fun z => c_18 (Int32.toInt_inj.mp z)
                      have z_2 := congrArg Int32.toInt c_34
                      have z_3 : ¬ (r_31 : Int32).toInt = (61 : Int32).toInt := fun z => c_36 (Int32.toInt_inj.mp z)
                      have z_4 := Int32.lt_iff_toInt_lt.mp (Int32.not_le.mp c_120)
                      have z_5 := congrArg Int32.toInt c_206
                      have z_6 : ¬ (r_303 : Int32).toInt = (0 : Int32).toInt := fun z => c_308 (Int32.toInt_inj.mp z)
                      have z_7 := congrArg Int32.toInt c_309
                      have z_8 := congrArg Int32.toInt c_332
                      have y_0 : (0 : Int32).toInt = 0 := by decide
                      have y_60 : (60 : Int32).toInt = 60 := by decide
                      have y_61 : (61 : Int32).toInt = 61 := by decide
                      have y_1 : (1 : Int32).toInt = 1 := by decide
                      have t_x_35 : x_35.toInt = (sv_26 : Int32).toInt + (1 : Int32).toInt := by rw [ex_35]; exact add_toInt (by omega) (by omega)
                      have t_x_293 : x_293.toInt = (x_35 : Int32).toInt + (1 : Int32).toInt := by rw [ex_293]; exact add_toInt (by omega) (by omega)
                      omega
                    have hr_370 : 0 ≤ (sv_7 : Int32).toInt ∧ (sv_7 : Int32).toInt < 60 ∧ (sv_301 : Int32).toInt = (sv_7 : Int32).toInt + 1 := by
                      have z_1 : ¬ (r_13 : Int32).toInt = (0 : Int32).toInt := fun z => c_18 (Int32.toInt_inj.mp z)
                      have z_2 := congrArg Int32.toInt c_34
                      have z_3 : ¬ (r_31 : Int32).toInt = (61 : Int32).toInt := fun z => c_36 (Int32.toInt_inj.mp z)
                      have z_4 := Int32.lt_iff_toInt_lt.mp (Int32.not_le.mp c_120)
                      have z_5 := congrArg Int32.toInt c_206
                      have z_6 : ¬ (r_303 : Int32).toInt = (0 : Int32).toInt := fun z => c_308 (Int32.toInt_inj.mp z)
                      have z_7 := congrArg Int32.toInt c_309
                      have z_8 := congrArg Int32.toInt c_332
                      have y_0 : (0 : Int32).toInt = 0 := by decide
                      have y_60 : (60 : Int32).toInt = 60 := by decide
                      have y_61 : (61 : Int32).toInt = 61 := by decide
                      have y_1 : (1 : Int32).toInt = 1 := by decide
                      have t_x_35 : x_35.toInt = (sv_26 : Int32).toInt + (1 : Int32).toInt := by rw [ex_35]; exact add_toInt (by omega) (by omega)
                      omega
                    exact (RfE.com2 pf_20 pf_30 hr_366 hr_369 hr_370 pf_358)
                  exact retI (v := 0) hx hb hr hlk (rfl) hP hD hS (sv_318, sv_319, sv_320, sv_321, sv_322, sv_323) ⟨_, rfl, hp_364, ha_360, ha_361, (Agr.trans (k' := (400 * ((Mv 5) : Int32).toInt + ((Mf 3) (Mv 5).toNatClampNeg).toInt)) (Agr.mono pf_12 hr_362) pf_326 ⟨Int.le_refl _, hr_363⟩), (fun h => absurd h (by decide)), hm_365⟩ [0, 1, 2, 3] rfl rfl dX12_compare_162 (Nat.le_of_ble_eq_true rfl) (Nat.le_of_ble_eq_true rfl) rfl
            · skip
              refine lv_iconst (v := 0) hx hb dX12_compare_113 (by decide) ?_
              have ha_371 : ((Mv 2) : Int32).toInt ≤ (x_293 : Int32).toInt ∧ (x_293 : Int32).toInt ≤ ((Mv 0) : Int32).toInt := by
                have z_1 : ¬ (r_13 : Int32).toInt = (0 : Int32).toInt := fun z => c_18 (Int32.toInt_inj.mp z)
                have z_2 := congrArg Int32.toInt c_34
                have z_3 : ¬ (r_31 : Int32).toInt = (61 : Int32).toInt := fun z => c_36 (Int32.toInt_inj.mp z)
                have z_4 := Int32.lt_iff_toInt_lt.mp (Int32.not_le.mp c_120)
                have z_5 := congrArg Int32.toInt c_206
                have z_6 := congrArg Int32.toInt c_308
                have y_0 : (0 : Int32).toInt = 0 := by decide
                have y_60 : (60 : Int32).toInt = 60 := by decide
                have y_61 : (61 : Int32).toInt = 61 := by decide
                have y_1 : (1 : Int32).toInt = 1 := by decide
                have t_x_35 : x_35.toInt = (sv_26 : Int32).toInt + (1 : Int32).toInt := by rw [ex_35]; exact add_toInt (by omega) (by omega)
                have t_x_293 : x_293.toInt = (x_35 : Int32).toInt + (1 : Int32).toInt := by rw [ex_293]; exact add_toInt (by omega) (by omega)
                omega
              have ha_372 : ((Mv 6) : Int32).toInt ≤ (sv_301 : Int32).toInt ∧ (sv_301 : Int32).toInt ≤ 60 := by
                have z_1 : ¬ (r_13 : Int32).toInt = (0 : Int32).toInt := fun z => c_18 (Int32.toInt_inj.mp z)
                have z_2 := congrArg Int32.toInt c_34
                have z_3 : ¬ (r_31 : Int32).toInt = (61 : Int32).toInt := fun z => c_36 (Int32.toInt_inj.mp z)
                have z_4 := Int32.lt_iff_toInt_lt.mp (Int32.not_le.mp c_120)
                have z_5 := congrArg Int32.toInt c_206
                have z_6 := congrArg Int32.toInt c_308
                have y_0 : (0 : Int32).toInt = 0 := by decide
                have y_60 : (60 : Int32).toInt = 60 := by decide
                have y_61 : (61 : Int32).toInt = 61 := by decide
                have y_1 : (1 : Int32).toInt = 1 := by decide
                have t_x_35 : x_35.toInt = (sv_26 : Int32).toInt + (1 : Int32).toInt := by rw [ex_35]; exact add_toInt (by omega) (by omega)
                omega
              have hp_373 : (((0 : Int32).toInt = 0 ∧ ¬ (sv_300 : Int32).toInt = 0) ∨ ((0 : Int32).toInt = 1 ∧ ((Mf 3) (Mv 5).toNatClampNeg).toInt + 1 ≤ (sv_9 (Mv 5).toNatClampNeg).toInt ∧ (sv_9 (Mv 5).toNatClampNeg).toInt + ((Mv 2) : Int32).toInt ≤ ((Mf 3) (Mv 5).toNatClampNeg).toInt + (x_293 : Int32).toInt ∧ ((Mv 2) : Int32).toInt + 1 ≤ (x_293 : Int32).toInt)) := by
                have z_1 : ¬ (r_13 : Int32).toInt = (0 : Int32).toInt := fun z => c_18 (Int32.toInt_inj.mp z)
                have z_2 := congrArg Int32.toInt c_34
                have z_3 : ¬ (r_31 : Int32).toInt = (61 : Int32).toInt := fun z => c_36 (Int32.toInt_inj.mp z)
                have z_4 := Int32.lt_iff_toInt_lt.mp (Int32.not_le.mp c_120)
                have z_5 := congrArg Int32.toInt c_206
                have z_6 := congrArg Int32.toInt c_308
                have y_0 : (0 : Int32).toInt = 0 := by decide
                have y_60 : (60 : Int32).toInt = 60 := by decide
                have y_61 : (61 : Int32).toInt = 61 := by decide
                have y_1 : (1 : Int32).toInt = 1 := by decide
                have t_x_35 : x_35.toInt = (sv_26 : Int32).toInt + (1 : Int32).toInt := by rw [ex_35]; exact add_toInt (by omega) (by omega)
                have t_x_293 : x_293.toInt = (x_35 : Int32).toInt + (1 : Int32).toInt := by rw [ex_293]; exact add_toInt (by omega) (by omega)
                omega
              have hm_374 : (0 : Int32).toInt = 0 → (RfE (pz_com (rB (Mf 1) (Mv 0)) (St0 (rB (Mf 1) (Mv 0)) (Mv 2) (Mv 6))) sv_300) := by
                intro h1r
                have hr_375 : (rB (Mf 1) (Mv 0) (sv_26 : Int32).toInt.toNat = 60 ∨ rB (Mf 1) (Mv 0) (sv_26 : Int32).toInt.toNat = 61 ∨ rB (Mf 1) (Mv 0) (sv_26 : Int32).toInt.toNat = 62) := by
                  have z_1 : ¬ (r_13 : Int32).toInt = (0 : Int32).toInt := fun z => c_18 (Int32.toInt_inj.mp z)
                  have z_2 := congrArg Int32.toInt c_34
                  have z_3 : ¬ (r_31 : Int32).toInt = (61 : Int32).toInt := fun z => c_36 (Int32.toInt_inj.mp z)
                  have z_4 := Int32.lt_iff_toInt_lt.mp (Int32.not_le.mp c_120)
                  have z_5 := congrArg Int32.toInt c_206
                  have z_6 := congrArg Int32.toInt c_308
                  have y_0 : (0 : Int32).toInt = 0 := by decide
                  have y_60 : (60 : Int32).toInt = 60 := by decide
                  have y_61 : (61 : Int32).toInt = 61 := by decide
                  have y_1 : (1 : Int32).toInt = 1 := by decide
                  have t_x_35 : x_35.toInt = (sv_26 : Int32).toInt + (1 : Int32).toInt := by rw [ex_35]; exact add_toInt (by omega) (by omega)
                  omega
                have hr_376 : 60 ≤ (sv_7 : Int32).toInt := by
                  have z_1 : ¬ (r_13 : Int32).toInt = (0 : Int32).toInt := fun z => c_18 (Int32.toInt_inj.mp z)
                  have z_2 := congrArg Int32.toInt c_34
                  have z_3 : ¬ (r_31 : Int32).toInt = (61 : Int32).toInt := fun z => c_36 (Int32.toInt_inj.mp z)
                  have z_4 := Int32.lt_iff_toInt_lt.mp (Int32.not_le.mp c_120)
                  have z_5 := congrArg Int32.toInt c_206
                  have z_6 := congrArg Int32.toInt c_308
                  have y_0 : (0 : Int32).toInt = 0 := by decide
                  have y_60 : (60 : Int32).toInt = 60 := by decide
                  have y_61 : (61 : Int32).toInt = 61 := by decide
                  have y_1 : (1 : Int32).toInt = 1 := by decide
                  have t_x_35 : x_35.toInt = (sv_26 : Int32).toInt + (1 : Int32).toInt := by rw [ex_35]; exact add_toInt (by omega) (by omega)
                  omega
                have hi_377 : (sv_300 : Int32).toInt = 1 + 8 * (sv_26 : Int32).toInt + 3 := by
                  have z_1 : ¬ (r_13 : Int32).toInt = (0 : Int32).toInt := fun z => c_18 (Int32.toInt_inj.mp z)
                  have z_2 := congrArg Int32.toInt c_34
                  have z_3 : ¬ (r_31 : Int32).toInt = (61 : Int32).toInt := fun z => c_36 (Int32.toInt_inj.mp z)
                  have z_4 := Int32.lt_iff_toInt_lt.mp (Int32.not_le.mp c_120)
                  have z_5 := congrArg Int32.toInt c_206
                  have z_6 := congrArg Int32.toInt c_308
                  have y_0 : (0 : Int32).toInt = 0 := by decide
                  have y_60 : (60 : Int32).toInt = 60 := by decide
                  have y_61 : (61 : Int32).toInt = 61 := by decide
                  have y_1 : (1 : Int32).toInt = 1 := by decide
                  have t_x_35 : x_35.toInt = (sv_26 : Int32).toInt + (1 : Int32).toInt := by rw [ex_35]; exact add_toInt (by omega) (by omega)
                  omega
                exact (RfE.com3 pf_20 pf_30 hr_375 hr_376 hi_377)
              exact retI (v := 0) hx hb hr hlk (rfl) hP hD hS (x_293, sv_300, sv_6, sv_301, sv_8, sv_9) ⟨_, rfl, hp_373, ha_371, ha_372, pf_12, (fun h => absurd h (by decide)), hm_374⟩ [3, 2, 0, 1] rfl rfl dX12_compare_114 (Nat.le_of_ble_eq_true rfl) (Nat.le_of_ble_eq_true rfl) rfl
    · skip
      refine lv_iload_n hx hb dX12_compare_25 rfl (lv_at hl 1 rfl) ?_
      refine lv_bipush (v := 61) hx hb dX12_compare_26 (by decide) ?_
      refine lv_icmp_eq (tgt := 44) hx hb dX12_compare_28 (by decide) (fun c_378 => ?_) (fun c_378 => ?_)
      · skip
        refine lv_aload_n hx hb dX12_compare_44 rfl (lv_at hl 2 rfl) ?_
        refine lv_dup hx hb dX12_compare_45 rfl ?_
        refine gf_X12_87 hx hb hts hown hK hP 2 rfl rfl dX12_compare_46 ?_
        refine lv_iconst (v := 1) hx hb dX12_compare_49 (by decide) ?_
        refine lv_iadd hx hb dX12_compare_50 ?_
        refine lv_topi (fun x_379 ex_379 => ?_)
        refine pf_X12_87 hx hb hts hown hK hP hD hS 2 rfl (Nat.le_of_ble_eq_true rfl) rfl rfl dX12_compare_51 (fun H locs hP₀ hD₀ hS₀ => ?_)
        replace hP : va_P D classes [((Ma 2), .inl (tc 0, 2400, .inl sv_8)), ((Ma 3), .inl (tc 0, 7, .inl sv_9)), ((Ma 0), .inr (12, [.ref (Ma 1), .int (Mv 0), .int (Mv 1), .ref (Ma 2), .ref (Ma 3), .ref (Ma 4), .ref (Ma 5), .ref (Ma 6), .int x_379, .int sv_5, .int sv_6, .int (Mv 5), .int sv_7, .int (Mv 7), .int (Mv 8), .ref (Ma 7), .int (Mv 9), .ref (Ma 8), .int (Mv 10), .ref (Ma 9), .ref (Ma 10), .int (Mv 11), .int (Mv 12), .int (Mv 13), .ref (Ma 11), .int (Mv 14), .ref (Ma 12), .ref (Ma 13), .ref (Ma 14), .ref (Ma 15), .ref (Ma 16), .long (Mj 0), .ref (Ma 17), .ref (Ma 18), .ref (Ma 19), .ref (Ma 20)])), ((Ma 1), .inl (tc 2, 400, .inl (Mf 1)))] H := hP₀
        replace hD : va_D A [((Ma 2), .inl (tc 0, 2400, .inl sv_8)), ((Ma 3), .inl (tc 0, 7, .inl sv_9)), ((Ma 0), .inr (12, [.ref (Ma 1), .int (Mv 0), .int (Mv 1), .ref (Ma 2), .ref (Ma 3), .ref (Ma 4), .ref (Ma 5), .ref (Ma 6), .int x_379, .int sv_5, .int sv_6, .int (Mv 5), .int sv_7, .int (Mv 7), .int (Mv 8), .ref (Ma 7), .int (Mv 9), .ref (Ma 8), .int (Mv 10), .ref (Ma 9), .ref (Ma 10), .int (Mv 11), .int (Mv 12), .int (Mv 13), .ref (Ma 11), .int (Mv 14), .ref (Ma 12), .ref (Ma 13), .ref (Ma 14), .ref (Ma 15), .ref (Ma 16), .long (Mj 0), .ref (Ma 17), .ref (Ma 18), .ref (Ma 19), .ref (Ma 20)])), ((Ma 1), .inl (tc 2, 400, .inl (Mf 1)))] := hD₀
        replace hS := hS₀
        clear hP₀ hD₀ hS₀
        have tp_x_379 : (x_379 : Int32).toInt = (sv_26 : Int32).toInt + 1 := by
          have z_1 : ¬ (r_13 : Int32).toInt = (0 : Int32).toInt := fun z => c_18 (Int32.toInt_inj.mp z)
          have z_2 : ¬ (r_31 : Int32).toInt = (60 : Int32).toInt := fun z => c_34 (Int32.toInt_inj.mp z)
          have z_3 := congrArg Int32.toInt c_378
          have y_0 : (0 : Int32).toInt = 0 := by decide
          have y_60 : (60 : Int32).toInt = 60 := by decide
          have y_61 : (61 : Int32).toInt = 61 := by decide
          have y_1 : (1 : Int32).toInt = 1 := by decide
          have t_x_379 : x_379.toInt = (sv_26 : Int32).toInt + (1 : Int32).toInt := by rw [ex_379]; exact add_toInt (by omega) (by omega)
          omega
        refine lv_iload_n hx hb dX12_compare_54 rfl (lv_at hl 1 rfl) ?_
        refine lv_bipush (v := 61) hx hb dX12_compare_55 (by decide) ?_
        refine lv_icmp_eq (tgt := 89) hx hb dX12_compare_57 (by decide) (fun c_380 => ?_) (fun c_380 => ?_)
        · skip
          refine lv_iconst (v := 0) hx hb dX12_compare_89 (by decide) ?_
          refine lv_istore_n (lv' := [(3, .int 0), (2, .int sv_26), (1, .int r_31), (0, .ref (Ma 0))]) hx hb dX12_compare_90 rfl hl (by decide) rfl (fun ls hl₀ => ?_)
          replace hl := hl₀
          clear hl₀
          refine lv_iload_n hx hb dX12_compare_91 rfl (lv_at hl 0 rfl) ?_
          refine lv_if_eq (tgt := 105) hx hb dX12_compare_92 (by decide) (fun c_381 => ?_) (fun c_381 => absurd c_381 (by decide))
          refine lv_aload_n hx hb dX12_compare_105 rfl (lv_at hl 3 rfl) ?_
          refine lv_iload_n hx hb dX12_compare_106 rfl (lv_at hl 1 rfl) ?_
          have ha_382 : 0 ≤ sv_26.toInt ∧ sv_26.toInt ≤ 400 := by
            have z_1 : ¬ (r_13 : Int32).toInt = (0 : Int32).toInt := fun z => c_18 (Int32.toInt_inj.mp z)
            have z_2 : ¬ (r_31 : Int32).toInt = (60 : Int32).toInt := fun z => c_34 (Int32.toInt_inj.mp z)
            have z_3 := congrArg Int32.toInt c_378
            have z_4 := congrArg Int32.toInt c_380
            have y_0 : (0 : Int32).toInt = 0 := by decide
            have y_60 : (60 : Int32).toInt = 60 := by decide
            have y_61 : (61 : Int32).toInt = 61 := by decide
            omega
          have ha_383 : 0 ≤ (sv_7 : Int32).toInt ∧ (sv_7 : Int32).toInt ≤ 60 := by
            have z_1 : ¬ (r_13 : Int32).toInt = (0 : Int32).toInt := fun z => c_18 (Int32.toInt_inj.mp z)
            have z_2 : ¬ (r_31 : Int32).toInt = (60 : Int32).toInt := fun z => c_34 (Int32.toInt_inj.mp z)
            have z_3 := congrArg Int32.toInt c_378
            have z_4 := congrArg Int32.toInt c_380
            have y_0 : (0 : Int32).toInt = 0 := by decide
            have y_60 : (60 : Int32).toInt = 60 := by decide
            have y_61 : (61 : Int32).toInt = 61 := by decide
            omega
          have ha_384 : (sv_5 : Int32).toInt = 0 := by
            have z_1 : ¬ (r_13 : Int32).toInt = (0 : Int32).toInt := fun z => c_18 (Int32.toInt_inj.mp z)
            have z_2 : ¬ (r_31 : Int32).toInt = (60 : Int32).toInt := fun z => c_34 (Int32.toInt_inj.mp z)
            have z_3 := congrArg Int32.toInt c_378
            have z_4 := congrArg Int32.toInt c_380
            have y_0 : (0 : Int32).toInt = 0 := by decide
            have y_60 : (60 : Int32).toInt = 60 := by decide
            have y_61 : (61 : Int32).toInt = 61 := by decide
            omega
          refine cV (a := (Ma 0)) (As := [.int sv_26]) (rest := []) (wr := [((Ma 2), .inl (tc 0, 2400, .inl sv_8)), ((Ma 3), .inl (tc 0, 7, .inl sv_9)), ((Ma 1), .inl (tc 2, 400, .inl (Mf 1)))]) ⟨hx, hb, hml, hown, hts⟩ hK hX hA (cu_fX12_makes l D tc sk (Ma 0) (Ma 1) (Ma 2) (Ma 3) (Ma 4) (Ma 5) (Ma 6) (Ma 7) (Ma 8) (Ma 9) (Ma 10) (Ma 11) (Ma 12) (Ma 13) (Ma 14) (Ma 15) (Ma 16) (Ma 17) (Ma 18) (Ma 19) (Ma 20) (Mv 0) (Mv 1) x_379 sv_5 sv_6 (Mv 5) sv_7 (Mv 7) (Mv 8) (Mv 9) (Mv 10) (Mv 11) (Mv 12) (Mv 13) (Mv 14) (Mj 0) sv_26 ha_382 ha_383 ha_384) k_1292 k_1289 k_1291 k_45 k_106 pl_X12_makes ⟨Nat.le_of_ble_eq_true rfl, Nat.le_of_ble_eq_true rfl⟩ rfl rfl (va_recv hK hP (ci := 12) (q0 := 2) rfl rfl) hP hD hS [2] [0, 1, 3] rfl rfl rfl rfl rfl (by decide) rfl hl.1 rfl (Nat.le_of_ble_eq_true rfl) dX12_compare_107 ⟨Nat.le_of_ble_eq_true rfl, Nat.le_of_ble_eq_true rfl⟩ (fun v_385 u_386 H locs hv_387 hP₀ hD₀ hS₀ => ?_)
          obtain ⟨sv_388, sv_389⟩ := u_386
          obtain ⟨r_391, rfl, he_392, pf_390⟩ := hv_387
          have he_392 : ((r_391.toInt = 0 ∧ ¬ (sv_388 : Int32).toInt = 0 ∧ sv_7.toInt = 60 ∧ (sv_388 : Int32).toInt = 1 + 8 * sv_26.toInt + 3) ∨ (r_391.toInt = 1 ∧ (sv_389 : Int32).toInt = sv_7.toInt + 1 ∧ sv_7.toInt < 60 ∧ (sv_388 : Int32).toInt = 0)) := he_392
          have pf_390 : (sv_7 : Int32).toInt ≤ (sv_389 : Int32).toInt ∧ (sv_389 : Int32).toInt ≤ 60 := pf_390
          refine W.eq (g2 := F0 m 110 ls [.int r_391]) rfl ?_
          replace hP : va_P D classes [((Ma 2), .inl (tc 0, 2400, .inl sv_8)), ((Ma 3), .inl (tc 0, 7, .inl sv_9)), ((Ma 1), .inl (tc 2, 400, .inl (Mf 1))), ((Ma 0), .inr (12, [.ref (Ma 1), .int (Mv 0), .int (Mv 1), .ref (Ma 2), .ref (Ma 3), .ref (Ma 4), .ref (Ma 5), .ref (Ma 6), .int x_379, .int sv_388, .int sv_6, .int (Mv 5), .int sv_389, .int (Mv 7), .int (Mv 8), .ref (Ma 7), .int (Mv 9), .ref (Ma 8), .int (Mv 10), .ref (Ma 9), .ref (Ma 10), .int (Mv 11), .int (Mv 12), .int (Mv 13), .ref (Ma 11), .int (Mv 14), .ref (Ma 12), .ref (Ma 13), .ref (Ma 14), .ref (Ma 15), .ref (Ma 16), .long (Mj 0), .ref (Ma 17), .ref (Ma 18), .ref (Ma 19), .ref (Ma 20)]))] H := hP₀
          replace hD : va_D A [((Ma 2), .inl (tc 0, 2400, .inl sv_8)), ((Ma 3), .inl (tc 0, 7, .inl sv_9)), ((Ma 1), .inl (tc 2, 400, .inl (Mf 1))), ((Ma 0), .inr (12, [.ref (Ma 1), .int (Mv 0), .int (Mv 1), .ref (Ma 2), .ref (Ma 3), .ref (Ma 4), .ref (Ma 5), .ref (Ma 6), .int x_379, .int sv_388, .int sv_6, .int (Mv 5), .int sv_389, .int (Mv 7), .int (Mv 8), .ref (Ma 7), .int (Mv 9), .ref (Ma 8), .int (Mv 10), .ref (Ma 9), .ref (Ma 10), .int (Mv 11), .int (Mv 12), .int (Mv 13), .ref (Ma 11), .int (Mv 14), .ref (Ma 12), .ref (Ma 13), .ref (Ma 14), .ref (Ma 15), .ref (Ma 16), .long (Mj 0), .ref (Ma 17), .ref (Ma 18), .ref (Ma 19), .ref (Ma 20)]))] := hD₀
          replace hS := hS₀
          clear hP₀ hD₀ hS₀
          have hr_395 : (sv_7 : Int32).toInt ≤ (sv_389 : Int32).toInt ∧ (sv_389 : Int32).toInt ≤ 60 := by
            have z_1 : ¬ (r_13 : Int32).toInt = (0 : Int32).toInt := fun z => c_18 (Int32.toInt_inj.mp z)
            have z_2 : ¬ (r_31 : Int32).toInt = (60 : Int32).toInt := fun z => c_34 (Int32.toInt_inj.mp z)
            have z_3 := congrArg Int32.toInt c_378
            have z_4 := congrArg Int32.toInt c_380
            have y_0 : (0 : Int32).toInt = 0 := by decide
            have y_60 : (60 : Int32).toInt = 60 := by decide
            have y_61 : (61 : Int32).toInt = 61 := by decide
            omega
          have pf_394 : Cd sv_8 sv_9 (Mv 5) b sv_389 (d + 1) := Cd.mono pf_19 hr_395
          have ar_pf_394 := Cd.ar pf_394
          refine lv_if_ne (tgt := 115) hx hb dX12_compare_110 (by decide) (fun c_396 => ?_) (fun c_396 => ?_)
          · skip
            refine lv_iload_n hx hb dX12_compare_115 rfl (lv_at hl 2 rfl) ?_
            refine lv_bipush (v := 60) hx hb dX12_compare_116 (by decide) ?_
            refine lv_icmp_ne (tgt := 133) hx hb dX12_compare_118 (by decide) (fun c_397 => ?_) (fun c_397 => ?_)
            · skip
              refine lv_iload_n hx hb dX12_compare_133 rfl (lv_at hl 2 rfl) ?_
              refine lv_bipush (v := 61) hx hb dX12_compare_134 (by decide) ?_
              refine lv_icmp_ne (tgt := 143) hx hb dX12_compare_136 (by decide) (fun c_398 => ?_) (fun c_398 => ?_)
              · skip
                exfalso
                have z_1 : ¬ (r_13 : Int32).toInt = (0 : Int32).toInt := fun z => c_18 (Int32.toInt_inj.mp z)
                have z_2 : ¬ (r_31 : Int32).toInt = (60 : Int32).toInt := fun z => c_34 (Int32.toInt_inj.mp z)
                have z_3 := congrArg Int32.toInt c_378
                have z_4 := congrArg Int32.toInt c_380
                have z_5 : ¬ (r_391 : Int32).toInt = (0 : Int32).toInt := fun z => c_396 (Int32.toInt_inj.mp z)
                have z_6 : ¬ (r_31 : Int32).toInt = (60 : Int32).toInt := fun z => c_397 (Int32.toInt_inj.mp z)
                have z_7 : ¬ (r_31 : Int32).toInt = (61 : Int32).toInt := fun z => c_398 (Int32.toInt_inj.mp z)
                have y_0 : (0 : Int32).toInt = 0 := by decide
                have y_60 : (60 : Int32).toInt = 60 := by decide
                have y_61 : (61 : Int32).toInt = 61 := by decide
                omega
              · skip
                refine lv_iconst (v := 2) hx hb dX12_compare_139 (by decide) ?_
                refine lv_goto (tgt := 152) hx hb dX12_compare_140 (by decide) ?_
                refine lv_istore (lv' := [(4, .int 2), (3, .int 0), (2, .int sv_26), (1, .int r_31), (0, .ref (Ma 0))]) hx hb dX12_compare_152 hl (by decide) rfl (fun ls hl₀ => ?_)
                replace hl := hl₀
                clear hl₀
                refine lv_aload_n hx hb dX12_compare_154 rfl (lv_at hl 4 rfl) ?_
                have ha_399 : 0 ≤ (x_379 : Int32).toInt ∧ (x_379 : Int32).toInt ≤ ((Mv 0) : Int32).toInt ∧ ((Mv 0) : Int32).toInt ≤ 400 := by
                  have z_1 : ¬ (r_13 : Int32).toInt = (0 : Int32).toInt := fun z => c_18 (Int32.toInt_inj.mp z)
                  have z_2 : ¬ (r_31 : Int32).toInt = (60 : Int32).toInt := fun z => c_34 (Int32.toInt_inj.mp z)
                  have z_3 := congrArg Int32.toInt c_378
                  have z_4 := congrArg Int32.toInt c_380
                  have z_5 : ¬ (r_391 : Int32).toInt = (0 : Int32).toInt := fun z => c_396 (Int32.toInt_inj.mp z)
                  have z_6 : ¬ (r_31 : Int32).toInt = (60 : Int32).toInt := fun z => c_397 (Int32.toInt_inj.mp z)
                  have z_7 := congrArg Int32.toInt c_398
                  have y_0 : (0 : Int32).toInt = 0 := by decide
                  have y_60 : (60 : Int32).toInt = 60 := by decide
                  have y_61 : (61 : Int32).toInt = 61 := by decide
                  have y_1 : (1 : Int32).toInt = 1 := by decide
                  have t_x_379 : x_379.toInt = (sv_26 : Int32).toInt + (1 : Int32).toInt := by rw [ex_379]; exact add_toInt (by omega) (by omega)
                  omega
                have ha_400 : (sv_9 (Mv 5).toNatClampNeg).toInt ≤ (x_379 : Int32).toInt := by
                  have z_1 : ¬ (r_13 : Int32).toInt = (0 : Int32).toInt := fun z => c_18 (Int32.toInt_inj.mp z)
                  have z_2 : ¬ (r_31 : Int32).toInt = (60 : Int32).toInt := fun z => c_34 (Int32.toInt_inj.mp z)
                  have z_3 := congrArg Int32.toInt c_378
                  have z_4 := congrArg Int32.toInt c_380
                  have z_5 : ¬ (r_391 : Int32).toInt = (0 : Int32).toInt := fun z => c_396 (Int32.toInt_inj.mp z)
                  have z_6 : ¬ (r_31 : Int32).toInt = (60 : Int32).toInt := fun z => c_397 (Int32.toInt_inj.mp z)
                  have z_7 := congrArg Int32.toInt c_398
                  have y_0 : (0 : Int32).toInt = 0 := by decide
                  have y_60 : (60 : Int32).toInt = 60 := by decide
                  have y_61 : (61 : Int32).toInt = 61 := by decide
                  have y_1 : (1 : Int32).toInt = 1 := by decide
                  have t_x_379 : x_379.toInt = (sv_26 : Int32).toInt + (1 : Int32).toInt := by rw [ex_379]; exact add_toInt (by omega) (by omega)
                  omega
                have ha_401 : 0 ≤ (sv_389 : Int32).toInt ∧ (sv_389 : Int32).toInt ≤ 60 := by
                  have z_1 : ¬ (r_13 : Int32).toInt = (0 : Int32).toInt := fun z => c_18 (Int32.toInt_inj.mp z)
                  have z_2 : ¬ (r_31 : Int32).toInt = (60 : Int32).toInt := fun z => c_34 (Int32.toInt_inj.mp z)
                  have z_3 := congrArg Int32.toInt c_378
                  have z_4 := congrArg Int32.toInt c_380
                  have z_5 : ¬ (r_391 : Int32).toInt = (0 : Int32).toInt := fun z => c_396 (Int32.toInt_inj.mp z)
                  have z_6 : ¬ (r_31 : Int32).toInt = (60 : Int32).toInt := fun z => c_397 (Int32.toInt_inj.mp z)
                  have z_7 := congrArg Int32.toInt c_398
                  have y_0 : (0 : Int32).toInt = 0 := by decide
                  have y_60 : (60 : Int32).toInt = 60 := by decide
                  have y_61 : (61 : Int32).toInt = 61 := by decide
                  omega
                have ha_402 : (sv_388 : Int32).toInt = 0 := by
                  have z_1 : ¬ (r_13 : Int32).toInt = (0 : Int32).toInt := fun z => c_18 (Int32.toInt_inj.mp z)
                  have z_2 : ¬ (r_31 : Int32).toInt = (60 : Int32).toInt := fun z => c_34 (Int32.toInt_inj.mp z)
                  have z_3 := congrArg Int32.toInt c_378
                  have z_4 := congrArg Int32.toInt c_380
                  have z_5 : ¬ (r_391 : Int32).toInt = (0 : Int32).toInt := fun z => c_396 (Int32.toInt_inj.mp z)
                  have z_6 : ¬ (r_31 : Int32).toInt = (60 : Int32).toInt := fun z => c_397 (Int32.toInt_inj.mp z)
                  have z_7 := congrArg Int32.toInt c_398
                  have y_0 : (0 : Int32).toInt = 0 := by decide
                  have y_60 : (60 : Int32).toInt = 60 := by decide
                  have y_61 : (61 : Int32).toInt = 61 := by decide
                  omega
                refine cV (a := (Ma 0)) (As := []) (rest := []) (wr := []) ⟨hx, hb, hml, hown, hts⟩ hK hX hA (cu_fX12_sum l D tc sk (Ma 0) (Ma 1) (Ma 2) (Ma 3) (Ma 4) (Ma 5) (Ma 6) (Ma 7) (Ma 8) (Ma 9) (Ma 10) (Ma 11) (Ma 12) (Ma 13) (Ma 14) (Ma 15) (Ma 16) (Ma 17) (Ma 18) (Ma 19) (Ma 20) (Mv 0) (Mv 1) x_379 sv_388 sv_6 (Mv 5) sv_389 (Mv 7) (Mv 8) (Mv 9) (Mv 10) (Mv 11) (Mv 12) (Mv 13) (Mv 14) (Mf 1) sv_8 sv_9 (Mj 0) b (d + 1) ha_399 pf_394 ha_400 ha_401 h_bs ha_402) k_1279 k_1276 k_1278 k_42 k_106 pl_X12_sum ⟨Nat.le_of_ble_eq_true rfl, Nat.le_of_ble_eq_true rfl⟩ rfl rfl (va_recv hK hP (ci := 12) (q0 := 3) rfl rfl) hP hD hS [3, 2, 0, 1] [] rfl rfl rfl rfl rfl (by decide) rfl hl.1 rfl (Nat.le_of_ble_eq_true rfl) dX12_compare_155 ⟨Nat.le_of_ble_eq_true rfl, Nat.le_of_ble_eq_true rfl⟩ (fun v_403 u_404 H locs hv_405 hP₀ hD₀ hS₀ => ?_)
                obtain ⟨sv_406, sv_407, sv_408, sv_409, sv_410, sv_411⟩ := u_404
                obtain ⟨r_415, rfl, he_416, pf_412, pf_413, pf_414, hm_418, hm_419⟩ := hv_405
                have he_416 : ((r_415.toInt = 0 ∧ ¬ (sv_407 : Int32).toInt = 0) ∨ (r_415.toInt = 1 ∧ (sv_9 (Mv 5).toNatClampNeg).toInt + 1 ≤ (sv_411 (Mv 5).toNatClampNeg).toInt ∧ (sv_411 (Mv 5).toNatClampNeg).toInt + (x_379 : Int32).toInt ≤ (sv_9 (Mv 5).toNatClampNeg).toInt + (sv_406 : Int32).toInt ∧ (x_379 : Int32).toInt + 1 ≤ (sv_406 : Int32).toInt)) := he_416
                have pf_412 : (x_379 : Int32).toInt ≤ (sv_406 : Int32).toInt ∧ (sv_406 : Int32).toInt ≤ ((Mv 0) : Int32).toInt := pf_412
                have pf_413 : (sv_389 : Int32).toInt ≤ (sv_409 : Int32).toInt ∧ (sv_409 : Int32).toInt ≤ 60 := pf_413
                have pf_414 : Agr sv_8 sv_410 (400 * ((Mv 5) : Int32).toInt + (sv_9 (Mv 5).toNatClampNeg).toInt) := pf_414
                refine W.eq (g2 := F0 m 158 ls [.int r_415]) rfl ?_
                replace hP : va_P D classes [((Ma 0), .inr (12, [.ref (Ma 1), .int (Mv 0), .int (Mv 1), .ref (Ma 2), .ref (Ma 3), .ref (Ma 4), .ref (Ma 5), .ref (Ma 6), .int sv_406, .int sv_407, .int sv_408, .int (Mv 5), .int sv_409, .int (Mv 7), .int (Mv 8), .ref (Ma 7), .int (Mv 9), .ref (Ma 8), .int (Mv 10), .ref (Ma 9), .ref (Ma 10), .int (Mv 11), .int (Mv 12), .int (Mv 13), .ref (Ma 11), .int (Mv 14), .ref (Ma 12), .ref (Ma 13), .ref (Ma 14), .ref (Ma 15), .ref (Ma 16), .long (Mj 0), .ref (Ma 17), .ref (Ma 18), .ref (Ma 19), .ref (Ma 20)])), ((Ma 1), .inl (tc 2, 400, .inl (Mf 1))), ((Ma 2), .inl (tc 0, 2400, .inl sv_410)), ((Ma 3), .inl (tc 0, 7, .inl sv_411))] H := hP₀
                replace hD : va_D A [((Ma 0), .inr (12, [.ref (Ma 1), .int (Mv 0), .int (Mv 1), .ref (Ma 2), .ref (Ma 3), .ref (Ma 4), .ref (Ma 5), .ref (Ma 6), .int sv_406, .int sv_407, .int sv_408, .int (Mv 5), .int sv_409, .int (Mv 7), .int (Mv 8), .ref (Ma 7), .int (Mv 9), .ref (Ma 8), .int (Mv 10), .ref (Ma 9), .ref (Ma 10), .int (Mv 11), .int (Mv 12), .int (Mv 13), .ref (Ma 11), .int (Mv 14), .ref (Ma 12), .ref (Ma 13), .ref (Ma 14), .ref (Ma 15), .ref (Ma 16), .long (Mj 0), .ref (Ma 17), .ref (Ma 18), .ref (Ma 19), .ref (Ma 20)])), ((Ma 1), .inl (tc 2, 400, .inl (Mf 1))), ((Ma 2), .inl (tc 0, 2400, .inl sv_410)), ((Ma 3), .inl (tc 0, 7, .inl sv_411))] := hD₀
                replace hS := hS₀
                clear hP₀ hD₀ hS₀
                refine lv_if_ne (tgt := 163) hx hb dX12_compare_158 (by decide) (fun c_420 => ?_) (fun c_420 => ?_)
                · skip
                  have hz_423 : (r_415 : Int32).toInt = 1 := by
                    have z_1 : ¬ (r_13 : Int32).toInt = (0 : Int32).toInt := fun z => c_18 (Int32.toInt_inj.mp z)
                    have z_2 : ¬ (r_31 : Int32).toInt = (60 : Int32).toInt := fun z => c_34 (Int32.toInt_inj.mp z)
                    have z_3 := congrArg Int32.toInt c_378
                    have z_4 := congrArg Int32.toInt c_380
                    have z_5 : ¬ (r_391 : Int32).toInt = (0 : Int32).toInt := fun z => c_396 (Int32.toInt_inj.mp z)
                    have z_6 : ¬ (r_31 : Int32).toInt = (60 : Int32).toInt := fun z => c_397 (Int32.toInt_inj.mp z)
                    have z_7 := congrArg Int32.toInt c_398
                    have z_8 : ¬ (r_415 : Int32).toInt = (0 : Int32).toInt := fun z => c_420 (Int32.toInt_inj.mp z)
                    have y_0 : (0 : Int32).toInt = 0 := by decide
                    have y_60 : (60 : Int32).toInt = 60 := by decide
                    have y_61 : (61 : Int32).toInt = 61 := by decide
                    omega
                  obtain ⟨pf_421, pf_422⟩ := hm_418 hz_423
                  have pf_421 : Cd sv_410 sv_411 (Mv 5) b sv_409 ((d + 1) + 1) := pf_421
                  have ar_pf_421 := Cd.ar pf_421
                  have pf_422 : RfO (pz_sum (rB (Mf 1) (Mv 0)) (St0 (rB (Mf 1) (Mv 0)) x_379 sv_389)) (rB (Mf 1) (Mv 0)) sv_407 sv_406 sv_409 := pf_422
                  have ar_pf_422 := RfO.wr pf_422
                  refine lv_aload_n hx hb dX12_compare_163 rfl (lv_at hl 4 rfl) ?_
                  refine lv_bipush (v := 6) hx hb dX12_compare_164 (by decide) ?_
                  refine lv_iload hx hb dX12_compare_166 (lv_at hl 0 rfl) ?_
                  refine lv_iadd hx hb dX12_compare_168 ?_
                  refine lv_lit (v := 8) (by decide) ?_
                  refine lv_iconst (v := 0) hx hb dX12_compare_169 (by decide) ?_
                  have ha_424 : ((d + 1) : Int) ≤ sv_409.toInt := by
                    have z_1 : ¬ (r_13 : Int32).toInt = (0 : Int32).toInt := fun z => c_18 (Int32.toInt_inj.mp z)
                    have z_2 : ¬ (r_31 : Int32).toInt = (60 : Int32).toInt := fun z => c_34 (Int32.toInt_inj.mp z)
                    have z_3 := congrArg Int32.toInt c_378
                    have z_4 := congrArg Int32.toInt c_380
                    have z_5 : ¬ (r_391 : Int32).toInt = (0 : Int32).toInt := fun z => c_396 (Int32.toInt_inj.mp z)
                    have z_6 : ¬ (r_31 : Int32).toInt = (60 : Int32).toInt := fun z => c_397 (Int32.toInt_inj.mp z)
                    have z_7 := congrArg Int32.toInt c_398
                    have z_8 : ¬ (r_415 : Int32).toInt = (0 : Int32).toInt := fun z => c_420 (Int32.toInt_inj.mp z)
                    have y_0 : (0 : Int32).toInt = 0 := by decide
                    have y_60 : (60 : Int32).toInt = 60 := by decide
                    have y_61 : (61 : Int32).toInt = 61 := by decide
                    omega
                  have ha_425 : (sv_411 (Mv 5).toNatClampNeg).toInt < 400 := by
                    have z_1 : ¬ (r_13 : Int32).toInt = (0 : Int32).toInt := fun z => c_18 (Int32.toInt_inj.mp z)
                    have z_2 : ¬ (r_31 : Int32).toInt = (60 : Int32).toInt := fun z => c_34 (Int32.toInt_inj.mp z)
                    have z_3 := congrArg Int32.toInt c_378
                    have z_4 := congrArg Int32.toInt c_380
                    have z_5 : ¬ (r_391 : Int32).toInt = (0 : Int32).toInt := fun z => c_396 (Int32.toInt_inj.mp z)
                    have z_6 : ¬ (r_31 : Int32).toInt = (60 : Int32).toInt := fun z => c_397 (Int32.toInt_inj.mp z)
                    have z_7 := congrArg Int32.toInt c_398
                    have z_8 : ¬ (r_415 : Int32).toInt = (0 : Int32).toInt := fun z => c_420 (Int32.toInt_inj.mp z)
                    have y_0 : (0 : Int32).toInt = 0 := by decide
                    have y_60 : (60 : Int32).toInt = 60 := by decide
                    have y_61 : (61 : Int32).toInt = 61 := by decide
                    omega
                  refine cV (a := (Ma 0)) (As := [.int 8, .int 0]) (rest := []) (wr := [((Ma 1), .inl (tc 2, 400, .inl (Mf 1)))]) ⟨hx, hb, hml, hown, hts⟩ hK hX hA (cu_X12_puts l D tc sk (Ma 0) (Ma 1) (Ma 2) (Ma 3) (Ma 4) (Ma 5) (Ma 6) (Ma 7) (Ma 8) (Ma 9) (Ma 10) (Ma 11) (Ma 12) (Ma 13) (Ma 14) (Ma 15) (Ma 16) (Ma 17) (Ma 18) (Ma 19) (Ma 20) (Mv 0) (Mv 1) sv_406 sv_407 sv_408 (Mv 5) sv_409 (Mv 7) (Mv 8) (Mv 9) (Mv 10) (Mv 11) (Mv 12) (Mv 13) (Mv 14) sv_410 sv_411 (Mj 0) 8 0 b sv_409 ((d + 1) + 1) (d + 1) pf_421 (StpR.op (by decide) rfl (by omega)) ha_424 ha_425) k_1296 k_1293 k_1295 k_46 k_106 pl_X12_puts ⟨Nat.le_of_ble_eq_true rfl, Nat.le_of_ble_eq_true rfl⟩ rfl rfl (va_recv hK hP (ci := 12) (q0 := 0) rfl rfl) hP hD hS [0, 2, 3] [1] rfl rfl rfl rfl rfl (by decide) rfl hl.1 rfl (Nat.le_of_ble_eq_true rfl) dX12_compare_170 ⟨Nat.le_of_ble_eq_true rfl, Nat.le_of_ble_eq_true rfl⟩ (fun v_426 u_427 H locs hv_428 hP₀ hD₀ hS₀ => ?_)
                  obtain ⟨sv_429, sv_430⟩ := u_427
                  obtain ⟨rfl, pf_431, pf_432, pf_433⟩ := hv_428
                  have pf_431 : Cd sv_429 sv_430 (Mv 5) b sv_409 (d + 1) := pf_431
                  have ar_pf_431 := Cd.ar pf_431
                  have pf_432 : Agr sv_410 sv_429 (400 * ((Mv 5) : Int32).toInt + (sv_411 (Mv 5).toNatClampNeg).toInt) := pf_432
                  have pf_433 : (sv_430 (Mv 5).toNatClampNeg).toInt = (sv_411 (Mv 5).toNatClampNeg).toInt + 1 := pf_433
                  refine W.eq (g2 := F0 m 173 ls []) rfl ?_
                  replace hP : va_P D classes [((Ma 1), .inl (tc 2, 400, .inl (Mf 1))), ((Ma 0), .inr (12, [.ref (Ma 1), .int (Mv 0), .int (Mv 1), .ref (Ma 2), .ref (Ma 3), .ref (Ma 4), .ref (Ma 5), .ref (Ma 6), .int sv_406, .int sv_407, .int sv_408, .int (Mv 5), .int sv_409, .int (Mv 7), .int (Mv 8), .ref (Ma 7), .int (Mv 9), .ref (Ma 8), .int (Mv 10), .ref (Ma 9), .ref (Ma 10), .int (Mv 11), .int (Mv 12), .int (Mv 13), .ref (Ma 11), .int (Mv 14), .ref (Ma 12), .ref (Ma 13), .ref (Ma 14), .ref (Ma 15), .ref (Ma 16), .long (Mj 0), .ref (Ma 17), .ref (Ma 18), .ref (Ma 19), .ref (Ma 20)])), ((Ma 2), .inl (tc 0, 2400, .inl sv_429)), ((Ma 3), .inl (tc 0, 7, .inl sv_430))] H := hP₀
                  replace hD : va_D A [((Ma 1), .inl (tc 2, 400, .inl (Mf 1))), ((Ma 0), .inr (12, [.ref (Ma 1), .int (Mv 0), .int (Mv 1), .ref (Ma 2), .ref (Ma 3), .ref (Ma 4), .ref (Ma 5), .ref (Ma 6), .int sv_406, .int sv_407, .int sv_408, .int (Mv 5), .int sv_409, .int (Mv 7), .int (Mv 8), .ref (Ma 7), .int (Mv 9), .ref (Ma 8), .int (Mv 10), .ref (Ma 9), .ref (Ma 10), .int (Mv 11), .int (Mv 12), .int (Mv 13), .ref (Ma 11), .int (Mv 14), .ref (Ma 12), .ref (Ma 13), .ref (Ma 14), .ref (Ma 15), .ref (Ma 16), .long (Mj 0), .ref (Ma 17), .ref (Ma 18), .ref (Ma 19), .ref (Ma 20)])), ((Ma 2), .inl (tc 0, 2400, .inl sv_429)), ((Ma 3), .inl (tc 0, 7, .inl sv_430))] := hD₀
                  replace hS := hS₀
                  clear hP₀ hD₀ hS₀
                  refine lv_iconst (v := 1) hx hb dX12_compare_173 (by decide) ?_
                  have ha_434 : ((Mv 2) : Int32).toInt ≤ (sv_406 : Int32).toInt ∧ (sv_406 : Int32).toInt ≤ ((Mv 0) : Int32).toInt := by
                    have z_1 : ¬ (r_13 : Int32).toInt = (0 : Int32).toInt := fun z => c_18 (Int32.toInt_inj.mp z)
                    have z_2 : ¬ (r_31 : Int32).toInt = (60 : Int32).toInt := fun z => c_34 (Int32.toInt_inj.mp z)
                    have z_3 := congrArg Int32.toInt c_378
                    have z_4 := congrArg Int32.toInt c_380
                    have z_5 : ¬ (r_391 : Int32).toInt = (0 : Int32).toInt := fun z => c_396 (Int32.toInt_inj.mp z)
                    have z_6 : ¬ (r_31 : Int32).toInt = (60 : Int32).toInt := fun z => c_397 (Int32.toInt_inj.mp z)
                    have z_7 := congrArg Int32.toInt c_398
                    have z_8 : ¬ (r_415 : Int32).toInt = (0 : Int32).toInt := fun z => c_420 (Int32.toInt_inj.mp z)
                    have y_0 : (0 : Int32).toInt = 0 := by decide
                    have y_60 : (60 : Int32).toInt = 60 := by decide
                    have y_61 : (61 : Int32).toInt = 61 := by decide
                    omega
                  have ha_435 : ((Mv 6) : Int32).toInt ≤ (sv_409 : Int32).toInt ∧ (sv_409 : Int32).toInt ≤ 60 := by
                    have z_1 : ¬ (r_13 : Int32).toInt = (0 : Int32).toInt := fun z => c_18 (Int32.toInt_inj.mp z)
                    have z_2 : ¬ (r_31 : Int32).toInt = (60 : Int32).toInt := fun z => c_34 (Int32.toInt_inj.mp z)
                    have z_3 := congrArg Int32.toInt c_378
                    have z_4 := congrArg Int32.toInt c_380
                    have z_5 : ¬ (r_391 : Int32).toInt = (0 : Int32).toInt := fun z => c_396 (Int32.toInt_inj.mp z)
                    have z_6 : ¬ (r_31 : Int32).toInt = (60 : Int32).toInt := fun z => c_397 (Int32.toInt_inj.mp z)
                    have z_7 := congrArg Int32.toInt c_398
                    have z_8 : ¬ (r_415 : Int32).toInt = (0 : Int32).toInt := fun z => c_420 (Int32.toInt_inj.mp z)
                    have y_0 : (0 : Int32).toInt = 0 := by decide
                    have y_60 : (60 : Int32).toInt = 60 := by decide
                    have y_61 : (61 : Int32).toInt = 61 := by decide
                    omega
                  have hr_436 : (400 * ((Mv 5) : Int32).toInt + ((Mf 3) (Mv 5).toNatClampNeg).toInt) ≤ (400 * ((Mv 5) : Int32).toInt + ((Mf 3) (Mv 5).toNatClampNeg).toInt) := by
                    have z_1 : ¬ (r_13 : Int32).toInt = (0 : Int32).toInt := fun z => c_18 (Int32.toInt_inj.mp z)
                    have z_2 : ¬ (r_31 : Int32).toInt = (60 : Int32).toInt := fun z => c_34 (Int32.toInt_inj.mp z)
                    have z_3 := congrArg Int32.toInt c_378
                    have z_4 := congrArg Int32.toInt c_380
                    have z_5 : ¬ (r_391 : Int32).toInt = (0 : Int32).toInt := fun z => c_396 (Int32.toInt_inj.mp z)
                    have z_6 : ¬ (r_31 : Int32).toInt = (60 : Int32).toInt := fun z => c_397 (Int32.toInt_inj.mp z)
                    have z_7 := congrArg Int32.toInt c_398
                    have z_8 : ¬ (r_415 : Int32).toInt = (0 : Int32).toInt := fun z => c_420 (Int32.toInt_inj.mp z)
                    have y_0 : (0 : Int32).toInt = 0 := by decide
                    have y_60 : (60 : Int32).toInt = 60 := by decide
                    have y_61 : (61 : Int32).toInt = 61 := by decide
                    omega
                  have hr_437 : (400 * ((Mv 5) : Int32).toInt + ((Mf 3) (Mv 5).toNatClampNeg).toInt) ≤ (400 * ((Mv 5) : Int32).toInt + (sv_9 (Mv 5).toNatClampNeg).toInt) := by
                    have z_1 : ¬ (r_13 : Int32).toInt = (0 : Int32).toInt := fun z => c_18 (Int32.toInt_inj.mp z)
                    have z_2 : ¬ (r_31 : Int32).toInt = (60 : Int32).toInt := fun z => c_34 (Int32.toInt_inj.mp z)
                    have z_3 := congrArg Int32.toInt c_378
                    have z_4 := congrArg Int32.toInt c_380
                    have z_5 : ¬ (r_391 : Int32).toInt = (0 : Int32).toInt := fun z => c_396 (Int32.toInt_inj.mp z)
                    have z_6 : ¬ (r_31 : Int32).toInt = (60 : Int32).toInt := fun z => c_397 (Int32.toInt_inj.mp z)
                    have z_7 := congrArg Int32.toInt c_398
                    have z_8 : ¬ (r_415 : Int32).toInt = (0 : Int32).toInt := fun z => c_420 (Int32.toInt_inj.mp z)
                    have y_0 : (0 : Int32).toInt = 0 := by decide
                    have y_60 : (60 : Int32).toInt = 60 := by decide
                    have y_61 : (61 : Int32).toInt = 61 := by decide
                    omega
                  have hr_438 : (400 * ((Mv 5) : Int32).toInt + ((Mf 3) (Mv 5).toNatClampNeg).toInt) ≤ (400 * ((Mv 5) : Int32).toInt + (sv_411 (Mv 5).toNatClampNeg).toInt) := by
                    have z_1 : ¬ (r_13 : Int32).toInt = (0 : Int32).toInt := fun z => c_18 (Int32.toInt_inj.mp z)
                    have z_2 : ¬ (r_31 : Int32).toInt = (60 : Int32).toInt := fun z => c_34 (Int32.toInt_inj.mp z)
                    have z_3 := congrArg Int32.toInt c_378
                    have z_4 := congrArg Int32.toInt c_380
                    have z_5 : ¬ (r_391 : Int32).toInt = (0 : Int32).toInt := fun z => c_396 (Int32.toInt_inj.mp z)
                    have z_6 : ¬ (r_31 : Int32).toInt = (60 : Int32).toInt := fun z => c_397 (Int32.toInt_inj.mp z)
                    have z_7 := congrArg Int32.toInt c_398
                    have z_8 : ¬ (r_415 : Int32).toInt = (0 : Int32).toInt := fun z => c_420 (Int32.toInt_inj.mp z)
                    have y_0 : (0 : Int32).toInt = 0 := by decide
                    have y_60 : (60 : Int32).toInt = 60 := by decide
                    have y_61 : (61 : Int32).toInt = 61 := by decide
                    omega
                  have hp_439 : (((1 : Int32).toInt = 0 ∧ ¬ (sv_407 : Int32).toInt = 0) ∨ ((1 : Int32).toInt = 1 ∧ ((Mf 3) (Mv 5).toNatClampNeg).toInt + 1 ≤ (sv_430 (Mv 5).toNatClampNeg).toInt ∧ (sv_430 (Mv 5).toNatClampNeg).toInt + ((Mv 2) : Int32).toInt ≤ ((Mf 3) (Mv 5).toNatClampNeg).toInt + (sv_406 : Int32).toInt ∧ ((Mv 2) : Int32).toInt + 1 ≤ (sv_406 : Int32).toInt)) := by
                    have z_1 : ¬ (r_13 : Int32).toInt = (0 : Int32).toInt := fun z => c_18 (Int32.toInt_inj.mp z)
                    have z_2 : ¬ (r_31 : Int32).toInt = (60 : Int32).toInt := fun z => c_34 (Int32.toInt_inj.mp z)
                    have z_3 := congrArg Int32.toInt c_378
                    have z_4 := congrArg Int32.toInt c_380
                    have z_5 : ¬ (r_391 : Int32).toInt = (0 : Int32).toInt := fun z => c_396 (Int32.toInt_inj.mp z)
                    have z_6 : ¬ (r_31 : Int32).toInt = (60 : Int32).toInt := fun z => c_397 (Int32.toInt_inj.mp z)
                    have z_7 := congrArg Int32.toInt c_398
                    have z_8 : ¬ (r_415 : Int32).toInt = (0 : Int32).toInt := fun z => c_420 (Int32.toInt_inj.mp z)
                    have y_0 : (0 : Int32).toInt = 0 := by decide
                    have y_60 : (60 : Int32).toInt = 60 := by decide
                    have y_61 : (61 : Int32).toInt = 61 := by decide
                    have y_1 : (1 : Int32).toInt = 1 := by decide
                    have yr : (1 : Int32).toInt = 1 := by decide
                    omega
                  have hm_440 : (1 : Int32).toInt = 1 → (Cd sv_429 sv_430 (Mv 5) b sv_409 (d + 1)) ∧ (RfO (pz_com (rB (Mf 1) (Mv 0)) (St0 (rB (Mf 1) (Mv 0)) (Mv 2) (Mv 6))) (rB (Mf 1) (Mv 0)) sv_407 sv_406 sv_409) := by
                    intro h1r
                    have hr_441 : (rB (Mf 1) (Mv 0) (sv_26 : Int32).toInt.toNat = 60 ∨ rB (Mf 1) (Mv 0) (sv_26 : Int32).toInt.toNat = 61 ∨ rB (Mf 1) (Mv 0) (sv_26 : Int32).toInt.toNat = 62) := by
                      have z_1 : ¬ (r_13 : Int32).toInt = (0 : Int32).toInt := fun z => c_18 (Int32.toInt_inj.mp z)
                      have z_2 : ¬ (r_31 : Int32).toInt = (60 : Int32).toInt := fun z => c_34 (Int32.toInt_inj.mp z)
                      have z_3 := congrArg Int32.toInt c_378
                      have z_4 := congrArg Int32.toInt c_380
                      have z_5 : ¬ (r_391 : Int32).toInt = (0 : Int32).toInt := fun z => c_396 (Int32.toInt_inj.mp z)
                      have z_6 : ¬ (r_31 : Int32).toInt = (60 : Int32).toInt := fun z => c_397 (Int32.toInt_inj.mp z)
                      have z_7 := congrArg Int32.toInt c_398
                      have z_8 : ¬ (r_415 : Int32).toInt = (0 : Int32).toInt := fun z => c_420 (Int32.toInt_inj.mp z)
                      have y_0 : (0 : Int32).toInt = 0 := by decide
                      have y_60 : (60 : Int32).toInt = 60 := by decide
                      have y_61 : (61 : Int32).toInt = 61 := by decide
                      omega
                    have rg_442 := rB_rg (n := (Mv 0)) h_bs ((sv_26 : Int32).toInt.toNat + 1)
                    have hr_443 : ((x_379 : Int32).toInt = (sv_26 : Int32).toInt + 1 ∧ ¬ ((rB (Mf 1) (Mv 0) (sv_26 : Int32).toInt.toNat = 60 ∨ rB (Mf 1) (Mv 0) (sv_26 : Int32).toInt.toNat = 62) ∧ rB (Mf 1) (Mv 0) ((sv_26 : Int32).toInt.toNat + 1) = 61)) ∨ ((x_379 : Int32).toInt = (sv_26 : Int32).toInt + 2 ∧ (rB (Mf 1) (Mv 0) (sv_26 : Int32).toInt.toNat = 60 ∨ rB (Mf 1) (Mv 0) (sv_26 : Int32).toInt.toNat = 62) ∧ rB (Mf 1) (Mv 0) ((sv_26 : Int32).toInt.toNat + 1) = 61) := by
                      have z_1 : ¬ (r_13 : Int32).toInt = (0 : Int32).toInt := fun z => c_18 (Int32.toInt_inj.mp z)
                      have z_2 : ¬ (r_31 : Int32).toInt = (60 : Int32).toInt := fun z => c_34 (Int32.toInt_inj.mp z)
                      have z_3 := congrArg Int32.toInt c_378
                      have z_4 := congrArg Int32.toInt c_380
                      have z_5 : ¬ (r_391 : Int32).toInt = (0 : Int32).toInt := fun z => c_396 (Int32.toInt_inj.mp z)
                      have z_6 : ¬ (r_31 : Int32).toInt = (60 : Int32).toInt := fun z => c_397 (Int32.toInt_inj.mp z)
                      have z_7 := congrArg Int32.toInt c_398
                      have z_8 : ¬ (r_415 : Int32).toInt = (0 : Int32).toInt := fun z => c_420 (Int32.toInt_inj.mp z)
                      have y_0 : (0 : Int32).toInt = 0 := by decide
                      have y_60 : (60 : Int32).toInt = 60 := by decide
                      have y_61 : (61 : Int32).toInt = 61 := by decide
                      have y_1 : (1 : Int32).toInt = 1 := by decide
                      have t_x_379 : x_379.toInt = (sv_26 : Int32).toInt + (1 : Int32).toInt := by rw [ex_379]; exact add_toInt (by omega) (by omega)
                      omega
                    have hr_444 : 0 ≤ (sv_7 : Int32).toInt ∧ (sv_7 : Int32).toInt < 60 ∧ (sv_389 : Int32).toInt = (sv_7 : Int32).toInt + 1 := by
                      have z_1 : ¬ (r_13 : Int32).toInt = (0 : Int32).toInt := fun z => c_18 (Int32.toInt_inj.mp z)
                      have z_2 : ¬ (r_31 : Int32).toInt = (60 : Int32).toInt := fun z => c_34 (Int32.toInt_inj.mp z)
                      have z_3 := congrArg Int32.toInt c_378
                      have z_4 := congrArg Int32.toInt c_380
                      have z_5 : ¬ (r_391 : Int32).toInt = (0 : Int32).toInt := fun z => c_396 (Int32.toInt_inj.mp z)
                      have z_6 : ¬ (r_31 : Int32).toInt = (60 : Int32).toInt := fun z => c_397 (Int32.toInt_inj.mp z)
                      have z_7 := congrArg Int32.toInt c_398
                      have z_8 : ¬ (r_415 : Int32).toInt = (0 : Int32).toInt := fun z => c_420 (Int32.toInt_inj.mp z)
                      have y_0 : (0 : Int32).toInt = 0 := by decide
                      have y_60 : (60 : Int32).toInt = 60 := by decide
                      have y_61 : (61 : Int32).toInt = 61 := by decide
                      omega
                    exact ⟨pf_431, (RfO.com pf_20 pf_30 hr_441 hr_443 hr_444 pf_422)⟩
                  exact retI (v := 1) hx hb hr hlk (rfl) hP hD hS (sv_406, sv_407, sv_408, sv_409, sv_429, sv_430) ⟨_, rfl, hp_439, ha_434, ha_435, (Agr.trans (k' := (400 * ((Mv 5) : Int32).toInt + ((Mf 3) (Mv 5).toNatClampNeg).toInt)) (Agr.trans (k' := (400 * ((Mv 5) : Int32).toInt + ((Mf 3) (Mv 5).toNatClampNeg).toInt)) (Agr.mono pf_12 hr_436) pf_414 ⟨Int.le_refl _, hr_437⟩) pf_432 ⟨Int.le_refl _, hr_438⟩), hm_440, (fun h => absurd h (by decide))⟩ [1, 0, 2, 3] rfl rfl dX12_compare_174 (Nat.le_of_ble_eq_true rfl) (Nat.le_of_ble_eq_true rfl) rfl
                · skip
                  have hz_446 : (r_415 : Int32).toInt = 0 := by
                    have z_1 : ¬ (r_13 : Int32).toInt = (0 : Int32).toInt := fun z => c_18 (Int32.toInt_inj.mp z)
                    have z_2 : ¬ (r_31 : Int32).toInt = (60 : Int32).toInt := fun z => c_34 (Int32.toInt_inj.mp z)
                    have z_3 := congrArg Int32.toInt c_378
                    have z_4 := congrArg Int32.toInt c_380
                    have z_5 : ¬ (r_391 : Int32).toInt = (0 : Int32).toInt := fun z => c_396 (Int32.toInt_inj.mp z)
                    have z_6 : ¬ (r_31 : Int32).toInt = (60 : Int32).toInt := fun z => c_397 (Int32.toInt_inj.mp z)
                    have z_7 := congrArg Int32.toInt c_398
                    have z_8 := congrArg Int32.toInt c_420
                    have y_0 : (0 : Int32).toInt = 0 := by decide
                    have y_60 : (60 : Int32).toInt = 60 := by decide
                    have y_61 : (61 : Int32).toInt = 61 := by decide
                    omega
                  obtain pf_445 := hm_419 hz_446
                  have pf_445 : RfE (pz_sum (rB (Mf 1) (Mv 0)) (St0 (rB (Mf 1) (Mv 0)) x_379 sv_389)) sv_407 := pf_445
                  refine lv_iconst (v := 0) hx hb dX12_compare_161 (by decide) ?_
                  have ha_447 : ((Mv 2) : Int32).toInt ≤ (sv_406 : Int32).toInt ∧ (sv_406 : Int32).toInt ≤ ((Mv 0) : Int32).toInt := by
                    have z_1 : ¬ (r_13 : Int32).toInt = (0 : Int32).toInt := fun z => c_18 (Int32.toInt_inj.mp z)
                    have z_2 : ¬ (r_31 : Int32).toInt = (60 : Int32).toInt := fun z => c_34 (Int32.toInt_inj.mp z)
                    have z_3 := congrArg Int32.toInt c_378
                    have z_4 := congrArg Int32.toInt c_380
                    have z_5 : ¬ (r_391 : Int32).toInt = (0 : Int32).toInt := fun z => c_396 (Int32.toInt_inj.mp z)
                    have z_6 : ¬ (r_31 : Int32).toInt = (60 : Int32).toInt := fun z => c_397 (Int32.toInt_inj.mp z)
                    have z_7 := congrArg Int32.toInt c_398
                    have z_8 := congrArg Int32.toInt c_420
                    have y_0 : (0 : Int32).toInt = 0 := by decide
                    have y_60 : (60 : Int32).toInt = 60 := by decide
                    have y_61 : (61 : Int32).toInt = 61 := by decide
                    omega
                  have ha_448 : ((Mv 6) : Int32).toInt ≤ (sv_409 : Int32).toInt ∧ (sv_409 : Int32).toInt ≤ 60 := by
                    have z_1 : ¬ (r_13 : Int32).toInt = (0 : Int32).toInt := fun z => c_18 (Int32.toInt_inj.mp z)
                    have z_2 : ¬ (r_31 : Int32).toInt = (60 : Int32).toInt := fun z => c_34 (Int32.toInt_inj.mp z)
                    have z_3 := congrArg Int32.toInt c_378
                    have z_4 := congrArg Int32.toInt c_380
                    have z_5 : ¬ (r_391 : Int32).toInt = (0 : Int32).toInt := fun z => c_396 (Int32.toInt_inj.mp z)
                    have z_6 : ¬ (r_31 : Int32).toInt = (60 : Int32).toInt := fun z => c_397 (Int32.toInt_inj.mp z)
                    have z_7 := congrArg Int32.toInt c_398
                    have z_8 := congrArg Int32.toInt c_420
                    have y_0 : (0 : Int32).toInt = 0 := by decide
                    have y_60 : (60 : Int32).toInt = 60 := by decide
                    have y_61 : (61 : Int32).toInt = 61 := by decide
                    omega
                  have hr_449 : (400 * ((Mv 5) : Int32).toInt + ((Mf 3) (Mv 5).toNatClampNeg).toInt) ≤ (400 * ((Mv 5) : Int32).toInt + ((Mf 3) (Mv 5).toNatClampNeg).toInt) := by
                    have z_1 : ¬ (r_13 : Int32).toInt = (0 : Int32).toInt := fun z => c_18 (Int32.toInt_inj.mp z)
                    have z_2 : ¬ (r_31 : Int32).toInt = (60 : Int32).toInt := fun z => c_34 (Int32.toInt_inj.mp z)
                    have z_3 := congrArg Int32.toInt c_378
                    have z_4 := congrArg Int32.toInt c_380
                    have z_5 : ¬ (r_391 : Int32).toInt = (0 : Int32).toInt := fun z => c_396 (Int32.toInt_inj.mp z)
                    have z_6 : ¬ (r_31 : Int32).toInt = (60 : Int32).toInt := fun z => c_397 (Int32.toInt_inj.mp z)
                    have z_7 := congrArg Int32.toInt c_398
                    have z_8 := congrArg Int32.toInt c_420
                    have y_0 : (0 : Int32).toInt = 0 := by decide
                    have y_60 : (60 : Int32).toInt = 60 := by decide
                    have y_61 : (61 : Int32).toInt = 61 := by decide
                    omega
                  have hr_450 : (400 * ((Mv 5) : Int32).toInt + ((Mf 3) (Mv 5).toNatClampNeg).toInt) ≤ (400 * ((Mv 5) : Int32).toInt + (sv_9 (Mv 5).toNatClampNeg).toInt) := by
                    have z_1 : ¬ (r_13 : Int32).toInt = (0 : Int32).toInt := fun z => c_18 (Int32.toInt_inj.mp z)
                    have z_2 : ¬ (r_31 : Int32).toInt = (60 : Int32).toInt := fun z => c_34 (Int32.toInt_inj.mp z)
                    have z_3 := congrArg Int32.toInt c_378
                    have z_4 := congrArg Int32.toInt c_380
                    have z_5 : ¬ (r_391 : Int32).toInt = (0 : Int32).toInt := fun z => c_396 (Int32.toInt_inj.mp z)
                    have z_6 : ¬ (r_31 : Int32).toInt = (60 : Int32).toInt := fun z => c_397 (Int32.toInt_inj.mp z)
                    have z_7 := congrArg Int32.toInt c_398
                    have z_8 := congrArg Int32.toInt c_420
                    have y_0 : (0 : Int32).toInt = 0 := by decide
                    have y_60 : (60 : Int32).toInt = 60 := by decide
                    have y_61 : (61 : Int32).toInt = 61 := by decide
                    omega
                  have hp_451 : (((0 : Int32).toInt = 0 ∧ ¬ (sv_407 : Int32).toInt = 0) ∨ ((0 : Int32).toInt = 1 ∧ ((Mf 3) (Mv 5).toNatClampNeg).toInt + 1 ≤ (sv_411 (Mv 5).toNatClampNeg).toInt ∧ (sv_411 (Mv 5).toNatClampNeg).toInt + ((Mv 2) : Int32).toInt ≤ ((Mf 3) (Mv 5).toNatClampNeg).toInt + (sv_406 : Int32).toInt ∧ ((Mv 2) : Int32).toInt + 1 ≤ (sv_406 : Int32).toInt)) := by
                    have z_1 : ¬ (r_13 : Int32).toInt = (0 : Int32).toInt := fun z => c_18 (Int32.toInt_inj.mp z)
                    have z_2 : ¬ (r_31 : Int32).toInt = (60 : Int32).toInt := fun z => c_34 (Int32.toInt_inj.mp z)
                    have z_3 := congrArg Int32.toInt c_378
                    have z_4 := congrArg Int32.toInt c_380
                    have z_5 : ¬ (r_391 : Int32).toInt = (0 : Int32).toInt := fun z => c_396 (Int32.toInt_inj.mp z)
                    have z_6 : ¬ (r_31 : Int32).toInt = (60 : Int32).toInt := fun z => c_397 (Int32.toInt_inj.mp z)
                    have z_7 := congrArg Int32.toInt c_398
                    have z_8 := congrArg Int32.toInt c_420
                    have y_0 : (0 : Int32).toInt = 0 := by decide
                    have y_60 : (60 : Int32).toInt = 60 := by decide
                    have y_61 : (61 : Int32).toInt = 61 := by decide
                    omega
                  have hm_452 : (0 : Int32).toInt = 0 → (RfE (pz_com (rB (Mf 1) (Mv 0)) (St0 (rB (Mf 1) (Mv 0)) (Mv 2) (Mv 6))) sv_407) := by
                    intro h1r
                    have hr_453 : (rB (Mf 1) (Mv 0) (sv_26 : Int32).toInt.toNat = 60 ∨ rB (Mf 1) (Mv 0) (sv_26 : Int32).toInt.toNat = 61 ∨ rB (Mf 1) (Mv 0) (sv_26 : Int32).toInt.toNat = 62) := by
                      have z_1 : ¬ (r_13 : Int32).toInt = (0 : Int32).toInt := fun z => c_18 (Int32.toInt_inj.mp z)
                      have z_2 : ¬ (r_31 : Int32).toInt = (60 : Int32).toInt := fun z => c_34 (Int32.toInt_inj.mp z)
                      have z_3 := congrArg Int32.toInt c_378
                      have z_4 := congrArg Int32.toInt c_380
                      have z_5 : ¬ (r_391 : Int32).toInt = (0 : Int32).toInt := fun z => c_396 (Int32.toInt_inj.mp z)
                      have z_6 : ¬ (r_31 : Int32).toInt = (60 : Int32).toInt := fun z => c_397 (Int32.toInt_inj.mp z)
                      have z_7 := congrArg Int32.toInt c_398
                      have z_8 := congrArg Int32.toInt c_420
                      have y_0 : (0 : Int32).toInt = 0 := by decide
                      have y_60 : (60 : Int32).toInt = 60 := by decide
                      have y_61 : (61 : Int32).toInt = 61 := by decide
                      omega
                    have rg_454 := rB_rg (n := (Mv 0)) h_bs ((sv_26 : Int32).toInt.toNat + 1)
                    have hr_455 : ((x_379 : Int32).toInt = (sv_26 : Int32).toInt + 1 ∧ ¬ ((rB (Mf 1) (Mv 0) (sv_26 : Int32).toInt.toNat = 60 ∨ rB (Mf 1) (Mv 0) (sv_26 : Int32).toInt.toNat = 62) ∧ rB (Mf 1) (Mv 0) ((sv_26 : Int32).toInt.toNat + 1) = 61)) ∨ ((x_379 : Int32).toInt = (sv_26 : Int32).toInt + 2 ∧ (rB (Mf 1) (Mv 0) (sv_26 : Int32).toInt.toNat = 60 ∨ rB (Mf 1) (Mv 0) (sv_26 : Int32).toInt.toNat = 62) ∧ rB (Mf 1) (Mv 0) ((sv_26 : Int32).toInt.toNat + 1) = 61) := by
                      have z_1 : ¬ (r_13 : Int32).toInt = (0 : Int32).toInt := fun z => c_18 (Int32.toInt_inj.mp z)
                      have z_2 : ¬ (r_31 : Int32).toInt = (60 : Int32).toInt := fun z => c_34 (Int32.toInt_inj.mp z)
                      have z_3 := congrArg Int32.toInt c_378
                      have z_4 := congrArg Int32.toInt c_380
                      have z_5 : ¬ (r_391 : Int32).toInt = (0 : Int32).toInt := fun z => c_396 (Int32.toInt_inj.mp z)
                      have z_6 : ¬ (r_31 : Int32).toInt = (60 : Int32).toInt := fun z => c_397 (Int32.toInt_inj.mp z)
                      have z_7 := congrArg Int32.toInt c_398
                      have z_8 := congrArg Int32.toInt c_420
                      have y_0 : (0 : Int32).toInt = 0 := by decide
                      have y_60 : (60 : Int32).toInt = 60 := by decide
                      have y_61 : (61 : Int32).toInt = 61 := by decide
                      have y_1 : (1 : Int32).toInt = 1 := by decide
                      have t_x_379 : x_379.toInt = (sv_26 : Int32).toInt + (1 : Int32).toInt := by rw [ex_379]; exact add_toInt (by omega) (by omega)
                      omega
                    have hr_456 : 0 ≤ (sv_7 : Int32).toInt ∧ (sv_7 : Int32).toInt < 60 ∧ (sv_389 : Int32).toInt = (sv_7 : Int32).toInt + 1 := by
                      have z_1 : ¬ (r_13 : Int32).toInt = (0 : Int32).toInt := fun z => c_18 (Int32.toInt_inj.mp z)
                      have z_2 : ¬ (r_31 : Int32).toInt = (60 : Int32).toInt := fun z => c_34 (Int32.toInt_inj.mp z)
                      have z_3 := congrArg Int32.toInt c_378
                      have z_4 := congrArg Int32.toInt c_380
                      have z_5 : ¬ (r_391 : Int32).toInt = (0 : Int32).toInt := fun z => c_396 (Int32.toInt_inj.mp z)
                      have z_6 : ¬ (r_31 : Int32).toInt = (60 : Int32).toInt := fun z => c_397 (Int32.toInt_inj.mp z)
                      have z_7 := congrArg Int32.toInt c_398
                      have z_8 := congrArg Int32.toInt c_420
                      have y_0 : (0 : Int32).toInt = 0 := by decide
                      have y_60 : (60 : Int32).toInt = 60 := by decide
                      have y_61 : (61 : Int32).toInt = 61 := by decide
                      omega
                    exact (RfE.com2 pf_20 pf_30 hr_453 hr_455 hr_456 pf_445)
                  exact retI (v := 0) hx hb hr hlk (rfl) hP hD hS (sv_406, sv_407, sv_408, sv_409, sv_410, sv_411) ⟨_, rfl, hp_451, ha_447, ha_448, (Agr.trans (k' := (400 * ((Mv 5) : Int32).toInt + ((Mf 3) (Mv 5).toNatClampNeg).toInt)) (Agr.mono pf_12 hr_449) pf_414 ⟨Int.le_refl _, hr_450⟩), (fun h => absurd h (by decide)), hm_452⟩ [0, 1, 2, 3] rfl rfl dX12_compare_162 (Nat.le_of_ble_eq_true rfl) (Nat.le_of_ble_eq_true rfl) rfl
            · skip
              exfalso
              have z_1 : ¬ (r_13 : Int32).toInt = (0 : Int32).toInt := fun z => c_18 (Int32.toInt_inj.mp z)
              have z_2 : ¬ (r_31 : Int32).toInt = (60 : Int32).toInt := fun z => c_34 (Int32.toInt_inj.mp z)
              have z_3 := congrArg Int32.toInt c_378
              have z_4 := congrArg Int32.toInt c_380
              have z_5 : ¬ (r_391 : Int32).toInt = (0 : Int32).toInt := fun z => c_396 (Int32.toInt_inj.mp z)
              have z_6 := congrArg Int32.toInt c_397
              have y_0 : (0 : Int32).toInt = 0 := by decide
              have y_60 : (60 : Int32).toInt = 60 := by decide
              have y_61 : (61 : Int32).toInt = 61 := by decide
              omega
          · skip
            refine lv_iconst (v := 0) hx hb dX12_compare_113 (by decide) ?_
            have ha_457 : ((Mv 2) : Int32).toInt ≤ (x_379 : Int32).toInt ∧ (x_379 : Int32).toInt ≤ ((Mv 0) : Int32).toInt := by
              have z_1 : ¬ (r_13 : Int32).toInt = (0 : Int32).toInt := fun z => c_18 (Int32.toInt_inj.mp z)
              have z_2 : ¬ (r_31 : Int32).toInt = (60 : Int32).toInt := fun z => c_34 (Int32.toInt_inj.mp z)
              have z_3 := congrArg Int32.toInt c_378
              have z_4 := congrArg Int32.toInt c_380
              have z_5 := congrArg Int32.toInt c_396
              have y_0 : (0 : Int32).toInt = 0 := by decide
              have y_60 : (60 : Int32).toInt = 60 := by decide
              have y_61 : (61 : Int32).toInt = 61 := by decide
              have y_1 : (1 : Int32).toInt = 1 := by decide
              have t_x_379 : x_379.toInt = (sv_26 : Int32).toInt + (1 : Int32).toInt := by rw [ex_379]; exact add_toInt (by omega) (by omega)
              omega
            have ha_458 : ((Mv 6) : Int32).toInt ≤ (sv_389 : Int32).toInt ∧ (sv_389 : Int32).toInt ≤ 60 := by
              have z_1 : ¬ (r_13 : Int32).toInt = (0 : Int32).toInt := fun z => c_18 (Int32.toInt_inj.mp z)
              have z_2 : ¬ (r_31 : Int32).toInt = (60 : Int32).toInt := fun z => c_34 (Int32.toInt_inj.mp z)
              have z_3 := congrArg Int32.toInt c_378
              have z_4 := congrArg Int32.toInt c_380
              have z_5 := congrArg Int32.toInt c_396
              have y_0 : (0 : Int32).toInt = 0 := by decide
              have y_60 : (60 : Int32).toInt = 60 := by decide
              have y_61 : (61 : Int32).toInt = 61 := by decide
              omega
            have hp_459 : (((0 : Int32).toInt = 0 ∧ ¬ (sv_388 : Int32).toInt = 0) ∨ ((0 : Int32).toInt = 1 ∧ ((Mf 3) (Mv 5).toNatClampNeg).toInt + 1 ≤ (sv_9 (Mv 5).toNatClampNeg).toInt ∧ (sv_9 (Mv 5).toNatClampNeg).toInt + ((Mv 2) : Int32).toInt ≤ ((Mf 3) (Mv 5).toNatClampNeg).toInt + (x_379 : Int32).toInt ∧ ((Mv 2) : Int32).toInt + 1 ≤ (x_379 : Int32).toInt)) := by
              have z_1 : ¬ (r_13 : Int32).toInt = (0 : Int32).toInt := fun z => c_18 (Int32.toInt_inj.mp z)
              have z_2 : ¬ (r_31 : Int32).toInt = (60 : Int32).toInt := fun z => c_34 (Int32.toInt_inj.mp z)
              have z_3 := congrArg Int32.toInt c_378
              have z_4 := congrArg Int32.toInt c_380
              have z_5 := congrArg Int32.toInt c_396
              have y_0 : (0 : Int32).toInt = 0 := by decide
              have y_60 : (60 : Int32).toInt = 60 := by decide
              have y_61 : (61 : Int32).toInt = 61 := by decide
              have y_1 : (1 : Int32).toInt = 1 := by decide
              have t_x_379 : x_379.toInt = (sv_26 : Int32).toInt + (1 : Int32).toInt := by rw [ex_379]; exact add_toInt (by omega) (by omega)
              omega
            have hm_460 : (0 : Int32).toInt = 0 → (RfE (pz_com (rB (Mf 1) (Mv 0)) (St0 (rB (Mf 1) (Mv 0)) (Mv 2) (Mv 6))) sv_388) := by
              intro h1r
              have hr_461 : (rB (Mf 1) (Mv 0) (sv_26 : Int32).toInt.toNat = 60 ∨ rB (Mf 1) (Mv 0) (sv_26 : Int32).toInt.toNat = 61 ∨ rB (Mf 1) (Mv 0) (sv_26 : Int32).toInt.toNat = 62) := by
                have z_1 : ¬ (r_13 : Int32).toInt = (0 : Int32).toInt := fun z => c_18 (Int32.toInt_inj.mp z)
                have z_2 : ¬ (r_31 : Int32).toInt = (60 : Int32).toInt := fun z => c_34 (Int32.toInt_inj.mp z)
                have z_3 := congrArg Int32.toInt c_378
                have z_4 := congrArg Int32.toInt c_380
                have z_5 := congrArg Int32.toInt c_396
                have y_0 : (0 : Int32).toInt = 0 := by decide
                have y_60 : (60 : Int32).toInt = 60 := by decide
                have y_61 : (61 : Int32).toInt = 61 := by decide
                omega
              have hr_462 : 60 ≤ (sv_7 : Int32).toInt := by
                have z_1 : ¬ (r_13 : Int32).toInt = (0 : Int32).toInt := fun z => c_18 (Int32.toInt_inj.mp z)
                have z_2 : ¬ (r_31 : Int32).toInt = (60 : Int32).toInt := fun z => c_34 (Int32.toInt_inj.mp z)
                have z_3 := congrArg Int32.toInt c_378
                have z_4 := congrArg Int32.toInt c_380
                have z_5 := congrArg Int32.toInt c_396
                have y_0 : (0 : Int32).toInt = 0 := by decide
                have y_60 : (60 : Int32).toInt = 60 := by decide
                have y_61 : (61 : Int32).toInt = 61 := by decide
                omega
              have hi_463 : (sv_388 : Int32).toInt = 1 + 8 * (sv_26 : Int32).toInt + 3 := by
                have z_1 : ¬ (r_13 : Int32).toInt = (0 : Int32).toInt := fun z => c_18 (Int32.toInt_inj.mp z)
                have z_2 : ¬ (r_31 : Int32).toInt = (60 : Int32).toInt := fun z => c_34 (Int32.toInt_inj.mp z)
                have z_3 := congrArg Int32.toInt c_378
                have z_4 := congrArg Int32.toInt c_380
                have z_5 := congrArg Int32.toInt c_396
                have y_0 : (0 : Int32).toInt = 0 := by decide
                have y_60 : (60 : Int32).toInt = 60 := by decide
                have y_61 : (61 : Int32).toInt = 61 := by decide
                omega
              exact (RfE.com3 pf_20 pf_30 hr_461 hr_462 hi_463)
            exact retI (v := 0) hx hb hr hlk (rfl) hP hD hS (x_379, sv_388, sv_6, sv_389, sv_8, sv_9) ⟨_, rfl, hp_459, ha_457, ha_458, pf_12, (fun h => absurd h (by decide)), hm_460⟩ [3, 2, 0, 1] rfl rfl dX12_compare_114 (Nat.le_of_ble_eq_true rfl) (Nat.le_of_ble_eq_true rfl) rfl
        · skip
          exfalso
          have z_1 : ¬ (r_13 : Int32).toInt = (0 : Int32).toInt := fun z => c_18 (Int32.toInt_inj.mp z)
          have z_2 : ¬ (r_31 : Int32).toInt = (60 : Int32).toInt := fun z => c_34 (Int32.toInt_inj.mp z)
          have z_3 := congrArg Int32.toInt c_378
          have z_4 : ¬ (r_31 : Int32).toInt = (61 : Int32).toInt := fun z => c_380 (Int32.toInt_inj.mp z)
          have y_0 : (0 : Int32).toInt = 0 := by decide
          have y_60 : (60 : Int32).toInt = 60 := by decide
          have y_61 : (61 : Int32).toInt = 61 := by decide
          omega
      · skip
        refine lv_iload_n hx hb dX12_compare_31 rfl (lv_at hl 1 rfl) ?_
        refine lv_bipush (v := 62) hx hb dX12_compare_32 (by decide) ?_
        refine lv_icmp_eq (tgt := 44) hx hb dX12_compare_34 (by decide) (fun c_464 => ?_) (fun c_464 => ?_)
        · skip
          refine lv_aload_n hx hb dX12_compare_44 rfl (lv_at hl 2 rfl) ?_
          refine lv_dup hx hb dX12_compare_45 rfl ?_
          refine gf_X12_87 hx hb hts hown hK hP 2 rfl rfl dX12_compare_46 ?_
          refine lv_iconst (v := 1) hx hb dX12_compare_49 (by decide) ?_
          refine lv_iadd hx hb dX12_compare_50 ?_
          refine lv_topi (fun x_465 ex_465 => ?_)
          refine pf_X12_87 hx hb hts hown hK hP hD hS 2 rfl (Nat.le_of_ble_eq_true rfl) rfl rfl dX12_compare_51 (fun H locs hP₀ hD₀ hS₀ => ?_)
          replace hP : va_P D classes [((Ma 2), .inl (tc 0, 2400, .inl sv_8)), ((Ma 3), .inl (tc 0, 7, .inl sv_9)), ((Ma 0), .inr (12, [.ref (Ma 1), .int (Mv 0), .int (Mv 1), .ref (Ma 2), .ref (Ma 3), .ref (Ma 4), .ref (Ma 5), .ref (Ma 6), .int x_465, .int sv_5, .int sv_6, .int (Mv 5), .int sv_7, .int (Mv 7), .int (Mv 8), .ref (Ma 7), .int (Mv 9), .ref (Ma 8), .int (Mv 10), .ref (Ma 9), .ref (Ma 10), .int (Mv 11), .int (Mv 12), .int (Mv 13), .ref (Ma 11), .int (Mv 14), .ref (Ma 12), .ref (Ma 13), .ref (Ma 14), .ref (Ma 15), .ref (Ma 16), .long (Mj 0), .ref (Ma 17), .ref (Ma 18), .ref (Ma 19), .ref (Ma 20)])), ((Ma 1), .inl (tc 2, 400, .inl (Mf 1)))] H := hP₀
          replace hD : va_D A [((Ma 2), .inl (tc 0, 2400, .inl sv_8)), ((Ma 3), .inl (tc 0, 7, .inl sv_9)), ((Ma 0), .inr (12, [.ref (Ma 1), .int (Mv 0), .int (Mv 1), .ref (Ma 2), .ref (Ma 3), .ref (Ma 4), .ref (Ma 5), .ref (Ma 6), .int x_465, .int sv_5, .int sv_6, .int (Mv 5), .int sv_7, .int (Mv 7), .int (Mv 8), .ref (Ma 7), .int (Mv 9), .ref (Ma 8), .int (Mv 10), .ref (Ma 9), .ref (Ma 10), .int (Mv 11), .int (Mv 12), .int (Mv 13), .ref (Ma 11), .int (Mv 14), .ref (Ma 12), .ref (Ma 13), .ref (Ma 14), .ref (Ma 15), .ref (Ma 16), .long (Mj 0), .ref (Ma 17), .ref (Ma 18), .ref (Ma 19), .ref (Ma 20)])), ((Ma 1), .inl (tc 2, 400, .inl (Mf 1)))] := hD₀
          replace hS := hS₀
          clear hP₀ hD₀ hS₀
          have tp_x_465 : (x_465 : Int32).toInt = (sv_26 : Int32).toInt + 1 := by
            have z_1 : ¬ (r_13 : Int32).toInt = (0 : Int32).toInt := fun z => c_18 (Int32.toInt_inj.mp z)
            have z_2 : ¬ (r_31 : Int32).toInt = (60 : Int32).toInt := fun z => c_34 (Int32.toInt_inj.mp z)
            have z_3 : ¬ (r_31 : Int32).toInt = (61 : Int32).toInt := fun z => c_378 (Int32.toInt_inj.mp z)
            have z_4 := congrArg Int32.toInt c_464
            have y_0 : (0 : Int32).toInt = 0 := by decide
            have y_60 : (60 : Int32).toInt = 60 := by decide
            have y_61 : (61 : Int32).toInt = 61 := by decide
            have y_62 : (62 : Int32).toInt = 62 := by decide
            have y_1 : (1 : Int32).toInt = 1 := by decide
            have t_x_465 : x_465.toInt = (sv_26 : Int32).toInt + (1 : Int32).toInt := by rw [ex_465]; exact add_toInt (by omega) (by omega)
            omega
          refine lv_iload_n hx hb dX12_compare_54 rfl (lv_at hl 1 rfl) ?_
          refine lv_bipush (v := 61) hx hb dX12_compare_55 (by decide) ?_
          refine lv_icmp_eq (tgt := 89) hx hb dX12_compare_57 (by decide) (fun c_466 => ?_) (fun c_466 => ?_)
          · skip
            exfalso
            have z_1 : ¬ (r_13 : Int32).toInt = (0 : Int32).toInt := fun z => c_18 (Int32.toInt_inj.mp z)
            have z_2 : ¬ (r_31 : Int32).toInt = (60 : Int32).toInt := fun z => c_34 (Int32.toInt_inj.mp z)
            have z_3 : ¬ (r_31 : Int32).toInt = (61 : Int32).toInt := fun z => c_378 (Int32.toInt_inj.mp z)
            have z_4 := congrArg Int32.toInt c_464
            have z_5 := congrArg Int32.toInt c_466
            have y_0 : (0 : Int32).toInt = 0 := by decide
            have y_60 : (60 : Int32).toInt = 60 := by decide
            have y_61 : (61 : Int32).toInt = 61 := by decide
            have y_62 : (62 : Int32).toInt = 62 := by decide
            omega
          · skip
            refine lv_aload_n hx hb dX12_compare_60 rfl (lv_at hl 2 rfl) ?_
            refine gf_X12_87 hx hb hts hown hK hP 2 rfl rfl dX12_compare_61 ?_
            refine lv_aload_n hx hb dX12_compare_64 rfl (lv_at hl 2 rfl) ?_
            refine gf_X12_77 hx hb hts hown hK hP 2 rfl rfl dX12_compare_65 ?_
            refine lv_icmp_ge (tgt := 89) hx hb dX12_compare_68 (by decide) (fun c_467 => ?_) (fun c_467 => ?_)
            · skip
              refine lv_iconst (v := 0) hx hb dX12_compare_89 (by decide) ?_
              refine lv_istore_n (lv' := [(3, .int 0), (2, .int sv_26), (1, .int r_31), (0, .ref (Ma 0))]) hx hb dX12_compare_90 rfl hl (by decide) rfl (fun ls hl₀ => ?_)
              replace hl := hl₀
              clear hl₀
              refine lv_iload_n hx hb dX12_compare_91 rfl (lv_at hl 0 rfl) ?_
              refine lv_if_eq (tgt := 105) hx hb dX12_compare_92 (by decide) (fun c_468 => ?_) (fun c_468 => absurd c_468 (by decide))
              refine lv_aload_n hx hb dX12_compare_105 rfl (lv_at hl 3 rfl) ?_
              refine lv_iload_n hx hb dX12_compare_106 rfl (lv_at hl 1 rfl) ?_
              have ha_469 : 0 ≤ sv_26.toInt ∧ sv_26.toInt ≤ 400 := by
                have z_1 : ¬ (r_13 : Int32).toInt = (0 : Int32).toInt := fun z => c_18 (Int32.toInt_inj.mp z)
                have z_2 : ¬ (r_31 : Int32).toInt = (60 : Int32).toInt := fun z => c_34 (Int32.toInt_inj.mp z)
                have z_3 : ¬ (r_31 : Int32).toInt = (61 : Int32).toInt := fun z => c_378 (Int32.toInt_inj.mp z)
                have z_4 := congrArg Int32.toInt c_464
                have z_5 : ¬ (r_31 : Int32).toInt = (61 : Int32).toInt := fun z => c_466 (Int32.toInt_inj.mp z)
                have z_6 := Int32.le_iff_toInt_le.mp c_467
                have y_0 : (0 : Int32).toInt = 0 := by decide
                have y_60 : (60 : Int32).toInt = 60 := by decide
                have y_61 : (61 : Int32).toInt = 61 := by decide
                have y_62 : (62 : Int32).toInt = 62 := by decide
                have y_1 : (1 : Int32).toInt = 1 := by decide
                have t_x_465 : x_465.toInt = (sv_26 : Int32).toInt + (1 : Int32).toInt := by rw [ex_465]; exact add_toInt (by omega) (by omega)
                omega
              have ha_470 : 0 ≤ (sv_7 : Int32).toInt ∧ (sv_7 : Int32).toInt ≤ 60 := by
                have z_1 : ¬ (r_13 : Int32).toInt = (0 : Int32).toInt := fun z => c_18 (Int32.toInt_inj.mp z)
                have z_2 : ¬ (r_31 : Int32).toInt = (60 : Int32).toInt := fun z => c_34 (Int32.toInt_inj.mp z)
                have z_3 : ¬ (r_31 : Int32).toInt = (61 : Int32).toInt := fun z => c_378 (Int32.toInt_inj.mp z)
                have z_4 := congrArg Int32.toInt c_464
                have z_5 : ¬ (r_31 : Int32).toInt = (61 : Int32).toInt := fun z => c_466 (Int32.toInt_inj.mp z)
                have z_6 := Int32.le_iff_toInt_le.mp c_467
                have y_0 : (0 : Int32).toInt = 0 := by decide
                have y_60 : (60 : Int32).toInt = 60 := by decide
                have y_61 : (61 : Int32).toInt = 61 := by decide
                have y_62 : (62 : Int32).toInt = 62 := by decide
                have y_1 : (1 : Int32).toInt = 1 := by decide
                have t_x_465 : x_465.toInt = (sv_26 : Int32).toInt + (1 : Int32).toInt := by rw [ex_465]; exact add_toInt (by omega) (by omega)
                omega
              have ha_471 : (sv_5 : Int32).toInt = 0 := by
                have z_1 : ¬ (r_13 : Int32).toInt = (0 : Int32).toInt := fun z => c_18 (Int32.toInt_inj.mp z)
                have z_2 : ¬ (r_31 : Int32).toInt = (60 : Int32).toInt := fun z => c_34 (Int32.toInt_inj.mp z)
                have z_3 : ¬ (r_31 : Int32).toInt = (61 : Int32).toInt := fun z => c_378 (Int32.toInt_inj.mp z)
                have z_4 := congrArg Int32.toInt c_464
                have z_5 : ¬ (r_31 : Int32).toInt = (61 : Int32).toInt := fun z => c_466 (Int32.toInt_inj.mp z)
                have z_6 := Int32.le_iff_toInt_le.mp c_467
                have y_0 : (0 : Int32).toInt = 0 := by decide
                have y_60 : (60 : Int32).toInt = 60 := by decide
                have y_61 : (61 : Int32).toInt = 61 := by decide
                have y_62 : (62 : Int32).toInt = 62 := by decide
                have y_1 : (1 : Int32).toInt = 1 := by decide
                have t_x_465 : x_465.toInt = (sv_26 : Int32).toInt + (1 : Int32).toInt := by rw [ex_465]; exact add_toInt (by omega) (by omega)
                omega
              refine cV (a := (Ma 0)) (As := [.int sv_26]) (rest := []) (wr := [((Ma 2), .inl (tc 0, 2400, .inl sv_8)), ((Ma 3), .inl (tc 0, 7, .inl sv_9)), ((Ma 1), .inl (tc 2, 400, .inl (Mf 1)))]) ⟨hx, hb, hml, hown, hts⟩ hK hX hA (cu_fX12_makes l D tc sk (Ma 0) (Ma 1) (Ma 2) (Ma 3) (Ma 4) (Ma 5) (Ma 6) (Ma 7) (Ma 8) (Ma 9) (Ma 10) (Ma 11) (Ma 12) (Ma 13) (Ma 14) (Ma 15) (Ma 16) (Ma 17) (Ma 18) (Ma 19) (Ma 20) (Mv 0) (Mv 1) x_465 sv_5 sv_6 (Mv 5) sv_7 (Mv 7) (Mv 8) (Mv 9) (Mv 10) (Mv 11) (Mv 12) (Mv 13) (Mv 14) (Mj 0) sv_26 ha_469 ha_470 ha_471) k_1292 k_1289 k_1291 k_45 k_106 pl_X12_makes ⟨Nat.le_of_ble_eq_true rfl, Nat.le_of_ble_eq_true rfl⟩ rfl rfl (va_recv hK hP (ci := 12) (q0 := 2) rfl rfl) hP hD hS [2] [0, 1, 3] rfl rfl rfl rfl rfl (by decide) rfl hl.1 rfl (Nat.le_of_ble_eq_true rfl) dX12_compare_107 ⟨Nat.le_of_ble_eq_true rfl, Nat.le_of_ble_eq_true rfl⟩ (fun v_472 u_473 H locs hv_474 hP₀ hD₀ hS₀ => ?_)
              obtain ⟨sv_475, sv_476⟩ := u_473
              obtain ⟨r_478, rfl, he_479, pf_477⟩ := hv_474
              have he_479 : ((r_478.toInt = 0 ∧ ¬ (sv_475 : Int32).toInt = 0 ∧ sv_7.toInt = 60 ∧ (sv_475 : Int32).toInt = 1 + 8 * sv_26.toInt + 3) ∨ (r_478.toInt = 1 ∧ (sv_476 : Int32).toInt = sv_7.toInt + 1 ∧ sv_7.toInt < 60 ∧ (sv_475 : Int32).toInt = 0)) := he_479
              have pf_477 : (sv_7 : Int32).toInt ≤ (sv_476 : Int32).toInt ∧ (sv_476 : Int32).toInt ≤ 60 := pf_477
              refine W.eq (g2 := F0 m 110 ls [.int r_478]) rfl ?_
              replace hP : va_P D classes [((Ma 2), .inl (tc 0, 2400, .inl sv_8)), ((Ma 3), .inl (tc 0, 7, .inl sv_9)), ((Ma 1), .inl (tc 2, 400, .inl (Mf 1))), ((Ma 0), .inr (12, [.ref (Ma 1), .int (Mv 0), .int (Mv 1), .ref (Ma 2), .ref (Ma 3), .ref (Ma 4), .ref (Ma 5), .ref (Ma 6), .int x_465, .int sv_475, .int sv_6, .int (Mv 5), .int sv_476, .int (Mv 7), .int (Mv 8), .ref (Ma 7), .int (Mv 9), .ref (Ma 8), .int (Mv 10), .ref (Ma 9), .ref (Ma 10), .int (Mv 11), .int (Mv 12), .int (Mv 13), .ref (Ma 11), .int (Mv 14), .ref (Ma 12), .ref (Ma 13), .ref (Ma 14), .ref (Ma 15), .ref (Ma 16), .long (Mj 0), .ref (Ma 17), .ref (Ma 18), .ref (Ma 19), .ref (Ma 20)]))] H := hP₀
              replace hD : va_D A [((Ma 2), .inl (tc 0, 2400, .inl sv_8)), ((Ma 3), .inl (tc 0, 7, .inl sv_9)), ((Ma 1), .inl (tc 2, 400, .inl (Mf 1))), ((Ma 0), .inr (12, [.ref (Ma 1), .int (Mv 0), .int (Mv 1), .ref (Ma 2), .ref (Ma 3), .ref (Ma 4), .ref (Ma 5), .ref (Ma 6), .int x_465, .int sv_475, .int sv_6, .int (Mv 5), .int sv_476, .int (Mv 7), .int (Mv 8), .ref (Ma 7), .int (Mv 9), .ref (Ma 8), .int (Mv 10), .ref (Ma 9), .ref (Ma 10), .int (Mv 11), .int (Mv 12), .int (Mv 13), .ref (Ma 11), .int (Mv 14), .ref (Ma 12), .ref (Ma 13), .ref (Ma 14), .ref (Ma 15), .ref (Ma 16), .long (Mj 0), .ref (Ma 17), .ref (Ma 18), .ref (Ma 19), .ref (Ma 20)]))] := hD₀
              replace hS := hS₀
              clear hP₀ hD₀ hS₀
              have hr_482 : (sv_7 : Int32).toInt ≤ (sv_476 : Int32).toInt ∧ (sv_476 : Int32).toInt ≤ 60 := by
                have z_1 : ¬ (r_13 : Int32).toInt = (0 : Int32).toInt := fun z => c_18 (Int32.toInt_inj.mp z)
                have z_2 : ¬ (r_31 : Int32).toInt = (60 : Int32).toInt := fun z => c_34 (Int32.toInt_inj.mp z)
                have z_3 : ¬ (r_31 : Int32).toInt = (61 : Int32).toInt := fun z => c_378 (Int32.toInt_inj.mp z)
                have z_4 := congrArg Int32.toInt c_464
                have z_5 : ¬ (r_31 : Int32).toInt = (61 : Int32).toInt := fun z => c_466 (Int32.toInt_inj.mp z)
                have z_6 := Int32.le_iff_toInt_le.mp c_467
                have y_0 : (0 : Int32).toInt = 0 := by decide
                have y_60 : (60 : Int32).toInt = 60 := by decide
                have y_61 : (61 : Int32).toInt = 61 := by decide
                have y_62 : (62 : Int32).toInt = 62 := by decide
                have y_1 : (1 : Int32).toInt = 1 := by decide
                have t_x_465 : x_465.toInt = (sv_26 : Int32).toInt + (1 : Int32).toInt := by rw [ex_465]; exact add_toInt (by omega) (by omega)
                omega
              have pf_481 : Cd sv_8 sv_9 (Mv 5) b sv_476 (d + 1) := Cd.mono pf_19 hr_482
              have ar_pf_481 := Cd.ar pf_481
              refine lv_if_ne (tgt := 115) hx hb dX12_compare_110 (by decide) (fun c_483 => ?_) (fun c_483 => ?_)
              · skip
                refine lv_iload_n hx hb dX12_compare_115 rfl (lv_at hl 2 rfl) ?_
                refine lv_bipush (v := 60) hx hb dX12_compare_116 (by decide) ?_
                refine lv_icmp_ne (tgt := 133) hx hb dX12_compare_118 (by decide) (fun c_484 => ?_) (fun c_484 => ?_)
                · skip
                  refine lv_iload_n hx hb dX12_compare_133 rfl (lv_at hl 2 rfl) ?_
                  refine lv_bipush (v := 61) hx hb dX12_compare_134 (by decide) ?_
                  refine lv_icmp_ne (tgt := 143) hx hb dX12_compare_136 (by decide) (fun c_485 => ?_) (fun c_485 => ?_)
                  · skip
                    refine lv_iload_n hx hb dX12_compare_143 rfl (lv_at hl 0 rfl) ?_
                    refine lv_if_eq (tgt := 151) hx hb dX12_compare_144 (by decide) (fun c_486 => ?_) (fun c_486 => absurd c_486 (by decide))
                    refine lv_iconst (v := 4) hx hb dX12_compare_151 (by decide) ?_
                    refine lv_istore (lv' := [(4, .int 4), (3, .int 0), (2, .int sv_26), (1, .int r_31), (0, .ref (Ma 0))]) hx hb dX12_compare_152 hl (by decide) rfl (fun ls hl₀ => ?_)
                    replace hl := hl₀
                    clear hl₀
                    refine lv_aload_n hx hb dX12_compare_154 rfl (lv_at hl 4 rfl) ?_
                    have ha_487 : 0 ≤ (x_465 : Int32).toInt ∧ (x_465 : Int32).toInt ≤ ((Mv 0) : Int32).toInt ∧ ((Mv 0) : Int32).toInt ≤ 400 := by
                      have z_1 : ¬ (r_13 : Int32).toInt = (0 : Int32).toInt := fun z => c_18 (Int32.toInt_inj.mp z)
                      have z_2 : ¬ (r_31 : Int32).toInt = (60 : Int32).toInt := fun z => c_34 (Int32.toInt_inj.mp z)
                      have z_3 : ¬ (r_31 : Int32).toInt = (61 : Int32).toInt := fun z => c_378 (Int32.toInt_inj.mp z)
                      have z_4 := congrArg Int32.toInt c_464
                      have z_5 : ¬ (r_31 : Int32).toInt = (61 : Int32).toInt := fun z => c_466 (Int32.toInt_inj.mp z)
                      have z_6 := Int32.le_iff_toInt_le.mp c_467
                      have z_7 : ¬ (r_478 : Int32).toInt = (0 : Int32).toInt := fun z => c_483 (Int32.toInt_inj.mp z)
                      have z_8 : ¬ (r_31 : Int32).toInt = (60 : Int32).toInt := fun z => c_484 (Int32.toInt_inj.mp z)
                      have z_9 : ¬ (r_31 : Int32).toInt = (61 : Int32).toInt := fun z => c_485 (Int32.toInt_inj.mp z)
                      have y_0 : (0 : Int32).toInt = 0 := by decide
                      have y_60 : (60 : Int32).toInt = 60 := by decide
                      have y_61 : (61 : Int32).toInt = 61 := by decide
                      have y_62 : (62 : Int32).toInt = 62 := by decide
                      have y_1 : (1 : Int32).toInt = 1 := by decide
                      have t_x_465 : x_465.toInt = (sv_26 : Int32).toInt + (1 : Int32).toInt := by rw [ex_465]; exact add_toInt (by omega) (by omega)
                      omega
                    have ha_488 : (sv_9 (Mv 5).toNatClampNeg).toInt ≤ (x_465 : Int32).toInt := by
                      have z_1 : ¬ (r_13 : Int32).toInt = (0 : Int32).toInt := fun z => c_18 (Int32.toInt_inj.mp z)
                      have z_2 : ¬ (r_31 : Int32).toInt = (60 : Int32).toInt := fun z => c_34 (Int32.toInt_inj.mp z)
                      have z_3 : ¬ (r_31 : Int32).toInt = (61 : Int32).toInt := fun z => c_378 (Int32.toInt_inj.mp z)
                      have z_4 := congrArg Int32.toInt c_464
                      have z_5 : ¬ (r_31 : Int32).toInt = (61 : Int32).toInt := fun z => c_466 (Int32.toInt_inj.mp z)
                      have z_6 := Int32.le_iff_toInt_le.mp c_467
                      have z_7 : ¬ (r_478 : Int32).toInt = (0 : Int32).toInt := fun z => c_483 (Int32.toInt_inj.mp z)
                      have z_8 : ¬ (r_31 : Int32).toInt = (60 : Int32).toInt := fun z => c_484 (Int32.toInt_inj.mp z)
                      have z_9 : ¬ (r_31 : Int32).toInt = (61 : Int32).toInt := fun z => c_485 (Int32.toInt_inj.mp z)
                      have y_0 : (0 : Int32).toInt = 0 := by decide
                      have y_60 : (60 : Int32).toInt = 60 := by decide
                      have y_61 : (61 : Int32).toInt = 61 := by decide
                      have y_62 : (62 : Int32).toInt = 62 := by decide
                      have y_1 : (1 : Int32).toInt = 1 := by decide
                      have t_x_465 : x_465.toInt = (sv_26 : Int32).toInt + (1 : Int32).toInt := by rw [ex_465]; exact add_toInt (by omega) (by omega)
                      omega
                    have ha_489 : 0 ≤ (sv_476 : Int32).toInt ∧ (sv_476 : Int32).toInt ≤ 60 := by
                      have z_1 : ¬ (r_13 : Int32).toInt = (0 : Int32).toInt := fun z => c_18 (Int32.toInt_inj.mp z)
                      have z_2 : ¬ (r_31 : Int32).toInt = (60 : Int32).toInt := fun z => c_34 (Int32.toInt_inj.mp z)
                      have z_3 : ¬ (r_31 : Int32).toInt = (61 : Int32).toInt := fun z => c_378 (Int32.toInt_inj.mp z)
                      have z_4 := congrArg Int32.toInt c_464
                      have z_5 : ¬ (r_31 : Int32).toInt = (61 : Int32).toInt := fun z => c_466 (Int32.toInt_inj.mp z)
                      have z_6 := Int32.le_iff_toInt_le.mp c_467
                      have z_7 : ¬ (r_478 : Int32).toInt = (0 : Int32).toInt := fun z => c_483 (Int32.toInt_inj.mp z)
                      have z_8 : ¬ (r_31 : Int32).toInt = (60 : Int32).toInt := fun z => c_484 (Int32.toInt_inj.mp z)
                      have z_9 : ¬ (r_31 : Int32).toInt = (61 : Int32).toInt := fun z => c_485 (Int32.toInt_inj.mp z)
                      have y_0 : (0 : Int32).toInt = 0 := by decide
                      have y_60 : (60 : Int32).toInt = 60 := by decide
                      have y_61 : (61 : Int32).toInt = 61 := by decide
                      have y_62 : (62 : Int32).toInt = 62 := by decide
                      have y_1 : (1 : Int32).toInt = 1 := by decide
                      have t_x_465 : x_465.toInt = (sv_26 : Int32).toInt + (1 : Int32).toInt := by rw [ex_465]; exact add_toInt (by omega) (by omega)
                      omega
                    have ha_490 : (sv_475 : Int32).toInt = 0 := by
                      have z_1 : ¬ (r_13 : Int32).toInt = (0 : Int32).toInt := fun z => c_18 (Int32.toInt_inj.mp z)
                      have z_2 : ¬ (r_31 : Int32).toInt = (60 : Int32).toInt := fun z => c_34 (Int32.toInt_inj.mp z)
                      have z_3 : ¬ (r_31 : Int32).toInt = (61 : Int32).toInt := fun z => c_378 (Int32.toInt_inj.mp z)
                      have z_4 := congrArg Int32.toInt c_464
                      have z_5 : ¬ (r_31 : Int32).toInt = (61 : Int32).toInt := fun z => c_466 (Int32.toInt_inj.mp z)
                      have z_6 := Int32.le_iff_toInt_le.mp c_467
                      have z_7 : ¬ (r_478 : Int32).toInt = (0 : Int32).toInt := fun z => c_483 (Int32.toInt_inj.mp z)
                      have z_8 : ¬ (r_31 : Int32).toInt = (60 : Int32).toInt := fun z => c_484 (Int32.toInt_inj.mp z)
                      have z_9 : ¬ (r_31 : Int32).toInt = (61 : Int32).toInt := fun z => c_485 (Int32.toInt_inj.mp z)
                      have y_0 : (0 : Int32).toInt = 0 := by decide
                      have y_60 : (60 : Int32).toInt = 60 := by decide
                      have y_61 : (61 : Int32).toInt = 61 := by decide
                      have y_62 : (62 : Int32).toInt = 62 := by decide
                      have y_1 : (1 : Int32).toInt = 1 := by decide
                      have t_x_465 : x_465.toInt = (sv_26 : Int32).toInt + (1 : Int32).toInt := by rw [ex_465]; exact add_toInt (by omega) (by omega)
                      omega
                    refine cV (a := (Ma 0)) (As := []) (rest := []) (wr := []) ⟨hx, hb, hml, hown, hts⟩ hK hX hA (cu_fX12_sum l D tc sk (Ma 0) (Ma 1) (Ma 2) (Ma 3) (Ma 4) (Ma 5) (Ma 6) (Ma 7) (Ma 8) (Ma 9) (Ma 10) (Ma 11) (Ma 12) (Ma 13) (Ma 14) (Ma 15) (Ma 16) (Ma 17) (Ma 18) (Ma 19) (Ma 20) (Mv 0) (Mv 1) x_465 sv_475 sv_6 (Mv 5) sv_476 (Mv 7) (Mv 8) (Mv 9) (Mv 10) (Mv 11) (Mv 12) (Mv 13) (Mv 14) (Mf 1) sv_8 sv_9 (Mj 0) b (d + 1) ha_487 pf_481 ha_488 ha_489 h_bs ha_490) k_1279 k_1276 k_1278 k_42 k_106 pl_X12_sum ⟨Nat.le_of_ble_eq_true rfl, Nat.le_of_ble_eq_true rfl⟩ rfl rfl (va_recv hK hP (ci := 12) (q0 := 3) rfl rfl) hP hD hS [3, 2, 0, 1] [] rfl rfl rfl rfl rfl (by decide) rfl hl.1 rfl (Nat.le_of_ble_eq_true rfl) dX12_compare_155 ⟨Nat.le_of_ble_eq_true rfl, Nat.le_of_ble_eq_true rfl⟩ (fun v_491 u_492 H locs hv_493 hP₀ hD₀ hS₀ => ?_)
                    obtain ⟨sv_494, sv_495, sv_496, sv_497, sv_498, sv_499⟩ := u_492
                    obtain ⟨r_503, rfl, he_504, pf_500, pf_501, pf_502, hm_506, hm_507⟩ := hv_493
                    have he_504 : ((r_503.toInt = 0 ∧ ¬ (sv_495 : Int32).toInt = 0) ∨ (r_503.toInt = 1 ∧ (sv_9 (Mv 5).toNatClampNeg).toInt + 1 ≤ (sv_499 (Mv 5).toNatClampNeg).toInt ∧ (sv_499 (Mv 5).toNatClampNeg).toInt + (x_465 : Int32).toInt ≤ (sv_9 (Mv 5).toNatClampNeg).toInt + (sv_494 : Int32).toInt ∧ (x_465 : Int32).toInt + 1 ≤ (sv_494 : Int32).toInt)) := he_504
                    have pf_500 : (x_465 : Int32).toInt ≤ (sv_494 : Int32).toInt ∧ (sv_494 : Int32).toInt ≤ ((Mv 0) : Int32).toInt := pf_500
                    have pf_501 : (sv_476 : Int32).toInt ≤ (sv_497 : Int32).toInt ∧ (sv_497 : Int32).toInt ≤ 60 := pf_501
                    have pf_502 : Agr sv_8 sv_498 (400 * ((Mv 5) : Int32).toInt + (sv_9 (Mv 5).toNatClampNeg).toInt) := pf_502
                    refine W.eq (g2 := F0 m 158 ls [.int r_503]) rfl ?_
                    replace hP : va_P D classes [((Ma 0), .inr (12, [.ref (Ma 1), .int (Mv 0), .int (Mv 1), .ref (Ma 2), .ref (Ma 3), .ref (Ma 4), .ref (Ma 5), .ref (Ma 6), .int sv_494, .int sv_495, .int sv_496, .int (Mv 5), .int sv_497, .int (Mv 7), .int (Mv 8), .ref (Ma 7), .int (Mv 9), .ref (Ma 8), .int (Mv 10), .ref (Ma 9), .ref (Ma 10), .int (Mv 11), .int (Mv 12), .int (Mv 13), .ref (Ma 11), .int (Mv 14), .ref (Ma 12), .ref (Ma 13), .ref (Ma 14), .ref (Ma 15), .ref (Ma 16), .long (Mj 0), .ref (Ma 17), .ref (Ma 18), .ref (Ma 19), .ref (Ma 20)])), ((Ma 1), .inl (tc 2, 400, .inl (Mf 1))), ((Ma 2), .inl (tc 0, 2400, .inl sv_498)), ((Ma 3), .inl (tc 0, 7, .inl sv_499))] H := hP₀
                    replace hD : va_D A [((Ma 0), .inr (12, [.ref (Ma 1), .int (Mv 0), .int (Mv 1), .ref (Ma 2), .ref (Ma 3), .ref (Ma 4), .ref (Ma 5), .ref (Ma 6), .int sv_494, .int sv_495, .int sv_496, .int (Mv 5), .int sv_497, .int (Mv 7), .int (Mv 8), .ref (Ma 7), .int (Mv 9), .ref (Ma 8), .int (Mv 10), .ref (Ma 9), .ref (Ma 10), .int (Mv 11), .int (Mv 12), .int (Mv 13), .ref (Ma 11), .int (Mv 14), .ref (Ma 12), .ref (Ma 13), .ref (Ma 14), .ref (Ma 15), .ref (Ma 16), .long (Mj 0), .ref (Ma 17), .ref (Ma 18), .ref (Ma 19), .ref (Ma 20)])), ((Ma 1), .inl (tc 2, 400, .inl (Mf 1))), ((Ma 2), .inl (tc 0, 2400, .inl sv_498)), ((Ma 3), .inl (tc 0, 7, .inl sv_499))] := hD₀
                    replace hS := hS₀
                    clear hP₀ hD₀ hS₀
                    refine lv_if_ne (tgt := 163) hx hb dX12_compare_158 (by decide) (fun c_508 => ?_) (fun c_508 => ?_)
                    · skip
                      have hz_511 : (r_503 : Int32).toInt = 1 := by
                        have z_1 : ¬ (r_13 : Int32).toInt = (0 : Int32).toInt := fun z => c_18 (Int32.toInt_inj.mp z)
                        have z_2 : ¬ (r_31 : Int32).toInt = (60 : Int32).toInt := fun z => c_34 (Int32.toInt_inj.mp z)
                        have z_3 : ¬ (r_31 : Int32).toInt = (61 : Int32).toInt := fun z => c_378 (Int32.toInt_inj.mp z)
                        have z_4 := congrArg Int32.toInt c_464
                        have z_5 : ¬ (r_31 : Int32).toInt = (61 : Int32).toInt := fun z => c_466 (Int32.toInt_inj.mp z)
                        have z_6 := Int32.le_iff_toInt_le.mp c_467
                        have z_7 : ¬ (r_478 : Int32).toInt = (0 : Int32).toInt := fun z => c_483 (Int32.toInt_inj.mp z)
                        have z_8 : ¬ (r_31 : Int32).toInt = (60 : Int32).toInt := fun z => c_484 (Int32.toInt_inj.mp z)
                        have z_9 : ¬ (r_31 : Int32).toInt = (61 : Int32).toInt := fun z => c_485 (Int32.toInt_inj.mp z)
                        have z_10 : ¬ (r_503 : Int32).toInt = (0 : Int32).toInt := fun z => c_508 (Int32.toInt_inj.mp z)
                        have y_0 : (0 : Int32).toInt = 0 := by decide
                        have y_60 : (60 : Int32).toInt = 60 := by decide
                        have y_61 : (61 : Int32).toInt = 61 := by decide
                        have y_62 : (62 : Int32).toInt = 62 := by decide
                        have y_1 : (1 : Int32).toInt = 1 := by decide
                        have t_x_465 : x_465.toInt = (sv_26 : Int32).toInt + (1 : Int32).toInt := by rw [ex_465]; exact add_toInt (by omega) (by omega)
                        omega
                      obtain ⟨pf_509, pf_510⟩ := hm_506 hz_511
                      have pf_509 : Cd sv_498 sv_499 (Mv 5) b sv_497 ((d + 1) + 1) := pf_509
                      have ar_pf_509 := Cd.ar pf_509
                      have pf_510 : RfO (pz_sum (rB (Mf 1) (Mv 0)) (St0 (rB (Mf 1) (Mv 0)) x_465 sv_476)) (rB (Mf 1) (Mv 0)) sv_495 sv_494 sv_497 := pf_510
                      have ar_pf_510 := RfO.wr pf_510
                      refine lv_aload_n hx hb dX12_compare_163 rfl (lv_at hl 4 rfl) ?_
                      refine lv_bipush (v := 6) hx hb dX12_compare_164 (by decide) ?_
                      refine lv_iload hx hb dX12_compare_166 (lv_at hl 0 rfl) ?_
                      refine lv_iadd hx hb dX12_compare_168 ?_
                      refine lv_lit (v := 10) (by decide) ?_
                      refine lv_iconst (v := 0) hx hb dX12_compare_169 (by decide) ?_
                      have ha_512 : ((d + 1) : Int) ≤ sv_497.toInt := by
                        have z_1 : ¬ (r_13 : Int32).toInt = (0 : Int32).toInt := fun z => c_18 (Int32.toInt_inj.mp z)
                        have z_2 : ¬ (r_31 : Int32).toInt = (60 : Int32).toInt := fun z => c_34 (Int32.toInt_inj.mp z)
                        have z_3 : ¬ (r_31 : Int32).toInt = (61 : Int32).toInt := fun z => c_378 (Int32.toInt_inj.mp z)
                        have z_4 := congrArg Int32.toInt c_464
                        have z_5 : ¬ (r_31 : Int32).toInt = (61 : Int32).toInt := fun z => c_466 (Int32.toInt_inj.mp z)
                        have z_6 := Int32.le_iff_toInt_le.mp c_467
                        have z_7 : ¬ (r_478 : Int32).toInt = (0 : Int32).toInt := fun z => c_483 (Int32.toInt_inj.mp z)
                        have z_8 : ¬ (r_31 : Int32).toInt = (60 : Int32).toInt := fun z => c_484 (Int32.toInt_inj.mp z)
                        have z_9 : ¬ (r_31 : Int32).toInt = (61 : Int32).toInt := fun z => c_485 (Int32.toInt_inj.mp z)
                        have z_10 : ¬ (r_503 : Int32).toInt = (0 : Int32).toInt := fun z => c_508 (Int32.toInt_inj.mp z)
                        have y_0 : (0 : Int32).toInt = 0 := by decide
                        have y_60 : (60 : Int32).toInt = 60 := by decide
                        have y_61 : (61 : Int32).toInt = 61 := by decide
                        have y_62 : (62 : Int32).toInt = 62 := by decide
                        have y_1 : (1 : Int32).toInt = 1 := by decide
                        have t_x_465 : x_465.toInt = (sv_26 : Int32).toInt + (1 : Int32).toInt := by rw [ex_465]; exact add_toInt (by omega) (by omega)
                        omega
                      have ha_513 : (sv_499 (Mv 5).toNatClampNeg).toInt < 400 := by
                        have z_1 : ¬ (r_13 : Int32).toInt = (0 : Int32).toInt := fun z => c_18 (Int32.toInt_inj.mp z)
                        have z_2 : ¬ (r_31 : Int32).toInt = (60 : Int32).toInt := fun z => c_34 (Int32.toInt_inj.mp z)
                        have z_3 : ¬ (r_31 : Int32).toInt = (61 : Int32).toInt := fun z => c_378 (Int32.toInt_inj.mp z)
                        have z_4 := congrArg Int32.toInt c_464
                        have z_5 : ¬ (r_31 : Int32).toInt = (61 : Int32).toInt := fun z => c_466 (Int32.toInt_inj.mp z)
                        have z_6 := Int32.le_iff_toInt_le.mp c_467
                        have z_7 : ¬ (r_478 : Int32).toInt = (0 : Int32).toInt := fun z => c_483 (Int32.toInt_inj.mp z)
                        have z_8 : ¬ (r_31 : Int32).toInt = (60 : Int32).toInt := fun z => c_484 (Int32.toInt_inj.mp z)
                        have z_9 : ¬ (r_31 : Int32).toInt = (61 : Int32).toInt := fun z => c_485 (Int32.toInt_inj.mp z)
                        have z_10 : ¬ (r_503 : Int32).toInt = (0 : Int32).toInt := fun z => c_508 (Int32.toInt_inj.mp z)
                        have y_0 : (0 : Int32).toInt = 0 := by decide
                        have y_60 : (60 : Int32).toInt = 60 := by decide
                        have y_61 : (61 : Int32).toInt = 61 := by decide
                        have y_62 : (62 : Int32).toInt = 62 := by decide
                        have y_1 : (1 : Int32).toInt = 1 := by decide
                        have t_x_465 : x_465.toInt = (sv_26 : Int32).toInt + (1 : Int32).toInt := by rw [ex_465]; exact add_toInt (by omega) (by omega)
                        omega
                      refine cV (a := (Ma 0)) (As := [.int 10, .int 0]) (rest := []) (wr := [((Ma 1), .inl (tc 2, 400, .inl (Mf 1)))]) ⟨hx, hb, hml, hown, hts⟩ hK hX hA (cu_X12_puts l D tc sk (Ma 0) (Ma 1) (Ma 2) (Ma 3) (Ma 4) (Ma 5) (Ma 6) (Ma 7) (Ma 8) (Ma 9) (Ma 10) (Ma 11) (Ma 12) (Ma 13) (Ma 14) (Ma 15) (Ma 16) (Ma 17) (Ma 18) (Ma 19) (Ma 20) (Mv 0) (Mv 1) sv_494 sv_495 sv_496 (Mv 5) sv_497 (Mv 7) (Mv 8) (Mv 9) (Mv 10) (Mv 11) (Mv 12) (Mv 13) (Mv 14) sv_498 sv_499 (Mj 0) 10 0 b sv_497 ((d + 1) + 1) (d + 1) pf_509 (StpR.op (by decide) rfl (by omega)) ha_512 ha_513) k_1296 k_1293 k_1295 k_46 k_106 pl_X12_puts ⟨Nat.le_of_ble_eq_true rfl, Nat.le_of_ble_eq_true rfl⟩ rfl rfl (va_recv hK hP (ci := 12) (q0 := 0) rfl rfl) hP hD hS [0, 2, 3] [1] rfl rfl rfl rfl rfl (by decide) rfl hl.1 rfl (Nat.le_of_ble_eq_true rfl) dX12_compare_170 ⟨Nat.le_of_ble_eq_true rfl, Nat.le_of_ble_eq_true rfl⟩ (fun v_514 u_515 H locs hv_516 hP₀ hD₀ hS₀ => ?_)
                      obtain ⟨sv_517, sv_518⟩ := u_515
                      obtain ⟨rfl, pf_519, pf_520, pf_521⟩ := hv_516
                      have pf_519 : Cd sv_517 sv_518 (Mv 5) b sv_497 (d + 1) := pf_519
                      have ar_pf_519 := Cd.ar pf_519
                      have pf_520 : Agr sv_498 sv_517 (400 * ((Mv 5) : Int32).toInt + (sv_499 (Mv 5).toNatClampNeg).toInt) := pf_520
                      have pf_521 : (sv_518 (Mv 5).toNatClampNeg).toInt = (sv_499 (Mv 5).toNatClampNeg).toInt + 1 := pf_521
                      refine W.eq (g2 := F0 m 173 ls []) rfl ?_
                      replace hP : va_P D classes [((Ma 1), .inl (tc 2, 400, .inl (Mf 1))), ((Ma 0), .inr (12, [.ref (Ma 1), .int (Mv 0), .int (Mv 1), .ref (Ma 2), .ref (Ma 3), .ref (Ma 4), .ref (Ma 5), .ref (Ma 6), .int sv_494, .int sv_495, .int sv_496, .int (Mv 5), .int sv_497, .int (Mv 7), .int (Mv 8), .ref (Ma 7), .int (Mv 9), .ref (Ma 8), .int (Mv 10), .ref (Ma 9), .ref (Ma 10), .int (Mv 11), .int (Mv 12), .int (Mv 13), .ref (Ma 11), .int (Mv 14), .ref (Ma 12), .ref (Ma 13), .ref (Ma 14), .ref (Ma 15), .ref (Ma 16), .long (Mj 0), .ref (Ma 17), .ref (Ma 18), .ref (Ma 19), .ref (Ma 20)])), ((Ma 2), .inl (tc 0, 2400, .inl sv_517)), ((Ma 3), .inl (tc 0, 7, .inl sv_518))] H := hP₀
                      replace hD : va_D A [((Ma 1), .inl (tc 2, 400, .inl (Mf 1))), ((Ma 0), .inr (12, [.ref (Ma 1), .int (Mv 0), .int (Mv 1), .ref (Ma 2), .ref (Ma 3), .ref (Ma 4), .ref (Ma 5), .ref (Ma 6), .int sv_494, .int sv_495, .int sv_496, .int (Mv 5), .int sv_497, .int (Mv 7), .int (Mv 8), .ref (Ma 7), .int (Mv 9), .ref (Ma 8), .int (Mv 10), .ref (Ma 9), .ref (Ma 10), .int (Mv 11), .int (Mv 12), .int (Mv 13), .ref (Ma 11), .int (Mv 14), .ref (Ma 12), .ref (Ma 13), .ref (Ma 14), .ref (Ma 15), .ref (Ma 16), .long (Mj 0), .ref (Ma 17), .ref (Ma 18), .ref (Ma 19), .ref (Ma 20)])), ((Ma 2), .inl (tc 0, 2400, .inl sv_517)), ((Ma 3), .inl (tc 0, 7, .inl sv_518))] := hD₀
                      replace hS := hS₀
                      clear hP₀ hD₀ hS₀
                      refine lv_iconst (v := 1) hx hb dX12_compare_173 (by decide) ?_
                      have ha_522 : ((Mv 2) : Int32).toInt ≤ (sv_494 : Int32).toInt ∧ (sv_494 : Int32).toInt ≤ ((Mv 0) : Int32).toInt := by
                        have z_1 : ¬ (r_13 : Int32).toInt = (0 : Int32).toInt := fun z => c_18 (Int32.toInt_inj.mp z)
                        have z_2 : ¬ (r_31 : Int32).toInt = (60 : Int32).toInt := fun z => c_34 (Int32.toInt_inj.mp z)
                        have z_3 : ¬ (r_31 : Int32).toInt = (61 : Int32).toInt := fun z => c_378 (Int32.toInt_inj.mp z)
                        have z_4 := congrArg Int32.toInt c_464
                        have z_5 : ¬ (r_31 : Int32).toInt = (61 : Int32).toInt := fun z => c_466 (Int32.toInt_inj.mp z)
                        have z_6 := Int32.le_iff_toInt_le.mp c_467
                        have z_7 : ¬ (r_478 : Int32).toInt = (0 : Int32).toInt := fun z => c_483 (Int32.toInt_inj.mp z)
                        have z_8 : ¬ (r_31 : Int32).toInt = (60 : Int32).toInt := fun z => c_484 (Int32.toInt_inj.mp z)
                        have z_9 : ¬ (r_31 : Int32).toInt = (61 : Int32).toInt := fun z => c_485 (Int32.toInt_inj.mp z)
                        have z_10 : ¬ (r_503 : Int32).toInt = (0 : Int32).toInt := fun z => c_508 (Int32.toInt_inj.mp z)
                        have y_0 : (0 : Int32).toInt = 0 := by decide
                        have y_60 : (60 : Int32).toInt = 60 := by decide
                        have y_61 : (61 : Int32).toInt = 61 := by decide
                        have y_62 : (62 : Int32).toInt = 62 := by decide
                        have y_1 : (1 : Int32).toInt = 1 := by decide
                        have t_x_465 : x_465.toInt = (sv_26 : Int32).toInt + (1 : Int32).toInt := by rw [ex_465]; exact add_toInt (by omega) (by omega)
                        omega
                      have ha_523 : ((Mv 6) : Int32).toInt ≤ (sv_497 : Int32).toInt ∧ (sv_497 : Int32).toInt ≤ 60 := by
                        have z_1 : ¬ (r_13 : Int32).toInt = (0 : Int32).toInt := fun z => c_18 (Int32.toInt_inj.mp z)
                        have z_2 : ¬ (r_31 : Int32).toInt = (60 : Int32).toInt := fun z => c_34 (Int32.toInt_inj.mp z)
                        have z_3 : ¬ (r_31 : Int32).toInt = (61 : Int32).toInt := fun z => c_378 (Int32.toInt_inj.mp z)
                        have z_4 := congrArg Int32.toInt c_464
                        have z_5 : ¬ (r_31 : Int32).toInt = (61 : Int32).toInt := fun z => c_466 (Int32.toInt_inj.mp z)
                        have z_6 := Int32.le_iff_toInt_le.mp c_467
                        have z_7 : ¬ (r_478 : Int32).toInt = (0 : Int32).toInt := fun z => c_483 (Int32.toInt_inj.mp z)
                        have z_8 : ¬ (r_31 : Int32).toInt = (60 : Int32).toInt := fun z => c_484 (Int32.toInt_inj.mp z)
                        have z_9 : ¬ (r_31 : Int32).toInt = (61 : Int32).toInt := fun z => c_485 (Int32.toInt_inj.mp z)
                        have z_10 : ¬ (r_503 : Int32).toInt = (0 : Int32).toInt := fun z => c_508 (Int32.toInt_inj.mp z)
                        have y_0 : (0 : Int32).toInt = 0 := by decide
                        have y_60 : (60 : Int32).toInt = 60 := by decide
                        have y_61 : (61 : Int32).toInt = 61 := by decide
                        have y_62 : (62 : Int32).toInt = 62 := by decide
                        have y_1 : (1 : Int32).toInt = 1 := by decide
                        have t_x_465 : x_465.toInt = (sv_26 : Int32).toInt + (1 : Int32).toInt := by rw [ex_465]; exact add_toInt (by omega) (by omega)
                        omega
                      have hr_524 : (400 * ((Mv 5) : Int32).toInt + ((Mf 3) (Mv 5).toNatClampNeg).toInt) ≤ (400 * ((Mv 5) : Int32).toInt + ((Mf 3) (Mv 5).toNatClampNeg).toInt) := by
                        have z_1 : ¬ (r_13 : Int32).toInt = (0 : Int32).toInt := fun z => c_18 (Int32.toInt_inj.mp z)
                        have z_2 : ¬ (r_31 : Int32).toInt = (60 : Int32).toInt := fun z => c_34 (Int32.toInt_inj.mp z)
                        have z_3 : ¬ (r_31 : Int32).toInt = (61 : Int32).toInt := fun z => c_378 (Int32.toInt_inj.mp z)
                        have z_4 := congrArg Int32.toInt c_464
                        have z_5 : ¬ (r_31 : Int32).toInt = (61 : Int32).toInt := fun z => c_466 (Int32.toInt_inj.mp z)
                        have z_6 := Int32.le_iff_toInt_le.mp c_467
                        have z_7 : ¬ (r_478 : Int32).toInt = (0 : Int32).toInt := fun z => c_483 (Int32.toInt_inj.mp z)
                        have z_8 : ¬ (r_31 : Int32).toInt = (60 : Int32).toInt := fun z => c_484 (Int32.toInt_inj.mp z)
                        have z_9 : ¬ (r_31 : Int32).toInt = (61 : Int32).toInt := fun z => c_485 (Int32.toInt_inj.mp z)
                        have z_10 : ¬ (r_503 : Int32).toInt = (0 : Int32).toInt := fun z => c_508 (Int32.toInt_inj.mp z)
                        have y_0 : (0 : Int32).toInt = 0 := by decide
                        have y_60 : (60 : Int32).toInt = 60 := by decide
                        have y_61 : (61 : Int32).toInt = 61 := by decide
                        have y_62 : (62 : Int32).toInt = 62 := by decide
                        have y_1 : (1 : Int32).toInt = 1 := by decide
                        have t_x_465 : x_465.toInt = (sv_26 : Int32).toInt + (1 : Int32).toInt := by rw [ex_465]; exact add_toInt (by omega) (by omega)
                        omega
                      have hr_525 : (400 * ((Mv 5) : Int32).toInt + ((Mf 3) (Mv 5).toNatClampNeg).toInt) ≤ (400 * ((Mv 5) : Int32).toInt + (sv_9 (Mv 5).toNatClampNeg).toInt) := by
                        have z_1 : ¬ (r_13 : Int32).toInt = (0 : Int32).toInt := fun z => c_18 (Int32.toInt_inj.mp z)
                        have z_2 : ¬ (r_31 : Int32).toInt = (60 : Int32).toInt := fun z => c_34 (Int32.toInt_inj.mp z)
                        have z_3 : ¬ (r_31 : Int32).toInt = (61 : Int32).toInt := fun z => c_378 (Int32.toInt_inj.mp z)
                        have z_4 := congrArg Int32.toInt c_464
                        have z_5 : ¬ (r_31 : Int32).toInt = (61 : Int32).toInt := fun z => c_466 (Int32.toInt_inj.mp z)
                        have z_6 := Int32.le_iff_toInt_le.mp c_467
                        have z_7 : ¬ (r_478 : Int32).toInt = (0 : Int32).toInt := fun z => c_483 (Int32.toInt_inj.mp z)
                        have z_8 : ¬ (r_31 : Int32).toInt = (60 : Int32).toInt := fun z => c_484 (Int32.toInt_inj.mp z)
                        have z_9 : ¬ (r_31 : Int32).toInt = (61 : Int32).toInt := fun z => c_485 (Int32.toInt_inj.mp z)
                        have z_10 : ¬ (r_503 : Int32).toInt = (0 : Int32).toInt := fun z => c_508 (Int32.toInt_inj.mp z)
                        have y_0 : (0 : Int32).toInt = 0 := by decide
                        have y_60 : (60 : Int32).toInt = 60 := by decide
                        have y_61 : (61 : Int32).toInt = 61 := by decide
                        have y_62 : (62 : Int32).toInt = 62 := by decide
                        have y_1 : (1 : Int32).toInt = 1 := by decide
                        have t_x_465 : x_465.toInt = (sv_26 : Int32).toInt + (1 : Int32).toInt := by rw [ex_465]; exact add_toInt (by omega) (by omega)
                        omega
                      have hr_526 : (400 * ((Mv 5) : Int32).toInt + ((Mf 3) (Mv 5).toNatClampNeg).toInt) ≤ (400 * ((Mv 5) : Int32).toInt + (sv_499 (Mv 5).toNatClampNeg).toInt) := by
                        have z_1 : ¬ (r_13 : Int32).toInt = (0 : Int32).toInt := fun z => c_18 (Int32.toInt_inj.mp z)
                        have z_2 : ¬ (r_31 : Int32).toInt = (60 : Int32).toInt := fun z => c_34 (Int32.toInt_inj.mp z)
                        have z_3 : ¬ (r_31 : Int32).toInt = (61 : Int32).toInt := fun z => c_378 (Int32.toInt_inj.mp z)
                        have z_4 := congrArg Int32.toInt c_464
                        have z_5 : ¬ (r_31 : Int32).toInt = (61 : Int32).toInt := fun z => c_466 (Int32.toInt_inj.mp z)
                        have z_6 := Int32.le_iff_toInt_le.mp c_467
                        have z_7 : ¬ (r_478 : Int32).toInt = (0 : Int32).toInt := fun z => c_483 (Int32.toInt_inj.mp z)
                        have z_8 : ¬ (r_31 : Int32).toInt = (60 : Int32).toInt := fun z => c_484 (Int32.toInt_inj.mp z)
                        have z_9 : ¬ (r_31 : Int32).toInt = (61 : Int32).toInt := fun z => c_485 (Int32.toInt_inj.mp z)
                        have z_10 : ¬ (r_503 : Int32).toInt = (0 : Int32).toInt := fun z => c_508 (Int32.toInt_inj.mp z)
                        have y_0 : (0 : Int32).toInt = 0 := by decide
                        have y_60 : (60 : Int32).toInt = 60 := by decide
                        have y_61 : (61 : Int32).toInt = 61 := by decide
                        have y_62 : (62 : Int32).toInt = 62 := by decide
                        have y_1 : (1 : Int32).toInt = 1 := by decide
                        have t_x_465 : x_465.toInt = (sv_26 : Int32).toInt + (1 : Int32).toInt := by rw [ex_465]; exact add_toInt (by omega) (by omega)
                        omega
                      have hp_527 : (((1 : Int32).toInt = 0 ∧ ¬ (sv_495 : Int32).toInt = 0) ∨ ((1 : Int32).toInt = 1 ∧ ((Mf 3) (Mv 5).toNatClampNeg).toInt + 1 ≤ (sv_518 (Mv 5).toNatClampNeg).toInt ∧ (sv_518 (Mv 5).toNatClampNeg).toInt + ((Mv 2) : Int32).toInt ≤ ((Mf 3) (Mv 5).toNatClampNeg).toInt + (sv_494 : Int32).toInt ∧ ((Mv 2) : Int32).toInt + 1 ≤ (sv_494 : Int32).toInt)) := by
                        have z_1 : ¬ (r_13 : Int32).toInt = (0 : Int32).toInt := fun z => c_18 (Int32.toInt_inj.mp z)
                        have z_2 : ¬ (r_31 : Int32).toInt = (60 : Int32).toInt := fun z => c_34 (Int32.toInt_inj.mp z)
                        have z_3 : ¬ (r_31 : Int32).toInt = (61 : Int32).toInt := fun z => c_378 (Int32.toInt_inj.mp z)
                        have z_4 := congrArg Int32.toInt c_464
                        have z_5 : ¬ (r_31 : Int32).toInt = (61 : Int32).toInt := fun z => c_466 (Int32.toInt_inj.mp z)
                        have z_6 := Int32.le_iff_toInt_le.mp c_467
                        have z_7 : ¬ (r_478 : Int32).toInt = (0 : Int32).toInt := fun z => c_483 (Int32.toInt_inj.mp z)
                        have z_8 : ¬ (r_31 : Int32).toInt = (60 : Int32).toInt := fun z => c_484 (Int32.toInt_inj.mp z)
                        have z_9 : ¬ (r_31 : Int32).toInt = (61 : Int32).toInt := fun z => c_485 (Int32.toInt_inj.mp z)
                        have z_10 : ¬ (r_503 : Int32).toInt = (0 : Int32).toInt := fun z => c_508 (Int32.toInt_inj.mp z)
                        have y_0 : (0 : Int32).toInt = 0 := by decide
                        have y_60 : (60 : Int32).toInt = 60 := by decide
                        have y_61 : (61 : Int32).toInt = 61 := by decide
                        have y_62 : (62 : Int32).toInt = 62 := by decide
                        have y_1 : (1 : Int32).toInt = 1 := by decide
                        have t_x_465 : x_465.toInt = (sv_26 : Int32).toInt + (1 : Int32).toInt := by rw [ex_465]; exact add_toInt (by omega) (by omega)
                        have yr : (1 : Int32).toInt = 1 := by decide
                        omega
                      have hm_528 : (1 : Int32).toInt = 1 → (Cd sv_517 sv_518 (Mv 5) b sv_497 (d + 1)) ∧ (RfO (pz_com (rB (Mf 1) (Mv 0)) (St0 (rB (Mf 1) (Mv 0)) (Mv 2) (Mv 6))) (rB (Mf 1) (Mv 0)) sv_495 sv_494 sv_497) := by
                        intro h1r
                        have hr_529 : (rB (Mf 1) (Mv 0) (sv_26 : Int32).toInt.toNat = 60 ∨ rB (Mf 1) (Mv 0) (sv_26 : Int32).toInt.toNat = 61 ∨ rB (Mf 1) (Mv 0) (sv_26 : Int32).toInt.toNat = 62) := by
                          have z_1 : ¬ (r_13 : Int32).toInt = (0 : Int32).toInt := fun z => c_18 (Int32.toInt_inj.mp z)
                          have z_2 : ¬ (r_31 : Int32).toInt = (60 : Int32).toInt := fun z => c_34 (Int32.toInt_inj.mp z)
                          have z_3 : ¬ (r_31 : Int32).toInt = (61 : Int32).toInt := fun z => c_378 (Int32.toInt_inj.mp z)
                          have z_4 := congrArg Int32.toInt c_464
                          have z_5 : ¬ (r_31 : Int32).toInt = (61 : Int32).toInt := fun z => c_466 (Int32.toInt_inj.mp z)
                          have z_6 := Int32.le_iff_toInt_le.mp c_467
                          have z_7 : ¬ (r_478 : Int32).toInt = (0 : Int32).toInt := fun z => c_483 (Int32.toInt_inj.mp z)
                          have z_8 : ¬ (r_31 : Int32).toInt = (60 : Int32).toInt := fun z => c_484 (Int32.toInt_inj.mp z)
                          have z_9 : ¬ (r_31 : Int32).toInt = (61 : Int32).toInt := fun z => c_485 (Int32.toInt_inj.mp z)
                          have z_10 : ¬ (r_503 : Int32).toInt = (0 : Int32).toInt := fun z => c_508 (Int32.toInt_inj.mp z)
                          have y_0 : (0 : Int32).toInt = 0 := by decide
                          have y_60 : (60 : Int32).toInt = 60 := by decide
                          have y_61 : (61 : Int32).toInt = 61 := by decide
                          have y_62 : (62 : Int32).toInt = 62 := by decide
                          have y_1 : (1 : Int32).toInt = 1 := by decide
                          have t_x_465 : x_465.toInt = (sv_26 : Int32).toInt + (1 : Int32).toInt := by rw [ex_465]; exact add_toInt (by omega) (by omega)
                          omega
                        have rg_530 := rB_rg (n := (Mv 0)) h_bs ((sv_26 : Int32).toInt.toNat + 1)
                        have hr_531 : ((x_465 : Int32).toInt = (sv_26 : Int32).toInt + 1 ∧ ¬ ((rB (Mf 1) (Mv 0) (sv_26 : Int32).toInt.toNat = 60 ∨ rB (Mf 1) (Mv 0) (sv_26 : Int32).toInt.toNat = 62) ∧ rB (Mf 1) (Mv 0) ((sv_26 : Int32).toInt.toNat + 1) = 61)) ∨ ((x_465 : Int32).toInt = (sv_26 : Int32).toInt + 2 ∧ (rB (Mf 1) (Mv 0) (sv_26 : Int32).toInt.toNat = 60 ∨ rB (Mf 1) (Mv 0) (sv_26 : Int32).toInt.toNat = 62) ∧ rB (Mf 1) (Mv 0) ((sv_26 : Int32).toInt.toNat + 1) = 61) := by
                          have z_1 : ¬ (r_13 : Int32).toInt = (0 : Int32).toInt := fun z => c_18 (Int32.toInt_inj.mp z)
                          have z_2 : ¬ (r_31 : Int32).toInt = (60 : Int32).toInt := fun z => c_34 (Int32.toInt_inj.mp z)
                          have z_3 : ¬ (r_31 : Int32).toInt = (61 : Int32).toInt := fun z => c_378 (Int32.toInt_inj.mp z)
                          have z_4 := congrArg Int32.toInt c_464
                          have z_5 : ¬ (r_31 : Int32).toInt = (61 : Int32).toInt := fun z => c_466 (Int32.toInt_inj.mp z)
                          have z_6 := Int32.le_iff_toInt_le.mp c_467
                          have z_7 : ¬ (r_478 : Int32).toInt = (0 : Int32).toInt := fun z => c_483 (Int32.toInt_inj.mp z)
                          have z_8 : ¬ (r_31 : Int32).toInt = (60 : Int32).toInt := fun z => c_484 (Int32.toInt_inj.mp z)
                          have z_9 : ¬ (r_31 : Int32).toInt = (61 : Int32).toInt := fun z => c_485 (Int32.toInt_inj.mp z)
                          have z_10 : ¬ (r_503 : Int32).toInt = (0 : Int32).toInt := fun z => c_508 (Int32.toInt_inj.mp z)
                          have y_0 : (0 : Int32).toInt = 0 := by decide
                          have y_60 : (60 : Int32).toInt = 60 := by decide
                          have y_61 : (61 : Int32).toInt = 61 := by decide
                          have y_62 : (62 : Int32).toInt = 62 := by decide
                          have y_1 : (1 : Int32).toInt = 1 := by decide
                          have t_x_465 : x_465.toInt = (sv_26 : Int32).toInt + (1 : Int32).toInt := by rw [ex_465]; exact add_toInt (by omega) (by omega)
                          omega
                        have hr_532 : 0 ≤ (sv_7 : Int32).toInt ∧ (sv_7 : Int32).toInt < 60 ∧ (sv_476 : Int32).toInt = (sv_7 : Int32).toInt + 1 := by
                          have z_1 : ¬ (r_13 : Int32).toInt = (0 : Int32).toInt := fun z => c_18 (Int32.toInt_inj.mp z)
                          have z_2 : ¬ (r_31 : Int32).toInt = (60 : Int32).toInt := fun z => c_34 (Int32.toInt_inj.mp z)
                          have z_3 : ¬ (r_31 : Int32).toInt = (61 : Int32).toInt := fun z => c_378 (Int32.toInt_inj.mp z)
                          have z_4 := congrArg Int32.toInt c_464
                          have z_5 : ¬ (r_31 : Int32).toInt = (61 : Int32).toInt := fun z => c_466 (Int32.toInt_inj.mp z)
                          have z_6 := Int32.le_iff_toInt_le.mp c_467
                          have z_7 : ¬ (r_478 : Int32).toInt = (0 : Int32).toInt := fun z => c_483 (Int32.toInt_inj.mp z)
                          have z_8 : ¬ (r_31 : Int32).toInt = (60 : Int32).toInt := fun z => c_484 (Int32.toInt_inj.mp z)
                          have z_9 : ¬ (r_31 : Int32).toInt = (61 : Int32).toInt := fun z => c_485 (Int32.toInt_inj.mp z)
                          have z_10 : ¬ (r_503 : Int32).toInt = (0 : Int32).toInt := fun z => c_508 (Int32.toInt_inj.mp z)
                          have y_0 : (0 : Int32).toInt = 0 := by decide
                          have y_60 : (60 : Int32).toInt = 60 := by decide
                          have y_61 : (61 : Int32).toInt = 61 := by decide
                          have y_62 : (62 : Int32).toInt = 62 := by decide
                          have y_1 : (1 : Int32).toInt = 1 := by decide
                          have t_x_465 : x_465.toInt = (sv_26 : Int32).toInt + (1 : Int32).toInt := by rw [ex_465]; exact add_toInt (by omega) (by omega)
                          omega
                        exact ⟨pf_519, (RfO.com pf_20 pf_30 hr_529 hr_531 hr_532 pf_510)⟩
                      exact retI (v := 1) hx hb hr hlk (rfl) hP hD hS (sv_494, sv_495, sv_496, sv_497, sv_517, sv_518) ⟨_, rfl, hp_527, ha_522, ha_523, (Agr.trans (k' := (400 * ((Mv 5) : Int32).toInt + ((Mf 3) (Mv 5).toNatClampNeg).toInt)) (Agr.trans (k' := (400 * ((Mv 5) : Int32).toInt + ((Mf 3) (Mv 5).toNatClampNeg).toInt)) (Agr.mono pf_12 hr_524) pf_502 ⟨Int.le_refl _, hr_525⟩) pf_520 ⟨Int.le_refl _, hr_526⟩), hm_528, (fun h => absurd h (by decide))⟩ [1, 0, 2, 3] rfl rfl dX12_compare_174 (Nat.le_of_ble_eq_true rfl) (Nat.le_of_ble_eq_true rfl) rfl
                    · skip
                      have hz_534 : (r_503 : Int32).toInt = 0 := by
                        have z_1 : ¬ (r_13 : Int32).toInt = (0 : Int32).toInt := fun z => c_18 (Int32.toInt_inj.mp z)
                        have z_2 : ¬ (r_31 : Int32).toInt = (60 : Int32).toInt := fun z => c_34 (Int32.toInt_inj.mp z)
                        have z_3 : ¬ (r_31 : Int32).toInt = (61 : Int32).toInt := fun z => c_378 (Int32.toInt_inj.mp z)
                        have z_4 := congrArg Int32.toInt c_464
                        have z_5 : ¬ (r_31 : Int32).toInt = (61 : Int32).toInt := fun z => c_466 (Int32.toInt_inj.mp z)
                        have z_6 := Int32.le_iff_toInt_le.mp c_467
                        have z_7 : ¬ (r_478 : Int32).toInt = (0 : Int32).toInt := fun z => c_483 (Int32.toInt_inj.mp z)
                        have z_8 : ¬ (r_31 : Int32).toInt = (60 : Int32).toInt := fun z => c_484 (Int32.toInt_inj.mp z)
                        have z_9 : ¬ (r_31 : Int32).toInt = (61 : Int32).toInt := fun z => c_485 (Int32.toInt_inj.mp z)
                        have z_10 := congrArg Int32.toInt c_508
                        have y_0 : (0 : Int32).toInt = 0 := by decide
                        have y_60 : (60 : Int32).toInt = 60 := by decide
                        have y_61 : (61 : Int32).toInt = 61 := by decide
                        have y_62 : (62 : Int32).toInt = 62 := by decide
                        have y_1 : (1 : Int32).toInt = 1 := by decide
                        have t_x_465 : x_465.toInt = (sv_26 : Int32).toInt + (1 : Int32).toInt := by rw [ex_465]; exact add_toInt (by omega) (by omega)
                        omega
                      obtain pf_533 := hm_507 hz_534
                      have pf_533 : RfE (pz_sum (rB (Mf 1) (Mv 0)) (St0 (rB (Mf 1) (Mv 0)) x_465 sv_476)) sv_495 := pf_533
                      refine lv_iconst (v := 0) hx hb dX12_compare_161 (by decide) ?_
                      have ha_535 : ((Mv 2) : Int32).toInt ≤ (sv_494 : Int32).toInt ∧ (sv_494 : Int32).toInt ≤ ((Mv 0) : Int32).toInt := by
                        have z_1 : ¬ (r_13 : Int32).toInt = (0 : Int32).toInt := fun z => c_18 (Int32.toInt_inj.mp z)
                        have z_2 : ¬ (r_31 : Int32).toInt = (60 : Int32).toInt := fun z => c_34 (Int32.toInt_inj.mp z)
                        have z_3 : ¬ (r_31 : Int32).toInt = (61 : Int32).toInt := fun z => c_378 (Int32.toInt_inj.mp z)
                        have z_4 := congrArg Int32.toInt c_464
                        have z_5 : ¬ (r_31 : Int32).toInt = (61 : Int32).toInt := fun z => c_466 (Int32.toInt_inj.mp z)
                        have z_6 := Int32.le_iff_toInt_le.mp c_467
                        have z_7 : ¬ (r_478 : Int32).toInt = (0 : Int32).toInt := fun z => c_483 (Int32.toInt_inj.mp z)
                        have z_8 : ¬ (r_31 : Int32).toInt = (60 : Int32).toInt := fun z => c_484 (Int32.toInt_inj.mp z)
                        have z_9 : ¬ (r_31 : Int32).toInt = (61 : Int32).toInt := fun z => c_485 (Int32.toInt_inj.mp z)
                        have z_10 := congrArg Int32.toInt c_508
                        have y_0 : (0 : Int32).toInt = 0 := by decide
                        have y_60 : (60 : Int32).toInt = 60 := by decide
                        have y_61 : (61 : Int32).toInt = 61 := by decide
                        have y_62 : (62 : Int32).toInt = 62 := by decide
                        have y_1 : (1 : Int32).toInt = 1 := by decide
                        have t_x_465 : x_465.toInt = (sv_26 : Int32).toInt + (1 : Int32).toInt := by rw [ex_465]; exact add_toInt (by omega) (by omega)
                        omega
                      have ha_536 : ((Mv 6) : Int32).toInt ≤ (sv_497 : Int32).toInt ∧ (sv_497 : Int32).toInt ≤ 60 := by
                        have z_1 : ¬ (r_13 : Int32).toInt = (0 : Int32).toInt := fun z => c_18 (Int32.toInt_inj.mp z)
                        have z_2 : ¬ (r_31 : Int32).toInt = (60 : Int32).toInt := fun z => c_34 (Int32.toInt_inj.mp z)
                        have z_3 : ¬ (r_31 : Int32).toInt = (61 : Int32).toInt := fun z => c_378 (Int32.toInt_inj.mp z)
                        have z_4 := congrArg Int32.toInt c_464
                        have z_5 : ¬ (r_31 : Int32).toInt = (61 : Int32).toInt := fun z => c_466 (Int32.toInt_inj.mp z)
                        have z_6 := Int32.le_iff_toInt_le.mp c_467
                        have z_7 : ¬ (r_478 : Int32).toInt = (0 : Int32).toInt := fun z => c_483 (Int32.toInt_inj.mp z)
                        have z_8 : ¬ (r_31 : Int32).toInt = (60 : Int32).toInt := fun z => c_484 (Int32.toInt_inj.mp z)
                        have z_9 : ¬ (r_31 : Int32).toInt = (61 : Int32).toInt := fun z => c_485 (Int32.toInt_inj.mp z)
                        have z_10 := congrArg Int32.toInt c_508
                        have y_0 : (0 : Int32).toInt = 0 := by decide
                        have y_60 : (60 : Int32).toInt = 60 := by decide
                        have y_61 : (61 : Int32).toInt = 61 := by decide
                        have y_62 : (62 : Int32).toInt = 62 := by decide
                        have y_1 : (1 : Int32).toInt = 1 := by decide
                        have t_x_465 : x_465.toInt = (sv_26 : Int32).toInt + (1 : Int32).toInt := by rw [ex_465]; exact add_toInt (by omega) (by omega)
                        omega
                      have hr_537 : (400 * ((Mv 5) : Int32).toInt + ((Mf 3) (Mv 5).toNatClampNeg).toInt) ≤ (400 * ((Mv 5) : Int32).toInt + ((Mf 3) (Mv 5).toNatClampNeg).toInt) := by
                        have z_1 : ¬ (r_13 : Int32).toInt = (0 : Int32).toInt := fun z => c_18 (Int32.toInt_inj.mp z)
                        have z_2 : ¬ (r_31 : Int32).toInt = (60 : Int32).toInt := fun z => c_34 (Int32.toInt_inj.mp z)
                        have z_3 : ¬ (r_31 : Int32).toInt = (61 : Int32).toInt := fun z => c_378 (Int32.toInt_inj.mp z)
                        have z_4 := congrArg Int32.toInt c_464
                        have z_5 : ¬ (r_31 : Int32).toInt = (61 : Int32).toInt := fun z => c_466 (Int32.toInt_inj.mp z)
                        have z_6 := Int32.le_iff_toInt_le.mp c_467
                        have z_7 : ¬ (r_478 : Int32).toInt = (0 : Int32).toInt := fun z => c_483 (Int32.toInt_inj.mp z)
                        have z_8 : ¬ (r_31 : Int32).toInt = (60 : Int32).toInt := fun z => c_484 (Int32.toInt_inj.mp z)
                        have z_9 : ¬ (r_31 : Int32).toInt = (61 : Int32).toInt := fun z => c_485 (Int32.toInt_inj.mp z)
                        have z_10 := congrArg Int32.toInt c_508
                        have y_0 : (0 : Int32).toInt = 0 := by decide
                        have y_60 : (60 : Int32).toInt = 60 := by decide
                        have y_61 : (61 : Int32).toInt = 61 := by decide
                        have y_62 : (62 : Int32).toInt = 62 := by decide
                        have y_1 : (1 : Int32).toInt = 1 := by decide
                        have t_x_465 : x_465.toInt = (sv_26 : Int32).toInt + (1 : Int32).toInt := by rw [ex_465]; exact add_toInt (by omega) (by omega)
                        omega
                      have hr_538 : (400 * ((Mv 5) : Int32).toInt + ((Mf 3) (Mv 5).toNatClampNeg).toInt) ≤ (400 * ((Mv 5) : Int32).toInt + (sv_9 (Mv 5).toNatClampNeg).toInt) := by
                        have z_1 : ¬ (r_13 : Int32).toInt = (0 : Int32).toInt := fun z => c_18 (Int32.toInt_inj.mp z)
                        have z_2 : ¬ (r_31 : Int32).toInt = (60 : Int32).toInt := fun z => c_34 (Int32.toInt_inj.mp z)
                        have z_3 : ¬ (r_31 : Int32).toInt = (61 : Int32).toInt := fun z => c_378 (Int32.toInt_inj.mp z)
                        have z_4 := congrArg Int32.toInt c_464
                        have z_5 : ¬ (r_31 : Int32).toInt = (61 : Int32).toInt := fun z => c_466 (Int32.toInt_inj.mp z)
                        have z_6 := Int32.le_iff_toInt_le.mp c_467
                        have z_7 : ¬ (r_478 : Int32).toInt = (0 : Int32).toInt := fun z => c_483 (Int32.toInt_inj.mp z)
                        have z_8 : ¬ (r_31 : Int32).toInt = (60 : Int32).toInt := fun z => c_484 (Int32.toInt_inj.mp z)
                        have z_9 : ¬ (r_31 : Int32).toInt = (61 : Int32).toInt := fun z => c_485 (Int32.toInt_inj.mp z)
                        have z_10 := congrArg Int32.toInt c_508
                        have y_0 : (0 : Int32).toInt = 0 := by decide
                        have y_60 : (60 : Int32).toInt = 60 := by decide
                        have y_61 : (61 : Int32).toInt = 61 := by decide
                        have y_62 : (62 : Int32).toInt = 62 := by decide
                        have y_1 : (1 : Int32).toInt = 1 := by decide
                        have t_x_465 : x_465.toInt = (sv_26 : Int32).toInt + (1 : Int32).toInt := by rw [ex_465]; exact add_toInt (by omega) (by omega)
                        omega
                      have hp_539 : (((0 : Int32).toInt = 0 ∧ ¬ (sv_495 : Int32).toInt = 0) ∨ ((0 : Int32).toInt = 1 ∧ ((Mf 3) (Mv 5).toNatClampNeg).toInt + 1 ≤ (sv_499 (Mv 5).toNatClampNeg).toInt ∧ (sv_499 (Mv 5).toNatClampNeg).toInt + ((Mv 2) : Int32).toInt ≤ ((Mf 3) (Mv 5).toNatClampNeg).toInt + (sv_494 : Int32).toInt ∧ ((Mv 2) : Int32).toInt + 1 ≤ (sv_494 : Int32).toInt)) := by
                        have z_1 : ¬ (r_13 : Int32).toInt = (0 : Int32).toInt := fun z => c_18 (Int32.toInt_inj.mp z)
                        have z_2 : ¬ (r_31 : Int32).toInt = (60 : Int32).toInt := fun z => c_34 (Int32.toInt_inj.mp z)
                        have z_3 : ¬ (r_31 : Int32).toInt = (61 : Int32).toInt := fun z => c_378 (Int32.toInt_inj.mp z)
                        have z_4 := congrArg Int32.toInt c_464
                        have z_5 : ¬ (r_31 : Int32).toInt = (61 : Int32).toInt := fun z => c_466 (Int32.toInt_inj.mp z)
                        have z_6 := Int32.le_iff_toInt_le.mp c_467
                        have z_7 : ¬ (r_478 : Int32).toInt = (0 : Int32).toInt := fun z => c_483 (Int32.toInt_inj.mp z)
                        have z_8 : ¬ (r_31 : Int32).toInt = (60 : Int32).toInt := fun z => c_484 (Int32.toInt_inj.mp z)
                        have z_9 : ¬ (r_31 : Int32).toInt = (61 : Int32).toInt := fun z => c_485 (Int32.toInt_inj.mp z)
                        have z_10 := congrArg Int32.toInt c_508
                        have y_0 : (0 : Int32).toInt = 0 := by decide
                        have y_60 : (60 : Int32).toInt = 60 := by decide
                        have y_61 : (61 : Int32).toInt = 61 := by decide
                        have y_62 : (62 : Int32).toInt = 62 := by decide
                        have y_1 : (1 : Int32).toInt = 1 := by decide
                        have t_x_465 : x_465.toInt = (sv_26 : Int32).toInt + (1 : Int32).toInt := by rw [ex_465]; exact add_toInt (by omega) (by omega)
                        omega
                      have hm_540 : (0 : Int32).toInt = 0 → (RfE (pz_com (rB (Mf 1) (Mv 0)) (St0 (rB (Mf 1) (Mv 0)) (Mv 2) (Mv 6))) sv_495) := by
                        intro h1r
                        have hr_541 : (rB (Mf 1) (Mv 0) (sv_26 : Int32).toInt.toNat = 60 ∨ rB (Mf 1) (Mv 0) (sv_26 : Int32).toInt.toNat = 61 ∨ rB (Mf 1) (Mv 0) (sv_26 : Int32).toInt.toNat = 62) := by
                          have z_1 : ¬ (r_13 : Int32).toInt = (0 : Int32).toInt := fun z => c_18 (Int32.toInt_inj.mp z)
                          have z_2 : ¬ (r_31 : Int32).toInt = (60 : Int32).toInt := fun z => c_34 (Int32.toInt_inj.mp z)
                          have z_3 : ¬ (r_31 : Int32).toInt = (61 : Int32).toInt := fun z => c_378 (Int32.toInt_inj.mp z)
                          have z_4 := congrArg Int32.toInt c_464
                          have z_5 : ¬ (r_31 : Int32).toInt = (61 : Int32).toInt := fun z => c_466 (Int32.toInt_inj.mp z)
                          have z_6 := Int32.le_iff_toInt_le.mp c_467
                          have z_7 : ¬ (r_478 : Int32).toInt = (0 : Int32).toInt := fun z => c_483 (Int32.toInt_inj.mp z)
                          have z_8 : ¬ (r_31 : Int32).toInt = (60 : Int32).toInt := fun z => c_484 (Int32.toInt_inj.mp z)
                          have z_9 : ¬ (r_31 : Int32).toInt = (61 : Int32).toInt := fun z => c_485 (Int32.toInt_inj.mp z)
                          have z_10 := congrArg Int32.toInt c_508
                          have y_0 : (0 : Int32).toInt = 0 := by decide
                          have y_60 : (60 : Int32).toInt = 60 := by decide
                          have y_61 : (61 : Int32).toInt = 61 := by decide
                          have y_62 : (62 : Int32).toInt = 62 := by decide
                          have y_1 : (1 : Int32).toInt = 1 := by decide
                          have t_x_465 : x_465.toInt = (sv_26 : Int32).toInt + (1 : Int32).toInt := by rw [ex_465]; exact add_toInt (by omega) (by omega)
                          omega
                        have rg_542 := rB_rg (n := (Mv 0)) h_bs ((sv_26 : Int32).toInt.toNat + 1)
                        have hr_543 : ((x_465 : Int32).toInt = (sv_26 : Int32).toInt + 1 ∧ ¬ ((rB (Mf 1) (Mv 0) (sv_26 : Int32).toInt.toNat = 60 ∨ rB (Mf 1) (Mv 0) (sv_26 : Int32).toInt.toNat = 62) ∧ rB (Mf 1) (Mv 0) ((sv_26 : Int32).toInt.toNat + 1) = 61)) ∨ ((x_465 : Int32).toInt = (sv_26 : Int32).toInt + 2 ∧ (rB (Mf 1) (Mv 0) (sv_26 : Int32).toInt.toNat = 60 ∨ rB (Mf 1) (Mv 0) (sv_26 : Int32).toInt.toNat = 62) ∧ rB (Mf 1) (Mv 0) ((sv_26 : Int32).toInt.toNat + 1) = 61) := by
                          have z_1 : ¬ (r_13 : Int32).toInt = (0 : Int32).toInt := fun z => c_18 (Int32.toInt_inj.mp z)
                          have z_2 : ¬ (r_31 : Int32).toInt = (60 : Int32).toInt := fun z => c_34 (Int32.toInt_inj.mp z)
                          have z_3 : ¬ (r_31 : Int32).toInt = (61 : Int32).toInt := fun z => c_378 (Int32.toInt_inj.mp z)
                          have z_4 := congrArg Int32.toInt c_464
                          have z_5 : ¬ (r_31 : Int32).toInt = (61 : Int32).toInt := fun z => c_466 (Int32.toInt_inj.mp z)
                          have z_6 := Int32.le_iff_toInt_le.mp c_467
                          have z_7 : ¬ (r_478 : Int32).toInt = (0 : Int32).toInt := fun z => c_483 (Int32.toInt_inj.mp z)
                          have z_8 : ¬ (r_31 : Int32).toInt = (60 : Int32).toInt := fun z => c_484 (Int32.toInt_inj.mp z)
                          have z_9 : ¬ (r_31 : Int32).toInt = (61 : Int32).toInt := fun z => c_485 (Int32.toInt_inj.mp z)
                          have z_10 := congrArg Int32.toInt c_508
                          have y_0 : (0 : Int32).toInt = 0 := by decide
                          have y_60 : (60 : Int32).toInt = 60 := by decide
                          have y_61 : (61 : Int32).toInt = 61 := by decide
                          have y_62 : (62 : Int32).toInt = 62 := by decide
                          have y_1 : (1 : Int32).toInt = 1 := by decide
                          have t_x_465 : x_465.toInt = (sv_26 : Int32).toInt + (1 : Int32).toInt := by rw [ex_465]; exact add_toInt (by omega) (by omega)
                          omega
                        have hr_544 : 0 ≤ (sv_7 : Int32).toInt ∧ (sv_7 : Int32).toInt < 60 ∧ (sv_476 : Int32).toInt = (sv_7 : Int32).toInt + 1 := by
                          have z_1 : ¬ (r_13 : Int32).toInt = (0 : Int32).toInt := fun z => c_18 (Int32.toInt_inj.mp z)
                          have z_2 : ¬ (r_31 : Int32).toInt = (60 : Int32).toInt := fun z => c_34 (Int32.toInt_inj.mp z)
                          have z_3 : ¬ (r_31 : Int32).toInt = (61 : Int32).toInt := fun z => c_378 (Int32.toInt_inj.mp z)
                          have z_4 := congrArg Int32.toInt c_464
                          have z_5 : ¬ (r_31 : Int32).toInt = (61 : Int32).toInt := fun z => c_466 (Int32.toInt_inj.mp z)
                          have z_6 := Int32.le_iff_toInt_le.mp c_467
                          have z_7 : ¬ (r_478 : Int32).toInt = (0 : Int32).toInt := fun z => c_483 (Int32.toInt_inj.mp z)
                          have z_8 : ¬ (r_31 : Int32).toInt = (60 : Int32).toInt := fun z => c_484 (Int32.toInt_inj.mp z)
                          have z_9 : ¬ (r_31 : Int32).toInt = (61 : Int32).toInt := fun z => c_485 (Int32.toInt_inj.mp z)
                          have z_10 := congrArg Int32.toInt c_508
                          have y_0 : (0 : Int32).toInt = 0 := by decide
                          have y_60 : (60 : Int32).toInt = 60 := by decide
                          have y_61 : (61 : Int32).toInt = 61 := by decide
                          have y_62 : (62 : Int32).toInt = 62 := by decide
                          have y_1 : (1 : Int32).toInt = 1 := by decide
                          have t_x_465 : x_465.toInt = (sv_26 : Int32).toInt + (1 : Int32).toInt := by rw [ex_465]; exact add_toInt (by omega) (by omega)
                          omega
                        exact (RfE.com2 pf_20 pf_30 hr_541 hr_543 hr_544 pf_533)
                      exact retI (v := 0) hx hb hr hlk (rfl) hP hD hS (sv_494, sv_495, sv_496, sv_497, sv_498, sv_499) ⟨_, rfl, hp_539, ha_535, ha_536, (Agr.trans (k' := (400 * ((Mv 5) : Int32).toInt + ((Mf 3) (Mv 5).toNatClampNeg).toInt)) (Agr.mono pf_12 hr_537) pf_502 ⟨Int.le_refl _, hr_538⟩), (fun h => absurd h (by decide)), hm_540⟩ [0, 1, 2, 3] rfl rfl dX12_compare_162 (Nat.le_of_ble_eq_true rfl) (Nat.le_of_ble_eq_true rfl) rfl
                  · skip
                    exfalso
                    have z_1 : ¬ (r_13 : Int32).toInt = (0 : Int32).toInt := fun z => c_18 (Int32.toInt_inj.mp z)
                    have z_2 : ¬ (r_31 : Int32).toInt = (60 : Int32).toInt := fun z => c_34 (Int32.toInt_inj.mp z)
                    have z_3 : ¬ (r_31 : Int32).toInt = (61 : Int32).toInt := fun z => c_378 (Int32.toInt_inj.mp z)
                    have z_4 := congrArg Int32.toInt c_464
                    have z_5 : ¬ (r_31 : Int32).toInt = (61 : Int32).toInt := fun z => c_466 (Int32.toInt_inj.mp z)
                    have z_6 := Int32.le_iff_toInt_le.mp c_467
                    have z_7 : ¬ (r_478 : Int32).toInt = (0 : Int32).toInt := fun z => c_483 (Int32.toInt_inj.mp z)
                    have z_8 : ¬ (r_31 : Int32).toInt = (60 : Int32).toInt := fun z => c_484 (Int32.toInt_inj.mp z)
                    have z_9 := congrArg Int32.toInt c_485
                    have y_0 : (0 : Int32).toInt = 0 := by decide
                    have y_60 : (60 : Int32).toInt = 60 := by decide
                    have y_61 : (61 : Int32).toInt = 61 := by decide
                    have y_62 : (62 : Int32).toInt = 62 := by decide
                    have y_1 : (1 : Int32).toInt = 1 := by decide
                    have t_x_465 : x_465.toInt = (sv_26 : Int32).toInt + (1 : Int32).toInt := by rw [ex_465]; exact add_toInt (by omega) (by omega)
                    omega
                · skip
                  exfalso
                  have z_1 : ¬ (r_13 : Int32).toInt = (0 : Int32).toInt := fun z => c_18 (Int32.toInt_inj.mp z)
                  have z_2 : ¬ (r_31 : Int32).toInt = (60 : Int32).toInt := fun z => c_34 (Int32.toInt_inj.mp z)
                  have z_3 : ¬ (r_31 : Int32).toInt = (61 : Int32).toInt := fun z => c_378 (Int32.toInt_inj.mp z)
                  have z_4 := congrArg Int32.toInt c_464
                  have z_5 : ¬ (r_31 : Int32).toInt = (61 : Int32).toInt := fun z => c_466 (Int32.toInt_inj.mp z)
                  have z_6 := Int32.le_iff_toInt_le.mp c_467
                  have z_7 : ¬ (r_478 : Int32).toInt = (0 : Int32).toInt := fun z => c_483 (Int32.toInt_inj.mp z)
                  have z_8 := congrArg Int32.toInt c_484
                  have y_0 : (0 : Int32).toInt = 0 := by decide
                  have y_60 : (60 : Int32).toInt = 60 := by decide
                  have y_61 : (61 : Int32).toInt = 61 := by decide
                  have y_62 : (62 : Int32).toInt = 62 := by decide
                  have y_1 : (1 : Int32).toInt = 1 := by decide
                  have t_x_465 : x_465.toInt = (sv_26 : Int32).toInt + (1 : Int32).toInt := by rw [ex_465]; exact add_toInt (by omega) (by omega)
                  omega
              · skip
                refine lv_iconst (v := 0) hx hb dX12_compare_113 (by decide) ?_
                have ha_545 : ((Mv 2) : Int32).toInt ≤ (x_465 : Int32).toInt ∧ (x_465 : Int32).toInt ≤ ((Mv 0) : Int32).toInt := by
                  have z_1 : ¬ (r_13 : Int32).toInt = (0 : Int32).toInt := fun z => c_18 (Int32.toInt_inj.mp z)
                  have z_2 : ¬ (r_31 : Int32).toInt = (60 : Int32).toInt := fun z => c_34 (Int32.toInt_inj.mp z)
                  have z_3 : ¬ (r_31 : Int32).toInt = (61 : Int32).toInt := fun z => c_378 (Int32.toInt_inj.mp z)
                  have z_4 := congrArg Int32.toInt c_464
                  have z_5 : ¬ (r_31 : Int32).toInt = (61 : Int32).toInt := fun z => c_466 (Int32.toInt_inj.mp z)
                  have z_6 := Int32.le_iff_toInt_le.mp c_467
                  have z_7 := congrArg Int32.toInt c_483
                  have y_0 : (0 : Int32).toInt = 0 := by decide
                  have y_60 : (60 : Int32).toInt = 60 := by decide
                  have y_61 : (61 : Int32).toInt = 61 := by decide
                  have y_62 : (62 : Int32).toInt = 62 := by decide
                  have y_1 : (1 : Int32).toInt = 1 := by decide
                  have t_x_465 : x_465.toInt = (sv_26 : Int32).toInt + (1 : Int32).toInt := by rw [ex_465]; exact add_toInt (by omega) (by omega)
                  omega
                have ha_546 : ((Mv 6) : Int32).toInt ≤ (sv_476 : Int32).toInt ∧ (sv_476 : Int32).toInt ≤ 60 := by
                  have z_1 : ¬ (r_13 : Int32).toInt = (0 : Int32).toInt := fun z => c_18 (Int32.toInt_inj.mp z)
                  have z_2 : ¬ (r_31 : Int32).toInt = (60 : Int32).toInt := fun z => c_34 (Int32.toInt_inj.mp z)
                  have z_3 : ¬ (r_31 : Int32).toInt = (61 : Int32).toInt := fun z => c_378 (Int32.toInt_inj.mp z)
                  have z_4 := congrArg Int32.toInt c_464
                  have z_5 : ¬ (r_31 : Int32).toInt = (61 : Int32).toInt := fun z => c_466 (Int32.toInt_inj.mp z)
                  have z_6 := Int32.le_iff_toInt_le.mp c_467
                  have z_7 := congrArg Int32.toInt c_483
                  have y_0 : (0 : Int32).toInt = 0 := by decide
                  have y_60 : (60 : Int32).toInt = 60 := by decide
                  have y_61 : (61 : Int32).toInt = 61 := by decide
                  have y_62 : (62 : Int32).toInt = 62 := by decide
                  have y_1 : (1 : Int32).toInt = 1 := by decide
                  have t_x_465 : x_465.toInt = (sv_26 : Int32).toInt + (1 : Int32).toInt := by rw [ex_465]; exact add_toInt (by omega) (by omega)
                  omega
                have hp_547 : (((0 : Int32).toInt = 0 ∧ ¬ (sv_475 : Int32).toInt = 0) ∨ ((0 : Int32).toInt = 1 ∧ ((Mf 3) (Mv 5).toNatClampNeg).toInt + 1 ≤ (sv_9 (Mv 5).toNatClampNeg).toInt ∧ (sv_9 (Mv 5).toNatClampNeg).toInt + ((Mv 2) : Int32).toInt ≤ ((Mf 3) (Mv 5).toNatClampNeg).toInt + (x_465 : Int32).toInt ∧ ((Mv 2) : Int32).toInt + 1 ≤ (x_465 : Int32).toInt)) := by
                  have z_1 : ¬ (r_13 : Int32).toInt = (0 : Int32).toInt := fun z => c_18 (Int32.toInt_inj.mp z)
                  have z_2 : ¬ (r_31 : Int32).toInt = (60 : Int32).toInt := fun z => c_34 (Int32.toInt_inj.mp z)
                  have z_3 : ¬ (r_31 : Int32).toInt = (61 : Int32).toInt := fun z => c_378 (Int32.toInt_inj.mp z)
                  have z_4 := congrArg Int32.toInt c_464
                  have z_5 : ¬ (r_31 : Int32).toInt = (61 : Int32).toInt := fun z => c_466 (Int32.toInt_inj.mp z)
                  have z_6 := Int32.le_iff_toInt_le.mp c_467
                  have z_7 := congrArg Int32.toInt c_483
                  have y_0 : (0 : Int32).toInt = 0 := by decide
                  have y_60 : (60 : Int32).toInt = 60 := by decide
                  have y_61 : (61 : Int32).toInt = 61 := by decide
                  have y_62 : (62 : Int32).toInt = 62 := by decide
                  have y_1 : (1 : Int32).toInt = 1 := by decide
                  have t_x_465 : x_465.toInt = (sv_26 : Int32).toInt + (1 : Int32).toInt := by rw [ex_465]; exact add_toInt (by omega) (by omega)
                  omega
                have hm_548 : (0 : Int32).toInt = 0 → (RfE (pz_com (rB (Mf 1) (Mv 0)) (St0 (rB (Mf 1) (Mv 0)) (Mv 2) (Mv 6))) sv_475) := by
                  intro h1r
                  have hr_549 : (rB (Mf 1) (Mv 0) (sv_26 : Int32).toInt.toNat = 60 ∨ rB (Mf 1) (Mv 0) (sv_26 : Int32).toInt.toNat = 61 ∨ rB (Mf 1) (Mv 0) (sv_26 : Int32).toInt.toNat = 62) := by
                    have z_1 : ¬ (r_13 : Int32).toInt = (0 : Int32).toInt := fun z => c_18 (Int32.toInt_inj.mp z)
                    have z_2 : ¬ (r_31 : Int32).toInt = (60 : Int32).toInt := fun z => c_34 (Int32.toInt_inj.mp z)
                    have z_3 : ¬ (r_31 : Int32).toInt = (61 : Int32).toInt := fun z => c_378 (Int32.toInt_inj.mp z)
                    have z_4 := congrArg Int32.toInt c_464
                    have z_5 : ¬ (r_31 : Int32).toInt = (61 : Int32).toInt := fun z => c_466 (Int32.toInt_inj.mp z)
                    have z_6 := Int32.le_iff_toInt_le.mp c_467
                    have z_7 := congrArg Int32.toInt c_483
                    have y_0 : (0 : Int32).toInt = 0 := by decide
                    have y_60 : (60 : Int32).toInt = 60 := by decide
                    have y_61 : (61 : Int32).toInt = 61 := by decide
                    have y_62 : (62 : Int32).toInt = 62 := by decide
                    have y_1 : (1 : Int32).toInt = 1 := by decide
                    have t_x_465 : x_465.toInt = (sv_26 : Int32).toInt + (1 : Int32).toInt := by rw [ex_465]; exact add_toInt (by omega) (by omega)
                    omega
                  have hr_550 : 60 ≤ (sv_7 : Int32).toInt := by
                    have z_1 : ¬ (r_13 : Int32).toInt = (0 : Int32).toInt := fun z => c_18 (Int32.toInt_inj.mp z)
                    have z_2 : ¬ (r_31 : Int32).toInt = (60 : Int32).toInt := fun z => c_34 (Int32.toInt_inj.mp z)
                    have z_3 : ¬ (r_31 : Int32).toInt = (61 : Int32).toInt := fun z => c_378 (Int32.toInt_inj.mp z)
                    have z_4 := congrArg Int32.toInt c_464
                    have z_5 : ¬ (r_31 : Int32).toInt = (61 : Int32).toInt := fun z => c_466 (Int32.toInt_inj.mp z)
                    have z_6 := Int32.le_iff_toInt_le.mp c_467
                    have z_7 := congrArg Int32.toInt c_483
                    have y_0 : (0 : Int32).toInt = 0 := by decide
                    have y_60 : (60 : Int32).toInt = 60 := by decide
                    have y_61 : (61 : Int32).toInt = 61 := by decide
                    have y_62 : (62 : Int32).toInt = 62 := by decide
                    have y_1 : (1 : Int32).toInt = 1 := by decide
                    have t_x_465 : x_465.toInt = (sv_26 : Int32).toInt + (1 : Int32).toInt := by rw [ex_465]; exact add_toInt (by omega) (by omega)
                    omega
                  have hi_551 : (sv_475 : Int32).toInt = 1 + 8 * (sv_26 : Int32).toInt + 3 := by
                    have z_1 : ¬ (r_13 : Int32).toInt = (0 : Int32).toInt := fun z => c_18 (Int32.toInt_inj.mp z)
                    have z_2 : ¬ (r_31 : Int32).toInt = (60 : Int32).toInt := fun z => c_34 (Int32.toInt_inj.mp z)
                    have z_3 : ¬ (r_31 : Int32).toInt = (61 : Int32).toInt := fun z => c_378 (Int32.toInt_inj.mp z)
                    have z_4 := congrArg Int32.toInt c_464
                    have z_5 : ¬ (r_31 : Int32).toInt = (61 : Int32).toInt := fun z => c_466 (Int32.toInt_inj.mp z)
                    have z_6 := Int32.le_iff_toInt_le.mp c_467
                    have z_7 := congrArg Int32.toInt c_483
                    have y_0 : (0 : Int32).toInt = 0 := by decide
                    have y_60 : (60 : Int32).toInt = 60 := by decide
                    have y_61 : (61 : Int32).toInt = 61 := by decide
                    have y_62 : (62 : Int32).toInt = 62 := by decide
                    have y_1 : (1 : Int32).toInt = 1 := by decide
                    have t_x_465 : x_465.toInt = (sv_26 : Int32).toInt + (1 : Int32).toInt := by rw [ex_465]; exact add_toInt (by omega) (by omega)
                    omega
                  exact (RfE.com3 pf_20 pf_30 hr_549 hr_550 hi_551)
                exact retI (v := 0) hx hb hr hlk (rfl) hP hD hS (x_465, sv_475, sv_6, sv_476, sv_8, sv_9) ⟨_, rfl, hp_547, ha_545, ha_546, pf_12, (fun h => absurd h (by decide)), hm_548⟩ [3, 2, 0, 1] rfl rfl dX12_compare_114 (Nat.le_of_ble_eq_true rfl) (Nat.le_of_ble_eq_true rfl) rfl
            · skip
              refine lv_aload_n hx hb dX12_compare_71 rfl (lv_at hl 2 rfl) ?_
              refine gf_X12_7 hx hb hts hown hK hP 2 rfl rfl dX12_compare_72 ?_
              refine lv_aload_n hx hb dX12_compare_75 rfl (lv_at hl 2 rfl) ?_
              refine gf_X12_87 hx hb hts hown hK hP 2 rfl rfl dX12_compare_76 ?_
              have hi_552 : vp_in x_465 400 := by
                have z_1 : ¬ (r_13 : Int32).toInt = (0 : Int32).toInt := fun z => c_18 (Int32.toInt_inj.mp z)
                have z_2 : ¬ (r_31 : Int32).toInt = (60 : Int32).toInt := fun z => c_34 (Int32.toInt_inj.mp z)
                have z_3 : ¬ (r_31 : Int32).toInt = (61 : Int32).toInt := fun z => c_378 (Int32.toInt_inj.mp z)
                have z_4 := congrArg Int32.toInt c_464
                have z_5 : ¬ (r_31 : Int32).toInt = (61 : Int32).toInt := fun z => c_466 (Int32.toInt_inj.mp z)
                have z_6 := Int32.lt_iff_toInt_lt.mp (Int32.not_le.mp c_467)
                have y_0 : (0 : Int32).toInt = 0 := by decide
                have y_60 : (60 : Int32).toInt = 60 := by decide
                have y_61 : (61 : Int32).toInt = 61 := by decide
                have y_62 : (62 : Int32).toInt = 62 := by decide
                have y_1 : (1 : Int32).toInt = 1 := by decide
                have t_x_465 : x_465.toInt = (sv_26 : Int32).toInt + (1 : Int32).toInt := by rw [ex_465]; exact add_toInt (by omega) (by omega)
                refine vp_in_iff.mpr ⟨?_, ?_⟩ <;> omega
              refine va_bald hx hb hK hP 3 2 rfl rfl hi_552 dX12_compare_79 ?_
              refine lv_topi (fun x_553 ex_553 => ?_)
              have kx_553 : x_553.toInt = ((Mf 1) (x_465 : Int32).toInt.toNat).toInt := congrArg Int32.toInt ex_553
              have kcx_553 : x_553.toInt = ((Mf 1) (x_465 : Int32).toNatClampNeg).toInt := congrArg Int32.toInt ex_553
              refine lv_bipush (v := 61) hx hb dX12_compare_80 (by decide) ?_
              refine lv_icmp_ne (tgt := 89) hx hb dX12_compare_82 (by decide) (fun c_554 => ?_) (fun c_554 => ?_)
              · skip
                refine lv_iconst (v := 0) hx hb dX12_compare_89 (by decide) ?_
                refine lv_istore_n (lv' := [(3, .int 0), (2, .int sv_26), (1, .int r_31), (0, .ref (Ma 0))]) hx hb dX12_compare_90 rfl hl (by decide) rfl (fun ls hl₀ => ?_)
                replace hl := hl₀
                clear hl₀
                refine lv_iload_n hx hb dX12_compare_91 rfl (lv_at hl 0 rfl) ?_
                refine lv_if_eq (tgt := 105) hx hb dX12_compare_92 (by decide) (fun c_555 => ?_) (fun c_555 => absurd c_555 (by decide))
                refine lv_aload_n hx hb dX12_compare_105 rfl (lv_at hl 3 rfl) ?_
                refine lv_iload_n hx hb dX12_compare_106 rfl (lv_at hl 1 rfl) ?_
                have ha_556 : 0 ≤ sv_26.toInt ∧ sv_26.toInt ≤ 400 := by
                  have z_1 : ¬ (r_13 : Int32).toInt = (0 : Int32).toInt := fun z => c_18 (Int32.toInt_inj.mp z)
                  have z_2 : ¬ (r_31 : Int32).toInt = (60 : Int32).toInt := fun z => c_34 (Int32.toInt_inj.mp z)
                  have z_3 : ¬ (r_31 : Int32).toInt = (61 : Int32).toInt := fun z => c_378 (Int32.toInt_inj.mp z)
                  have z_4 := congrArg Int32.toInt c_464
                  have z_5 : ¬ (r_31 : Int32).toInt = (61 : Int32).toInt := fun z => c_466 (Int32.toInt_inj.mp z)
                  have z_6 := Int32.lt_iff_toInt_lt.mp (Int32.not_le.mp c_467)
                  have z_7 : ¬ (x_553 : Int32).toInt = (61 : Int32).toInt := fun z => c_554 (Int32.toInt_inj.mp z)
                  have y_0 : (0 : Int32).toInt = 0 := by decide
                  have y_60 : (60 : Int32).toInt = 60 := by decide
                  have y_61 : (61 : Int32).toInt = 61 := by decide
                  have y_62 : (62 : Int32).toInt = 62 := by decide
                  have y_1 : (1 : Int32).toInt = 1 := by decide
                  have t_x_465 : x_465.toInt = (sv_26 : Int32).toInt + (1 : Int32).toInt := by rw [ex_465]; exact add_toInt (by omega) (by omega)
                  omega
                have ha_557 : 0 ≤ (sv_7 : Int32).toInt ∧ (sv_7 : Int32).toInt ≤ 60 := by
                  have z_1 : ¬ (r_13 : Int32).toInt = (0 : Int32).toInt := fun z => c_18 (Int32.toInt_inj.mp z)
                  have z_2 : ¬ (r_31 : Int32).toInt = (60 : Int32).toInt := fun z => c_34 (Int32.toInt_inj.mp z)
                  have z_3 : ¬ (r_31 : Int32).toInt = (61 : Int32).toInt := fun z => c_378 (Int32.toInt_inj.mp z)
                  have z_4 := congrArg Int32.toInt c_464
                  have z_5 : ¬ (r_31 : Int32).toInt = (61 : Int32).toInt := fun z => c_466 (Int32.toInt_inj.mp z)
                  have z_6 := Int32.lt_iff_toInt_lt.mp (Int32.not_le.mp c_467)
                  have z_7 : ¬ (x_553 : Int32).toInt = (61 : Int32).toInt := fun z => c_554 (Int32.toInt_inj.mp z)
                  have y_0 : (0 : Int32).toInt = 0 := by decide
                  have y_60 : (60 : Int32).toInt = 60 := by decide
                  have y_61 : (61 : Int32).toInt = 61 := by decide
                  have y_62 : (62 : Int32).toInt = 62 := by decide
                  have y_1 : (1 : Int32).toInt = 1 := by decide
                  have t_x_465 : x_465.toInt = (sv_26 : Int32).toInt + (1 : Int32).toInt := by rw [ex_465]; exact add_toInt (by omega) (by omega)
                  omega
                have ha_558 : (sv_5 : Int32).toInt = 0 := by
                  have z_1 : ¬ (r_13 : Int32).toInt = (0 : Int32).toInt := fun z => c_18 (Int32.toInt_inj.mp z)
                  have z_2 : ¬ (r_31 : Int32).toInt = (60 : Int32).toInt := fun z => c_34 (Int32.toInt_inj.mp z)
                  have z_3 : ¬ (r_31 : Int32).toInt = (61 : Int32).toInt := fun z => c_378 (Int32.toInt_inj.mp z)
                  have z_4 := congrArg Int32.toInt c_464
                  have z_5 : ¬ (r_31 : Int32).toInt = (61 : Int32).toInt := fun z => c_466 (Int32.toInt_inj.mp z)
                  have z_6 := Int32.lt_iff_toInt_lt.mp (Int32.not_le.mp c_467)
                  have z_7 : ¬ (x_553 : Int32).toInt = (61 : Int32).toInt := fun z => c_554 (Int32.toInt_inj.mp z)
                  have y_0 : (0 : Int32).toInt = 0 := by decide
                  have y_60 : (60 : Int32).toInt = 60 := by decide
                  have y_61 : (61 : Int32).toInt = 61 := by decide
                  have y_62 : (62 : Int32).toInt = 62 := by decide
                  have y_1 : (1 : Int32).toInt = 1 := by decide
                  have t_x_465 : x_465.toInt = (sv_26 : Int32).toInt + (1 : Int32).toInt := by rw [ex_465]; exact add_toInt (by omega) (by omega)
                  omega
                refine cV (a := (Ma 0)) (As := [.int sv_26]) (rest := []) (wr := [((Ma 2), .inl (tc 0, 2400, .inl sv_8)), ((Ma 3), .inl (tc 0, 7, .inl sv_9)), ((Ma 1), .inl (tc 2, 400, .inl (Mf 1)))]) ⟨hx, hb, hml, hown, hts⟩ hK hX hA (cu_fX12_makes l D tc sk (Ma 0) (Ma 1) (Ma 2) (Ma 3) (Ma 4) (Ma 5) (Ma 6) (Ma 7) (Ma 8) (Ma 9) (Ma 10) (Ma 11) (Ma 12) (Ma 13) (Ma 14) (Ma 15) (Ma 16) (Ma 17) (Ma 18) (Ma 19) (Ma 20) (Mv 0) (Mv 1) x_465 sv_5 sv_6 (Mv 5) sv_7 (Mv 7) (Mv 8) (Mv 9) (Mv 10) (Mv 11) (Mv 12) (Mv 13) (Mv 14) (Mj 0) sv_26 ha_556 ha_557 ha_558) k_1292 k_1289 k_1291 k_45 k_106 pl_X12_makes ⟨Nat.le_of_ble_eq_true rfl, Nat.le_of_ble_eq_true rfl⟩ rfl rfl (va_recv hK hP (ci := 12) (q0 := 2) rfl rfl) hP hD hS [2] [0, 1, 3] rfl rfl rfl rfl rfl (by decide) rfl hl.1 rfl (Nat.le_of_ble_eq_true rfl) dX12_compare_107 ⟨Nat.le_of_ble_eq_true rfl, Nat.le_of_ble_eq_true rfl⟩ (fun v_559 u_560 H locs hv_561 hP₀ hD₀ hS₀ => ?_)
                obtain ⟨sv_562, sv_563⟩ := u_560
                obtain ⟨r_565, rfl, he_566, pf_564⟩ := hv_561
                have he_566 : ((r_565.toInt = 0 ∧ ¬ (sv_562 : Int32).toInt = 0 ∧ sv_7.toInt = 60 ∧ (sv_562 : Int32).toInt = 1 + 8 * sv_26.toInt + 3) ∨ (r_565.toInt = 1 ∧ (sv_563 : Int32).toInt = sv_7.toInt + 1 ∧ sv_7.toInt < 60 ∧ (sv_562 : Int32).toInt = 0)) := he_566
                have pf_564 : (sv_7 : Int32).toInt ≤ (sv_563 : Int32).toInt ∧ (sv_563 : Int32).toInt ≤ 60 := pf_564
                refine W.eq (g2 := F0 m 110 ls [.int r_565]) rfl ?_
                replace hP : va_P D classes [((Ma 2), .inl (tc 0, 2400, .inl sv_8)), ((Ma 3), .inl (tc 0, 7, .inl sv_9)), ((Ma 1), .inl (tc 2, 400, .inl (Mf 1))), ((Ma 0), .inr (12, [.ref (Ma 1), .int (Mv 0), .int (Mv 1), .ref (Ma 2), .ref (Ma 3), .ref (Ma 4), .ref (Ma 5), .ref (Ma 6), .int x_465, .int sv_562, .int sv_6, .int (Mv 5), .int sv_563, .int (Mv 7), .int (Mv 8), .ref (Ma 7), .int (Mv 9), .ref (Ma 8), .int (Mv 10), .ref (Ma 9), .ref (Ma 10), .int (Mv 11), .int (Mv 12), .int (Mv 13), .ref (Ma 11), .int (Mv 14), .ref (Ma 12), .ref (Ma 13), .ref (Ma 14), .ref (Ma 15), .ref (Ma 16), .long (Mj 0), .ref (Ma 17), .ref (Ma 18), .ref (Ma 19), .ref (Ma 20)]))] H := hP₀
                replace hD : va_D A [((Ma 2), .inl (tc 0, 2400, .inl sv_8)), ((Ma 3), .inl (tc 0, 7, .inl sv_9)), ((Ma 1), .inl (tc 2, 400, .inl (Mf 1))), ((Ma 0), .inr (12, [.ref (Ma 1), .int (Mv 0), .int (Mv 1), .ref (Ma 2), .ref (Ma 3), .ref (Ma 4), .ref (Ma 5), .ref (Ma 6), .int x_465, .int sv_562, .int sv_6, .int (Mv 5), .int sv_563, .int (Mv 7), .int (Mv 8), .ref (Ma 7), .int (Mv 9), .ref (Ma 8), .int (Mv 10), .ref (Ma 9), .ref (Ma 10), .int (Mv 11), .int (Mv 12), .int (Mv 13), .ref (Ma 11), .int (Mv 14), .ref (Ma 12), .ref (Ma 13), .ref (Ma 14), .ref (Ma 15), .ref (Ma 16), .long (Mj 0), .ref (Ma 17), .ref (Ma 18), .ref (Ma 19), .ref (Ma 20)]))] := hD₀
                replace hS := hS₀
                clear hP₀ hD₀ hS₀
                have hr_569 : (sv_7 : Int32).toInt ≤ (sv_563 : Int32).toInt ∧ (sv_563 : Int32).toInt ≤ 60 := by
                  have z_1 : ¬ (r_13 : Int32).toInt = (0 : Int32).toInt := fun z => c_18 (Int32.toInt_inj.mp z)
                  have z_2 : ¬ (r_31 : Int32).toInt = (60 : Int32).toInt := fun z => c_34 (Int32.toInt_inj.mp z)
                  have z_3 : ¬ (r_31 : Int32).toInt = (61 : Int32).toInt := fun z => c_378 (Int32.toInt_inj.mp z)
                  have z_4 := congrArg Int32.toInt c_464
                  have z_5 : ¬ (r_31 : Int32).toInt = (61 : Int32).toInt := fun z => c_466 (Int32.toInt_inj.mp z)
                  have z_6 := Int32.lt_iff_toInt_lt.mp (Int32.not_le.mp c_467)
                  have z_7 : ¬ (x_553 : Int32).toInt = (61 : Int32).toInt := fun z => c_554 (Int32.toInt_inj.mp z)
                  have y_0 : (0 : Int32).toInt = 0 := by decide
                  have y_60 : (60 : Int32).toInt = 60 := by decide
                  have y_61 : (61 : Int32).toInt = 61 := by decide
                  have y_62 : (62 : Int32).toInt = 62 := by decide
                  have y_1 : (1 : Int32).toInt = 1 := by decide
                  have t_x_465 : x_465.toInt = (sv_26 : Int32).toInt + (1 : Int32).toInt := by rw [ex_465]; exact add_toInt (by omega) (by omega)
                  omega
                have pf_568 : Cd sv_8 sv_9 (Mv 5) b sv_563 (d + 1) := Cd.mono pf_19 hr_569
                have ar_pf_568 := Cd.ar pf_568
                refine lv_if_ne (tgt := 115) hx hb dX12_compare_110 (by decide) (fun c_570 => ?_) (fun c_570 => ?_)
                · skip
                  refine lv_iload_n hx hb dX12_compare_115 rfl (lv_at hl 2 rfl) ?_
                  refine lv_bipush (v := 60) hx hb dX12_compare_116 (by decide) ?_
                  refine lv_icmp_ne (tgt := 133) hx hb dX12_compare_118 (by decide) (fun c_571 => ?_) (fun c_571 => ?_)
                  · skip
                    refine lv_iload_n hx hb dX12_compare_133 rfl (lv_at hl 2 rfl) ?_
                    refine lv_bipush (v := 61) hx hb dX12_compare_134 (by decide) ?_
                    refine lv_icmp_ne (tgt := 143) hx hb dX12_compare_136 (by decide) (fun c_572 => ?_) (fun c_572 => ?_)
                    · skip
                      refine lv_iload_n hx hb dX12_compare_143 rfl (lv_at hl 0 rfl) ?_
                      refine lv_if_eq (tgt := 151) hx hb dX12_compare_144 (by decide) (fun c_573 => ?_) (fun c_573 => absurd c_573 (by decide))
                      refine lv_iconst (v := 4) hx hb dX12_compare_151 (by decide) ?_
                      refine lv_istore (lv' := [(4, .int 4), (3, .int 0), (2, .int sv_26), (1, .int r_31), (0, .ref (Ma 0))]) hx hb dX12_compare_152 hl (by decide) rfl (fun ls hl₀ => ?_)
                      replace hl := hl₀
                      clear hl₀
                      refine lv_aload_n hx hb dX12_compare_154 rfl (lv_at hl 4 rfl) ?_
                      have ha_574 : 0 ≤ (x_465 : Int32).toInt ∧ (x_465 : Int32).toInt ≤ ((Mv 0) : Int32).toInt ∧ ((Mv 0) : Int32).toInt ≤ 400 := by
                        have z_1 : ¬ (r_13 : Int32).toInt = (0 : Int32).toInt := fun z => c_18 (Int32.toInt_inj.mp z)
                        have z_2 : ¬ (r_31 : Int32).toInt = (60 : Int32).toInt := fun z => c_34 (Int32.toInt_inj.mp z)
                        have z_3 : ¬ (r_31 : Int32).toInt = (61 : Int32).toInt := fun z => c_378 (Int32.toInt_inj.mp z)
                        have z_4 := congrArg Int32.toInt c_464
                        have z_5 : ¬ (r_31 : Int32).toInt = (61 : Int32).toInt := fun z => c_466 (Int32.toInt_inj.mp z)
                        have z_6 := Int32.lt_iff_toInt_lt.mp (Int32.not_le.mp c_467)
                        have z_7 : ¬ (x_553 : Int32).toInt = (61 : Int32).toInt := fun z => c_554 (Int32.toInt_inj.mp z)
                        have z_8 : ¬ (r_565 : Int32).toInt = (0 : Int32).toInt := fun z => c_570 (Int32.toInt_inj.mp z)
                        have z_9 : ¬ (r_31 : Int32).toInt = (60 : Int32).toInt := fun z => c_571 (Int32.toInt_inj.mp z)
                        have z_10 : ¬ (r_31 : Int32).toInt = (61 : Int32).toInt := fun z => c_572 (Int32.toInt_inj.mp z)
                        have y_0 : (0 : Int32).toInt = 0 := by decide
                        have y_60 : (60 : Int32).toInt = 60 := by decide
                        have y_61 : (61 : Int32).toInt = 61 := by decide
                        have y_62 : (62 : Int32).toInt = 62 := by decide
                        have y_1 : (1 : Int32).toInt = 1 := by decide
                        have t_x_465 : x_465.toInt = (sv_26 : Int32).toInt + (1 : Int32).toInt := by rw [ex_465]; exact add_toInt (by omega) (by omega)
                        omega
                      have ha_575 : (sv_9 (Mv 5).toNatClampNeg).toInt ≤ (x_465 : Int32).toInt := by
                        have z_1 : ¬ (r_13 : Int32).toInt = (0 : Int32).toInt := fun z => c_18 (Int32.toInt_inj.mp z)
                        have z_2 : ¬ (r_31 : Int32).toInt = (60 : Int32).toInt := fun z => c_34 (Int32.toInt_inj.mp z)
                        have z_3 : ¬ (r_31 : Int32).toInt = (61 : Int32).toInt := fun z => c_378 (Int32.toInt_inj.mp z)
                        have z_4 := congrArg Int32.toInt c_464
                        have z_5 : ¬ (r_31 : Int32).toInt = (61 : Int32).toInt := fun z => c_466 (Int32.toInt_inj.mp z)
                        have z_6 := Int32.lt_iff_toInt_lt.mp (Int32.not_le.mp c_467)
                        have z_7 : ¬ (x_553 : Int32).toInt = (61 : Int32).toInt := fun z => c_554 (Int32.toInt_inj.mp z)
                        have z_8 : ¬ (r_565 : Int32).toInt = (0 : Int32).toInt := fun z => c_570 (Int32.toInt_inj.mp z)
                        have z_9 : ¬ (r_31 : Int32).toInt = (60 : Int32).toInt := fun z => c_571 (Int32.toInt_inj.mp z)
                        have z_10 : ¬ (r_31 : Int32).toInt = (61 : Int32).toInt := fun z => c_572 (Int32.toInt_inj.mp z)
                        have y_0 : (0 : Int32).toInt = 0 := by decide
                        have y_60 : (60 : Int32).toInt = 60 := by decide
                        have y_61 : (61 : Int32).toInt = 61 := by decide
                        have y_62 : (62 : Int32).toInt = 62 := by decide
                        have y_1 : (1 : Int32).toInt = 1 := by decide
                        have t_x_465 : x_465.toInt = (sv_26 : Int32).toInt + (1 : Int32).toInt := by rw [ex_465]; exact add_toInt (by omega) (by omega)
                        omega
                      have ha_576 : 0 ≤ (sv_563 : Int32).toInt ∧ (sv_563 : Int32).toInt ≤ 60 := by
                        have z_1 : ¬ (r_13 : Int32).toInt = (0 : Int32).toInt := fun z => c_18 (Int32.toInt_inj.mp z)
                        have z_2 : ¬ (r_31 : Int32).toInt = (60 : Int32).toInt := fun z => c_34 (Int32.toInt_inj.mp z)
                        have z_3 : ¬ (r_31 : Int32).toInt = (61 : Int32).toInt := fun z => c_378 (Int32.toInt_inj.mp z)
                        have z_4 := congrArg Int32.toInt c_464
                        have z_5 : ¬ (r_31 : Int32).toInt = (61 : Int32).toInt := fun z => c_466 (Int32.toInt_inj.mp z)
                        have z_6 := Int32.lt_iff_toInt_lt.mp (Int32.not_le.mp c_467)
                        have z_7 : ¬ (x_553 : Int32).toInt = (61 : Int32).toInt := fun z => c_554 (Int32.toInt_inj.mp z)
                        have z_8 : ¬ (r_565 : Int32).toInt = (0 : Int32).toInt := fun z => c_570 (Int32.toInt_inj.mp z)
                        have z_9 : ¬ (r_31 : Int32).toInt = (60 : Int32).toInt := fun z => c_571 (Int32.toInt_inj.mp z)
                        have z_10 : ¬ (r_31 : Int32).toInt = (61 : Int32).toInt := fun z => c_572 (Int32.toInt_inj.mp z)
                        have y_0 : (0 : Int32).toInt = 0 := by decide
                        have y_60 : (60 : Int32).toInt = 60 := by decide
                        have y_61 : (61 : Int32).toInt = 61 := by decide
                        have y_62 : (62 : Int32).toInt = 62 := by decide
                        have y_1 : (1 : Int32).toInt = 1 := by decide
                        have t_x_465 : x_465.toInt = (sv_26 : Int32).toInt + (1 : Int32).toInt := by rw [ex_465]; exact add_toInt (by omega) (by omega)
                        omega
                      have ha_577 : (sv_562 : Int32).toInt = 0 := by
                        have z_1 : ¬ (r_13 : Int32).toInt = (0 : Int32).toInt := fun z => c_18 (Int32.toInt_inj.mp z)
                        have z_2 : ¬ (r_31 : Int32).toInt = (60 : Int32).toInt := fun z => c_34 (Int32.toInt_inj.mp z)
                        have z_3 : ¬ (r_31 : Int32).toInt = (61 : Int32).toInt := fun z => c_378 (Int32.toInt_inj.mp z)
                        have z_4 := congrArg Int32.toInt c_464
                        have z_5 : ¬ (r_31 : Int32).toInt = (61 : Int32).toInt := fun z => c_466 (Int32.toInt_inj.mp z)
                        have z_6 := Int32.lt_iff_toInt_lt.mp (Int32.not_le.mp c_467)
                        have z_7 : ¬ (x_553 : Int32).toInt = (61 : Int32).toInt := fun z => c_554 (Int32.toInt_inj.mp z)
                        have z_8 : ¬ (r_565 : Int32).toInt = (0 : Int32).toInt := fun z => c_570 (Int32.toInt_inj.mp z)
                        have z_9 : ¬ (r_31 : Int32).toInt = (60 : Int32).toInt := fun z => c_571 (Int32.toInt_inj.mp z)
                        have z_10 : ¬ (r_31 : Int32).toInt = (61 : Int32).toInt := fun z => c_572 (Int32.toInt_inj.mp z)
                        have y_0 : (0 : Int32).toInt = 0 := by decide
                        have y_60 : (60 : Int32).toInt = 60 := by decide
                        have y_61 : (61 : Int32).toInt = 61 := by decide
                        have y_62 : (62 : Int32).toInt = 62 := by decide
                        have y_1 : (1 : Int32).toInt = 1 := by decide
                        have t_x_465 : x_465.toInt = (sv_26 : Int32).toInt + (1 : Int32).toInt := by rw [ex_465]; exact add_toInt (by omega) (by omega)
                        omega
                      refine cV (a := (Ma 0)) (As := []) (rest := []) (wr := []) ⟨hx, hb, hml, hown, hts⟩ hK hX hA (cu_fX12_sum l D tc sk (Ma 0) (Ma 1) (Ma 2) (Ma 3) (Ma 4) (Ma 5) (Ma 6) (Ma 7) (Ma 8) (Ma 9) (Ma 10) (Ma 11) (Ma 12) (Ma 13) (Ma 14) (Ma 15) (Ma 16) (Ma 17) (Ma 18) (Ma 19) (Ma 20) (Mv 0) (Mv 1) x_465 sv_562 sv_6 (Mv 5) sv_563 (Mv 7) (Mv 8) (Mv 9) (Mv 10) (Mv 11) (Mv 12) (Mv 13) (Mv 14) (Mf 1) sv_8 sv_9 (Mj 0) b (d + 1) ha_574 pf_568 ha_575 ha_576 h_bs ha_577) k_1279 k_1276 k_1278 k_42 k_106 pl_X12_sum ⟨Nat.le_of_ble_eq_true rfl, Nat.le_of_ble_eq_true rfl⟩ rfl rfl (va_recv hK hP (ci := 12) (q0 := 3) rfl rfl) hP hD hS [3, 2, 0, 1] [] rfl rfl rfl rfl rfl (by decide) rfl hl.1 rfl (Nat.le_of_ble_eq_true rfl) dX12_compare_155 ⟨Nat.le_of_ble_eq_true rfl, Nat.le_of_ble_eq_true rfl⟩ (fun v_578 u_579 H locs hv_580 hP₀ hD₀ hS₀ => ?_)
                      obtain ⟨sv_581, sv_582, sv_583, sv_584, sv_585, sv_586⟩ := u_579
                      obtain ⟨r_590, rfl, he_591, pf_587, pf_588, pf_589, hm_593, hm_594⟩ := hv_580
                      have he_591 : ((r_590.toInt = 0 ∧ ¬ (sv_582 : Int32).toInt = 0) ∨ (r_590.toInt = 1 ∧ (sv_9 (Mv 5).toNatClampNeg).toInt + 1 ≤ (sv_586 (Mv 5).toNatClampNeg).toInt ∧ (sv_586 (Mv 5).toNatClampNeg).toInt + (x_465 : Int32).toInt ≤ (sv_9 (Mv 5).toNatClampNeg).toInt + (sv_581 : Int32).toInt ∧ (x_465 : Int32).toInt + 1 ≤ (sv_581 : Int32).toInt)) := he_591
                      have pf_587 : (x_465 : Int32).toInt ≤ (sv_581 : Int32).toInt ∧ (sv_581 : Int32).toInt ≤ ((Mv 0) : Int32).toInt := pf_587
                      have pf_588 : (sv_563 : Int32).toInt ≤ (sv_584 : Int32).toInt ∧ (sv_584 : Int32).toInt ≤ 60 := pf_588
                      have pf_589 : Agr sv_8 sv_585 (400 * ((Mv 5) : Int32).toInt + (sv_9 (Mv 5).toNatClampNeg).toInt) := pf_589
                      refine W.eq (g2 := F0 m 158 ls [.int r_590]) rfl ?_
                      replace hP : va_P D classes [((Ma 0), .inr (12, [.ref (Ma 1), .int (Mv 0), .int (Mv 1), .ref (Ma 2), .ref (Ma 3), .ref (Ma 4), .ref (Ma 5), .ref (Ma 6), .int sv_581, .int sv_582, .int sv_583, .int (Mv 5), .int sv_584, .int (Mv 7), .int (Mv 8), .ref (Ma 7), .int (Mv 9), .ref (Ma 8), .int (Mv 10), .ref (Ma 9), .ref (Ma 10), .int (Mv 11), .int (Mv 12), .int (Mv 13), .ref (Ma 11), .int (Mv 14), .ref (Ma 12), .ref (Ma 13), .ref (Ma 14), .ref (Ma 15), .ref (Ma 16), .long (Mj 0), .ref (Ma 17), .ref (Ma 18), .ref (Ma 19), .ref (Ma 20)])), ((Ma 1), .inl (tc 2, 400, .inl (Mf 1))), ((Ma 2), .inl (tc 0, 2400, .inl sv_585)), ((Ma 3), .inl (tc 0, 7, .inl sv_586))] H := hP₀
                      replace hD : va_D A [((Ma 0), .inr (12, [.ref (Ma 1), .int (Mv 0), .int (Mv 1), .ref (Ma 2), .ref (Ma 3), .ref (Ma 4), .ref (Ma 5), .ref (Ma 6), .int sv_581, .int sv_582, .int sv_583, .int (Mv 5), .int sv_584, .int (Mv 7), .int (Mv 8), .ref (Ma 7), .int (Mv 9), .ref (Ma 8), .int (Mv 10), .ref (Ma 9), .ref (Ma 10), .int (Mv 11), .int (Mv 12), .int (Mv 13), .ref (Ma 11), .int (Mv 14), .ref (Ma 12), .ref (Ma 13), .ref (Ma 14), .ref (Ma 15), .ref (Ma 16), .long (Mj 0), .ref (Ma 17), .ref (Ma 18), .ref (Ma 19), .ref (Ma 20)])), ((Ma 1), .inl (tc 2, 400, .inl (Mf 1))), ((Ma 2), .inl (tc 0, 2400, .inl sv_585)), ((Ma 3), .inl (tc 0, 7, .inl sv_586))] := hD₀
                      replace hS := hS₀
                      clear hP₀ hD₀ hS₀
                      refine lv_if_ne (tgt := 163) hx hb dX12_compare_158 (by decide) (fun c_595 => ?_) (fun c_595 => ?_)
                      · skip
                        have hz_598 : (r_590 : Int32).toInt = 1 := by
                          have z_1 : ¬ (r_13 : Int32).toInt = (0 : Int32).toInt := fun z => c_18 (Int32.toInt_inj.mp z)
                          have z_2 : ¬ (r_31 : Int32).toInt = (60 : Int32).toInt := fun z => c_34 (Int32.toInt_inj.mp z)
                          have z_3 : ¬ (r_31 : Int32).toInt = (61 : Int32).toInt := fun z => c_378 (Int32.toInt_inj.mp z)
                          have z_4 := congrArg Int32.toInt c_464
                          have z_5 : ¬ (r_31 : Int32).toInt = (61 : Int32).toInt := fun z => c_466 (Int32.toInt_inj.mp z)
                          have z_6 := Int32.lt_iff_toInt_lt.mp (Int32.not_le.mp c_467)
                          have z_7 : ¬ (x_553 : Int32).toInt = (61 : Int32).toInt := fun z => c_554 (Int32.toInt_inj.mp z)
                          have z_8 : ¬ (r_565 : Int32).toInt = (0 : Int32).toInt := fun z => c_570 (Int32.toInt_inj.mp z)
                          have z_9 : ¬ (r_31 : Int32).toInt = (60 : Int32).toInt := fun z => c_571 (Int32.toInt_inj.mp z)
                          have z_10 : ¬ (r_31 : Int32).toInt = (61 : Int32).toInt := fun z => c_572 (Int32.toInt_inj.mp z)
                          have z_11 : ¬ (r_590 : Int32).toInt = (0 : Int32).toInt := fun z => c_595 (Int32.toInt_inj.mp z)
                          have y_0 : (0 : Int32).toInt = 0 := by decide
                          have y_60 : (60 : Int32).toInt = 60 := by decide
                          have y_61 : (61 : Int32).toInt = 61 := by decide
                          have y_62 : (62 : Int32).toInt = 62 := by decide
                          have y_1 : (1 : Int32).toInt = 1 := by decide
                          have t_x_465 : x_465.toInt = (sv_26 : Int32).toInt + (1 : Int32).toInt := by rw [ex_465]; exact add_toInt (by omega) (by omega)
                          omega
                        obtain ⟨pf_596, pf_597⟩ := hm_593 hz_598
                        have pf_596 : Cd sv_585 sv_586 (Mv 5) b sv_584 ((d + 1) + 1) := pf_596
                        have ar_pf_596 := Cd.ar pf_596
                        have pf_597 : RfO (pz_sum (rB (Mf 1) (Mv 0)) (St0 (rB (Mf 1) (Mv 0)) x_465 sv_563)) (rB (Mf 1) (Mv 0)) sv_582 sv_581 sv_584 := pf_597
                        have ar_pf_597 := RfO.wr pf_597
                        refine lv_aload_n hx hb dX12_compare_163 rfl (lv_at hl 4 rfl) ?_
                        refine lv_bipush (v := 6) hx hb dX12_compare_164 (by decide) ?_
                        refine lv_iload hx hb dX12_compare_166 (lv_at hl 0 rfl) ?_
                        refine lv_iadd hx hb dX12_compare_168 ?_
                        refine lv_lit (v := 10) (by decide) ?_
                        refine lv_iconst (v := 0) hx hb dX12_compare_169 (by decide) ?_
                        have ha_599 : ((d + 1) : Int) ≤ sv_584.toInt := by
                          have z_1 : ¬ (r_13 : Int32).toInt = (0 : Int32).toInt := fun z => c_18 (Int32.toInt_inj.mp z)
                          have z_2 : ¬ (r_31 : Int32).toInt = (60 : Int32).toInt := fun z => c_34 (Int32.toInt_inj.mp z)
                          have z_3 : ¬ (r_31 : Int32).toInt = (61 : Int32).toInt := fun z => c_378 (Int32.toInt_inj.mp z)
                          have z_4 := congrArg Int32.toInt c_464
                          have z_5 : ¬ (r_31 : Int32).toInt = (61 : Int32).toInt := fun z => c_466 (Int32.toInt_inj.mp z)
                          have z_6 := Int32.lt_iff_toInt_lt.mp (Int32.not_le.mp c_467)
                          have z_7 : ¬ (x_553 : Int32).toInt = (61 : Int32).toInt := fun z => c_554 (Int32.toInt_inj.mp z)
                          have z_8 : ¬ (r_565 : Int32).toInt = (0 : Int32).toInt := fun z => c_570 (Int32.toInt_inj.mp z)
                          have z_9 : ¬ (r_31 : Int32).toInt = (60 : Int32).toInt := fun z => c_571 (Int32.toInt_inj.mp z)
                          have z_10 : ¬ (r_31 : Int32).toInt = (61 : Int32).toInt := fun z => c_572 (Int32.toInt_inj.mp z)
                          have z_11 : ¬ (r_590 : Int32).toInt = (0 : Int32).toInt := fun z => c_595 (Int32.toInt_inj.mp z)
                          have y_0 : (0 : Int32).toInt = 0 := by decide
                          have y_60 : (60 : Int32).toInt = 60 := by decide
                          have y_61 : (61 : Int32).toInt = 61 := by decide
                          have y_62 : (62 : Int32).toInt = 62 := by decide
                          have y_1 : (1 : Int32).toInt = 1 := by decide
                          have t_x_465 : x_465.toInt = (sv_26 : Int32).toInt + (1 : Int32).toInt := by rw [ex_465]; exact add_toInt (by omega) (by omega)
                          omega
                        have ha_600 : (sv_586 (Mv 5).toNatClampNeg).toInt < 400 := by
                          have z_1 : ¬ (r_13 : Int32).toInt = (0 : Int32).toInt := fun z => c_18 (Int32.toInt_inj.mp z)
                          have z_2 : ¬ (r_31 : Int32).toInt = (60 : Int32).toInt := fun z => c_34 (Int32.toInt_inj.mp z)
                          have z_3 : ¬ (r_31 : Int32).toInt = (61 : Int32).toInt := fun z => c_378 (Int32.toInt_inj.mp z)
                          have z_4 := congrArg Int32.toInt c_464
                          have z_5 : ¬ (r_31 : Int32).toInt = (61 : Int32).toInt := fun z => c_466 (Int32.toInt_inj.mp z)
                          have z_6 := Int32.lt_iff_toInt_lt.mp (Int32.not_le.mp c_467)
                          have z_7 : ¬ (x_553 : Int32).toInt = (61 : Int32).toInt := fun z => c_554 (Int32.toInt_inj.mp z)
                          have z_8 : ¬ (r_565 : Int32).toInt = (0 : Int32).toInt := fun z => c_570 (Int32.toInt_inj.mp z)
                          have z_9 : ¬ (r_31 : Int32).toInt = (60 : Int32).toInt := fun z => c_571 (Int32.toInt_inj.mp z)
                          have z_10 : ¬ (r_31 : Int32).toInt = (61 : Int32).toInt := fun z => c_572 (Int32.toInt_inj.mp z)
                          have z_11 : ¬ (r_590 : Int32).toInt = (0 : Int32).toInt := fun z => c_595 (Int32.toInt_inj.mp z)
                          have y_0 : (0 : Int32).toInt = 0 := by decide
                          have y_60 : (60 : Int32).toInt = 60 := by decide
                          have y_61 : (61 : Int32).toInt = 61 := by decide
                          have y_62 : (62 : Int32).toInt = 62 := by decide
                          have y_1 : (1 : Int32).toInt = 1 := by decide
                          have t_x_465 : x_465.toInt = (sv_26 : Int32).toInt + (1 : Int32).toInt := by rw [ex_465]; exact add_toInt (by omega) (by omega)
                          omega
                        refine cV (a := (Ma 0)) (As := [.int 10, .int 0]) (rest := []) (wr := [((Ma 1), .inl (tc 2, 400, .inl (Mf 1)))]) ⟨hx, hb, hml, hown, hts⟩ hK hX hA (cu_X12_puts l D tc sk (Ma 0) (Ma 1) (Ma 2) (Ma 3) (Ma 4) (Ma 5) (Ma 6) (Ma 7) (Ma 8) (Ma 9) (Ma 10) (Ma 11) (Ma 12) (Ma 13) (Ma 14) (Ma 15) (Ma 16) (Ma 17) (Ma 18) (Ma 19) (Ma 20) (Mv 0) (Mv 1) sv_581 sv_582 sv_583 (Mv 5) sv_584 (Mv 7) (Mv 8) (Mv 9) (Mv 10) (Mv 11) (Mv 12) (Mv 13) (Mv 14) sv_585 sv_586 (Mj 0) 10 0 b sv_584 ((d + 1) + 1) (d + 1) pf_596 (StpR.op (by decide) rfl (by omega)) ha_599 ha_600) k_1296 k_1293 k_1295 k_46 k_106 pl_X12_puts ⟨Nat.le_of_ble_eq_true rfl, Nat.le_of_ble_eq_true rfl⟩ rfl rfl (va_recv hK hP (ci := 12) (q0 := 0) rfl rfl) hP hD hS [0, 2, 3] [1] rfl rfl rfl rfl rfl (by decide) rfl hl.1 rfl (Nat.le_of_ble_eq_true rfl) dX12_compare_170 ⟨Nat.le_of_ble_eq_true rfl, Nat.le_of_ble_eq_true rfl⟩ (fun v_601 u_602 H locs hv_603 hP₀ hD₀ hS₀ => ?_)
                        obtain ⟨sv_604, sv_605⟩ := u_602
                        obtain ⟨rfl, pf_606, pf_607, pf_608⟩ := hv_603
                        have pf_606 : Cd sv_604 sv_605 (Mv 5) b sv_584 (d + 1) := pf_606
                        have ar_pf_606 := Cd.ar pf_606
                        have pf_607 : Agr sv_585 sv_604 (400 * ((Mv 5) : Int32).toInt + (sv_586 (Mv 5).toNatClampNeg).toInt) := pf_607
                        have pf_608 : (sv_605 (Mv 5).toNatClampNeg).toInt = (sv_586 (Mv 5).toNatClampNeg).toInt + 1 := pf_608
                        refine W.eq (g2 := F0 m 173 ls []) rfl ?_
                        replace hP : va_P D classes [((Ma 1), .inl (tc 2, 400, .inl (Mf 1))), ((Ma 0), .inr (12, [.ref (Ma 1), .int (Mv 0), .int (Mv 1), .ref (Ma 2), .ref (Ma 3), .ref (Ma 4), .ref (Ma 5), .ref (Ma 6), .int sv_581, .int sv_582, .int sv_583, .int (Mv 5), .int sv_584, .int (Mv 7), .int (Mv 8), .ref (Ma 7), .int (Mv 9), .ref (Ma 8), .int (Mv 10), .ref (Ma 9), .ref (Ma 10), .int (Mv 11), .int (Mv 12), .int (Mv 13), .ref (Ma 11), .int (Mv 14), .ref (Ma 12), .ref (Ma 13), .ref (Ma 14), .ref (Ma 15), .ref (Ma 16), .long (Mj 0), .ref (Ma 17), .ref (Ma 18), .ref (Ma 19), .ref (Ma 20)])), ((Ma 2), .inl (tc 0, 2400, .inl sv_604)), ((Ma 3), .inl (tc 0, 7, .inl sv_605))] H := hP₀
                        replace hD : va_D A [((Ma 1), .inl (tc 2, 400, .inl (Mf 1))), ((Ma 0), .inr (12, [.ref (Ma 1), .int (Mv 0), .int (Mv 1), .ref (Ma 2), .ref (Ma 3), .ref (Ma 4), .ref (Ma 5), .ref (Ma 6), .int sv_581, .int sv_582, .int sv_583, .int (Mv 5), .int sv_584, .int (Mv 7), .int (Mv 8), .ref (Ma 7), .int (Mv 9), .ref (Ma 8), .int (Mv 10), .ref (Ma 9), .ref (Ma 10), .int (Mv 11), .int (Mv 12), .int (Mv 13), .ref (Ma 11), .int (Mv 14), .ref (Ma 12), .ref (Ma 13), .ref (Ma 14), .ref (Ma 15), .ref (Ma 16), .long (Mj 0), .ref (Ma 17), .ref (Ma 18), .ref (Ma 19), .ref (Ma 20)])), ((Ma 2), .inl (tc 0, 2400, .inl sv_604)), ((Ma 3), .inl (tc 0, 7, .inl sv_605))] := hD₀
                        replace hS := hS₀
                        clear hP₀ hD₀ hS₀
                        refine lv_iconst (v := 1) hx hb dX12_compare_173 (by decide) ?_
                        have ha_609 : ((Mv 2) : Int32).toInt ≤ (sv_581 : Int32).toInt ∧ (sv_581 : Int32).toInt ≤ ((Mv 0) : Int32).toInt := by
                          have z_1 : ¬ (r_13 : Int32).toInt = (0 : Int32).toInt := fun z => c_18 (Int32.toInt_inj.mp z)
                          have z_2 : ¬ (r_31 : Int32).toInt = (60 : Int32).toInt := fun z => c_34 (Int32.toInt_inj.mp z)
                          have z_3 : ¬ (r_31 : Int32).toInt = (61 : Int32).toInt := fun z => c_378 (Int32.toInt_inj.mp z)
                          have z_4 := congrArg Int32.toInt c_464
                          have z_5 : ¬ (r_31 : Int32).toInt = (61 : Int32).toInt := fun z => c_466 (Int32.toInt_inj.mp z)
                          have z_6 := Int32.lt_iff_toInt_lt.mp (Int32.not_le.mp c_467)
                          have z_7 : ¬ (x_553 : Int32).toInt = (61 : Int32).toInt := fun z => c_554 (Int32.toInt_inj.mp z)
                          have z_8 : ¬ (r_565 : Int32).toInt = (0 : Int32).toInt := fun z => c_570 (Int32.toInt_inj.mp z)
                          have z_9 : ¬ (r_31 : Int32).toInt = (60 : Int32).toInt := fun z => c_571 (Int32.toInt_inj.mp z)
                          have z_10 : ¬ (r_31 : Int32).toInt = (61 : Int32).toInt := fun z => c_572 (Int32.toInt_inj.mp z)
                          have z_11 : ¬ (r_590 : Int32).toInt = (0 : Int32).toInt := fun z => c_595 (Int32.toInt_inj.mp z)
                          have y_0 : (0 : Int32).toInt = 0 := by decide
                          have y_60 : (60 : Int32).toInt = 60 := by decide
                          have y_61 : (61 : Int32).toInt = 61 := by decide
                          have y_62 : (62 : Int32).toInt = 62 := by decide
                          have y_1 : (1 : Int32).toInt = 1 := by decide
                          have t_x_465 : x_465.toInt = (sv_26 : Int32).toInt + (1 : Int32).toInt := by rw [ex_465]; exact add_toInt (by omega) (by omega)
                          omega
                        have ha_610 : ((Mv 6) : Int32).toInt ≤ (sv_584 : Int32).toInt ∧ (sv_584 : Int32).toInt ≤ 60 := by
                          have z_1 : ¬ (r_13 : Int32).toInt = (0 : Int32).toInt := fun z => c_18 (Int32.toInt_inj.mp z)
                          have z_2 : ¬ (r_31 : Int32).toInt = (60 : Int32).toInt := fun z => c_34 (Int32.toInt_inj.mp z)
                          have z_3 : ¬ (r_31 : Int32).toInt = (61 : Int32).toInt := fun z => c_378 (Int32.toInt_inj.mp z)
                          have z_4 := congrArg Int32.toInt c_464
                          have z_5 : ¬ (r_31 : Int32).toInt = (61 : Int32).toInt := fun z => c_466 (Int32.toInt_inj.mp z)
                          have z_6 := Int32.lt_iff_toInt_lt.mp (Int32.not_le.mp c_467)
                          have z_7 : ¬ (x_553 : Int32).toInt = (61 : Int32).toInt := fun z => c_554 (Int32.toInt_inj.mp z)
                          have z_8 : ¬ (r_565 : Int32).toInt = (0 : Int32).toInt := fun z => c_570 (Int32.toInt_inj.mp z)
                          have z_9 : ¬ (r_31 : Int32).toInt = (60 : Int32).toInt := fun z => c_571 (Int32.toInt_inj.mp z)
                          have z_10 : ¬ (r_31 : Int32).toInt = (61 : Int32).toInt := fun z => c_572 (Int32.toInt_inj.mp z)
                          have z_11 : ¬ (r_590 : Int32).toInt = (0 : Int32).toInt := fun z => c_595 (Int32.toInt_inj.mp z)
                          have y_0 : (0 : Int32).toInt = 0 := by decide
                          have y_60 : (60 : Int32).toInt = 60 := by decide
                          have y_61 : (61 : Int32).toInt = 61 := by decide
                          have y_62 : (62 : Int32).toInt = 62 := by decide
                          have y_1 : (1 : Int32).toInt = 1 := by decide
                          have t_x_465 : x_465.toInt = (sv_26 : Int32).toInt + (1 : Int32).toInt := by rw [ex_465]; exact add_toInt (by omega) (by omega)
                          omega
                        have hr_611 : (400 * ((Mv 5) : Int32).toInt + ((Mf 3) (Mv 5).toNatClampNeg).toInt) ≤ (400 * ((Mv 5) : Int32).toInt + ((Mf 3) (Mv 5).toNatClampNeg).toInt) := by
                          have z_1 : ¬ (r_13 : Int32).toInt = (0 : Int32).toInt := fun z => c_18 (Int32.toInt_inj.mp z)
                          have z_2 : ¬ (r_31 : Int32).toInt = (60 : Int32).toInt := fun z => c_34 (Int32.toInt_inj.mp z)
                          have z_3 : ¬ (r_31 : Int32).toInt = (61 : Int32).toInt := fun z => c_378 (Int32.toInt_inj.mp z)
                          have z_4 := congrArg Int32.toInt c_464
                          have z_5 : ¬ (r_31 : Int32).toInt = (61 : Int32).toInt := fun z => c_466 (Int32.toInt_inj.mp z)
                          have z_6 := Int32.lt_iff_toInt_lt.mp (Int32.not_le.mp c_467)
                          have z_7 : ¬ (x_553 : Int32).toInt = (61 : Int32).toInt := fun z => c_554 (Int32.toInt_inj.mp z)
                          have z_8 : ¬ (r_565 : Int32).toInt = (0 : Int32).toInt := fun z => c_570 (Int32.toInt_inj.mp z)
                          have z_9 : ¬ (r_31 : Int32).toInt = (60 : Int32).toInt := fun z => c_571 (Int32.toInt_inj.mp z)
                          have z_10 : ¬ (r_31 : Int32).toInt = (61 : Int32).toInt := fun z => c_572 (Int32.toInt_inj.mp z)
                          have z_11 : ¬ (r_590 : Int32).toInt = (0 : Int32).toInt := fun z => c_595 (Int32.toInt_inj.mp z)
                          have y_0 : (0 : Int32).toInt = 0 := by decide
                          have y_60 : (60 : Int32).toInt = 60 := by decide
                          have y_61 : (61 : Int32).toInt = 61 := by decide
                          have y_62 : (62 : Int32).toInt = 62 := by decide
                          have y_1 : (1 : Int32).toInt = 1 := by decide
                          have t_x_465 : x_465.toInt = (sv_26 : Int32).toInt + (1 : Int32).toInt := by rw [ex_465]; exact add_toInt (by omega) (by omega)
                          omega
                        have hr_612 : (400 * ((Mv 5) : Int32).toInt + ((Mf 3) (Mv 5).toNatClampNeg).toInt) ≤ (400 * ((Mv 5) : Int32).toInt + (sv_9 (Mv 5).toNatClampNeg).toInt) := by
                          have z_1 : ¬ (r_13 : Int32).toInt = (0 : Int32).toInt := fun z => c_18 (Int32.toInt_inj.mp z)
                          have z_2 : ¬ (r_31 : Int32).toInt = (60 : Int32).toInt := fun z => c_34 (Int32.toInt_inj.mp z)
                          have z_3 : ¬ (r_31 : Int32).toInt = (61 : Int32).toInt := fun z => c_378 (Int32.toInt_inj.mp z)
                          have z_4 := congrArg Int32.toInt c_464
                          have z_5 : ¬ (r_31 : Int32).toInt = (61 : Int32).toInt := fun z => c_466 (Int32.toInt_inj.mp z)
                          have z_6 := Int32.lt_iff_toInt_lt.mp (Int32.not_le.mp c_467)
                          have z_7 : ¬ (x_553 : Int32).toInt = (61 : Int32).toInt := fun z => c_554 (Int32.toInt_inj.mp z)
                          have z_8 : ¬ (r_565 : Int32).toInt = (0 : Int32).toInt := fun z => c_570 (Int32.toInt_inj.mp z)
                          have z_9 : ¬ (r_31 : Int32).toInt = (60 : Int32).toInt := fun z => c_571 (Int32.toInt_inj.mp z)
                          have z_10 : ¬ (r_31 : Int32).toInt = (61 : Int32).toInt := fun z => c_572 (Int32.toInt_inj.mp z)
                          have z_11 : ¬ (r_590 : Int32).toInt = (0 : Int32).toInt := fun z => c_595 (Int32.toInt_inj.mp z)
                          have y_0 : (0 : Int32).toInt = 0 := by decide
                          have y_60 : (60 : Int32).toInt = 60 := by decide
                          have y_61 : (61 : Int32).toInt = 61 := by decide
                          have y_62 : (62 : Int32).toInt = 62 := by decide
                          have y_1 : (1 : Int32).toInt = 1 := by decide
                          have t_x_465 : x_465.toInt = (sv_26 : Int32).toInt + (1 : Int32).toInt := by rw [ex_465]; exact add_toInt (by omega) (by omega)
                          omega
                        have hr_613 : (400 * ((Mv 5) : Int32).toInt + ((Mf 3) (Mv 5).toNatClampNeg).toInt) ≤ (400 * ((Mv 5) : Int32).toInt + (sv_586 (Mv 5).toNatClampNeg).toInt) := by
                          have z_1 : ¬ (r_13 : Int32).toInt = (0 : Int32).toInt := fun z => c_18 (Int32.toInt_inj.mp z)
                          have z_2 : ¬ (r_31 : Int32).toInt = (60 : Int32).toInt := fun z => c_34 (Int32.toInt_inj.mp z)
                          have z_3 : ¬ (r_31 : Int32).toInt = (61 : Int32).toInt := fun z => c_378 (Int32.toInt_inj.mp z)
                          have z_4 := congrArg Int32.toInt c_464
                          have z_5 : ¬ (r_31 : Int32).toInt = (61 : Int32).toInt := fun z => c_466 (Int32.toInt_inj.mp z)
                          have z_6 := Int32.lt_iff_toInt_lt.mp (Int32.not_le.mp c_467)
                          have z_7 : ¬ (x_553 : Int32).toInt = (61 : Int32).toInt := fun z => c_554 (Int32.toInt_inj.mp z)
                          have z_8 : ¬ (r_565 : Int32).toInt = (0 : Int32).toInt := fun z => c_570 (Int32.toInt_inj.mp z)
                          have z_9 : ¬ (r_31 : Int32).toInt = (60 : Int32).toInt := fun z => c_571 (Int32.toInt_inj.mp z)
                          have z_10 : ¬ (r_31 : Int32).toInt = (61 : Int32).toInt := fun z => c_572 (Int32.toInt_inj.mp z)
                          have z_11 : ¬ (r_590 : Int32).toInt = (0 : Int32).toInt := fun z => c_595 (Int32.toInt_inj.mp z)
                          have y_0 : (0 : Int32).toInt = 0 := by decide
                          have y_60 : (60 : Int32).toInt = 60 := by decide
                          have y_61 : (61 : Int32).toInt = 61 := by decide
                          have y_62 : (62 : Int32).toInt = 62 := by decide
                          have y_1 : (1 : Int32).toInt = 1 := by decide
                          have t_x_465 : x_465.toInt = (sv_26 : Int32).toInt + (1 : Int32).toInt := by rw [ex_465]; exact add_toInt (by omega) (by omega)
                          omega
                        have hp_614 : (((1 : Int32).toInt = 0 ∧ ¬ (sv_582 : Int32).toInt = 0) ∨ ((1 : Int32).toInt = 1 ∧ ((Mf 3) (Mv 5).toNatClampNeg).toInt + 1 ≤ (sv_605 (Mv 5).toNatClampNeg).toInt ∧ (sv_605 (Mv 5).toNatClampNeg).toInt + ((Mv 2) : Int32).toInt ≤ ((Mf 3) (Mv 5).toNatClampNeg).toInt + (sv_581 : Int32).toInt ∧ ((Mv 2) : Int32).toInt + 1 ≤ (sv_581 : Int32).toInt)) := by
                          have z_1 : ¬ (r_13 : Int32).toInt = (0 : Int32).toInt := fun z => c_18 (Int32.toInt_inj.mp z)
                          have z_2 : ¬ (r_31 : Int32).toInt = (60 : Int32).toInt := fun z => c_34 (Int32.toInt_inj.mp z)
                          have z_3 : ¬ (r_31 : Int32).toInt = (61 : Int32).toInt := fun z => c_378 (Int32.toInt_inj.mp z)
                          have z_4 := congrArg Int32.toInt c_464
                          have z_5 : ¬ (r_31 : Int32).toInt = (61 : Int32).toInt := fun z => c_466 (Int32.toInt_inj.mp z)
                          have z_6 := Int32.lt_iff_toInt_lt.mp (Int32.not_le.mp c_467)
                          have z_7 : ¬ (x_553 : Int32).toInt = (61 : Int32).toInt := fun z => c_554 (Int32.toInt_inj.mp z)
                          have z_8 : ¬ (r_565 : Int32).toInt = (0 : Int32).toInt := fun z => c_570 (Int32.toInt_inj.mp z)
                          have z_9 : ¬ (r_31 : Int32).toInt = (60 : Int32).toInt := fun z => c_571 (Int32.toInt_inj.mp z)
                          have z_10 : ¬ (r_31 : Int32).toInt = (61 : Int32).toInt := fun z => c_572 (Int32.toInt_inj.mp z)
                          have z_11 : ¬ (r_590 : Int32).toInt = (0 : Int32).toInt := fun z => c_595 (Int32.toInt_inj.mp z)
                          have y_0 : (0 : Int32).toInt = 0 := by decide
                          have y_60 : (60 : Int32).toInt = 60 := by decide
                          have y_61 : (61 : Int32).toInt = 61 := by decide
                          have y_62 : (62 : Int32).toInt = 62 := by decide
                          have y_1 : (1 : Int32).toInt = 1 := by decide
                          have t_x_465 : x_465.toInt = (sv_26 : Int32).toInt + (1 : Int32).toInt := by rw [ex_465]; exact add_toInt (by omega) (by omega)
                          have yr : (1 : Int32).toInt = 1 := by decide
                          omega
                        have hm_615 : (1 : Int32).toInt = 1 → (Cd sv_604 sv_605 (Mv 5) b sv_584 (d + 1)) ∧ (RfO (pz_com (rB (Mf 1) (Mv 0)) (St0 (rB (Mf 1) (Mv 0)) (Mv 2) (Mv 6))) (rB (Mf 1) (Mv 0)) sv_582 sv_581 sv_584) := by
                          intro h1r
                          have hr_616 : (rB (Mf 1) (Mv 0) (sv_26 : Int32).toInt.toNat = 60 ∨ rB (Mf 1) (Mv 0) (sv_26 : Int32).toInt.toNat = 61 ∨ rB (Mf 1) (Mv 0) (sv_26 : Int32).toInt.toNat = 62) := by
                            have z_1 : ¬ (r_13 : Int32).toInt = (0 : Int32).toInt := fun z => c_18 (Int32.toInt_inj.mp z)
                            have z_2 : ¬ (r_31 : Int32).toInt = (60 : Int32).toInt := fun z => c_34 (Int32.toInt_inj.mp z)
                            have z_3 : ¬ (r_31 : Int32).toInt = (61 : Int32).toInt := fun z => c_378 (Int32.toInt_inj.mp z)
                            have z_4 := congrArg Int32.toInt c_464
                            have z_5 : ¬ (r_31 : Int32).toInt = (61 : Int32).toInt := fun z => c_466 (Int32.toInt_inj.mp z)
                            have z_6 := Int32.lt_iff_toInt_lt.mp (Int32.not_le.mp c_467)
                            have z_7 : ¬ (x_553 : Int32).toInt = (61 : Int32).toInt := fun z => c_554 (Int32.toInt_inj.mp z)
                            have z_8 : ¬ (r_565 : Int32).toInt = (0 : Int32).toInt := fun z => c_570 (Int32.toInt_inj.mp z)
                            have z_9 : ¬ (r_31 : Int32).toInt = (60 : Int32).toInt := fun z => c_571 (Int32.toInt_inj.mp z)
                            have z_10 : ¬ (r_31 : Int32).toInt = (61 : Int32).toInt := fun z => c_572 (Int32.toInt_inj.mp z)
                            have z_11 : ¬ (r_590 : Int32).toInt = (0 : Int32).toInt := fun z => c_595 (Int32.toInt_inj.mp z)
                            have y_0 : (0 : Int32).toInt = 0 := by decide
                            have y_60 : (60 : Int32).toInt = 60 := by decide
                            have y_61 : (61 : Int32).toInt = 61 := by decide
                            have y_62 : (62 : Int32).toInt = 62 := by decide
                            have y_1 : (1 : Int32).toInt = 1 := by decide
                            have t_x_465 : x_465.toInt = (sv_26 : Int32).toInt + (1 : Int32).toInt := by rw [ex_465]; exact add_toInt (by omega) (by omega)
                            omega
                          have rg_617 := rB_rg (n := (Mv 0)) h_bs ((sv_26 : Int32).toInt.toNat + 1)
                          have hk_618 : ((Mf 1) (x_465 : Int32).toInt.toNat).toInt = ((Mf 1) ((sv_26 : Int32).toInt.toNat + 1)).toInt := congrArg (fun z => ((Mf 1) z).toInt) (by
                            have z_1 : ¬ (r_13 : Int32).toInt = (0 : Int32).toInt := fun z => c_18 (Int32.toInt_inj.mp z)
                            have z_2 : ¬ (r_31 : Int32).toInt = (60 : Int32).toInt := fun z => c_34 (Int32.toInt_inj.mp z)
                            have z_3 : ¬ (r_31 : Int32).toInt = (61 : Int32).toInt := fun z => c_378 (Int32.toInt_inj.mp z)
                            have z_4 := congrArg Int32.toInt c_464
                            have z_5 : ¬ (r_31 : Int32).toInt = (61 : Int32).toInt := fun z => c_466 (Int32.toInt_inj.mp z)
                            have z_6 := Int32.lt_iff_toInt_lt.mp (Int32.not_le.mp c_467)
                            have z_7 : ¬ (x_553 : Int32).toInt = (61 : Int32).toInt := fun z => c_554 (Int32.toInt_inj.mp z)
                            have z_8 : ¬ (r_565 : Int32).toInt = (0 : Int32).toInt := fun z => c_570 (Int32.toInt_inj.mp z)
                            have z_9 : ¬ (r_31 : Int32).toInt = (60 : Int32).toInt := fun z => c_571 (Int32.toInt_inj.mp z)
                            have z_10 : ¬ (r_31 : Int32).toInt = (61 : Int32).toInt := fun z => c_572 (Int32.toInt_inj.mp z)
                            have z_11 : ¬ (r_590 : Int32).toInt = (0 : Int32).toInt := fun z => c_595 (Int32.toInt_inj.mp z)
                            have y_0 : (0 : Int32).toInt = 0 := by decide
                            have y_60 : (60 : Int32).toInt = 60 := by decide
                            have y_61 : (61 : Int32).toInt = 61 := by decide
                            have y_62 : (62 : Int32).toInt = 62 := by decide
                            have y_1 : (1 : Int32).toInt = 1 := by decide
                            have t_x_465 : x_465.toInt = (sv_26 : Int32).toInt + (1 : Int32).toInt := by rw [ex_465]; exact add_toInt (by omega) (by omega)
                            omega)
                          have hr_619 : ((x_465 : Int32).toInt = (sv_26 : Int32).toInt + 1 ∧ ¬ ((rB (Mf 1) (Mv 0) (sv_26 : Int32).toInt.toNat = 60 ∨ rB (Mf 1) (Mv 0) (sv_26 : Int32).toInt.toNat = 62) ∧ rB (Mf 1) (Mv 0) ((sv_26 : Int32).toInt.toNat + 1) = 61)) ∨ ((x_465 : Int32).toInt = (sv_26 : Int32).toInt + 2 ∧ (rB (Mf 1) (Mv 0) (sv_26 : Int32).toInt.toNat = 60 ∨ rB (Mf 1) (Mv 0) (sv_26 : Int32).toInt.toNat = 62) ∧ rB (Mf 1) (Mv 0) ((sv_26 : Int32).toInt.toNat + 1) = 61) := by
                            have z_1 : ¬ (r_13 : Int32).toInt = (0 : Int32).toInt := fun z => c_18 (Int32.toInt_inj.mp z)
                            have z_2 : ¬ (r_31 : Int32).toInt = (60 : Int32).toInt := fun z => c_34 (Int32.toInt_inj.mp z)
                            have z_3 : ¬ (r_31 : Int32).toInt = (61 : Int32).toInt := fun z => c_378 (Int32.toInt_inj.mp z)
                            have z_4 := congrArg Int32.toInt c_464
                            have z_5 : ¬ (r_31 : Int32).toInt = (61 : Int32).toInt := fun z => c_466 (Int32.toInt_inj.mp z)
                            have z_6 := Int32.lt_iff_toInt_lt.mp (Int32.not_le.mp c_467)
                            have z_7 : ¬ (x_553 : Int32).toInt = (61 : Int32).toInt := fun z => c_554 (Int32.toInt_inj.mp z)
                            have z_8 : ¬ (r_565 : Int32).toInt = (0 : Int32).toInt := fun z => c_570 (Int32.toInt_inj.mp z)
                            have z_9 : ¬ (r_31 : Int32).toInt = (60 : Int32).toInt := fun z => c_571 (Int32.toInt_inj.mp z)
                            have z_10 : ¬ (r_31 : Int32).toInt = (61 : Int32).toInt := fun z => c_572 (Int32.toInt_inj.mp z)
                            have z_11 : ¬ (r_590 : Int32).toInt = (0 : Int32).toInt := fun z => c_595 (Int32.toInt_inj.mp z)
                            have y_0 : (0 : Int32).toInt = 0 := by decide
                            have y_60 : (60 : Int32).toInt = 60 := by decide
                            have y_61 : (61 : Int32).toInt = 61 := by decide
                            have y_62 : (62 : Int32).toInt = 62 := by decide
                            have y_1 : (1 : Int32).toInt = 1 := by decide
                            have t_x_465 : x_465.toInt = (sv_26 : Int32).toInt + (1 : Int32).toInt := by rw [ex_465]; exact add_toInt (by omega) (by omega)
                            omega
                          have hr_620 : 0 ≤ (sv_7 : Int32).toInt ∧ (sv_7 : Int32).toInt < 60 ∧ (sv_563 : Int32).toInt = (sv_7 : Int32).toInt + 1 := by
                            have z_1 : ¬ (r_13 : Int32).toInt = (0 : Int32).toInt := fun z => c_18 (Int32.toInt_inj.mp z)
                            have z_2 : ¬ (r_31 : Int32).toInt = (60 : Int32).toInt := fun z => c_34 (Int32.toInt_inj.mp z)
                            have z_3 : ¬ (r_31 : Int32).toInt = (61 : Int32).toInt := fun z => c_378 (Int32.toInt_inj.mp z)
                            have z_4 := congrArg Int32.toInt c_464
                            have z_5 : ¬ (r_31 : Int32).toInt = (61 : Int32).toInt := fun z => c_466 (Int32.toInt_inj.mp z)
                            have z_6 := Int32.lt_iff_toInt_lt.mp (Int32.not_le.mp c_467)
                            have z_7 : ¬ (x_553 : Int32).toInt = (61 : Int32).toInt := fun z => c_554 (Int32.toInt_inj.mp z)
                            have z_8 : ¬ (r_565 : Int32).toInt = (0 : Int32).toInt := fun z => c_570 (Int32.toInt_inj.mp z)
                            have z_9 : ¬ (r_31 : Int32).toInt = (60 : Int32).toInt := fun z => c_571 (Int32.toInt_inj.mp z)
                            have z_10 : ¬ (r_31 : Int32).toInt = (61 : Int32).toInt := fun z => c_572 (Int32.toInt_inj.mp z)
                            have z_11 : ¬ (r_590 : Int32).toInt = (0 : Int32).toInt := fun z => c_595 (Int32.toInt_inj.mp z)
                            have y_0 : (0 : Int32).toInt = 0 := by decide
                            have y_60 : (60 : Int32).toInt = 60 := by decide
                            have y_61 : (61 : Int32).toInt = 61 := by decide
                            have y_62 : (62 : Int32).toInt = 62 := by decide
                            have y_1 : (1 : Int32).toInt = 1 := by decide
                            have t_x_465 : x_465.toInt = (sv_26 : Int32).toInt + (1 : Int32).toInt := by rw [ex_465]; exact add_toInt (by omega) (by omega)
                            omega
                          exact ⟨pf_606, (RfO.com pf_20 pf_30 hr_616 hr_619 hr_620 pf_597)⟩
                        exact retI (v := 1) hx hb hr hlk (rfl) hP hD hS (sv_581, sv_582, sv_583, sv_584, sv_604, sv_605) ⟨_, rfl, hp_614, ha_609, ha_610, (Agr.trans (k' := (400 * ((Mv 5) : Int32).toInt + ((Mf 3) (Mv 5).toNatClampNeg).toInt)) (Agr.trans (k' := (400 * ((Mv 5) : Int32).toInt + ((Mf 3) (Mv 5).toNatClampNeg).toInt)) (Agr.mono pf_12 hr_611) pf_589 ⟨Int.le_refl _, hr_612⟩) pf_607 ⟨Int.le_refl _, hr_613⟩), hm_615, (fun h => absurd h (by decide))⟩ [1, 0, 2, 3] rfl rfl dX12_compare_174 (Nat.le_of_ble_eq_true rfl) (Nat.le_of_ble_eq_true rfl) rfl
                      · skip
                        have hz_622 : (r_590 : Int32).toInt = 0 := by
                          have z_1 : ¬ (r_13 : Int32).toInt = (0 : Int32).toInt := fun z => c_18 (Int32.toInt_inj.mp z)
                          have z_2 : ¬ (r_31 : Int32).toInt = (60 : Int32).toInt := fun z => c_34 (Int32.toInt_inj.mp z)
                          have z_3 : ¬ (r_31 : Int32).toInt = (61 : Int32).toInt := fun z => c_378 (Int32.toInt_inj.mp z)
                          have z_4 := congrArg Int32.toInt c_464
                          have z_5 : ¬ (r_31 : Int32).toInt = (61 : Int32).toInt := fun z => c_466 (Int32.toInt_inj.mp z)
                          have z_6 := Int32.lt_iff_toInt_lt.mp (Int32.not_le.mp c_467)
                          have z_7 : ¬ (x_553 : Int32).toInt = (61 : Int32).toInt := fun z => c_554 (Int32.toInt_inj.mp z)
                          have z_8 : ¬ (r_565 : Int32).toInt = (0 : Int32).toInt := fun z => c_570 (Int32.toInt_inj.mp z)
                          have z_9 : ¬ (r_31 : Int32).toInt = (60 : Int32).toInt := fun z => c_571 (Int32.toInt_inj.mp z)
                          have z_10 : ¬ (r_31 : Int32).toInt = (61 : Int32).toInt := fun z => c_572 (Int32.toInt_inj.mp z)
                          have z_11 := congrArg Int32.toInt c_595
                          have y_0 : (0 : Int32).toInt = 0 := by decide
                          have y_60 : (60 : Int32).toInt = 60 := by decide
                          have y_61 : (61 : Int32).toInt = 61 := by decide
                          have y_62 : (62 : Int32).toInt = 62 := by decide
                          have y_1 : (1 : Int32).toInt = 1 := by decide
                          have t_x_465 : x_465.toInt = (sv_26 : Int32).toInt + (1 : Int32).toInt := by rw [ex_465]; exact add_toInt (by omega) (by omega)
                          omega
                        obtain pf_621 := hm_594 hz_622
                        have pf_621 : RfE (pz_sum (rB (Mf 1) (Mv 0)) (St0 (rB (Mf 1) (Mv 0)) x_465 sv_563)) sv_582 := pf_621
                        refine lv_iconst (v := 0) hx hb dX12_compare_161 (by decide) ?_
                        have ha_623 : ((Mv 2) : Int32).toInt ≤ (sv_581 : Int32).toInt ∧ (sv_581 : Int32).toInt ≤ ((Mv 0) : Int32).toInt := by
                          have z_1 : ¬ (r_13 : Int32).toInt = (0 : Int32).toInt := fun z => c_18 (Int32.toInt_inj.mp z)
                          have z_2 : ¬ (r_31 : Int32).toInt = (60 : Int32).toInt := fun z => c_34 (Int32.toInt_inj.mp z)
                          have z_3 : ¬ (r_31 : Int32).toInt = (61 : Int32).toInt := fun z => c_378 (Int32.toInt_inj.mp z)
                          have z_4 := congrArg Int32.toInt c_464
                          have z_5 : ¬ (r_31 : Int32).toInt = (61 : Int32).toInt := fun z => c_466 (Int32.toInt_inj.mp z)
                          have z_6 := Int32.lt_iff_toInt_lt.mp (Int32.not_le.mp c_467)
                          have z_7 : ¬ (x_553 : Int32).toInt = (61 : Int32).toInt := fun z => c_554 (Int32.toInt_inj.mp z)
                          have z_8 : ¬ (r_565 : Int32).toInt = (0 : Int32).toInt := fun z => c_570 (Int32.toInt_inj.mp z)
                          have z_9 : ¬ (r_31 : Int32).toInt = (60 : Int32).toInt := fun z => c_571 (Int32.toInt_inj.mp z)
                          have z_10 : ¬ (r_31 : Int32).toInt = (61 : Int32).toInt := fun z => c_572 (Int32.toInt_inj.mp z)
                          have z_11 := congrArg Int32.toInt c_595
                          have y_0 : (0 : Int32).toInt = 0 := by decide
                          have y_60 : (60 : Int32).toInt = 60 := by decide
                          have y_61 : (61 : Int32).toInt = 61 := by decide
                          have y_62 : (62 : Int32).toInt = 62 := by decide
                          have y_1 : (1 : Int32).toInt = 1 := by decide
                          have t_x_465 : x_465.toInt = (sv_26 : Int32).toInt + (1 : Int32).toInt := by rw [ex_465]; exact add_toInt (by omega) (by omega)
                          omega
                        have ha_624 : ((Mv 6) : Int32).toInt ≤ (sv_584 : Int32).toInt ∧ (sv_584 : Int32).toInt ≤ 60 := by
                          have z_1 : ¬ (r_13 : Int32).toInt = (0 : Int32).toInt := fun z => c_18 (Int32.toInt_inj.mp z)
                          have z_2 : ¬ (r_31 : Int32).toInt = (60 : Int32).toInt := fun z => c_34 (Int32.toInt_inj.mp z)
                          have z_3 : ¬ (r_31 : Int32).toInt = (61 : Int32).toInt := fun z => c_378 (Int32.toInt_inj.mp z)
                          have z_4 := congrArg Int32.toInt c_464
                          have z_5 : ¬ (r_31 : Int32).toInt = (61 : Int32).toInt := fun z => c_466 (Int32.toInt_inj.mp z)
                          have z_6 := Int32.lt_iff_toInt_lt.mp (Int32.not_le.mp c_467)
                          have z_7 : ¬ (x_553 : Int32).toInt = (61 : Int32).toInt := fun z => c_554 (Int32.toInt_inj.mp z)
                          have z_8 : ¬ (r_565 : Int32).toInt = (0 : Int32).toInt := fun z => c_570 (Int32.toInt_inj.mp z)
                          have z_9 : ¬ (r_31 : Int32).toInt = (60 : Int32).toInt := fun z => c_571 (Int32.toInt_inj.mp z)
                          have z_10 : ¬ (r_31 : Int32).toInt = (61 : Int32).toInt := fun z => c_572 (Int32.toInt_inj.mp z)
                          have z_11 := congrArg Int32.toInt c_595
                          have y_0 : (0 : Int32).toInt = 0 := by decide
                          have y_60 : (60 : Int32).toInt = 60 := by decide
                          have y_61 : (61 : Int32).toInt = 61 := by decide
                          have y_62 : (62 : Int32).toInt = 62 := by decide
                          have y_1 : (1 : Int32).toInt = 1 := by decide
                          have t_x_465 : x_465.toInt = (sv_26 : Int32).toInt + (1 : Int32).toInt := by rw [ex_465]; exact add_toInt (by omega) (by omega)
                          omega
                        have hr_625 : (400 * ((Mv 5) : Int32).toInt + ((Mf 3) (Mv 5).toNatClampNeg).toInt) ≤ (400 * ((Mv 5) : Int32).toInt + ((Mf 3) (Mv 5).toNatClampNeg).toInt) := by
                          have z_1 : ¬ (r_13 : Int32).toInt = (0 : Int32).toInt := fun z => c_18 (Int32.toInt_inj.mp z)
                          have z_2 : ¬ (r_31 : Int32).toInt = (60 : Int32).toInt := fun z => c_34 (Int32.toInt_inj.mp z)
                          have z_3 : ¬ (r_31 : Int32).toInt = (61 : Int32).toInt := fun z => c_378 (Int32.toInt_inj.mp z)
                          have z_4 := congrArg Int32.toInt c_464
                          have z_5 : ¬ (r_31 : Int32).toInt = (61 : Int32).toInt := fun z => c_466 (Int32.toInt_inj.mp z)
                          have z_6 := Int32.lt_iff_toInt_lt.mp (Int32.not_le.mp c_467)
                          have z_7 : ¬ (x_553 : Int32).toInt = (61 : Int32).toInt := fun z => c_554 (Int32.toInt_inj.mp z)
                          have z_8 : ¬ (r_565 : Int32).toInt = (0 : Int32).toInt := fun z => c_570 (Int32.toInt_inj.mp z)
                          have z_9 : ¬ (r_31 : Int32).toInt = (60 : Int32).toInt := fun z => c_571 (Int32.toInt_inj.mp z)
                          have z_10 : ¬ (r_31 : Int32).toInt = (61 : Int32).toInt := fun z => c_572 (Int32.toInt_inj.mp z)
                          have z_11 := congrArg Int32.toInt c_595
                          have y_0 : (0 : Int32).toInt = 0 := by decide
                          have y_60 : (60 : Int32).toInt = 60 := by decide
                          have y_61 : (61 : Int32).toInt = 61 := by decide
                          have y_62 : (62 : Int32).toInt = 62 := by decide
                          have y_1 : (1 : Int32).toInt = 1 := by decide
                          have t_x_465 : x_465.toInt = (sv_26 : Int32).toInt + (1 : Int32).toInt := by rw [ex_465]; exact add_toInt (by omega) (by omega)
                          omega
                        have hr_626 : (400 * ((Mv 5) : Int32).toInt + ((Mf 3) (Mv 5).toNatClampNeg).toInt) ≤ (400 * ((Mv 5) : Int32).toInt + (sv_9 (Mv 5).toNatClampNeg).toInt) := by
                          have z_1 : ¬ (r_13 : Int32).toInt = (0 : Int32).toInt := fun z => c_18 (Int32.toInt_inj.mp z)
                          have z_2 : ¬ (r_31 : Int32).toInt = (60 : Int32).toInt := fun z => c_34 (Int32.toInt_inj.mp z)
                          have z_3 : ¬ (r_31 : Int32).toInt = (61 : Int32).toInt := fun z => c_378 (Int32.toInt_inj.mp z)
                          have z_4 := congrArg Int32.toInt c_464
                          have z_5 : ¬ (r_31 : Int32).toInt = (61 : Int32).toInt := fun z => c_466 (Int32.toInt_inj.mp z)
                          have z_6 := Int32.lt_iff_toInt_lt.mp (Int32.not_le.mp c_467)
                          have z_7 : ¬ (x_553 : Int32).toInt = (61 : Int32).toInt := fun z => c_554 (Int32.toInt_inj.mp z)
                          have z_8 : ¬ (r_565 : Int32).toInt = (0 : Int32).toInt := fun z => c_570 (Int32.toInt_inj.mp z)
                          have z_9 : ¬ (r_31 : Int32).toInt = (60 : Int32).toInt := fun z => c_571 (Int32.toInt_inj.mp z)
                          have z_10 : ¬ (r_31 : Int32).toInt = (61 : Int32).toInt := fun z => c_572 (Int32.toInt_inj.mp z)
                          have z_11 := congrArg Int32.toInt c_595
                          have y_0 : (0 : Int32).toInt = 0 := by decide
                          have y_60 : (60 : Int32).toInt = 60 := by decide
                          have y_61 : (61 : Int32).toInt = 61 := by decide
                          have y_62 : (62 : Int32).toInt = 62 := by decide
                          have y_1 : (1 : Int32).toInt = 1 := by decide
                          have t_x_465 : x_465.toInt = (sv_26 : Int32).toInt + (1 : Int32).toInt := by rw [ex_465]; exact add_toInt (by omega) (by omega)
                          omega
                        have hp_627 : (((0 : Int32).toInt = 0 ∧ ¬ (sv_582 : Int32).toInt = 0) ∨ ((0 : Int32).toInt = 1 ∧ ((Mf 3) (Mv 5).toNatClampNeg).toInt + 1 ≤ (sv_586 (Mv 5).toNatClampNeg).toInt ∧ (sv_586 (Mv 5).toNatClampNeg).toInt + ((Mv 2) : Int32).toInt ≤ ((Mf 3) (Mv 5).toNatClampNeg).toInt + (sv_581 : Int32).toInt ∧ ((Mv 2) : Int32).toInt + 1 ≤ (sv_581 : Int32).toInt)) := by
                          have z_1 : ¬ (r_13 : Int32).toInt = (0 : Int32).toInt := fun z => c_18 (Int32.toInt_inj.mp z)
                          have z_2 : ¬ (r_31 : Int32).toInt = (60 : Int32).toInt := fun z => c_34 (Int32.toInt_inj.mp z)
                          have z_3 : ¬ (r_31 : Int32).toInt = (61 : Int32).toInt := fun z => c_378 (Int32.toInt_inj.mp z)
                          have z_4 := congrArg Int32.toInt c_464
                          have z_5 : ¬ (r_31 : Int32).toInt = (61 : Int32).toInt := fun z => c_466 (Int32.toInt_inj.mp z)
                          have z_6 := Int32.lt_iff_toInt_lt.mp (Int32.not_le.mp c_467)
                          have z_7 : ¬ (x_553 : Int32).toInt = (61 : Int32).toInt := fun z => c_554 (Int32.toInt_inj.mp z)
                          have z_8 : ¬ (r_565 : Int32).toInt = (0 : Int32).toInt := fun z => c_570 (Int32.toInt_inj.mp z)
                          have z_9 : ¬ (r_31 : Int32).toInt = (60 : Int32).toInt := fun z => c_571 (Int32.toInt_inj.mp z)
                          have z_10 : ¬ (r_31 : Int32).toInt = (61 : Int32).toInt := fun z => c_572 (Int32.toInt_inj.mp z)
                          have z_11 := congrArg Int32.toInt c_595
                          have y_0 : (0 : Int32).toInt = 0 := by decide
                          have y_60 : (60 : Int32).toInt = 60 := by decide
                          have y_61 : (61 : Int32).toInt = 61 := by decide
                          have y_62 : (62 : Int32).toInt = 62 := by decide
                          have y_1 : (1 : Int32).toInt = 1 := by decide
                          have t_x_465 : x_465.toInt = (sv_26 : Int32).toInt + (1 : Int32).toInt := by rw [ex_465]; exact add_toInt (by omega) (by omega)
                          omega
                        have hm_628 : (0 : Int32).toInt = 0 → (RfE (pz_com (rB (Mf 1) (Mv 0)) (St0 (rB (Mf 1) (Mv 0)) (Mv 2) (Mv 6))) sv_582) := by
                          intro h1r
                          have hr_629 : (rB (Mf 1) (Mv 0) (sv_26 : Int32).toInt.toNat = 60 ∨ rB (Mf 1) (Mv 0) (sv_26 : Int32).toInt.toNat = 61 ∨ rB (Mf 1) (Mv 0) (sv_26 : Int32).toInt.toNat = 62) := by
                            have z_1 : ¬ (r_13 : Int32).toInt = (0 : Int32).toInt := fun z => c_18 (Int32.toInt_inj.mp z)
                            have z_2 : ¬ (r_31 : Int32).toInt = (60 : Int32).toInt := fun z => c_34 (Int32.toInt_inj.mp z)
                            have z_3 : ¬ (r_31 : Int32).toInt = (61 : Int32).toInt := fun z => c_378 (Int32.toInt_inj.mp z)
                            have z_4 := congrArg Int32.toInt c_464
                            have z_5 : ¬ (r_31 : Int32).toInt = (61 : Int32).toInt := fun z => c_466 (Int32.toInt_inj.mp z)
                            have z_6 := Int32.lt_iff_toInt_lt.mp (Int32.not_le.mp c_467)
                            have z_7 : ¬ (x_553 : Int32).toInt = (61 : Int32).toInt := fun z => c_554 (Int32.toInt_inj.mp z)
                            have z_8 : ¬ (r_565 : Int32).toInt = (0 : Int32).toInt := fun z => c_570 (Int32.toInt_inj.mp z)
                            have z_9 : ¬ (r_31 : Int32).toInt = (60 : Int32).toInt := fun z => c_571 (Int32.toInt_inj.mp z)
                            have z_10 : ¬ (r_31 : Int32).toInt = (61 : Int32).toInt := fun z => c_572 (Int32.toInt_inj.mp z)
                            have z_11 := congrArg Int32.toInt c_595
                            have y_0 : (0 : Int32).toInt = 0 := by decide
                            have y_60 : (60 : Int32).toInt = 60 := by decide
                            have y_61 : (61 : Int32).toInt = 61 := by decide
                            have y_62 : (62 : Int32).toInt = 62 := by decide
                            have y_1 : (1 : Int32).toInt = 1 := by decide
                            have t_x_465 : x_465.toInt = (sv_26 : Int32).toInt + (1 : Int32).toInt := by rw [ex_465]; exact add_toInt (by omega) (by omega)
                            omega
                          have rg_630 := rB_rg (n := (Mv 0)) h_bs ((sv_26 : Int32).toInt.toNat + 1)
                          have hk_631 : ((Mf 1) (x_465 : Int32).toInt.toNat).toInt = ((Mf 1) ((sv_26 : Int32).toInt.toNat + 1)).toInt := congrArg (fun z => ((Mf 1) z).toInt) (by
                            have z_1 : ¬ (r_13 : Int32).toInt = (0 : Int32).toInt := fun z => c_18 (Int32.toInt_inj.mp z)
                            have z_2 : ¬ (r_31 : Int32).toInt = (60 : Int32).toInt := fun z => c_34 (Int32.toInt_inj.mp z)
                            have z_3 : ¬ (r_31 : Int32).toInt = (61 : Int32).toInt := fun z => c_378 (Int32.toInt_inj.mp z)
                            have z_4 := congrArg Int32.toInt c_464
                            have z_5 : ¬ (r_31 : Int32).toInt = (61 : Int32).toInt := fun z => c_466 (Int32.toInt_inj.mp z)
                            have z_6 := Int32.lt_iff_toInt_lt.mp (Int32.not_le.mp c_467)
                            have z_7 : ¬ (x_553 : Int32).toInt = (61 : Int32).toInt := fun z => c_554 (Int32.toInt_inj.mp z)
                            have z_8 : ¬ (r_565 : Int32).toInt = (0 : Int32).toInt := fun z => c_570 (Int32.toInt_inj.mp z)
                            have z_9 : ¬ (r_31 : Int32).toInt = (60 : Int32).toInt := fun z => c_571 (Int32.toInt_inj.mp z)
                            have z_10 : ¬ (r_31 : Int32).toInt = (61 : Int32).toInt := fun z => c_572 (Int32.toInt_inj.mp z)
                            have z_11 := congrArg Int32.toInt c_595
                            have y_0 : (0 : Int32).toInt = 0 := by decide
                            have y_60 : (60 : Int32).toInt = 60 := by decide
                            have y_61 : (61 : Int32).toInt = 61 := by decide
                            have y_62 : (62 : Int32).toInt = 62 := by decide
                            have y_1 : (1 : Int32).toInt = 1 := by decide
                            have t_x_465 : x_465.toInt = (sv_26 : Int32).toInt + (1 : Int32).toInt := by rw [ex_465]; exact add_toInt (by omega) (by omega)
                            omega)
                          have hr_632 : ((x_465 : Int32).toInt = (sv_26 : Int32).toInt + 1 ∧ ¬ ((rB (Mf 1) (Mv 0) (sv_26 : Int32).toInt.toNat = 60 ∨ rB (Mf 1) (Mv 0) (sv_26 : Int32).toInt.toNat = 62) ∧ rB (Mf 1) (Mv 0) ((sv_26 : Int32).toInt.toNat + 1) = 61)) ∨ ((x_465 : Int32).toInt = (sv_26 : Int32).toInt + 2 ∧ (rB (Mf 1) (Mv 0) (sv_26 : Int32).toInt.toNat = 60 ∨ rB (Mf 1) (Mv 0) (sv_26 : Int32).toInt.toNat = 62) ∧ rB (Mf 1) (Mv 0) ((sv_26 : Int32).toInt.toNat + 1) = 61) := by
                            have z_1 : ¬ (r_13 : Int32).toInt = (0 : Int32).toInt := fun z => c_18 (Int32.toInt_inj.mp z)
                            have z_2 : ¬ (r_31 : Int32).toInt = (60 : Int32).toInt := fun z => c_34 (Int32.toInt_inj.mp z)
                            have z_3 : ¬ (r_31 : Int32).toInt = (61 : Int32).toInt := fun z => c_378 (Int32.toInt_inj.mp z)
                            have z_4 := congrArg Int32.toInt c_464
                            have z_5 : ¬ (r_31 : Int32).toInt = (61 : Int32).toInt := fun z => c_466 (Int32.toInt_inj.mp z)
                            have z_6 := Int32.lt_iff_toInt_lt.mp (Int32.not_le.mp c_467)
                            have z_7 : ¬ (x_553 : Int32).toInt = (61 : Int32).toInt := fun z => c_554 (Int32.toInt_inj.mp z)
                            have z_8 : ¬ (r_565 : Int32).toInt = (0 : Int32).toInt := fun z => c_570 (Int32.toInt_inj.mp z)
                            have z_9 : ¬ (r_31 : Int32).toInt = (60 : Int32).toInt := fun z => c_571 (Int32.toInt_inj.mp z)
                            have z_10 : ¬ (r_31 : Int32).toInt = (61 : Int32).toInt := fun z => c_572 (Int32.toInt_inj.mp z)
                            have z_11 := congrArg Int32.toInt c_595
                            have y_0 : (0 : Int32).toInt = 0 := by decide
                            have y_60 : (60 : Int32).toInt = 60 := by decide
                            have y_61 : (61 : Int32).toInt = 61 := by decide
                            have y_62 : (62 : Int32).toInt = 62 := by decide
                            have y_1 : (1 : Int32).toInt = 1 := by decide
                            have t_x_465 : x_465.toInt = (sv_26 : Int32).toInt + (1 : Int32).toInt := by rw [ex_465]; exact add_toInt (by omega) (by omega)
                            omega
                          have hr_633 : 0 ≤ (sv_7 : Int32).toInt ∧ (sv_7 : Int32).toInt < 60 ∧ (sv_563 : Int32).toInt = (sv_7 : Int32).toInt + 1 := by
                            have z_1 : ¬ (r_13 : Int32).toInt = (0 : Int32).toInt := fun z => c_18 (Int32.toInt_inj.mp z)
                            have z_2 : ¬ (r_31 : Int32).toInt = (60 : Int32).toInt := fun z => c_34 (Int32.toInt_inj.mp z)
                            have z_3 : ¬ (r_31 : Int32).toInt = (61 : Int32).toInt := fun z => c_378 (Int32.toInt_inj.mp z)
                            have z_4 := congrArg Int32.toInt c_464
                            have z_5 : ¬ (r_31 : Int32).toInt = (61 : Int32).toInt := fun z => c_466 (Int32.toInt_inj.mp z)
                            have z_6 := Int32.lt_iff_toInt_lt.mp (Int32.not_le.mp c_467)
                            have z_7 : ¬ (x_553 : Int32).toInt = (61 : Int32).toInt := fun z => c_554 (Int32.toInt_inj.mp z)
                            have z_8 : ¬ (r_565 : Int32).toInt = (0 : Int32).toInt := fun z => c_570 (Int32.toInt_inj.mp z)
                            have z_9 : ¬ (r_31 : Int32).toInt = (60 : Int32).toInt := fun z => c_571 (Int32.toInt_inj.mp z)
                            have z_10 : ¬ (r_31 : Int32).toInt = (61 : Int32).toInt := fun z => c_572 (Int32.toInt_inj.mp z)
                            have z_11 := congrArg Int32.toInt c_595
                            have y_0 : (0 : Int32).toInt = 0 := by decide
                            have y_60 : (60 : Int32).toInt = 60 := by decide
                            have y_61 : (61 : Int32).toInt = 61 := by decide
                            have y_62 : (62 : Int32).toInt = 62 := by decide
                            have y_1 : (1 : Int32).toInt = 1 := by decide
                            have t_x_465 : x_465.toInt = (sv_26 : Int32).toInt + (1 : Int32).toInt := by rw [ex_465]; exact add_toInt (by omega) (by omega)
                            omega
                          exact (RfE.com2 pf_20 pf_30 hr_629 hr_632 hr_633 pf_621)
                        exact retI (v := 0) hx hb hr hlk (rfl) hP hD hS (sv_581, sv_582, sv_583, sv_584, sv_585, sv_586) ⟨_, rfl, hp_627, ha_623, ha_624, (Agr.trans (k' := (400 * ((Mv 5) : Int32).toInt + ((Mf 3) (Mv 5).toNatClampNeg).toInt)) (Agr.mono pf_12 hr_625) pf_589 ⟨Int.le_refl _, hr_626⟩), (fun h => absurd h (by decide)), hm_628⟩ [0, 1, 2, 3] rfl rfl dX12_compare_162 (Nat.le_of_ble_eq_true rfl) (Nat.le_of_ble_eq_true rfl) rfl
                    · skip
                      exfalso
                      have z_1 : ¬ (r_13 : Int32).toInt = (0 : Int32).toInt := fun z => c_18 (Int32.toInt_inj.mp z)
                      have z_2 : ¬ (r_31 : Int32).toInt = (60 : Int32).toInt := fun z => c_34 (Int32.toInt_inj.mp z)
                      have z_3 : ¬ (r_31 : Int32).toInt = (61 : Int32).toInt := fun z => c_378 (Int32.toInt_inj.mp z)
                      have z_4 := congrArg Int32.toInt c_464
                      have z_5 : ¬ (r_31 : Int32).toInt = (61 : Int32).toInt := fun z => c_466 (Int32.toInt_inj.mp z)
                      have z_6 := Int32.lt_iff_toInt_lt.mp (Int32.not_le.mp c_467)
                      have z_7 : ¬ (x_553 : Int32).toInt = (61 : Int32).toInt := fun z => c_554 (Int32.toInt_inj.mp z)
                      have z_8 : ¬ (r_565 : Int32).toInt = (0 : Int32).toInt := fun z => c_570 (Int32.toInt_inj.mp z)
                      have z_9 : ¬ (r_31 : Int32).toInt = (60 : Int32).toInt := fun z => c_571 (Int32.toInt_inj.mp z)
                      have z_10 := congrArg Int32.toInt c_572
                      have y_0 : (0 : Int32).toInt = 0 := by decide
                      have y_60 : (60 : Int32).toInt = 60 := by decide
                      have y_61 : (61 : Int32).toInt = 61 := by decide
                      have y_62 : (62 : Int32).toInt = 62 := by decide
                      have y_1 : (1 : Int32).toInt = 1 := by decide
                      have t_x_465 : x_465.toInt = (sv_26 : Int32).toInt + (1 : Int32).toInt := by rw [ex_465]; exact add_toInt (by omega) (by omega)
                      omega
                  · skip
                    exfalso
                    have z_1 : ¬ (r_13 : Int32).toInt = (0 : Int32).toInt := fun z => c_18 (Int32.toInt_inj.mp z)
                    have z_2 : ¬ (r_31 : Int32).toInt = (60 : Int32).toInt := fun z => c_34 (Int32.toInt_inj.mp z)
                    have z_3 : ¬ (r_31 : Int32).toInt = (61 : Int32).toInt := fun z => c_378 (Int32.toInt_inj.mp z)
                    have z_4 := congrArg Int32.toInt c_464
                    have z_5 : ¬ (r_31 : Int32).toInt = (61 : Int32).toInt := fun z => c_466 (Int32.toInt_inj.mp z)
                    have z_6 := Int32.lt_iff_toInt_lt.mp (Int32.not_le.mp c_467)
                    have z_7 : ¬ (x_553 : Int32).toInt = (61 : Int32).toInt := fun z => c_554 (Int32.toInt_inj.mp z)
                    have z_8 : ¬ (r_565 : Int32).toInt = (0 : Int32).toInt := fun z => c_570 (Int32.toInt_inj.mp z)
                    have z_9 := congrArg Int32.toInt c_571
                    have y_0 : (0 : Int32).toInt = 0 := by decide
                    have y_60 : (60 : Int32).toInt = 60 := by decide
                    have y_61 : (61 : Int32).toInt = 61 := by decide
                    have y_62 : (62 : Int32).toInt = 62 := by decide
                    have y_1 : (1 : Int32).toInt = 1 := by decide
                    have t_x_465 : x_465.toInt = (sv_26 : Int32).toInt + (1 : Int32).toInt := by rw [ex_465]; exact add_toInt (by omega) (by omega)
                    omega
                · skip
                  refine lv_iconst (v := 0) hx hb dX12_compare_113 (by decide) ?_
                  have ha_634 : ((Mv 2) : Int32).toInt ≤ (x_465 : Int32).toInt ∧ (x_465 : Int32).toInt ≤ ((Mv 0) : Int32).toInt := by
                    have z_1 : ¬ (r_13 : Int32).toInt = (0 : Int32).toInt := fun z => c_18 (Int32.toInt_inj.mp z)
                    have z_2 : ¬ (r_31 : Int32).toInt = (60 : Int32).toInt := fun z => c_34 (Int32.toInt_inj.mp z)
                    have z_3 : ¬ (r_31 : Int32).toInt = (61 : Int32).toInt := fun z => c_378 (Int32.toInt_inj.mp z)
                    have z_4 := congrArg Int32.toInt c_464
                    have z_5 : ¬ (r_31 : Int32).toInt = (61 : Int32).toInt := fun z => c_466 (Int32.toInt_inj.mp z)
                    have z_6 := Int32.lt_iff_toInt_lt.mp (Int32.not_le.mp c_467)
                    have z_7 : ¬ (x_553 : Int32).toInt = (61 : Int32).toInt := fun z => c_554 (Int32.toInt_inj.mp z)
                    have z_8 := congrArg Int32.toInt c_570
                    have y_0 : (0 : Int32).toInt = 0 := by decide
                    have y_60 : (60 : Int32).toInt = 60 := by decide
                    have y_61 : (61 : Int32).toInt = 61 := by decide
                    have y_62 : (62 : Int32).toInt = 62 := by decide
                    have y_1 : (1 : Int32).toInt = 1 := by decide
                    have t_x_465 : x_465.toInt = (sv_26 : Int32).toInt + (1 : Int32).toInt := by rw [ex_465]; exact add_toInt (by omega) (by omega)
                    omega
                  have ha_635 : ((Mv 6) : Int32).toInt ≤ (sv_563 : Int32).toInt ∧ (sv_563 : Int32).toInt ≤ 60 := by
                    have z_1 : ¬ (r_13 : Int32).toInt = (0 : Int32).toInt := fun z => c_18 (Int32.toInt_inj.mp z)
                    have z_2 : ¬ (r_31 : Int32).toInt = (60 : Int32).toInt := fun z => c_34 (Int32.toInt_inj.mp z)
                    have z_3 : ¬ (r_31 : Int32).toInt = (61 : Int32).toInt := fun z => c_378 (Int32.toInt_inj.mp z)
                    have z_4 := congrArg Int32.toInt c_464
                    have z_5 : ¬ (r_31 : Int32).toInt = (61 : Int32).toInt := fun z => c_466 (Int32.toInt_inj.mp z)
                    have z_6 := Int32.lt_iff_toInt_lt.mp (Int32.not_le.mp c_467)
                    have z_7 : ¬ (x_553 : Int32).toInt = (61 : Int32).toInt := fun z => c_554 (Int32.toInt_inj.mp z)
                    have z_8 := congrArg Int32.toInt c_570
                    have y_0 : (0 : Int32).toInt = 0 := by decide
                    have y_60 : (60 : Int32).toInt = 60 := by decide
                    have y_61 : (61 : Int32).toInt = 61 := by decide
                    have y_62 : (62 : Int32).toInt = 62 := by decide
                    have y_1 : (1 : Int32).toInt = 1 := by decide
                    have t_x_465 : x_465.toInt = (sv_26 : Int32).toInt + (1 : Int32).toInt := by rw [ex_465]; exact add_toInt (by omega) (by omega)
                    omega
                  have hp_636 : (((0 : Int32).toInt = 0 ∧ ¬ (sv_562 : Int32).toInt = 0) ∨ ((0 : Int32).toInt = 1 ∧ ((Mf 3) (Mv 5).toNatClampNeg).toInt + 1 ≤ (sv_9 (Mv 5).toNatClampNeg).toInt ∧ (sv_9 (Mv 5).toNatClampNeg).toInt + ((Mv 2) : Int32).toInt ≤ ((Mf 3) (Mv 5).toNatClampNeg).toInt + (x_465 : Int32).toInt ∧ ((Mv 2) : Int32).toInt + 1 ≤ (x_465 : Int32).toInt)) := by
                    have z_1 : ¬ (r_13 : Int32).toInt = (0 : Int32).toInt := fun z => c_18 (Int32.toInt_inj.mp z)
                    have z_2 : ¬ (r_31 : Int32).toInt = (60 : Int32).toInt := fun z => c_34 (Int32.toInt_inj.mp z)
                    have z_3 : ¬ (r_31 : Int32).toInt = (61 : Int32).toInt := fun z => c_378 (Int32.toInt_inj.mp z)
                    have z_4 := congrArg Int32.toInt c_464
                    have z_5 : ¬ (r_31 : Int32).toInt = (61 : Int32).toInt := fun z => c_466 (Int32.toInt_inj.mp z)
                    have z_6 := Int32.lt_iff_toInt_lt.mp (Int32.not_le.mp c_467)
                    have z_7 : ¬ (x_553 : Int32).toInt = (61 : Int32).toInt := fun z => c_554 (Int32.toInt_inj.mp z)
                    have z_8 := congrArg Int32.toInt c_570
                    have y_0 : (0 : Int32).toInt = 0 := by decide
                    have y_60 : (60 : Int32).toInt = 60 := by decide
                    have y_61 : (61 : Int32).toInt = 61 := by decide
                    have y_62 : (62 : Int32).toInt = 62 := by decide
                    have y_1 : (1 : Int32).toInt = 1 := by decide
                    have t_x_465 : x_465.toInt = (sv_26 : Int32).toInt + (1 : Int32).toInt := by rw [ex_465]; exact add_toInt (by omega) (by omega)
                    omega
                  have hm_637 : (0 : Int32).toInt = 0 → (RfE (pz_com (rB (Mf 1) (Mv 0)) (St0 (rB (Mf 1) (Mv 0)) (Mv 2) (Mv 6))) sv_562) := by
                    intro h1r
                    have hr_638 : (rB (Mf 1) (Mv 0) (sv_26 : Int32).toInt.toNat = 60 ∨ rB (Mf 1) (Mv 0) (sv_26 : Int32).toInt.toNat = 61 ∨ rB (Mf 1) (Mv 0) (sv_26 : Int32).toInt.toNat = 62) := by
                      have z_1 : ¬ (r_13 : Int32).toInt = (0 : Int32).toInt := fun z => c_18 (Int32.toInt_inj.mp z)
                      have z_2 : ¬ (r_31 : Int32).toInt = (60 : Int32).toInt := fun z => c_34 (Int32.toInt_inj.mp z)
                      have z_3 : ¬ (r_31 : Int32).toInt = (61 : Int32).toInt := fun z => c_378 (Int32.toInt_inj.mp z)
                      have z_4 := congrArg Int32.toInt c_464
                      have z_5 : ¬ (r_31 : Int32).toInt = (61 : Int32).toInt := fun z => c_466 (Int32.toInt_inj.mp z)
                      have z_6 := Int32.lt_iff_toInt_lt.mp (Int32.not_le.mp c_467)
                      have z_7 : ¬ (x_553 : Int32).toInt = (61 : Int32).toInt := fun z => c_554 (Int32.toInt_inj.mp z)
                      have z_8 := congrArg Int32.toInt c_570
                      have y_0 : (0 : Int32).toInt = 0 := by decide
                      have y_60 : (60 : Int32).toInt = 60 := by decide
                      have y_61 : (61 : Int32).toInt = 61 := by decide
                      have y_62 : (62 : Int32).toInt = 62 := by decide
                      have y_1 : (1 : Int32).toInt = 1 := by decide
                      have t_x_465 : x_465.toInt = (sv_26 : Int32).toInt + (1 : Int32).toInt := by rw [ex_465]; exact add_toInt (by omega) (by omega)
                      omega
                    have hr_639 : 60 ≤ (sv_7 : Int32).toInt := by
                      have z_1 : ¬ (r_13 : Int32).toInt = (0 : Int32).toInt := fun z => c_18 (Int32.toInt_inj.mp z)
                      have z_2 : ¬ (r_31 : Int32).toInt = (60 : Int32).toInt := fun z => c_34 (Int32.toInt_inj.mp z)
                      have z_3 : ¬ (r_31 : Int32).toInt = (61 : Int32).toInt := fun z => c_378 (Int32.toInt_inj.mp z)
                      have z_4 := congrArg Int32.toInt c_464
                      have z_5 : ¬ (r_31 : Int32).toInt = (61 : Int32).toInt := fun z => c_466 (Int32.toInt_inj.mp z)
                      have z_6 := Int32.lt_iff_toInt_lt.mp (Int32.not_le.mp c_467)
                      have z_7 : ¬ (x_553 : Int32).toInt = (61 : Int32).toInt := fun z => c_554 (Int32.toInt_inj.mp z)
                      have z_8 := congrArg Int32.toInt c_570
                      have y_0 : (0 : Int32).toInt = 0 := by decide
                      have y_60 : (60 : Int32).toInt = 60 := by decide
                      have y_61 : (61 : Int32).toInt = 61 := by decide
                      have y_62 : (62 : Int32).toInt = 62 := by decide
                      have y_1 : (1 : Int32).toInt = 1 := by decide
                      have t_x_465 : x_465.toInt = (sv_26 : Int32).toInt + (1 : Int32).toInt := by rw [ex_465]; exact add_toInt (by omega) (by omega)
                      omega
                    have hi_640 : (sv_562 : Int32).toInt = 1 + 8 * (sv_26 : Int32).toInt + 3 := by
                      have z_1 : ¬ (r_13 : Int32).toInt = (0 : Int32).toInt := fun z => c_18 (Int32.toInt_inj.mp z)
                      have z_2 : ¬ (r_31 : Int32).toInt = (60 : Int32).toInt := fun z => c_34 (Int32.toInt_inj.mp z)
                      have z_3 : ¬ (r_31 : Int32).toInt = (61 : Int32).toInt := fun z => c_378 (Int32.toInt_inj.mp z)
                      have z_4 := congrArg Int32.toInt c_464
                      have z_5 : ¬ (r_31 : Int32).toInt = (61 : Int32).toInt := fun z => c_466 (Int32.toInt_inj.mp z)
                      have z_6 := Int32.lt_iff_toInt_lt.mp (Int32.not_le.mp c_467)
                      have z_7 : ¬ (x_553 : Int32).toInt = (61 : Int32).toInt := fun z => c_554 (Int32.toInt_inj.mp z)
                      have z_8 := congrArg Int32.toInt c_570
                      have y_0 : (0 : Int32).toInt = 0 := by decide
                      have y_60 : (60 : Int32).toInt = 60 := by decide
                      have y_61 : (61 : Int32).toInt = 61 := by decide
                      have y_62 : (62 : Int32).toInt = 62 := by decide
                      have y_1 : (1 : Int32).toInt = 1 := by decide
                      have t_x_465 : x_465.toInt = (sv_26 : Int32).toInt + (1 : Int32).toInt := by rw [ex_465]; exact add_toInt (by omega) (by omega)
                      omega
                    exact (RfE.com3 pf_20 pf_30 hr_638 hr_639 hi_640)
                  exact retI (v := 0) hx hb hr hlk (rfl) hP hD hS (x_465, sv_562, sv_6, sv_563, sv_8, sv_9) ⟨_, rfl, hp_636, ha_634, ha_635, pf_12, (fun h => absurd h (by decide)), hm_637⟩ [3, 2, 0, 1] rfl rfl dX12_compare_114 (Nat.le_of_ble_eq_true rfl) (Nat.le_of_ble_eq_true rfl) rfl
              · skip
                refine lv_iconst (v := 1) hx hb dX12_compare_85 (by decide) ?_
                refine lv_goto (tgt := 90) hx hb dX12_compare_86 (by decide) ?_
                refine lv_istore_n (lv' := [(3, .int 1), (2, .int sv_26), (1, .int r_31), (0, .ref (Ma 0))]) hx hb dX12_compare_90 rfl hl (by decide) rfl (fun ls hl₀ => ?_)
                replace hl := hl₀
                clear hl₀
                refine lv_iload_n hx hb dX12_compare_91 rfl (lv_at hl 0 rfl) ?_
                refine lv_if_eq (tgt := 105) hx hb dX12_compare_92 (by decide) (fun c_641 => absurd c_641 (by decide)) (fun c_641 => ?_)
                refine lv_aload_n hx hb dX12_compare_95 rfl (lv_at hl 3 rfl) ?_
                refine lv_dup hx hb dX12_compare_96 rfl ?_
                refine gf_X12_87 hx hb hts hown hK hP 2 rfl rfl dX12_compare_97 ?_
                refine lv_iconst (v := 1) hx hb dX12_compare_100 (by decide) ?_
                refine lv_iadd hx hb dX12_compare_101 ?_
                refine lv_topi (fun x_642 ex_642 => ?_)
                refine pf_X12_87 hx hb hts hown hK hP hD hS 2 rfl (Nat.le_of_ble_eq_true rfl) rfl rfl dX12_compare_102 (fun H locs hP₀ hD₀ hS₀ => ?_)
                replace hP : va_P D classes [((Ma 2), .inl (tc 0, 2400, .inl sv_8)), ((Ma 3), .inl (tc 0, 7, .inl sv_9)), ((Ma 0), .inr (12, [.ref (Ma 1), .int (Mv 0), .int (Mv 1), .ref (Ma 2), .ref (Ma 3), .ref (Ma 4), .ref (Ma 5), .ref (Ma 6), .int x_642, .int sv_5, .int sv_6, .int (Mv 5), .int sv_7, .int (Mv 7), .int (Mv 8), .ref (Ma 7), .int (Mv 9), .ref (Ma 8), .int (Mv 10), .ref (Ma 9), .ref (Ma 10), .int (Mv 11), .int (Mv 12), .int (Mv 13), .ref (Ma 11), .int (Mv 14), .ref (Ma 12), .ref (Ma 13), .ref (Ma 14), .ref (Ma 15), .ref (Ma 16), .long (Mj 0), .ref (Ma 17), .ref (Ma 18), .ref (Ma 19), .ref (Ma 20)])), ((Ma 1), .inl (tc 2, 400, .inl (Mf 1)))] H := hP₀
                replace hD : va_D A [((Ma 2), .inl (tc 0, 2400, .inl sv_8)), ((Ma 3), .inl (tc 0, 7, .inl sv_9)), ((Ma 0), .inr (12, [.ref (Ma 1), .int (Mv 0), .int (Mv 1), .ref (Ma 2), .ref (Ma 3), .ref (Ma 4), .ref (Ma 5), .ref (Ma 6), .int x_642, .int sv_5, .int sv_6, .int (Mv 5), .int sv_7, .int (Mv 7), .int (Mv 8), .ref (Ma 7), .int (Mv 9), .ref (Ma 8), .int (Mv 10), .ref (Ma 9), .ref (Ma 10), .int (Mv 11), .int (Mv 12), .int (Mv 13), .ref (Ma 11), .int (Mv 14), .ref (Ma 12), .ref (Ma 13), .ref (Ma 14), .ref (Ma 15), .ref (Ma 16), .long (Mj 0), .ref (Ma 17), .ref (Ma 18), .ref (Ma 19), .ref (Ma 20)])), ((Ma 1), .inl (tc 2, 400, .inl (Mf 1)))] := hD₀
                replace hS := hS₀
                clear hP₀ hD₀ hS₀
                have tp_x_642 : (x_642 : Int32).toInt = (x_465 : Int32).toInt + 1 := by
                  have z_1 : ¬ (r_13 : Int32).toInt = (0 : Int32).toInt := fun z => c_18 (Int32.toInt_inj.mp z)
                  have z_2 : ¬ (r_31 : Int32).toInt = (60 : Int32).toInt := fun z => c_34 (Int32.toInt_inj.mp z)
                  have z_3 : ¬ (r_31 : Int32).toInt = (61 : Int32).toInt := fun z => c_378 (Int32.toInt_inj.mp z)
                  have z_4 := congrArg Int32.toInt c_464
                  have z_5 : ¬ (r_31 : Int32).toInt = (61 : Int32).toInt := fun z => c_466 (Int32.toInt_inj.mp z)
                  have z_6 := Int32.lt_iff_toInt_lt.mp (Int32.not_le.mp c_467)
                  have z_7 := congrArg Int32.toInt c_554
                  have y_0 : (0 : Int32).toInt = 0 := by decide
                  have y_60 : (60 : Int32).toInt = 60 := by decide
                  have y_61 : (61 : Int32).toInt = 61 := by decide
                  have y_62 : (62 : Int32).toInt = 62 := by decide
                  have y_1 : (1 : Int32).toInt = 1 := by decide
                  have t_x_465 : x_465.toInt = (sv_26 : Int32).toInt + (1 : Int32).toInt := by rw [ex_465]; exact add_toInt (by omega) (by omega)
                  have t_x_642 : x_642.toInt = (x_465 : Int32).toInt + (1 : Int32).toInt := by rw [ex_642]; exact add_toInt (by omega) (by omega)
                  omega
                refine lv_aload_n hx hb dX12_compare_105 rfl (lv_at hl 3 rfl) ?_
                refine lv_iload_n hx hb dX12_compare_106 rfl (lv_at hl 1 rfl) ?_
                have ha_643 : 0 ≤ sv_26.toInt ∧ sv_26.toInt ≤ 400 := by
                  have z_1 : ¬ (r_13 : Int32).toInt = (0 : Int32).toInt := fun z => c_18 (Int32.toInt_inj.mp z)
                  have z_2 : ¬ (r_31 : Int32).toInt = (60 : Int32).toInt := fun z => c_34 (Int32.toInt_inj.mp z)
                  have z_3 : ¬ (r_31 : Int32).toInt = (61 : Int32).toInt := fun z => c_378 (Int32.toInt_inj.mp z)
                  have z_4 := congrArg Int32.toInt c_464
                  have z_5 : ¬ (r_31 : Int32).toInt = (61 : Int32).toInt := fun z => c_466 (Int32.toInt_inj.mp z)
                  have z_6 := Int32.lt_iff_toInt_lt.mp (Int32.not_le.mp c_467)
                  have z_7 := congrArg Int32.toInt c_554
                  have y_0 : (0 : Int32).toInt = 0 := by decide
                  have y_60 : (60 : Int32).toInt = 60 := by decide
                  have y_61 : (61 : Int32).toInt = 61 := by decide
                  have y_62 : (62 : Int32).toInt = 62 := by decide
                  have y_1 : (1 : Int32).toInt = 1 := by decide
                  have t_x_465 : x_465.toInt = (sv_26 : Int32).toInt + (1 : Int32).toInt := by rw [ex_465]; exact add_toInt (by omega) (by omega)
                  omega
                have ha_644 : 0 ≤ (sv_7 : Int32).toInt ∧ (sv_7 : Int32).toInt ≤ 60 := by
                  have z_1 : ¬ (r_13 : Int32).toInt = (0 : Int32).toInt := fun z => c_18 (Int32.toInt_inj.mp z)
                  have z_2 : ¬ (r_31 : Int32).toInt = (60 : Int32).toInt := fun z => c_34 (Int32.toInt_inj.mp z)
                  have z_3 : ¬ (r_31 : Int32).toInt = (61 : Int32).toInt := fun z => c_378 (Int32.toInt_inj.mp z)
                  have z_4 := congrArg Int32.toInt c_464
                  have z_5 : ¬ (r_31 : Int32).toInt = (61 : Int32).toInt := fun z => c_466 (Int32.toInt_inj.mp z)
                  have z_6 := Int32.lt_iff_toInt_lt.mp (Int32.not_le.mp c_467)
                  have z_7 := congrArg Int32.toInt c_554
                  have y_0 : (0 : Int32).toInt = 0 := by decide
                  have y_60 : (60 : Int32).toInt = 60 := by decide
                  have y_61 : (61 : Int32).toInt = 61 := by decide
                  have y_62 : (62 : Int32).toInt = 62 := by decide
                  have y_1 : (1 : Int32).toInt = 1 := by decide
                  have t_x_465 : x_465.toInt = (sv_26 : Int32).toInt + (1 : Int32).toInt := by rw [ex_465]; exact add_toInt (by omega) (by omega)
                  omega
                have ha_645 : (sv_5 : Int32).toInt = 0 := by
                  have z_1 : ¬ (r_13 : Int32).toInt = (0 : Int32).toInt := fun z => c_18 (Int32.toInt_inj.mp z)
                  have z_2 : ¬ (r_31 : Int32).toInt = (60 : Int32).toInt := fun z => c_34 (Int32.toInt_inj.mp z)
                  have z_3 : ¬ (r_31 : Int32).toInt = (61 : Int32).toInt := fun z => c_378 (Int32.toInt_inj.mp z)
                  have z_4 := congrArg Int32.toInt c_464
                  have z_5 : ¬ (r_31 : Int32).toInt = (61 : Int32).toInt := fun z => c_466 (Int32.toInt_inj.mp z)
                  have z_6 := Int32.lt_iff_toInt_lt.mp (Int32.not_le.mp c_467)
                  have z_7 := congrArg Int32.toInt c_554
                  have y_0 : (0 : Int32).toInt = 0 := by decide
                  have y_60 : (60 : Int32).toInt = 60 := by decide
                  have y_61 : (61 : Int32).toInt = 61 := by decide
                  have y_62 : (62 : Int32).toInt = 62 := by decide
                  have y_1 : (1 : Int32).toInt = 1 := by decide
                  have t_x_465 : x_465.toInt = (sv_26 : Int32).toInt + (1 : Int32).toInt := by rw [ex_465]; exact add_toInt (by omega) (by omega)
                  omega
                refine cV (a := (Ma 0)) (As := [.int sv_26]) (rest := []) (wr := [((Ma 2), .inl (tc 0, 2400, .inl sv_8)), ((Ma 3), .inl (tc 0, 7, .inl sv_9)), ((Ma 1), .inl (tc 2, 400, .inl (Mf 1)))]) ⟨hx, hb, hml, hown, hts⟩ hK hX hA (cu_fX12_makes l D tc sk (Ma 0) (Ma 1) (Ma 2) (Ma 3) (Ma 4) (Ma 5) (Ma 6) (Ma 7) (Ma 8) (Ma 9) (Ma 10) (Ma 11) (Ma 12) (Ma 13) (Ma 14) (Ma 15) (Ma 16) (Ma 17) (Ma 18) (Ma 19) (Ma 20) (Mv 0) (Mv 1) x_642 sv_5 sv_6 (Mv 5) sv_7 (Mv 7) (Mv 8) (Mv 9) (Mv 10) (Mv 11) (Mv 12) (Mv 13) (Mv 14) (Mj 0) sv_26 ha_643 ha_644 ha_645) k_1292 k_1289 k_1291 k_45 k_106 pl_X12_makes ⟨Nat.le_of_ble_eq_true rfl, Nat.le_of_ble_eq_true rfl⟩ rfl rfl (va_recv hK hP (ci := 12) (q0 := 2) rfl rfl) hP hD hS [2] [0, 1, 3] rfl rfl rfl rfl rfl (by decide) rfl hl.1 rfl (Nat.le_of_ble_eq_true rfl) dX12_compare_107 ⟨Nat.le_of_ble_eq_true rfl, Nat.le_of_ble_eq_true rfl⟩ (fun v_646 u_647 H locs hv_648 hP₀ hD₀ hS₀ => ?_)
                obtain ⟨sv_649, sv_650⟩ := u_647
                obtain ⟨r_652, rfl, he_653, pf_651⟩ := hv_648
                have he_653 : ((r_652.toInt = 0 ∧ ¬ (sv_649 : Int32).toInt = 0 ∧ sv_7.toInt = 60 ∧ (sv_649 : Int32).toInt = 1 + 8 * sv_26.toInt + 3) ∨ (r_652.toInt = 1 ∧ (sv_650 : Int32).toInt = sv_7.toInt + 1 ∧ sv_7.toInt < 60 ∧ (sv_649 : Int32).toInt = 0)) := he_653
                have pf_651 : (sv_7 : Int32).toInt ≤ (sv_650 : Int32).toInt ∧ (sv_650 : Int32).toInt ≤ 60 := pf_651
                refine W.eq (g2 := F0 m 110 ls [.int r_652]) rfl ?_
                replace hP : va_P D classes [((Ma 2), .inl (tc 0, 2400, .inl sv_8)), ((Ma 3), .inl (tc 0, 7, .inl sv_9)), ((Ma 1), .inl (tc 2, 400, .inl (Mf 1))), ((Ma 0), .inr (12, [.ref (Ma 1), .int (Mv 0), .int (Mv 1), .ref (Ma 2), .ref (Ma 3), .ref (Ma 4), .ref (Ma 5), .ref (Ma 6), .int x_642, .int sv_649, .int sv_6, .int (Mv 5), .int sv_650, .int (Mv 7), .int (Mv 8), .ref (Ma 7), .int (Mv 9), .ref (Ma 8), .int (Mv 10), .ref (Ma 9), .ref (Ma 10), .int (Mv 11), .int (Mv 12), .int (Mv 13), .ref (Ma 11), .int (Mv 14), .ref (Ma 12), .ref (Ma 13), .ref (Ma 14), .ref (Ma 15), .ref (Ma 16), .long (Mj 0), .ref (Ma 17), .ref (Ma 18), .ref (Ma 19), .ref (Ma 20)]))] H := hP₀
                replace hD : va_D A [((Ma 2), .inl (tc 0, 2400, .inl sv_8)), ((Ma 3), .inl (tc 0, 7, .inl sv_9)), ((Ma 1), .inl (tc 2, 400, .inl (Mf 1))), ((Ma 0), .inr (12, [.ref (Ma 1), .int (Mv 0), .int (Mv 1), .ref (Ma 2), .ref (Ma 3), .ref (Ma 4), .ref (Ma 5), .ref (Ma 6), .int x_642, .int sv_649, .int sv_6, .int (Mv 5), .int sv_650, .int (Mv 7), .int (Mv 8), .ref (Ma 7), .int (Mv 9), .ref (Ma 8), .int (Mv 10), .ref (Ma 9), .ref (Ma 10), .int (Mv 11), .int (Mv 12), .int (Mv 13), .ref (Ma 11), .int (Mv 14), .ref (Ma 12), .ref (Ma 13), .ref (Ma 14), .ref (Ma 15), .ref (Ma 16), .long (Mj 0), .ref (Ma 17), .ref (Ma 18), .ref (Ma 19), .ref (Ma 20)]))] := hD₀
                replace hS := hS₀
                clear hP₀ hD₀ hS₀
                have hr_656 : (sv_7 : Int32).toInt ≤ (sv_650 : Int32).toInt ∧ (sv_650 : Int32).toInt ≤ 60 := by
                  have z_1 : ¬ (r_13 : Int32).toInt = (0 : Int32).toInt := fun z => c_18 (Int32.toInt_inj.mp z)
                  have z_2 : ¬ (r_31 : Int32).toInt = (60 : Int32).toInt := fun z => c_34 (Int32.toInt_inj.mp z)
                  have z_3 : ¬ (r_31 : Int32).toInt = (61 : Int32).toInt := fun z => c_378 (Int32.toInt_inj.mp z)
                  have z_4 := congrArg Int32.toInt c_464
                  have z_5 : ¬ (r_31 : Int32).toInt = (61 : Int32).toInt := fun z => c_466 (Int32.toInt_inj.mp z)
                  have z_6 := Int32.lt_iff_toInt_lt.mp (Int32.not_le.mp c_467)
                  have z_7 := congrArg Int32.toInt c_554
                  have y_0 : (0 : Int32).toInt = 0 := by decide
                  have y_60 : (60 : Int32).toInt = 60 := by decide
                  have y_61 : (61 : Int32).toInt = 61 := by decide
                  have y_62 : (62 : Int32).toInt = 62 := by decide
                  have y_1 : (1 : Int32).toInt = 1 := by decide
                  have t_x_465 : x_465.toInt = (sv_26 : Int32).toInt + (1 : Int32).toInt := by rw [ex_465]; exact add_toInt (by omega) (by omega)
                  omega
                have pf_655 : Cd sv_8 sv_9 (Mv 5) b sv_650 (d + 1) := Cd.mono pf_19 hr_656
                have ar_pf_655 := Cd.ar pf_655
                refine lv_if_ne (tgt := 115) hx hb dX12_compare_110 (by decide) (fun c_657 => ?_) (fun c_657 => ?_)
                · skip
                  refine lv_iload_n hx hb dX12_compare_115 rfl (lv_at hl 2 rfl) ?_
                  refine lv_bipush (v := 60) hx hb dX12_compare_116 (by decide) ?_
                  refine lv_icmp_ne (tgt := 133) hx hb dX12_compare_118 (by decide) (fun c_658 => ?_) (fun c_658 => ?_)
                  · skip
                    refine lv_iload_n hx hb dX12_compare_133 rfl (lv_at hl 2 rfl) ?_
                    refine lv_bipush (v := 61) hx hb dX12_compare_134 (by decide) ?_
                    refine lv_icmp_ne (tgt := 143) hx hb dX12_compare_136 (by decide) (fun c_659 => ?_) (fun c_659 => ?_)
                    · skip
                      refine lv_iload_n hx hb dX12_compare_143 rfl (lv_at hl 0 rfl) ?_
                      refine lv_if_eq (tgt := 151) hx hb dX12_compare_144 (by decide) (fun c_660 => absurd c_660 (by decide)) (fun c_660 => ?_)
                      refine lv_iconst (v := 3) hx hb dX12_compare_147 (by decide) ?_
                      refine lv_goto (tgt := 152) hx hb dX12_compare_148 (by decide) ?_
                      refine lv_istore (lv' := [(4, .int 3), (3, .int 1), (2, .int sv_26), (1, .int r_31), (0, .ref (Ma 0))]) hx hb dX12_compare_152 hl (by decide) rfl (fun ls hl₀ => ?_)
                      replace hl := hl₀
                      clear hl₀
                      refine lv_aload_n hx hb dX12_compare_154 rfl (lv_at hl 4 rfl) ?_
                      have ha_661 : 0 ≤ (x_642 : Int32).toInt ∧ (x_642 : Int32).toInt ≤ ((Mv 0) : Int32).toInt ∧ ((Mv 0) : Int32).toInt ≤ 400 := by
                        have z_1 : ¬ (r_13 : Int32).toInt = (0 : Int32).toInt := fun z => c_18 (Int32.toInt_inj.mp z)
                        have z_2 : ¬ (r_31 : Int32).toInt = (60 : Int32).toInt := fun z => c_34 (Int32.toInt_inj.mp z)
                        have z_3 : ¬ (r_31 : Int32).toInt = (61 : Int32).toInt := fun z => c_378 (Int32.toInt_inj.mp z)
                        have z_4 := congrArg Int32.toInt c_464
                        have z_5 : ¬ (r_31 : Int32).toInt = (61 : Int32).toInt := fun z => c_466 (Int32.toInt_inj.mp z)
                        have z_6 := Int32.lt_iff_toInt_lt.mp (Int32.not_le.mp c_467)
                        have z_7 := congrArg Int32.toInt c_554
                        have z_8 : ¬ (r_652 : Int32).toInt = (0 : Int32).toInt := fun z => c_657 (Int32.toInt_inj.mp z)
                        have z_9 : ¬ (r_31 : Int32).toInt = (60 : Int32).toInt := fun z => c_658 (Int32.toInt_inj.mp z)
                        have z_10 : ¬ (r_31 : Int32).toInt = (61 : Int32).toInt := fun z => c_659 (Int32.toInt_inj.mp z)
                        have y_0 : (0 : Int32).toInt = 0 := by decide
                        have y_60 : (60 : Int32).toInt = 60 := by decide
                        have y_61 : (61 : Int32).toInt = 61 := by decide
                        have y_62 : (62 : Int32).toInt = 62 := by decide
                        have y_1 : (1 : Int32).toInt = 1 := by decide
                        have t_x_465 : x_465.toInt = (sv_26 : Int32).toInt + (1 : Int32).toInt := by rw [ex_465]; exact add_toInt (by omega) (by omega)
                        have t_x_642 : x_642.toInt = (x_465 : Int32).toInt + (1 : Int32).toInt := by rw [ex_642]; exact add_toInt (by omega) (by omega)
                        omega
                      have ha_662 : (sv_9 (Mv 5).toNatClampNeg).toInt ≤ (x_642 : Int32).toInt := by
                        have z_1 : ¬ (r_13 : Int32).toInt = (0 : Int32).toInt := fun z => c_18 (Int32.toInt_inj.mp z)
                        have z_2 : ¬ (r_31 : Int32).toInt = (60 : Int32).toInt := fun z => c_34 (Int32.toInt_inj.mp z)
                        have z_3 : ¬ (r_31 : Int32).toInt = (61 : Int32).toInt := fun z => c_378 (Int32.toInt_inj.mp z)
                        have z_4 := congrArg Int32.toInt c_464
                        have z_5 : ¬ (r_31 : Int32).toInt = (61 : Int32).toInt := fun z => c_466 (Int32.toInt_inj.mp z)
                        have z_6 := Int32.lt_iff_toInt_lt.mp (Int32.not_le.mp c_467)
                        have z_7 := congrArg Int32.toInt c_554
                        have z_8 : ¬ (r_652 : Int32).toInt = (0 : Int32).toInt := fun z => c_657 (Int32.toInt_inj.mp z)
                        have z_9 : ¬ (r_31 : Int32).toInt = (60 : Int32).toInt := fun z => c_658 (Int32.toInt_inj.mp z)
                        have z_10 : ¬ (r_31 : Int32).toInt = (61 : Int32).toInt := fun z => c_659 (Int32.toInt_inj.mp z)
                        have y_0 : (0 : Int32).toInt = 0 := by decide
                        have y_60 : (60 : Int32).toInt = 60 := by decide
                        have y_61 : (61 : Int32).toInt = 61 := by decide
                        have y_62 : (62 : Int32).toInt = 62 := by decide
                        have y_1 : (1 : Int32).toInt = 1 := by decide
                        have t_x_465 : x_465.toInt = (sv_26 : Int32).toInt + (1 : Int32).toInt := by rw [ex_465]; exact add_toInt (by omega) (by omega)
                        have t_x_642 : x_642.toInt = (x_465 : Int32).toInt + (1 : Int32).toInt := by rw [ex_642]; exact add_toInt (by omega) (by omega)
                        omega
                      have ha_663 : 0 ≤ (sv_650 : Int32).toInt ∧ (sv_650 : Int32).toInt ≤ 60 := by
                        have z_1 : ¬ (r_13 : Int32).toInt = (0 : Int32).toInt := fun z => c_18 (Int32.toInt_inj.mp z)
                        have z_2 : ¬ (r_31 : Int32).toInt = (60 : Int32).toInt := fun z => c_34 (Int32.toInt_inj.mp z)
                        have z_3 : ¬ (r_31 : Int32).toInt = (61 : Int32).toInt := fun z => c_378 (Int32.toInt_inj.mp z)
                        have z_4 := congrArg Int32.toInt c_464
                        have z_5 : ¬ (r_31 : Int32).toInt = (61 : Int32).toInt := fun z => c_466 (Int32.toInt_inj.mp z)
                        have z_6 := Int32.lt_iff_toInt_lt.mp (Int32.not_le.mp c_467)
                        have z_7 := congrArg Int32.toInt c_554
                        have z_8 : ¬ (r_652 : Int32).toInt = (0 : Int32).toInt := fun z => c_657 (Int32.toInt_inj.mp z)
                        have z_9 : ¬ (r_31 : Int32).toInt = (60 : Int32).toInt := fun z => c_658 (Int32.toInt_inj.mp z)
                        have z_10 : ¬ (r_31 : Int32).toInt = (61 : Int32).toInt := fun z => c_659 (Int32.toInt_inj.mp z)
                        have y_0 : (0 : Int32).toInt = 0 := by decide
                        have y_60 : (60 : Int32).toInt = 60 := by decide
                        have y_61 : (61 : Int32).toInt = 61 := by decide
                        have y_62 : (62 : Int32).toInt = 62 := by decide
                        have y_1 : (1 : Int32).toInt = 1 := by decide
                        have t_x_465 : x_465.toInt = (sv_26 : Int32).toInt + (1 : Int32).toInt := by rw [ex_465]; exact add_toInt (by omega) (by omega)
                        omega
                      have ha_664 : (sv_649 : Int32).toInt = 0 := by
                        have z_1 : ¬ (r_13 : Int32).toInt = (0 : Int32).toInt := fun z => c_18 (Int32.toInt_inj.mp z)
                        have z_2 : ¬ (r_31 : Int32).toInt = (60 : Int32).toInt := fun z => c_34 (Int32.toInt_inj.mp z)
                        have z_3 : ¬ (r_31 : Int32).toInt = (61 : Int32).toInt := fun z => c_378 (Int32.toInt_inj.mp z)
                        have z_4 := congrArg Int32.toInt c_464
                        have z_5 : ¬ (r_31 : Int32).toInt = (61 : Int32).toInt := fun z => c_466 (Int32.toInt_inj.mp z)
                        have z_6 := Int32.lt_iff_toInt_lt.mp (Int32.not_le.mp c_467)
                        have z_7 := congrArg Int32.toInt c_554
                        have z_8 : ¬ (r_652 : Int32).toInt = (0 : Int32).toInt := fun z => c_657 (Int32.toInt_inj.mp z)
                        have z_9 : ¬ (r_31 : Int32).toInt = (60 : Int32).toInt := fun z => c_658 (Int32.toInt_inj.mp z)
                        have z_10 : ¬ (r_31 : Int32).toInt = (61 : Int32).toInt := fun z => c_659 (Int32.toInt_inj.mp z)
                        have y_0 : (0 : Int32).toInt = 0 := by decide
                        have y_60 : (60 : Int32).toInt = 60 := by decide
                        have y_61 : (61 : Int32).toInt = 61 := by decide
                        have y_62 : (62 : Int32).toInt = 62 := by decide
                        have y_1 : (1 : Int32).toInt = 1 := by decide
                        have t_x_465 : x_465.toInt = (sv_26 : Int32).toInt + (1 : Int32).toInt := by rw [ex_465]; exact add_toInt (by omega) (by omega)
                        omega
                      refine cV (a := (Ma 0)) (As := []) (rest := []) (wr := []) ⟨hx, hb, hml, hown, hts⟩ hK hX hA (cu_fX12_sum l D tc sk (Ma 0) (Ma 1) (Ma 2) (Ma 3) (Ma 4) (Ma 5) (Ma 6) (Ma 7) (Ma 8) (Ma 9) (Ma 10) (Ma 11) (Ma 12) (Ma 13) (Ma 14) (Ma 15) (Ma 16) (Ma 17) (Ma 18) (Ma 19) (Ma 20) (Mv 0) (Mv 1) x_642 sv_649 sv_6 (Mv 5) sv_650 (Mv 7) (Mv 8) (Mv 9) (Mv 10) (Mv 11) (Mv 12) (Mv 13) (Mv 14) (Mf 1) sv_8 sv_9 (Mj 0) b (d + 1) ha_661 pf_655 ha_662 ha_663 h_bs ha_664) k_1279 k_1276 k_1278 k_42 k_106 pl_X12_sum ⟨Nat.le_of_ble_eq_true rfl, Nat.le_of_ble_eq_true rfl⟩ rfl rfl (va_recv hK hP (ci := 12) (q0 := 3) rfl rfl) hP hD hS [3, 2, 0, 1] [] rfl rfl rfl rfl rfl (by decide) rfl hl.1 rfl (Nat.le_of_ble_eq_true rfl) dX12_compare_155 ⟨Nat.le_of_ble_eq_true rfl, Nat.le_of_ble_eq_true rfl⟩ (fun v_665 u_666 H locs hv_667 hP₀ hD₀ hS₀ => ?_)
                      obtain ⟨sv_668, sv_669, sv_670, sv_671, sv_672, sv_673⟩ := u_666
                      obtain ⟨r_677, rfl, he_678, pf_674, pf_675, pf_676, hm_680, hm_681⟩ := hv_667
                      have he_678 : ((r_677.toInt = 0 ∧ ¬ (sv_669 : Int32).toInt = 0) ∨ (r_677.toInt = 1 ∧ (sv_9 (Mv 5).toNatClampNeg).toInt + 1 ≤ (sv_673 (Mv 5).toNatClampNeg).toInt ∧ (sv_673 (Mv 5).toNatClampNeg).toInt + (x_642 : Int32).toInt ≤ (sv_9 (Mv 5).toNatClampNeg).toInt + (sv_668 : Int32).toInt ∧ (x_642 : Int32).toInt + 1 ≤ (sv_668 : Int32).toInt)) := he_678
                      have pf_674 : (x_642 : Int32).toInt ≤ (sv_668 : Int32).toInt ∧ (sv_668 : Int32).toInt ≤ ((Mv 0) : Int32).toInt := pf_674
                      have pf_675 : (sv_650 : Int32).toInt ≤ (sv_671 : Int32).toInt ∧ (sv_671 : Int32).toInt ≤ 60 := pf_675
                      have pf_676 : Agr sv_8 sv_672 (400 * ((Mv 5) : Int32).toInt + (sv_9 (Mv 5).toNatClampNeg).toInt) := pf_676
                      refine W.eq (g2 := F0 m 158 ls [.int r_677]) rfl ?_
                      replace hP : va_P D classes [((Ma 0), .inr (12, [.ref (Ma 1), .int (Mv 0), .int (Mv 1), .ref (Ma 2), .ref (Ma 3), .ref (Ma 4), .ref (Ma 5), .ref (Ma 6), .int sv_668, .int sv_669, .int sv_670, .int (Mv 5), .int sv_671, .int (Mv 7), .int (Mv 8), .ref (Ma 7), .int (Mv 9), .ref (Ma 8), .int (Mv 10), .ref (Ma 9), .ref (Ma 10), .int (Mv 11), .int (Mv 12), .int (Mv 13), .ref (Ma 11), .int (Mv 14), .ref (Ma 12), .ref (Ma 13), .ref (Ma 14), .ref (Ma 15), .ref (Ma 16), .long (Mj 0), .ref (Ma 17), .ref (Ma 18), .ref (Ma 19), .ref (Ma 20)])), ((Ma 1), .inl (tc 2, 400, .inl (Mf 1))), ((Ma 2), .inl (tc 0, 2400, .inl sv_672)), ((Ma 3), .inl (tc 0, 7, .inl sv_673))] H := hP₀
                      replace hD : va_D A [((Ma 0), .inr (12, [.ref (Ma 1), .int (Mv 0), .int (Mv 1), .ref (Ma 2), .ref (Ma 3), .ref (Ma 4), .ref (Ma 5), .ref (Ma 6), .int sv_668, .int sv_669, .int sv_670, .int (Mv 5), .int sv_671, .int (Mv 7), .int (Mv 8), .ref (Ma 7), .int (Mv 9), .ref (Ma 8), .int (Mv 10), .ref (Ma 9), .ref (Ma 10), .int (Mv 11), .int (Mv 12), .int (Mv 13), .ref (Ma 11), .int (Mv 14), .ref (Ma 12), .ref (Ma 13), .ref (Ma 14), .ref (Ma 15), .ref (Ma 16), .long (Mj 0), .ref (Ma 17), .ref (Ma 18), .ref (Ma 19), .ref (Ma 20)])), ((Ma 1), .inl (tc 2, 400, .inl (Mf 1))), ((Ma 2), .inl (tc 0, 2400, .inl sv_672)), ((Ma 3), .inl (tc 0, 7, .inl sv_673))] := hD₀
                      replace hS := hS₀
                      clear hP₀ hD₀ hS₀
                      refine lv_if_ne (tgt := 163) hx hb dX12_compare_158 (by decide) (fun c_682 => ?_) (fun c_682 => ?_)
                      · skip
                        have hz_685 : (r_677 : Int32).toInt = 1 := by
                          have z_1 : ¬ (r_13 : Int32).toInt = (0 : Int32).toInt := fun z => c_18 (Int32.toInt_inj.mp z)
                          have z_2 : ¬ (r_31 : Int32).toInt = (60 : Int32).toInt := fun z => c_34 (Int32.toInt_inj.mp z)
                          have z_3 : ¬ (r_31 : Int32).toInt = (61 : Int32).toInt := fun z => c_378 (Int32.toInt_inj.mp z)
                          have z_4 := congrArg Int32.toInt c_464
                          have z_5 : ¬ (r_31 : Int32).toInt = (61 : Int32).toInt := fun z => c_466 (Int32.toInt_inj.mp z)
                          have z_6 := Int32.lt_iff_toInt_lt.mp (Int32.not_le.mp c_467)
                          have z_7 := congrArg Int32.toInt c_554
                          have z_8 : ¬ (r_652 : Int32).toInt = (0 : Int32).toInt := fun z => c_657 (Int32.toInt_inj.mp z)
                          have z_9 : ¬ (r_31 : Int32).toInt = (60 : Int32).toInt := fun z => c_658 (Int32.toInt_inj.mp z)
                          have z_10 : ¬ (r_31 : Int32).toInt = (61 : Int32).toInt := fun z => c_659 (Int32.toInt_inj.mp z)
                          have z_11 : ¬ (r_677 : Int32).toInt = (0 : Int32).toInt := fun z => c_682 (Int32.toInt_inj.mp z)
                          have y_0 : (0 : Int32).toInt = 0 := by decide
                          have y_60 : (60 : Int32).toInt = 60 := by decide
                          have y_61 : (61 : Int32).toInt = 61 := by decide
                          have y_62 : (62 : Int32).toInt = 62 := by decide
                          have y_1 : (1 : Int32).toInt = 1 := by decide
                          have t_x_465 : x_465.toInt = (sv_26 : Int32).toInt + (1 : Int32).toInt := by rw [ex_465]; exact add_toInt (by omega) (by omega)
                          omega
                        obtain ⟨pf_683, pf_684⟩ := hm_680 hz_685
                        have pf_683 : Cd sv_672 sv_673 (Mv 5) b sv_671 ((d + 1) + 1) := pf_683
                        have ar_pf_683 := Cd.ar pf_683
                        have pf_684 : RfO (pz_sum (rB (Mf 1) (Mv 0)) (St0 (rB (Mf 1) (Mv 0)) x_642 sv_650)) (rB (Mf 1) (Mv 0)) sv_669 sv_668 sv_671 := pf_684
                        have ar_pf_684 := RfO.wr pf_684
                        refine lv_aload_n hx hb dX12_compare_163 rfl (lv_at hl 4 rfl) ?_
                        refine lv_bipush (v := 6) hx hb dX12_compare_164 (by decide) ?_
                        refine lv_iload hx hb dX12_compare_166 (lv_at hl 0 rfl) ?_
                        refine lv_iadd hx hb dX12_compare_168 ?_
                        refine lv_lit (v := 9) (by decide) ?_
                        refine lv_iconst (v := 0) hx hb dX12_compare_169 (by decide) ?_
                        have ha_686 : ((d + 1) : Int) ≤ sv_671.toInt := by
                          have z_1 : ¬ (r_13 : Int32).toInt = (0 : Int32).toInt := fun z => c_18 (Int32.toInt_inj.mp z)
                          have z_2 : ¬ (r_31 : Int32).toInt = (60 : Int32).toInt := fun z => c_34 (Int32.toInt_inj.mp z)
                          have z_3 : ¬ (r_31 : Int32).toInt = (61 : Int32).toInt := fun z => c_378 (Int32.toInt_inj.mp z)
                          have z_4 := congrArg Int32.toInt c_464
                          have z_5 : ¬ (r_31 : Int32).toInt = (61 : Int32).toInt := fun z => c_466 (Int32.toInt_inj.mp z)
                          have z_6 := Int32.lt_iff_toInt_lt.mp (Int32.not_le.mp c_467)
                          have z_7 := congrArg Int32.toInt c_554
                          have z_8 : ¬ (r_652 : Int32).toInt = (0 : Int32).toInt := fun z => c_657 (Int32.toInt_inj.mp z)
                          have z_9 : ¬ (r_31 : Int32).toInt = (60 : Int32).toInt := fun z => c_658 (Int32.toInt_inj.mp z)
                          have z_10 : ¬ (r_31 : Int32).toInt = (61 : Int32).toInt := fun z => c_659 (Int32.toInt_inj.mp z)
                          have z_11 : ¬ (r_677 : Int32).toInt = (0 : Int32).toInt := fun z => c_682 (Int32.toInt_inj.mp z)
                          have y_0 : (0 : Int32).toInt = 0 := by decide
                          have y_60 : (60 : Int32).toInt = 60 := by decide
                          have y_61 : (61 : Int32).toInt = 61 := by decide
                          have y_62 : (62 : Int32).toInt = 62 := by decide
                          have y_1 : (1 : Int32).toInt = 1 := by decide
                          have t_x_465 : x_465.toInt = (sv_26 : Int32).toInt + (1 : Int32).toInt := by rw [ex_465]; exact add_toInt (by omega) (by omega)
                          omega
                        have ha_687 : (sv_673 (Mv 5).toNatClampNeg).toInt < 400 := by
                          have z_1 : ¬ (r_13 : Int32).toInt = (0 : Int32).toInt := fun z => c_18 (Int32.toInt_inj.mp z)
                          have z_2 : ¬ (r_31 : Int32).toInt = (60 : Int32).toInt := fun z => c_34 (Int32.toInt_inj.mp z)
                          have z_3 : ¬ (r_31 : Int32).toInt = (61 : Int32).toInt := fun z => c_378 (Int32.toInt_inj.mp z)
                          have z_4 := congrArg Int32.toInt c_464
                          have z_5 : ¬ (r_31 : Int32).toInt = (61 : Int32).toInt := fun z => c_466 (Int32.toInt_inj.mp z)
                          have z_6 := Int32.lt_iff_toInt_lt.mp (Int32.not_le.mp c_467)
                          have z_7 := congrArg Int32.toInt c_554
                          have z_8 : ¬ (r_652 : Int32).toInt = (0 : Int32).toInt := fun z => c_657 (Int32.toInt_inj.mp z)
                          have z_9 : ¬ (r_31 : Int32).toInt = (60 : Int32).toInt := fun z => c_658 (Int32.toInt_inj.mp z)
                          have z_10 : ¬ (r_31 : Int32).toInt = (61 : Int32).toInt := fun z => c_659 (Int32.toInt_inj.mp z)
                          have z_11 : ¬ (r_677 : Int32).toInt = (0 : Int32).toInt := fun z => c_682 (Int32.toInt_inj.mp z)
                          have y_0 : (0 : Int32).toInt = 0 := by decide
                          have y_60 : (60 : Int32).toInt = 60 := by decide
                          have y_61 : (61 : Int32).toInt = 61 := by decide
                          have y_62 : (62 : Int32).toInt = 62 := by decide
                          have y_1 : (1 : Int32).toInt = 1 := by decide
                          have t_x_465 : x_465.toInt = (sv_26 : Int32).toInt + (1 : Int32).toInt := by rw [ex_465]; exact add_toInt (by omega) (by omega)
                          omega
                        refine cV (a := (Ma 0)) (As := [.int 9, .int 0]) (rest := []) (wr := [((Ma 1), .inl (tc 2, 400, .inl (Mf 1)))]) ⟨hx, hb, hml, hown, hts⟩ hK hX hA (cu_X12_puts l D tc sk (Ma 0) (Ma 1) (Ma 2) (Ma 3) (Ma 4) (Ma 5) (Ma 6) (Ma 7) (Ma 8) (Ma 9) (Ma 10) (Ma 11) (Ma 12) (Ma 13) (Ma 14) (Ma 15) (Ma 16) (Ma 17) (Ma 18) (Ma 19) (Ma 20) (Mv 0) (Mv 1) sv_668 sv_669 sv_670 (Mv 5) sv_671 (Mv 7) (Mv 8) (Mv 9) (Mv 10) (Mv 11) (Mv 12) (Mv 13) (Mv 14) sv_672 sv_673 (Mj 0) 9 0 b sv_671 ((d + 1) + 1) (d + 1) pf_683 (StpR.op (by decide) rfl (by omega)) ha_686 ha_687) k_1296 k_1293 k_1295 k_46 k_106 pl_X12_puts ⟨Nat.le_of_ble_eq_true rfl, Nat.le_of_ble_eq_true rfl⟩ rfl rfl (va_recv hK hP (ci := 12) (q0 := 0) rfl rfl) hP hD hS [0, 2, 3] [1] rfl rfl rfl rfl rfl (by decide) rfl hl.1 rfl (Nat.le_of_ble_eq_true rfl) dX12_compare_170 ⟨Nat.le_of_ble_eq_true rfl, Nat.le_of_ble_eq_true rfl⟩ (fun v_688 u_689 H locs hv_690 hP₀ hD₀ hS₀ => ?_)
                        obtain ⟨sv_691, sv_692⟩ := u_689
                        obtain ⟨rfl, pf_693, pf_694, pf_695⟩ := hv_690
                        have pf_693 : Cd sv_691 sv_692 (Mv 5) b sv_671 (d + 1) := pf_693
                        have ar_pf_693 := Cd.ar pf_693
                        have pf_694 : Agr sv_672 sv_691 (400 * ((Mv 5) : Int32).toInt + (sv_673 (Mv 5).toNatClampNeg).toInt) := pf_694
                        have pf_695 : (sv_692 (Mv 5).toNatClampNeg).toInt = (sv_673 (Mv 5).toNatClampNeg).toInt + 1 := pf_695
                        refine W.eq (g2 := F0 m 173 ls []) rfl ?_
                        replace hP : va_P D classes [((Ma 1), .inl (tc 2, 400, .inl (Mf 1))), ((Ma 0), .inr (12, [.ref (Ma 1), .int (Mv 0), .int (Mv 1), .ref (Ma 2), .ref (Ma 3), .ref (Ma 4), .ref (Ma 5), .ref (Ma 6), .int sv_668, .int sv_669, .int sv_670, .int (Mv 5), .int sv_671, .int (Mv 7), .int (Mv 8), .ref (Ma 7), .int (Mv 9), .ref (Ma 8), .int (Mv 10), .ref (Ma 9), .ref (Ma 10), .int (Mv 11), .int (Mv 12), .int (Mv 13), .ref (Ma 11), .int (Mv 14), .ref (Ma 12), .ref (Ma 13), .ref (Ma 14), .ref (Ma 15), .ref (Ma 16), .long (Mj 0), .ref (Ma 17), .ref (Ma 18), .ref (Ma 19), .ref (Ma 20)])), ((Ma 2), .inl (tc 0, 2400, .inl sv_691)), ((Ma 3), .inl (tc 0, 7, .inl sv_692))] H := hP₀
                        replace hD : va_D A [((Ma 1), .inl (tc 2, 400, .inl (Mf 1))), ((Ma 0), .inr (12, [.ref (Ma 1), .int (Mv 0), .int (Mv 1), .ref (Ma 2), .ref (Ma 3), .ref (Ma 4), .ref (Ma 5), .ref (Ma 6), .int sv_668, .int sv_669, .int sv_670, .int (Mv 5), .int sv_671, .int (Mv 7), .int (Mv 8), .ref (Ma 7), .int (Mv 9), .ref (Ma 8), .int (Mv 10), .ref (Ma 9), .ref (Ma 10), .int (Mv 11), .int (Mv 12), .int (Mv 13), .ref (Ma 11), .int (Mv 14), .ref (Ma 12), .ref (Ma 13), .ref (Ma 14), .ref (Ma 15), .ref (Ma 16), .long (Mj 0), .ref (Ma 17), .ref (Ma 18), .ref (Ma 19), .ref (Ma 20)])), ((Ma 2), .inl (tc 0, 2400, .inl sv_691)), ((Ma 3), .inl (tc 0, 7, .inl sv_692))] := hD₀
                        replace hS := hS₀
                        clear hP₀ hD₀ hS₀
                        refine lv_iconst (v := 1) hx hb dX12_compare_173 (by decide) ?_
                        have ha_696 : ((Mv 2) : Int32).toInt ≤ (sv_668 : Int32).toInt ∧ (sv_668 : Int32).toInt ≤ ((Mv 0) : Int32).toInt := by
                          have z_1 : ¬ (r_13 : Int32).toInt = (0 : Int32).toInt := fun z => c_18 (Int32.toInt_inj.mp z)
                          have z_2 : ¬ (r_31 : Int32).toInt = (60 : Int32).toInt := fun z => c_34 (Int32.toInt_inj.mp z)
                          have z_3 : ¬ (r_31 : Int32).toInt = (61 : Int32).toInt := fun z => c_378 (Int32.toInt_inj.mp z)
                          have z_4 := congrArg Int32.toInt c_464
                          have z_5 : ¬ (r_31 : Int32).toInt = (61 : Int32).toInt := fun z => c_466 (Int32.toInt_inj.mp z)
                          have z_6 := Int32.lt_iff_toInt_lt.mp (Int32.not_le.mp c_467)
                          have z_7 := congrArg Int32.toInt c_554
                          have z_8 : ¬ (r_652 : Int32).toInt = (0 : Int32).toInt := fun z => c_657 (Int32.toInt_inj.mp z)
                          have z_9 : ¬ (r_31 : Int32).toInt = (60 : Int32).toInt := fun z => c_658 (Int32.toInt_inj.mp z)
                          have z_10 : ¬ (r_31 : Int32).toInt = (61 : Int32).toInt := fun z => c_659 (Int32.toInt_inj.mp z)
                          have z_11 : ¬ (r_677 : Int32).toInt = (0 : Int32).toInt := fun z => c_682 (Int32.toInt_inj.mp z)
                          have y_0 : (0 : Int32).toInt = 0 := by decide
                          have y_60 : (60 : Int32).toInt = 60 := by decide
                          have y_61 : (61 : Int32).toInt = 61 := by decide
                          have y_62 : (62 : Int32).toInt = 62 := by decide
                          have y_1 : (1 : Int32).toInt = 1 := by decide
                          have t_x_465 : x_465.toInt = (sv_26 : Int32).toInt + (1 : Int32).toInt := by rw [ex_465]; exact add_toInt (by omega) (by omega)
                          omega
                        have ha_697 : ((Mv 6) : Int32).toInt ≤ (sv_671 : Int32).toInt ∧ (sv_671 : Int32).toInt ≤ 60 := by
                          have z_1 : ¬ (r_13 : Int32).toInt = (0 : Int32).toInt := fun z => c_18 (Int32.toInt_inj.mp z)
                          have z_2 : ¬ (r_31 : Int32).toInt = (60 : Int32).toInt := fun z => c_34 (Int32.toInt_inj.mp z)
                          have z_3 : ¬ (r_31 : Int32).toInt = (61 : Int32).toInt := fun z => c_378 (Int32.toInt_inj.mp z)
                          have z_4 := congrArg Int32.toInt c_464
                          have z_5 : ¬ (r_31 : Int32).toInt = (61 : Int32).toInt := fun z => c_466 (Int32.toInt_inj.mp z)
                          have z_6 := Int32.lt_iff_toInt_lt.mp (Int32.not_le.mp c_467)
                          have z_7 := congrArg Int32.toInt c_554
                          have z_8 : ¬ (r_652 : Int32).toInt = (0 : Int32).toInt := fun z => c_657 (Int32.toInt_inj.mp z)
                          have z_9 : ¬ (r_31 : Int32).toInt = (60 : Int32).toInt := fun z => c_658 (Int32.toInt_inj.mp z)
                          have z_10 : ¬ (r_31 : Int32).toInt = (61 : Int32).toInt := fun z => c_659 (Int32.toInt_inj.mp z)
                          have z_11 : ¬ (r_677 : Int32).toInt = (0 : Int32).toInt := fun z => c_682 (Int32.toInt_inj.mp z)
                          have y_0 : (0 : Int32).toInt = 0 := by decide
                          have y_60 : (60 : Int32).toInt = 60 := by decide
                          have y_61 : (61 : Int32).toInt = 61 := by decide
                          have y_62 : (62 : Int32).toInt = 62 := by decide
                          have y_1 : (1 : Int32).toInt = 1 := by decide
                          have t_x_465 : x_465.toInt = (sv_26 : Int32).toInt + (1 : Int32).toInt := by rw [ex_465]; exact add_toInt (by omega) (by omega)
                          omega
                        have hr_698 : (400 * ((Mv 5) : Int32).toInt + ((Mf 3) (Mv 5).toNatClampNeg).toInt) ≤ (400 * ((Mv 5) : Int32).toInt + ((Mf 3) (Mv 5).toNatClampNeg).toInt) := by
                          have z_1 : ¬ (r_13 : Int32).toInt = (0 : Int32).toInt := fun z => c_18 (Int32.toInt_inj.mp z)
                          have z_2 : ¬ (r_31 : Int32).toInt = (60 : Int32).toInt := fun z => c_34 (Int32.toInt_inj.mp z)
                          have z_3 : ¬ (r_31 : Int32).toInt = (61 : Int32).toInt := fun z => c_378 (Int32.toInt_inj.mp z)
                          have z_4 := congrArg Int32.toInt c_464
                          have z_5 : ¬ (r_31 : Int32).toInt = (61 : Int32).toInt := fun z => c_466 (Int32.toInt_inj.mp z)
                          have z_6 := Int32.lt_iff_toInt_lt.mp (Int32.not_le.mp c_467)
                          have z_7 := congrArg Int32.toInt c_554
                          have z_8 : ¬ (r_652 : Int32).toInt = (0 : Int32).toInt := fun z => c_657 (Int32.toInt_inj.mp z)
                          have z_9 : ¬ (r_31 : Int32).toInt = (60 : Int32).toInt := fun z => c_658 (Int32.toInt_inj.mp z)
                          have z_10 : ¬ (r_31 : Int32).toInt = (61 : Int32).toInt := fun z => c_659 (Int32.toInt_inj.mp z)
                          have z_11 : ¬ (r_677 : Int32).toInt = (0 : Int32).toInt := fun z => c_682 (Int32.toInt_inj.mp z)
                          have y_0 : (0 : Int32).toInt = 0 := by decide
                          have y_60 : (60 : Int32).toInt = 60 := by decide
                          have y_61 : (61 : Int32).toInt = 61 := by decide
                          have y_62 : (62 : Int32).toInt = 62 := by decide
                          have y_1 : (1 : Int32).toInt = 1 := by decide
                          have t_x_465 : x_465.toInt = (sv_26 : Int32).toInt + (1 : Int32).toInt := by rw [ex_465]; exact add_toInt (by omega) (by omega)
                          omega
                        have hr_699 : (400 * ((Mv 5) : Int32).toInt + ((Mf 3) (Mv 5).toNatClampNeg).toInt) ≤ (400 * ((Mv 5) : Int32).toInt + (sv_9 (Mv 5).toNatClampNeg).toInt) := by
                          have z_1 : ¬ (r_13 : Int32).toInt = (0 : Int32).toInt := fun z => c_18 (Int32.toInt_inj.mp z)
                          have z_2 : ¬ (r_31 : Int32).toInt = (60 : Int32).toInt := fun z => c_34 (Int32.toInt_inj.mp z)
                          have z_3 : ¬ (r_31 : Int32).toInt = (61 : Int32).toInt := fun z => c_378 (Int32.toInt_inj.mp z)
                          have z_4 := congrArg Int32.toInt c_464
                          have z_5 : ¬ (r_31 : Int32).toInt = (61 : Int32).toInt := fun z => c_466 (Int32.toInt_inj.mp z)
                          have z_6 := Int32.lt_iff_toInt_lt.mp (Int32.not_le.mp c_467)
                          have z_7 := congrArg Int32.toInt c_554
                          have z_8 : ¬ (r_652 : Int32).toInt = (0 : Int32).toInt := fun z => c_657 (Int32.toInt_inj.mp z)
                          have z_9 : ¬ (r_31 : Int32).toInt = (60 : Int32).toInt := fun z => c_658 (Int32.toInt_inj.mp z)
                          have z_10 : ¬ (r_31 : Int32).toInt = (61 : Int32).toInt := fun z => c_659 (Int32.toInt_inj.mp z)
                          have z_11 : ¬ (r_677 : Int32).toInt = (0 : Int32).toInt := fun z => c_682 (Int32.toInt_inj.mp z)
                          have y_0 : (0 : Int32).toInt = 0 := by decide
                          have y_60 : (60 : Int32).toInt = 60 := by decide
                          have y_61 : (61 : Int32).toInt = 61 := by decide
                          have y_62 : (62 : Int32).toInt = 62 := by decide
                          have y_1 : (1 : Int32).toInt = 1 := by decide
                          have t_x_465 : x_465.toInt = (sv_26 : Int32).toInt + (1 : Int32).toInt := by rw [ex_465]; exact add_toInt (by omega) (by omega)
                          omega
                        have hr_700 : (400 * ((Mv 5) : Int32).toInt + ((Mf 3) (Mv 5).toNatClampNeg).toInt) ≤ (400 * ((Mv 5) : Int32).toInt + (sv_673 (Mv 5).toNatClampNeg).toInt) := by
                          have z_1 : ¬ (r_13 : Int32).toInt = (0 : Int32).toInt := fun z => c_18 (Int32.toInt_inj.mp z)
                          have z_2 : ¬ (r_31 : Int32).toInt = (60 : Int32).toInt := fun z => c_34 (Int32.toInt_inj.mp z)
                          have z_3 : ¬ (r_31 : Int32).toInt = (61 : Int32).toInt := fun z => c_378 (Int32.toInt_inj.mp z)
                          have z_4 := congrArg Int32.toInt c_464
                          have z_5 : ¬ (r_31 : Int32).toInt = (61 : Int32).toInt := fun z => c_466 (Int32.toInt_inj.mp z)
                          have z_6 := Int32.lt_iff_toInt_lt.mp (Int32.not_le.mp c_467)
                          have z_7 := congrArg Int32.toInt c_554
                          have z_8 : ¬ (r_652 : Int32).toInt = (0 : Int32).toInt := fun z => c_657 (Int32.toInt_inj.mp z)
                          have z_9 : ¬ (r_31 : Int32).toInt = (60 : Int32).toInt := fun z => c_658 (Int32.toInt_inj.mp z)
                          have z_10 : ¬ (r_31 : Int32).toInt = (61 : Int32).toInt := fun z => c_659 (Int32.toInt_inj.mp z)
                          have z_11 : ¬ (r_677 : Int32).toInt = (0 : Int32).toInt := fun z => c_682 (Int32.toInt_inj.mp z)
                          have y_0 : (0 : Int32).toInt = 0 := by decide
                          have y_60 : (60 : Int32).toInt = 60 := by decide
                          have y_61 : (61 : Int32).toInt = 61 := by decide
                          have y_62 : (62 : Int32).toInt = 62 := by decide
                          have y_1 : (1 : Int32).toInt = 1 := by decide
                          have t_x_465 : x_465.toInt = (sv_26 : Int32).toInt + (1 : Int32).toInt := by rw [ex_465]; exact add_toInt (by omega) (by omega)
                          omega
                        have hp_701 : (((1 : Int32).toInt = 0 ∧ ¬ (sv_669 : Int32).toInt = 0) ∨ ((1 : Int32).toInt = 1 ∧ ((Mf 3) (Mv 5).toNatClampNeg).toInt + 1 ≤ (sv_692 (Mv 5).toNatClampNeg).toInt ∧ (sv_692 (Mv 5).toNatClampNeg).toInt + ((Mv 2) : Int32).toInt ≤ ((Mf 3) (Mv 5).toNatClampNeg).toInt + (sv_668 : Int32).toInt ∧ ((Mv 2) : Int32).toInt + 1 ≤ (sv_668 : Int32).toInt)) := by
                          have z_1 : ¬ (r_13 : Int32).toInt = (0 : Int32).toInt := fun z => c_18 (Int32.toInt_inj.mp z)
                          have z_2 : ¬ (r_31 : Int32).toInt = (60 : Int32).toInt := fun z => c_34 (Int32.toInt_inj.mp z)
                          have z_3 : ¬ (r_31 : Int32).toInt = (61 : Int32).toInt := fun z => c_378 (Int32.toInt_inj.mp z)
                          have z_4 := congrArg Int32.toInt c_464
                          have z_5 : ¬ (r_31 : Int32).toInt = (61 : Int32).toInt := fun z => c_466 (Int32.toInt_inj.mp z)
                          have z_6 := Int32.lt_iff_toInt_lt.mp (Int32.not_le.mp c_467)
                          have z_7 := congrArg Int32.toInt c_554
                          have z_8 : ¬ (r_652 : Int32).toInt = (0 : Int32).toInt := fun z => c_657 (Int32.toInt_inj.mp z)
                          have z_9 : ¬ (r_31 : Int32).toInt = (60 : Int32).toInt := fun z => c_658 (Int32.toInt_inj.mp z)
                          have z_10 : ¬ (r_31 : Int32).toInt = (61 : Int32).toInt := fun z => c_659 (Int32.toInt_inj.mp z)
                          have z_11 : ¬ (r_677 : Int32).toInt = (0 : Int32).toInt := fun z => c_682 (Int32.toInt_inj.mp z)
                          have y_0 : (0 : Int32).toInt = 0 := by decide
                          have y_60 : (60 : Int32).toInt = 60 := by decide
                          have y_61 : (61 : Int32).toInt = 61 := by decide
                          have y_62 : (62 : Int32).toInt = 62 := by decide
                          have y_1 : (1 : Int32).toInt = 1 := by decide
                          have t_x_465 : x_465.toInt = (sv_26 : Int32).toInt + (1 : Int32).toInt := by rw [ex_465]; exact add_toInt (by omega) (by omega)
                          have yr : (1 : Int32).toInt = 1 := by decide
                          omega
                        have hm_702 : (1 : Int32).toInt = 1 → (Cd sv_691 sv_692 (Mv 5) b sv_671 (d + 1)) ∧ (RfO (pz_com (rB (Mf 1) (Mv 0)) (St0 (rB (Mf 1) (Mv 0)) (Mv 2) (Mv 6))) (rB (Mf 1) (Mv 0)) sv_669 sv_668 sv_671) := by
                          intro h1r
                          have hr_703 : (rB (Mf 1) (Mv 0) (sv_26 : Int32).toInt.toNat = 60 ∨ rB (Mf 1) (Mv 0) (sv_26 : Int32).toInt.toNat = 61 ∨ rB (Mf 1) (Mv 0) (sv_26 : Int32).toInt.toNat = 62) := by
                            have z_1 : ¬ (r_13 : Int32).toInt = (0 : Int32).toInt := fun z => c_18 (Int32.toInt_inj.mp z)
                            have z_2 : ¬ (r_31 : Int32).toInt = (60 : Int32).toInt := fun z => c_34 (Int32.toInt_inj.mp z)
                            have z_3 : ¬ (r_31 : Int32).toInt = (61 : Int32).toInt := fun z => c_378 (Int32.toInt_inj.mp z)
                            have z_4 := congrArg Int32.toInt c_464
                            have z_5 : ¬ (r_31 : Int32).toInt = (61 : Int32).toInt := fun z => c_466 (Int32.toInt_inj.mp z)
                            have z_6 := Int32.lt_iff_toInt_lt.mp (Int32.not_le.mp c_467)
                            have z_7 := congrArg Int32.toInt c_554
                            have z_8 : ¬ (r_652 : Int32).toInt = (0 : Int32).toInt := fun z => c_657 (Int32.toInt_inj.mp z)
                            have z_9 : ¬ (r_31 : Int32).toInt = (60 : Int32).toInt := fun z => c_658 (Int32.toInt_inj.mp z)
                            have z_10 : ¬ (r_31 : Int32).toInt = (61 : Int32).toInt := fun z => c_659 (Int32.toInt_inj.mp z)
                            have z_11 : ¬ (r_677 : Int32).toInt = (0 : Int32).toInt := fun z => c_682 (Int32.toInt_inj.mp z)
                            have y_0 : (0 : Int32).toInt = 0 := by decide
                            have y_60 : (60 : Int32).toInt = 60 := by decide
                            have y_61 : (61 : Int32).toInt = 61 := by decide
                            have y_62 : (62 : Int32).toInt = 62 := by decide
                            have y_1 : (1 : Int32).toInt = 1 := by decide
                            have t_x_465 : x_465.toInt = (sv_26 : Int32).toInt + (1 : Int32).toInt := by rw [ex_465]; exact add_toInt (by omega) (by omega)
                            omega
                          have rg_704 := rB_rg (n := (Mv 0)) h_bs ((sv_26 : Int32).toInt.toNat + 1)
                          have hk_705 : ((Mf 1) (x_465 : Int32).toInt.toNat).toInt = ((Mf 1) ((sv_26 : Int32).toInt.toNat + 1)).toInt := congrArg (fun z => ((Mf 1) z).toInt) (by
                            have z_1 : ¬ (r_13 : Int32).toInt = (0 : Int32).toInt := fun z => c_18 (Int32.toInt_inj.mp z)
                            have z_2 : ¬ (r_31 : Int32).toInt = (60 : Int32).toInt := fun z => c_34 (Int32.toInt_inj.mp z)
                            have z_3 : ¬ (r_31 : Int32).toInt = (61 : Int32).toInt := fun z => c_378 (Int32.toInt_inj.mp z)
                            have z_4 := congrArg Int32.toInt c_464
                            have z_5 : ¬ (r_31 : Int32).toInt = (61 : Int32).toInt := fun z => c_466 (Int32.toInt_inj.mp z)
                            have z_6 := Int32.lt_iff_toInt_lt.mp (Int32.not_le.mp c_467)
                            have z_7 := congrArg Int32.toInt c_554
                            have z_8 : ¬ (r_652 : Int32).toInt = (0 : Int32).toInt := fun z => c_657 (Int32.toInt_inj.mp z)
                            have z_9 : ¬ (r_31 : Int32).toInt = (60 : Int32).toInt := fun z => c_658 (Int32.toInt_inj.mp z)
                            have z_10 : ¬ (r_31 : Int32).toInt = (61 : Int32).toInt := fun z => c_659 (Int32.toInt_inj.mp z)
                            have z_11 : ¬ (r_677 : Int32).toInt = (0 : Int32).toInt := fun z => c_682 (Int32.toInt_inj.mp z)
                            have y_0 : (0 : Int32).toInt = 0 := by decide
                            have y_60 : (60 : Int32).toInt = 60 := by decide
                            have y_61 : (61 : Int32).toInt = 61 := by decide
                            have y_62 : (62 : Int32).toInt = 62 := by decide
                            have y_1 : (1 : Int32).toInt = 1 := by decide
                            have t_x_465 : x_465.toInt = (sv_26 : Int32).toInt + (1 : Int32).toInt := by rw [ex_465]; exact add_toInt (by omega) (by omega)
                            omega)
                          have hr_706 : ((x_642 : Int32).toInt = (sv_26 : Int32).toInt + 1 ∧ ¬ ((rB (Mf 1) (Mv 0) (sv_26 : Int32).toInt.toNat = 60 ∨ rB (Mf 1) (Mv 0) (sv_26 : Int32).toInt.toNat = 62) ∧ rB (Mf 1) (Mv 0) ((sv_26 : Int32).toInt.toNat + 1) = 61)) ∨ ((x_642 : Int32).toInt = (sv_26 : Int32).toInt + 2 ∧ (rB (Mf 1) (Mv 0) (sv_26 : Int32).toInt.toNat = 60 ∨ rB (Mf 1) (Mv 0) (sv_26 : Int32).toInt.toNat = 62) ∧ rB (Mf 1) (Mv 0) ((sv_26 : Int32).toInt.toNat + 1) = 61) := by
                            have z_1 : ¬ (r_13 : Int32).toInt = (0 : Int32).toInt := fun z => c_18 (Int32.toInt_inj.mp z)
                            have z_2 : ¬ (r_31 : Int32).toInt = (60 : Int32).toInt := fun z => c_34 (Int32.toInt_inj.mp z)
                            have z_3 : ¬ (r_31 : Int32).toInt = (61 : Int32).toInt := fun z => c_378 (Int32.toInt_inj.mp z)
                            have z_4 := congrArg Int32.toInt c_464
                            have z_5 : ¬ (r_31 : Int32).toInt = (61 : Int32).toInt := fun z => c_466 (Int32.toInt_inj.mp z)
                            have z_6 := Int32.lt_iff_toInt_lt.mp (Int32.not_le.mp c_467)
                            have z_7 := congrArg Int32.toInt c_554
                            have z_8 : ¬ (r_652 : Int32).toInt = (0 : Int32).toInt := fun z => c_657 (Int32.toInt_inj.mp z)
                            have z_9 : ¬ (r_31 : Int32).toInt = (60 : Int32).toInt := fun z => c_658 (Int32.toInt_inj.mp z)
                            have z_10 : ¬ (r_31 : Int32).toInt = (61 : Int32).toInt := fun z => c_659 (Int32.toInt_inj.mp z)
                            have z_11 : ¬ (r_677 : Int32).toInt = (0 : Int32).toInt := fun z => c_682 (Int32.toInt_inj.mp z)
                            have y_0 : (0 : Int32).toInt = 0 := by decide
                            have y_60 : (60 : Int32).toInt = 60 := by decide
                            have y_61 : (61 : Int32).toInt = 61 := by decide
                            have y_62 : (62 : Int32).toInt = 62 := by decide
                            have y_1 : (1 : Int32).toInt = 1 := by decide
                            have t_x_465 : x_465.toInt = (sv_26 : Int32).toInt + (1 : Int32).toInt := by rw [ex_465]; exact add_toInt (by omega) (by omega)
                            have t_x_642 : x_642.toInt = (x_465 : Int32).toInt + (1 : Int32).toInt := by rw [ex_642]; exact add_toInt (by omega) (by omega)
                            omega
                          have hr_707 : 0 ≤ (sv_7 : Int32).toInt ∧ (sv_7 : Int32).toInt < 60 ∧ (sv_650 : Int32).toInt = (sv_7 : Int32).toInt + 1 := by
                            have z_1 : ¬ (r_13 : Int32).toInt = (0 : Int32).toInt := fun z => c_18 (Int32.toInt_inj.mp z)
                            have z_2 : ¬ (r_31 : Int32).toInt = (60 : Int32).toInt := fun z => c_34 (Int32.toInt_inj.mp z)
                            have z_3 : ¬ (r_31 : Int32).toInt = (61 : Int32).toInt := fun z => c_378 (Int32.toInt_inj.mp z)
                            have z_4 := congrArg Int32.toInt c_464
                            have z_5 : ¬ (r_31 : Int32).toInt = (61 : Int32).toInt := fun z => c_466 (Int32.toInt_inj.mp z)
                            have z_6 := Int32.lt_iff_toInt_lt.mp (Int32.not_le.mp c_467)
                            have z_7 := congrArg Int32.toInt c_554
                            have z_8 : ¬ (r_652 : Int32).toInt = (0 : Int32).toInt := fun z => c_657 (Int32.toInt_inj.mp z)
                            have z_9 : ¬ (r_31 : Int32).toInt = (60 : Int32).toInt := fun z => c_658 (Int32.toInt_inj.mp z)
                            have z_10 : ¬ (r_31 : Int32).toInt = (61 : Int32).toInt := fun z => c_659 (Int32.toInt_inj.mp z)
                            have z_11 : ¬ (r_677 : Int32).toInt = (0 : Int32).toInt := fun z => c_682 (Int32.toInt_inj.mp z)
                            have y_0 : (0 : Int32).toInt = 0 := by decide
                            have y_60 : (60 : Int32).toInt = 60 := by decide
                            have y_61 : (61 : Int32).toInt = 61 := by decide
                            have y_62 : (62 : Int32).toInt = 62 := by decide
                            have y_1 : (1 : Int32).toInt = 1 := by decide
                            have t_x_465 : x_465.toInt = (sv_26 : Int32).toInt + (1 : Int32).toInt := by rw [ex_465]; exact add_toInt (by omega) (by omega)
                            omega
                          exact ⟨pf_693, (RfO.com pf_20 pf_30 hr_703 hr_706 hr_707 pf_684)⟩
                        exact retI (v := 1) hx hb hr hlk (rfl) hP hD hS (sv_668, sv_669, sv_670, sv_671, sv_691, sv_692) ⟨_, rfl, hp_701, ha_696, ha_697, (Agr.trans (k' := (400 * ((Mv 5) : Int32).toInt + ((Mf 3) (Mv 5).toNatClampNeg).toInt)) (Agr.trans (k' := (400 * ((Mv 5) : Int32).toInt + ((Mf 3) (Mv 5).toNatClampNeg).toInt)) (Agr.mono pf_12 hr_698) pf_676 ⟨Int.le_refl _, hr_699⟩) pf_694 ⟨Int.le_refl _, hr_700⟩), hm_702, (fun h => absurd h (by decide))⟩ [1, 0, 2, 3] rfl rfl dX12_compare_174 (Nat.le_of_ble_eq_true rfl) (Nat.le_of_ble_eq_true rfl) rfl
                      · skip
                        have hz_709 : (r_677 : Int32).toInt = 0 := by
                          have z_1 : ¬ (r_13 : Int32).toInt = (0 : Int32).toInt := fun z => c_18 (Int32.toInt_inj.mp z)
                          have z_2 : ¬ (r_31 : Int32).toInt = (60 : Int32).toInt := fun z => c_34 (Int32.toInt_inj.mp z)
                          have z_3 : ¬ (r_31 : Int32).toInt = (61 : Int32).toInt := fun z => c_378 (Int32.toInt_inj.mp z)
                          have z_4 := congrArg Int32.toInt c_464
                          have z_5 : ¬ (r_31 : Int32).toInt = (61 : Int32).toInt := fun z => c_466 (Int32.toInt_inj.mp z)
                          have z_6 := Int32.lt_iff_toInt_lt.mp (Int32.not_le.mp c_467)
                          have z_7 := congrArg Int32.toInt c_554
                          have z_8 : ¬ (r_652 : Int32).toInt = (0 : Int32).toInt := fun z => c_657 (Int32.toInt_inj.mp z)
                          have z_9 : ¬ (r_31 : Int32).toInt = (60 : Int32).toInt := fun z => c_658 (Int32.toInt_inj.mp z)
                          have z_10 : ¬ (r_31 : Int32).toInt = (61 : Int32).toInt := fun z => c_659 (Int32.toInt_inj.mp z)
                          have z_11 := congrArg Int32.toInt c_682
                          have y_0 : (0 : Int32).toInt = 0 := by decide
                          have y_60 : (60 : Int32).toInt = 60 := by decide
                          have y_61 : (61 : Int32).toInt = 61 := by decide
                          have y_62 : (62 : Int32).toInt = 62 := by decide
                          have y_1 : (1 : Int32).toInt = 1 := by decide
                          have t_x_465 : x_465.toInt = (sv_26 : Int32).toInt + (1 : Int32).toInt := by rw [ex_465]; exact add_toInt (by omega) (by omega)
                          omega
                        obtain pf_708 := hm_681 hz_709
                        have pf_708 : RfE (pz_sum (rB (Mf 1) (Mv 0)) (St0 (rB (Mf 1) (Mv 0)) x_642 sv_650)) sv_669 := pf_708
                        refine lv_iconst (v := 0) hx hb dX12_compare_161 (by decide) ?_
                        have ha_710 : ((Mv 2) : Int32).toInt ≤ (sv_668 : Int32).toInt ∧ (sv_668 : Int32).toInt ≤ ((Mv 0) : Int32).toInt := by
                          have z_1 : ¬ (r_13 : Int32).toInt = (0 : Int32).toInt := fun z => c_18 (Int32.toInt_inj.mp z)
                          have z_2 : ¬ (r_31 : Int32).toInt = (60 : Int32).toInt := fun z => c_34 (Int32.toInt_inj.mp z)
                          have z_3 : ¬ (r_31 : Int32).toInt = (61 : Int32).toInt := fun z => c_378 (Int32.toInt_inj.mp z)
                          have z_4 := congrArg Int32.toInt c_464
                          have z_5 : ¬ (r_31 : Int32).toInt = (61 : Int32).toInt := fun z => c_466 (Int32.toInt_inj.mp z)
                          have z_6 := Int32.lt_iff_toInt_lt.mp (Int32.not_le.mp c_467)
                          have z_7 := congrArg Int32.toInt c_554
                          have z_8 : ¬ (r_652 : Int32).toInt = (0 : Int32).toInt := fun z => c_657 (Int32.toInt_inj.mp z)
                          have z_9 : ¬ (r_31 : Int32).toInt = (60 : Int32).toInt := fun z => c_658 (Int32.toInt_inj.mp z)
                          have z_10 : ¬ (r_31 : Int32).toInt = (61 : Int32).toInt := fun z => c_659 (Int32.toInt_inj.mp z)
                          have z_11 := congrArg Int32.toInt c_682
                          have y_0 : (0 : Int32).toInt = 0 := by decide
                          have y_60 : (60 : Int32).toInt = 60 := by decide
                          have y_61 : (61 : Int32).toInt = 61 := by decide
                          have y_62 : (62 : Int32).toInt = 62 := by decide
                          have y_1 : (1 : Int32).toInt = 1 := by decide
                          have t_x_465 : x_465.toInt = (sv_26 : Int32).toInt + (1 : Int32).toInt := by rw [ex_465]; exact add_toInt (by omega) (by omega)
                          omega
                        have ha_711 : ((Mv 6) : Int32).toInt ≤ (sv_671 : Int32).toInt ∧ (sv_671 : Int32).toInt ≤ 60 := by
                          have z_1 : ¬ (r_13 : Int32).toInt = (0 : Int32).toInt := fun z => c_18 (Int32.toInt_inj.mp z)
                          have z_2 : ¬ (r_31 : Int32).toInt = (60 : Int32).toInt := fun z => c_34 (Int32.toInt_inj.mp z)
                          have z_3 : ¬ (r_31 : Int32).toInt = (61 : Int32).toInt := fun z => c_378 (Int32.toInt_inj.mp z)
                          have z_4 := congrArg Int32.toInt c_464
                          have z_5 : ¬ (r_31 : Int32).toInt = (61 : Int32).toInt := fun z => c_466 (Int32.toInt_inj.mp z)
                          have z_6 := Int32.lt_iff_toInt_lt.mp (Int32.not_le.mp c_467)
                          have z_7 := congrArg Int32.toInt c_554
                          have z_8 : ¬ (r_652 : Int32).toInt = (0 : Int32).toInt := fun z => c_657 (Int32.toInt_inj.mp z)
                          have z_9 : ¬ (r_31 : Int32).toInt = (60 : Int32).toInt := fun z => c_658 (Int32.toInt_inj.mp z)
                          have z_10 : ¬ (r_31 : Int32).toInt = (61 : Int32).toInt := fun z => c_659 (Int32.toInt_inj.mp z)
                          have z_11 := congrArg Int32.toInt c_682
                          have y_0 : (0 : Int32).toInt = 0 := by decide
                          have y_60 : (60 : Int32).toInt = 60 := by decide
                          have y_61 : (61 : Int32).toInt = 61 := by decide
                          have y_62 : (62 : Int32).toInt = 62 := by decide
                          have y_1 : (1 : Int32).toInt = 1 := by decide
                          have t_x_465 : x_465.toInt = (sv_26 : Int32).toInt + (1 : Int32).toInt := by rw [ex_465]; exact add_toInt (by omega) (by omega)
                          omega
                        have hr_712 : (400 * ((Mv 5) : Int32).toInt + ((Mf 3) (Mv 5).toNatClampNeg).toInt) ≤ (400 * ((Mv 5) : Int32).toInt + ((Mf 3) (Mv 5).toNatClampNeg).toInt) := by
                          have z_1 : ¬ (r_13 : Int32).toInt = (0 : Int32).toInt := fun z => c_18 (Int32.toInt_inj.mp z)
                          have z_2 : ¬ (r_31 : Int32).toInt = (60 : Int32).toInt := fun z => c_34 (Int32.toInt_inj.mp z)
                          have z_3 : ¬ (r_31 : Int32).toInt = (61 : Int32).toInt := fun z => c_378 (Int32.toInt_inj.mp z)
                          have z_4 := congrArg Int32.toInt c_464
                          have z_5 : ¬ (r_31 : Int32).toInt = (61 : Int32).toInt := fun z => c_466 (Int32.toInt_inj.mp z)
                          have z_6 := Int32.lt_iff_toInt_lt.mp (Int32.not_le.mp c_467)
                          have z_7 := congrArg Int32.toInt c_554
                          have z_8 : ¬ (r_652 : Int32).toInt = (0 : Int32).toInt := fun z => c_657 (Int32.toInt_inj.mp z)
                          have z_9 : ¬ (r_31 : Int32).toInt = (60 : Int32).toInt := fun z => c_658 (Int32.toInt_inj.mp z)
                          have z_10 : ¬ (r_31 : Int32).toInt = (61 : Int32).toInt := fun z => c_659 (Int32.toInt_inj.mp z)
                          have z_11 := congrArg Int32.toInt c_682
                          have y_0 : (0 : Int32).toInt = 0 := by decide
                          have y_60 : (60 : Int32).toInt = 60 := by decide
                          have y_61 : (61 : Int32).toInt = 61 := by decide
                          have y_62 : (62 : Int32).toInt = 62 := by decide
                          have y_1 : (1 : Int32).toInt = 1 := by decide
                          have t_x_465 : x_465.toInt = (sv_26 : Int32).toInt + (1 : Int32).toInt := by rw [ex_465]; exact add_toInt (by omega) (by omega)
                          omega
                        have hr_713 : (400 * ((Mv 5) : Int32).toInt + ((Mf 3) (Mv 5).toNatClampNeg).toInt) ≤ (400 * ((Mv 5) : Int32).toInt + (sv_9 (Mv 5).toNatClampNeg).toInt) := by
                          have z_1 : ¬ (r_13 : Int32).toInt = (0 : Int32).toInt := fun z => c_18 (Int32.toInt_inj.mp z)
                          have z_2 : ¬ (r_31 : Int32).toInt = (60 : Int32).toInt := fun z => c_34 (Int32.toInt_inj.mp z)
                          have z_3 : ¬ (r_31 : Int32).toInt = (61 : Int32).toInt := fun z => c_378 (Int32.toInt_inj.mp z)
                          have z_4 := congrArg Int32.toInt c_464
                          have z_5 : ¬ (r_31 : Int32).toInt = (61 : Int32).toInt := fun z => c_466 (Int32.toInt_inj.mp z)
                          have z_6 := Int32.lt_iff_toInt_lt.mp (Int32.not_le.mp c_467)
                          have z_7 := congrArg Int32.toInt c_554
                          have z_8 : ¬ (r_652 : Int32).toInt = (0 : Int32).toInt := fun z => c_657 (Int32.toInt_inj.mp z)
                          have z_9 : ¬ (r_31 : Int32).toInt = (60 : Int32).toInt := fun z => c_658 (Int32.toInt_inj.mp z)
                          have z_10 : ¬ (r_31 : Int32).toInt = (61 : Int32).toInt := fun z => c_659 (Int32.toInt_inj.mp z)
                          have z_11 := congrArg Int32.toInt c_682
                          have y_0 : (0 : Int32).toInt = 0 := by decide
                          have y_60 : (60 : Int32).toInt = 60 := by decide
                          have y_61 : (61 : Int32).toInt = 61 := by decide
                          have y_62 : (62 : Int32).toInt = 62 := by decide
                          have y_1 : (1 : Int32).toInt = 1 := by decide
                          have t_x_465 : x_465.toInt = (sv_26 : Int32).toInt + (1 : Int32).toInt := by rw [ex_465]; exact add_toInt (by omega) (by omega)
                          omega
                        have hp_714 : (((0 : Int32).toInt = 0 ∧ ¬ (sv_669 : Int32).toInt = 0) ∨ ((0 : Int32).toInt = 1 ∧ ((Mf 3) (Mv 5).toNatClampNeg).toInt + 1 ≤ (sv_673 (Mv 5).toNatClampNeg).toInt ∧ (sv_673 (Mv 5).toNatClampNeg).toInt + ((Mv 2) : Int32).toInt ≤ ((Mf 3) (Mv 5).toNatClampNeg).toInt + (sv_668 : Int32).toInt ∧ ((Mv 2) : Int32).toInt + 1 ≤ (sv_668 : Int32).toInt)) := by
                          have z_1 : ¬ (r_13 : Int32).toInt = (0 : Int32).toInt := fun z => c_18 (Int32.toInt_inj.mp z)
                          have z_2 : ¬ (r_31 : Int32).toInt = (60 : Int32).toInt := fun z => c_34 (Int32.toInt_inj.mp z)
                          have z_3 : ¬ (r_31 : Int32).toInt = (61 : Int32).toInt := fun z => c_378 (Int32.toInt_inj.mp z)
                          have z_4 := congrArg Int32.toInt c_464
                          have z_5 : ¬ (r_31 : Int32).toInt = (61 : Int32).toInt := fun z => c_466 (Int32.toInt_inj.mp z)
                          have z_6 := Int32.lt_iff_toInt_lt.mp (Int32.not_le.mp c_467)
                          have z_7 := congrArg Int32.toInt c_554
                          have z_8 : ¬ (r_652 : Int32).toInt = (0 : Int32).toInt := fun z => c_657 (Int32.toInt_inj.mp z)
                          have z_9 : ¬ (r_31 : Int32).toInt = (60 : Int32).toInt := fun z => c_658 (Int32.toInt_inj.mp z)
                          have z_10 : ¬ (r_31 : Int32).toInt = (61 : Int32).toInt := fun z => c_659 (Int32.toInt_inj.mp z)
                          have z_11 := congrArg Int32.toInt c_682
                          have y_0 : (0 : Int32).toInt = 0 := by decide
                          have y_60 : (60 : Int32).toInt = 60 := by decide
                          have y_61 : (61 : Int32).toInt = 61 := by decide
                          have y_62 : (62 : Int32).toInt = 62 := by decide
                          have y_1 : (1 : Int32).toInt = 1 := by decide
                          have t_x_465 : x_465.toInt = (sv_26 : Int32).toInt + (1 : Int32).toInt := by rw [ex_465]; exact add_toInt (by omega) (by omega)
                          omega
                        have hm_715 : (0 : Int32).toInt = 0 → (RfE (pz_com (rB (Mf 1) (Mv 0)) (St0 (rB (Mf 1) (Mv 0)) (Mv 2) (Mv 6))) sv_669) := by
                          intro h1r
                          have hr_716 : (rB (Mf 1) (Mv 0) (sv_26 : Int32).toInt.toNat = 60 ∨ rB (Mf 1) (Mv 0) (sv_26 : Int32).toInt.toNat = 61 ∨ rB (Mf 1) (Mv 0) (sv_26 : Int32).toInt.toNat = 62) := by
                            have z_1 : ¬ (r_13 : Int32).toInt = (0 : Int32).toInt := fun z => c_18 (Int32.toInt_inj.mp z)
                            have z_2 : ¬ (r_31 : Int32).toInt = (60 : Int32).toInt := fun z => c_34 (Int32.toInt_inj.mp z)
                            have z_3 : ¬ (r_31 : Int32).toInt = (61 : Int32).toInt := fun z => c_378 (Int32.toInt_inj.mp z)
                            have z_4 := congrArg Int32.toInt c_464
                            have z_5 : ¬ (r_31 : Int32).toInt = (61 : Int32).toInt := fun z => c_466 (Int32.toInt_inj.mp z)
                            have z_6 := Int32.lt_iff_toInt_lt.mp (Int32.not_le.mp c_467)
                            have z_7 := congrArg Int32.toInt c_554
                            have z_8 : ¬ (r_652 : Int32).toInt = (0 : Int32).toInt := fun z => c_657 (Int32.toInt_inj.mp z)
                            have z_9 : ¬ (r_31 : Int32).toInt = (60 : Int32).toInt := fun z => c_658 (Int32.toInt_inj.mp z)
                            have z_10 : ¬ (r_31 : Int32).toInt = (61 : Int32).toInt := fun z => c_659 (Int32.toInt_inj.mp z)
                            have z_11 := congrArg Int32.toInt c_682
                            have y_0 : (0 : Int32).toInt = 0 := by decide
                            have y_60 : (60 : Int32).toInt = 60 := by decide
                            have y_61 : (61 : Int32).toInt = 61 := by decide
                            have y_62 : (62 : Int32).toInt = 62 := by decide
                            have y_1 : (1 : Int32).toInt = 1 := by decide
                            have t_x_465 : x_465.toInt = (sv_26 : Int32).toInt + (1 : Int32).toInt := by rw [ex_465]; exact add_toInt (by omega) (by omega)
                            omega
                          have rg_717 := rB_rg (n := (Mv 0)) h_bs ((sv_26 : Int32).toInt.toNat + 1)
                          have hk_718 : ((Mf 1) (x_465 : Int32).toInt.toNat).toInt = ((Mf 1) ((sv_26 : Int32).toInt.toNat + 1)).toInt := congrArg (fun z => ((Mf 1) z).toInt) (by
                            have z_1 : ¬ (r_13 : Int32).toInt = (0 : Int32).toInt := fun z => c_18 (Int32.toInt_inj.mp z)
                            have z_2 : ¬ (r_31 : Int32).toInt = (60 : Int32).toInt := fun z => c_34 (Int32.toInt_inj.mp z)
                            have z_3 : ¬ (r_31 : Int32).toInt = (61 : Int32).toInt := fun z => c_378 (Int32.toInt_inj.mp z)
                            have z_4 := congrArg Int32.toInt c_464
                            have z_5 : ¬ (r_31 : Int32).toInt = (61 : Int32).toInt := fun z => c_466 (Int32.toInt_inj.mp z)
                            have z_6 := Int32.lt_iff_toInt_lt.mp (Int32.not_le.mp c_467)
                            have z_7 := congrArg Int32.toInt c_554
                            have z_8 : ¬ (r_652 : Int32).toInt = (0 : Int32).toInt := fun z => c_657 (Int32.toInt_inj.mp z)
                            have z_9 : ¬ (r_31 : Int32).toInt = (60 : Int32).toInt := fun z => c_658 (Int32.toInt_inj.mp z)
                            have z_10 : ¬ (r_31 : Int32).toInt = (61 : Int32).toInt := fun z => c_659 (Int32.toInt_inj.mp z)
                            have z_11 := congrArg Int32.toInt c_682
                            have y_0 : (0 : Int32).toInt = 0 := by decide
                            have y_60 : (60 : Int32).toInt = 60 := by decide
                            have y_61 : (61 : Int32).toInt = 61 := by decide
                            have y_62 : (62 : Int32).toInt = 62 := by decide
                            have y_1 : (1 : Int32).toInt = 1 := by decide
                            have t_x_465 : x_465.toInt = (sv_26 : Int32).toInt + (1 : Int32).toInt := by rw [ex_465]; exact add_toInt (by omega) (by omega)
                            omega)
                          have hr_719 : ((x_642 : Int32).toInt = (sv_26 : Int32).toInt + 1 ∧ ¬ ((rB (Mf 1) (Mv 0) (sv_26 : Int32).toInt.toNat = 60 ∨ rB (Mf 1) (Mv 0) (sv_26 : Int32).toInt.toNat = 62) ∧ rB (Mf 1) (Mv 0) ((sv_26 : Int32).toInt.toNat + 1) = 61)) ∨ ((x_642 : Int32).toInt = (sv_26 : Int32).toInt + 2 ∧ (rB (Mf 1) (Mv 0) (sv_26 : Int32).toInt.toNat = 60 ∨ rB (Mf 1) (Mv 0) (sv_26 : Int32).toInt.toNat = 62) ∧ rB (Mf 1) (Mv 0) ((sv_26 : Int32).toInt.toNat + 1) = 61) := by
                            have z_1 : ¬ (r_13 : Int32).toInt = (0 : Int32).toInt := fun z => c_18 (Int32.toInt_inj.mp z)
                            have z_2 : ¬ (r_31 : Int32).toInt = (60 : Int32).toInt := fun z => c_34 (Int32.toInt_inj.mp z)
                            have z_3 : ¬ (r_31 : Int32).toInt = (61 : Int32).toInt := fun z => c_378 (Int32.toInt_inj.mp z)
                            have z_4 := congrArg Int32.toInt c_464
                            have z_5 : ¬ (r_31 : Int32).toInt = (61 : Int32).toInt := fun z => c_466 (Int32.toInt_inj.mp z)
                            have z_6 := Int32.lt_iff_toInt_lt.mp (Int32.not_le.mp c_467)
                            have z_7 := congrArg Int32.toInt c_554
                            have z_8 : ¬ (r_652 : Int32).toInt = (0 : Int32).toInt := fun z => c_657 (Int32.toInt_inj.mp z)
                            have z_9 : ¬ (r_31 : Int32).toInt = (60 : Int32).toInt := fun z => c_658 (Int32.toInt_inj.mp z)
                            have z_10 : ¬ (r_31 : Int32).toInt = (61 : Int32).toInt := fun z => c_659 (Int32.toInt_inj.mp z)
                            have z_11 := congrArg Int32.toInt c_682
                            have y_0 : (0 : Int32).toInt = 0 := by decide
                            have y_60 : (60 : Int32).toInt = 60 := by decide
                            have y_61 : (61 : Int32).toInt = 61 := by decide
                            have y_62 : (62 : Int32).toInt = 62 := by decide
                            have y_1 : (1 : Int32).toInt = 1 := by decide
                            have t_x_465 : x_465.toInt = (sv_26 : Int32).toInt + (1 : Int32).toInt := by rw [ex_465]; exact add_toInt (by omega) (by omega)
                            have t_x_642 : x_642.toInt = (x_465 : Int32).toInt + (1 : Int32).toInt := by rw [ex_642]; exact add_toInt (by omega) (by omega)
                            omega
                          have hr_720 : 0 ≤ (sv_7 : Int32).toInt ∧ (sv_7 : Int32).toInt < 60 ∧ (sv_650 : Int32).toInt = (sv_7 : Int32).toInt + 1 := by
                            have z_1 : ¬ (r_13 : Int32).toInt = (0 : Int32).toInt := fun z => c_18 (Int32.toInt_inj.mp z)
                            have z_2 : ¬ (r_31 : Int32).toInt = (60 : Int32).toInt := fun z => c_34 (Int32.toInt_inj.mp z)
                            have z_3 : ¬ (r_31 : Int32).toInt = (61 : Int32).toInt := fun z => c_378 (Int32.toInt_inj.mp z)
                            have z_4 := congrArg Int32.toInt c_464
                            have z_5 : ¬ (r_31 : Int32).toInt = (61 : Int32).toInt := fun z => c_466 (Int32.toInt_inj.mp z)
                            have z_6 := Int32.lt_iff_toInt_lt.mp (Int32.not_le.mp c_467)
                            have z_7 := congrArg Int32.toInt c_554
                            have z_8 : ¬ (r_652 : Int32).toInt = (0 : Int32).toInt := fun z => c_657 (Int32.toInt_inj.mp z)
                            have z_9 : ¬ (r_31 : Int32).toInt = (60 : Int32).toInt := fun z => c_658 (Int32.toInt_inj.mp z)
                            have z_10 : ¬ (r_31 : Int32).toInt = (61 : Int32).toInt := fun z => c_659 (Int32.toInt_inj.mp z)
                            have z_11 := congrArg Int32.toInt c_682
                            have y_0 : (0 : Int32).toInt = 0 := by decide
                            have y_60 : (60 : Int32).toInt = 60 := by decide
                            have y_61 : (61 : Int32).toInt = 61 := by decide
                            have y_62 : (62 : Int32).toInt = 62 := by decide
                            have y_1 : (1 : Int32).toInt = 1 := by decide
                            have t_x_465 : x_465.toInt = (sv_26 : Int32).toInt + (1 : Int32).toInt := by rw [ex_465]; exact add_toInt (by omega) (by omega)
                            omega
                          exact (RfE.com2 pf_20 pf_30 hr_716 hr_719 hr_720 pf_708)
                        exact retI (v := 0) hx hb hr hlk (rfl) hP hD hS (sv_668, sv_669, sv_670, sv_671, sv_672, sv_673) ⟨_, rfl, hp_714, ha_710, ha_711, (Agr.trans (k' := (400 * ((Mv 5) : Int32).toInt + ((Mf 3) (Mv 5).toNatClampNeg).toInt)) (Agr.mono pf_12 hr_712) pf_676 ⟨Int.le_refl _, hr_713⟩), (fun h => absurd h (by decide)), hm_715⟩ [0, 1, 2, 3] rfl rfl dX12_compare_162 (Nat.le_of_ble_eq_true rfl) (Nat.le_of_ble_eq_true rfl) rfl
                    · skip
                      exfalso
                      have z_1 : ¬ (r_13 : Int32).toInt = (0 : Int32).toInt := fun z => c_18 (Int32.toInt_inj.mp z)
                      have z_2 : ¬ (r_31 : Int32).toInt = (60 : Int32).toInt := fun z => c_34 (Int32.toInt_inj.mp z)
                      have z_3 : ¬ (r_31 : Int32).toInt = (61 : Int32).toInt := fun z => c_378 (Int32.toInt_inj.mp z)
                      have z_4 := congrArg Int32.toInt c_464
                      have z_5 : ¬ (r_31 : Int32).toInt = (61 : Int32).toInt := fun z => c_466 (Int32.toInt_inj.mp z)
                      have z_6 := Int32.lt_iff_toInt_lt.mp (Int32.not_le.mp c_467)
                      have z_7 := congrArg Int32.toInt c_554
                      have z_8 : ¬ (r_652 : Int32).toInt = (0 : Int32).toInt := fun z => c_657 (Int32.toInt_inj.mp z)
                      have z_9 : ¬ (r_31 : Int32).toInt = (60 : Int32).toInt := fun z => c_658 (Int32.toInt_inj.mp z)
                      have z_10 := congrArg Int32.toInt c_659
                      have y_0 : (0 : Int32).toInt = 0 := by decide
                      have y_60 : (60 : Int32).toInt = 60 := by decide
                      have y_61 : (61 : Int32).toInt = 61 := by decide
                      have y_62 : (62 : Int32).toInt = 62 := by decide
                      have y_1 : (1 : Int32).toInt = 1 := by decide
                      have t_x_465 : x_465.toInt = (sv_26 : Int32).toInt + (1 : Int32).toInt := by rw [ex_465]; exact add_toInt (by omega) (by omega)
                      omega
                  · skip
                    exfalso
                    have z_1 : ¬ (r_13 : Int32).toInt = (0 : Int32).toInt := fun z => c_18 (Int32.toInt_inj.mp z)
                    have z_2 : ¬ (r_31 : Int32).toInt = (60 : Int32).toInt := fun z => c_34 (Int32.toInt_inj.mp z)
                    have z_3 : ¬ (r_31 : Int32).toInt = (61 : Int32).toInt := fun z => c_378 (Int32.toInt_inj.mp z)
                    have z_4 := congrArg Int32.toInt c_464
                    have z_5 : ¬ (r_31 : Int32).toInt = (61 : Int32).toInt := fun z => c_466 (Int32.toInt_inj.mp z)
                    have z_6 := Int32.lt_iff_toInt_lt.mp (Int32.not_le.mp c_467)
                    have z_7 := congrArg Int32.toInt c_554
                    have z_8 : ¬ (r_652 : Int32).toInt = (0 : Int32).toInt := fun z => c_657 (Int32.toInt_inj.mp z)
                    have z_9 := congrArg Int32.toInt c_658
                    have y_0 : (0 : Int32).toInt = 0 := by decide
                    have y_60 : (60 : Int32).toInt = 60 := by decide
                    have y_61 : (61 : Int32).toInt = 61 := by decide
                    have y_62 : (62 : Int32).toInt = 62 := by decide
                    have y_1 : (1 : Int32).toInt = 1 := by decide
                    have t_x_465 : x_465.toInt = (sv_26 : Int32).toInt + (1 : Int32).toInt := by rw [ex_465]; exact add_toInt (by omega) (by omega)
                    omega
                · skip
                  refine lv_iconst (v := 0) hx hb dX12_compare_113 (by decide) ?_
                  have ha_721 : ((Mv 2) : Int32).toInt ≤ (x_642 : Int32).toInt ∧ (x_642 : Int32).toInt ≤ ((Mv 0) : Int32).toInt := by
                    have z_1 : ¬ (r_13 : Int32).toInt = (0 : Int32).toInt := fun z => c_18 (Int32.toInt_inj.mp z)
                    have z_2 : ¬ (r_31 : Int32).toInt = (60 : Int32).toInt := fun z => c_34 (Int32.toInt_inj.mp z)
                    have z_3 : ¬ (r_31 : Int32).toInt = (61 : Int32).toInt := fun z => c_378 (Int32.toInt_inj.mp z)
                    have z_4 := congrArg Int32.toInt c_464
                    have z_5 : ¬ (r_31 : Int32).toInt = (61 : Int32).toInt := fun z => c_466 (Int32.toInt_inj.mp z)
                    have z_6 := Int32.lt_iff_toInt_lt.mp (Int32.not_le.mp c_467)
                    have z_7 := congrArg Int32.toInt c_554
                    have z_8 := congrArg Int32.toInt c_657
                    have y_0 : (0 : Int32).toInt = 0 := by decide
                    have y_60 : (60 : Int32).toInt = 60 := by decide
                    have y_61 : (61 : Int32).toInt = 61 := by decide
                    have y_62 : (62 : Int32).toInt = 62 := by decide
                    have y_1 : (1 : Int32).toInt = 1 := by decide
                    have t_x_465 : x_465.toInt = (sv_26 : Int32).toInt + (1 : Int32).toInt := by rw [ex_465]; exact add_toInt (by omega) (by omega)
                    have t_x_642 : x_642.toInt = (x_465 : Int32).toInt + (1 : Int32).toInt := by rw [ex_642]; exact add_toInt (by omega) (by omega)
                    omega
                  have ha_722 : ((Mv 6) : Int32).toInt ≤ (sv_650 : Int32).toInt ∧ (sv_650 : Int32).toInt ≤ 60 := by
                    have z_1 : ¬ (r_13 : Int32).toInt = (0 : Int32).toInt := fun z => c_18 (Int32.toInt_inj.mp z)
                    have z_2 : ¬ (r_31 : Int32).toInt = (60 : Int32).toInt := fun z => c_34 (Int32.toInt_inj.mp z)
                    have z_3 : ¬ (r_31 : Int32).toInt = (61 : Int32).toInt := fun z => c_378 (Int32.toInt_inj.mp z)
                    have z_4 := congrArg Int32.toInt c_464
                    have z_5 : ¬ (r_31 : Int32).toInt = (61 : Int32).toInt := fun z => c_466 (Int32.toInt_inj.mp z)
                    have z_6 := Int32.lt_iff_toInt_lt.mp (Int32.not_le.mp c_467)
                    have z_7 := congrArg Int32.toInt c_554
                    have z_8 := congrArg Int32.toInt c_657
                    have y_0 : (0 : Int32).toInt = 0 := by decide
                    have y_60 : (60 : Int32).toInt = 60 := by decide
                    have y_61 : (61 : Int32).toInt = 61 := by decide
                    have y_62 : (62 : Int32).toInt = 62 := by decide
                    have y_1 : (1 : Int32).toInt = 1 := by decide
                    have t_x_465 : x_465.toInt = (sv_26 : Int32).toInt + (1 : Int32).toInt := by rw [ex_465]; exact add_toInt (by omega) (by omega)
                    omega
                  have hp_723 : (((0 : Int32).toInt = 0 ∧ ¬ (sv_649 : Int32).toInt = 0) ∨ ((0 : Int32).toInt = 1 ∧ ((Mf 3) (Mv 5).toNatClampNeg).toInt + 1 ≤ (sv_9 (Mv 5).toNatClampNeg).toInt ∧ (sv_9 (Mv 5).toNatClampNeg).toInt + ((Mv 2) : Int32).toInt ≤ ((Mf 3) (Mv 5).toNatClampNeg).toInt + (x_642 : Int32).toInt ∧ ((Mv 2) : Int32).toInt + 1 ≤ (x_642 : Int32).toInt)) := by
                    have z_1 : ¬ (r_13 : Int32).toInt = (0 : Int32).toInt := fun z => c_18 (Int32.toInt_inj.mp z)
                    have z_2 : ¬ (r_31 : Int32).toInt = (60 : Int32).toInt := fun z => c_34 (Int32.toInt_inj.mp z)
                    have z_3 : ¬ (r_31 : Int32).toInt = (61 : Int32).toInt := fun z => c_378 (Int32.toInt_inj.mp z)
                    have z_4 := congrArg Int32.toInt c_464
                    have z_5 : ¬ (r_31 : Int32).toInt = (61 : Int32).toInt := fun z => c_466 (Int32.toInt_inj.mp z)
                    have z_6 := Int32.lt_iff_toInt_lt.mp (Int32.not_le.mp c_467)
                    have z_7 := congrArg Int32.toInt c_554
                    have z_8 := congrArg Int32.toInt c_657
                    have y_0 : (0 : Int32).toInt = 0 := by decide
                    have y_60 : (60 : Int32).toInt = 60 := by decide
                    have y_61 : (61 : Int32).toInt = 61 := by decide
                    have y_62 : (62 : Int32).toInt = 62 := by decide
                    have y_1 : (1 : Int32).toInt = 1 := by decide
                    have t_x_465 : x_465.toInt = (sv_26 : Int32).toInt + (1 : Int32).toInt := by rw [ex_465]; exact add_toInt (by omega) (by omega)
                    have t_x_642 : x_642.toInt = (x_465 : Int32).toInt + (1 : Int32).toInt := by rw [ex_642]; exact add_toInt (by omega) (by omega)
                    omega
                  have hm_724 : (0 : Int32).toInt = 0 → (RfE (pz_com (rB (Mf 1) (Mv 0)) (St0 (rB (Mf 1) (Mv 0)) (Mv 2) (Mv 6))) sv_649) := by
                    intro h1r
                    have hr_725 : (rB (Mf 1) (Mv 0) (sv_26 : Int32).toInt.toNat = 60 ∨ rB (Mf 1) (Mv 0) (sv_26 : Int32).toInt.toNat = 61 ∨ rB (Mf 1) (Mv 0) (sv_26 : Int32).toInt.toNat = 62) := by
                      have z_1 : ¬ (r_13 : Int32).toInt = (0 : Int32).toInt := fun z => c_18 (Int32.toInt_inj.mp z)
                      have z_2 : ¬ (r_31 : Int32).toInt = (60 : Int32).toInt := fun z => c_34 (Int32.toInt_inj.mp z)
                      have z_3 : ¬ (r_31 : Int32).toInt = (61 : Int32).toInt := fun z => c_378 (Int32.toInt_inj.mp z)
                      have z_4 := congrArg Int32.toInt c_464
                      have z_5 : ¬ (r_31 : Int32).toInt = (61 : Int32).toInt := fun z => c_466 (Int32.toInt_inj.mp z)
                      have z_6 := Int32.lt_iff_toInt_lt.mp (Int32.not_le.mp c_467)
                      have z_7 := congrArg Int32.toInt c_554
                      have z_8 := congrArg Int32.toInt c_657
                      have y_0 : (0 : Int32).toInt = 0 := by decide
                      have y_60 : (60 : Int32).toInt = 60 := by decide
                      have y_61 : (61 : Int32).toInt = 61 := by decide
                      have y_62 : (62 : Int32).toInt = 62 := by decide
                      have y_1 : (1 : Int32).toInt = 1 := by decide
                      have t_x_465 : x_465.toInt = (sv_26 : Int32).toInt + (1 : Int32).toInt := by rw [ex_465]; exact add_toInt (by omega) (by omega)
                      omega
                    have hr_726 : 60 ≤ (sv_7 : Int32).toInt := by
                      have z_1 : ¬ (r_13 : Int32).toInt = (0 : Int32).toInt := fun z => c_18 (Int32.toInt_inj.mp z)
                      have z_2 : ¬ (r_31 : Int32).toInt = (60 : Int32).toInt := fun z => c_34 (Int32.toInt_inj.mp z)
                      have z_3 : ¬ (r_31 : Int32).toInt = (61 : Int32).toInt := fun z => c_378 (Int32.toInt_inj.mp z)
                      have z_4 := congrArg Int32.toInt c_464
                      have z_5 : ¬ (r_31 : Int32).toInt = (61 : Int32).toInt := fun z => c_466 (Int32.toInt_inj.mp z)
                      have z_6 := Int32.lt_iff_toInt_lt.mp (Int32.not_le.mp c_467)
                      have z_7 := congrArg Int32.toInt c_554
                      have z_8 := congrArg Int32.toInt c_657
                      have y_0 : (0 : Int32).toInt = 0 := by decide
                      have y_60 : (60 : Int32).toInt = 60 := by decide
                      have y_61 : (61 : Int32).toInt = 61 := by decide
                      have y_62 : (62 : Int32).toInt = 62 := by decide
                      have y_1 : (1 : Int32).toInt = 1 := by decide
                      have t_x_465 : x_465.toInt = (sv_26 : Int32).toInt + (1 : Int32).toInt := by rw [ex_465]; exact add_toInt (by omega) (by omega)
                      omega
                    have hi_727 : (sv_649 : Int32).toInt = 1 + 8 * (sv_26 : Int32).toInt + 3 := by
                      have z_1 : ¬ (r_13 : Int32).toInt = (0 : Int32).toInt := fun z => c_18 (Int32.toInt_inj.mp z)
                      have z_2 : ¬ (r_31 : Int32).toInt = (60 : Int32).toInt := fun z => c_34 (Int32.toInt_inj.mp z)
                      have z_3 : ¬ (r_31 : Int32).toInt = (61 : Int32).toInt := fun z => c_378 (Int32.toInt_inj.mp z)
                      have z_4 := congrArg Int32.toInt c_464
                      have z_5 : ¬ (r_31 : Int32).toInt = (61 : Int32).toInt := fun z => c_466 (Int32.toInt_inj.mp z)
                      have z_6 := Int32.lt_iff_toInt_lt.mp (Int32.not_le.mp c_467)
                      have z_7 := congrArg Int32.toInt c_554
                      have z_8 := congrArg Int32.toInt c_657
                      have y_0 : (0 : Int32).toInt = 0 := by decide
                      have y_60 : (60 : Int32).toInt = 60 := by decide
                      have y_61 : (61 : Int32).toInt = 61 := by decide
                      have y_62 : (62 : Int32).toInt = 62 := by decide
                      have y_1 : (1 : Int32).toInt = 1 := by decide
                      have t_x_465 : x_465.toInt = (sv_26 : Int32).toInt + (1 : Int32).toInt := by rw [ex_465]; exact add_toInt (by omega) (by omega)
                      omega
                    exact (RfE.com3 pf_20 pf_30 hr_725 hr_726 hi_727)
                  exact retI (v := 0) hx hb hr hlk (rfl) hP hD hS (x_642, sv_649, sv_6, sv_650, sv_8, sv_9) ⟨_, rfl, hp_723, ha_721, ha_722, pf_12, (fun h => absurd h (by decide)), hm_724⟩ [3, 2, 0, 1] rfl rfl dX12_compare_114 (Nat.le_of_ble_eq_true rfl) (Nat.le_of_ble_eq_true rfl) rfl
        · skip
          refine lv_aload_n hx hb dX12_compare_37 rfl (lv_at hl 2 rfl) ?_
          refine lv_iconst (v := 0) hx hb dX12_compare_38 (by decide) ?_
          refine lv_iload_n hx hb dX12_compare_39 rfl (lv_at hl 0 rfl) ?_
          have ha_728 : 0 ≤ (0 : Int32).toInt ∧ (0 : Int32).toInt ≤ 4 := by
            have z_1 : ¬ (r_13 : Int32).toInt = (0 : Int32).toInt := fun z => c_18 (Int32.toInt_inj.mp z)
            have z_2 : ¬ (r_31 : Int32).toInt = (60 : Int32).toInt := fun z => c_34 (Int32.toInt_inj.mp z)
            have z_3 : ¬ (r_31 : Int32).toInt = (61 : Int32).toInt := fun z => c_378 (Int32.toInt_inj.mp z)
            have z_4 : ¬ (r_31 : Int32).toInt = (62 : Int32).toInt := fun z => c_464 (Int32.toInt_inj.mp z)
            have y_0 : (0 : Int32).toInt = 0 := by decide
            have y_60 : (60 : Int32).toInt = 60 := by decide
            have y_61 : (61 : Int32).toInt = 61 := by decide
            have y_62 : (62 : Int32).toInt = 62 := by decide
            omega
          have ha_729 : 0 ≤ sv_26.toInt ∧ sv_26.toInt ≤ 400 := by
            have z_1 : ¬ (r_13 : Int32).toInt = (0 : Int32).toInt := fun z => c_18 (Int32.toInt_inj.mp z)
            have z_2 : ¬ (r_31 : Int32).toInt = (60 : Int32).toInt := fun z => c_34 (Int32.toInt_inj.mp z)
            have z_3 : ¬ (r_31 : Int32).toInt = (61 : Int32).toInt := fun z => c_378 (Int32.toInt_inj.mp z)
            have z_4 : ¬ (r_31 : Int32).toInt = (62 : Int32).toInt := fun z => c_464 (Int32.toInt_inj.mp z)
            have y_0 : (0 : Int32).toInt = 0 := by decide
            have y_60 : (60 : Int32).toInt = 60 := by decide
            have y_61 : (61 : Int32).toInt = 61 := by decide
            have y_62 : (62 : Int32).toInt = 62 := by decide
            omega
          have ha_730 : (sv_5 : Int32).toInt = 0 := by
            have z_1 : ¬ (r_13 : Int32).toInt = (0 : Int32).toInt := fun z => c_18 (Int32.toInt_inj.mp z)
            have z_2 : ¬ (r_31 : Int32).toInt = (60 : Int32).toInt := fun z => c_34 (Int32.toInt_inj.mp z)
            have z_3 : ¬ (r_31 : Int32).toInt = (61 : Int32).toInt := fun z => c_378 (Int32.toInt_inj.mp z)
            have z_4 : ¬ (r_31 : Int32).toInt = (62 : Int32).toInt := fun z => c_464 (Int32.toInt_inj.mp z)
            have y_0 : (0 : Int32).toInt = 0 := by decide
            have y_60 : (60 : Int32).toInt = 60 := by decide
            have y_61 : (61 : Int32).toInt = 61 := by decide
            have y_62 : (62 : Int32).toInt = 62 := by decide
            omega
          refine cV (a := (Ma 0)) (As := [.int 0, .int sv_26]) (rest := []) (wr := [((Ma 2), .inl (tc 0, 2400, .inl sv_8)), ((Ma 3), .inl (tc 0, 7, .inl sv_9)), ((Ma 1), .inl (tc 2, 400, .inl (Mf 1)))]) ⟨hx, hb, hml, hown, hts⟩ hK hX hA (cu_fX12_fails l D tc sk (Ma 0) (Ma 1) (Ma 2) (Ma 3) (Ma 4) (Ma 5) (Ma 6) (Ma 7) (Ma 8) (Ma 9) (Ma 10) (Ma 11) (Ma 12) (Ma 13) (Ma 14) (Ma 15) (Ma 16) (Ma 17) (Ma 18) (Ma 19) (Ma 20) (Mv 0) (Mv 1) sv_26 sv_5 sv_6 (Mv 5) sv_7 (Mv 7) (Mv 8) (Mv 9) (Mv 10) (Mv 11) (Mv 12) (Mv 13) (Mv 14) (Mj 0) 0 sv_26 ha_728 ha_729 ha_730) k_1232 k_1229 k_1231 k_31 k_106 pl_X12_fails ⟨Nat.le_of_ble_eq_true rfl, Nat.le_of_ble_eq_true rfl⟩ rfl rfl (va_recv hK hP (ci := 12) (q0 := 2) rfl rfl) hP hD hS [2] [0, 1, 3] rfl rfl rfl rfl rfl (by decide) rfl hl.1 rfl (Nat.le_of_ble_eq_true rfl) dX12_compare_40 ⟨Nat.le_of_ble_eq_true rfl, Nat.le_of_ble_eq_true rfl⟩ (fun v_731 u_732 H locs hv_733 hP₀ hD₀ hS₀ => ?_)
          obtain ⟨sv_734, rfl⟩ : ∃ z, z = u_732 := ⟨_, rfl⟩
          obtain ⟨r_737, rfl, he_738, pf_735, pf_736⟩ := hv_733
          have he_738 : r_737.toInt = 0 := he_738
          have pf_735 : ¬ (sv_734 : Int32).toInt = 0 := pf_735
          have pf_736 : (sv_734 : Int32).toInt = 1 + 8 * sv_26.toInt + (0 : Int32).toInt := pf_736
          refine W.eq (g2 := F0 m 43 ls [.int r_737]) rfl ?_
          replace hP : va_P D classes [((Ma 2), .inl (tc 0, 2400, .inl sv_8)), ((Ma 3), .inl (tc 0, 7, .inl sv_9)), ((Ma 1), .inl (tc 2, 400, .inl (Mf 1))), ((Ma 0), .inr (12, [.ref (Ma 1), .int (Mv 0), .int (Mv 1), .ref (Ma 2), .ref (Ma 3), .ref (Ma 4), .ref (Ma 5), .ref (Ma 6), .int sv_26, .int sv_734, .int sv_6, .int (Mv 5), .int sv_7, .int (Mv 7), .int (Mv 8), .ref (Ma 7), .int (Mv 9), .ref (Ma 8), .int (Mv 10), .ref (Ma 9), .ref (Ma 10), .int (Mv 11), .int (Mv 12), .int (Mv 13), .ref (Ma 11), .int (Mv 14), .ref (Ma 12), .ref (Ma 13), .ref (Ma 14), .ref (Ma 15), .ref (Ma 16), .long (Mj 0), .ref (Ma 17), .ref (Ma 18), .ref (Ma 19), .ref (Ma 20)]))] H := hP₀
          replace hD : va_D A [((Ma 2), .inl (tc 0, 2400, .inl sv_8)), ((Ma 3), .inl (tc 0, 7, .inl sv_9)), ((Ma 1), .inl (tc 2, 400, .inl (Mf 1))), ((Ma 0), .inr (12, [.ref (Ma 1), .int (Mv 0), .int (Mv 1), .ref (Ma 2), .ref (Ma 3), .ref (Ma 4), .ref (Ma 5), .ref (Ma 6), .int sv_26, .int sv_734, .int sv_6, .int (Mv 5), .int sv_7, .int (Mv 7), .int (Mv 8), .ref (Ma 7), .int (Mv 9), .ref (Ma 8), .int (Mv 10), .ref (Ma 9), .ref (Ma 10), .int (Mv 11), .int (Mv 12), .int (Mv 13), .ref (Ma 11), .int (Mv 14), .ref (Ma 12), .ref (Ma 13), .ref (Ma 14), .ref (Ma 15), .ref (Ma 16), .long (Mj 0), .ref (Ma 17), .ref (Ma 18), .ref (Ma 19), .ref (Ma 20)]))] := hD₀
          replace hS := hS₀
          clear hP₀ hD₀ hS₀
          have yf_740 : (0 : Int32).toInt = 0 := by decide
          have ha_741 : ((Mv 2) : Int32).toInt ≤ (sv_26 : Int32).toInt ∧ (sv_26 : Int32).toInt ≤ ((Mv 0) : Int32).toInt := by
            have z_1 : ¬ (r_13 : Int32).toInt = (0 : Int32).toInt := fun z => c_18 (Int32.toInt_inj.mp z)
            have z_2 : ¬ (r_31 : Int32).toInt = (60 : Int32).toInt := fun z => c_34 (Int32.toInt_inj.mp z)
            have z_3 : ¬ (r_31 : Int32).toInt = (61 : Int32).toInt := fun z => c_378 (Int32.toInt_inj.mp z)
            have z_4 : ¬ (r_31 : Int32).toInt = (62 : Int32).toInt := fun z => c_464 (Int32.toInt_inj.mp z)
            have y_0 : (0 : Int32).toInt = 0 := by decide
            have y_60 : (60 : Int32).toInt = 60 := by decide
            have y_61 : (61 : Int32).toInt = 61 := by decide
            have y_62 : (62 : Int32).toInt = 62 := by decide
            omega
          have hb_742 : (r_737 : Int32).toInt = 0 ∨ (r_737 : Int32).toInt = 1 := by
            have z_1 : ¬ (r_13 : Int32).toInt = (0 : Int32).toInt := fun z => c_18 (Int32.toInt_inj.mp z)
            have z_2 : ¬ (r_31 : Int32).toInt = (60 : Int32).toInt := fun z => c_34 (Int32.toInt_inj.mp z)
            have z_3 : ¬ (r_31 : Int32).toInt = (61 : Int32).toInt := fun z => c_378 (Int32.toInt_inj.mp z)
            have z_4 : ¬ (r_31 : Int32).toInt = (62 : Int32).toInt := fun z => c_464 (Int32.toInt_inj.mp z)
            have y_0 : (0 : Int32).toInt = 0 := by decide
            have y_60 : (60 : Int32).toInt = 60 := by decide
            have y_61 : (61 : Int32).toInt = 61 := by decide
            have y_62 : (62 : Int32).toInt = 62 := by decide
            omega
          have hp_743 : (((r_737 : Int32).toInt = 0 ∧ ¬ (sv_734 : Int32).toInt = 0) ∨ ((r_737 : Int32).toInt = 1 ∧ ((Mf 3) (Mv 5).toNatClampNeg).toInt + 1 ≤ (sv_9 (Mv 5).toNatClampNeg).toInt ∧ (sv_9 (Mv 5).toNatClampNeg).toInt + ((Mv 2) : Int32).toInt ≤ ((Mf 3) (Mv 5).toNatClampNeg).toInt + (sv_26 : Int32).toInt ∧ ((Mv 2) : Int32).toInt + 1 ≤ (sv_26 : Int32).toInt)) := by
            have z_1 : ¬ (r_13 : Int32).toInt = (0 : Int32).toInt := fun z => c_18 (Int32.toInt_inj.mp z)
            have z_2 : ¬ (r_31 : Int32).toInt = (60 : Int32).toInt := fun z => c_34 (Int32.toInt_inj.mp z)
            have z_3 : ¬ (r_31 : Int32).toInt = (61 : Int32).toInt := fun z => c_378 (Int32.toInt_inj.mp z)
            have z_4 : ¬ (r_31 : Int32).toInt = (62 : Int32).toInt := fun z => c_464 (Int32.toInt_inj.mp z)
            have y_0 : (0 : Int32).toInt = 0 := by decide
            have y_60 : (60 : Int32).toInt = 60 := by decide
            have y_61 : (61 : Int32).toInt = 61 := by decide
            have y_62 : (62 : Int32).toInt = 62 := by decide
            omega
          have hm_744 : (r_737 : Int32).toInt = 1 → (Cd sv_8 sv_9 (Mv 5) b sv_7 (d + 1)) ∧ (RfO (pz_com (rB (Mf 1) (Mv 0)) (St0 (rB (Mf 1) (Mv 0)) (Mv 2) (Mv 6))) (rB (Mf 1) (Mv 0)) sv_734 sv_26 sv_7) := by
            intro h1r
            exfalso
            have z_1 : ¬ (r_13 : Int32).toInt = (0 : Int32).toInt := fun z => c_18 (Int32.toInt_inj.mp z)
            have z_2 : ¬ (r_31 : Int32).toInt = (60 : Int32).toInt := fun z => c_34 (Int32.toInt_inj.mp z)
            have z_3 : ¬ (r_31 : Int32).toInt = (61 : Int32).toInt := fun z => c_378 (Int32.toInt_inj.mp z)
            have z_4 : ¬ (r_31 : Int32).toInt = (62 : Int32).toInt := fun z => c_464 (Int32.toInt_inj.mp z)
            have y_0 : (0 : Int32).toInt = 0 := by decide
            have y_60 : (60 : Int32).toInt = 60 := by decide
            have y_61 : (61 : Int32).toInt = 61 := by decide
            have y_62 : (62 : Int32).toInt = 62 := by decide
            omega
          have hm_745 : (r_737 : Int32).toInt = 0 → (RfE (pz_com (rB (Mf 1) (Mv 0)) (St0 (rB (Mf 1) (Mv 0)) (Mv 2) (Mv 6))) sv_734) := by
            intro h1r
            have hr_746 : ¬ (rB (Mf 1) (Mv 0) (sv_26 : Int32).toInt.toNat = 60 ∨ rB (Mf 1) (Mv 0) (sv_26 : Int32).toInt.toNat = 61 ∨ rB (Mf 1) (Mv 0) (sv_26 : Int32).toInt.toNat = 62) := by
              have z_1 : ¬ (r_13 : Int32).toInt = (0 : Int32).toInt := fun z => c_18 (Int32.toInt_inj.mp z)
              have z_2 : ¬ (r_31 : Int32).toInt = (60 : Int32).toInt := fun z => c_34 (Int32.toInt_inj.mp z)
              have z_3 : ¬ (r_31 : Int32).toInt = (61 : Int32).toInt := fun z => c_378 (Int32.toInt_inj.mp z)
              have z_4 : ¬ (r_31 : Int32).toInt = (62 : Int32).toInt := fun z => c_464 (Int32.toInt_inj.mp z)
              have y_0 : (0 : Int32).toInt = 0 := by decide
              have y_60 : (60 : Int32).toInt = 60 := by decide
              have y_61 : (61 : Int32).toInt = 61 := by decide
              have y_62 : (62 : Int32).toInt = 62 := by decide
              omega
            have hi_747 : (sv_734 : Int32).toInt = 1 + 8 * (sv_26 : Int32).toInt := by
              have z_1 : ¬ (r_13 : Int32).toInt = (0 : Int32).toInt := fun z => c_18 (Int32.toInt_inj.mp z)
              have z_2 : ¬ (r_31 : Int32).toInt = (60 : Int32).toInt := fun z => c_34 (Int32.toInt_inj.mp z)
              have z_3 : ¬ (r_31 : Int32).toInt = (61 : Int32).toInt := fun z => c_378 (Int32.toInt_inj.mp z)
              have z_4 : ¬ (r_31 : Int32).toInt = (62 : Int32).toInt := fun z => c_464 (Int32.toInt_inj.mp z)
              have y_0 : (0 : Int32).toInt = 0 := by decide
              have y_60 : (60 : Int32).toInt = 60 := by decide
              have y_61 : (61 : Int32).toInt = 61 := by decide
              have y_62 : (62 : Int32).toInt = 62 := by decide
              omega
            exact (RfE.com0 pf_20 pf_30 hr_746 hi_747)
          exact retI (v := r_737) hx hb hr hlk (nar01 hb_742) hP hD hS (sv_26, sv_734, sv_6, sv_7, sv_8, sv_9) ⟨_, rfl, hp_743, ha_741, pf_11, pf_12, hm_744, hm_745⟩ [3, 2, 0, 1] rfl rfl dX12_compare_43 (Nat.le_of_ble_eq_true rfl) (Nat.le_of_ble_eq_true rfl) rfl
  · skip
    have hz_749 : (r_13 : Int32).toInt = 0 := by
      have z_1 := congrArg Int32.toInt c_18
      have y_0 : (0 : Int32).toInt = 0 := by decide
      omega
    obtain pf_748 := hm_17 hz_749
    have pf_748 : RfE (pz_sum (rB (Mf 1) (Mv 0)) (St0 (rB (Mf 1) (Mv 0)) (Mv 2) (Mv 6))) sv_5 := pf_748
    refine lv_iconst (v := 0) hx hb dX12_compare_7 (by decide) ?_
    have hp_750 : (((0 : Int32).toInt = 0 ∧ ¬ (sv_5 : Int32).toInt = 0) ∨ ((0 : Int32).toInt = 1 ∧ ((Mf 3) (Mv 5).toNatClampNeg).toInt + 1 ≤ (sv_9 (Mv 5).toNatClampNeg).toInt ∧ (sv_9 (Mv 5).toNatClampNeg).toInt + ((Mv 2) : Int32).toInt ≤ ((Mf 3) (Mv 5).toNatClampNeg).toInt + (sv_4 : Int32).toInt ∧ ((Mv 2) : Int32).toInt + 1 ≤ (sv_4 : Int32).toInt)) := by
      have z_1 := congrArg Int32.toInt c_18
      have y_0 : (0 : Int32).toInt = 0 := by decide
      omega
    have hm_751 : (0 : Int32).toInt = 0 → (RfE (pz_com (rB (Mf 1) (Mv 0)) (St0 (rB (Mf 1) (Mv 0)) (Mv 2) (Mv 6))) sv_5) := by
      intro h1r
      exact (RfE.com1 pf_748)
    exact retI (v := 0) hx hb hr hlk (rfl) hP hD hS (sv_4, sv_5, sv_6, sv_7, sv_8, sv_9) ⟨_, rfl, hp_750, pf_10, pf_11, pf_12, (fun h => absurd h (by decide)), hm_751⟩ [0, 1, 2, 3] rfl rfl dX12_compare_8 (Nat.le_of_ble_eq_true rfl) (Nat.le_of_ble_eq_true rfl) rfl
set_option maxRecDepth 100000 in
theorem cu_fX12_compare (l : Launch) (D : va_G) (tc : Nat → ClassId) (sk : (Nat → Nat) × (Nat → Nat)) (Ma_0 : Nat) (Ma_1 : Nat) (Ma_2 : Nat) (Ma_3 : Nat) (Ma_4 : Nat) (Ma_5 : Nat) (Ma_6 : Nat) (Ma_7 : Nat) (Ma_8 : Nat) (Ma_9 : Nat) (Ma_10 : Nat) (Ma_11 : Nat) (Ma_12 : Nat) (Ma_13 : Nat) (Ma_14 : Nat) (Ma_15 : Nat) (Ma_16 : Nat) (Ma_17 : Nat) (Ma_18 : Nat) (Ma_19 : Nat) (Ma_20 : Nat) (Mv_0 : Int32) (Mv_1 : Int32) (Mv_2 : Int32) (Mv_3 : Int32) (Mv_4 : Int32) (Mv_5 : Int32) (Mv_6 : Int32) (Mv_7 : Int32) (Mv_8 : Int32) (Mv_9 : Int32) (Mv_10 : Int32) (Mv_11 : Int32) (Mv_12 : Int32) (Mv_13 : Int32) (Mv_14 : Int32) (Mf_1 : Nat → Int32) (Mf_2 : Nat → Int32) (Mf_3 : Nat → Int32) (Mj_0 : Int64) (b : Int32) (d : Nat) (h_nx : 0 ≤ (Mv_2 : Int32).toInt ∧ (Mv_2 : Int32).toInt ≤ (Mv_0 : Int32).toInt ∧ (Mv_0 : Int32).toInt ≤ 400) (h_cd : Cd Mf_2 Mf_3 Mv_5 b Mv_6 d) (h_L : (Mf_3 Mv_5.toNatClampNeg).toInt ≤ (Mv_2 : Int32).toInt) (h_md : 0 ≤ (Mv_6 : Int32).toInt ∧ (Mv_6 : Int32).toInt ≤ 60) (h_bs : ByS Mf_1) (h_w : (Mv_3 : Int32).toInt = 0) : Ct l yX12_compare cX12_compare 5 (some .boolean) { frames := 6, cells := 0, slots := 0, locals := 130 } D tc sk [.ref Ma_0] [(Ma_0, .inr (12, [.ref Ma_1, .int Mv_0, .int Mv_1, .ref Ma_2, .ref Ma_3, .ref Ma_4, .ref Ma_5, .ref Ma_6, .int Mv_2, .int Mv_3, .int Mv_4, .int Mv_5, .int Mv_6, .int Mv_7, .int Mv_8, .ref Ma_7, .int Mv_9, .ref Ma_8, .int Mv_10, .ref Ma_9, .ref Ma_10, .int Mv_11, .int Mv_12, .int Mv_13, .ref Ma_11, .int Mv_14, .ref Ma_12, .ref Ma_13, .ref Ma_14, .ref Ma_15, .ref Ma_16, .long Mj_0, .ref Ma_17, .ref Ma_18, .ref Ma_19, .ref Ma_20])), (Ma_1, .inl (tc 2, 400, .inl Mf_1)), (Ma_2, .inl (tc 0, 2400, .inl Mf_2)), (Ma_3, .inl (tc 0, 7, .inl Mf_3))] (fun (v : Option Value) (u : (Int32) × (Int32) × (Int32) × (Int32) × (Nat → Int32) × (Nat → Int32)) => match u with | (oo0x1, oo0x2, oo0x3, oo0x4, oo0x5, oo0x6) => ∃ r : Int32, v = some (.int r) ∧ (((r.toInt = 0 ∧ ¬ (oo0x2 : Int32).toInt = 0) ∨ (r.toInt = 1 ∧ (Mf_3 Mv_5.toNatClampNeg).toInt + 1 ≤ (oo0x6 Mv_5.toNatClampNeg).toInt ∧ (oo0x6 Mv_5.toNatClampNeg).toInt + (Mv_2 : Int32).toInt ≤ (Mf_3 Mv_5.toNatClampNeg).toInt + (oo0x1 : Int32).toInt ∧ (Mv_2 : Int32).toInt + 1 ≤ (oo0x1 : Int32).toInt))) ∧ ((Mv_2 : Int32).toInt ≤ (oo0x1 : Int32).toInt ∧ (oo0x1 : Int32).toInt ≤ (Mv_0 : Int32).toInt) ∧ ((Mv_6 : Int32).toInt ≤ (oo0x4 : Int32).toInt ∧ (oo0x4 : Int32).toInt ≤ 60) ∧ (Agr Mf_2 oo0x5 (400 * (Mv_5 : Int32).toInt + (Mf_3 Mv_5.toNatClampNeg).toInt)) ∧ (r.toInt = 1 → (Cd oo0x5 oo0x6 Mv_5 b oo0x4 (d + 1)) ∧ (RfO (pz_com (rB Mf_1 Mv_0) (St0 (rB Mf_1 Mv_0) Mv_2 Mv_6)) (rB Mf_1 Mv_0) oo0x2 oo0x1 oo0x4)) ∧ (r.toInt = 0 → (RfE (pz_com (rB Mf_1 Mv_0) (St0 (rB Mf_1 Mv_0) Mv_2 Mv_6)) oo0x2))) (fun (u : (Int32) × (Int32) × (Int32) × (Int32) × (Nat → Int32) × (Nat → Int32)) => match u with | (oo0x1, oo0x2, oo0x3, oo0x4, oo0x5, oo0x6) => [(Ma_0, .inr (12, [.ref Ma_1, .int Mv_0, .int Mv_1, .ref Ma_2, .ref Ma_3, .ref Ma_4, .ref Ma_5, .ref Ma_6, .int oo0x1, .int oo0x2, .int oo0x3, .int Mv_5, .int oo0x4, .int Mv_7, .int Mv_8, .ref Ma_7, .int Mv_9, .ref Ma_8, .int Mv_10, .ref Ma_9, .ref Ma_10, .int Mv_11, .int Mv_12, .int Mv_13, .ref Ma_11, .int Mv_14, .ref Ma_12, .ref Ma_13, .ref Ma_14, .ref Ma_15, .ref Ma_16, .long Mj_0, .ref Ma_17, .ref Ma_18, .ref Ma_19, .ref Ma_20])), (Ma_1, .inl (tc 2, 400, .inl Mf_1)), (Ma_2, .inl (tc 0, 2400, .inl oo0x5)), (Ma_3, .inl (tc 0, 7, .inl oo0x6))]) 0 0 :=
  ct_fX12_compare l D tc sk (fun k => ([Ma_0, Ma_1, Ma_2, Ma_3, Ma_4, Ma_5, Ma_6, Ma_7, Ma_8, Ma_9, Ma_10, Ma_11, Ma_12, Ma_13, Ma_14, Ma_15, Ma_16, Ma_17, Ma_18, Ma_19, Ma_20] : List (Nat)).getD k 0) (fun k => ([Mv_0, Mv_1, Mv_2, Mv_3, Mv_4, Mv_5, Mv_6, Mv_7, Mv_8, Mv_9, Mv_10, Mv_11, Mv_12, Mv_13, Mv_14] : List (Int32)).getD k 0) (fun k => ([(fun _ => 0), Mf_1, Mf_2, Mf_3] : List (Nat → Int32)).getD k (fun _ => 0)) (fun k => ([Mj_0] : List (Int64)).getD k 0) b d h_nx h_cd h_L h_md h_bs h_w
