set_option maxRecDepth 16384
set_option maxHeartbeats 4000000 in
set_option maxRecDepth 100000 in
theorem ct_kX12_compare (l : Launch) (D : va_G) (tc : Nat → ClassId) (sk : (Nat → Nat) × (Nat → Nat)) (Ma : Nat → Nat) (Mv : Nat → Int32) (Mf : Nat → Nat → Int32) (Mj : Nat → Int64) (b : Int32) (d : Nat) (ll : List Int) (h_nx : 0 ≤ ((Mv 2) : Int32).toInt ∧ ((Mv 2) : Int32).toInt ≤ ((Mv 0) : Int32).toInt ∧ ((Mv 0) : Int32).toInt ≤ 400) (h_cd : Cd (Mf 2) (Mf 3) (Mv 5) b (Mv 6) d) (h_L : ((Mf 3) (Mv 5).toNatClampNeg).toInt ≤ ((Mv 2) : Int32).toInt) (h_md : 0 ≤ ((Mv 6) : Int32).toInt ∧ ((Mv 6) : Int32).toInt ≤ 60) (h_bs : ByS (Mf 1)) (h_w : ((Mv 3) : Int32).toInt = 0) (h_sg : SgC (Mf 2) (Mf 3) (Mv 5) ll) : Ct l yX12_compare cX12_compare 5 (some .boolean) { frames := 6, cells := 0, slots := 0, locals := 130 } D tc sk [.ref (Ma 0)] [((Ma 0), .inr (12, [.ref (Ma 1), .int (Mv 0), .int (Mv 1), .ref (Ma 2), .ref (Ma 3), .ref (Ma 4), .ref (Ma 5), .ref (Ma 6), .int (Mv 2), .int (Mv 3), .int (Mv 4), .int (Mv 5), .int (Mv 6), .int (Mv 7), .int (Mv 8), .ref (Ma 7), .int (Mv 9), .ref (Ma 8), .int (Mv 10), .ref (Ma 9), .ref (Ma 10), .int (Mv 11), .int (Mv 12), .int (Mv 13), .ref (Ma 11), .int (Mv 14), .ref (Ma 12), .ref (Ma 13), .ref (Ma 14), .ref (Ma 15), .ref (Ma 16), .long (Mj 0), .ref (Ma 17), .ref (Ma 18), .ref (Ma 19), .ref (Ma 20)])), ((Ma 1), .inl (tc 2, 400, .inl (Mf 1))), ((Ma 2), .inl (tc 0, 2400, .inl (Mf 2))), ((Ma 3), .inl (tc 0, 7, .inl (Mf 3)))] (fun (v : Option Value) (u : (Int32) × (Int32) × (Int32) × (Int32) × (Nat → Int32) × (Nat → Int32)) => match u with | (oo0x1, oo0x2, oo0x3, oo0x4, oo0x5, oo0x6) => ∃ r : Int32, v = some (.int r) ∧ (((r.toInt = 0 ∧ ¬ (oo0x2 : Int32).toInt = 0) ∨ (r.toInt = 1 ∧ ((Mf 3) (Mv 5).toNatClampNeg).toInt + 1 ≤ (oo0x6 (Mv 5).toNatClampNeg).toInt ∧ (oo0x6 (Mv 5).toNatClampNeg).toInt + ((Mv 2) : Int32).toInt ≤ ((Mf 3) (Mv 5).toNatClampNeg).toInt + (oo0x1 : Int32).toInt ∧ ((Mv 2) : Int32).toInt + 1 ≤ (oo0x1 : Int32).toInt))) ∧ (((Mv 2) : Int32).toInt ≤ (oo0x1 : Int32).toInt ∧ (oo0x1 : Int32).toInt ≤ ((Mv 0) : Int32).toInt) ∧ (((Mv 6) : Int32).toInt ≤ (oo0x4 : Int32).toInt ∧ (oo0x4 : Int32).toInt ≤ 60) ∧ (Agr (Mf 2) oo0x5 (400 * ((Mv 5) : Int32).toInt + ((Mf 3) (Mv 5).toNatClampNeg).toInt)) ∧ (r.toInt = 1 → (Cd oo0x5 oo0x6 (Mv 5) b oo0x4 (d + 1)) ∧ (RfO (pz_com (rB (Mf 1) (Mv 0)) (St0 (rB (Mf 1) (Mv 0)) (Mv 2) (Mv 6))) (rB (Mf 1) (Mv 0)) oo0x2 oo0x1 oo0x4) ∧ (SgC oo0x5 oo0x6 (Mv 5) (ll ++ ec_com (rB (Mf 1) (Mv 0)) (St0 (rB (Mf 1) (Mv 0)) (Mv 2) (Mv 6))))) ∧ (r.toInt = 0 → (RfE (pz_com (rB (Mf 1) (Mv 0)) (St0 (rB (Mf 1) (Mv 0)) (Mv 2) (Mv 6))) oo0x2))) (fun (u : (Int32) × (Int32) × (Int32) × (Int32) × (Nat → Int32) × (Nat → Int32)) => match u with | (oo0x1, oo0x2, oo0x3, oo0x4, oo0x5, oo0x6) => [((Ma 0), .inr (12, [.ref (Ma 1), .int (Mv 0), .int (Mv 1), .ref (Ma 2), .ref (Ma 3), .ref (Ma 4), .ref (Ma 5), .ref (Ma 6), .int oo0x1, .int oo0x2, .int oo0x3, .int (Mv 5), .int oo0x4, .int (Mv 7), .int (Mv 8), .ref (Ma 7), .int (Mv 9), .ref (Ma 8), .int (Mv 10), .ref (Ma 9), .ref (Ma 10), .int (Mv 11), .int (Mv 12), .int (Mv 13), .ref (Ma 11), .int (Mv 14), .ref (Ma 12), .ref (Ma 13), .ref (Ma 14), .ref (Ma 15), .ref (Ma 16), .long (Mj 0), .ref (Ma 17), .ref (Ma 18), .ref (Ma 19), .ref (Ma 20)])), ((Ma 1), .inl (tc 2, 400, .inl (Mf 1))), ((Ma 2), .inl (tc 0, 2400, .inl oo0x5)), ((Ma 3), .inl (tc 0, 7, .inl oo0x6))]) 0 0 := by
  refine Ct.start (by decide) (Nat.le_of_ble_eq_true rfl) (fun p e s m below meth c A ls hx hb hr hlk hin hml hown hts hK hX hP hD hA hl hS => ?_)
  have hl : lv_has ls 5 [(0, .ref (Ma 0))] := hl
  have ar_h_cd := Cd.ar h_cd
  refine lv_aload_n hx hb dX12_compare_0 rfl (lv_at hl 0 rfl) ?_
  refine cV (a := (Ma 0)) (As := []) (rest := []) (wr := []) ⟨hx, hb, hml, hown, hts⟩ hK hX hA (cu_kX12_sum l D tc sk (Ma 0) (Ma 1) (Ma 2) (Ma 3) (Ma 4) (Ma 5) (Ma 6) (Ma 7) (Ma 8) (Ma 9) (Ma 10) (Ma 11) (Ma 12) (Ma 13) (Ma 14) (Ma 15) (Ma 16) (Ma 17) (Ma 18) (Ma 19) (Ma 20) (Mv 0) (Mv 1) (Mv 2) (Mv 3) (Mv 4) (Mv 5) (Mv 6) (Mv 7) (Mv 8) (Mv 9) (Mv 10) (Mv 11) (Mv 12) (Mv 13) (Mv 14) (Mf 1) (Mf 2) (Mf 3) (Mj 0) b d ll h_nx h_cd h_L h_md h_bs h_w h_sg) k_1279 k_1276 k_1278 k_42 k_106 pl_X12_sum ⟨Nat.le_of_ble_eq_true rfl, Nat.le_of_ble_eq_true rfl⟩ rfl rfl (va_recv hK hP (ci := 12) (q0 := 0) rfl rfl) hP hD hS [0, 1, 2, 3] [] rfl rfl rfl rfl rfl (by decide) rfl hl.1 rfl (Nat.le_of_ble_eq_true rfl) dX12_compare_1 ⟨Nat.le_of_ble_eq_true rfl, Nat.le_of_ble_eq_true rfl⟩ (fun v_1 u_2 H locs hv_3 hP₀ hD₀ hS₀ => ?_)
  obtain ⟨sv_4, sv_5, sv_6, sv_7, sv_8, sv_9⟩ := u_2
  obtain ⟨r_13, rfl, he_14, pf_10, pf_11, pf_12, hm_16, hm_17⟩ := hv_3
  have he_14 : ((r_13.toInt = 0 ∧ ¬ (sv_5 : Int32).toInt = 0) ∨ (r_13.toInt = 1 ∧ ((Mf 3) (Mv 5).toNatClampNeg).toInt + 1 ≤ (sv_9 (Mv 5).toNatClampNeg).toInt ∧ (sv_9 (Mv 5).toNatClampNeg).toInt + ((Mv 2) : Int32).toInt ≤ ((Mf 3) (Mv 5).toNatClampNeg).toInt + (sv_4 : Int32).toInt ∧ ((Mv 2) : Int32).toInt + 1 ≤ (sv_4 : Int32).toInt)) := he_14
  have pf_10 : ((Mv 2) : Int32).toInt ≤ (sv_4 : Int32).toInt ∧ (sv_4 : Int32).toInt ≤ ((Mv 0) : Int32).toInt := pf_10
  have pf_11 : ((Mv 6) : Int32).toInt ≤ (sv_7 : Int32).toInt ∧ (sv_7 : Int32).toInt ≤ 60 := pf_11
  have pf_12 : Agr (Mf 2) sv_8 (400 * ((Mv 5) : Int32).toInt + ((Mf 3) (Mv 5).toNatClampNeg).toInt) := pf_12
  refine W.eq (g2 := F0 m 4 ls [.int r_13]) rfl ?_
  replace hP : va_P D classes [((Ma 0), .inr (12, [.ref (Ma 1), .int (Mv 0), .int (Mv 1), .ref (Ma 2), .ref (Ma 3), .ref (Ma 4), .ref (Ma 5), .ref (Ma 6), .int sv_4, .int sv_5, .int sv_6, .int (Mv 5), .int sv_7, .int (Mv 7), .int (Mv 8), .ref (Ma 7), .int (Mv 9), .ref (Ma 8), .int (Mv 10), .ref (Ma 9), .ref (Ma 10), .int (Mv 11), .int (Mv 12), .int (Mv 13), .ref (Ma 11), .int (Mv 14), .ref (Ma 12), .ref (Ma 13), .ref (Ma 14), .ref (Ma 15), .ref (Ma 16), .long (Mj 0), .ref (Ma 17), .ref (Ma 18), .ref (Ma 19), .ref (Ma 20)])), ((Ma 1), .inl (tc 2, 400, .inl (Mf 1))), ((Ma 2), .inl (tc 0, 2400, .inl sv_8)), ((Ma 3), .inl (tc 0, 7, .inl sv_9))] H := hP₀
  replace hD : va_D A [((Ma 0), .inr (12, [.ref (Ma 1), .int (Mv 0), .int (Mv 1), .ref (Ma 2), .ref (Ma 3), .ref (Ma 4), .ref (Ma 5), .ref (Ma 6), .int sv_4, .int sv_5, .int sv_6, .int (Mv 5), .int sv_7, .int (Mv 7), .int (Mv 8), .ref (Ma 7), .int (Mv 9), .ref (Ma 8), .int (Mv 10), .ref (Ma 9), .ref (Ma 10), .int (Mv 11), .int (Mv 12), .int (Mv 13), .ref (Ma 11), .int (Mv 14), .ref (Ma 12), .ref (Ma 13), .ref (Ma 14), .ref (Ma 15), .ref (Ma 16), .long (Mj 0), .ref (Ma 17), .ref (Ma 18), .ref (Ma 19), .ref (Ma 20)])), ((Ma 1), .inl (tc 2, 400, .inl (Mf 1))), ((Ma 2), .inl (tc 0, 2400, .inl sv_8)), ((Ma 3), .inl (tc 0, 7, .inl sv_9))] := hD₀
  replace hS := hS₀
  clear hP₀ hD₀ hS₀
  refine lv_if_ne (tgt := 9) hx hb dX12_compare_4 (by decide) (fun c_18 => ?_) (fun c_18 => ?_)
  · skip
    have hz_22 : (r_13 : Int32).toInt = 1 := by
      have z_1 : ¬ (r_13 : Int32).toInt = (0 : Int32).toInt := fun z => c_18 (Int32.toInt_inj.mp z)
      have y_0 : (0 : Int32).toInt = 0 := by decide
      omega
    obtain ⟨pf_19, pf_20, pf_21⟩ := hm_16 hz_22
    have pf_19 : Cd sv_8 sv_9 (Mv 5) b sv_7 (d + 1) := pf_19
    have ar_pf_19 := Cd.ar pf_19
    have pf_20 : RfO (pz_sum (rB (Mf 1) (Mv 0)) (St0 (rB (Mf 1) (Mv 0)) (Mv 2) (Mv 6))) (rB (Mf 1) (Mv 0)) sv_5 sv_4 sv_7 := pf_20
    have ar_pf_20 := RfO.wr pf_20
    have pf_21 : SgC sv_8 sv_9 (Mv 5) (ll ++ lsum (rB (Mf 1) (Mv 0)) (St0 (rB (Mf 1) (Mv 0)) (Mv 2) (Mv 6))) := pf_21
    obtain ⟨lo_23, elo_23⟩ : ∃ z : List Int, z = (ll ++ lsum (rB (Mf 1) (Mv 0)) (St0 (rB (Mf 1) (Mv 0)) (Mv 2) (Mv 6))) := ⟨_, rfl⟩
    rw [← elo_23] at pf_21
    refine lv_aload_n hx hb dX12_compare_9 rfl (lv_at hl 0 rfl) ?_
    have ha_24 : 0 ≤ (sv_4 : Int32).toInt ∧ (sv_4 : Int32).toInt ≤ ((Mv 0) : Int32).toInt ∧ ((Mv 0) : Int32).toInt ≤ 400 := by
      have z_1 : ¬ (r_13 : Int32).toInt = (0 : Int32).toInt := fun z => c_18 (Int32.toInt_inj.mp z)
      have y_0 : (0 : Int32).toInt = 0 := by decide
      omega
    refine cV (a := (Ma 0)) (As := []) (rest := []) (wr := [((Ma 2), .inl (tc 0, 2400, .inl sv_8)), ((Ma 3), .inl (tc 0, 7, .inl sv_9))]) ⟨hx, hb, hml, hown, hts⟩ hK hX hA (cu_fX12_see l D tc sk (Ma 0) (Ma 1) (Ma 2) (Ma 3) (Ma 4) (Ma 5) (Ma 6) (Ma 7) (Ma 8) (Ma 9) (Ma 10) (Ma 11) (Ma 12) (Ma 13) (Ma 14) (Ma 15) (Ma 16) (Ma 17) (Ma 18) (Ma 19) (Ma 20) (Mv 0) (Mv 1) sv_4 sv_5 sv_6 (Mv 5) sv_7 (Mv 7) (Mv 8) (Mv 9) (Mv 10) (Mv 11) (Mv 12) (Mv 13) (Mv 14) (Mf 1) (Mj 0) ha_24 h_bs) k_1211 k_1208 k_1210 k_27 k_106 pl_X12_see ⟨Nat.le_of_ble_eq_true rfl, Nat.le_of_ble_eq_true rfl⟩ rfl rfl (va_recv hK hP (ci := 12) (q0 := 0) rfl rfl) hP hD hS [0, 1] [2, 3] rfl rfl rfl rfl rfl (by decide) rfl hl.1 rfl (Nat.le_of_ble_eq_true rfl) dX12_compare_10 ⟨Nat.le_of_ble_eq_true rfl, Nat.le_of_ble_eq_true rfl⟩ (fun v_25 u_26 H locs hv_27 hP₀ hD₀ hS₀ => ?_)
    obtain ⟨sv_28, rfl⟩ : ∃ z, z = u_26 := ⟨_, rfl⟩
    obtain ⟨r_33, rfl, he_34, pf_29, pf_30, pf_31, pf_32⟩ := hv_27
    have he_34 : (r_33.toInt = rB (Mf 1) (Mv 0) (sv_28 : Int32).toInt.toNat ∧ (r_33.toInt = -1 ∨ (sv_28 : Int32).toInt < (Mv 0).toInt)) := he_34
    have pf_29 : (sv_4 : Int32).toInt ≤ (sv_28 : Int32).toInt ∧ (sv_28 : Int32).toInt ≤ ((Mv 0) : Int32).toInt := pf_29
    have pf_30 : NSq (Mf 1) (Mv 0) sv_28 := pf_30
    have pf_31 : Stl (Mf 1) (Mv 0) sv_4 sv_28 := pf_31
    have pf_32 : SkR (rB (Mf 1) (Mv 0)) sv_4 sv_28 := pf_32
    refine W.eq (g2 := F0 m 13 ls [.int r_33]) rfl ?_
    replace hP : va_P D classes [((Ma 2), .inl (tc 0, 2400, .inl sv_8)), ((Ma 3), .inl (tc 0, 7, .inl sv_9)), ((Ma 0), .inr (12, [.ref (Ma 1), .int (Mv 0), .int (Mv 1), .ref (Ma 2), .ref (Ma 3), .ref (Ma 4), .ref (Ma 5), .ref (Ma 6), .int sv_28, .int sv_5, .int sv_6, .int (Mv 5), .int sv_7, .int (Mv 7), .int (Mv 8), .ref (Ma 7), .int (Mv 9), .ref (Ma 8), .int (Mv 10), .ref (Ma 9), .ref (Ma 10), .int (Mv 11), .int (Mv 12), .int (Mv 13), .ref (Ma 11), .int (Mv 14), .ref (Ma 12), .ref (Ma 13), .ref (Ma 14), .ref (Ma 15), .ref (Ma 16), .long (Mj 0), .ref (Ma 17), .ref (Ma 18), .ref (Ma 19), .ref (Ma 20)])), ((Ma 1), .inl (tc 2, 400, .inl (Mf 1)))] H := hP₀
    replace hD : va_D A [((Ma 2), .inl (tc 0, 2400, .inl sv_8)), ((Ma 3), .inl (tc 0, 7, .inl sv_9)), ((Ma 0), .inr (12, [.ref (Ma 1), .int (Mv 0), .int (Mv 1), .ref (Ma 2), .ref (Ma 3), .ref (Ma 4), .ref (Ma 5), .ref (Ma 6), .int sv_28, .int sv_5, .int sv_6, .int (Mv 5), .int sv_7, .int (Mv 7), .int (Mv 8), .ref (Ma 7), .int (Mv 9), .ref (Ma 8), .int (Mv 10), .ref (Ma 9), .ref (Ma 10), .int (Mv 11), .int (Mv 12), .int (Mv 13), .ref (Ma 11), .int (Mv 14), .ref (Ma 12), .ref (Ma 13), .ref (Ma 14), .ref (Ma 15), .ref (Ma 16), .long (Mj 0), .ref (Ma 17), .ref (Ma 18), .ref (Ma 19), .ref (Ma 20)])), ((Ma 1), .inl (tc 2, 400, .inl (Mf 1)))] := hD₀
    replace hS := hS₀
    clear hP₀ hD₀ hS₀
    refine lv_istore_n (lv' := [(1, .int r_33), (0, .ref (Ma 0))]) hx hb dX12_compare_13 rfl hl (by decide) rfl (fun ls hl₀ => ?_)
    replace hl := hl₀
    clear hl₀
    refine lv_aload_n hx hb dX12_compare_14 rfl (lv_at hl 1 rfl) ?_
    refine gf_X12_87 hx hb hts hown hK hP 2 rfl rfl dX12_compare_15 ?_
    refine lv_istore_n (lv' := [(2, .int sv_28), (1, .int r_33), (0, .ref (Ma 0))]) hx hb dX12_compare_18 rfl hl (by decide) rfl (fun ls hl₀ => ?_)
    replace hl := hl₀
    clear hl₀
    refine lv_iload_n hx hb dX12_compare_19 rfl (lv_at hl 1 rfl) ?_
    refine lv_bipush (v := 60) hx hb dX12_compare_20 (by decide) ?_
    refine lv_icmp_eq (tgt := 44) hx hb dX12_compare_22 (by decide) (fun c_36 => ?_) (fun c_36 => ?_)
    · skip
      refine lv_aload_n hx hb dX12_compare_44 rfl (lv_at hl 2 rfl) ?_
      refine lv_dup hx hb dX12_compare_45 rfl ?_
      refine gf_X12_87 hx hb hts hown hK hP 2 rfl rfl dX12_compare_46 ?_
      refine lv_iconst (v := 1) hx hb dX12_compare_49 (by decide) ?_
      refine lv_iadd hx hb dX12_compare_50 ?_
      refine lv_topi (fun x_37 ex_37 => ?_)
      refine pf_X12_87 hx hb hts hown hK hP hD hS 2 rfl (Nat.le_of_ble_eq_true rfl) rfl rfl dX12_compare_51 (fun H locs hP₀ hD₀ hS₀ => ?_)
      replace hP : va_P D classes [((Ma 2), .inl (tc 0, 2400, .inl sv_8)), ((Ma 3), .inl (tc 0, 7, .inl sv_9)), ((Ma 0), .inr (12, [.ref (Ma 1), .int (Mv 0), .int (Mv 1), .ref (Ma 2), .ref (Ma 3), .ref (Ma 4), .ref (Ma 5), .ref (Ma 6), .int x_37, .int sv_5, .int sv_6, .int (Mv 5), .int sv_7, .int (Mv 7), .int (Mv 8), .ref (Ma 7), .int (Mv 9), .ref (Ma 8), .int (Mv 10), .ref (Ma 9), .ref (Ma 10), .int (Mv 11), .int (Mv 12), .int (Mv 13), .ref (Ma 11), .int (Mv 14), .ref (Ma 12), .ref (Ma 13), .ref (Ma 14), .ref (Ma 15), .ref (Ma 16), .long (Mj 0), .ref (Ma 17), .ref (Ma 18), .ref (Ma 19), .ref (Ma 20)])), ((Ma 1), .inl (tc 2, 400, .inl (Mf 1)))] H := hP₀
      replace hD : va_D A [((Ma 2), .inl (tc 0, 2400, .inl sv_8)), ((Ma 3), .inl (tc 0, 7, .inl sv_9)), ((Ma 0), .inr (12, [.ref (Ma 1), .int (Mv 0), .int (Mv 1), .ref (Ma 2), .ref (Ma 3), .ref (Ma 4), .ref (Ma 5), .ref (Ma 6), .int x_37, .int sv_5, .int sv_6, .int (Mv 5), .int sv_7, .int (Mv 7), .int (Mv 8), .ref (Ma 7), .int (Mv 9), .ref (Ma 8), .int (Mv 10), .ref (Ma 9), .ref (Ma 10), .int (Mv 11), .int (Mv 12), .int (Mv 13), .ref (Ma 11), .int (Mv 14), .ref (Ma 12), .ref (Ma 13), .ref (Ma 14), .ref (Ma 15), .ref (Ma 16), .long (Mj 0), .ref (Ma 17), .ref (Ma 18), .ref (Ma 19), .ref (Ma 20)])), ((Ma 1), .inl (tc 2, 400, .inl (Mf 1)))] := hD₀
      replace hS := hS₀
      clear hP₀ hD₀ hS₀
      have tp_x_37 : (x_37 : Int32).toInt = (sv_28 : Int32).toInt + 1 := by
        have z_1 : ¬ (r_13 : Int32).toInt = (0 : Int32).toInt := fun z => c_18 (Int32.toInt_inj.mp z)
        have z_2 := congrArg Int32.toInt c_36
        have y_0 : (0 : Int32).toInt = 0 := by decide
        have y_60 : (60 : Int32).toInt = 60 := by decide
        have y_1 : (1 : Int32).toInt = 1 := by decide
        have t_x_37 : x_37.toInt = (sv_28 : Int32).toInt + (1 : Int32).toInt := by rw [ex_37]; exact add_toInt (by omega) (by omega)
        omega
      refine lv_iload_n hx hb dX12_compare_54 rfl (lv_at hl 1 rfl) ?_
      refine lv_bipush (v := 61) hx hb dX12_compare_55 (by decide) ?_
      refine lv_icmp_eq (tgt := 89) hx hb dX12_compare_57 (by decide) (fun c_38 => ?_) (fun c_38 => ?_)
      · skip
        refine lv_iconst (v := 0) hx hb dX12_compare_89 (by decide) ?_
        refine lv_istore_n (lv' := [(3, .int 0), (2, .int sv_28), (1, .int r_33), (0, .ref (Ma 0))]) hx hb dX12_compare_90 rfl hl (by decide) rfl (fun ls hl₀ => ?_)
        replace hl := hl₀
        clear hl₀
        refine lv_iload_n hx hb dX12_compare_91 rfl (lv_at hl 0 rfl) ?_
        refine lv_if_eq (tgt := 105) hx hb dX12_compare_92 (by decide) (fun c_39 => ?_) (fun c_39 => absurd c_39 (by decide))
        refine lv_aload_n hx hb dX12_compare_105 rfl (lv_at hl 3 rfl) ?_
        refine lv_iload_n hx hb dX12_compare_106 rfl (lv_at hl 1 rfl) ?_
        have ha_40 : 0 ≤ sv_28.toInt ∧ sv_28.toInt ≤ 400 := by
          have z_1 : ¬ (r_13 : Int32).toInt = (0 : Int32).toInt := fun z => c_18 (Int32.toInt_inj.mp z)
          have z_2 := congrArg Int32.toInt c_36
          have z_3 := congrArg Int32.toInt c_38
          have y_0 : (0 : Int32).toInt = 0 := by decide
          have y_60 : (60 : Int32).toInt = 60 := by decide
          have y_61 : (61 : Int32).toInt = 61 := by decide
          omega
        have ha_41 : 0 ≤ (sv_7 : Int32).toInt ∧ (sv_7 : Int32).toInt ≤ 60 := by
          have z_1 : ¬ (r_13 : Int32).toInt = (0 : Int32).toInt := fun z => c_18 (Int32.toInt_inj.mp z)
          have z_2 := congrArg Int32.toInt c_36
          have z_3 := congrArg Int32.toInt c_38
          have y_0 : (0 : Int32).toInt = 0 := by decide
          have y_60 : (60 : Int32).toInt = 60 := by decide
          have y_61 : (61 : Int32).toInt = 61 := by decide
          omega
        have ha_42 : (sv_5 : Int32).toInt = 0 := by
          have z_1 : ¬ (r_13 : Int32).toInt = (0 : Int32).toInt := fun z => c_18 (Int32.toInt_inj.mp z)
          have z_2 := congrArg Int32.toInt c_36
          have z_3 := congrArg Int32.toInt c_38
          have y_0 : (0 : Int32).toInt = 0 := by decide
          have y_60 : (60 : Int32).toInt = 60 := by decide
          have y_61 : (61 : Int32).toInt = 61 := by decide
          omega
        refine cV (a := (Ma 0)) (As := [.int sv_28]) (rest := []) (wr := [((Ma 2), .inl (tc 0, 2400, .inl sv_8)), ((Ma 3), .inl (tc 0, 7, .inl sv_9)), ((Ma 1), .inl (tc 2, 400, .inl (Mf 1)))]) ⟨hx, hb, hml, hown, hts⟩ hK hX hA (cu_fX12_makes l D tc sk (Ma 0) (Ma 1) (Ma 2) (Ma 3) (Ma 4) (Ma 5) (Ma 6) (Ma 7) (Ma 8) (Ma 9) (Ma 10) (Ma 11) (Ma 12) (Ma 13) (Ma 14) (Ma 15) (Ma 16) (Ma 17) (Ma 18) (Ma 19) (Ma 20) (Mv 0) (Mv 1) x_37 sv_5 sv_6 (Mv 5) sv_7 (Mv 7) (Mv 8) (Mv 9) (Mv 10) (Mv 11) (Mv 12) (Mv 13) (Mv 14) (Mj 0) sv_28 ha_40 ha_41 ha_42) k_1292 k_1289 k_1291 k_45 k_106 pl_X12_makes ⟨Nat.le_of_ble_eq_true rfl, Nat.le_of_ble_eq_true rfl⟩ rfl rfl (va_recv hK hP (ci := 12) (q0 := 2) rfl rfl) hP hD hS [2] [0, 1, 3] rfl rfl rfl rfl rfl (by decide) rfl hl.1 rfl (Nat.le_of_ble_eq_true rfl) dX12_compare_107 ⟨Nat.le_of_ble_eq_true rfl, Nat.le_of_ble_eq_true rfl⟩ (fun v_43 u_44 H locs hv_45 hP₀ hD₀ hS₀ => ?_)
        obtain ⟨sv_46, sv_47⟩ := u_44
        obtain ⟨r_49, rfl, he_50, pf_48⟩ := hv_45
        have he_50 : ((r_49.toInt = 0 ∧ ¬ (sv_46 : Int32).toInt = 0 ∧ sv_7.toInt = 60 ∧ (sv_46 : Int32).toInt = 1 + 8 * sv_28.toInt + 3) ∨ (r_49.toInt = 1 ∧ (sv_47 : Int32).toInt = sv_7.toInt + 1 ∧ sv_7.toInt < 60 ∧ (sv_46 : Int32).toInt = 0)) := he_50
        have pf_48 : (sv_7 : Int32).toInt ≤ (sv_47 : Int32).toInt ∧ (sv_47 : Int32).toInt ≤ 60 := pf_48
        refine W.eq (g2 := F0 m 110 ls [.int r_49]) rfl ?_
        replace hP : va_P D classes [((Ma 2), .inl (tc 0, 2400, .inl sv_8)), ((Ma 3), .inl (tc 0, 7, .inl sv_9)), ((Ma 1), .inl (tc 2, 400, .inl (Mf 1))), ((Ma 0), .inr (12, [.ref (Ma 1), .int (Mv 0), .int (Mv 1), .ref (Ma 2), .ref (Ma 3), .ref (Ma 4), .ref (Ma 5), .ref (Ma 6), .int x_37, .int sv_46, .int sv_6, .int (Mv 5), .int sv_47, .int (Mv 7), .int (Mv 8), .ref (Ma 7), .int (Mv 9), .ref (Ma 8), .int (Mv 10), .ref (Ma 9), .ref (Ma 10), .int (Mv 11), .int (Mv 12), .int (Mv 13), .ref (Ma 11), .int (Mv 14), .ref (Ma 12), .ref (Ma 13), .ref (Ma 14), .ref (Ma 15), .ref (Ma 16), .long (Mj 0), .ref (Ma 17), .ref (Ma 18), .ref (Ma 19), .ref (Ma 20)]))] H := hP₀
        replace hD : va_D A [((Ma 2), .inl (tc 0, 2400, .inl sv_8)), ((Ma 3), .inl (tc 0, 7, .inl sv_9)), ((Ma 1), .inl (tc 2, 400, .inl (Mf 1))), ((Ma 0), .inr (12, [.ref (Ma 1), .int (Mv 0), .int (Mv 1), .ref (Ma 2), .ref (Ma 3), .ref (Ma 4), .ref (Ma 5), .ref (Ma 6), .int x_37, .int sv_46, .int sv_6, .int (Mv 5), .int sv_47, .int (Mv 7), .int (Mv 8), .ref (Ma 7), .int (Mv 9), .ref (Ma 8), .int (Mv 10), .ref (Ma 9), .ref (Ma 10), .int (Mv 11), .int (Mv 12), .int (Mv 13), .ref (Ma 11), .int (Mv 14), .ref (Ma 12), .ref (Ma 13), .ref (Ma 14), .ref (Ma 15), .ref (Ma 16), .long (Mj 0), .ref (Ma 17), .ref (Ma 18), .ref (Ma 19), .ref (Ma 20)]))] := hD₀
        replace hS := hS₀
        clear hP₀ hD₀ hS₀
        have hr_53 : (sv_7 : Int32).toInt ≤ (sv_47 : Int32).toInt ∧ (sv_47 : Int32).toInt ≤ 60 := by
          have z_1 : ¬ (r_13 : Int32).toInt = (0 : Int32).toInt := fun z => c_18 (Int32.toInt_inj.mp z)
          have z_2 := congrArg Int32.toInt c_36
          have z_3 := congrArg Int32.toInt c_38
          have y_0 : (0 : Int32).toInt = 0 := by decide
          have y_60 : (60 : Int32).toInt = 60 := by decide
          have y_61 : (61 : Int32).toInt = 61 := by decide
          omega
        have pf_52 : Cd sv_8 sv_9 (Mv 5) b sv_47 (d + 1) := Cd.mono pf_19 hr_53
        have ar_pf_52 := Cd.ar pf_52
        refine lv_if_ne (tgt := 115) hx hb dX12_compare_110 (by decide) (fun c_54 => ?_) (fun c_54 => ?_)
        · skip
          refine lv_iload_n hx hb dX12_compare_115 rfl (lv_at hl 2 rfl) ?_
          refine lv_bipush (v := 60) hx hb dX12_compare_116 (by decide) ?_
          refine lv_icmp_ne (tgt := 133) hx hb dX12_compare_118 (by decide) (fun c_55 => ?_) (fun c_55 => ?_)
          · skip
            exfalso
            have z_1 : ¬ (r_13 : Int32).toInt = (0 : Int32).toInt := fun z => c_18 (Int32.toInt_inj.mp z)
            have z_2 := congrArg Int32.toInt c_36
            have z_3 := congrArg Int32.toInt c_38
            have z_4 : ¬ (r_49 : Int32).toInt = (0 : Int32).toInt := fun z => c_54 (Int32.toInt_inj.mp z)
            have z_5 : ¬ (r_33 : Int32).toInt = (60 : Int32).toInt := fun z => c_55 (Int32.toInt_inj.mp z)
            have y_0 : (0 : Int32).toInt = 0 := by decide
            have y_60 : (60 : Int32).toInt = 60 := by decide
            have y_61 : (61 : Int32).toInt = 61 := by decide
            omega
          · skip
            refine lv_iload_n hx hb dX12_compare_121 rfl (lv_at hl 0 rfl) ?_
            refine lv_if_eq (tgt := 129) hx hb dX12_compare_122 (by decide) (fun c_56 => ?_) (fun c_56 => absurd c_56 (by decide))
            refine lv_iconst (v := 0) hx hb dX12_compare_129 (by decide) ?_
            refine lv_goto (tgt := 152) hx hb dX12_compare_130 (by decide) ?_
            refine lv_istore (lv' := [(4, .int 0), (3, .int 0), (2, .int sv_28), (1, .int r_33), (0, .ref (Ma 0))]) hx hb dX12_compare_152 hl (by decide) rfl (fun ls hl₀ => ?_)
            replace hl := hl₀
            clear hl₀
            refine lv_aload_n hx hb dX12_compare_154 rfl (lv_at hl 4 rfl) ?_
            have ha_57 : 0 ≤ (x_37 : Int32).toInt ∧ (x_37 : Int32).toInt ≤ ((Mv 0) : Int32).toInt ∧ ((Mv 0) : Int32).toInt ≤ 400 := by
              have z_1 : ¬ (r_13 : Int32).toInt = (0 : Int32).toInt := fun z => c_18 (Int32.toInt_inj.mp z)
              have z_2 := congrArg Int32.toInt c_36
              have z_3 := congrArg Int32.toInt c_38
              have z_4 : ¬ (r_49 : Int32).toInt = (0 : Int32).toInt := fun z => c_54 (Int32.toInt_inj.mp z)
              have z_5 := congrArg Int32.toInt c_55
              have y_0 : (0 : Int32).toInt = 0 := by decide
              have y_60 : (60 : Int32).toInt = 60 := by decide
              have y_61 : (61 : Int32).toInt = 61 := by decide
              have y_1 : (1 : Int32).toInt = 1 := by decide
              have t_x_37 : x_37.toInt = (sv_28 : Int32).toInt + (1 : Int32).toInt := by rw [ex_37]; exact add_toInt (by omega) (by omega)
              omega
            have ha_58 : (sv_9 (Mv 5).toNatClampNeg).toInt ≤ (x_37 : Int32).toInt := by
              have z_1 : ¬ (r_13 : Int32).toInt = (0 : Int32).toInt := fun z => c_18 (Int32.toInt_inj.mp z)
              have z_2 := congrArg Int32.toInt c_36
              have z_3 := congrArg Int32.toInt c_38
              have z_4 : ¬ (r_49 : Int32).toInt = (0 : Int32).toInt := fun z => c_54 (Int32.toInt_inj.mp z)
              have z_5 := congrArg Int32.toInt c_55
              have y_0 : (0 : Int32).toInt = 0 := by decide
              have y_60 : (60 : Int32).toInt = 60 := by decide
              have y_61 : (61 : Int32).toInt = 61 := by decide
              have y_1 : (1 : Int32).toInt = 1 := by decide
              have t_x_37 : x_37.toInt = (sv_28 : Int32).toInt + (1 : Int32).toInt := by rw [ex_37]; exact add_toInt (by omega) (by omega)
              omega
            have ha_59 : 0 ≤ (sv_47 : Int32).toInt ∧ (sv_47 : Int32).toInt ≤ 60 := by
              have z_1 : ¬ (r_13 : Int32).toInt = (0 : Int32).toInt := fun z => c_18 (Int32.toInt_inj.mp z)
              have z_2 := congrArg Int32.toInt c_36
              have z_3 := congrArg Int32.toInt c_38
              have z_4 : ¬ (r_49 : Int32).toInt = (0 : Int32).toInt := fun z => c_54 (Int32.toInt_inj.mp z)
              have z_5 := congrArg Int32.toInt c_55
              have y_0 : (0 : Int32).toInt = 0 := by decide
              have y_60 : (60 : Int32).toInt = 60 := by decide
              have y_61 : (61 : Int32).toInt = 61 := by decide
              omega
            have ha_60 : (sv_46 : Int32).toInt = 0 := by
              have z_1 : ¬ (r_13 : Int32).toInt = (0 : Int32).toInt := fun z => c_18 (Int32.toInt_inj.mp z)
              have z_2 := congrArg Int32.toInt c_36
              have z_3 := congrArg Int32.toInt c_38
              have z_4 : ¬ (r_49 : Int32).toInt = (0 : Int32).toInt := fun z => c_54 (Int32.toInt_inj.mp z)
              have z_5 := congrArg Int32.toInt c_55
              have y_0 : (0 : Int32).toInt = 0 := by decide
              have y_60 : (60 : Int32).toInt = 60 := by decide
              have y_61 : (61 : Int32).toInt = 61 := by decide
              omega
            refine cV (a := (Ma 0)) (As := []) (rest := []) (wr := []) ⟨hx, hb, hml, hown, hts⟩ hK hX hA (cu_kX12_sum l D tc sk (Ma 0) (Ma 1) (Ma 2) (Ma 3) (Ma 4) (Ma 5) (Ma 6) (Ma 7) (Ma 8) (Ma 9) (Ma 10) (Ma 11) (Ma 12) (Ma 13) (Ma 14) (Ma 15) (Ma 16) (Ma 17) (Ma 18) (Ma 19) (Ma 20) (Mv 0) (Mv 1) x_37 sv_46 sv_6 (Mv 5) sv_47 (Mv 7) (Mv 8) (Mv 9) (Mv 10) (Mv 11) (Mv 12) (Mv 13) (Mv 14) (Mf 1) sv_8 sv_9 (Mj 0) b (d + 1) lo_23 ha_57 pf_52 ha_58 ha_59 h_bs ha_60 pf_21) k_1279 k_1276 k_1278 k_42 k_106 pl_X12_sum ⟨Nat.le_of_ble_eq_true rfl, Nat.le_of_ble_eq_true rfl⟩ rfl rfl (va_recv hK hP (ci := 12) (q0 := 3) rfl rfl) hP hD hS [3, 2, 0, 1] [] rfl rfl rfl rfl rfl (by decide) rfl hl.1 rfl (Nat.le_of_ble_eq_true rfl) dX12_compare_155 ⟨Nat.le_of_ble_eq_true rfl, Nat.le_of_ble_eq_true rfl⟩ (fun v_61 u_62 H locs hv_63 hP₀ hD₀ hS₀ => ?_)
            obtain ⟨sv_64, sv_65, sv_66, sv_67, sv_68, sv_69⟩ := u_62
            obtain ⟨r_73, rfl, he_74, pf_70, pf_71, pf_72, hm_76, hm_77⟩ := hv_63
            have he_74 : ((r_73.toInt = 0 ∧ ¬ (sv_65 : Int32).toInt = 0) ∨ (r_73.toInt = 1 ∧ (sv_9 (Mv 5).toNatClampNeg).toInt + 1 ≤ (sv_69 (Mv 5).toNatClampNeg).toInt ∧ (sv_69 (Mv 5).toNatClampNeg).toInt + (x_37 : Int32).toInt ≤ (sv_9 (Mv 5).toNatClampNeg).toInt + (sv_64 : Int32).toInt ∧ (x_37 : Int32).toInt + 1 ≤ (sv_64 : Int32).toInt)) := he_74
            have pf_70 : (x_37 : Int32).toInt ≤ (sv_64 : Int32).toInt ∧ (sv_64 : Int32).toInt ≤ ((Mv 0) : Int32).toInt := pf_70
            have pf_71 : (sv_47 : Int32).toInt ≤ (sv_67 : Int32).toInt ∧ (sv_67 : Int32).toInt ≤ 60 := pf_71
            have pf_72 : Agr sv_8 sv_68 (400 * ((Mv 5) : Int32).toInt + (sv_9 (Mv 5).toNatClampNeg).toInt) := pf_72
            refine W.eq (g2 := F0 m 158 ls [.int r_73]) rfl ?_
            replace hP : va_P D classes [((Ma 0), .inr (12, [.ref (Ma 1), .int (Mv 0), .int (Mv 1), .ref (Ma 2), .ref (Ma 3), .ref (Ma 4), .ref (Ma 5), .ref (Ma 6), .int sv_64, .int sv_65, .int sv_66, .int (Mv 5), .int sv_67, .int (Mv 7), .int (Mv 8), .ref (Ma 7), .int (Mv 9), .ref (Ma 8), .int (Mv 10), .ref (Ma 9), .ref (Ma 10), .int (Mv 11), .int (Mv 12), .int (Mv 13), .ref (Ma 11), .int (Mv 14), .ref (Ma 12), .ref (Ma 13), .ref (Ma 14), .ref (Ma 15), .ref (Ma 16), .long (Mj 0), .ref (Ma 17), .ref (Ma 18), .ref (Ma 19), .ref (Ma 20)])), ((Ma 1), .inl (tc 2, 400, .inl (Mf 1))), ((Ma 2), .inl (tc 0, 2400, .inl sv_68)), ((Ma 3), .inl (tc 0, 7, .inl sv_69))] H := hP₀
            replace hD : va_D A [((Ma 0), .inr (12, [.ref (Ma 1), .int (Mv 0), .int (Mv 1), .ref (Ma 2), .ref (Ma 3), .ref (Ma 4), .ref (Ma 5), .ref (Ma 6), .int sv_64, .int sv_65, .int sv_66, .int (Mv 5), .int sv_67, .int (Mv 7), .int (Mv 8), .ref (Ma 7), .int (Mv 9), .ref (Ma 8), .int (Mv 10), .ref (Ma 9), .ref (Ma 10), .int (Mv 11), .int (Mv 12), .int (Mv 13), .ref (Ma 11), .int (Mv 14), .ref (Ma 12), .ref (Ma 13), .ref (Ma 14), .ref (Ma 15), .ref (Ma 16), .long (Mj 0), .ref (Ma 17), .ref (Ma 18), .ref (Ma 19), .ref (Ma 20)])), ((Ma 1), .inl (tc 2, 400, .inl (Mf 1))), ((Ma 2), .inl (tc 0, 2400, .inl sv_68)), ((Ma 3), .inl (tc 0, 7, .inl sv_69))] := hD₀
            replace hS := hS₀
            clear hP₀ hD₀ hS₀
            refine lv_if_ne (tgt := 163) hx hb dX12_compare_158 (by decide) (fun c_78 => ?_) (fun c_78 => ?_)
            · skip
              have hz_82 : (r_73 : Int32).toInt = 1 := by
                have z_1 : ¬ (r_13 : Int32).toInt = (0 : Int32).toInt := fun z => c_18 (Int32.toInt_inj.mp z)
                have z_2 := congrArg Int32.toInt c_36
                have z_3 := congrArg Int32.toInt c_38
                have z_4 : ¬ (r_49 : Int32).toInt = (0 : Int32).toInt := fun z => c_54 (Int32.toInt_inj.mp z)
                have z_5 := congrArg Int32.toInt c_55
                have z_6 : ¬ (r_73 : Int32).toInt = (0 : Int32).toInt := fun z => c_78 (Int32.toInt_inj.mp z)
                have y_0 : (0 : Int32).toInt = 0 := by decide
                have y_60 : (60 : Int32).toInt = 60 := by decide
                have y_61 : (61 : Int32).toInt = 61 := by decide
                omega
              obtain ⟨pf_79, pf_80, pf_81⟩ := hm_76 hz_82
              have pf_79 : Cd sv_68 sv_69 (Mv 5) b sv_67 ((d + 1) + 1) := pf_79
              have ar_pf_79 := Cd.ar pf_79
              have pf_80 : RfO (pz_sum (rB (Mf 1) (Mv 0)) (St0 (rB (Mf 1) (Mv 0)) x_37 sv_47)) (rB (Mf 1) (Mv 0)) sv_65 sv_64 sv_67 := pf_80
              have ar_pf_80 := RfO.wr pf_80
              have pf_81 : SgC sv_68 sv_69 (Mv 5) (lo_23 ++ lsum (rB (Mf 1) (Mv 0)) (St0 (rB (Mf 1) (Mv 0)) x_37 sv_47)) := pf_81
              obtain ⟨lo_83, elo_83⟩ : ∃ z : List Int, z = (lo_23 ++ lsum (rB (Mf 1) (Mv 0)) (St0 (rB (Mf 1) (Mv 0)) x_37 sv_47)) := ⟨_, rfl⟩
              rw [← elo_83] at pf_81
              refine lv_aload_n hx hb dX12_compare_163 rfl (lv_at hl 4 rfl) ?_
              refine lv_bipush (v := 6) hx hb dX12_compare_164 (by decide) ?_
              refine lv_iload hx hb dX12_compare_166 (lv_at hl 0 rfl) ?_
              refine lv_iadd hx hb dX12_compare_168 ?_
              refine lv_lit (v := 6) (by decide) ?_
              refine lv_iconst (v := 0) hx hb dX12_compare_169 (by decide) ?_
              have ha_84 : ((d + 1) : Int) ≤ sv_67.toInt := by
                have z_1 : ¬ (r_13 : Int32).toInt = (0 : Int32).toInt := fun z => c_18 (Int32.toInt_inj.mp z)
                have z_2 := congrArg Int32.toInt c_36
                have z_3 := congrArg Int32.toInt c_38
                have z_4 : ¬ (r_49 : Int32).toInt = (0 : Int32).toInt := fun z => c_54 (Int32.toInt_inj.mp z)
                have z_5 := congrArg Int32.toInt c_55
                have z_6 : ¬ (r_73 : Int32).toInt = (0 : Int32).toInt := fun z => c_78 (Int32.toInt_inj.mp z)
                have y_0 : (0 : Int32).toInt = 0 := by decide
                have y_60 : (60 : Int32).toInt = 60 := by decide
                have y_61 : (61 : Int32).toInt = 61 := by decide
                omega
              have ha_85 : (sv_69 (Mv 5).toNatClampNeg).toInt < 400 := by
                have z_1 : ¬ (r_13 : Int32).toInt = (0 : Int32).toInt := fun z => c_18 (Int32.toInt_inj.mp z)
                have z_2 := congrArg Int32.toInt c_36
                have z_3 := congrArg Int32.toInt c_38
                have z_4 : ¬ (r_49 : Int32).toInt = (0 : Int32).toInt := fun z => c_54 (Int32.toInt_inj.mp z)
                have z_5 := congrArg Int32.toInt c_55
                have z_6 : ¬ (r_73 : Int32).toInt = (0 : Int32).toInt := fun z => c_78 (Int32.toInt_inj.mp z)
                have y_0 : (0 : Int32).toInt = 0 := by decide
                have y_60 : (60 : Int32).toInt = 60 := by decide
                have y_61 : (61 : Int32).toInt = 61 := by decide
                omega
              have ha_86 : 0 ≤ (6 : Int32).toInt ∧ (6 : Int32).toInt ≤ 15 := by
                have z_1 : ¬ (r_13 : Int32).toInt = (0 : Int32).toInt := fun z => c_18 (Int32.toInt_inj.mp z)
                have z_2 := congrArg Int32.toInt c_36
                have z_3 := congrArg Int32.toInt c_38
                have z_4 : ¬ (r_49 : Int32).toInt = (0 : Int32).toInt := fun z => c_54 (Int32.toInt_inj.mp z)
                have z_5 := congrArg Int32.toInt c_55
                have z_6 : ¬ (r_73 : Int32).toInt = (0 : Int32).toInt := fun z => c_78 (Int32.toInt_inj.mp z)
                have y_0 : (0 : Int32).toInt = 0 := by decide
                have y_60 : (60 : Int32).toInt = 60 := by decide
                have y_61 : (61 : Int32).toInt = 61 := by decide
                have y_6 : (6 : Int32).toInt = 6 := by decide
                omega
              have ha_87 : 0 ≤ (0 : Int32).toInt ∧ (0 : Int32).toInt ≤ 100000 := by
                have z_1 : ¬ (r_13 : Int32).toInt = (0 : Int32).toInt := fun z => c_18 (Int32.toInt_inj.mp z)
                have z_2 := congrArg Int32.toInt c_36
                have z_3 := congrArg Int32.toInt c_38
                have z_4 : ¬ (r_49 : Int32).toInt = (0 : Int32).toInt := fun z => c_54 (Int32.toInt_inj.mp z)
                have z_5 := congrArg Int32.toInt c_55
                have z_6 : ¬ (r_73 : Int32).toInt = (0 : Int32).toInt := fun z => c_78 (Int32.toInt_inj.mp z)
                have y_0 : (0 : Int32).toInt = 0 := by decide
                have y_60 : (60 : Int32).toInt = 60 := by decide
                have y_61 : (61 : Int32).toInt = 61 := by decide
                omega
              have ha_88 : 0 ≤ (Mv 5).toInt := by
                have z_1 : ¬ (r_13 : Int32).toInt = (0 : Int32).toInt := fun z => c_18 (Int32.toInt_inj.mp z)
                have z_2 := congrArg Int32.toInt c_36
                have z_3 := congrArg Int32.toInt c_38
                have z_4 : ¬ (r_49 : Int32).toInt = (0 : Int32).toInt := fun z => c_54 (Int32.toInt_inj.mp z)
                have z_5 := congrArg Int32.toInt c_55
                have z_6 : ¬ (r_73 : Int32).toInt = (0 : Int32).toInt := fun z => c_78 (Int32.toInt_inj.mp z)
                have y_0 : (0 : Int32).toInt = 0 := by decide
                have y_60 : (60 : Int32).toInt = 60 := by decide
                have y_61 : (61 : Int32).toInt = 61 := by decide
                omega
              refine cV (a := (Ma 0)) (As := [.int 6, .int 0]) (rest := []) (wr := [((Ma 1), .inl (tc 2, 400, .inl (Mf 1)))]) ⟨hx, hb, hml, hown, hts⟩ hK hX hA (cu_kX12_puts l D tc sk (Ma 0) (Ma 1) (Ma 2) (Ma 3) (Ma 4) (Ma 5) (Ma 6) (Ma 7) (Ma 8) (Ma 9) (Ma 10) (Ma 11) (Ma 12) (Ma 13) (Ma 14) (Ma 15) (Ma 16) (Ma 17) (Ma 18) (Ma 19) (Ma 20) (Mv 0) (Mv 1) sv_64 sv_65 sv_66 (Mv 5) sv_67 (Mv 7) (Mv 8) (Mv 9) (Mv 10) (Mv 11) (Mv 12) (Mv 13) (Mv 14) sv_68 sv_69 (Mj 0) 6 0 b sv_67 ((d + 1) + 1) (d + 1) lo_83 (-7) pf_79 (StpR.op (by decide) rfl (by omega)) ha_84 ha_85 pf_81 (by decide) ha_86 ha_87 ha_88) k_1296 k_1293 k_1295 k_46 k_106 pl_X12_puts ⟨Nat.le_of_ble_eq_true rfl, Nat.le_of_ble_eq_true rfl⟩ rfl rfl (va_recv hK hP (ci := 12) (q0 := 0) rfl rfl) hP hD hS [0, 2, 3] [1] rfl rfl rfl rfl rfl (by decide) rfl hl.1 rfl (Nat.le_of_ble_eq_true rfl) dX12_compare_170 ⟨Nat.le_of_ble_eq_true rfl, Nat.le_of_ble_eq_true rfl⟩ (fun v_89 u_90 H locs hv_91 hP₀ hD₀ hS₀ => ?_)
              obtain ⟨sv_92, sv_93⟩ := u_90
              obtain ⟨rfl, pf_94, pf_95, pf_96, pf_97⟩ := hv_91
              have pf_94 : Cd sv_92 sv_93 (Mv 5) b sv_67 (d + 1) := pf_94
              have ar_pf_94 := Cd.ar pf_94
              have pf_95 : Agr sv_68 sv_92 (400 * ((Mv 5) : Int32).toInt + (sv_69 (Mv 5).toNatClampNeg).toInt) := pf_95
              have pf_96 : (sv_93 (Mv 5).toNatClampNeg).toInt = (sv_69 (Mv 5).toNatClampNeg).toInt + 1 := pf_96
              have pf_97 : SgC sv_92 sv_93 (Mv 5) (lo_83 ++ [((-7) : Int)]) := pf_97
              obtain ⟨lo_98, elo_98⟩ : ∃ z : List Int, z = (lo_83 ++ [(-7)]) := ⟨_, rfl⟩
              rw [← elo_98] at pf_97
              refine W.eq (g2 := F0 m 173 ls []) rfl ?_
              replace hP : va_P D classes [((Ma 1), .inl (tc 2, 400, .inl (Mf 1))), ((Ma 0), .inr (12, [.ref (Ma 1), .int (Mv 0), .int (Mv 1), .ref (Ma 2), .ref (Ma 3), .ref (Ma 4), .ref (Ma 5), .ref (Ma 6), .int sv_64, .int sv_65, .int sv_66, .int (Mv 5), .int sv_67, .int (Mv 7), .int (Mv 8), .ref (Ma 7), .int (Mv 9), .ref (Ma 8), .int (Mv 10), .ref (Ma 9), .ref (Ma 10), .int (Mv 11), .int (Mv 12), .int (Mv 13), .ref (Ma 11), .int (Mv 14), .ref (Ma 12), .ref (Ma 13), .ref (Ma 14), .ref (Ma 15), .ref (Ma 16), .long (Mj 0), .ref (Ma 17), .ref (Ma 18), .ref (Ma 19), .ref (Ma 20)])), ((Ma 2), .inl (tc 0, 2400, .inl sv_92)), ((Ma 3), .inl (tc 0, 7, .inl sv_93))] H := hP₀
              replace hD : va_D A [((Ma 1), .inl (tc 2, 400, .inl (Mf 1))), ((Ma 0), .inr (12, [.ref (Ma 1), .int (Mv 0), .int (Mv 1), .ref (Ma 2), .ref (Ma 3), .ref (Ma 4), .ref (Ma 5), .ref (Ma 6), .int sv_64, .int sv_65, .int sv_66, .int (Mv 5), .int sv_67, .int (Mv 7), .int (Mv 8), .ref (Ma 7), .int (Mv 9), .ref (Ma 8), .int (Mv 10), .ref (Ma 9), .ref (Ma 10), .int (Mv 11), .int (Mv 12), .int (Mv 13), .ref (Ma 11), .int (Mv 14), .ref (Ma 12), .ref (Ma 13), .ref (Ma 14), .ref (Ma 15), .ref (Ma 16), .long (Mj 0), .ref (Ma 17), .ref (Ma 18), .ref (Ma 19), .ref (Ma 20)])), ((Ma 2), .inl (tc 0, 2400, .inl sv_92)), ((Ma 3), .inl (tc 0, 7, .inl sv_93))] := hD₀
              replace hS := hS₀
              clear hP₀ hD₀ hS₀
              refine lv_iconst (v := 1) hx hb dX12_compare_173 (by decide) ?_
              have ha_99 : ((Mv 2) : Int32).toInt ≤ (sv_64 : Int32).toInt ∧ (sv_64 : Int32).toInt ≤ ((Mv 0) : Int32).toInt := by
                have z_1 : ¬ (r_13 : Int32).toInt = (0 : Int32).toInt := fun z => c_18 (Int32.toInt_inj.mp z)
                have z_2 := congrArg Int32.toInt c_36
                have z_3 := congrArg Int32.toInt c_38
                have z_4 : ¬ (r_49 : Int32).toInt = (0 : Int32).toInt := fun z => c_54 (Int32.toInt_inj.mp z)
                have z_5 := congrArg Int32.toInt c_55
                have z_6 : ¬ (r_73 : Int32).toInt = (0 : Int32).toInt := fun z => c_78 (Int32.toInt_inj.mp z)
                have y_0 : (0 : Int32).toInt = 0 := by decide
                have y_60 : (60 : Int32).toInt = 60 := by decide
                have y_61 : (61 : Int32).toInt = 61 := by decide
                omega
              have ha_100 : ((Mv 6) : Int32).toInt ≤ (sv_67 : Int32).toInt ∧ (sv_67 : Int32).toInt ≤ 60 := by
                have z_1 : ¬ (r_13 : Int32).toInt = (0 : Int32).toInt := fun z => c_18 (Int32.toInt_inj.mp z)
                have z_2 := congrArg Int32.toInt c_36
                have z_3 := congrArg Int32.toInt c_38
                have z_4 : ¬ (r_49 : Int32).toInt = (0 : Int32).toInt := fun z => c_54 (Int32.toInt_inj.mp z)
                have z_5 := congrArg Int32.toInt c_55
                have z_6 : ¬ (r_73 : Int32).toInt = (0 : Int32).toInt := fun z => c_78 (Int32.toInt_inj.mp z)
                have y_0 : (0 : Int32).toInt = 0 := by decide
                have y_60 : (60 : Int32).toInt = 60 := by decide
                have y_61 : (61 : Int32).toInt = 61 := by decide
                omega
              have hr_101 : (400 * ((Mv 5) : Int32).toInt + ((Mf 3) (Mv 5).toNatClampNeg).toInt) ≤ (400 * ((Mv 5) : Int32).toInt + ((Mf 3) (Mv 5).toNatClampNeg).toInt) := by
                have z_1 : ¬ (r_13 : Int32).toInt = (0 : Int32).toInt := fun z => c_18 (Int32.toInt_inj.mp z)
                have z_2 := congrArg Int32.toInt c_36
                have z_3 := congrArg Int32.toInt c_38
                have z_4 : ¬ (r_49 : Int32).toInt = (0 : Int32).toInt := fun z => c_54 (Int32.toInt_inj.mp z)
                have z_5 := congrArg Int32.toInt c_55
                have z_6 : ¬ (r_73 : Int32).toInt = (0 : Int32).toInt := fun z => c_78 (Int32.toInt_inj.mp z)
                have y_0 : (0 : Int32).toInt = 0 := by decide
                have y_60 : (60 : Int32).toInt = 60 := by decide
                have y_61 : (61 : Int32).toInt = 61 := by decide
                omega
              have hr_102 : (400 * ((Mv 5) : Int32).toInt + ((Mf 3) (Mv 5).toNatClampNeg).toInt) ≤ (400 * ((Mv 5) : Int32).toInt + (sv_9 (Mv 5).toNatClampNeg).toInt) := by
                have z_1 : ¬ (r_13 : Int32).toInt = (0 : Int32).toInt := fun z => c_18 (Int32.toInt_inj.mp z)
                have z_2 := congrArg Int32.toInt c_36
                have z_3 := congrArg Int32.toInt c_38
                have z_4 : ¬ (r_49 : Int32).toInt = (0 : Int32).toInt := fun z => c_54 (Int32.toInt_inj.mp z)
                have z_5 := congrArg Int32.toInt c_55
                have z_6 : ¬ (r_73 : Int32).toInt = (0 : Int32).toInt := fun z => c_78 (Int32.toInt_inj.mp z)
                have y_0 : (0 : Int32).toInt = 0 := by decide
                have y_60 : (60 : Int32).toInt = 60 := by decide
                have y_61 : (61 : Int32).toInt = 61 := by decide
                omega
              have hr_103 : (400 * ((Mv 5) : Int32).toInt + ((Mf 3) (Mv 5).toNatClampNeg).toInt) ≤ (400 * ((Mv 5) : Int32).toInt + (sv_69 (Mv 5).toNatClampNeg).toInt) := by
                have z_1 : ¬ (r_13 : Int32).toInt = (0 : Int32).toInt := fun z => c_18 (Int32.toInt_inj.mp z)
                have z_2 := congrArg Int32.toInt c_36
                have z_3 := congrArg Int32.toInt c_38
                have z_4 : ¬ (r_49 : Int32).toInt = (0 : Int32).toInt := fun z => c_54 (Int32.toInt_inj.mp z)
                have z_5 := congrArg Int32.toInt c_55
                have z_6 : ¬ (r_73 : Int32).toInt = (0 : Int32).toInt := fun z => c_78 (Int32.toInt_inj.mp z)
                have y_0 : (0 : Int32).toInt = 0 := by decide
                have y_60 : (60 : Int32).toInt = 60 := by decide
                have y_61 : (61 : Int32).toInt = 61 := by decide
                omega
              have hp_104 : (((1 : Int32).toInt = 0 ∧ ¬ (sv_65 : Int32).toInt = 0) ∨ ((1 : Int32).toInt = 1 ∧ ((Mf 3) (Mv 5).toNatClampNeg).toInt + 1 ≤ (sv_93 (Mv 5).toNatClampNeg).toInt ∧ (sv_93 (Mv 5).toNatClampNeg).toInt + ((Mv 2) : Int32).toInt ≤ ((Mf 3) (Mv 5).toNatClampNeg).toInt + (sv_64 : Int32).toInt ∧ ((Mv 2) : Int32).toInt + 1 ≤ (sv_64 : Int32).toInt)) := by
                have z_1 : ¬ (r_13 : Int32).toInt = (0 : Int32).toInt := fun z => c_18 (Int32.toInt_inj.mp z)
                have z_2 := congrArg Int32.toInt c_36
                have z_3 := congrArg Int32.toInt c_38
                have z_4 : ¬ (r_49 : Int32).toInt = (0 : Int32).toInt := fun z => c_54 (Int32.toInt_inj.mp z)
                have z_5 := congrArg Int32.toInt c_55
                have z_6 : ¬ (r_73 : Int32).toInt = (0 : Int32).toInt := fun z => c_78 (Int32.toInt_inj.mp z)
                have y_0 : (0 : Int32).toInt = 0 := by decide
                have y_60 : (60 : Int32).toInt = 60 := by decide
                have y_61 : (61 : Int32).toInt = 61 := by decide
                have y_1 : (1 : Int32).toInt = 1 := by decide
                have yr : (1 : Int32).toInt = 1 := by decide
                omega
              have hm_105 : (1 : Int32).toInt = 1 → (Cd sv_92 sv_93 (Mv 5) b sv_67 (d + 1)) ∧ (RfO (pz_com (rB (Mf 1) (Mv 0)) (St0 (rB (Mf 1) (Mv 0)) (Mv 2) (Mv 6))) (rB (Mf 1) (Mv 0)) sv_65 sv_64 sv_67) ∧ (SgC sv_92 sv_93 (Mv 5) (ll ++ ec_com (rB (Mf 1) (Mv 0)) (St0 (rB (Mf 1) (Mv 0)) (Mv 2) (Mv 6)))) := by
                intro h1r
                have hr_106 : (rB (Mf 1) (Mv 0) (sv_28 : Int32).toInt.toNat = 60 ∨ rB (Mf 1) (Mv 0) (sv_28 : Int32).toInt.toNat = 61 ∨ rB (Mf 1) (Mv 0) (sv_28 : Int32).toInt.toNat = 62) := by
                  have z_1 : ¬ (r_13 : Int32).toInt = (0 : Int32).toInt := fun z => c_18 (Int32.toInt_inj.mp z)
                  have z_2 := congrArg Int32.toInt c_36
                  have z_3 := congrArg Int32.toInt c_38
                  have z_4 : ¬ (r_49 : Int32).toInt = (0 : Int32).toInt := fun z => c_54 (Int32.toInt_inj.mp z)
                  have z_5 := congrArg Int32.toInt c_55
                  have z_6 : ¬ (r_73 : Int32).toInt = (0 : Int32).toInt := fun z => c_78 (Int32.toInt_inj.mp z)
                  have y_0 : (0 : Int32).toInt = 0 := by decide
                  have y_60 : (60 : Int32).toInt = 60 := by decide
                  have y_61 : (61 : Int32).toInt = 61 := by decide
                  omega
                have rg_107 := rB_rg (n := (Mv 0)) h_bs ((sv_28 : Int32).toInt.toNat + 1)
                have hr_108 : ((x_37 : Int32).toInt = (sv_28 : Int32).toInt + 1 ∧ ¬ ((rB (Mf 1) (Mv 0) (sv_28 : Int32).toInt.toNat = 60 ∨ rB (Mf 1) (Mv 0) (sv_28 : Int32).toInt.toNat = 62) ∧ rB (Mf 1) (Mv 0) ((sv_28 : Int32).toInt.toNat + 1) = 61)) ∨ ((x_37 : Int32).toInt = (sv_28 : Int32).toInt + 2 ∧ (rB (Mf 1) (Mv 0) (sv_28 : Int32).toInt.toNat = 60 ∨ rB (Mf 1) (Mv 0) (sv_28 : Int32).toInt.toNat = 62) ∧ rB (Mf 1) (Mv 0) ((sv_28 : Int32).toInt.toNat + 1) = 61) := by
                  have z_1 : ¬ (r_13 : Int32).toInt = (0 : Int32).toInt := fun z => c_18 (Int32.toInt_inj.mp z)
                  have z_2 := congrArg Int32.toInt c_36
                  have z_3 := congrArg Int32.toInt c_38
                  have z_4 : ¬ (r_49 : Int32).toInt = (0 : Int32).toInt := fun z => c_54 (Int32.toInt_inj.mp z)
                  have z_5 := congrArg Int32.toInt c_55
                  have z_6 : ¬ (r_73 : Int32).toInt = (0 : Int32).toInt := fun z => c_78 (Int32.toInt_inj.mp z)
                  have y_0 : (0 : Int32).toInt = 0 := by decide
                  have y_60 : (60 : Int32).toInt = 60 := by decide
                  have y_61 : (61 : Int32).toInt = 61 := by decide
                  have y_1 : (1 : Int32).toInt = 1 := by decide
                  have t_x_37 : x_37.toInt = (sv_28 : Int32).toInt + (1 : Int32).toInt := by rw [ex_37]; exact add_toInt (by omega) (by omega)
                  omega
                have hr_109 : 0 ≤ (sv_7 : Int32).toInt ∧ (sv_7 : Int32).toInt < 60 ∧ (sv_47 : Int32).toInt = (sv_7 : Int32).toInt + 1 := by
                  have z_1 : ¬ (r_13 : Int32).toInt = (0 : Int32).toInt := fun z => c_18 (Int32.toInt_inj.mp z)
                  have z_2 := congrArg Int32.toInt c_36
                  have z_3 := congrArg Int32.toInt c_38
                  have z_4 : ¬ (r_49 : Int32).toInt = (0 : Int32).toInt := fun z => c_54 (Int32.toInt_inj.mp z)
                  have z_5 := congrArg Int32.toInt c_55
                  have z_6 : ¬ (r_73 : Int32).toInt = (0 : Int32).toInt := fun z => c_78 (Int32.toInt_inj.mp z)
                  have y_0 : (0 : Int32).toInt = 0 := by decide
                  have y_60 : (60 : Int32).toInt = 60 := by decide
                  have y_61 : (61 : Int32).toInt = 61 := by decide
                  omega
                have hr_110 : (rB (Mf 1) (Mv 0) (sv_28 : Int32).toInt.toNat = 60 ∨ rB (Mf 1) (Mv 0) (sv_28 : Int32).toInt.toNat = 61 ∨ rB (Mf 1) (Mv 0) (sv_28 : Int32).toInt.toNat = 62) := by
                  have z_1 : ¬ (r_13 : Int32).toInt = (0 : Int32).toInt := fun z => c_18 (Int32.toInt_inj.mp z)
                  have z_2 := congrArg Int32.toInt c_36
                  have z_3 := congrArg Int32.toInt c_38
                  have z_4 : ¬ (r_49 : Int32).toInt = (0 : Int32).toInt := fun z => c_54 (Int32.toInt_inj.mp z)
                  have z_5 := congrArg Int32.toInt c_55
                  have z_6 : ¬ (r_73 : Int32).toInt = (0 : Int32).toInt := fun z => c_78 (Int32.toInt_inj.mp z)
                  have y_0 : (0 : Int32).toInt = 0 := by decide
                  have y_60 : (60 : Int32).toInt = 60 := by decide
                  have y_61 : (61 : Int32).toInt = 61 := by decide
                  omega
                have rg_111 := rB_rg (n := (Mv 0)) h_bs ((sv_28 : Int32).toInt.toNat + 1)
                have hr_112 : ((x_37 : Int32).toInt = (sv_28 : Int32).toInt + 1 ∧ ¬ ((rB (Mf 1) (Mv 0) (sv_28 : Int32).toInt.toNat = 60 ∨ rB (Mf 1) (Mv 0) (sv_28 : Int32).toInt.toNat = 62) ∧ rB (Mf 1) (Mv 0) ((sv_28 : Int32).toInt.toNat + 1) = 61)) ∨ ((x_37 : Int32).toInt = (sv_28 : Int32).toInt + 2 ∧ (rB (Mf 1) (Mv 0) (sv_28 : Int32).toInt.toNat = 60 ∨ rB (Mf 1) (Mv 0) (sv_28 : Int32).toInt.toNat = 62) ∧ rB (Mf 1) (Mv 0) ((sv_28 : Int32).toInt.toNat + 1) = 61) := by
                  have z_1 : ¬ (r_13 : Int32).toInt = (0 : Int32).toInt := fun z => c_18 (Int32.toInt_inj.mp z)
                  have z_2 := congrArg Int32.toInt c_36
                  have z_3 := congrArg Int32.toInt c_38
                  have z_4 : ¬ (r_49 : Int32).toInt = (0 : Int32).toInt := fun z => c_54 (Int32.toInt_inj.mp z)
                  have z_5 := congrArg Int32.toInt c_55
                  have z_6 : ¬ (r_73 : Int32).toInt = (0 : Int32).toInt := fun z => c_78 (Int32.toInt_inj.mp z)
                  have y_0 : (0 : Int32).toInt = 0 := by decide
                  have y_60 : (60 : Int32).toInt = 60 := by decide
                  have y_61 : (61 : Int32).toInt = 61 := by decide
                  have y_1 : (1 : Int32).toInt = 1 := by decide
                  have t_x_37 : x_37.toInt = (sv_28 : Int32).toInt + (1 : Int32).toInt := by rw [ex_37]; exact add_toInt (by omega) (by omega)
                  omega
                have hr_113 : (rB (Mf 1) (Mv 0) (sv_28 : Int32).toInt.toNat = 60 ∧ (x_37 : Int32).toInt = (sv_28 : Int32).toInt + 1 ∧ (-7 : Int) = -7) ∨ (rB (Mf 1) (Mv 0) (sv_28 : Int32).toInt.toNat = 60 ∧ (x_37 : Int32).toInt = (sv_28 : Int32).toInt + 2 ∧ (-7 : Int) = -8) ∨ (rB (Mf 1) (Mv 0) (sv_28 : Int32).toInt.toNat = 61 ∧ (-7 : Int) = -9) ∨ (rB (Mf 1) (Mv 0) (sv_28 : Int32).toInt.toNat = 62 ∧ (x_37 : Int32).toInt = (sv_28 : Int32).toInt + 2 ∧ (-7 : Int) = -10) ∨ (rB (Mf 1) (Mv 0) (sv_28 : Int32).toInt.toNat = 62 ∧ (x_37 : Int32).toInt = (sv_28 : Int32).toInt + 1 ∧ (-7 : Int) = -11) := by
                  have z_1 : ¬ (r_13 : Int32).toInt = (0 : Int32).toInt := fun z => c_18 (Int32.toInt_inj.mp z)
                  have z_2 := congrArg Int32.toInt c_36
                  have z_3 := congrArg Int32.toInt c_38
                  have z_4 : ¬ (r_49 : Int32).toInt = (0 : Int32).toInt := fun z => c_54 (Int32.toInt_inj.mp z)
                  have z_5 := congrArg Int32.toInt c_55
                  have z_6 : ¬ (r_73 : Int32).toInt = (0 : Int32).toInt := fun z => c_78 (Int32.toInt_inj.mp z)
                  have y_0 : (0 : Int32).toInt = 0 := by decide
                  have y_60 : (60 : Int32).toInt = 60 := by decide
                  have y_61 : (61 : Int32).toInt = 61 := by decide
                  have y_1 : (1 : Int32).toInt = 1 := by decide
                  have t_x_37 : x_37.toInt = (sv_28 : Int32).toInt + (1 : Int32).toInt := by rw [ex_37]; exact add_toInt (by omega) (by omega)
                  omega
                have hu_114 : SgC sv_92 sv_93 (Mv 5) (((ll ++ lsum (rB (Mf 1) (Mv 0)) (St0 (rB (Mf 1) (Mv 0)) (Mv 2) (Mv 6))) ++ lsum (rB (Mf 1) (Mv 0)) (St0 (rB (Mf 1) (Mv 0)) x_37 sv_47)) ++ [(-7)]) := by
                  rw [← elo_23, ← elo_83, ← elo_98]
                  exact pf_97
                have hs_115 : SgC sv_92 sv_93 (Mv 5) (ll ++ ec_com (rB (Mf 1) (Mv 0)) (St0 (rB (Mf 1) (Mv 0)) (Mv 2) (Mv 6))) := by
                  rw [com_ls (o := -7) (md1 := sv_47) pf_20 pf_32 hr_110 hr_112 (ec_c_at pf_32 hr_112 hr_113)]
                  exact hu_114
                exact ⟨pf_94, (RfO.com pf_20 pf_32 hr_106 hr_108 hr_109 pf_80), hs_115⟩
              exact retI (v := 1) hx hb hr hlk (rfl) hP hD hS (sv_64, sv_65, sv_66, sv_67, sv_92, sv_93) ⟨_, rfl, hp_104, ha_99, ha_100, (Agr.trans (k' := (400 * ((Mv 5) : Int32).toInt + ((Mf 3) (Mv 5).toNatClampNeg).toInt)) (Agr.trans (k' := (400 * ((Mv 5) : Int32).toInt + ((Mf 3) (Mv 5).toNatClampNeg).toInt)) (Agr.mono pf_12 hr_101) pf_72 ⟨Int.le_refl _, hr_102⟩) pf_95 ⟨Int.le_refl _, hr_103⟩), hm_105, (fun h => absurd h (by decide))⟩ [1, 0, 2, 3] rfl rfl dX12_compare_174 (Nat.le_of_ble_eq_true rfl) (Nat.le_of_ble_eq_true rfl) rfl
            · skip
              have hz_117 : (r_73 : Int32).toInt = 0 := by
                have z_1 : ¬ (r_13 : Int32).toInt = (0 : Int32).toInt := fun z => c_18 (Int32.toInt_inj.mp z)
                have z_2 := congrArg Int32.toInt c_36
                have z_3 := congrArg Int32.toInt c_38
                have z_4 : ¬ (r_49 : Int32).toInt = (0 : Int32).toInt := fun z => c_54 (Int32.toInt_inj.mp z)
                have z_5 := congrArg Int32.toInt c_55
                have z_6 := congrArg Int32.toInt c_78
                have y_0 : (0 : Int32).toInt = 0 := by decide
                have y_60 : (60 : Int32).toInt = 60 := by decide
                have y_61 : (61 : Int32).toInt = 61 := by decide
                omega
              obtain pf_116 := hm_77 hz_117
              have pf_116 : RfE (pz_sum (rB (Mf 1) (Mv 0)) (St0 (rB (Mf 1) (Mv 0)) x_37 sv_47)) sv_65 := pf_116
              refine lv_iconst (v := 0) hx hb dX12_compare_161 (by decide) ?_
              have ha_118 : ((Mv 2) : Int32).toInt ≤ (sv_64 : Int32).toInt ∧ (sv_64 : Int32).toInt ≤ ((Mv 0) : Int32).toInt := by
                have z_1 : ¬ (r_13 : Int32).toInt = (0 : Int32).toInt := fun z => c_18 (Int32.toInt_inj.mp z)
                have z_2 := congrArg Int32.toInt c_36
                have z_3 := congrArg Int32.toInt c_38
                have z_4 : ¬ (r_49 : Int32).toInt = (0 : Int32).toInt := fun z => c_54 (Int32.toInt_inj.mp z)
                have z_5 := congrArg Int32.toInt c_55
                have z_6 := congrArg Int32.toInt c_78
                have y_0 : (0 : Int32).toInt = 0 := by decide
                have y_60 : (60 : Int32).toInt = 60 := by decide
                have y_61 : (61 : Int32).toInt = 61 := by decide
                omega
              have ha_119 : ((Mv 6) : Int32).toInt ≤ (sv_67 : Int32).toInt ∧ (sv_67 : Int32).toInt ≤ 60 := by
                have z_1 : ¬ (r_13 : Int32).toInt = (0 : Int32).toInt := fun z => c_18 (Int32.toInt_inj.mp z)
                have z_2 := congrArg Int32.toInt c_36
                have z_3 := congrArg Int32.toInt c_38
                have z_4 : ¬ (r_49 : Int32).toInt = (0 : Int32).toInt := fun z => c_54 (Int32.toInt_inj.mp z)
                have z_5 := congrArg Int32.toInt c_55
                have z_6 := congrArg Int32.toInt c_78
                have y_0 : (0 : Int32).toInt = 0 := by decide
                have y_60 : (60 : Int32).toInt = 60 := by decide
                have y_61 : (61 : Int32).toInt = 61 := by decide
                omega
              have hr_120 : (400 * ((Mv 5) : Int32).toInt + ((Mf 3) (Mv 5).toNatClampNeg).toInt) ≤ (400 * ((Mv 5) : Int32).toInt + ((Mf 3) (Mv 5).toNatClampNeg).toInt) := by
                have z_1 : ¬ (r_13 : Int32).toInt = (0 : Int32).toInt := fun z => c_18 (Int32.toInt_inj.mp z)
                have z_2 := congrArg Int32.toInt c_36
                have z_3 := congrArg Int32.toInt c_38
                have z_4 : ¬ (r_49 : Int32).toInt = (0 : Int32).toInt := fun z => c_54 (Int32.toInt_inj.mp z)
                have z_5 := congrArg Int32.toInt c_55
                have z_6 := congrArg Int32.toInt c_78
                have y_0 : (0 : Int32).toInt = 0 := by decide
                have y_60 : (60 : Int32).toInt = 60 := by decide
                have y_61 : (61 : Int32).toInt = 61 := by decide
                omega
              have hr_121 : (400 * ((Mv 5) : Int32).toInt + ((Mf 3) (Mv 5).toNatClampNeg).toInt) ≤ (400 * ((Mv 5) : Int32).toInt + (sv_9 (Mv 5).toNatClampNeg).toInt) := by
                have z_1 : ¬ (r_13 : Int32).toInt = (0 : Int32).toInt := fun z => c_18 (Int32.toInt_inj.mp z)
                have z_2 := congrArg Int32.toInt c_36
                have z_3 := congrArg Int32.toInt c_38
                have z_4 : ¬ (r_49 : Int32).toInt = (0 : Int32).toInt := fun z => c_54 (Int32.toInt_inj.mp z)
                have z_5 := congrArg Int32.toInt c_55
                have z_6 := congrArg Int32.toInt c_78
                have y_0 : (0 : Int32).toInt = 0 := by decide
                have y_60 : (60 : Int32).toInt = 60 := by decide
                have y_61 : (61 : Int32).toInt = 61 := by decide
                omega
              have hp_122 : (((0 : Int32).toInt = 0 ∧ ¬ (sv_65 : Int32).toInt = 0) ∨ ((0 : Int32).toInt = 1 ∧ ((Mf 3) (Mv 5).toNatClampNeg).toInt + 1 ≤ (sv_69 (Mv 5).toNatClampNeg).toInt ∧ (sv_69 (Mv 5).toNatClampNeg).toInt + ((Mv 2) : Int32).toInt ≤ ((Mf 3) (Mv 5).toNatClampNeg).toInt + (sv_64 : Int32).toInt ∧ ((Mv 2) : Int32).toInt + 1 ≤ (sv_64 : Int32).toInt)) := by
                have z_1 : ¬ (r_13 : Int32).toInt = (0 : Int32).toInt := fun z => c_18 (Int32.toInt_inj.mp z)
                have z_2 := congrArg Int32.toInt c_36
                have z_3 := congrArg Int32.toInt c_38
                have z_4 : ¬ (r_49 : Int32).toInt = (0 : Int32).toInt := fun z => c_54 (Int32.toInt_inj.mp z)
                have z_5 := congrArg Int32.toInt c_55
                have z_6 := congrArg Int32.toInt c_78
                have y_0 : (0 : Int32).toInt = 0 := by decide
                have y_60 : (60 : Int32).toInt = 60 := by decide
                have y_61 : (61 : Int32).toInt = 61 := by decide
                omega
              have hm_123 : (0 : Int32).toInt = 0 → (RfE (pz_com (rB (Mf 1) (Mv 0)) (St0 (rB (Mf 1) (Mv 0)) (Mv 2) (Mv 6))) sv_65) := by
                intro h1r
                have hr_124 : (rB (Mf 1) (Mv 0) (sv_28 : Int32).toInt.toNat = 60 ∨ rB (Mf 1) (Mv 0) (sv_28 : Int32).toInt.toNat = 61 ∨ rB (Mf 1) (Mv 0) (sv_28 : Int32).toInt.toNat = 62) := by
                  have z_1 : ¬ (r_13 : Int32).toInt = (0 : Int32).toInt := fun z => c_18 (Int32.toInt_inj.mp z)
                  have z_2 := congrArg Int32.toInt c_36
                  have z_3 := congrArg Int32.toInt c_38
                  have z_4 : ¬ (r_49 : Int32).toInt = (0 : Int32).toInt := fun z => c_54 (Int32.toInt_inj.mp z)
                  have z_5 := congrArg Int32.toInt c_55
                  have z_6 := congrArg Int32.toInt c_78
                  have y_0 : (0 : Int32).toInt = 0 := by decide
                  have y_60 : (60 : Int32).toInt = 60 := by decide
                  have y_61 : (61 : Int32).toInt = 61 := by decide
                  omega
                have rg_125 := rB_rg (n := (Mv 0)) h_bs ((sv_28 : Int32).toInt.toNat + 1)
                have hr_126 : ((x_37 : Int32).toInt = (sv_28 : Int32).toInt + 1 ∧ ¬ ((rB (Mf 1) (Mv 0) (sv_28 : Int32).toInt.toNat = 60 ∨ rB (Mf 1) (Mv 0) (sv_28 : Int32).toInt.toNat = 62) ∧ rB (Mf 1) (Mv 0) ((sv_28 : Int32).toInt.toNat + 1) = 61)) ∨ ((x_37 : Int32).toInt = (sv_28 : Int32).toInt + 2 ∧ (rB (Mf 1) (Mv 0) (sv_28 : Int32).toInt.toNat = 60 ∨ rB (Mf 1) (Mv 0) (sv_28 : Int32).toInt.toNat = 62) ∧ rB (Mf 1) (Mv 0) ((sv_28 : Int32).toInt.toNat + 1) = 61) := by
                  have z_1 : ¬ (r_13 : Int32).toInt = (0 : Int32).toInt := fun z => c_18 (Int32.toInt_inj.mp z)
                  have z_2 := congrArg Int32.toInt c_36
                  have z_3 := congrArg Int32.toInt c_38
                  have z_4 : ¬ (r_49 : Int32).toInt = (0 : Int32).toInt := fun z => c_54 (Int32.toInt_inj.mp z)
                  have z_5 := congrArg Int32.toInt c_55
                  have z_6 := congrArg Int32.toInt c_78
                  have y_0 : (0 : Int32).toInt = 0 := by decide
                  have y_60 : (60 : Int32).toInt = 60 := by decide
                  have y_61 : (61 : Int32).toInt = 61 := by decide
                  have y_1 : (1 : Int32).toInt = 1 := by decide
                  have t_x_37 : x_37.toInt = (sv_28 : Int32).toInt + (1 : Int32).toInt := by rw [ex_37]; exact add_toInt (by omega) (by omega)
                  omega
                have hr_127 : 0 ≤ (sv_7 : Int32).toInt ∧ (sv_7 : Int32).toInt < 60 ∧ (sv_47 : Int32).toInt = (sv_7 : Int32).toInt + 1 := by
                  have z_1 : ¬ (r_13 : Int32).toInt = (0 : Int32).toInt := fun z => c_18 (Int32.toInt_inj.mp z)
                  have z_2 := congrArg Int32.toInt c_36
                  have z_3 := congrArg Int32.toInt c_38
                  have z_4 : ¬ (r_49 : Int32).toInt = (0 : Int32).toInt := fun z => c_54 (Int32.toInt_inj.mp z)
                  have z_5 := congrArg Int32.toInt c_55
                  have z_6 := congrArg Int32.toInt c_78
                  have y_0 : (0 : Int32).toInt = 0 := by decide
                  have y_60 : (60 : Int32).toInt = 60 := by decide
                  have y_61 : (61 : Int32).toInt = 61 := by decide
                  omega
                exact (RfE.com2 pf_20 pf_32 hr_124 hr_126 hr_127 pf_116)
              exact retI (v := 0) hx hb hr hlk (rfl) hP hD hS (sv_64, sv_65, sv_66, sv_67, sv_68, sv_69) ⟨_, rfl, hp_122, ha_118, ha_119, (Agr.trans (k' := (400 * ((Mv 5) : Int32).toInt + ((Mf 3) (Mv 5).toNatClampNeg).toInt)) (Agr.mono pf_12 hr_120) pf_72 ⟨Int.le_refl _, hr_121⟩), (fun h => absurd h (by decide)), hm_123⟩ [0, 1, 2, 3] rfl rfl dX12_compare_162 (Nat.le_of_ble_eq_true rfl) (Nat.le_of_ble_eq_true rfl) rfl
        · skip
          refine lv_iconst (v := 0) hx hb dX12_compare_113 (by decide) ?_
          have ha_128 : ((Mv 2) : Int32).toInt ≤ (x_37 : Int32).toInt ∧ (x_37 : Int32).toInt ≤ ((Mv 0) : Int32).toInt := by
            have z_1 : ¬ (r_13 : Int32).toInt = (0 : Int32).toInt := fun z => c_18 (Int32.toInt_inj.mp z)
            have z_2 := congrArg Int32.toInt c_36
            have z_3 := congrArg Int32.toInt c_38
            have z_4 := congrArg Int32.toInt c_54
            have y_0 : (0 : Int32).toInt = 0 := by decide
            have y_60 : (60 : Int32).toInt = 60 := by decide
            have y_61 : (61 : Int32).toInt = 61 := by decide
            have y_1 : (1 : Int32).toInt = 1 := by decide
            have t_x_37 : x_37.toInt = (sv_28 : Int32).toInt + (1 : Int32).toInt := by rw [ex_37]; exact add_toInt (by omega) (by omega)
            omega
          have ha_129 : ((Mv 6) : Int32).toInt ≤ (sv_47 : Int32).toInt ∧ (sv_47 : Int32).toInt ≤ 60 := by
            have z_1 : ¬ (r_13 : Int32).toInt = (0 : Int32).toInt := fun z => c_18 (Int32.toInt_inj.mp z)
            have z_2 := congrArg Int32.toInt c_36
            have z_3 := congrArg Int32.toInt c_38
            have z_4 := congrArg Int32.toInt c_54
            have y_0 : (0 : Int32).toInt = 0 := by decide
            have y_60 : (60 : Int32).toInt = 60 := by decide
            have y_61 : (61 : Int32).toInt = 61 := by decide
            omega
          have hp_130 : (((0 : Int32).toInt = 0 ∧ ¬ (sv_46 : Int32).toInt = 0) ∨ ((0 : Int32).toInt = 1 ∧ ((Mf 3) (Mv 5).toNatClampNeg).toInt + 1 ≤ (sv_9 (Mv 5).toNatClampNeg).toInt ∧ (sv_9 (Mv 5).toNatClampNeg).toInt + ((Mv 2) : Int32).toInt ≤ ((Mf 3) (Mv 5).toNatClampNeg).toInt + (x_37 : Int32).toInt ∧ ((Mv 2) : Int32).toInt + 1 ≤ (x_37 : Int32).toInt)) := by
            have z_1 : ¬ (r_13 : Int32).toInt = (0 : Int32).toInt := fun z => c_18 (Int32.toInt_inj.mp z)
            have z_2 := congrArg Int32.toInt c_36
            have z_3 := congrArg Int32.toInt c_38
            have z_4 := congrArg Int32.toInt c_54
            have y_0 : (0 : Int32).toInt = 0 := by decide
            have y_60 : (60 : Int32).toInt = 60 := by decide
            have y_61 : (61 : Int32).toInt = 61 := by decide
            have y_1 : (1 : Int32).toInt = 1 := by decide
            have t_x_37 : x_37.toInt = (sv_28 : Int32).toInt + (1 : Int32).toInt := by rw [ex_37]; exact add_toInt (by omega) (by omega)
            omega
          have hm_131 : (0 : Int32).toInt = 0 → (RfE (pz_com (rB (Mf 1) (Mv 0)) (St0 (rB (Mf 1) (Mv 0)) (Mv 2) (Mv 6))) sv_46) := by
            intro h1r
            have hr_132 : (rB (Mf 1) (Mv 0) (sv_28 : Int32).toInt.toNat = 60 ∨ rB (Mf 1) (Mv 0) (sv_28 : Int32).toInt.toNat = 61 ∨ rB (Mf 1) (Mv 0) (sv_28 : Int32).toInt.toNat = 62) := by
              have z_1 : ¬ (r_13 : Int32).toInt = (0 : Int32).toInt := fun z => c_18 (Int32.toInt_inj.mp z)
              have z_2 := congrArg Int32.toInt c_36
              have z_3 := congrArg Int32.toInt c_38
              have z_4 := congrArg Int32.toInt c_54
              have y_0 : (0 : Int32).toInt = 0 := by decide
              have y_60 : (60 : Int32).toInt = 60 := by decide
              have y_61 : (61 : Int32).toInt = 61 := by decide
              omega
            have hr_133 : 60 ≤ (sv_7 : Int32).toInt := by
              have z_1 : ¬ (r_13 : Int32).toInt = (0 : Int32).toInt := fun z => c_18 (Int32.toInt_inj.mp z)
              have z_2 := congrArg Int32.toInt c_36
              have z_3 := congrArg Int32.toInt c_38
              have z_4 := congrArg Int32.toInt c_54
              have y_0 : (0 : Int32).toInt = 0 := by decide
              have y_60 : (60 : Int32).toInt = 60 := by decide
              have y_61 : (61 : Int32).toInt = 61 := by decide
              omega
            have hi_134 : (sv_46 : Int32).toInt = 1 + 8 * (sv_28 : Int32).toInt + 3 := by
              have z_1 : ¬ (r_13 : Int32).toInt = (0 : Int32).toInt := fun z => c_18 (Int32.toInt_inj.mp z)
              have z_2 := congrArg Int32.toInt c_36
              have z_3 := congrArg Int32.toInt c_38
              have z_4 := congrArg Int32.toInt c_54
              have y_0 : (0 : Int32).toInt = 0 := by decide
              have y_60 : (60 : Int32).toInt = 60 := by decide
              have y_61 : (61 : Int32).toInt = 61 := by decide
              omega
            exact (RfE.com3 pf_20 pf_32 hr_132 hr_133 hi_134)
          exact retI (v := 0) hx hb hr hlk (rfl) hP hD hS (x_37, sv_46, sv_6, sv_47, sv_8, sv_9) ⟨_, rfl, hp_130, ha_128, ha_129, pf_12, (fun h => absurd h (by decide)), hm_131⟩ [3, 2, 0, 1] rfl rfl dX12_compare_114 (Nat.le_of_ble_eq_true rfl) (Nat.le_of_ble_eq_true rfl) rfl
      · skip
        refine lv_aload_n hx hb dX12_compare_60 rfl (lv_at hl 2 rfl) ?_
        refine gf_X12_87 hx hb hts hown hK hP 2 rfl rfl dX12_compare_61 ?_
        refine lv_aload_n hx hb dX12_compare_64 rfl (lv_at hl 2 rfl) ?_
        refine gf_X12_77 hx hb hts hown hK hP 2 rfl rfl dX12_compare_65 ?_
        refine lv_icmp_ge (tgt := 89) hx hb dX12_compare_68 (by decide) (fun c_135 => ?_) (fun c_135 => ?_)
        · skip
          refine lv_iconst (v := 0) hx hb dX12_compare_89 (by decide) ?_
          refine lv_istore_n (lv' := [(3, .int 0), (2, .int sv_28), (1, .int r_33), (0, .ref (Ma 0))]) hx hb dX12_compare_90 rfl hl (by decide) rfl (fun ls hl₀ => ?_)
          replace hl := hl₀
          clear hl₀
          refine lv_iload_n hx hb dX12_compare_91 rfl (lv_at hl 0 rfl) ?_
          refine lv_if_eq (tgt := 105) hx hb dX12_compare_92 (by decide) (fun c_136 => ?_) (fun c_136 => absurd c_136 (by decide))
          refine lv_aload_n hx hb dX12_compare_105 rfl (lv_at hl 3 rfl) ?_
          refine lv_iload_n hx hb dX12_compare_106 rfl (lv_at hl 1 rfl) ?_
          have ha_137 : 0 ≤ sv_28.toInt ∧ sv_28.toInt ≤ 400 := by
            have z_1 : ¬ (r_13 : Int32).toInt = (0 : Int32).toInt := fun z => c_18 (Int32.toInt_inj.mp z)
            have z_2 := congrArg Int32.toInt c_36
            have z_3 : ¬ (r_33 : Int32).toInt = (61 : Int32).toInt := fun z => c_38 (Int32.toInt_inj.mp z)
            have z_4 := Int32.le_iff_toInt_le.mp c_135
            have y_0 : (0 : Int32).toInt = 0 := by decide
            have y_60 : (60 : Int32).toInt = 60 := by decide
            have y_61 : (61 : Int32).toInt = 61 := by decide
            have y_1 : (1 : Int32).toInt = 1 := by decide
            have t_x_37 : x_37.toInt = (sv_28 : Int32).toInt + (1 : Int32).toInt := by rw [ex_37]; exact add_toInt (by omega) (by omega)
            omega
          have ha_138 : 0 ≤ (sv_7 : Int32).toInt ∧ (sv_7 : Int32).toInt ≤ 60 := by
            have z_1 : ¬ (r_13 : Int32).toInt = (0 : Int32).toInt := fun z => c_18 (Int32.toInt_inj.mp z)
            have z_2 := congrArg Int32.toInt c_36
            have z_3 : ¬ (r_33 : Int32).toInt = (61 : Int32).toInt := fun z => c_38 (Int32.toInt_inj.mp z)
            have z_4 := Int32.le_iff_toInt_le.mp c_135
            have y_0 : (0 : Int32).toInt = 0 := by decide
            have y_60 : (60 : Int32).toInt = 60 := by decide
            have y_61 : (61 : Int32).toInt = 61 := by decide
            have y_1 : (1 : Int32).toInt = 1 := by decide
            have t_x_37 : x_37.toInt = (sv_28 : Int32).toInt + (1 : Int32).toInt := by rw [ex_37]; exact add_toInt (by omega) (by omega)
            omega
          have ha_139 : (sv_5 : Int32).toInt = 0 := by
            have z_1 : ¬ (r_13 : Int32).toInt = (0 : Int32).toInt := fun z => c_18 (Int32.toInt_inj.mp z)
            have z_2 := congrArg Int32.toInt c_36
            have z_3 : ¬ (r_33 : Int32).toInt = (61 : Int32).toInt := fun z => c_38 (Int32.toInt_inj.mp z)
            have z_4 := Int32.le_iff_toInt_le.mp c_135
            have y_0 : (0 : Int32).toInt = 0 := by decide
            have y_60 : (60 : Int32).toInt = 60 := by decide
            have y_61 : (61 : Int32).toInt = 61 := by decide
            have y_1 : (1 : Int32).toInt = 1 := by decide
            have t_x_37 : x_37.toInt = (sv_28 : Int32).toInt + (1 : Int32).toInt := by rw [ex_37]; exact add_toInt (by omega) (by omega)
            omega
          refine cV (a := (Ma 0)) (As := [.int sv_28]) (rest := []) (wr := [((Ma 2), .inl (tc 0, 2400, .inl sv_8)), ((Ma 3), .inl (tc 0, 7, .inl sv_9)), ((Ma 1), .inl (tc 2, 400, .inl (Mf 1)))]) ⟨hx, hb, hml, hown, hts⟩ hK hX hA (cu_fX12_makes l D tc sk (Ma 0) (Ma 1) (Ma 2) (Ma 3) (Ma 4) (Ma 5) (Ma 6) (Ma 7) (Ma 8) (Ma 9) (Ma 10) (Ma 11) (Ma 12) (Ma 13) (Ma 14) (Ma 15) (Ma 16) (Ma 17) (Ma 18) (Ma 19) (Ma 20) (Mv 0) (Mv 1) x_37 sv_5 sv_6 (Mv 5) sv_7 (Mv 7) (Mv 8) (Mv 9) (Mv 10) (Mv 11) (Mv 12) (Mv 13) (Mv 14) (Mj 0) sv_28 ha_137 ha_138 ha_139) k_1292 k_1289 k_1291 k_45 k_106 pl_X12_makes ⟨Nat.le_of_ble_eq_true rfl, Nat.le_of_ble_eq_true rfl⟩ rfl rfl (va_recv hK hP (ci := 12) (q0 := 2) rfl rfl) hP hD hS [2] [0, 1, 3] rfl rfl rfl rfl rfl (by decide) rfl hl.1 rfl (Nat.le_of_ble_eq_true rfl) dX12_compare_107 ⟨Nat.le_of_ble_eq_true rfl, Nat.le_of_ble_eq_true rfl⟩ (fun v_140 u_141 H locs hv_142 hP₀ hD₀ hS₀ => ?_)
          obtain ⟨sv_143, sv_144⟩ := u_141
          obtain ⟨r_146, rfl, he_147, pf_145⟩ := hv_142
          have he_147 : ((r_146.toInt = 0 ∧ ¬ (sv_143 : Int32).toInt = 0 ∧ sv_7.toInt = 60 ∧ (sv_143 : Int32).toInt = 1 + 8 * sv_28.toInt + 3) ∨ (r_146.toInt = 1 ∧ (sv_144 : Int32).toInt = sv_7.toInt + 1 ∧ sv_7.toInt < 60 ∧ (sv_143 : Int32).toInt = 0)) := he_147
          have pf_145 : (sv_7 : Int32).toInt ≤ (sv_144 : Int32).toInt ∧ (sv_144 : Int32).toInt ≤ 60 := pf_145
          refine W.eq (g2 := F0 m 110 ls [.int r_146]) rfl ?_
          replace hP : va_P D classes [((Ma 2), .inl (tc 0, 2400, .inl sv_8)), ((Ma 3), .inl (tc 0, 7, .inl sv_9)), ((Ma 1), .inl (tc 2, 400, .inl (Mf 1))), ((Ma 0), .inr (12, [.ref (Ma 1), .int (Mv 0), .int (Mv 1), .ref (Ma 2), .ref (Ma 3), .ref (Ma 4), .ref (Ma 5), .ref (Ma 6), .int x_37, .int sv_143, .int sv_6, .int (Mv 5), .int sv_144, .int (Mv 7), .int (Mv 8), .ref (Ma 7), .int (Mv 9), .ref (Ma 8), .int (Mv 10), .ref (Ma 9), .ref (Ma 10), .int (Mv 11), .int (Mv 12), .int (Mv 13), .ref (Ma 11), .int (Mv 14), .ref (Ma 12), .ref (Ma 13), .ref (Ma 14), .ref (Ma 15), .ref (Ma 16), .long (Mj 0), .ref (Ma 17), .ref (Ma 18), .ref (Ma 19), .ref (Ma 20)]))] H := hP₀
          replace hD : va_D A [((Ma 2), .inl (tc 0, 2400, .inl sv_8)), ((Ma 3), .inl (tc 0, 7, .inl sv_9)), ((Ma 1), .inl (tc 2, 400, .inl (Mf 1))), ((Ma 0), .inr (12, [.ref (Ma 1), .int (Mv 0), .int (Mv 1), .ref (Ma 2), .ref (Ma 3), .ref (Ma 4), .ref (Ma 5), .ref (Ma 6), .int x_37, .int sv_143, .int sv_6, .int (Mv 5), .int sv_144, .int (Mv 7), .int (Mv 8), .ref (Ma 7), .int (Mv 9), .ref (Ma 8), .int (Mv 10), .ref (Ma 9), .ref (Ma 10), .int (Mv 11), .int (Mv 12), .int (Mv 13), .ref (Ma 11), .int (Mv 14), .ref (Ma 12), .ref (Ma 13), .ref (Ma 14), .ref (Ma 15), .ref (Ma 16), .long (Mj 0), .ref (Ma 17), .ref (Ma 18), .ref (Ma 19), .ref (Ma 20)]))] := hD₀
          replace hS := hS₀
          clear hP₀ hD₀ hS₀
          have hr_150 : (sv_7 : Int32).toInt ≤ (sv_144 : Int32).toInt ∧ (sv_144 : Int32).toInt ≤ 60 := by
            have z_1 : ¬ (r_13 : Int32).toInt = (0 : Int32).toInt := fun z => c_18 (Int32.toInt_inj.mp z)
            have z_2 := congrArg Int32.toInt c_36
            have z_3 : ¬ (r_33 : Int32).toInt = (61 : Int32).toInt := fun z => c_38 (Int32.toInt_inj.mp z)
            have z_4 := Int32.le_iff_toInt_le.mp c_135
            have y_0 : (0 : Int32).toInt = 0 := by decide
            have y_60 : (60 : Int32).toInt = 60 := by decide
            have y_61 : (61 : Int32).toInt = 61 := by decide
            have y_1 : (1 : Int32).toInt = 1 := by decide
            have t_x_37 : x_37.toInt = (sv_28 : Int32).toInt + (1 : Int32).toInt := by rw [ex_37]; exact add_toInt (by omega) (by omega)
            omega
          have pf_149 : Cd sv_8 sv_9 (Mv 5) b sv_144 (d + 1) := Cd.mono pf_19 hr_150
          have ar_pf_149 := Cd.ar pf_149
          refine lv_if_ne (tgt := 115) hx hb dX12_compare_110 (by decide) (fun c_151 => ?_) (fun c_151 => ?_)
          · skip
            refine lv_iload_n hx hb dX12_compare_115 rfl (lv_at hl 2 rfl) ?_
            refine lv_bipush (v := 60) hx hb dX12_compare_116 (by decide) ?_
            refine lv_icmp_ne (tgt := 133) hx hb dX12_compare_118 (by decide) (fun c_152 => ?_) (fun c_152 => ?_)
            · skip
              exfalso
              have z_1 : ¬ (r_13 : Int32).toInt = (0 : Int32).toInt := fun z => c_18 (Int32.toInt_inj.mp z)
              have z_2 := congrArg Int32.toInt c_36
              have z_3 : ¬ (r_33 : Int32).toInt = (61 : Int32).toInt := fun z => c_38 (Int32.toInt_inj.mp z)
              have z_4 := Int32.le_iff_toInt_le.mp c_135
              have z_5 : ¬ (r_146 : Int32).toInt = (0 : Int32).toInt := fun z => c_151 (Int32.toInt_inj.mp z)
              have z_6 : ¬ (r_33 : Int32).toInt = (60 : Int32).toInt := fun z => c_152 (Int32.toInt_inj.mp z)
              have y_0 : (0 : Int32).toInt = 0 := by decide
              have y_60 : (60 : Int32).toInt = 60 := by decide
              have y_61 : (61 : Int32).toInt = 61 := by decide
              have y_1 : (1 : Int32).toInt = 1 := by decide
              have t_x_37 : x_37.toInt = (sv_28 : Int32).toInt + (1 : Int32).toInt := by rw [ex_37]; exact add_toInt (by omega) (by omega)
              omega
            · skip
              refine lv_iload_n hx hb dX12_compare_121 rfl (lv_at hl 0 rfl) ?_
              refine lv_if_eq (tgt := 129) hx hb dX12_compare_122 (by decide) (fun c_153 => ?_) (fun c_153 => absurd c_153 (by decide))
              refine lv_iconst (v := 0) hx hb dX12_compare_129 (by decide) ?_
              refine lv_goto (tgt := 152) hx hb dX12_compare_130 (by decide) ?_
              refine lv_istore (lv' := [(4, .int 0), (3, .int 0), (2, .int sv_28), (1, .int r_33), (0, .ref (Ma 0))]) hx hb dX12_compare_152 hl (by decide) rfl (fun ls hl₀ => ?_)
              replace hl := hl₀
              clear hl₀
              refine lv_aload_n hx hb dX12_compare_154 rfl (lv_at hl 4 rfl) ?_
              have ha_154 : 0 ≤ (x_37 : Int32).toInt ∧ (x_37 : Int32).toInt ≤ ((Mv 0) : Int32).toInt ∧ ((Mv 0) : Int32).toInt ≤ 400 := by
                have z_1 : ¬ (r_13 : Int32).toInt = (0 : Int32).toInt := fun z => c_18 (Int32.toInt_inj.mp z)
                have z_2 := congrArg Int32.toInt c_36
                have z_3 : ¬ (r_33 : Int32).toInt = (61 : Int32).toInt := fun z => c_38 (Int32.toInt_inj.mp z)
                have z_4 := Int32.le_iff_toInt_le.mp c_135
                have z_5 : ¬ (r_146 : Int32).toInt = (0 : Int32).toInt := fun z => c_151 (Int32.toInt_inj.mp z)
                have z_6 := congrArg Int32.toInt c_152
                have y_0 : (0 : Int32).toInt = 0 := by decide
                have y_60 : (60 : Int32).toInt = 60 := by decide
                have y_61 : (61 : Int32).toInt = 61 := by decide
                have y_1 : (1 : Int32).toInt = 1 := by decide
                have t_x_37 : x_37.toInt = (sv_28 : Int32).toInt + (1 : Int32).toInt := by rw [ex_37]; exact add_toInt (by omega) (by omega)
                omega
              have ha_155 : (sv_9 (Mv 5).toNatClampNeg).toInt ≤ (x_37 : Int32).toInt := by
                have z_1 : ¬ (r_13 : Int32).toInt = (0 : Int32).toInt := fun z => c_18 (Int32.toInt_inj.mp z)
                have z_2 := congrArg Int32.toInt c_36
                have z_3 : ¬ (r_33 : Int32).toInt = (61 : Int32).toInt := fun z => c_38 (Int32.toInt_inj.mp z)
                have z_4 := Int32.le_iff_toInt_le.mp c_135
                have z_5 : ¬ (r_146 : Int32).toInt = (0 : Int32).toInt := fun z => c_151 (Int32.toInt_inj.mp z)
                have z_6 := congrArg Int32.toInt c_152
                have y_0 : (0 : Int32).toInt = 0 := by decide
                have y_60 : (60 : Int32).toInt = 60 := by decide
                have y_61 : (61 : Int32).toInt = 61 := by decide
                have y_1 : (1 : Int32).toInt = 1 := by decide
                have t_x_37 : x_37.toInt = (sv_28 : Int32).toInt + (1 : Int32).toInt := by rw [ex_37]; exact add_toInt (by omega) (by omega)
                omega
              have ha_156 : 0 ≤ (sv_144 : Int32).toInt ∧ (sv_144 : Int32).toInt ≤ 60 := by
                have z_1 : ¬ (r_13 : Int32).toInt = (0 : Int32).toInt := fun z => c_18 (Int32.toInt_inj.mp z)
                have z_2 := congrArg Int32.toInt c_36
                have z_3 : ¬ (r_33 : Int32).toInt = (61 : Int32).toInt := fun z => c_38 (Int32.toInt_inj.mp z)
                have z_4 := Int32.le_iff_toInt_le.mp c_135
                have z_5 : ¬ (r_146 : Int32).toInt = (0 : Int32).toInt := fun z => c_151 (Int32.toInt_inj.mp z)
                have z_6 := congrArg Int32.toInt c_152
                have y_0 : (0 : Int32).toInt = 0 := by decide
                have y_60 : (60 : Int32).toInt = 60 := by decide
                have y_61 : (61 : Int32).toInt = 61 := by decide
                have y_1 : (1 : Int32).toInt = 1 := by decide
                have t_x_37 : x_37.toInt = (sv_28 : Int32).toInt + (1 : Int32).toInt := by rw [ex_37]; exact add_toInt (by omega) (by omega)
                omega
              have ha_157 : (sv_143 : Int32).toInt = 0 := by
                have z_1 : ¬ (r_13 : Int32).toInt = (0 : Int32).toInt := fun z => c_18 (Int32.toInt_inj.mp z)
                have z_2 := congrArg Int32.toInt c_36
                have z_3 : ¬ (r_33 : Int32).toInt = (61 : Int32).toInt := fun z => c_38 (Int32.toInt_inj.mp z)
                have z_4 := Int32.le_iff_toInt_le.mp c_135
                have z_5 : ¬ (r_146 : Int32).toInt = (0 : Int32).toInt := fun z => c_151 (Int32.toInt_inj.mp z)
                have z_6 := congrArg Int32.toInt c_152
                have y_0 : (0 : Int32).toInt = 0 := by decide
                have y_60 : (60 : Int32).toInt = 60 := by decide
                have y_61 : (61 : Int32).toInt = 61 := by decide
                have y_1 : (1 : Int32).toInt = 1 := by decide
                have t_x_37 : x_37.toInt = (sv_28 : Int32).toInt + (1 : Int32).toInt := by rw [ex_37]; exact add_toInt (by omega) (by omega)
                omega
              refine cV (a := (Ma 0)) (As := []) (rest := []) (wr := []) ⟨hx, hb, hml, hown, hts⟩ hK hX hA (cu_kX12_sum l D tc sk (Ma 0) (Ma 1) (Ma 2) (Ma 3) (Ma 4) (Ma 5) (Ma 6) (Ma 7) (Ma 8) (Ma 9) (Ma 10) (Ma 11) (Ma 12) (Ma 13) (Ma 14) (Ma 15) (Ma 16) (Ma 17) (Ma 18) (Ma 19) (Ma 20) (Mv 0) (Mv 1) x_37 sv_143 sv_6 (Mv 5) sv_144 (Mv 7) (Mv 8) (Mv 9) (Mv 10) (Mv 11) (Mv 12) (Mv 13) (Mv 14) (Mf 1) sv_8 sv_9 (Mj 0) b (d + 1) lo_23 ha_154 pf_149 ha_155 ha_156 h_bs ha_157 pf_21) k_1279 k_1276 k_1278 k_42 k_106 pl_X12_sum ⟨Nat.le_of_ble_eq_true rfl, Nat.le_of_ble_eq_true rfl⟩ rfl rfl (va_recv hK hP (ci := 12) (q0 := 3) rfl rfl) hP hD hS [3, 2, 0, 1] [] rfl rfl rfl rfl rfl (by decide) rfl hl.1 rfl (Nat.le_of_ble_eq_true rfl) dX12_compare_155 ⟨Nat.le_of_ble_eq_true rfl, Nat.le_of_ble_eq_true rfl⟩ (fun v_158 u_159 H locs hv_160 hP₀ hD₀ hS₀ => ?_)
              obtain ⟨sv_161, sv_162, sv_163, sv_164, sv_165, sv_166⟩ := u_159
              obtain ⟨r_170, rfl, he_171, pf_167, pf_168, pf_169, hm_173, hm_174⟩ := hv_160
              have he_171 : ((r_170.toInt = 0 ∧ ¬ (sv_162 : Int32).toInt = 0) ∨ (r_170.toInt = 1 ∧ (sv_9 (Mv 5).toNatClampNeg).toInt + 1 ≤ (sv_166 (Mv 5).toNatClampNeg).toInt ∧ (sv_166 (Mv 5).toNatClampNeg).toInt + (x_37 : Int32).toInt ≤ (sv_9 (Mv 5).toNatClampNeg).toInt + (sv_161 : Int32).toInt ∧ (x_37 : Int32).toInt + 1 ≤ (sv_161 : Int32).toInt)) := he_171
              have pf_167 : (x_37 : Int32).toInt ≤ (sv_161 : Int32).toInt ∧ (sv_161 : Int32).toInt ≤ ((Mv 0) : Int32).toInt := pf_167
              have pf_168 : (sv_144 : Int32).toInt ≤ (sv_164 : Int32).toInt ∧ (sv_164 : Int32).toInt ≤ 60 := pf_168
              have pf_169 : Agr sv_8 sv_165 (400 * ((Mv 5) : Int32).toInt + (sv_9 (Mv 5).toNatClampNeg).toInt) := pf_169
              refine W.eq (g2 := F0 m 158 ls [.int r_170]) rfl ?_
              replace hP : va_P D classes [((Ma 0), .inr (12, [.ref (Ma 1), .int (Mv 0), .int (Mv 1), .ref (Ma 2), .ref (Ma 3), .ref (Ma 4), .ref (Ma 5), .ref (Ma 6), .int sv_161, .int sv_162, .int sv_163, .int (Mv 5), .int sv_164, .int (Mv 7), .int (Mv 8), .ref (Ma 7), .int (Mv 9), .ref (Ma 8), .int (Mv 10), .ref (Ma 9), .ref (Ma 10), .int (Mv 11), .int (Mv 12), .int (Mv 13), .ref (Ma 11), .int (Mv 14), .ref (Ma 12), .ref (Ma 13), .ref (Ma 14), .ref (Ma 15), .ref (Ma 16), .long (Mj 0), .ref (Ma 17), .ref (Ma 18), .ref (Ma 19), .ref (Ma 20)])), ((Ma 1), .inl (tc 2, 400, .inl (Mf 1))), ((Ma 2), .inl (tc 0, 2400, .inl sv_165)), ((Ma 3), .inl (tc 0, 7, .inl sv_166))] H := hP₀
              replace hD : va_D A [((Ma 0), .inr (12, [.ref (Ma 1), .int (Mv 0), .int (Mv 1), .ref (Ma 2), .ref (Ma 3), .ref (Ma 4), .ref (Ma 5), .ref (Ma 6), .int sv_161, .int sv_162, .int sv_163, .int (Mv 5), .int sv_164, .int (Mv 7), .int (Mv 8), .ref (Ma 7), .int (Mv 9), .ref (Ma 8), .int (Mv 10), .ref (Ma 9), .ref (Ma 10), .int (Mv 11), .int (Mv 12), .int (Mv 13), .ref (Ma 11), .int (Mv 14), .ref (Ma 12), .ref (Ma 13), .ref (Ma 14), .ref (Ma 15), .ref (Ma 16), .long (Mj 0), .ref (Ma 17), .ref (Ma 18), .ref (Ma 19), .ref (Ma 20)])), ((Ma 1), .inl (tc 2, 400, .inl (Mf 1))), ((Ma 2), .inl (tc 0, 2400, .inl sv_165)), ((Ma 3), .inl (tc 0, 7, .inl sv_166))] := hD₀
              replace hS := hS₀
              clear hP₀ hD₀ hS₀
              refine lv_if_ne (tgt := 163) hx hb dX12_compare_158 (by decide) (fun c_175 => ?_) (fun c_175 => ?_)
              · skip
                have hz_179 : (r_170 : Int32).toInt = 1 := by
                  have z_1 : ¬ (r_13 : Int32).toInt = (0 : Int32).toInt := fun z => c_18 (Int32.toInt_inj.mp z)
                  have z_2 := congrArg Int32.toInt c_36
                  have z_3 : ¬ (r_33 : Int32).toInt = (61 : Int32).toInt := fun z => c_38 (Int32.toInt_inj.mp z)
                  have z_4 := Int32.le_iff_toInt_le.mp c_135
                  have z_5 : ¬ (r_146 : Int32).toInt = (0 : Int32).toInt := fun z => c_151 (Int32.toInt_inj.mp z)
                  have z_6 := congrArg Int32.toInt c_152
                  have z_7 : ¬ (r_170 : Int32).toInt = (0 : Int32).toInt := fun z => c_175 (Int32.toInt_inj.mp z)
                  have y_0 : (0 : Int32).toInt = 0 := by decide
                  have y_60 : (60 : Int32).toInt = 60 := by decide
                  have y_61 : (61 : Int32).toInt = 61 := by decide
                  have y_1 : (1 : Int32).toInt = 1 := by decide
                  have t_x_37 : x_37.toInt = (sv_28 : Int32).toInt + (1 : Int32).toInt := by rw [ex_37]; exact add_toInt (by omega) (by omega)
                  omega
                obtain ⟨pf_176, pf_177, pf_178⟩ := hm_173 hz_179
                have pf_176 : Cd sv_165 sv_166 (Mv 5) b sv_164 ((d + 1) + 1) := pf_176
                have ar_pf_176 := Cd.ar pf_176
                have pf_177 : RfO (pz_sum (rB (Mf 1) (Mv 0)) (St0 (rB (Mf 1) (Mv 0)) x_37 sv_144)) (rB (Mf 1) (Mv 0)) sv_162 sv_161 sv_164 := pf_177
                have ar_pf_177 := RfO.wr pf_177
                have pf_178 : SgC sv_165 sv_166 (Mv 5) (lo_23 ++ lsum (rB (Mf 1) (Mv 0)) (St0 (rB (Mf 1) (Mv 0)) x_37 sv_144)) := pf_178
                obtain ⟨lo_180, elo_180⟩ : ∃ z : List Int, z = (lo_23 ++ lsum (rB (Mf 1) (Mv 0)) (St0 (rB (Mf 1) (Mv 0)) x_37 sv_144)) := ⟨_, rfl⟩
                rw [← elo_180] at pf_178
                refine lv_aload_n hx hb dX12_compare_163 rfl (lv_at hl 4 rfl) ?_
                refine lv_bipush (v := 6) hx hb dX12_compare_164 (by decide) ?_
                refine lv_iload hx hb dX12_compare_166 (lv_at hl 0 rfl) ?_
                refine lv_iadd hx hb dX12_compare_168 ?_
                refine lv_lit (v := 6) (by decide) ?_
                refine lv_iconst (v := 0) hx hb dX12_compare_169 (by decide) ?_
                have ha_181 : ((d + 1) : Int) ≤ sv_164.toInt := by
                  have z_1 : ¬ (r_13 : Int32).toInt = (0 : Int32).toInt := fun z => c_18 (Int32.toInt_inj.mp z)
                  have z_2 := congrArg Int32.toInt c_36
                  have z_3 : ¬ (r_33 : Int32).toInt = (61 : Int32).toInt := fun z => c_38 (Int32.toInt_inj.mp z)
                  have z_4 := Int32.le_iff_toInt_le.mp c_135
                  have z_5 : ¬ (r_146 : Int32).toInt = (0 : Int32).toInt := fun z => c_151 (Int32.toInt_inj.mp z)
                  have z_6 := congrArg Int32.toInt c_152
                  have z_7 : ¬ (r_170 : Int32).toInt = (0 : Int32).toInt := fun z => c_175 (Int32.toInt_inj.mp z)
                  have y_0 : (0 : Int32).toInt = 0 := by decide
                  have y_60 : (60 : Int32).toInt = 60 := by decide
                  have y_61 : (61 : Int32).toInt = 61 := by decide
                  have y_1 : (1 : Int32).toInt = 1 := by decide
                  have t_x_37 : x_37.toInt = (sv_28 : Int32).toInt + (1 : Int32).toInt := by rw [ex_37]; exact add_toInt (by omega) (by omega)
                  omega
                have ha_182 : (sv_166 (Mv 5).toNatClampNeg).toInt < 400 := by
                  have z_1 : ¬ (r_13 : Int32).toInt = (0 : Int32).toInt := fun z => c_18 (Int32.toInt_inj.mp z)
                  have z_2 := congrArg Int32.toInt c_36
                  have z_3 : ¬ (r_33 : Int32).toInt = (61 : Int32).toInt := fun z => c_38 (Int32.toInt_inj.mp z)
                  have z_4 := Int32.le_iff_toInt_le.mp c_135
                  have z_5 : ¬ (r_146 : Int32).toInt = (0 : Int32).toInt := fun z => c_151 (Int32.toInt_inj.mp z)
                  have z_6 := congrArg Int32.toInt c_152
                  have z_7 : ¬ (r_170 : Int32).toInt = (0 : Int32).toInt := fun z => c_175 (Int32.toInt_inj.mp z)
                  have y_0 : (0 : Int32).toInt = 0 := by decide
                  have y_60 : (60 : Int32).toInt = 60 := by decide
                  have y_61 : (61 : Int32).toInt = 61 := by decide
                  have y_1 : (1 : Int32).toInt = 1 := by decide
                  have t_x_37 : x_37.toInt = (sv_28 : Int32).toInt + (1 : Int32).toInt := by rw [ex_37]; exact add_toInt (by omega) (by omega)
                  omega
                have ha_183 : 0 ≤ (6 : Int32).toInt ∧ (6 : Int32).toInt ≤ 15 := by
                  have z_1 : ¬ (r_13 : Int32).toInt = (0 : Int32).toInt := fun z => c_18 (Int32.toInt_inj.mp z)
                  have z_2 := congrArg Int32.toInt c_36
                  have z_3 : ¬ (r_33 : Int32).toInt = (61 : Int32).toInt := fun z => c_38 (Int32.toInt_inj.mp z)
                  have z_4 := Int32.le_iff_toInt_le.mp c_135
                  have z_5 : ¬ (r_146 : Int32).toInt = (0 : Int32).toInt := fun z => c_151 (Int32.toInt_inj.mp z)
                  have z_6 := congrArg Int32.toInt c_152
                  have z_7 : ¬ (r_170 : Int32).toInt = (0 : Int32).toInt := fun z => c_175 (Int32.toInt_inj.mp z)
                  have y_0 : (0 : Int32).toInt = 0 := by decide
                  have y_60 : (60 : Int32).toInt = 60 := by decide
                  have y_61 : (61 : Int32).toInt = 61 := by decide
                  have y_1 : (1 : Int32).toInt = 1 := by decide
                  have y_6 : (6 : Int32).toInt = 6 := by decide
                  have t_x_37 : x_37.toInt = (sv_28 : Int32).toInt + (1 : Int32).toInt := by rw [ex_37]; exact add_toInt (by omega) (by omega)
                  omega
                have ha_184 : 0 ≤ (0 : Int32).toInt ∧ (0 : Int32).toInt ≤ 100000 := by
                  have z_1 : ¬ (r_13 : Int32).toInt = (0 : Int32).toInt := fun z => c_18 (Int32.toInt_inj.mp z)
                  have z_2 := congrArg Int32.toInt c_36
                  have z_3 : ¬ (r_33 : Int32).toInt = (61 : Int32).toInt := fun z => c_38 (Int32.toInt_inj.mp z)
                  have z_4 := Int32.le_iff_toInt_le.mp c_135
                  have z_5 : ¬ (r_146 : Int32).toInt = (0 : Int32).toInt := fun z => c_151 (Int32.toInt_inj.mp z)
                  have z_6 := congrArg Int32.toInt c_152
                  have z_7 : ¬ (r_170 : Int32).toInt = (0 : Int32).toInt := fun z => c_175 (Int32.toInt_inj.mp z)
                  have y_0 : (0 : Int32).toInt = 0 := by decide
                  have y_60 : (60 : Int32).toInt = 60 := by decide
                  have y_61 : (61 : Int32).toInt = 61 := by decide
                  have y_1 : (1 : Int32).toInt = 1 := by decide
                  have t_x_37 : x_37.toInt = (sv_28 : Int32).toInt + (1 : Int32).toInt := by rw [ex_37]; exact add_toInt (by omega) (by omega)
                  omega
                have ha_185 : 0 ≤ (Mv 5).toInt := by
                  have z_1 : ¬ (r_13 : Int32).toInt = (0 : Int32).toInt := fun z => c_18 (Int32.toInt_inj.mp z)
                  have z_2 := congrArg Int32.toInt c_36
                  have z_3 : ¬ (r_33 : Int32).toInt = (61 : Int32).toInt := fun z => c_38 (Int32.toInt_inj.mp z)
                  have z_4 := Int32.le_iff_toInt_le.mp c_135
                  have z_5 : ¬ (r_146 : Int32).toInt = (0 : Int32).toInt := fun z => c_151 (Int32.toInt_inj.mp z)
                  have z_6 := congrArg Int32.toInt c_152
                  have z_7 : ¬ (r_170 : Int32).toInt = (0 : Int32).toInt := fun z => c_175 (Int32.toInt_inj.mp z)
                  have y_0 : (0 : Int32).toInt = 0 := by decide
                  have y_60 : (60 : Int32).toInt = 60 := by decide
                  have y_61 : (61 : Int32).toInt = 61 := by decide
                  have y_1 : (1 : Int32).toInt = 1 := by decide
                  have t_x_37 : x_37.toInt = (sv_28 : Int32).toInt + (1 : Int32).toInt := by rw [ex_37]; exact add_toInt (by omega) (by omega)
                  omega
                refine cV (a := (Ma 0)) (As := [.int 6, .int 0]) (rest := []) (wr := [((Ma 1), .inl (tc 2, 400, .inl (Mf 1)))]) ⟨hx, hb, hml, hown, hts⟩ hK hX hA (cu_kX12_puts l D tc sk (Ma 0) (Ma 1) (Ma 2) (Ma 3) (Ma 4) (Ma 5) (Ma 6) (Ma 7) (Ma 8) (Ma 9) (Ma 10) (Ma 11) (Ma 12) (Ma 13) (Ma 14) (Ma 15) (Ma 16) (Ma 17) (Ma 18) (Ma 19) (Ma 20) (Mv 0) (Mv 1) sv_161 sv_162 sv_163 (Mv 5) sv_164 (Mv 7) (Mv 8) (Mv 9) (Mv 10) (Mv 11) (Mv 12) (Mv 13) (Mv 14) sv_165 sv_166 (Mj 0) 6 0 b sv_164 ((d + 1) + 1) (d + 1) lo_180 (-7) pf_176 (StpR.op (by decide) rfl (by omega)) ha_181 ha_182 pf_178 (by decide) ha_183 ha_184 ha_185) k_1296 k_1293 k_1295 k_46 k_106 pl_X12_puts ⟨Nat.le_of_ble_eq_true rfl, Nat.le_of_ble_eq_true rfl⟩ rfl rfl (va_recv hK hP (ci := 12) (q0 := 0) rfl rfl) hP hD hS [0, 2, 3] [1] rfl rfl rfl rfl rfl (by decide) rfl hl.1 rfl (Nat.le_of_ble_eq_true rfl) dX12_compare_170 ⟨Nat.le_of_ble_eq_true rfl, Nat.le_of_ble_eq_true rfl⟩ (fun v_186 u_187 H locs hv_188 hP₀ hD₀ hS₀ => ?_)
                obtain ⟨sv_189, sv_190⟩ := u_187
                obtain ⟨rfl, pf_191, pf_192, pf_193, pf_194⟩ := hv_188
                have pf_191 : Cd sv_189 sv_190 (Mv 5) b sv_164 (d + 1) := pf_191
                have ar_pf_191 := Cd.ar pf_191
                have pf_192 : Agr sv_165 sv_189 (400 * ((Mv 5) : Int32).toInt + (sv_166 (Mv 5).toNatClampNeg).toInt) := pf_192
                have pf_193 : (sv_190 (Mv 5).toNatClampNeg).toInt = (sv_166 (Mv 5).toNatClampNeg).toInt + 1 := pf_193
                have pf_194 : SgC sv_189 sv_190 (Mv 5) (lo_180 ++ [((-7) : Int)]) := pf_194
                obtain ⟨lo_195, elo_195⟩ : ∃ z : List Int, z = (lo_180 ++ [(-7)]) := ⟨_, rfl⟩
                rw [← elo_195] at pf_194
                refine W.eq (g2 := F0 m 173 ls []) rfl ?_
                replace hP : va_P D classes [((Ma 1), .inl (tc 2, 400, .inl (Mf 1))), ((Ma 0), .inr (12, [.ref (Ma 1), .int (Mv 0), .int (Mv 1), .ref (Ma 2), .ref (Ma 3), .ref (Ma 4), .ref (Ma 5), .ref (Ma 6), .int sv_161, .int sv_162, .int sv_163, .int (Mv 5), .int sv_164, .int (Mv 7), .int (Mv 8), .ref (Ma 7), .int (Mv 9), .ref (Ma 8), .int (Mv 10), .ref (Ma 9), .ref (Ma 10), .int (Mv 11), .int (Mv 12), .int (Mv 13), .ref (Ma 11), .int (Mv 14), .ref (Ma 12), .ref (Ma 13), .ref (Ma 14), .ref (Ma 15), .ref (Ma 16), .long (Mj 0), .ref (Ma 17), .ref (Ma 18), .ref (Ma 19), .ref (Ma 20)])), ((Ma 2), .inl (tc 0, 2400, .inl sv_189)), ((Ma 3), .inl (tc 0, 7, .inl sv_190))] H := hP₀
                replace hD : va_D A [((Ma 1), .inl (tc 2, 400, .inl (Mf 1))), ((Ma 0), .inr (12, [.ref (Ma 1), .int (Mv 0), .int (Mv 1), .ref (Ma 2), .ref (Ma 3), .ref (Ma 4), .ref (Ma 5), .ref (Ma 6), .int sv_161, .int sv_162, .int sv_163, .int (Mv 5), .int sv_164, .int (Mv 7), .int (Mv 8), .ref (Ma 7), .int (Mv 9), .ref (Ma 8), .int (Mv 10), .ref (Ma 9), .ref (Ma 10), .int (Mv 11), .int (Mv 12), .int (Mv 13), .ref (Ma 11), .int (Mv 14), .ref (Ma 12), .ref (Ma 13), .ref (Ma 14), .ref (Ma 15), .ref (Ma 16), .long (Mj 0), .ref (Ma 17), .ref (Ma 18), .ref (Ma 19), .ref (Ma 20)])), ((Ma 2), .inl (tc 0, 2400, .inl sv_189)), ((Ma 3), .inl (tc 0, 7, .inl sv_190))] := hD₀
                replace hS := hS₀
                clear hP₀ hD₀ hS₀
                refine lv_iconst (v := 1) hx hb dX12_compare_173 (by decide) ?_
                have ha_196 : ((Mv 2) : Int32).toInt ≤ (sv_161 : Int32).toInt ∧ (sv_161 : Int32).toInt ≤ ((Mv 0) : Int32).toInt := by
                  have z_1 : ¬ (r_13 : Int32).toInt = (0 : Int32).toInt := fun z => c_18 (Int32.toInt_inj.mp z)
                  have z_2 := congrArg Int32.toInt c_36
                  have z_3 : ¬ (r_33 : Int32).toInt = (61 : Int32).toInt := fun z => c_38 (Int32.toInt_inj.mp z)
                  have z_4 := Int32.le_iff_toInt_le.mp c_135
                  have z_5 : ¬ (r_146 : Int32).toInt = (0 : Int32).toInt := fun z => c_151 (Int32.toInt_inj.mp z)
                  have z_6 := congrArg Int32.toInt c_152
                  have z_7 : ¬ (r_170 : Int32).toInt = (0 : Int32).toInt := fun z => c_175 (Int32.toInt_inj.mp z)
                  have y_0 : (0 : Int32).toInt = 0 := by decide
                  have y_60 : (60 : Int32).toInt = 60 := by decide
                  have y_61 : (61 : Int32).toInt = 61 := by decide
                  have y_1 : (1 : Int32).toInt = 1 := by decide
                  have t_x_37 : x_37.toInt = (sv_28 : Int32).toInt + (1 : Int32).toInt := by rw [ex_37]; exact add_toInt (by omega) (by omega)
                  omega
                have ha_197 : ((Mv 6) : Int32).toInt ≤ (sv_164 : Int32).toInt ∧ (sv_164 : Int32).toInt ≤ 60 := by
                  have z_1 : ¬ (r_13 : Int32).toInt = (0 : Int32).toInt := fun z => c_18 (Int32.toInt_inj.mp z)
                  have z_2 := congrArg Int32.toInt c_36
                  have z_3 : ¬ (r_33 : Int32).toInt = (61 : Int32).toInt := fun z => c_38 (Int32.toInt_inj.mp z)
                  have z_4 := Int32.le_iff_toInt_le.mp c_135
                  have z_5 : ¬ (r_146 : Int32).toInt = (0 : Int32).toInt := fun z => c_151 (Int32.toInt_inj.mp z)
                  have z_6 := congrArg Int32.toInt c_152
                  have z_7 : ¬ (r_170 : Int32).toInt = (0 : Int32).toInt := fun z => c_175 (Int32.toInt_inj.mp z)
                  have y_0 : (0 : Int32).toInt = 0 := by decide
                  have y_60 : (60 : Int32).toInt = 60 := by decide
                  have y_61 : (61 : Int32).toInt = 61 := by decide
                  have y_1 : (1 : Int32).toInt = 1 := by decide
                  have t_x_37 : x_37.toInt = (sv_28 : Int32).toInt + (1 : Int32).toInt := by rw [ex_37]; exact add_toInt (by omega) (by omega)
                  omega
                have hr_198 : (400 * ((Mv 5) : Int32).toInt + ((Mf 3) (Mv 5).toNatClampNeg).toInt) ≤ (400 * ((Mv 5) : Int32).toInt + ((Mf 3) (Mv 5).toNatClampNeg).toInt) := by
                  have z_1 : ¬ (r_13 : Int32).toInt = (0 : Int32).toInt := fun z => c_18 (Int32.toInt_inj.mp z)
                  have z_2 := congrArg Int32.toInt c_36
                  have z_3 : ¬ (r_33 : Int32).toInt = (61 : Int32).toInt := fun z => c_38 (Int32.toInt_inj.mp z)
                  have z_4 := Int32.le_iff_toInt_le.mp c_135
                  have z_5 : ¬ (r_146 : Int32).toInt = (0 : Int32).toInt := fun z => c_151 (Int32.toInt_inj.mp z)
                  have z_6 := congrArg Int32.toInt c_152
                  have z_7 : ¬ (r_170 : Int32).toInt = (0 : Int32).toInt := fun z => c_175 (Int32.toInt_inj.mp z)
                  have y_0 : (0 : Int32).toInt = 0 := by decide
                  have y_60 : (60 : Int32).toInt = 60 := by decide
                  have y_61 : (61 : Int32).toInt = 61 := by decide
                  have y_1 : (1 : Int32).toInt = 1 := by decide
                  have t_x_37 : x_37.toInt = (sv_28 : Int32).toInt + (1 : Int32).toInt := by rw [ex_37]; exact add_toInt (by omega) (by omega)
                  omega
                have hr_199 : (400 * ((Mv 5) : Int32).toInt + ((Mf 3) (Mv 5).toNatClampNeg).toInt) ≤ (400 * ((Mv 5) : Int32).toInt + (sv_9 (Mv 5).toNatClampNeg).toInt) := by
                  have z_1 : ¬ (r_13 : Int32).toInt = (0 : Int32).toInt := fun z => c_18 (Int32.toInt_inj.mp z)
                  have z_2 := congrArg Int32.toInt c_36
                  have z_3 : ¬ (r_33 : Int32).toInt = (61 : Int32).toInt := fun z => c_38 (Int32.toInt_inj.mp z)
                  have z_4 := Int32.le_iff_toInt_le.mp c_135
                  have z_5 : ¬ (r_146 : Int32).toInt = (0 : Int32).toInt := fun z => c_151 (Int32.toInt_inj.mp z)
                  have z_6 := congrArg Int32.toInt c_152
                  have z_7 : ¬ (r_170 : Int32).toInt = (0 : Int32).toInt := fun z => c_175 (Int32.toInt_inj.mp z)
                  have y_0 : (0 : Int32).toInt = 0 := by decide
                  have y_60 : (60 : Int32).toInt = 60 := by decide
                  have y_61 : (61 : Int32).toInt = 61 := by decide
                  have y_1 : (1 : Int32).toInt = 1 := by decide
                  have t_x_37 : x_37.toInt = (sv_28 : Int32).toInt + (1 : Int32).toInt := by rw [ex_37]; exact add_toInt (by omega) (by omega)
                  omega
                have hr_200 : (400 * ((Mv 5) : Int32).toInt + ((Mf 3) (Mv 5).toNatClampNeg).toInt) ≤ (400 * ((Mv 5) : Int32).toInt + (sv_166 (Mv 5).toNatClampNeg).toInt) := by
                  have z_1 : ¬ (r_13 : Int32).toInt = (0 : Int32).toInt := fun z => c_18 (Int32.toInt_inj.mp z)
                  have z_2 := congrArg Int32.toInt c_36
                  have z_3 : ¬ (r_33 : Int32).toInt = (61 : Int32).toInt := fun z => c_38 (Int32.toInt_inj.mp z)
                  have z_4 := Int32.le_iff_toInt_le.mp c_135
                  have z_5 : ¬ (r_146 : Int32).toInt = (0 : Int32).toInt := fun z => c_151 (Int32.toInt_inj.mp z)
                  have z_6 := congrArg Int32.toInt c_152
                  have z_7 : ¬ (r_170 : Int32).toInt = (0 : Int32).toInt := fun z => c_175 (Int32.toInt_inj.mp z)
                  have y_0 : (0 : Int32).toInt = 0 := by decide
                  have y_60 : (60 : Int32).toInt = 60 := by decide
                  have y_61 : (61 : Int32).toInt = 61 := by decide
                  have y_1 : (1 : Int32).toInt = 1 := by decide
                  have t_x_37 : x_37.toInt = (sv_28 : Int32).toInt + (1 : Int32).toInt := by rw [ex_37]; exact add_toInt (by omega) (by omega)
                  omega
                have hp_201 : (((1 : Int32).toInt = 0 ∧ ¬ (sv_162 : Int32).toInt = 0) ∨ ((1 : Int32).toInt = 1 ∧ ((Mf 3) (Mv 5).toNatClampNeg).toInt + 1 ≤ (sv_190 (Mv 5).toNatClampNeg).toInt ∧ (sv_190 (Mv 5).toNatClampNeg).toInt + ((Mv 2) : Int32).toInt ≤ ((Mf 3) (Mv 5).toNatClampNeg).toInt + (sv_161 : Int32).toInt ∧ ((Mv 2) : Int32).toInt + 1 ≤ (sv_161 : Int32).toInt)) := by
                  have z_1 : ¬ (r_13 : Int32).toInt = (0 : Int32).toInt := fun z => c_18 (Int32.toInt_inj.mp z)
                  have z_2 := congrArg Int32.toInt c_36
                  have z_3 : ¬ (r_33 : Int32).toInt = (61 : Int32).toInt := fun z => c_38 (Int32.toInt_inj.mp z)
                  have z_4 := Int32.le_iff_toInt_le.mp c_135
                  have z_5 : ¬ (r_146 : Int32).toInt = (0 : Int32).toInt := fun z => c_151 (Int32.toInt_inj.mp z)
                  have z_6 := congrArg Int32.toInt c_152
                  have z_7 : ¬ (r_170 : Int32).toInt = (0 : Int32).toInt := fun z => c_175 (Int32.toInt_inj.mp z)
                  have y_0 : (0 : Int32).toInt = 0 := by decide
                  have y_60 : (60 : Int32).toInt = 60 := by decide
                  have y_61 : (61 : Int32).toInt = 61 := by decide
                  have y_1 : (1 : Int32).toInt = 1 := by decide
                  have t_x_37 : x_37.toInt = (sv_28 : Int32).toInt + (1 : Int32).toInt := by rw [ex_37]; exact add_toInt (by omega) (by omega)
                  have yr : (1 : Int32).toInt = 1 := by decide
                  omega
                have hm_202 : (1 : Int32).toInt = 1 → (Cd sv_189 sv_190 (Mv 5) b sv_164 (d + 1)) ∧ (RfO (pz_com (rB (Mf 1) (Mv 0)) (St0 (rB (Mf 1) (Mv 0)) (Mv 2) (Mv 6))) (rB (Mf 1) (Mv 0)) sv_162 sv_161 sv_164) ∧ (SgC sv_189 sv_190 (Mv 5) (ll ++ ec_com (rB (Mf 1) (Mv 0)) (St0 (rB (Mf 1) (Mv 0)) (Mv 2) (Mv 6)))) := by
                  intro h1r
                  have hr_203 : (rB (Mf 1) (Mv 0) (sv_28 : Int32).toInt.toNat = 60 ∨ rB (Mf 1) (Mv 0) (sv_28 : Int32).toInt.toNat = 61 ∨ rB (Mf 1) (Mv 0) (sv_28 : Int32).toInt.toNat = 62) := by
                    have z_1 : ¬ (r_13 : Int32).toInt = (0 : Int32).toInt := fun z => c_18 (Int32.toInt_inj.mp z)
                    have z_2 := congrArg Int32.toInt c_36
                    have z_3 : ¬ (r_33 : Int32).toInt = (61 : Int32).toInt := fun z => c_38 (Int32.toInt_inj.mp z)
                    have z_4 := Int32.le_iff_toInt_le.mp c_135
                    have z_5 : ¬ (r_146 : Int32).toInt = (0 : Int32).toInt := fun z => c_151 (Int32.toInt_inj.mp z)
                    have z_6 := congrArg Int32.toInt c_152
                    have z_7 : ¬ (r_170 : Int32).toInt = (0 : Int32).toInt := fun z => c_175 (Int32.toInt_inj.mp z)
                    have y_0 : (0 : Int32).toInt = 0 := by decide
                    have y_60 : (60 : Int32).toInt = 60 := by decide
                    have y_61 : (61 : Int32).toInt = 61 := by decide
                    have y_1 : (1 : Int32).toInt = 1 := by decide
                    have t_x_37 : x_37.toInt = (sv_28 : Int32).toInt + (1 : Int32).toInt := by rw [ex_37]; exact add_toInt (by omega) (by omega)
                    omega
                  have rg_204 := rB_rg (n := (Mv 0)) h_bs ((sv_28 : Int32).toInt.toNat + 1)
                  have hr_205 : ((x_37 : Int32).toInt = (sv_28 : Int32).toInt + 1 ∧ ¬ ((rB (Mf 1) (Mv 0) (sv_28 : Int32).toInt.toNat = 60 ∨ rB (Mf 1) (Mv 0) (sv_28 : Int32).toInt.toNat = 62) ∧ rB (Mf 1) (Mv 0) ((sv_28 : Int32).toInt.toNat + 1) = 61)) ∨ ((x_37 : Int32).toInt = (sv_28 : Int32).toInt + 2 ∧ (rB (Mf 1) (Mv 0) (sv_28 : Int32).toInt.toNat = 60 ∨ rB (Mf 1) (Mv 0) (sv_28 : Int32).toInt.toNat = 62) ∧ rB (Mf 1) (Mv 0) ((sv_28 : Int32).toInt.toNat + 1) = 61) := by
                    have z_1 : ¬ (r_13 : Int32).toInt = (0 : Int32).toInt := fun z => c_18 (Int32.toInt_inj.mp z)
                    have z_2 := congrArg Int32.toInt c_36
                    have z_3 : ¬ (r_33 : Int32).toInt = (61 : Int32).toInt := fun z => c_38 (Int32.toInt_inj.mp z)
                    have z_4 := Int32.le_iff_toInt_le.mp c_135
                    have z_5 : ¬ (r_146 : Int32).toInt = (0 : Int32).toInt := fun z => c_151 (Int32.toInt_inj.mp z)
                    have z_6 := congrArg Int32.toInt c_152
                    have z_7 : ¬ (r_170 : Int32).toInt = (0 : Int32).toInt := fun z => c_175 (Int32.toInt_inj.mp z)
                    have y_0 : (0 : Int32).toInt = 0 := by decide
                    have y_60 : (60 : Int32).toInt = 60 := by decide
                    have y_61 : (61 : Int32).toInt = 61 := by decide
                    have y_1 : (1 : Int32).toInt = 1 := by decide
                    have t_x_37 : x_37.toInt = (sv_28 : Int32).toInt + (1 : Int32).toInt := by rw [ex_37]; exact add_toInt (by omega) (by omega)
                    omega
                  have hr_206 : 0 ≤ (sv_7 : Int32).toInt ∧ (sv_7 : Int32).toInt < 60 ∧ (sv_144 : Int32).toInt = (sv_7 : Int32).toInt + 1 := by
                    have z_1 : ¬ (r_13 : Int32).toInt = (0 : Int32).toInt := fun z => c_18 (Int32.toInt_inj.mp z)
                    have z_2 := congrArg Int32.toInt c_36
                    have z_3 : ¬ (r_33 : Int32).toInt = (61 : Int32).toInt := fun z => c_38 (Int32.toInt_inj.mp z)
                    have z_4 := Int32.le_iff_toInt_le.mp c_135
                    have z_5 : ¬ (r_146 : Int32).toInt = (0 : Int32).toInt := fun z => c_151 (Int32.toInt_inj.mp z)
                    have z_6 := congrArg Int32.toInt c_152
                    have z_7 : ¬ (r_170 : Int32).toInt = (0 : Int32).toInt := fun z => c_175 (Int32.toInt_inj.mp z)
                    have y_0 : (0 : Int32).toInt = 0 := by decide
                    have y_60 : (60 : Int32).toInt = 60 := by decide
                    have y_61 : (61 : Int32).toInt = 61 := by decide
                    have y_1 : (1 : Int32).toInt = 1 := by decide
                    have t_x_37 : x_37.toInt = (sv_28 : Int32).toInt + (1 : Int32).toInt := by rw [ex_37]; exact add_toInt (by omega) (by omega)
                    omega
                  have hr_207 : (rB (Mf 1) (Mv 0) (sv_28 : Int32).toInt.toNat = 60 ∨ rB (Mf 1) (Mv 0) (sv_28 : Int32).toInt.toNat = 61 ∨ rB (Mf 1) (Mv 0) (sv_28 : Int32).toInt.toNat = 62) := by
                    have z_1 : ¬ (r_13 : Int32).toInt = (0 : Int32).toInt := fun z => c_18 (Int32.toInt_inj.mp z)
                    have z_2 := congrArg Int32.toInt c_36
                    have z_3 : ¬ (r_33 : Int32).toInt = (61 : Int32).toInt := fun z => c_38 (Int32.toInt_inj.mp z)
                    have z_4 := Int32.le_iff_toInt_le.mp c_135
                    have z_5 : ¬ (r_146 : Int32).toInt = (0 : Int32).toInt := fun z => c_151 (Int32.toInt_inj.mp z)
                    have z_6 := congrArg Int32.toInt c_152
                    have z_7 : ¬ (r_170 : Int32).toInt = (0 : Int32).toInt := fun z => c_175 (Int32.toInt_inj.mp z)
                    have y_0 : (0 : Int32).toInt = 0 := by decide
                    have y_60 : (60 : Int32).toInt = 60 := by decide
                    have y_61 : (61 : Int32).toInt = 61 := by decide
                    have y_1 : (1 : Int32).toInt = 1 := by decide
                    have t_x_37 : x_37.toInt = (sv_28 : Int32).toInt + (1 : Int32).toInt := by rw [ex_37]; exact add_toInt (by omega) (by omega)
                    omega
                  have rg_208 := rB_rg (n := (Mv 0)) h_bs ((sv_28 : Int32).toInt.toNat + 1)
                  have hr_209 : ((x_37 : Int32).toInt = (sv_28 : Int32).toInt + 1 ∧ ¬ ((rB (Mf 1) (Mv 0) (sv_28 : Int32).toInt.toNat = 60 ∨ rB (Mf 1) (Mv 0) (sv_28 : Int32).toInt.toNat = 62) ∧ rB (Mf 1) (Mv 0) ((sv_28 : Int32).toInt.toNat + 1) = 61)) ∨ ((x_37 : Int32).toInt = (sv_28 : Int32).toInt + 2 ∧ (rB (Mf 1) (Mv 0) (sv_28 : Int32).toInt.toNat = 60 ∨ rB (Mf 1) (Mv 0) (sv_28 : Int32).toInt.toNat = 62) ∧ rB (Mf 1) (Mv 0) ((sv_28 : Int32).toInt.toNat + 1) = 61) := by
                    have z_1 : ¬ (r_13 : Int32).toInt = (0 : Int32).toInt := fun z => c_18 (Int32.toInt_inj.mp z)
                    have z_2 := congrArg Int32.toInt c_36
                    have z_3 : ¬ (r_33 : Int32).toInt = (61 : Int32).toInt := fun z => c_38 (Int32.toInt_inj.mp z)
                    have z_4 := Int32.le_iff_toInt_le.mp c_135
                    have z_5 : ¬ (r_146 : Int32).toInt = (0 : Int32).toInt := fun z => c_151 (Int32.toInt_inj.mp z)
                    have z_6 := congrArg Int32.toInt c_152
                    have z_7 : ¬ (r_170 : Int32).toInt = (0 : Int32).toInt := fun z => c_175 (Int32.toInt_inj.mp z)
                    have y_0 : (0 : Int32).toInt = 0 := by decide
                    have y_60 : (60 : Int32).toInt = 60 := by decide
                    have y_61 : (61 : Int32).toInt = 61 := by decide
                    have y_1 : (1 : Int32).toInt = 1 := by decide
                    have t_x_37 : x_37.toInt = (sv_28 : Int32).toInt + (1 : Int32).toInt := by rw [ex_37]; exact add_toInt (by omega) (by omega)
                    omega
                  have hr_210 : (rB (Mf 1) (Mv 0) (sv_28 : Int32).toInt.toNat = 60 ∧ (x_37 : Int32).toInt = (sv_28 : Int32).toInt + 1 ∧ (-7 : Int) = -7) ∨ (rB (Mf 1) (Mv 0) (sv_28 : Int32).toInt.toNat = 60 ∧ (x_37 : Int32).toInt = (sv_28 : Int32).toInt + 2 ∧ (-7 : Int) = -8) ∨ (rB (Mf 1) (Mv 0) (sv_28 : Int32).toInt.toNat = 61 ∧ (-7 : Int) = -9) ∨ (rB (Mf 1) (Mv 0) (sv_28 : Int32).toInt.toNat = 62 ∧ (x_37 : Int32).toInt = (sv_28 : Int32).toInt + 2 ∧ (-7 : Int) = -10) ∨ (rB (Mf 1) (Mv 0) (sv_28 : Int32).toInt.toNat = 62 ∧ (x_37 : Int32).toInt = (sv_28 : Int32).toInt + 1 ∧ (-7 : Int) = -11) := by
                    have z_1 : ¬ (r_13 : Int32).toInt = (0 : Int32).toInt := fun z => c_18 (Int32.toInt_inj.mp z)
                    have z_2 := congrArg Int32.toInt c_36
                    have z_3 : ¬ (r_33 : Int32).toInt = (61 : Int32).toInt := fun z => c_38 (Int32.toInt_inj.mp z)
                    have z_4 := Int32.le_iff_toInt_le.mp c_135
                    have z_5 : ¬ (r_146 : Int32).toInt = (0 : Int32).toInt := fun z => c_151 (Int32.toInt_inj.mp z)
                    have z_6 := congrArg Int32.toInt c_152
                    have z_7 : ¬ (r_170 : Int32).toInt = (0 : Int32).toInt := fun z => c_175 (Int32.toInt_inj.mp z)
                    have y_0 : (0 : Int32).toInt = 0 := by decide
                    have y_60 : (60 : Int32).toInt = 60 := by decide
                    have y_61 : (61 : Int32).toInt = 61 := by decide
                    have y_1 : (1 : Int32).toInt = 1 := by decide
                    have t_x_37 : x_37.toInt = (sv_28 : Int32).toInt + (1 : Int32).toInt := by rw [ex_37]; exact add_toInt (by omega) (by omega)
                    omega
                  have hu_211 : SgC sv_189 sv_190 (Mv 5) (((ll ++ lsum (rB (Mf 1) (Mv 0)) (St0 (rB (Mf 1) (Mv 0)) (Mv 2) (Mv 6))) ++ lsum (rB (Mf 1) (Mv 0)) (St0 (rB (Mf 1) (Mv 0)) x_37 sv_144)) ++ [(-7)]) := by
                    rw [← elo_23, ← elo_180, ← elo_195]
                    exact pf_194
                  have hs_212 : SgC sv_189 sv_190 (Mv 5) (ll ++ ec_com (rB (Mf 1) (Mv 0)) (St0 (rB (Mf 1) (Mv 0)) (Mv 2) (Mv 6))) := by
                    rw [com_ls (o := -7) (md1 := sv_144) pf_20 pf_32 hr_207 hr_209 (ec_c_at pf_32 hr_209 hr_210)]
                    exact hu_211
                  exact ⟨pf_191, (RfO.com pf_20 pf_32 hr_203 hr_205 hr_206 pf_177), hs_212⟩
                exact retI (v := 1) hx hb hr hlk (rfl) hP hD hS (sv_161, sv_162, sv_163, sv_164, sv_189, sv_190) ⟨_, rfl, hp_201, ha_196, ha_197, (Agr.trans (k' := (400 * ((Mv 5) : Int32).toInt + ((Mf 3) (Mv 5).toNatClampNeg).toInt)) (Agr.trans (k' := (400 * ((Mv 5) : Int32).toInt + ((Mf 3) (Mv 5).toNatClampNeg).toInt)) (Agr.mono pf_12 hr_198) pf_169 ⟨Int.le_refl _, hr_199⟩) pf_192 ⟨Int.le_refl _, hr_200⟩), hm_202, (fun h => absurd h (by decide))⟩ [1, 0, 2, 3] rfl rfl dX12_compare_174 (Nat.le_of_ble_eq_true rfl) (Nat.le_of_ble_eq_true rfl) rfl
              · skip
                have hz_214 : (r_170 : Int32).toInt = 0 := by
                  have z_1 : ¬ (r_13 : Int32).toInt = (0 : Int32).toInt := fun z => c_18 (Int32.toInt_inj.mp z)
                  have z_2 := congrArg Int32.toInt c_36
                  have z_3 : ¬ (r_33 : Int32).toInt = (61 : Int32).toInt := fun z => c_38 (Int32.toInt_inj.mp z)
                  have z_4 := Int32.le_iff_toInt_le.mp c_135
                  have z_5 : ¬ (r_146 : Int32).toInt = (0 : Int32).toInt := fun z => c_151 (Int32.toInt_inj.mp z)
                  have z_6 := congrArg Int32.toInt c_152
                  have z_7 := congrArg Int32.toInt c_175
                  have y_0 : (0 : Int32).toInt = 0 := by decide
                  have y_60 : (60 : Int32).toInt = 60 := by decide
                  have y_61 : (61 : Int32).toInt = 61 := by decide
                  have y_1 : (1 : Int32).toInt = 1 := by decide
                  have t_x_37 : x_37.toInt = (sv_28 : Int32).toInt + (1 : Int32).toInt := by rw [ex_37]; exact add_toInt (by omega) (by omega)
                  omega
                obtain pf_213 := hm_174 hz_214
                have pf_213 : RfE (pz_sum (rB (Mf 1) (Mv 0)) (St0 (rB (Mf 1) (Mv 0)) x_37 sv_144)) sv_162 := pf_213
                refine lv_iconst (v := 0) hx hb dX12_compare_161 (by decide) ?_
                have ha_215 : ((Mv 2) : Int32).toInt ≤ (sv_161 : Int32).toInt ∧ (sv_161 : Int32).toInt ≤ ((Mv 0) : Int32).toInt := by
                  have z_1 : ¬ (r_13 : Int32).toInt = (0 : Int32).toInt := fun z => c_18 (Int32.toInt_inj.mp z)
                  have z_2 := congrArg Int32.toInt c_36
                  have z_3 : ¬ (r_33 : Int32).toInt = (61 : Int32).toInt := fun z => c_38 (Int32.toInt_inj.mp z)
                  have z_4 := Int32.le_iff_toInt_le.mp c_135
                  have z_5 : ¬ (r_146 : Int32).toInt = (0 : Int32).toInt := fun z => c_151 (Int32.toInt_inj.mp z)
                  have z_6 := congrArg Int32.toInt c_152
                  have z_7 := congrArg Int32.toInt c_175
                  have y_0 : (0 : Int32).toInt = 0 := by decide
                  have y_60 : (60 : Int32).toInt = 60 := by decide
                  have y_61 : (61 : Int32).toInt = 61 := by decide
                  have y_1 : (1 : Int32).toInt = 1 := by decide
                  have t_x_37 : x_37.toInt = (sv_28 : Int32).toInt + (1 : Int32).toInt := by rw [ex_37]; exact add_toInt (by omega) (by omega)
                  omega
                have ha_216 : ((Mv 6) : Int32).toInt ≤ (sv_164 : Int32).toInt ∧ (sv_164 : Int32).toInt ≤ 60 := by
                  have z_1 : ¬ (r_13 : Int32).toInt = (0 : Int32).toInt := fun z => c_18 (Int32.toInt_inj.mp z)
                  have z_2 := congrArg Int32.toInt c_36
                  have z_3 : ¬ (r_33 : Int32).toInt = (61 : Int32).toInt := fun z => c_38 (Int32.toInt_inj.mp z)
                  have z_4 := Int32.le_iff_toInt_le.mp c_135
                  have z_5 : ¬ (r_146 : Int32).toInt = (0 : Int32).toInt := fun z => c_151 (Int32.toInt_inj.mp z)
                  have z_6 := congrArg Int32.toInt c_152
                  have z_7 := congrArg Int32.toInt c_175
                  have y_0 : (0 : Int32).toInt = 0 := by decide
                  have y_60 : (60 : Int32).toInt = 60 := by decide
                  have y_61 : (61 : Int32).toInt = 61 := by decide
                  have y_1 : (1 : Int32).toInt = 1 := by decide
                  have t_x_37 : x_37.toInt = (sv_28 : Int32).toInt + (1 : Int32).toInt := by rw [ex_37]; exact add_toInt (by omega) (by omega)
                  omega
                have hr_217 : (400 * ((Mv 5) : Int32).toInt + ((Mf 3) (Mv 5).toNatClampNeg).toInt) ≤ (400 * ((Mv 5) : Int32).toInt + ((Mf 3) (Mv 5).toNatClampNeg).toInt) := by
                  have z_1 : ¬ (r_13 : Int32).toInt = (0 : Int32).toInt := fun z => c_18 (Int32.toInt_inj.mp z)
                  have z_2 := congrArg Int32.toInt c_36
                  have z_3 : ¬ (r_33 : Int32).toInt = (61 : Int32).toInt := fun z => c_38 (Int32.toInt_inj.mp z)
                  have z_4 := Int32.le_iff_toInt_le.mp c_135
                  have z_5 : ¬ (r_146 : Int32).toInt = (0 : Int32).toInt := fun z => c_151 (Int32.toInt_inj.mp z)
                  have z_6 := congrArg Int32.toInt c_152
                  have z_7 := congrArg Int32.toInt c_175
                  have y_0 : (0 : Int32).toInt = 0 := by decide
                  have y_60 : (60 : Int32).toInt = 60 := by decide
                  have y_61 : (61 : Int32).toInt = 61 := by decide
                  have y_1 : (1 : Int32).toInt = 1 := by decide
                  have t_x_37 : x_37.toInt = (sv_28 : Int32).toInt + (1 : Int32).toInt := by rw [ex_37]; exact add_toInt (by omega) (by omega)
                  omega
                have hr_218 : (400 * ((Mv 5) : Int32).toInt + ((Mf 3) (Mv 5).toNatClampNeg).toInt) ≤ (400 * ((Mv 5) : Int32).toInt + (sv_9 (Mv 5).toNatClampNeg).toInt) := by
                  have z_1 : ¬ (r_13 : Int32).toInt = (0 : Int32).toInt := fun z => c_18 (Int32.toInt_inj.mp z)
                  have z_2 := congrArg Int32.toInt c_36
                  have z_3 : ¬ (r_33 : Int32).toInt = (61 : Int32).toInt := fun z => c_38 (Int32.toInt_inj.mp z)
                  have z_4 := Int32.le_iff_toInt_le.mp c_135
                  have z_5 : ¬ (r_146 : Int32).toInt = (0 : Int32).toInt := fun z => c_151 (Int32.toInt_inj.mp z)
                  have z_6 := congrArg Int32.toInt c_152
                  have z_7 := congrArg Int32.toInt c_175
                  have y_0 : (0 : Int32).toInt = 0 := by decide
                  have y_60 : (60 : Int32).toInt = 60 := by decide
                  have y_61 : (61 : Int32).toInt = 61 := by decide
                  have y_1 : (1 : Int32).toInt = 1 := by decide
                  have t_x_37 : x_37.toInt = (sv_28 : Int32).toInt + (1 : Int32).toInt := by rw [ex_37]; exact add_toInt (by omega) (by omega)
                  omega
                have hp_219 : (((0 : Int32).toInt = 0 ∧ ¬ (sv_162 : Int32).toInt = 0) ∨ ((0 : Int32).toInt = 1 ∧ ((Mf 3) (Mv 5).toNatClampNeg).toInt + 1 ≤ (sv_166 (Mv 5).toNatClampNeg).toInt ∧ (sv_166 (Mv 5).toNatClampNeg).toInt + ((Mv 2) : Int32).toInt ≤ ((Mf 3) (Mv 5).toNatClampNeg).toInt + (sv_161 : Int32).toInt ∧ ((Mv 2) : Int32).toInt + 1 ≤ (sv_161 : Int32).toInt)) := by
                  have z_1 : ¬ (r_13 : Int32).toInt = (0 : Int32).toInt := fun z => c_18 (Int32.toInt_inj.mp z)
                  have z_2 := congrArg Int32.toInt c_36
                  have z_3 : ¬ (r_33 : Int32).toInt = (61 : Int32).toInt := fun z => c_38 (Int32.toInt_inj.mp z)
                  have z_4 := Int32.le_iff_toInt_le.mp c_135
                  have z_5 : ¬ (r_146 : Int32).toInt = (0 : Int32).toInt := fun z => c_151 (Int32.toInt_inj.mp z)
                  have z_6 := congrArg Int32.toInt c_152
                  have z_7 := congrArg Int32.toInt c_175
                  have y_0 : (0 : Int32).toInt = 0 := by decide
                  have y_60 : (60 : Int32).toInt = 60 := by decide
                  have y_61 : (61 : Int32).toInt = 61 := by decide
                  have y_1 : (1 : Int32).toInt = 1 := by decide
                  have t_x_37 : x_37.toInt = (sv_28 : Int32).toInt + (1 : Int32).toInt := by rw [ex_37]; exact add_toInt (by omega) (by omega)
                  omega
                have hm_220 : (0 : Int32).toInt = 0 → (RfE (pz_com (rB (Mf 1) (Mv 0)) (St0 (rB (Mf 1) (Mv 0)) (Mv 2) (Mv 6))) sv_162) := by
                  intro h1r
                  have hr_221 : (rB (Mf 1) (Mv 0) (sv_28 : Int32).toInt.toNat = 60 ∨ rB (Mf 1) (Mv 0) (sv_28 : Int32).toInt.toNat = 61 ∨ rB (Mf 1) (Mv 0) (sv_28 : Int32).toInt.toNat = 62) := by
                    have z_1 : ¬ (r_13 : Int32).toInt = (0 : Int32).toInt := fun z => c_18 (Int32.toInt_inj.mp z)
                    have z_2 := congrArg Int32.toInt c_36
                    have z_3 : ¬ (r_33 : Int32).toInt = (61 : Int32).toInt := fun z => c_38 (Int32.toInt_inj.mp z)
                    have z_4 := Int32.le_iff_toInt_le.mp c_135
                    have z_5 : ¬ (r_146 : Int32).toInt = (0 : Int32).toInt := fun z => c_151 (Int32.toInt_inj.mp z)
                    have z_6 := congrArg Int32.toInt c_152
                    have z_7 := congrArg Int32.toInt c_175
                    have y_0 : (0 : Int32).toInt = 0 := by decide
                    have y_60 : (60 : Int32).toInt = 60 := by decide
                    have y_61 : (61 : Int32).toInt = 61 := by decide
                    have y_1 : (1 : Int32).toInt = 1 := by decide
                    have t_x_37 : x_37.toInt = (sv_28 : Int32).toInt + (1 : Int32).toInt := by rw [ex_37]; exact add_toInt (by omega) (by omega)
                    omega
                  have rg_222 := rB_rg (n := (Mv 0)) h_bs ((sv_28 : Int32).toInt.toNat + 1)
                  have hr_223 : ((x_37 : Int32).toInt = (sv_28 : Int32).toInt + 1 ∧ ¬ ((rB (Mf 1) (Mv 0) (sv_28 : Int32).toInt.toNat = 60 ∨ rB (Mf 1) (Mv 0) (sv_28 : Int32).toInt.toNat = 62) ∧ rB (Mf 1) (Mv 0) ((sv_28 : Int32).toInt.toNat + 1) = 61)) ∨ ((x_37 : Int32).toInt = (sv_28 : Int32).toInt + 2 ∧ (rB (Mf 1) (Mv 0) (sv_28 : Int32).toInt.toNat = 60 ∨ rB (Mf 1) (Mv 0) (sv_28 : Int32).toInt.toNat = 62) ∧ rB (Mf 1) (Mv 0) ((sv_28 : Int32).toInt.toNat + 1) = 61) := by
                    have z_1 : ¬ (r_13 : Int32).toInt = (0 : Int32).toInt := fun z => c_18 (Int32.toInt_inj.mp z)
                    have z_2 := congrArg Int32.toInt c_36
                    have z_3 : ¬ (r_33 : Int32).toInt = (61 : Int32).toInt := fun z => c_38 (Int32.toInt_inj.mp z)
                    have z_4 := Int32.le_iff_toInt_le.mp c_135
                    have z_5 : ¬ (r_146 : Int32).toInt = (0 : Int32).toInt := fun z => c_151 (Int32.toInt_inj.mp z)
                    have z_6 := congrArg Int32.toInt c_152
                    have z_7 := congrArg Int32.toInt c_175
                    have y_0 : (0 : Int32).toInt = 0 := by decide
                    have y_60 : (60 : Int32).toInt = 60 := by decide
                    have y_61 : (61 : Int32).toInt = 61 := by decide
                    have y_1 : (1 : Int32).toInt = 1 := by decide
                    have t_x_37 : x_37.toInt = (sv_28 : Int32).toInt + (1 : Int32).toInt := by rw [ex_37]; exact add_toInt (by omega) (by omega)
                    omega
                  have hr_224 : 0 ≤ (sv_7 : Int32).toInt ∧ (sv_7 : Int32).toInt < 60 ∧ (sv_144 : Int32).toInt = (sv_7 : Int32).toInt + 1 := by
                    have z_1 : ¬ (r_13 : Int32).toInt = (0 : Int32).toInt := fun z => c_18 (Int32.toInt_inj.mp z)
                    have z_2 := congrArg Int32.toInt c_36
                    have z_3 : ¬ (r_33 : Int32).toInt = (61 : Int32).toInt := fun z => c_38 (Int32.toInt_inj.mp z)
                    have z_4 := Int32.le_iff_toInt_le.mp c_135
                    have z_5 : ¬ (r_146 : Int32).toInt = (0 : Int32).toInt := fun z => c_151 (Int32.toInt_inj.mp z)
                    have z_6 := congrArg Int32.toInt c_152
                    have z_7 := congrArg Int32.toInt c_175
                    have y_0 : (0 : Int32).toInt = 0 := by decide
                    have y_60 : (60 : Int32).toInt = 60 := by decide
                    have y_61 : (61 : Int32).toInt = 61 := by decide
                    have y_1 : (1 : Int32).toInt = 1 := by decide
                    have t_x_37 : x_37.toInt = (sv_28 : Int32).toInt + (1 : Int32).toInt := by rw [ex_37]; exact add_toInt (by omega) (by omega)
                    omega
                  exact (RfE.com2 pf_20 pf_32 hr_221 hr_223 hr_224 pf_213)
                exact retI (v := 0) hx hb hr hlk (rfl) hP hD hS (sv_161, sv_162, sv_163, sv_164, sv_165, sv_166) ⟨_, rfl, hp_219, ha_215, ha_216, (Agr.trans (k' := (400 * ((Mv 5) : Int32).toInt + ((Mf 3) (Mv 5).toNatClampNeg).toInt)) (Agr.mono pf_12 hr_217) pf_169 ⟨Int.le_refl _, hr_218⟩), (fun h => absurd h (by decide)), hm_220⟩ [0, 1, 2, 3] rfl rfl dX12_compare_162 (Nat.le_of_ble_eq_true rfl) (Nat.le_of_ble_eq_true rfl) rfl
          · skip
            refine lv_iconst (v := 0) hx hb dX12_compare_113 (by decide) ?_
            have ha_225 : ((Mv 2) : Int32).toInt ≤ (x_37 : Int32).toInt ∧ (x_37 : Int32).toInt ≤ ((Mv 0) : Int32).toInt := by
              have z_1 : ¬ (r_13 : Int32).toInt = (0 : Int32).toInt := fun z => c_18 (Int32.toInt_inj.mp z)
              have z_2 := congrArg Int32.toInt c_36
              have z_3 : ¬ (r_33 : Int32).toInt = (61 : Int32).toInt := fun z => c_38 (Int32.toInt_inj.mp z)
              have z_4 := Int32.le_iff_toInt_le.mp c_135
              have z_5 := congrArg Int32.toInt c_151
              have y_0 : (0 : Int32).toInt = 0 := by decide
              have y_60 : (60 : Int32).toInt = 60 := by decide
              have y_61 : (61 : Int32).toInt = 61 := by decide
              have y_1 : (1 : Int32).toInt = 1 := by decide
              have t_x_37 : x_37.toInt = (sv_28 : Int32).toInt + (1 : Int32).toInt := by rw [ex_37]; exact add_toInt (by omega) (by omega)
              omega
            have ha_226 : ((Mv 6) : Int32).toInt ≤ (sv_144 : Int32).toInt ∧ (sv_144 : Int32).toInt ≤ 60 := by
              have z_1 : ¬ (r_13 : Int32).toInt = (0 : Int32).toInt := fun z => c_18 (Int32.toInt_inj.mp z)
              have z_2 := congrArg Int32.toInt c_36
              have z_3 : ¬ (r_33 : Int32).toInt = (61 : Int32).toInt := fun z => c_38 (Int32.toInt_inj.mp z)
              have z_4 := Int32.le_iff_toInt_le.mp c_135
              have z_5 := congrArg Int32.toInt c_151
              have y_0 : (0 : Int32).toInt = 0 := by decide
              have y_60 : (60 : Int32).toInt = 60 := by decide
              have y_61 : (61 : Int32).toInt = 61 := by decide
              have y_1 : (1 : Int32).toInt = 1 := by decide
              have t_x_37 : x_37.toInt = (sv_28 : Int32).toInt + (1 : Int32).toInt := by rw [ex_37]; exact add_toInt (by omega) (by omega)
              omega
            have hp_227 : (((0 : Int32).toInt = 0 ∧ ¬ (sv_143 : Int32).toInt = 0) ∨ ((0 : Int32).toInt = 1 ∧ ((Mf 3) (Mv 5).toNatClampNeg).toInt + 1 ≤ (sv_9 (Mv 5).toNatClampNeg).toInt ∧ (sv_9 (Mv 5).toNatClampNeg).toInt + ((Mv 2) : Int32).toInt ≤ ((Mf 3) (Mv 5).toNatClampNeg).toInt + (x_37 : Int32).toInt ∧ ((Mv 2) : Int32).toInt + 1 ≤ (x_37 : Int32).toInt)) := by
              have z_1 : ¬ (r_13 : Int32).toInt = (0 : Int32).toInt := fun z => c_18 (Int32.toInt_inj.mp z)
              have z_2 := congrArg Int32.toInt c_36
              have z_3 : ¬ (r_33 : Int32).toInt = (61 : Int32).toInt := fun z => c_38 (Int32.toInt_inj.mp z)
              have z_4 := Int32.le_iff_toInt_le.mp c_135
              have z_5 := congrArg Int32.toInt c_151
              have y_0 : (0 : Int32).toInt = 0 := by decide
              have y_60 : (60 : Int32).toInt = 60 := by decide
              have y_61 : (61 : Int32).toInt = 61 := by decide
              have y_1 : (1 : Int32).toInt = 1 := by decide
              have t_x_37 : x_37.toInt = (sv_28 : Int32).toInt + (1 : Int32).toInt := by rw [ex_37]; exact add_toInt (by omega) (by omega)
              omega
            have hm_228 : (0 : Int32).toInt = 0 → (RfE (pz_com (rB (Mf 1) (Mv 0)) (St0 (rB (Mf 1) (Mv 0)) (Mv 2) (Mv 6))) sv_143) := by
              intro h1r
              have hr_229 : (rB (Mf 1) (Mv 0) (sv_28 : Int32).toInt.toNat = 60 ∨ rB (Mf 1) (Mv 0) (sv_28 : Int32).toInt.toNat = 61 ∨ rB (Mf 1) (Mv 0) (sv_28 : Int32).toInt.toNat = 62) := by
                have z_1 : ¬ (r_13 : Int32).toInt = (0 : Int32).toInt := fun z => c_18 (Int32.toInt_inj.mp z)
                have z_2 := congrArg Int32.toInt c_36
                have z_3 : ¬ (r_33 : Int32).toInt = (61 : Int32).toInt := fun z => c_38 (Int32.toInt_inj.mp z)
                have z_4 := Int32.le_iff_toInt_le.mp c_135
                have z_5 := congrArg Int32.toInt c_151
                have y_0 : (0 : Int32).toInt = 0 := by decide
                have y_60 : (60 : Int32).toInt = 60 := by decide
                have y_61 : (61 : Int32).toInt = 61 := by decide
                have y_1 : (1 : Int32).toInt = 1 := by decide
                have t_x_37 : x_37.toInt = (sv_28 : Int32).toInt + (1 : Int32).toInt := by rw [ex_37]; exact add_toInt (by omega) (by omega)
                omega
              have hr_230 : 60 ≤ (sv_7 : Int32).toInt := by
                have z_1 : ¬ (r_13 : Int32).toInt = (0 : Int32).toInt := fun z => c_18 (Int32.toInt_inj.mp z)
                have z_2 := congrArg Int32.toInt c_36
                have z_3 : ¬ (r_33 : Int32).toInt = (61 : Int32).toInt := fun z => c_38 (Int32.toInt_inj.mp z)
                have z_4 := Int32.le_iff_toInt_le.mp c_135
                have z_5 := congrArg Int32.toInt c_151
                have y_0 : (0 : Int32).toInt = 0 := by decide
                have y_60 : (60 : Int32).toInt = 60 := by decide
                have y_61 : (61 : Int32).toInt = 61 := by decide
                have y_1 : (1 : Int32).toInt = 1 := by decide
                have t_x_37 : x_37.toInt = (sv_28 : Int32).toInt + (1 : Int32).toInt := by rw [ex_37]; exact add_toInt (by omega) (by omega)
                omega
              have hi_231 : (sv_143 : Int32).toInt = 1 + 8 * (sv_28 : Int32).toInt + 3 := by
                have z_1 : ¬ (r_13 : Int32).toInt = (0 : Int32).toInt := fun z => c_18 (Int32.toInt_inj.mp z)
                have z_2 := congrArg Int32.toInt c_36
                have z_3 : ¬ (r_33 : Int32).toInt = (61 : Int32).toInt := fun z => c_38 (Int32.toInt_inj.mp z)
                have z_4 := Int32.le_iff_toInt_le.mp c_135
                have z_5 := congrArg Int32.toInt c_151
                have y_0 : (0 : Int32).toInt = 0 := by decide
                have y_60 : (60 : Int32).toInt = 60 := by decide
                have y_61 : (61 : Int32).toInt = 61 := by decide
                have y_1 : (1 : Int32).toInt = 1 := by decide
                have t_x_37 : x_37.toInt = (sv_28 : Int32).toInt + (1 : Int32).toInt := by rw [ex_37]; exact add_toInt (by omega) (by omega)
                omega
              exact (RfE.com3 pf_20 pf_32 hr_229 hr_230 hi_231)
            exact retI (v := 0) hx hb hr hlk (rfl) hP hD hS (x_37, sv_143, sv_6, sv_144, sv_8, sv_9) ⟨_, rfl, hp_227, ha_225, ha_226, pf_12, (fun h => absurd h (by decide)), hm_228⟩ [3, 2, 0, 1] rfl rfl dX12_compare_114 (Nat.le_of_ble_eq_true rfl) (Nat.le_of_ble_eq_true rfl) rfl
        · skip
          refine lv_aload_n hx hb dX12_compare_71 rfl (lv_at hl 2 rfl) ?_
          refine gf_X12_7 hx hb hts hown hK hP 2 rfl rfl dX12_compare_72 ?_
          refine lv_aload_n hx hb dX12_compare_75 rfl (lv_at hl 2 rfl) ?_
          refine gf_X12_87 hx hb hts hown hK hP 2 rfl rfl dX12_compare_76 ?_
          have hi_232 : vp_in x_37 400 := by
            have z_1 : ¬ (r_13 : Int32).toInt = (0 : Int32).toInt := fun z => c_18 (Int32.toInt_inj.mp z)
            have z_2 := congrArg Int32.toInt c_36
            have z_3 : ¬ (r_33 : Int32).toInt = (61 : Int32).toInt := fun z => c_38 (Int32.toInt_inj.mp z)
            have z_4 := Int32.lt_iff_toInt_lt.mp (Int32.not_le.mp c_135)
            have y_0 : (0 : Int32).toInt = 0 := by decide
            have y_60 : (60 : Int32).toInt = 60 := by decide
            have y_61 : (61 : Int32).toInt = 61 := by decide
            have y_1 : (1 : Int32).toInt = 1 := by decide
            have t_x_37 : x_37.toInt = (sv_28 : Int32).toInt + (1 : Int32).toInt := by rw [ex_37]; exact add_toInt (by omega) (by omega)
            refine vp_in_iff.mpr ⟨?_, ?_⟩ <;> omega
          refine va_bald hx hb hK hP 3 2 rfl rfl hi_232 dX12_compare_79 ?_
          refine lv_topi (fun x_233 ex_233 => ?_)
          have kx_233 : x_233.toInt = ((Mf 1) (x_37 : Int32).toInt.toNat).toInt := congrArg Int32.toInt ex_233
          have kcx_233 : x_233.toInt = ((Mf 1) (x_37 : Int32).toNatClampNeg).toInt := congrArg Int32.toInt ex_233
          refine lv_bipush (v := 61) hx hb dX12_compare_80 (by decide) ?_
          refine lv_icmp_ne (tgt := 89) hx hb dX12_compare_82 (by decide) (fun c_234 => ?_) (fun c_234 => ?_)
          · skip
            refine lv_iconst (v := 0) hx hb dX12_compare_89 (by decide) ?_
            refine lv_istore_n (lv' := [(3, .int 0), (2, .int sv_28), (1, .int r_33), (0, .ref (Ma 0))]) hx hb dX12_compare_90 rfl hl (by decide) rfl (fun ls hl₀ => ?_)
            replace hl := hl₀
            clear hl₀
            refine lv_iload_n hx hb dX12_compare_91 rfl (lv_at hl 0 rfl) ?_
            refine lv_if_eq (tgt := 105) hx hb dX12_compare_92 (by decide) (fun c_235 => ?_) (fun c_235 => absurd c_235 (by decide))
            refine lv_aload_n hx hb dX12_compare_105 rfl (lv_at hl 3 rfl) ?_
            refine lv_iload_n hx hb dX12_compare_106 rfl (lv_at hl 1 rfl) ?_
            have ha_236 : 0 ≤ sv_28.toInt ∧ sv_28.toInt ≤ 400 := by
              have z_1 : ¬ (r_13 : Int32).toInt = (0 : Int32).toInt := fun z => c_18 (Int32.toInt_inj.mp z)
              have z_2 := congrArg Int32.toInt c_36
              have z_3 : ¬ (r_33 : Int32).toInt = (61 : Int32).toInt := fun z => c_38 (Int32.toInt_inj.mp z)
              have z_4 := Int32.lt_iff_toInt_lt.mp (Int32.not_le.mp c_135)
              have z_5 : ¬ (x_233 : Int32).toInt = (61 : Int32).toInt := fun z => c_234 (Int32.toInt_inj.mp z)
              have y_0 : (0 : Int32).toInt = 0 := by decide
              have y_60 : (60 : Int32).toInt = 60 := by decide
              have y_61 : (61 : Int32).toInt = 61 := by decide
              have y_1 : (1 : Int32).toInt = 1 := by decide
              have t_x_37 : x_37.toInt = (sv_28 : Int32).toInt + (1 : Int32).toInt := by rw [ex_37]; exact add_toInt (by omega) (by omega)
              omega
            have ha_237 : 0 ≤ (sv_7 : Int32).toInt ∧ (sv_7 : Int32).toInt ≤ 60 := by
              have z_1 : ¬ (r_13 : Int32).toInt = (0 : Int32).toInt := fun z => c_18 (Int32.toInt_inj.mp z)
              have z_2 := congrArg Int32.toInt c_36
              have z_3 : ¬ (r_33 : Int32).toInt = (61 : Int32).toInt := fun z => c_38 (Int32.toInt_inj.mp z)
              have z_4 := Int32.lt_iff_toInt_lt.mp (Int32.not_le.mp c_135)
              have z_5 : ¬ (x_233 : Int32).toInt = (61 : Int32).toInt := fun z => c_234 (Int32.toInt_inj.mp z)
              have y_0 : (0 : Int32).toInt = 0 := by decide
              have y_60 : (60 : Int32).toInt = 60 := by decide
              have y_61 : (61 : Int32).toInt = 61 := by decide
              have y_1 : (1 : Int32).toInt = 1 := by decide
              have t_x_37 : x_37.toInt = (sv_28 : Int32).toInt + (1 : Int32).toInt := by rw [ex_37]; exact add_toInt (by omega) (by omega)
              omega
            have ha_238 : (sv_5 : Int32).toInt = 0 := by
              have z_1 : ¬ (r_13 : Int32).toInt = (0 : Int32).toInt := fun z => c_18 (Int32.toInt_inj.mp z)
              have z_2 := congrArg Int32.toInt c_36
              have z_3 : ¬ (r_33 : Int32).toInt = (61 : Int32).toInt := fun z => c_38 (Int32.toInt_inj.mp z)
              have z_4 := Int32.lt_iff_toInt_lt.mp (Int32.not_le.mp c_135)
              have z_5 : ¬ (x_233 : Int32).toInt = (61 : Int32).toInt := fun z => c_234 (Int32.toInt_inj.mp z)
              have y_0 : (0 : Int32).toInt = 0 := by decide
              have y_60 : (60 : Int32).toInt = 60 := by decide
              have y_61 : (61 : Int32).toInt = 61 := by decide
              have y_1 : (1 : Int32).toInt = 1 := by decide
              have t_x_37 : x_37.toInt = (sv_28 : Int32).toInt + (1 : Int32).toInt := by rw [ex_37]; exact add_toInt (by omega) (by omega)
              omega
            refine cV (a := (Ma 0)) (As := [.int sv_28]) (rest := []) (wr := [((Ma 2), .inl (tc 0, 2400, .inl sv_8)), ((Ma 3), .inl (tc 0, 7, .inl sv_9)), ((Ma 1), .inl (tc 2, 400, .inl (Mf 1)))]) ⟨hx, hb, hml, hown, hts⟩ hK hX hA (cu_fX12_makes l D tc sk (Ma 0) (Ma 1) (Ma 2) (Ma 3) (Ma 4) (Ma 5) (Ma 6) (Ma 7) (Ma 8) (Ma 9) (Ma 10) (Ma 11) (Ma 12) (Ma 13) (Ma 14) (Ma 15) (Ma 16) (Ma 17) (Ma 18) (Ma 19) (Ma 20) (Mv 0) (Mv 1) x_37 sv_5 sv_6 (Mv 5) sv_7 (Mv 7) (Mv 8) (Mv 9) (Mv 10) (Mv 11) (Mv 12) (Mv 13) (Mv 14) (Mj 0) sv_28 ha_236 ha_237 ha_238) k_1292 k_1289 k_1291 k_45 k_106 pl_X12_makes ⟨Nat.le_of_ble_eq_true rfl, Nat.le_of_ble_eq_true rfl⟩ rfl rfl (va_recv hK hP (ci := 12) (q0 := 2) rfl rfl) hP hD hS [2] [0, 1, 3] rfl rfl rfl rfl rfl (by decide) rfl hl.1 rfl (Nat.le_of_ble_eq_true rfl) dX12_compare_107 ⟨Nat.le_of_ble_eq_true rfl, Nat.le_of_ble_eq_true rfl⟩ (fun v_239 u_240 H locs hv_241 hP₀ hD₀ hS₀ => ?_)
            obtain ⟨sv_242, sv_243⟩ := u_240
            obtain ⟨r_245, rfl, he_246, pf_244⟩ := hv_241
            have he_246 : ((r_245.toInt = 0 ∧ ¬ (sv_242 : Int32).toInt = 0 ∧ sv_7.toInt = 60 ∧ (sv_242 : Int32).toInt = 1 + 8 * sv_28.toInt + 3) ∨ (r_245.toInt = 1 ∧ (sv_243 : Int32).toInt = sv_7.toInt + 1 ∧ sv_7.toInt < 60 ∧ (sv_242 : Int32).toInt = 0)) := he_246
            have pf_244 : (sv_7 : Int32).toInt ≤ (sv_243 : Int32).toInt ∧ (sv_243 : Int32).toInt ≤ 60 := pf_244
            refine W.eq (g2 := F0 m 110 ls [.int r_245]) rfl ?_
            replace hP : va_P D classes [((Ma 2), .inl (tc 0, 2400, .inl sv_8)), ((Ma 3), .inl (tc 0, 7, .inl sv_9)), ((Ma 1), .inl (tc 2, 400, .inl (Mf 1))), ((Ma 0), .inr (12, [.ref (Ma 1), .int (Mv 0), .int (Mv 1), .ref (Ma 2), .ref (Ma 3), .ref (Ma 4), .ref (Ma 5), .ref (Ma 6), .int x_37, .int sv_242, .int sv_6, .int (Mv 5), .int sv_243, .int (Mv 7), .int (Mv 8), .ref (Ma 7), .int (Mv 9), .ref (Ma 8), .int (Mv 10), .ref (Ma 9), .ref (Ma 10), .int (Mv 11), .int (Mv 12), .int (Mv 13), .ref (Ma 11), .int (Mv 14), .ref (Ma 12), .ref (Ma 13), .ref (Ma 14), .ref (Ma 15), .ref (Ma 16), .long (Mj 0), .ref (Ma 17), .ref (Ma 18), .ref (Ma 19), .ref (Ma 20)]))] H := hP₀
            replace hD : va_D A [((Ma 2), .inl (tc 0, 2400, .inl sv_8)), ((Ma 3), .inl (tc 0, 7, .inl sv_9)), ((Ma 1), .inl (tc 2, 400, .inl (Mf 1))), ((Ma 0), .inr (12, [.ref (Ma 1), .int (Mv 0), .int (Mv 1), .ref (Ma 2), .ref (Ma 3), .ref (Ma 4), .ref (Ma 5), .ref (Ma 6), .int x_37, .int sv_242, .int sv_6, .int (Mv 5), .int sv_243, .int (Mv 7), .int (Mv 8), .ref (Ma 7), .int (Mv 9), .ref (Ma 8), .int (Mv 10), .ref (Ma 9), .ref (Ma 10), .int (Mv 11), .int (Mv 12), .int (Mv 13), .ref (Ma 11), .int (Mv 14), .ref (Ma 12), .ref (Ma 13), .ref (Ma 14), .ref (Ma 15), .ref (Ma 16), .long (Mj 0), .ref (Ma 17), .ref (Ma 18), .ref (Ma 19), .ref (Ma 20)]))] := hD₀
            replace hS := hS₀
            clear hP₀ hD₀ hS₀
            have hr_249 : (sv_7 : Int32).toInt ≤ (sv_243 : Int32).toInt ∧ (sv_243 : Int32).toInt ≤ 60 := by
              have z_1 : ¬ (r_13 : Int32).toInt = (0 : Int32).toInt := fun z => c_18 (Int32.toInt_inj.mp z)
              have z_2 := congrArg Int32.toInt c_36
              have z_3 : ¬ (r_33 : Int32).toInt = (61 : Int32).toInt := fun z => c_38 (Int32.toInt_inj.mp z)
              have z_4 := Int32.lt_iff_toInt_lt.mp (Int32.not_le.mp c_135)
              have z_5 : ¬ (x_233 : Int32).toInt = (61 : Int32).toInt := fun z => c_234 (Int32.toInt_inj.mp z)
              have y_0 : (0 : Int32).toInt = 0 := by decide
              have y_60 : (60 : Int32).toInt = 60 := by decide
              have y_61 : (61 : Int32).toInt = 61 := by decide
              have y_1 : (1 : Int32).toInt = 1 := by decide
              have t_x_37 : x_37.toInt = (sv_28 : Int32).toInt + (1 : Int32).toInt := by rw [ex_37]; exact add_toInt (by omega) (by omega)
              omega
            have pf_248 : Cd sv_8 sv_9 (Mv 5) b sv_243 (d + 1) := Cd.mono pf_19 hr_249
            have ar_pf_248 := Cd.ar pf_248
            refine lv_if_ne (tgt := 115) hx hb dX12_compare_110 (by decide) (fun c_250 => ?_) (fun c_250 => ?_)
            · skip
              refine lv_iload_n hx hb dX12_compare_115 rfl (lv_at hl 2 rfl) ?_
              refine lv_bipush (v := 60) hx hb dX12_compare_116 (by decide) ?_
              refine lv_icmp_ne (tgt := 133) hx hb dX12_compare_118 (by decide) (fun c_251 => ?_) (fun c_251 => ?_)
              · skip
                exfalso
                have z_1 : ¬ (r_13 : Int32).toInt = (0 : Int32).toInt := fun z => c_18 (Int32.toInt_inj.mp z)
                have z_2 := congrArg Int32.toInt c_36
                have z_3 : ¬ (r_33 : Int32).toInt = (61 : Int32).toInt := fun z => c_38 (Int32.toInt_inj.mp z)
                have z_4 := Int32.lt_iff_toInt_lt.mp (Int32.not_le.mp c_135)
                have z_5 : ¬ (x_233 : Int32).toInt = (61 : Int32).toInt := fun z => c_234 (Int32.toInt_inj.mp z)
                have z_6 : ¬ (r_245 : Int32).toInt = (0 : Int32).toInt := fun z => c_250 (Int32.toInt_inj.mp z)
                have z_7 : ¬ (r_33 : Int32).toInt = (60 : Int32).toInt := fun z => c_251 (Int32.toInt_inj.mp z)
                have y_0 : (0 : Int32).toInt = 0 := by decide
                have y_60 : (60 : Int32).toInt = 60 := by decide
                have y_61 : (61 : Int32).toInt = 61 := by decide
                have y_1 : (1 : Int32).toInt = 1 := by decide
                have t_x_37 : x_37.toInt = (sv_28 : Int32).toInt + (1 : Int32).toInt := by rw [ex_37]; exact add_toInt (by omega) (by omega)
                omega
              · skip
                refine lv_iload_n hx hb dX12_compare_121 rfl (lv_at hl 0 rfl) ?_
                refine lv_if_eq (tgt := 129) hx hb dX12_compare_122 (by decide) (fun c_252 => ?_) (fun c_252 => absurd c_252 (by decide))
                refine lv_iconst (v := 0) hx hb dX12_compare_129 (by decide) ?_
                refine lv_goto (tgt := 152) hx hb dX12_compare_130 (by decide) ?_
                refine lv_istore (lv' := [(4, .int 0), (3, .int 0), (2, .int sv_28), (1, .int r_33), (0, .ref (Ma 0))]) hx hb dX12_compare_152 hl (by decide) rfl (fun ls hl₀ => ?_)
                replace hl := hl₀
                clear hl₀
                refine lv_aload_n hx hb dX12_compare_154 rfl (lv_at hl 4 rfl) ?_
                have ha_253 : 0 ≤ (x_37 : Int32).toInt ∧ (x_37 : Int32).toInt ≤ ((Mv 0) : Int32).toInt ∧ ((Mv 0) : Int32).toInt ≤ 400 := by
                  have z_1 : ¬ (r_13 : Int32).toInt = (0 : Int32).toInt := fun z => c_18 (Int32.toInt_inj.mp z)
                  have z_2 := congrArg Int32.toInt c_36
                  have z_3 : ¬ (r_33 : Int32).toInt = (61 : Int32).toInt := fun z => c_38 (Int32.toInt_inj.mp z)
                  have z_4 := Int32.lt_iff_toInt_lt.mp (Int32.not_le.mp c_135)
                  have z_5 : ¬ (x_233 : Int32).toInt = (61 : Int32).toInt := fun z => c_234 (Int32.toInt_inj.mp z)
                  have z_6 : ¬ (r_245 : Int32).toInt = (0 : Int32).toInt := fun z => c_250 (Int32.toInt_inj.mp z)
                  have z_7 := congrArg Int32.toInt c_251
                  have y_0 : (0 : Int32).toInt = 0 := by decide
                  have y_60 : (60 : Int32).toInt = 60 := by decide
                  have y_61 : (61 : Int32).toInt = 61 := by decide
                  have y_1 : (1 : Int32).toInt = 1 := by decide
                  have t_x_37 : x_37.toInt = (sv_28 : Int32).toInt + (1 : Int32).toInt := by rw [ex_37]; exact add_toInt (by omega) (by omega)
                  omega
                have ha_254 : (sv_9 (Mv 5).toNatClampNeg).toInt ≤ (x_37 : Int32).toInt := by
                  have z_1 : ¬ (r_13 : Int32).toInt = (0 : Int32).toInt := fun z => c_18 (Int32.toInt_inj.mp z)
                  have z_2 := congrArg Int32.toInt c_36
                  have z_3 : ¬ (r_33 : Int32).toInt = (61 : Int32).toInt := fun z => c_38 (Int32.toInt_inj.mp z)
                  have z_4 := Int32.lt_iff_toInt_lt.mp (Int32.not_le.mp c_135)
                  have z_5 : ¬ (x_233 : Int32).toInt = (61 : Int32).toInt := fun z => c_234 (Int32.toInt_inj.mp z)
                  have z_6 : ¬ (r_245 : Int32).toInt = (0 : Int32).toInt := fun z => c_250 (Int32.toInt_inj.mp z)
                  have z_7 := congrArg Int32.toInt c_251
                  have y_0 : (0 : Int32).toInt = 0 := by decide
                  have y_60 : (60 : Int32).toInt = 60 := by decide
                  have y_61 : (61 : Int32).toInt = 61 := by decide
                  have y_1 : (1 : Int32).toInt = 1 := by decide
                  have t_x_37 : x_37.toInt = (sv_28 : Int32).toInt + (1 : Int32).toInt := by rw [ex_37]; exact add_toInt (by omega) (by omega)
                  omega
                have ha_255 : 0 ≤ (sv_243 : Int32).toInt ∧ (sv_243 : Int32).toInt ≤ 60 := by
                  have z_1 : ¬ (r_13 : Int32).toInt = (0 : Int32).toInt := fun z => c_18 (Int32.toInt_inj.mp z)
                  have z_2 := congrArg Int32.toInt c_36
                  have z_3 : ¬ (r_33 : Int32).toInt = (61 : Int32).toInt := fun z => c_38 (Int32.toInt_inj.mp z)
                  have z_4 := Int32.lt_iff_toInt_lt.mp (Int32.not_le.mp c_135)
                  have z_5 : ¬ (x_233 : Int32).toInt = (61 : Int32).toInt := fun z => c_234 (Int32.toInt_inj.mp z)
                  have z_6 : ¬ (r_245 : Int32).toInt = (0 : Int32).toInt := fun z => c_250 (Int32.toInt_inj.mp z)
                  have z_7 := congrArg Int32.toInt c_251
                  have y_0 : (0 : Int32).toInt = 0 := by decide
                  have y_60 : (60 : Int32).toInt = 60 := by decide
                  have y_61 : (61 : Int32).toInt = 61 := by decide
                  have y_1 : (1 : Int32).toInt = 1 := by decide
                  have t_x_37 : x_37.toInt = (sv_28 : Int32).toInt + (1 : Int32).toInt := by rw [ex_37]; exact add_toInt (by omega) (by omega)
                  omega
                have ha_256 : (sv_242 : Int32).toInt = 0 := by
                  have z_1 : ¬ (r_13 : Int32).toInt = (0 : Int32).toInt := fun z => c_18 (Int32.toInt_inj.mp z)
                  have z_2 := congrArg Int32.toInt c_36
                  have z_3 : ¬ (r_33 : Int32).toInt = (61 : Int32).toInt := fun z => c_38 (Int32.toInt_inj.mp z)
                  have z_4 := Int32.lt_iff_toInt_lt.mp (Int32.not_le.mp c_135)
                  have z_5 : ¬ (x_233 : Int32).toInt = (61 : Int32).toInt := fun z => c_234 (Int32.toInt_inj.mp z)
                  have z_6 : ¬ (r_245 : Int32).toInt = (0 : Int32).toInt := fun z => c_250 (Int32.toInt_inj.mp z)
                  have z_7 := congrArg Int32.toInt c_251
                  have y_0 : (0 : Int32).toInt = 0 := by decide
                  have y_60 : (60 : Int32).toInt = 60 := by decide
                  have y_61 : (61 : Int32).toInt = 61 := by decide
                  have y_1 : (1 : Int32).toInt = 1 := by decide
                  have t_x_37 : x_37.toInt = (sv_28 : Int32).toInt + (1 : Int32).toInt := by rw [ex_37]; exact add_toInt (by omega) (by omega)
                  omega
                refine cV (a := (Ma 0)) (As := []) (rest := []) (wr := []) ⟨hx, hb, hml, hown, hts⟩ hK hX hA (cu_kX12_sum l D tc sk (Ma 0) (Ma 1) (Ma 2) (Ma 3) (Ma 4) (Ma 5) (Ma 6) (Ma 7) (Ma 8) (Ma 9) (Ma 10) (Ma 11) (Ma 12) (Ma 13) (Ma 14) (Ma 15) (Ma 16) (Ma 17) (Ma 18) (Ma 19) (Ma 20) (Mv 0) (Mv 1) x_37 sv_242 sv_6 (Mv 5) sv_243 (Mv 7) (Mv 8) (Mv 9) (Mv 10) (Mv 11) (Mv 12) (Mv 13) (Mv 14) (Mf 1) sv_8 sv_9 (Mj 0) b (d + 1) lo_23 ha_253 pf_248 ha_254 ha_255 h_bs ha_256 pf_21) k_1279 k_1276 k_1278 k_42 k_106 pl_X12_sum ⟨Nat.le_of_ble_eq_true rfl, Nat.le_of_ble_eq_true rfl⟩ rfl rfl (va_recv hK hP (ci := 12) (q0 := 3) rfl rfl) hP hD hS [3, 2, 0, 1] [] rfl rfl rfl rfl rfl (by decide) rfl hl.1 rfl (Nat.le_of_ble_eq_true rfl) dX12_compare_155 ⟨Nat.le_of_ble_eq_true rfl, Nat.le_of_ble_eq_true rfl⟩ (fun v_257 u_258 H locs hv_259 hP₀ hD₀ hS₀ => ?_)
                obtain ⟨sv_260, sv_261, sv_262, sv_263, sv_264, sv_265⟩ := u_258
                obtain ⟨r_269, rfl, he_270, pf_266, pf_267, pf_268, hm_272, hm_273⟩ := hv_259
                have he_270 : ((r_269.toInt = 0 ∧ ¬ (sv_261 : Int32).toInt = 0) ∨ (r_269.toInt = 1 ∧ (sv_9 (Mv 5).toNatClampNeg).toInt + 1 ≤ (sv_265 (Mv 5).toNatClampNeg).toInt ∧ (sv_265 (Mv 5).toNatClampNeg).toInt + (x_37 : Int32).toInt ≤ (sv_9 (Mv 5).toNatClampNeg).toInt + (sv_260 : Int32).toInt ∧ (x_37 : Int32).toInt + 1 ≤ (sv_260 : Int32).toInt)) := he_270
                have pf_266 : (x_37 : Int32).toInt ≤ (sv_260 : Int32).toInt ∧ (sv_260 : Int32).toInt ≤ ((Mv 0) : Int32).toInt := pf_266
                have pf_267 : (sv_243 : Int32).toInt ≤ (sv_263 : Int32).toInt ∧ (sv_263 : Int32).toInt ≤ 60 := pf_267
                have pf_268 : Agr sv_8 sv_264 (400 * ((Mv 5) : Int32).toInt + (sv_9 (Mv 5).toNatClampNeg).toInt) := pf_268
                refine W.eq (g2 := F0 m 158 ls [.int r_269]) rfl ?_
                replace hP : va_P D classes [((Ma 0), .inr (12, [.ref (Ma 1), .int (Mv 0), .int (Mv 1), .ref (Ma 2), .ref (Ma 3), .ref (Ma 4), .ref (Ma 5), .ref (Ma 6), .int sv_260, .int sv_261, .int sv_262, .int (Mv 5), .int sv_263, .int (Mv 7), .int (Mv 8), .ref (Ma 7), .int (Mv 9), .ref (Ma 8), .int (Mv 10), .ref (Ma 9), .ref (Ma 10), .int (Mv 11), .int (Mv 12), .int (Mv 13), .ref (Ma 11), .int (Mv 14), .ref (Ma 12), .ref (Ma 13), .ref (Ma 14), .ref (Ma 15), .ref (Ma 16), .long (Mj 0), .ref (Ma 17), .ref (Ma 18), .ref (Ma 19), .ref (Ma 20)])), ((Ma 1), .inl (tc 2, 400, .inl (Mf 1))), ((Ma 2), .inl (tc 0, 2400, .inl sv_264)), ((Ma 3), .inl (tc 0, 7, .inl sv_265))] H := hP₀
                replace hD : va_D A [((Ma 0), .inr (12, [.ref (Ma 1), .int (Mv 0), .int (Mv 1), .ref (Ma 2), .ref (Ma 3), .ref (Ma 4), .ref (Ma 5), .ref (Ma 6), .int sv_260, .int sv_261, .int sv_262, .int (Mv 5), .int sv_263, .int (Mv 7), .int (Mv 8), .ref (Ma 7), .int (Mv 9), .ref (Ma 8), .int (Mv 10), .ref (Ma 9), .ref (Ma 10), .int (Mv 11), .int (Mv 12), .int (Mv 13), .ref (Ma 11), .int (Mv 14), .ref (Ma 12), .ref (Ma 13), .ref (Ma 14), .ref (Ma 15), .ref (Ma 16), .long (Mj 0), .ref (Ma 17), .ref (Ma 18), .ref (Ma 19), .ref (Ma 20)])), ((Ma 1), .inl (tc 2, 400, .inl (Mf 1))), ((Ma 2), .inl (tc 0, 2400, .inl sv_264)), ((Ma 3), .inl (tc 0, 7, .inl sv_265))] := hD₀
                replace hS := hS₀
                clear hP₀ hD₀ hS₀
                refine lv_if_ne (tgt := 163) hx hb dX12_compare_158 (by decide) (fun c_274 => ?_) (fun c_274 => ?_)
                · skip
                  have hz_278 : (r_269 : Int32).toInt = 1 := by
                    have z_1 : ¬ (r_13 : Int32).toInt = (0 : Int32).toInt := fun z => c_18 (Int32.toInt_inj.mp z)
                    have z_2 := congrArg Int32.toInt c_36
                    have z_3 : ¬ (r_33 : Int32).toInt = (61 : Int32).toInt := fun z => c_38 (Int32.toInt_inj.mp z)
                    have z_4 := Int32.lt_iff_toInt_lt.mp (Int32.not_le.mp c_135)
                    have z_5 : ¬ (x_233 : Int32).toInt = (61 : Int32).toInt := fun z => c_234 (Int32.toInt_inj.mp z)
                    have z_6 : ¬ (r_245 : Int32).toInt = (0 : Int32).toInt := fun z => c_250 (Int32.toInt_inj.mp z)
                    have z_7 := congrArg Int32.toInt c_251
                    have z_8 : ¬ (r_269 : Int32).toInt = (0 : Int32).toInt := fun z => c_274 (Int32.toInt_inj.mp z)
                    have y_0 : (0 : Int32).toInt = 0 := by decide
                    have y_60 : (60 : Int32).toInt = 60 := by decide
                    have y_61 : (61 : Int32).toInt = 61 := by decide
                    have y_1 : (1 : Int32).toInt = 1 := by decide
                    have t_x_37 : x_37.toInt = (sv_28 : Int32).toInt + (1 : Int32).toInt := by rw [ex_37]; exact add_toInt (by omega) (by omega)
                    omega
                  obtain ⟨pf_275, pf_276, pf_277⟩ := hm_272 hz_278
                  have pf_275 : Cd sv_264 sv_265 (Mv 5) b sv_263 ((d + 1) + 1) := pf_275
                  have ar_pf_275 := Cd.ar pf_275
                  have pf_276 : RfO (pz_sum (rB (Mf 1) (Mv 0)) (St0 (rB (Mf 1) (Mv 0)) x_37 sv_243)) (rB (Mf 1) (Mv 0)) sv_261 sv_260 sv_263 := pf_276
                  have ar_pf_276 := RfO.wr pf_276
                  have pf_277 : SgC sv_264 sv_265 (Mv 5) (lo_23 ++ lsum (rB (Mf 1) (Mv 0)) (St0 (rB (Mf 1) (Mv 0)) x_37 sv_243)) := pf_277
                  obtain ⟨lo_279, elo_279⟩ : ∃ z : List Int, z = (lo_23 ++ lsum (rB (Mf 1) (Mv 0)) (St0 (rB (Mf 1) (Mv 0)) x_37 sv_243)) := ⟨_, rfl⟩
                  rw [← elo_279] at pf_277
                  refine lv_aload_n hx hb dX12_compare_163 rfl (lv_at hl 4 rfl) ?_
                  refine lv_bipush (v := 6) hx hb dX12_compare_164 (by decide) ?_
                  refine lv_iload hx hb dX12_compare_166 (lv_at hl 0 rfl) ?_
                  refine lv_iadd hx hb dX12_compare_168 ?_
                  refine lv_lit (v := 6) (by decide) ?_
                  refine lv_iconst (v := 0) hx hb dX12_compare_169 (by decide) ?_
                  have ha_280 : ((d + 1) : Int) ≤ sv_263.toInt := by
                    have z_1 : ¬ (r_13 : Int32).toInt = (0 : Int32).toInt := fun z => c_18 (Int32.toInt_inj.mp z)
                    have z_2 := congrArg Int32.toInt c_36
                    have z_3 : ¬ (r_33 : Int32).toInt = (61 : Int32).toInt := fun z => c_38 (Int32.toInt_inj.mp z)
                    have z_4 := Int32.lt_iff_toInt_lt.mp (Int32.not_le.mp c_135)
                    have z_5 : ¬ (x_233 : Int32).toInt = (61 : Int32).toInt := fun z => c_234 (Int32.toInt_inj.mp z)
                    have z_6 : ¬ (r_245 : Int32).toInt = (0 : Int32).toInt := fun z => c_250 (Int32.toInt_inj.mp z)
                    have z_7 := congrArg Int32.toInt c_251
                    have z_8 : ¬ (r_269 : Int32).toInt = (0 : Int32).toInt := fun z => c_274 (Int32.toInt_inj.mp z)
                    have y_0 : (0 : Int32).toInt = 0 := by decide
                    have y_60 : (60 : Int32).toInt = 60 := by decide
                    have y_61 : (61 : Int32).toInt = 61 := by decide
                    have y_1 : (1 : Int32).toInt = 1 := by decide
                    have t_x_37 : x_37.toInt = (sv_28 : Int32).toInt + (1 : Int32).toInt := by rw [ex_37]; exact add_toInt (by omega) (by omega)
                    omega
                  have ha_281 : (sv_265 (Mv 5).toNatClampNeg).toInt < 400 := by
                    have z_1 : ¬ (r_13 : Int32).toInt = (0 : Int32).toInt := fun z => c_18 (Int32.toInt_inj.mp z)
                    have z_2 := congrArg Int32.toInt c_36
                    have z_3 : ¬ (r_33 : Int32).toInt = (61 : Int32).toInt := fun z => c_38 (Int32.toInt_inj.mp z)
                    have z_4 := Int32.lt_iff_toInt_lt.mp (Int32.not_le.mp c_135)
                    have z_5 : ¬ (x_233 : Int32).toInt = (61 : Int32).toInt := fun z => c_234 (Int32.toInt_inj.mp z)
                    have z_6 : ¬ (r_245 : Int32).toInt = (0 : Int32).toInt := fun z => c_250 (Int32.toInt_inj.mp z)
                    have z_7 := congrArg Int32.toInt c_251
                    have z_8 : ¬ (r_269 : Int32).toInt = (0 : Int32).toInt := fun z => c_274 (Int32.toInt_inj.mp z)
                    have y_0 : (0 : Int32).toInt = 0 := by decide
                    have y_60 : (60 : Int32).toInt = 60 := by decide
                    have y_61 : (61 : Int32).toInt = 61 := by decide
                    have y_1 : (1 : Int32).toInt = 1 := by decide
                    have t_x_37 : x_37.toInt = (sv_28 : Int32).toInt + (1 : Int32).toInt := by rw [ex_37]; exact add_toInt (by omega) (by omega)
                    omega
                  have ha_282 : 0 ≤ (6 : Int32).toInt ∧ (6 : Int32).toInt ≤ 15 := by
                    have z_1 : ¬ (r_13 : Int32).toInt = (0 : Int32).toInt := fun z => c_18 (Int32.toInt_inj.mp z)
                    have z_2 := congrArg Int32.toInt c_36
                    have z_3 : ¬ (r_33 : Int32).toInt = (61 : Int32).toInt := fun z => c_38 (Int32.toInt_inj.mp z)
                    have z_4 := Int32.lt_iff_toInt_lt.mp (Int32.not_le.mp c_135)
                    have z_5 : ¬ (x_233 : Int32).toInt = (61 : Int32).toInt := fun z => c_234 (Int32.toInt_inj.mp z)
                    have z_6 : ¬ (r_245 : Int32).toInt = (0 : Int32).toInt := fun z => c_250 (Int32.toInt_inj.mp z)
                    have z_7 := congrArg Int32.toInt c_251
                    have z_8 : ¬ (r_269 : Int32).toInt = (0 : Int32).toInt := fun z => c_274 (Int32.toInt_inj.mp z)
                    have y_0 : (0 : Int32).toInt = 0 := by decide
                    have y_60 : (60 : Int32).toInt = 60 := by decide
                    have y_61 : (61 : Int32).toInt = 61 := by decide
                    have y_1 : (1 : Int32).toInt = 1 := by decide
                    have y_6 : (6 : Int32).toInt = 6 := by decide
                    have t_x_37 : x_37.toInt = (sv_28 : Int32).toInt + (1 : Int32).toInt := by rw [ex_37]; exact add_toInt (by omega) (by omega)
                    omega
                  have ha_283 : 0 ≤ (0 : Int32).toInt ∧ (0 : Int32).toInt ≤ 100000 := by
                    have z_1 : ¬ (r_13 : Int32).toInt = (0 : Int32).toInt := fun z => c_18 (Int32.toInt_inj.mp z)
                    have z_2 := congrArg Int32.toInt c_36
                    have z_3 : ¬ (r_33 : Int32).toInt = (61 : Int32).toInt := fun z => c_38 (Int32.toInt_inj.mp z)
                    have z_4 := Int32.lt_iff_toInt_lt.mp (Int32.not_le.mp c_135)
                    have z_5 : ¬ (x_233 : Int32).toInt = (61 : Int32).toInt := fun z => c_234 (Int32.toInt_inj.mp z)
                    have z_6 : ¬ (r_245 : Int32).toInt = (0 : Int32).toInt := fun z => c_250 (Int32.toInt_inj.mp z)
                    have z_7 := congrArg Int32.toInt c_251
                    have z_8 : ¬ (r_269 : Int32).toInt = (0 : Int32).toInt := fun z => c_274 (Int32.toInt_inj.mp z)
                    have y_0 : (0 : Int32).toInt = 0 := by decide
                    have y_60 : (60 : Int32).toInt = 60 := by decide
                    have y_61 : (61 : Int32).toInt = 61 := by decide
                    have y_1 : (1 : Int32).toInt = 1 := by decide
                    have t_x_37 : x_37.toInt = (sv_28 : Int32).toInt + (1 : Int32).toInt := by rw [ex_37]; exact add_toInt (by omega) (by omega)
                    omega
                  have ha_284 : 0 ≤ (Mv 5).toInt := by
                    have z_1 : ¬ (r_13 : Int32).toInt = (0 : Int32).toInt := fun z => c_18 (Int32.toInt_inj.mp z)
                    have z_2 := congrArg Int32.toInt c_36
                    have z_3 : ¬ (r_33 : Int32).toInt = (61 : Int32).toInt := fun z => c_38 (Int32.toInt_inj.mp z)
                    have z_4 := Int32.lt_iff_toInt_lt.mp (Int32.not_le.mp c_135)
                    have z_5 : ¬ (x_233 : Int32).toInt = (61 : Int32).toInt := fun z => c_234 (Int32.toInt_inj.mp z)
                    have z_6 : ¬ (r_245 : Int32).toInt = (0 : Int32).toInt := fun z => c_250 (Int32.toInt_inj.mp z)
                    have z_7 := congrArg Int32.toInt c_251
                    have z_8 : ¬ (r_269 : Int32).toInt = (0 : Int32).toInt := fun z => c_274 (Int32.toInt_inj.mp z)
                    have y_0 : (0 : Int32).toInt = 0 := by decide
                    have y_60 : (60 : Int32).toInt = 60 := by decide
                    have y_61 : (61 : Int32).toInt = 61 := by decide
                    have y_1 : (1 : Int32).toInt = 1 := by decide
                    have t_x_37 : x_37.toInt = (sv_28 : Int32).toInt + (1 : Int32).toInt := by rw [ex_37]; exact add_toInt (by omega) (by omega)
                    omega
                  refine cV (a := (Ma 0)) (As := [.int 6, .int 0]) (rest := []) (wr := [((Ma 1), .inl (tc 2, 400, .inl (Mf 1)))]) ⟨hx, hb, hml, hown, hts⟩ hK hX hA (cu_kX12_puts l D tc sk (Ma 0) (Ma 1) (Ma 2) (Ma 3) (Ma 4) (Ma 5) (Ma 6) (Ma 7) (Ma 8) (Ma 9) (Ma 10) (Ma 11) (Ma 12) (Ma 13) (Ma 14) (Ma 15) (Ma 16) (Ma 17) (Ma 18) (Ma 19) (Ma 20) (Mv 0) (Mv 1) sv_260 sv_261 sv_262 (Mv 5) sv_263 (Mv 7) (Mv 8) (Mv 9) (Mv 10) (Mv 11) (Mv 12) (Mv 13) (Mv 14) sv_264 sv_265 (Mj 0) 6 0 b sv_263 ((d + 1) + 1) (d + 1) lo_279 (-7) pf_275 (StpR.op (by decide) rfl (by omega)) ha_280 ha_281 pf_277 (by decide) ha_282 ha_283 ha_284) k_1296 k_1293 k_1295 k_46 k_106 pl_X12_puts ⟨Nat.le_of_ble_eq_true rfl, Nat.le_of_ble_eq_true rfl⟩ rfl rfl (va_recv hK hP (ci := 12) (q0 := 0) rfl rfl) hP hD hS [0, 2, 3] [1] rfl rfl rfl rfl rfl (by decide) rfl hl.1 rfl (Nat.le_of_ble_eq_true rfl) dX12_compare_170 ⟨Nat.le_of_ble_eq_true rfl, Nat.le_of_ble_eq_true rfl⟩ (fun v_285 u_286 H locs hv_287 hP₀ hD₀ hS₀ => ?_)
                  obtain ⟨sv_288, sv_289⟩ := u_286
                  obtain ⟨rfl, pf_290, pf_291, pf_292, pf_293⟩ := hv_287
                  have pf_290 : Cd sv_288 sv_289 (Mv 5) b sv_263 (d + 1) := pf_290
                  have ar_pf_290 := Cd.ar pf_290
                  have pf_291 : Agr sv_264 sv_288 (400 * ((Mv 5) : Int32).toInt + (sv_265 (Mv 5).toNatClampNeg).toInt) := pf_291
                  have pf_292 : (sv_289 (Mv 5).toNatClampNeg).toInt = (sv_265 (Mv 5).toNatClampNeg).toInt + 1 := pf_292
                  have pf_293 : SgC sv_288 sv_289 (Mv 5) (lo_279 ++ [((-7) : Int)]) := pf_293
                  obtain ⟨lo_294, elo_294⟩ : ∃ z : List Int, z = (lo_279 ++ [(-7)]) := ⟨_, rfl⟩
                  rw [← elo_294] at pf_293
                  refine W.eq (g2 := F0 m 173 ls []) rfl ?_
                  replace hP : va_P D classes [((Ma 1), .inl (tc 2, 400, .inl (Mf 1))), ((Ma 0), .inr (12, [.ref (Ma 1), .int (Mv 0), .int (Mv 1), .ref (Ma 2), .ref (Ma 3), .ref (Ma 4), .ref (Ma 5), .ref (Ma 6), .int sv_260, .int sv_261, .int sv_262, .int (Mv 5), .int sv_263, .int (Mv 7), .int (Mv 8), .ref (Ma 7), .int (Mv 9), .ref (Ma 8), .int (Mv 10), .ref (Ma 9), .ref (Ma 10), .int (Mv 11), .int (Mv 12), .int (Mv 13), .ref (Ma 11), .int (Mv 14), .ref (Ma 12), .ref (Ma 13), .ref (Ma 14), .ref (Ma 15), .ref (Ma 16), .long (Mj 0), .ref (Ma 17), .ref (Ma 18), .ref (Ma 19), .ref (Ma 20)])), ((Ma 2), .inl (tc 0, 2400, .inl sv_288)), ((Ma 3), .inl (tc 0, 7, .inl sv_289))] H := hP₀
                  replace hD : va_D A [((Ma 1), .inl (tc 2, 400, .inl (Mf 1))), ((Ma 0), .inr (12, [.ref (Ma 1), .int (Mv 0), .int (Mv 1), .ref (Ma 2), .ref (Ma 3), .ref (Ma 4), .ref (Ma 5), .ref (Ma 6), .int sv_260, .int sv_261, .int sv_262, .int (Mv 5), .int sv_263, .int (Mv 7), .int (Mv 8), .ref (Ma 7), .int (Mv 9), .ref (Ma 8), .int (Mv 10), .ref (Ma 9), .ref (Ma 10), .int (Mv 11), .int (Mv 12), .int (Mv 13), .ref (Ma 11), .int (Mv 14), .ref (Ma 12), .ref (Ma 13), .ref (Ma 14), .ref (Ma 15), .ref (Ma 16), .long (Mj 0), .ref (Ma 17), .ref (Ma 18), .ref (Ma 19), .ref (Ma 20)])), ((Ma 2), .inl (tc 0, 2400, .inl sv_288)), ((Ma 3), .inl (tc 0, 7, .inl sv_289))] := hD₀
                  replace hS := hS₀
                  clear hP₀ hD₀ hS₀
                  refine lv_iconst (v := 1) hx hb dX12_compare_173 (by decide) ?_
                  have ha_295 : ((Mv 2) : Int32).toInt ≤ (sv_260 : Int32).toInt ∧ (sv_260 : Int32).toInt ≤ ((Mv 0) : Int32).toInt := by
                    have z_1 : ¬ (r_13 : Int32).toInt = (0 : Int32).toInt := fun z => c_18 (Int32.toInt_inj.mp z)
                    have z_2 := congrArg Int32.toInt c_36
                    have z_3 : ¬ (r_33 : Int32).toInt = (61 : Int32).toInt := fun z => c_38 (Int32.toInt_inj.mp z)
                    have z_4 := Int32.lt_iff_toInt_lt.mp (Int32.not_le.mp c_135)
                    have z_5 : ¬ (x_233 : Int32).toInt = (61 : Int32).toInt := fun z => c_234 (Int32.toInt_inj.mp z)
                    have z_6 : ¬ (r_245 : Int32).toInt = (0 : Int32).toInt := fun z => c_250 (Int32.toInt_inj.mp z)
                    have z_7 := congrArg Int32.toInt c_251
                    have z_8 : ¬ (r_269 : Int32).toInt = (0 : Int32).toInt := fun z => c_274 (Int32.toInt_inj.mp z)
                    have y_0 : (0 : Int32).toInt = 0 := by decide
                    have y_60 : (60 : Int32).toInt = 60 := by decide
                    have y_61 : (61 : Int32).toInt = 61 := by decide
                    have y_1 : (1 : Int32).toInt = 1 := by decide
                    have t_x_37 : x_37.toInt = (sv_28 : Int32).toInt + (1 : Int32).toInt := by rw [ex_37]; exact add_toInt (by omega) (by omega)
                    omega
                  have ha_296 : ((Mv 6) : Int32).toInt ≤ (sv_263 : Int32).toInt ∧ (sv_263 : Int32).toInt ≤ 60 := by
                    have z_1 : ¬ (r_13 : Int32).toInt = (0 : Int32).toInt := fun z => c_18 (Int32.toInt_inj.mp z)
                    have z_2 := congrArg Int32.toInt c_36
                    have z_3 : ¬ (r_33 : Int32).toInt = (61 : Int32).toInt := fun z => c_38 (Int32.toInt_inj.mp z)
                    have z_4 := Int32.lt_iff_toInt_lt.mp (Int32.not_le.mp c_135)
                    have z_5 : ¬ (x_233 : Int32).toInt = (61 : Int32).toInt := fun z => c_234 (Int32.toInt_inj.mp z)
                    have z_6 : ¬ (r_245 : Int32).toInt = (0 : Int32).toInt := fun z => c_250 (Int32.toInt_inj.mp z)
                    have z_7 := congrArg Int32.toInt c_251
                    have z_8 : ¬ (r_269 : Int32).toInt = (0 : Int32).toInt := fun z => c_274 (Int32.toInt_inj.mp z)
                    have y_0 : (0 : Int32).toInt = 0 := by decide
                    have y_60 : (60 : Int32).toInt = 60 := by decide
                    have y_61 : (61 : Int32).toInt = 61 := by decide
                    have y_1 : (1 : Int32).toInt = 1 := by decide
                    have t_x_37 : x_37.toInt = (sv_28 : Int32).toInt + (1 : Int32).toInt := by rw [ex_37]; exact add_toInt (by omega) (by omega)
                    omega
                  have hr_297 : (400 * ((Mv 5) : Int32).toInt + ((Mf 3) (Mv 5).toNatClampNeg).toInt) ≤ (400 * ((Mv 5) : Int32).toInt + ((Mf 3) (Mv 5).toNatClampNeg).toInt) := by
                    have z_1 : ¬ (r_13 : Int32).toInt = (0 : Int32).toInt := fun z => c_18 (Int32.toInt_inj.mp z)
                    have z_2 := congrArg Int32.toInt c_36
                    have z_3 : ¬ (r_33 : Int32).toInt = (61 : Int32).toInt := fun z => c_38 (Int32.toInt_inj.mp z)
                    have z_4 := Int32.lt_iff_toInt_lt.mp (Int32.not_le.mp c_135)
                    have z_5 : ¬ (x_233 : Int32).toInt = (61 : Int32).toInt := fun z => c_234 (Int32.toInt_inj.mp z)
                    have z_6 : ¬ (r_245 : Int32).toInt = (0 : Int32).toInt := fun z => c_250 (Int32.toInt_inj.mp z)
                    have z_7 := congrArg Int32.toInt c_251
                    have z_8 : ¬ (r_269 : Int32).toInt = (0 : Int32).toInt := fun z => c_274 (Int32.toInt_inj.mp z)
                    have y_0 : (0 : Int32).toInt = 0 := by decide
                    have y_60 : (60 : Int32).toInt = 60 := by decide
                    have y_61 : (61 : Int32).toInt = 61 := by decide
                    have y_1 : (1 : Int32).toInt = 1 := by decide
                    have t_x_37 : x_37.toInt = (sv_28 : Int32).toInt + (1 : Int32).toInt := by rw [ex_37]; exact add_toInt (by omega) (by omega)
                    omega
                  have hr_298 : (400 * ((Mv 5) : Int32).toInt + ((Mf 3) (Mv 5).toNatClampNeg).toInt) ≤ (400 * ((Mv 5) : Int32).toInt + (sv_9 (Mv 5).toNatClampNeg).toInt) := by
                    have z_1 : ¬ (r_13 : Int32).toInt = (0 : Int32).toInt := fun z => c_18 (Int32.toInt_inj.mp z)
                    have z_2 := congrArg Int32.toInt c_36
                    have z_3 : ¬ (r_33 : Int32).toInt = (61 : Int32).toInt := fun z => c_38 (Int32.toInt_inj.mp z)
                    have z_4 := Int32.lt_iff_toInt_lt.mp (Int32.not_le.mp c_135)
                    have z_5 : ¬ (x_233 : Int32).toInt = (61 : Int32).toInt := fun z => c_234 (Int32.toInt_inj.mp z)
                    have z_6 : ¬ (r_245 : Int32).toInt = (0 : Int32).toInt := fun z => c_250 (Int32.toInt_inj.mp z)
                    have z_7 := congrArg Int32.toInt c_251
                    have z_8 : ¬ (r_269 : Int32).toInt = (0 : Int32).toInt := fun z => c_274 (Int32.toInt_inj.mp z)
                    have y_0 : (0 : Int32).toInt = 0 := by decide
                    have y_60 : (60 : Int32).toInt = 60 := by decide
                    have y_61 : (61 : Int32).toInt = 61 := by decide
                    have y_1 : (1 : Int32).toInt = 1 := by decide
                    have t_x_37 : x_37.toInt = (sv_28 : Int32).toInt + (1 : Int32).toInt := by rw [ex_37]; exact add_toInt (by omega) (by omega)
                    omega
                  have hr_299 : (400 * ((Mv 5) : Int32).toInt + ((Mf 3) (Mv 5).toNatClampNeg).toInt) ≤ (400 * ((Mv 5) : Int32).toInt + (sv_265 (Mv 5).toNatClampNeg).toInt) := by
                    have z_1 : ¬ (r_13 : Int32).toInt = (0 : Int32).toInt := fun z => c_18 (Int32.toInt_inj.mp z)
                    have z_2 := congrArg Int32.toInt c_36
                    have z_3 : ¬ (r_33 : Int32).toInt = (61 : Int32).toInt := fun z => c_38 (Int32.toInt_inj.mp z)
                    have z_4 := Int32.lt_iff_toInt_lt.mp (Int32.not_le.mp c_135)
                    have z_5 : ¬ (x_233 : Int32).toInt = (61 : Int32).toInt := fun z => c_234 (Int32.toInt_inj.mp z)
                    have z_6 : ¬ (r_245 : Int32).toInt = (0 : Int32).toInt := fun z => c_250 (Int32.toInt_inj.mp z)
                    have z_7 := congrArg Int32.toInt c_251
                    have z_8 : ¬ (r_269 : Int32).toInt = (0 : Int32).toInt := fun z => c_274 (Int32.toInt_inj.mp z)
                    have y_0 : (0 : Int32).toInt = 0 := by decide
                    have y_60 : (60 : Int32).toInt = 60 := by decide
                    have y_61 : (61 : Int32).toInt = 61 := by decide
                    have y_1 : (1 : Int32).toInt = 1 := by decide
                    have t_x_37 : x_37.toInt = (sv_28 : Int32).toInt + (1 : Int32).toInt := by rw [ex_37]; exact add_toInt (by omega) (by omega)
                    omega
                  have hp_300 : (((1 : Int32).toInt = 0 ∧ ¬ (sv_261 : Int32).toInt = 0) ∨ ((1 : Int32).toInt = 1 ∧ ((Mf 3) (Mv 5).toNatClampNeg).toInt + 1 ≤ (sv_289 (Mv 5).toNatClampNeg).toInt ∧ (sv_289 (Mv 5).toNatClampNeg).toInt + ((Mv 2) : Int32).toInt ≤ ((Mf 3) (Mv 5).toNatClampNeg).toInt + (sv_260 : Int32).toInt ∧ ((Mv 2) : Int32).toInt + 1 ≤ (sv_260 : Int32).toInt)) := by
                    have z_1 : ¬ (r_13 : Int32).toInt = (0 : Int32).toInt := fun z => c_18 (Int32.toInt_inj.mp z)
                    have z_2 := congrArg Int32.toInt c_36
                    have z_3 : ¬ (r_33 : Int32).toInt = (61 : Int32).toInt := fun z => c_38 (Int32.toInt_inj.mp z)
                    have z_4 := Int32.lt_iff_toInt_lt.mp (Int32.not_le.mp c_135)
                    have z_5 : ¬ (x_233 : Int32).toInt = (61 : Int32).toInt := fun z => c_234 (Int32.toInt_inj.mp z)
                    have z_6 : ¬ (r_245 : Int32).toInt = (0 : Int32).toInt := fun z => c_250 (Int32.toInt_inj.mp z)
                    have z_7 := congrArg Int32.toInt c_251
                    have z_8 : ¬ (r_269 : Int32).toInt = (0 : Int32).toInt := fun z => c_274 (Int32.toInt_inj.mp z)
                    have y_0 : (0 : Int32).toInt = 0 := by decide
                    have y_60 : (60 : Int32).toInt = 60 := by decide
                    have y_61 : (61 : Int32).toInt = 61 := by decide
                    have y_1 : (1 : Int32).toInt = 1 := by decide
                    have t_x_37 : x_37.toInt = (sv_28 : Int32).toInt + (1 : Int32).toInt := by rw [ex_37]; exact add_toInt (by omega) (by omega)
                    have yr : (1 : Int32).toInt = 1 := by decide
                    omega
                  have hm_301 : (1 : Int32).toInt = 1 → (Cd sv_288 sv_289 (Mv 5) b sv_263 (d + 1)) ∧ (RfO (pz_com (rB (Mf 1) (Mv 0)) (St0 (rB (Mf 1) (Mv 0)) (Mv 2) (Mv 6))) (rB (Mf 1) (Mv 0)) sv_261 sv_260 sv_263) ∧ (SgC sv_288 sv_289 (Mv 5) (ll ++ ec_com (rB (Mf 1) (Mv 0)) (St0 (rB (Mf 1) (Mv 0)) (Mv 2) (Mv 6)))) := by
                    intro h1r
                    have hr_302 : (rB (Mf 1) (Mv 0) (sv_28 : Int32).toInt.toNat = 60 ∨ rB (Mf 1) (Mv 0) (sv_28 : Int32).toInt.toNat = 61 ∨ rB (Mf 1) (Mv 0) (sv_28 : Int32).toInt.toNat = 62) := by
                      have z_1 : ¬ (r_13 : Int32).toInt = (0 : Int32).toInt := fun z => c_18 (Int32.toInt_inj.mp z)
                      have z_2 := congrArg Int32.toInt c_36
                      have z_3 : ¬ (r_33 : Int32).toInt = (61 : Int32).toInt := fun z => c_38 (Int32.toInt_inj.mp z)
                      have z_4 := Int32.lt_iff_toInt_lt.mp (Int32.not_le.mp c_135)
                      have z_5 : ¬ (x_233 : Int32).toInt = (61 : Int32).toInt := fun z => c_234 (Int32.toInt_inj.mp z)
                      have z_6 : ¬ (r_245 : Int32).toInt = (0 : Int32).toInt := fun z => c_250 (Int32.toInt_inj.mp z)
                      have z_7 := congrArg Int32.toInt c_251
                      have z_8 : ¬ (r_269 : Int32).toInt = (0 : Int32).toInt := fun z => c_274 (Int32.toInt_inj.mp z)
                      have y_0 : (0 : Int32).toInt = 0 := by decide
                      have y_60 : (60 : Int32).toInt = 60 := by decide
                      have y_61 : (61 : Int32).toInt = 61 := by decide
                      have y_1 : (1 : Int32).toInt = 1 := by decide
                      have t_x_37 : x_37.toInt = (sv_28 : Int32).toInt + (1 : Int32).toInt := by rw [ex_37]; exact add_toInt (by omega) (by omega)
                      omega
                    have rg_303 := rB_rg (n := (Mv 0)) h_bs ((sv_28 : Int32).toInt.toNat + 1)
                    have hk_304 : ((Mf 1) (x_37 : Int32).toInt.toNat).toInt = ((Mf 1) ((sv_28 : Int32).toInt.toNat + 1)).toInt := congrArg (fun z => ((Mf 1) z).toInt) (by
                      have z_1 : ¬ (r_13 : Int32).toInt = (0 : Int32).toInt := fun z => c_18 (Int32.toInt_inj.mp z)
                      have z_2 := congrArg Int32.toInt c_36
                      have z_3 : ¬ (r_33 : Int32).toInt = (61 : Int32).toInt := fun z => c_38 (Int32.toInt_inj.mp z)
                      have z_4 := Int32.lt_iff_toInt_lt.mp (Int32.not_le.mp c_135)
                      have z_5 : ¬ (x_233 : Int32).toInt = (61 : Int32).toInt := fun z => c_234 (Int32.toInt_inj.mp z)
                      have z_6 : ¬ (r_245 : Int32).toInt = (0 : Int32).toInt := fun z => c_250 (Int32.toInt_inj.mp z)
                      have z_7 := congrArg Int32.toInt c_251
                      have z_8 : ¬ (r_269 : Int32).toInt = (0 : Int32).toInt := fun z => c_274 (Int32.toInt_inj.mp z)
                      have y_0 : (0 : Int32).toInt = 0 := by decide
                      have y_60 : (60 : Int32).toInt = 60 := by decide
                      have y_61 : (61 : Int32).toInt = 61 := by decide
                      have y_1 : (1 : Int32).toInt = 1 := by decide
                      have t_x_37 : x_37.toInt = (sv_28 : Int32).toInt + (1 : Int32).toInt := by rw [ex_37]; exact add_toInt (by omega) (by omega)
                      omega)
                    have hr_305 : ((x_37 : Int32).toInt = (sv_28 : Int32).toInt + 1 ∧ ¬ ((rB (Mf 1) (Mv 0) (sv_28 : Int32).toInt.toNat = 60 ∨ rB (Mf 1) (Mv 0) (sv_28 : Int32).toInt.toNat = 62) ∧ rB (Mf 1) (Mv 0) ((sv_28 : Int32).toInt.toNat + 1) = 61)) ∨ ((x_37 : Int32).toInt = (sv_28 : Int32).toInt + 2 ∧ (rB (Mf 1) (Mv 0) (sv_28 : Int32).toInt.toNat = 60 ∨ rB (Mf 1) (Mv 0) (sv_28 : Int32).toInt.toNat = 62) ∧ rB (Mf 1) (Mv 0) ((sv_28 : Int32).toInt.toNat + 1) = 61) := by
                      have z_1 : ¬ (r_13 : Int32).toInt = (0 : Int32).toInt := fun z => c_18 (Int32.toInt_inj.mp z)
                      have z_2 := congrArg Int32.toInt c_36
                      have z_3 : ¬ (r_33 : Int32).toInt = (61 : Int32).toInt := fun z => c_38 (Int32.toInt_inj.mp z)
                      have z_4 := Int32.lt_iff_toInt_lt.mp (Int32.not_le.mp c_135)
                      have z_5 : ¬ (x_233 : Int32).toInt = (61 : Int32).toInt := fun z => c_234 (Int32.toInt_inj.mp z)
                      have z_6 : ¬ (r_245 : Int32).toInt = (0 : Int32).toInt := fun z => c_250 (Int32.toInt_inj.mp z)
                      have z_7 := congrArg Int32.toInt c_251
                      have z_8 : ¬ (r_269 : Int32).toInt = (0 : Int32).toInt := fun z => c_274 (Int32.toInt_inj.mp z)
                      have y_0 : (0 : Int32).toInt = 0 := by decide
                      have y_60 : (60 : Int32).toInt = 60 := by decide
                      have y_61 : (61 : Int32).toInt = 61 := by decide
                      have y_1 : (1 : Int32).toInt = 1 := by decide
                      have t_x_37 : x_37.toInt = (sv_28 : Int32).toInt + (1 : Int32).toInt := by rw [ex_37]; exact add_toInt (by omega) (by omega)
                      omega
                    have hr_306 : 0 ≤ (sv_7 : Int32).toInt ∧ (sv_7 : Int32).toInt < 60 ∧ (sv_243 : Int32).toInt = (sv_7 : Int32).toInt + 1 := by
                      have z_1 : ¬ (r_13 : Int32).toInt = (0 : Int32).toInt := fun z => c_18 (Int32.toInt_inj.mp z)
                      have z_2 := congrArg Int32.toInt c_36
                      have z_3 : ¬ (r_33 : Int32).toInt = (61 : Int32).toInt := fun z => c_38 (Int32.toInt_inj.mp z)
                      have z_4 := Int32.lt_iff_toInt_lt.mp (Int32.not_le.mp c_135)
                      have z_5 : ¬ (x_233 : Int32).toInt = (61 : Int32).toInt := fun z => c_234 (Int32.toInt_inj.mp z)
                      have z_6 : ¬ (r_245 : Int32).toInt = (0 : Int32).toInt := fun z => c_250 (Int32.toInt_inj.mp z)
                      have z_7 := congrArg Int32.toInt c_251
                      have z_8 : ¬ (r_269 : Int32).toInt = (0 : Int32).toInt := fun z => c_274 (Int32.toInt_inj.mp z)
                      have y_0 : (0 : Int32).toInt = 0 := by decide
                      have y_60 : (60 : Int32).toInt = 60 := by decide
                      have y_61 : (61 : Int32).toInt = 61 := by decide
                      have y_1 : (1 : Int32).toInt = 1 := by decide
                      have t_x_37 : x_37.toInt = (sv_28 : Int32).toInt + (1 : Int32).toInt := by rw [ex_37]; exact add_toInt (by omega) (by omega)
                      omega
                    have hr_307 : (rB (Mf 1) (Mv 0) (sv_28 : Int32).toInt.toNat = 60 ∨ rB (Mf 1) (Mv 0) (sv_28 : Int32).toInt.toNat = 61 ∨ rB (Mf 1) (Mv 0) (sv_28 : Int32).toInt.toNat = 62) := by
                      have z_1 : ¬ (r_13 : Int32).toInt = (0 : Int32).toInt := fun z => c_18 (Int32.toInt_inj.mp z)
                      have z_2 := congrArg Int32.toInt c_36
                      have z_3 : ¬ (r_33 : Int32).toInt = (61 : Int32).toInt := fun z => c_38 (Int32.toInt_inj.mp z)
                      have z_4 := Int32.lt_iff_toInt_lt.mp (Int32.not_le.mp c_135)
                      have z_5 : ¬ (x_233 : Int32).toInt = (61 : Int32).toInt := fun z => c_234 (Int32.toInt_inj.mp z)
                      have z_6 : ¬ (r_245 : Int32).toInt = (0 : Int32).toInt := fun z => c_250 (Int32.toInt_inj.mp z)
                      have z_7 := congrArg Int32.toInt c_251
                      have z_8 : ¬ (r_269 : Int32).toInt = (0 : Int32).toInt := fun z => c_274 (Int32.toInt_inj.mp z)
                      have y_0 : (0 : Int32).toInt = 0 := by decide
                      have y_60 : (60 : Int32).toInt = 60 := by decide
                      have y_61 : (61 : Int32).toInt = 61 := by decide
                      have y_1 : (1 : Int32).toInt = 1 := by decide
                      have t_x_37 : x_37.toInt = (sv_28 : Int32).toInt + (1 : Int32).toInt := by rw [ex_37]; exact add_toInt (by omega) (by omega)
                      omega
                    have rg_308 := rB_rg (n := (Mv 0)) h_bs ((sv_28 : Int32).toInt.toNat + 1)
                    have hk_309 : ((Mf 1) (x_37 : Int32).toInt.toNat).toInt = ((Mf 1) ((sv_28 : Int32).toInt.toNat + 1)).toInt := congrArg (fun z => ((Mf 1) z).toInt) (by
                      have z_1 : ¬ (r_13 : Int32).toInt = (0 : Int32).toInt := fun z => c_18 (Int32.toInt_inj.mp z)
                      have z_2 := congrArg Int32.toInt c_36
                      have z_3 : ¬ (r_33 : Int32).toInt = (61 : Int32).toInt := fun z => c_38 (Int32.toInt_inj.mp z)
                      have z_4 := Int32.lt_iff_toInt_lt.mp (Int32.not_le.mp c_135)
                      have z_5 : ¬ (x_233 : Int32).toInt = (61 : Int32).toInt := fun z => c_234 (Int32.toInt_inj.mp z)
                      have z_6 : ¬ (r_245 : Int32).toInt = (0 : Int32).toInt := fun z => c_250 (Int32.toInt_inj.mp z)
                      have z_7 := congrArg Int32.toInt c_251
                      have z_8 : ¬ (r_269 : Int32).toInt = (0 : Int32).toInt := fun z => c_274 (Int32.toInt_inj.mp z)
                      have y_0 : (0 : Int32).toInt = 0 := by decide
                      have y_60 : (60 : Int32).toInt = 60 := by decide
                      have y_61 : (61 : Int32).toInt = 61 := by decide
                      have y_1 : (1 : Int32).toInt = 1 := by decide
                      have t_x_37 : x_37.toInt = (sv_28 : Int32).toInt + (1 : Int32).toInt := by rw [ex_37]; exact add_toInt (by omega) (by omega)
                      omega)
                    have hr_310 : ((x_37 : Int32).toInt = (sv_28 : Int32).toInt + 1 ∧ ¬ ((rB (Mf 1) (Mv 0) (sv_28 : Int32).toInt.toNat = 60 ∨ rB (Mf 1) (Mv 0) (sv_28 : Int32).toInt.toNat = 62) ∧ rB (Mf 1) (Mv 0) ((sv_28 : Int32).toInt.toNat + 1) = 61)) ∨ ((x_37 : Int32).toInt = (sv_28 : Int32).toInt + 2 ∧ (rB (Mf 1) (Mv 0) (sv_28 : Int32).toInt.toNat = 60 ∨ rB (Mf 1) (Mv 0) (sv_28 : Int32).toInt.toNat = 62) ∧ rB (Mf 1) (Mv 0) ((sv_28 : Int32).toInt.toNat + 1) = 61) := by
                      have z_1 : ¬ (r_13 : Int32).toInt = (0 : Int32).toInt := fun z => c_18 (Int32.toInt_inj.mp z)
                      have z_2 := congrArg Int32.toInt c_36
                      have z_3 : ¬ (r_33 : Int32).toInt = (61 : Int32).toInt := fun z => c_38 (Int32.toInt_inj.mp z)
                      have z_4 := Int32.lt_iff_toInt_lt.mp (Int32.not_le.mp c_135)
                      have z_5 : ¬ (x_233 : Int32).toInt = (61 : Int32).toInt := fun z => c_234 (Int32.toInt_inj.mp z)
                      have z_6 : ¬ (r_245 : Int32).toInt = (0 : Int32).toInt := fun z => c_250 (Int32.toInt_inj.mp z)
                      have z_7 := congrArg Int32.toInt c_251
                      have z_8 : ¬ (r_269 : Int32).toInt = (0 : Int32).toInt := fun z => c_274 (Int32.toInt_inj.mp z)
                      have y_0 : (0 : Int32).toInt = 0 := by decide
                      have y_60 : (60 : Int32).toInt = 60 := by decide
                      have y_61 : (61 : Int32).toInt = 61 := by decide
                      have y_1 : (1 : Int32).toInt = 1 := by decide
                      have t_x_37 : x_37.toInt = (sv_28 : Int32).toInt + (1 : Int32).toInt := by rw [ex_37]; exact add_toInt (by omega) (by omega)
                      omega
                    have hr_311 : (rB (Mf 1) (Mv 0) (sv_28 : Int32).toInt.toNat = 60 ∧ (x_37 : Int32).toInt = (sv_28 : Int32).toInt + 1 ∧ (-7 : Int) = -7) ∨ (rB (Mf 1) (Mv 0) (sv_28 : Int32).toInt.toNat = 60 ∧ (x_37 : Int32).toInt = (sv_28 : Int32).toInt + 2 ∧ (-7 : Int) = -8) ∨ (rB (Mf 1) (Mv 0) (sv_28 : Int32).toInt.toNat = 61 ∧ (-7 : Int) = -9) ∨ (rB (Mf 1) (Mv 0) (sv_28 : Int32).toInt.toNat = 62 ∧ (x_37 : Int32).toInt = (sv_28 : Int32).toInt + 2 ∧ (-7 : Int) = -10) ∨ (rB (Mf 1) (Mv 0) (sv_28 : Int32).toInt.toNat = 62 ∧ (x_37 : Int32).toInt = (sv_28 : Int32).toInt + 1 ∧ (-7 : Int) = -11) := by
                      have z_1 : ¬ (r_13 : Int32).toInt = (0 : Int32).toInt := fun z => c_18 (Int32.toInt_inj.mp z)
                      have z_2 := congrArg Int32.toInt c_36
                      have z_3 : ¬ (r_33 : Int32).toInt = (61 : Int32).toInt := fun z => c_38 (Int32.toInt_inj.mp z)
                      have z_4 := Int32.lt_iff_toInt_lt.mp (Int32.not_le.mp c_135)
                      have z_5 : ¬ (x_233 : Int32).toInt = (61 : Int32).toInt := fun z => c_234 (Int32.toInt_inj.mp z)
                      have z_6 : ¬ (r_245 : Int32).toInt = (0 : Int32).toInt := fun z => c_250 (Int32.toInt_inj.mp z)
                      have z_7 := congrArg Int32.toInt c_251
                      have z_8 : ¬ (r_269 : Int32).toInt = (0 : Int32).toInt := fun z => c_274 (Int32.toInt_inj.mp z)
                      have y_0 : (0 : Int32).toInt = 0 := by decide
                      have y_60 : (60 : Int32).toInt = 60 := by decide
                      have y_61 : (61 : Int32).toInt = 61 := by decide
                      have y_1 : (1 : Int32).toInt = 1 := by decide
                      have t_x_37 : x_37.toInt = (sv_28 : Int32).toInt + (1 : Int32).toInt := by rw [ex_37]; exact add_toInt (by omega) (by omega)
                      omega
                    have hu_312 : SgC sv_288 sv_289 (Mv 5) (((ll ++ lsum (rB (Mf 1) (Mv 0)) (St0 (rB (Mf 1) (Mv 0)) (Mv 2) (Mv 6))) ++ lsum (rB (Mf 1) (Mv 0)) (St0 (rB (Mf 1) (Mv 0)) x_37 sv_243)) ++ [(-7)]) := by
                      rw [← elo_23, ← elo_279, ← elo_294]
                      exact pf_293
                    have hs_313 : SgC sv_288 sv_289 (Mv 5) (ll ++ ec_com (rB (Mf 1) (Mv 0)) (St0 (rB (Mf 1) (Mv 0)) (Mv 2) (Mv 6))) := by
                      rw [com_ls (o := -7) (md1 := sv_243) pf_20 pf_32 hr_307 hr_310 (ec_c_at pf_32 hr_310 hr_311)]
                      exact hu_312
                    exact ⟨pf_290, (RfO.com pf_20 pf_32 hr_302 hr_305 hr_306 pf_276), hs_313⟩
                  exact retI (v := 1) hx hb hr hlk (rfl) hP hD hS (sv_260, sv_261, sv_262, sv_263, sv_288, sv_289) ⟨_, rfl, hp_300, ha_295, ha_296, (Agr.trans (k' := (400 * ((Mv 5) : Int32).toInt + ((Mf 3) (Mv 5).toNatClampNeg).toInt)) (Agr.trans (k' := (400 * ((Mv 5) : Int32).toInt + ((Mf 3) (Mv 5).toNatClampNeg).toInt)) (Agr.mono pf_12 hr_297) pf_268 ⟨Int.le_refl _, hr_298⟩) pf_291 ⟨Int.le_refl _, hr_299⟩), hm_301, (fun h => absurd h (by decide))⟩ [1, 0, 2, 3] rfl rfl dX12_compare_174 (Nat.le_of_ble_eq_true rfl) (Nat.le_of_ble_eq_true rfl) rfl
                · skip
                  have hz_315 : (r_269 : Int32).toInt = 0 := by
                    have z_1 : ¬ (r_13 : Int32).toInt = (0 : Int32).toInt := fun z => c_18 (Int32.toInt_inj.mp z)
                    have z_2 := congrArg Int32.toInt c_36
                    have z_3 : ¬ (r_33 : Int32).toInt = (61 : Int32).toInt := fun z => c_38 (Int32.toInt_inj.mp z)
                    have z_4 := Int32.lt_iff_toInt_lt.mp (Int32.not_le.mp c_135)
                    have z_5 : ¬ (x_233 : Int32).toInt = (61 : Int32).toInt := fun z => c_234 (Int32.toInt_inj.mp z)
                    have z_6 : ¬ (r_245 : Int32).toInt = (0 : Int32).toInt := fun z => c_250 (Int32.toInt_inj.mp z)
                    have z_7 := congrArg Int32.toInt c_251
                    have z_8 := congrArg Int32.toInt c_274
                    have y_0 : (0 : Int32).toInt = 0 := by decide
                    have y_60 : (60 : Int32).toInt = 60 := by decide
                    have y_61 : (61 : Int32).toInt = 61 := by decide
                    have y_1 : (1 : Int32).toInt = 1 := by decide
                    have t_x_37 : x_37.toInt = (sv_28 : Int32).toInt + (1 : Int32).toInt := by rw [ex_37]; exact add_toInt (by omega) (by omega)
                    omega
                  obtain pf_314 := hm_273 hz_315
                  have pf_314 : RfE (pz_sum (rB (Mf 1) (Mv 0)) (St0 (rB (Mf 1) (Mv 0)) x_37 sv_243)) sv_261 := pf_314
                  refine lv_iconst (v := 0) hx hb dX12_compare_161 (by decide) ?_
                  have ha_316 : ((Mv 2) : Int32).toInt ≤ (sv_260 : Int32).toInt ∧ (sv_260 : Int32).toInt ≤ ((Mv 0) : Int32).toInt := by
                    have z_1 : ¬ (r_13 : Int32).toInt = (0 : Int32).toInt := fun z => c_18 (Int32.toInt_inj.mp z)
                    have z_2 := congrArg Int32.toInt c_36
                    have z_3 : ¬ (r_33 : Int32).toInt = (61 : Int32).toInt := fun z => c_38 (Int32.toInt_inj.mp z)
                    have z_4 := Int32.lt_iff_toInt_lt.mp (Int32.not_le.mp c_135)
                    have z_5 : ¬ (x_233 : Int32).toInt = (61 : Int32).toInt := fun z => c_234 (Int32.toInt_inj.mp z)
                    have z_6 : ¬ (r_245 : Int32).toInt = (0 : Int32).toInt := fun z => c_250 (Int32.toInt_inj.mp z)
                    have z_7 := congrArg Int32.toInt c_251
                    have z_8 := congrArg Int32.toInt c_274
                    have y_0 : (0 : Int32).toInt = 0 := by decide
                    have y_60 : (60 : Int32).toInt = 60 := by decide
                    have y_61 : (61 : Int32).toInt = 61 := by decide
                    have y_1 : (1 : Int32).toInt = 1 := by decide
                    have t_x_37 : x_37.toInt = (sv_28 : Int32).toInt + (1 : Int32).toInt := by rw [ex_37]; exact add_toInt (by omega) (by omega)
                    omega
                  have ha_317 : ((Mv 6) : Int32).toInt ≤ (sv_263 : Int32).toInt ∧ (sv_263 : Int32).toInt ≤ 60 := by
                    have z_1 : ¬ (r_13 : Int32).toInt = (0 : Int32).toInt := fun z => c_18 (Int32.toInt_inj.mp z)
                    have z_2 := congrArg Int32.toInt c_36
                    have z_3 : ¬ (r_33 : Int32).toInt = (61 : Int32).toInt := fun z => c_38 (Int32.toInt_inj.mp z)
                    have z_4 := Int32.lt_iff_toInt_lt.mp (Int32.not_le.mp c_135)
                    have z_5 : ¬ (x_233 : Int32).toInt = (61 : Int32).toInt := fun z => c_234 (Int32.toInt_inj.mp z)
                    have z_6 : ¬ (r_245 : Int32).toInt = (0 : Int32).toInt := fun z => c_250 (Int32.toInt_inj.mp z)
                    have z_7 := congrArg Int32.toInt c_251
                    have z_8 := congrArg Int32.toInt c_274
                    have y_0 : (0 : Int32).toInt = 0 := by decide
                    have y_60 : (60 : Int32).toInt = 60 := by decide
                    have y_61 : (61 : Int32).toInt = 61 := by decide
                    have y_1 : (1 : Int32).toInt = 1 := by decide
                    have t_x_37 : x_37.toInt = (sv_28 : Int32).toInt + (1 : Int32).toInt := by rw [ex_37]; exact add_toInt (by omega) (by omega)
                    omega
                  have hr_318 : (400 * ((Mv 5) : Int32).toInt + ((Mf 3) (Mv 5).toNatClampNeg).toInt) ≤ (400 * ((Mv 5) : Int32).toInt + ((Mf 3) (Mv 5).toNatClampNeg).toInt) := by
                    have z_1 : ¬ (r_13 : Int32).toInt = (0 : Int32).toInt := fun z => c_18 (Int32.toInt_inj.mp z)
                    have z_2 := congrArg Int32.toInt c_36
                    have z_3 : ¬ (r_33 : Int32).toInt = (61 : Int32).toInt := fun z => c_38 (Int32.toInt_inj.mp z)
                    have z_4 := Int32.lt_iff_toInt_lt.mp (Int32.not_le.mp c_135)
                    have z_5 : ¬ (x_233 : Int32).toInt = (61 : Int32).toInt := fun z => c_234 (Int32.toInt_inj.mp z)
                    have z_6 : ¬ (r_245 : Int32).toInt = (0 : Int32).toInt := fun z => c_250 (Int32.toInt_inj.mp z)
                    have z_7 := congrArg Int32.toInt c_251
                    have z_8 := congrArg Int32.toInt c_274
                    have y_0 : (0 : Int32).toInt = 0 := by decide
                    have y_60 : (60 : Int32).toInt = 60 := by decide
                    have y_61 : (61 : Int32).toInt = 61 := by decide
                    have y_1 : (1 : Int32).toInt = 1 := by decide
                    have t_x_37 : x_37.toInt = (sv_28 : Int32).toInt + (1 : Int32).toInt := by rw [ex_37]; exact add_toInt (by omega) (by omega)
                    omega
                  have hr_319 : (400 * ((Mv 5) : Int32).toInt + ((Mf 3) (Mv 5).toNatClampNeg).toInt) ≤ (400 * ((Mv 5) : Int32).toInt + (sv_9 (Mv 5).toNatClampNeg).toInt) := by
                    have z_1 : ¬ (r_13 : Int32).toInt = (0 : Int32).toInt := fun z => c_18 (Int32.toInt_inj.mp z)
                    have z_2 := congrArg Int32.toInt c_36
                    have z_3 : ¬ (r_33 : Int32).toInt = (61 : Int32).toInt := fun z => c_38 (Int32.toInt_inj.mp z)
                    have z_4 := Int32.lt_iff_toInt_lt.mp (Int32.not_le.mp c_135)
                    have z_5 : ¬ (x_233 : Int32).toInt = (61 : Int32).toInt := fun z => c_234 (Int32.toInt_inj.mp z)
                    have z_6 : ¬ (r_245 : Int32).toInt = (0 : Int32).toInt := fun z => c_250 (Int32.toInt_inj.mp z)
                    have z_7 := congrArg Int32.toInt c_251
                    have z_8 := congrArg Int32.toInt c_274
                    have y_0 : (0 : Int32).toInt = 0 := by decide
                    have y_60 : (60 : Int32).toInt = 60 := by decide
                    have y_61 : (61 : Int32).toInt = 61 := by decide
                    have y_1 : (1 : Int32).toInt = 1 := by decide
                    have t_x_37 : x_37.toInt = (sv_28 : Int32).toInt + (1 : Int32).toInt := by rw [ex_37]; exact add_toInt (by omega) (by omega)
                    omega
                  have hp_320 : (((0 : Int32).toInt = 0 ∧ ¬ (sv_261 : Int32).toInt = 0) ∨ ((0 : Int32).toInt = 1 ∧ ((Mf 3) (Mv 5).toNatClampNeg).toInt + 1 ≤ (sv_265 (Mv 5).toNatClampNeg).toInt ∧ (sv_265 (Mv 5).toNatClampNeg).toInt + ((Mv 2) : Int32).toInt ≤ ((Mf 3) (Mv 5).toNatClampNeg).toInt + (sv_260 : Int32).toInt ∧ ((Mv 2) : Int32).toInt + 1 ≤ (sv_260 : Int32).toInt)) := by
                    have z_1 : ¬ (r_13 : Int32).toInt = (0 : Int32).toInt := fun z => c_18 (Int32.toInt_inj.mp z)
                    have z_2 := congrArg Int32.toInt c_36
                    have z_3 : ¬ (r_33 : Int32).toInt = (61 : Int32).toInt := fun z => c_38 (Int32.toInt_inj.mp z)
                    have z_4 := Int32.lt_iff_toInt_lt.mp (Int32.not_le.mp c_135)
                    have z_5 : ¬ (x_233 : Int32).toInt = (61 : Int32).toInt := fun z => c_234 (Int32.toInt_inj.mp z)
                    have z_6 : ¬ (r_245 : Int32).toInt = (0 : Int32).toInt := fun z => c_250 (Int32.toInt_inj.mp z)
                    have z_7 := congrArg Int32.toInt c_251
                    have z_8 := congrArg Int32.toInt c_274
                    have y_0 : (0 : Int32).toInt = 0 := by decide
                    have y_60 : (60 : Int32).toInt = 60 := by decide
                    have y_61 : (61 : Int32).toInt = 61 := by decide
                    have y_1 : (1 : Int32).toInt = 1 := by decide
                    have t_x_37 : x_37.toInt = (sv_28 : Int32).toInt + (1 : Int32).toInt := by rw [ex_37]; exact add_toInt (by omega) (by omega)
                    omega
                  have hm_321 : (0 : Int32).toInt = 0 → (RfE (pz_com (rB (Mf 1) (Mv 0)) (St0 (rB (Mf 1) (Mv 0)) (Mv 2) (Mv 6))) sv_261) := by
                    intro h1r
                    have hr_322 : (rB (Mf 1) (Mv 0) (sv_28 : Int32).toInt.toNat = 60 ∨ rB (Mf 1) (Mv 0) (sv_28 : Int32).toInt.toNat = 61 ∨ rB (Mf 1) (Mv 0) (sv_28 : Int32).toInt.toNat = 62) := by
                      have z_1 : ¬ (r_13 : Int32).toInt = (0 : Int32).toInt := fun z => c_18 (Int32.toInt_inj.mp z)
                      have z_2 := congrArg Int32.toInt c_36
                      have z_3 : ¬ (r_33 : Int32).toInt = (61 : Int32).toInt := fun z => c_38 (Int32.toInt_inj.mp z)
                      have z_4 := Int32.lt_iff_toInt_lt.mp (Int32.not_le.mp c_135)
                      have z_5 : ¬ (x_233 : Int32).toInt = (61 : Int32).toInt := fun z => c_234 (Int32.toInt_inj.mp z)
                      have z_6 : ¬ (r_245 : Int32).toInt = (0 : Int32).toInt := fun z => c_250 (Int32.toInt_inj.mp z)
                      have z_7 := congrArg Int32.toInt c_251
                      have z_8 := congrArg Int32.toInt c_274
                      have y_0 : (0 : Int32).toInt = 0 := by decide
                      have y_60 : (60 : Int32).toInt = 60 := by decide
                      have y_61 : (61 : Int32).toInt = 61 := by decide
                      have y_1 : (1 : Int32).toInt = 1 := by decide
                      have t_x_37 : x_37.toInt = (sv_28 : Int32).toInt + (1 : Int32).toInt := by rw [ex_37]; exact add_toInt (by omega) (by omega)
                      omega
                    have rg_323 := rB_rg (n := (Mv 0)) h_bs ((sv_28 : Int32).toInt.toNat + 1)
                    have hk_324 : ((Mf 1) (x_37 : Int32).toInt.toNat).toInt = ((Mf 1) ((sv_28 : Int32).toInt.toNat + 1)).toInt := congrArg (fun z => ((Mf 1) z).toInt) (by
                      have z_1 : ¬ (r_13 : Int32).toInt = (0 : Int32).toInt := fun z => c_18 (Int32.toInt_inj.mp z)
                      have z_2 := congrArg Int32.toInt c_36
                      have z_3 : ¬ (r_33 : Int32).toInt = (61 : Int32).toInt := fun z => c_38 (Int32.toInt_inj.mp z)
                      have z_4 := Int32.lt_iff_toInt_lt.mp (Int32.not_le.mp c_135)
                      have z_5 : ¬ (x_233 : Int32).toInt = (61 : Int32).toInt := fun z => c_234 (Int32.toInt_inj.mp z)
                      have z_6 : ¬ (r_245 : Int32).toInt = (0 : Int32).toInt := fun z => c_250 (Int32.toInt_inj.mp z)
                      have z_7 := congrArg Int32.toInt c_251
                      have z_8 := congrArg Int32.toInt c_274
                      have y_0 : (0 : Int32).toInt = 0 := by decide
                      have y_60 : (60 : Int32).toInt = 60 := by decide
                      have y_61 : (61 : Int32).toInt = 61 := by decide
                      have y_1 : (1 : Int32).toInt = 1 := by decide
                      have t_x_37 : x_37.toInt = (sv_28 : Int32).toInt + (1 : Int32).toInt := by rw [ex_37]; exact add_toInt (by omega) (by omega)
                      omega)
                    have hr_325 : ((x_37 : Int32).toInt = (sv_28 : Int32).toInt + 1 ∧ ¬ ((rB (Mf 1) (Mv 0) (sv_28 : Int32).toInt.toNat = 60 ∨ rB (Mf 1) (Mv 0) (sv_28 : Int32).toInt.toNat = 62) ∧ rB (Mf 1) (Mv 0) ((sv_28 : Int32).toInt.toNat + 1) = 61)) ∨ ((x_37 : Int32).toInt = (sv_28 : Int32).toInt + 2 ∧ (rB (Mf 1) (Mv 0) (sv_28 : Int32).toInt.toNat = 60 ∨ rB (Mf 1) (Mv 0) (sv_28 : Int32).toInt.toNat = 62) ∧ rB (Mf 1) (Mv 0) ((sv_28 : Int32).toInt.toNat + 1) = 61) := by
                      have z_1 : ¬ (r_13 : Int32).toInt = (0 : Int32).toInt := fun z => c_18 (Int32.toInt_inj.mp z)
                      have z_2 := congrArg Int32.toInt c_36
                      have z_3 : ¬ (r_33 : Int32).toInt = (61 : Int32).toInt := fun z => c_38 (Int32.toInt_inj.mp z)
                      have z_4 := Int32.lt_iff_toInt_lt.mp (Int32.not_le.mp c_135)
                      have z_5 : ¬ (x_233 : Int32).toInt = (61 : Int32).toInt := fun z => c_234 (Int32.toInt_inj.mp z)
                      have z_6 : ¬ (r_245 : Int32).toInt = (0 : Int32).toInt := fun z => c_250 (Int32.toInt_inj.mp z)
                      have z_7 := congrArg Int32.toInt c_251
                      have z_8 := congrArg Int32.toInt c_274
                      have y_0 : (0 : Int32).toInt = 0 := by decide
                      have y_60 : (60 : Int32).toInt = 60 := by decide
                      have y_61 : (61 : Int32).toInt = 61 := by decide
                      have y_1 : (1 : Int32).toInt = 1 := by decide
                      have t_x_37 : x_37.toInt = (sv_28 : Int32).toInt + (1 : Int32).toInt := by rw [ex_37]; exact add_toInt (by omega) (by omega)
                      omega
                    have hr_326 : 0 ≤ (sv_7 : Int32).toInt ∧ (sv_7 : Int32).toInt < 60 ∧ (sv_243 : Int32).toInt = (sv_7 : Int32).toInt + 1 := by
                      have z_1 : ¬ (r_13 : Int32).toInt = (0 : Int32).toInt := fun z => c_18 (Int32.toInt_inj.mp z)
                      have z_2 := congrArg Int32.toInt c_36
                      have z_3 : ¬ (r_33 : Int32).toInt = (61 : Int32).toInt := fun z => c_38 (Int32.toInt_inj.mp z)
                      have z_4 := Int32.lt_iff_toInt_lt.mp (Int32.not_le.mp c_135)
                      have z_5 : ¬ (x_233 : Int32).toInt = (61 : Int32).toInt := fun z => c_234 (Int32.toInt_inj.mp z)
                      have z_6 : ¬ (r_245 : Int32).toInt = (0 : Int32).toInt := fun z => c_250 (Int32.toInt_inj.mp z)
                      have z_7 := congrArg Int32.toInt c_251
                      have z_8 := congrArg Int32.toInt c_274
                      have y_0 : (0 : Int32).toInt = 0 := by decide
                      have y_60 : (60 : Int32).toInt = 60 := by decide
                      have y_61 : (61 : Int32).toInt = 61 := by decide
                      have y_1 : (1 : Int32).toInt = 1 := by decide
                      have t_x_37 : x_37.toInt = (sv_28 : Int32).toInt + (1 : Int32).toInt := by rw [ex_37]; exact add_toInt (by omega) (by omega)
                      omega
                    exact (RfE.com2 pf_20 pf_32 hr_322 hr_325 hr_326 pf_314)
                  exact retI (v := 0) hx hb hr hlk (rfl) hP hD hS (sv_260, sv_261, sv_262, sv_263, sv_264, sv_265) ⟨_, rfl, hp_320, ha_316, ha_317, (Agr.trans (k' := (400 * ((Mv 5) : Int32).toInt + ((Mf 3) (Mv 5).toNatClampNeg).toInt)) (Agr.mono pf_12 hr_318) pf_268 ⟨Int.le_refl _, hr_319⟩), (fun h => absurd h (by decide)), hm_321⟩ [0, 1, 2, 3] rfl rfl dX12_compare_162 (Nat.le_of_ble_eq_true rfl) (Nat.le_of_ble_eq_true rfl) rfl
            · skip
              refine lv_iconst (v := 0) hx hb dX12_compare_113 (by decide) ?_
              have ha_327 : ((Mv 2) : Int32).toInt ≤ (x_37 : Int32).toInt ∧ (x_37 : Int32).toInt ≤ ((Mv 0) : Int32).toInt := by
                have z_1 : ¬ (r_13 : Int32).toInt = (0 : Int32).toInt := fun z => c_18 (Int32.toInt_inj.mp z)
                have z_2 := congrArg Int32.toInt c_36
                have z_3 : ¬ (r_33 : Int32).toInt = (61 : Int32).toInt := fun z => c_38 (Int32.toInt_inj.mp z)
                have z_4 := Int32.lt_iff_toInt_lt.mp (Int32.not_le.mp c_135)
                have z_5 : ¬ (x_233 : Int32).toInt = (61 : Int32).toInt := fun z => c_234 (Int32.toInt_inj.mp z)
                have z_6 := congrArg Int32.toInt c_250
                have y_0 : (0 : Int32).toInt = 0 := by decide
                have y_60 : (60 : Int32).toInt = 60 := by decide
                have y_61 : (61 : Int32).toInt = 61 := by decide
                have y_1 : (1 : Int32).toInt = 1 := by decide
                have t_x_37 : x_37.toInt = (sv_28 : Int32).toInt + (1 : Int32).toInt := by rw [ex_37]; exact add_toInt (by omega) (by omega)
                omega
              have ha_328 : ((Mv 6) : Int32).toInt ≤ (sv_243 : Int32).toInt ∧ (sv_243 : Int32).toInt ≤ 60 := by
                have z_1 : ¬ (r_13 : Int32).toInt = (0 : Int32).toInt := fun z => c_18 (Int32.toInt_inj.mp z)
                have z_2 := congrArg Int32.toInt c_36
                have z_3 : ¬ (r_33 : Int32).toInt = (61 : Int32).toInt := fun z => c_38 (Int32.toInt_inj.mp z)
                have z_4 := Int32.lt_iff_toInt_lt.mp (Int32.not_le.mp c_135)
                have z_5 : ¬ (x_233 : Int32).toInt = (61 : Int32).toInt := fun z => c_234 (Int32.toInt_inj.mp z)
                have z_6 := congrArg Int32.toInt c_250
                have y_0 : (0 : Int32).toInt = 0 := by decide
                have y_60 : (60 : Int32).toInt = 60 := by decide
                have y_61 : (61 : Int32).toInt = 61 := by decide
                have y_1 : (1 : Int32).toInt = 1 := by decide
                have t_x_37 : x_37.toInt = (sv_28 : Int32).toInt + (1 : Int32).toInt := by rw [ex_37]; exact add_toInt (by omega) (by omega)
                omega
              have hp_329 : (((0 : Int32).toInt = 0 ∧ ¬ (sv_242 : Int32).toInt = 0) ∨ ((0 : Int32).toInt = 1 ∧ ((Mf 3) (Mv 5).toNatClampNeg).toInt + 1 ≤ (sv_9 (Mv 5).toNatClampNeg).toInt ∧ (sv_9 (Mv 5).toNatClampNeg).toInt + ((Mv 2) : Int32).toInt ≤ ((Mf 3) (Mv 5).toNatClampNeg).toInt + (x_37 : Int32).toInt ∧ ((Mv 2) : Int32).toInt + 1 ≤ (x_37 : Int32).toInt)) := by
                have z_1 : ¬ (r_13 : Int32).toInt = (0 : Int32).toInt := fun z => c_18 (Int32.toInt_inj.mp z)
                have z_2 := congrArg Int32.toInt c_36
                have z_3 : ¬ (r_33 : Int32).toInt = (61 : Int32).toInt := fun z => c_38 (Int32.toInt_inj.mp z)
                have z_4 := Int32.lt_iff_toInt_lt.mp (Int32.not_le.mp c_135)
                have z_5 : ¬ (x_233 : Int32).toInt = (61 : Int32).toInt := fun z => c_234 (Int32.toInt_inj.mp z)
                have z_6 := congrArg Int32.toInt c_250
                have y_0 : (0 : Int32).toInt = 0 := by decide
                have y_60 : (60 : Int32).toInt = 60 := by decide
                have y_61 : (61 : Int32).toInt = 61 := by decide
                have y_1 : (1 : Int32).toInt = 1 := by decide
                have t_x_37 : x_37.toInt = (sv_28 : Int32).toInt + (1 : Int32).toInt := by rw [ex_37]; exact add_toInt (by omega) (by omega)
                omega
              have hm_330 : (0 : Int32).toInt = 0 → (RfE (pz_com (rB (Mf 1) (Mv 0)) (St0 (rB (Mf 1) (Mv 0)) (Mv 2) (Mv 6))) sv_242) := by
                intro h1r
                have hr_331 : (rB (Mf 1) (Mv 0) (sv_28 : Int32).toInt.toNat = 60 ∨ rB (Mf 1) (Mv 0) (sv_28 : Int32).toInt.toNat = 61 ∨ rB (Mf 1) (Mv 0) (sv_28 : Int32).toInt.toNat = 62) := by
                  have z_1 : ¬ (r_13 : Int32).toInt = (0 : Int32).toInt := fun z => c_18 (Int32.toInt_inj.mp z)
                  have z_2 := congrArg Int32.toInt c_36
                  have z_3 : ¬ (r_33 : Int32).toInt = (61 : Int32).toInt := fun z => c_38 (Int32.toInt_inj.mp z)
                  have z_4 := Int32.lt_iff_toInt_lt.mp (Int32.not_le.mp c_135)
                  have z_5 : ¬ (x_233 : Int32).toInt = (61 : Int32).toInt := fun z => c_234 (Int32.toInt_inj.mp z)
                  have z_6 := congrArg Int32.toInt c_250
                  have y_0 : (0 : Int32).toInt = 0 := by decide
                  have y_60 : (60 : Int32).toInt = 60 := by decide
                  have y_61 : (61 : Int32).toInt = 61 := by decide
                  have y_1 : (1 : Int32).toInt = 1 := by decide
                  have t_x_37 : x_37.toInt = (sv_28 : Int32).toInt + (1 : Int32).toInt := by rw [ex_37]; exact add_toInt (by omega) (by omega)
                  omega
                have hr_332 : 60 ≤ (sv_7 : Int32).toInt := by
                  have z_1 : ¬ (r_13 : Int32).toInt = (0 : Int32).toInt := fun z => c_18 (Int32.toInt_inj.mp z)
                  have z_2 := congrArg Int32.toInt c_36
                  have z_3 : ¬ (r_33 : Int32).toInt = (61 : Int32).toInt := fun z => c_38 (Int32.toInt_inj.mp z)
                  have z_4 := Int32.lt_iff_toInt_lt.mp (Int32.not_le.mp c_135)
                  have z_5 : ¬ (x_233 : Int32).toInt = (61 : Int32).toInt := fun z => c_234 (Int32.toInt_inj.mp z)
                  have z_6 := congrArg Int32.toInt c_250
                  have y_0 : (0 : Int32).toInt = 0 := by decide
                  have y_60 : (60 : Int32).toInt = 60 := by decide
                  have y_61 : (61 : Int32).toInt = 61 := by decide
                  have y_1 : (1 : Int32).toInt = 1 := by decide
                  have t_x_37 : x_37.toInt = (sv_28 : Int32).toInt + (1 : Int32).toInt := by rw [ex_37]; exact add_toInt (by omega) (by omega)
                  omega
                have hi_333 : (sv_242 : Int32).toInt = 1 + 8 * (sv_28 : Int32).toInt + 3 := by
                  have z_1 : ¬ (r_13 : Int32).toInt = (0 : Int32).toInt := fun z => c_18 (Int32.toInt_inj.mp z)
                  have z_2 := congrArg Int32.toInt c_36
                  have z_3 : ¬ (r_33 : Int32).toInt = (61 : Int32).toInt := fun z => c_38 (Int32.toInt_inj.mp z)
                  have z_4 := Int32.lt_iff_toInt_lt.mp (Int32.not_le.mp c_135)
                  have z_5 : ¬ (x_233 : Int32).toInt = (61 : Int32).toInt := fun z => c_234 (Int32.toInt_inj.mp z)
                  have z_6 := congrArg Int32.toInt c_250
                  have y_0 : (0 : Int32).toInt = 0 := by decide
                  have y_60 : (60 : Int32).toInt = 60 := by decide
                  have y_61 : (61 : Int32).toInt = 61 := by decide
                  have y_1 : (1 : Int32).toInt = 1 := by decide
                  have t_x_37 : x_37.toInt = (sv_28 : Int32).toInt + (1 : Int32).toInt := by rw [ex_37]; exact add_toInt (by omega) (by omega)
                  omega
                exact (RfE.com3 pf_20 pf_32 hr_331 hr_332 hi_333)
              exact retI (v := 0) hx hb hr hlk (rfl) hP hD hS (x_37, sv_242, sv_6, sv_243, sv_8, sv_9) ⟨_, rfl, hp_329, ha_327, ha_328, pf_12, (fun h => absurd h (by decide)), hm_330⟩ [3, 2, 0, 1] rfl rfl dX12_compare_114 (Nat.le_of_ble_eq_true rfl) (Nat.le_of_ble_eq_true rfl) rfl
          · skip
            refine lv_iconst (v := 1) hx hb dX12_compare_85 (by decide) ?_
            refine lv_goto (tgt := 90) hx hb dX12_compare_86 (by decide) ?_
            refine lv_istore_n (lv' := [(3, .int 1), (2, .int sv_28), (1, .int r_33), (0, .ref (Ma 0))]) hx hb dX12_compare_90 rfl hl (by decide) rfl (fun ls hl₀ => ?_)
            replace hl := hl₀
            clear hl₀
            refine lv_iload_n hx hb dX12_compare_91 rfl (lv_at hl 0 rfl) ?_
            refine lv_if_eq (tgt := 105) hx hb dX12_compare_92 (by decide) (fun c_334 => absurd c_334 (by decide)) (fun c_334 => ?_)
            refine lv_aload_n hx hb dX12_compare_95 rfl (lv_at hl 3 rfl) ?_
            refine lv_dup hx hb dX12_compare_96 rfl ?_
            refine gf_X12_87 hx hb hts hown hK hP 2 rfl rfl dX12_compare_97 ?_
            refine lv_iconst (v := 1) hx hb dX12_compare_100 (by decide) ?_
            refine lv_iadd hx hb dX12_compare_101 ?_
            refine lv_topi (fun x_335 ex_335 => ?_)
            refine pf_X12_87 hx hb hts hown hK hP hD hS 2 rfl (Nat.le_of_ble_eq_true rfl) rfl rfl dX12_compare_102 (fun H locs hP₀ hD₀ hS₀ => ?_)
            replace hP : va_P D classes [((Ma 2), .inl (tc 0, 2400, .inl sv_8)), ((Ma 3), .inl (tc 0, 7, .inl sv_9)), ((Ma 0), .inr (12, [.ref (Ma 1), .int (Mv 0), .int (Mv 1), .ref (Ma 2), .ref (Ma 3), .ref (Ma 4), .ref (Ma 5), .ref (Ma 6), .int x_335, .int sv_5, .int sv_6, .int (Mv 5), .int sv_7, .int (Mv 7), .int (Mv 8), .ref (Ma 7), .int (Mv 9), .ref (Ma 8), .int (Mv 10), .ref (Ma 9), .ref (Ma 10), .int (Mv 11), .int (Mv 12), .int (Mv 13), .ref (Ma 11), .int (Mv 14), .ref (Ma 12), .ref (Ma 13), .ref (Ma 14), .ref (Ma 15), .ref (Ma 16), .long (Mj 0), .ref (Ma 17), .ref (Ma 18), .ref (Ma 19), .ref (Ma 20)])), ((Ma 1), .inl (tc 2, 400, .inl (Mf 1)))] H := hP₀
            replace hD : va_D A [((Ma 2), .inl (tc 0, 2400, .inl sv_8)), ((Ma 3), .inl (tc 0, 7, .inl sv_9)), ((Ma 0), .inr (12, [.ref (Ma 1), .int (Mv 0), .int (Mv 1), .ref (Ma 2), .ref (Ma 3), .ref (Ma 4), .ref (Ma 5), .ref (Ma 6), .int x_335, .int sv_5, .int sv_6, .int (Mv 5), .int sv_7, .int (Mv 7), .int (Mv 8), .ref (Ma 7), .int (Mv 9), .ref (Ma 8), .int (Mv 10), .ref (Ma 9), .ref (Ma 10), .int (Mv 11), .int (Mv 12), .int (Mv 13), .ref (Ma 11), .int (Mv 14), .ref (Ma 12), .ref (Ma 13), .ref (Ma 14), .ref (Ma 15), .ref (Ma 16), .long (Mj 0), .ref (Ma 17), .ref (Ma 18), .ref (Ma 19), .ref (Ma 20)])), ((Ma 1), .inl (tc 2, 400, .inl (Mf 1)))] := hD₀
            replace hS := hS₀
            clear hP₀ hD₀ hS₀
            have tp_x_335 : (x_335 : Int32).toInt = (x_37 : Int32).toInt + 1 := by
              have z_1 : ¬ (r_13 : Int32).toInt = (0 : Int32).toInt := fun z => c_18 (Int32.toInt_inj.mp z)
              have z_2 := congrArg Int32.toInt c_36
              have z_3 : ¬ (r_33 : Int32).toInt = (61 : Int32).toInt := fun z => c_38 (Int32.toInt_inj.mp z)
              have z_4 := Int32.lt_iff_toInt_lt.mp (Int32.not_le.mp c_135)
              have z_5 := congrArg Int32.toInt c_234
              have y_0 : (0 : Int32).toInt = 0 := by decide
              have y_60 : (60 : Int32).toInt = 60 := by decide
              have y_61 : (61 : Int32).toInt = 61 := by decide
              have y_1 : (1 : Int32).toInt = 1 := by decide
              have t_x_37 : x_37.toInt = (sv_28 : Int32).toInt + (1 : Int32).toInt := by rw [ex_37]; exact add_toInt (by omega) (by omega)
              have t_x_335 : x_335.toInt = (x_37 : Int32).toInt + (1 : Int32).toInt := by rw [ex_335]; exact add_toInt (by omega) (by omega)
              omega
            refine lv_aload_n hx hb dX12_compare_105 rfl (lv_at hl 3 rfl) ?_
            refine lv_iload_n hx hb dX12_compare_106 rfl (lv_at hl 1 rfl) ?_
            have ha_336 : 0 ≤ sv_28.toInt ∧ sv_28.toInt ≤ 400 := by
              have z_1 : ¬ (r_13 : Int32).toInt = (0 : Int32).toInt := fun z => c_18 (Int32.toInt_inj.mp z)
              have z_2 := congrArg Int32.toInt c_36
              have z_3 : ¬ (r_33 : Int32).toInt = (61 : Int32).toInt := fun z => c_38 (Int32.toInt_inj.mp z)
              have z_4 := Int32.lt_iff_toInt_lt.mp (Int32.not_le.mp c_135)
              have z_5 := congrArg Int32.toInt c_234
              have y_0 : (0 : Int32).toInt = 0 := by decide
              have y_60 : (60 : Int32).toInt = 60 := by decide
              have y_61 : (61 : Int32).toInt = 61 := by decide
              have y_1 : (1 : Int32).toInt = 1 := by decide
              have t_x_37 : x_37.toInt = (sv_28 : Int32).toInt + (1 : Int32).toInt := by rw [ex_37]; exact add_toInt (by omega) (by omega)
              omega
            have ha_337 : 0 ≤ (sv_7 : Int32).toInt ∧ (sv_7 : Int32).toInt ≤ 60 := by
              have z_1 : ¬ (r_13 : Int32).toInt = (0 : Int32).toInt := fun z => c_18 (Int32.toInt_inj.mp z)
              have z_2 := congrArg Int32.toInt c_36
              have z_3 : ¬ (r_33 : Int32).toInt = (61 : Int32).toInt := fun z => c_38 (Int32.toInt_inj.mp z)
              have z_4 := Int32.lt_iff_toInt_lt.mp (Int32.not_le.mp c_135)
              have z_5 := congrArg Int32.toInt c_234
              have y_0 : (0 : Int32).toInt = 0 := by decide
              have y_60 : (60 : Int32).toInt = 60 := by decide
              have y_61 : (61 : Int32).toInt = 61 := by decide
              have y_1 : (1 : Int32).toInt = 1 := by decide
              have t_x_37 : x_37.toInt = (sv_28 : Int32).toInt + (1 : Int32).toInt := by rw [ex_37]; exact add_toInt (by omega) (by omega)
              omega
            have ha_338 : (sv_5 : Int32).toInt = 0 := by
              have z_1 : ¬ (r_13 : Int32).toInt = (0 : Int32).toInt := fun z => c_18 (Int32.toInt_inj.mp z)
              have z_2 := congrArg Int32.toInt c_36
              have z_3 : ¬ (r_33 : Int32).toInt = (61 : Int32).toInt := fun z => c_38 (Int32.toInt_inj.mp z)
              have z_4 := Int32.lt_iff_toInt_lt.mp (Int32.not_le.mp c_135)
              have z_5 := congrArg Int32.toInt c_234
              have y_0 : (0 : Int32).toInt = 0 := by decide
              have y_60 : (60 : Int32).toInt = 60 := by decide
              have y_61 : (61 : Int32).toInt = 61 := by decide
              have y_1 : (1 : Int32).toInt = 1 := by decide
              have t_x_37 : x_37.toInt = (sv_28 : Int32).toInt + (1 : Int32).toInt := by rw [ex_37]; exact add_toInt (by omega) (by omega)
              omega
            refine cV (a := (Ma 0)) (As := [.int sv_28]) (rest := []) (wr := [((Ma 2), .inl (tc 0, 2400, .inl sv_8)), ((Ma 3), .inl (tc 0, 7, .inl sv_9)), ((Ma 1), .inl (tc 2, 400, .inl (Mf 1)))]) ⟨hx, hb, hml, hown, hts⟩ hK hX hA (cu_fX12_makes l D tc sk (Ma 0) (Ma 1) (Ma 2) (Ma 3) (Ma 4) (Ma 5) (Ma 6) (Ma 7) (Ma 8) (Ma 9) (Ma 10) (Ma 11) (Ma 12) (Ma 13) (Ma 14) (Ma 15) (Ma 16) (Ma 17) (Ma 18) (Ma 19) (Ma 20) (Mv 0) (Mv 1) x_335 sv_5 sv_6 (Mv 5) sv_7 (Mv 7) (Mv 8) (Mv 9) (Mv 10) (Mv 11) (Mv 12) (Mv 13) (Mv 14) (Mj 0) sv_28 ha_336 ha_337 ha_338) k_1292 k_1289 k_1291 k_45 k_106 pl_X12_makes ⟨Nat.le_of_ble_eq_true rfl, Nat.le_of_ble_eq_true rfl⟩ rfl rfl (va_recv hK hP (ci := 12) (q0 := 2) rfl rfl) hP hD hS [2] [0, 1, 3] rfl rfl rfl rfl rfl (by decide) rfl hl.1 rfl (Nat.le_of_ble_eq_true rfl) dX12_compare_107 ⟨Nat.le_of_ble_eq_true rfl, Nat.le_of_ble_eq_true rfl⟩ (fun v_339 u_340 H locs hv_341 hP₀ hD₀ hS₀ => ?_)
            obtain ⟨sv_342, sv_343⟩ := u_340
            obtain ⟨r_345, rfl, he_346, pf_344⟩ := hv_341
            have he_346 : ((r_345.toInt = 0 ∧ ¬ (sv_342 : Int32).toInt = 0 ∧ sv_7.toInt = 60 ∧ (sv_342 : Int32).toInt = 1 + 8 * sv_28.toInt + 3) ∨ (r_345.toInt = 1 ∧ (sv_343 : Int32).toInt = sv_7.toInt + 1 ∧ sv_7.toInt < 60 ∧ (sv_342 : Int32).toInt = 0)) := he_346
            have pf_344 : (sv_7 : Int32).toInt ≤ (sv_343 : Int32).toInt ∧ (sv_343 : Int32).toInt ≤ 60 := pf_344
            refine W.eq (g2 := F0 m 110 ls [.int r_345]) rfl ?_
            replace hP : va_P D classes [((Ma 2), .inl (tc 0, 2400, .inl sv_8)), ((Ma 3), .inl (tc 0, 7, .inl sv_9)), ((Ma 1), .inl (tc 2, 400, .inl (Mf 1))), ((Ma 0), .inr (12, [.ref (Ma 1), .int (Mv 0), .int (Mv 1), .ref (Ma 2), .ref (Ma 3), .ref (Ma 4), .ref (Ma 5), .ref (Ma 6), .int x_335, .int sv_342, .int sv_6, .int (Mv 5), .int sv_343, .int (Mv 7), .int (Mv 8), .ref (Ma 7), .int (Mv 9), .ref (Ma 8), .int (Mv 10), .ref (Ma 9), .ref (Ma 10), .int (Mv 11), .int (Mv 12), .int (Mv 13), .ref (Ma 11), .int (Mv 14), .ref (Ma 12), .ref (Ma 13), .ref (Ma 14), .ref (Ma 15), .ref (Ma 16), .long (Mj 0), .ref (Ma 17), .ref (Ma 18), .ref (Ma 19), .ref (Ma 20)]))] H := hP₀
            replace hD : va_D A [((Ma 2), .inl (tc 0, 2400, .inl sv_8)), ((Ma 3), .inl (tc 0, 7, .inl sv_9)), ((Ma 1), .inl (tc 2, 400, .inl (Mf 1))), ((Ma 0), .inr (12, [.ref (Ma 1), .int (Mv 0), .int (Mv 1), .ref (Ma 2), .ref (Ma 3), .ref (Ma 4), .ref (Ma 5), .ref (Ma 6), .int x_335, .int sv_342, .int sv_6, .int (Mv 5), .int sv_343, .int (Mv 7), .int (Mv 8), .ref (Ma 7), .int (Mv 9), .ref (Ma 8), .int (Mv 10), .ref (Ma 9), .ref (Ma 10), .int (Mv 11), .int (Mv 12), .int (Mv 13), .ref (Ma 11), .int (Mv 14), .ref (Ma 12), .ref (Ma 13), .ref (Ma 14), .ref (Ma 15), .ref (Ma 16), .long (Mj 0), .ref (Ma 17), .ref (Ma 18), .ref (Ma 19), .ref (Ma 20)]))] := hD₀
            replace hS := hS₀
            clear hP₀ hD₀ hS₀
            have hr_349 : (sv_7 : Int32).toInt ≤ (sv_343 : Int32).toInt ∧ (sv_343 : Int32).toInt ≤ 60 := by
              have z_1 : ¬ (r_13 : Int32).toInt = (0 : Int32).toInt := fun z => c_18 (Int32.toInt_inj.mp z)
              have z_2 := congrArg Int32.toInt c_36
              have z_3 : ¬ (r_33 : Int32).toInt = (61 : Int32).toInt := fun z => c_38 (Int32.toInt_inj.mp z)
              have z_4 := Int32.lt_iff_toInt_lt.mp (Int32.not_le.mp c_135)
              have z_5 := congrArg Int32.toInt c_234
              have y_0 : (0 : Int32).toInt = 0 := by decide
              have y_60 : (60 : Int32).toInt = 60 := by decide
              have y_61 : (61 : Int32).toInt = 61 := by decide
              have y_1 : (1 : Int32).toInt = 1 := by decide
              have t_x_37 : x_37.toInt = (sv_28 : Int32).toInt + (1 : Int32).toInt := by rw [ex_37]; exact add_toInt (by omega) (by omega)
              omega
            have pf_348 : Cd sv_8 sv_9 (Mv 5) b sv_343 (d + 1) := Cd.mono pf_19 hr_349
            have ar_pf_348 := Cd.ar pf_348
            refine lv_if_ne (tgt := 115) hx hb dX12_compare_110 (by decide) (fun c_350 => ?_) (fun c_350 => ?_)
            · skip
              refine lv_iload_n hx hb dX12_compare_115 rfl (lv_at hl 2 rfl) ?_
              refine lv_bipush (v := 60) hx hb dX12_compare_116 (by decide) ?_
              refine lv_icmp_ne (tgt := 133) hx hb dX12_compare_118 (by decide) (fun c_351 => ?_) (fun c_351 => ?_)
              · skip
                exfalso
                have z_1 : ¬ (r_13 : Int32).toInt = (0 : Int32).toInt := fun z => c_18 (Int32.toInt_inj.mp z)
                have z_2 := congrArg Int32.toInt c_36
                have z_3 : ¬ (r_33 : Int32).toInt = (61 : Int32).toInt := fun z => c_38 (Int32.toInt_inj.mp z)
                have z_4 := Int32.lt_iff_toInt_lt.mp (Int32.not_le.mp c_135)
                have z_5 := congrArg Int32.toInt c_234
                have z_6 : ¬ (r_345 : Int32).toInt = (0 : Int32).toInt := fun z => c_350 (Int32.toInt_inj.mp z)
                have z_7 : ¬ (r_33 : Int32).toInt = (60 : Int32).toInt := fun z => c_351 (Int32.toInt_inj.mp z)
                have y_0 : (0 : Int32).toInt = 0 := by decide
                have y_60 : (60 : Int32).toInt = 60 := by decide
                have y_61 : (61 : Int32).toInt = 61 := by decide
                have y_1 : (1 : Int32).toInt = 1 := by decide
                have t_x_37 : x_37.toInt = (sv_28 : Int32).toInt + (1 : Int32).toInt := by rw [ex_37]; exact add_toInt (by omega) (by omega)
                omega
              · skip
                refine lv_iload_n hx hb dX12_compare_121 rfl (lv_at hl 0 rfl) ?_
                refine lv_if_eq (tgt := 129) hx hb dX12_compare_122 (by decide) (fun c_352 => absurd c_352 (by decide)) (fun c_352 => ?_)
                refine lv_iconst (v := 1) hx hb dX12_compare_125 (by decide) ?_
                refine lv_goto (tgt := 152) hx hb dX12_compare_126 (by decide) ?_
                refine lv_istore (lv' := [(4, .int 1), (3, .int 1), (2, .int sv_28), (1, .int r_33), (0, .ref (Ma 0))]) hx hb dX12_compare_152 hl (by decide) rfl (fun ls hl₀ => ?_)
                replace hl := hl₀
                clear hl₀
                refine lv_aload_n hx hb dX12_compare_154 rfl (lv_at hl 4 rfl) ?_
                have ha_353 : 0 ≤ (x_335 : Int32).toInt ∧ (x_335 : Int32).toInt ≤ ((Mv 0) : Int32).toInt ∧ ((Mv 0) : Int32).toInt ≤ 400 := by
                  have z_1 : ¬ (r_13 : Int32).toInt = (0 : Int32).toInt := fun z => c_18 (Int32.toInt_inj.mp z)
                  have z_2 := congrArg Int32.toInt c_36
                  have z_3 : ¬ (r_33 : Int32).toInt = (61 : Int32).toInt := fun z => c_38 (Int32.toInt_inj.mp z)
                  have z_4 := Int32.lt_iff_toInt_lt.mp (Int32.not_le.mp c_135)
                  have z_5 := congrArg Int32.toInt c_234
                  have z_6 : ¬ (r_345 : Int32).toInt = (0 : Int32).toInt := fun z => c_350 (Int32.toInt_inj.mp z)
                  have z_7 := congrArg Int32.toInt c_351
                  have y_0 : (0 : Int32).toInt = 0 := by decide
                  have y_60 : (60 : Int32).toInt = 60 := by decide
                  have y_61 : (61 : Int32).toInt = 61 := by decide
                  have y_1 : (1 : Int32).toInt = 1 := by decide
                  have t_x_37 : x_37.toInt = (sv_28 : Int32).toInt + (1 : Int32).toInt := by rw [ex_37]; exact add_toInt (by omega) (by omega)
                  have t_x_335 : x_335.toInt = (x_37 : Int32).toInt + (1 : Int32).toInt := by rw [ex_335]; exact add_toInt (by omega) (by omega)
                  omega
                have ha_354 : (sv_9 (Mv 5).toNatClampNeg).toInt ≤ (x_335 : Int32).toInt := by
                  have z_1 : ¬ (r_13 : Int32).toInt = (0 : Int32).toInt := fun z => c_18 (Int32.toInt_inj.mp z)
                  have z_2 := congrArg Int32.toInt c_36
                  have z_3 : ¬ (r_33 : Int32).toInt = (61 : Int32).toInt := fun z => c_38 (Int32.toInt_inj.mp z)
                  have z_4 := Int32.lt_iff_toInt_lt.mp (Int32.not_le.mp c_135)
                  have z_5 := congrArg Int32.toInt c_234
                  have z_6 : ¬ (r_345 : Int32).toInt = (0 : Int32).toInt := fun z => c_350 (Int32.toInt_inj.mp z)
                  have z_7 := congrArg Int32.toInt c_351
                  have y_0 : (0 : Int32).toInt = 0 := by decide
                  have y_60 : (60 : Int32).toInt = 60 := by decide
                  have y_61 : (61 : Int32).toInt = 61 := by decide
                  have y_1 : (1 : Int32).toInt = 1 := by decide
                  have t_x_37 : x_37.toInt = (sv_28 : Int32).toInt + (1 : Int32).toInt := by rw [ex_37]; exact add_toInt (by omega) (by omega)
                  have t_x_335 : x_335.toInt = (x_37 : Int32).toInt + (1 : Int32).toInt := by rw [ex_335]; exact add_toInt (by omega) (by omega)
                  omega
                have ha_355 : 0 ≤ (sv_343 : Int32).toInt ∧ (sv_343 : Int32).toInt ≤ 60 := by
                  have z_1 : ¬ (r_13 : Int32).toInt = (0 : Int32).toInt := fun z => c_18 (Int32.toInt_inj.mp z)
                  have z_2 := congrArg Int32.toInt c_36
                  have z_3 : ¬ (r_33 : Int32).toInt = (61 : Int32).toInt := fun z => c_38 (Int32.toInt_inj.mp z)
                  have z_4 := Int32.lt_iff_toInt_lt.mp (Int32.not_le.mp c_135)
                  have z_5 := congrArg Int32.toInt c_234
                  have z_6 : ¬ (r_345 : Int32).toInt = (0 : Int32).toInt := fun z => c_350 (Int32.toInt_inj.mp z)
                  have z_7 := congrArg Int32.toInt c_351
                  have y_0 : (0 : Int32).toInt = 0 := by decide
                  have y_60 : (60 : Int32).toInt = 60 := by decide
                  have y_61 : (61 : Int32).toInt = 61 := by decide
                  have y_1 : (1 : Int32).toInt = 1 := by decide
                  have t_x_37 : x_37.toInt = (sv_28 : Int32).toInt + (1 : Int32).toInt := by rw [ex_37]; exact add_toInt (by omega) (by omega)
                  omega
                have ha_356 : (sv_342 : Int32).toInt = 0 := by
                  have z_1 : ¬ (r_13 : Int32).toInt = (0 : Int32).toInt := fun z => c_18 (Int32.toInt_inj.mp z)
                  have z_2 := congrArg Int32.toInt c_36
                  have z_3 : ¬ (r_33 : Int32).toInt = (61 : Int32).toInt := fun z => c_38 (Int32.toInt_inj.mp z)
                  have z_4 := Int32.lt_iff_toInt_lt.mp (Int32.not_le.mp c_135)
                  have z_5 := congrArg Int32.toInt c_234
                  have z_6 : ¬ (r_345 : Int32).toInt = (0 : Int32).toInt := fun z => c_350 (Int32.toInt_inj.mp z)
                  have z_7 := congrArg Int32.toInt c_351
                  have y_0 : (0 : Int32).toInt = 0 := by decide
                  have y_60 : (60 : Int32).toInt = 60 := by decide
                  have y_61 : (61 : Int32).toInt = 61 := by decide
                  have y_1 : (1 : Int32).toInt = 1 := by decide
                  have t_x_37 : x_37.toInt = (sv_28 : Int32).toInt + (1 : Int32).toInt := by rw [ex_37]; exact add_toInt (by omega) (by omega)
                  omega
                refine cV (a := (Ma 0)) (As := []) (rest := []) (wr := []) ⟨hx, hb, hml, hown, hts⟩ hK hX hA (cu_kX12_sum l D tc sk (Ma 0) (Ma 1) (Ma 2) (Ma 3) (Ma 4) (Ma 5) (Ma 6) (Ma 7) (Ma 8) (Ma 9) (Ma 10) (Ma 11) (Ma 12) (Ma 13) (Ma 14) (Ma 15) (Ma 16) (Ma 17) (Ma 18) (Ma 19) (Ma 20) (Mv 0) (Mv 1) x_335 sv_342 sv_6 (Mv 5) sv_343 (Mv 7) (Mv 8) (Mv 9) (Mv 10) (Mv 11) (Mv 12) (Mv 13) (Mv 14) (Mf 1) sv_8 sv_9 (Mj 0) b (d + 1) lo_23 ha_353 pf_348 ha_354 ha_355 h_bs ha_356 pf_21) k_1279 k_1276 k_1278 k_42 k_106 pl_X12_sum ⟨Nat.le_of_ble_eq_true rfl, Nat.le_of_ble_eq_true rfl⟩ rfl rfl (va_recv hK hP (ci := 12) (q0 := 3) rfl rfl) hP hD hS [3, 2, 0, 1] [] rfl rfl rfl rfl rfl (by decide) rfl hl.1 rfl (Nat.le_of_ble_eq_true rfl) dX12_compare_155 ⟨Nat.le_of_ble_eq_true rfl, Nat.le_of_ble_eq_true rfl⟩ (fun v_357 u_358 H locs hv_359 hP₀ hD₀ hS₀ => ?_)
                obtain ⟨sv_360, sv_361, sv_362, sv_363, sv_364, sv_365⟩ := u_358
                obtain ⟨r_369, rfl, he_370, pf_366, pf_367, pf_368, hm_372, hm_373⟩ := hv_359
                have he_370 : ((r_369.toInt = 0 ∧ ¬ (sv_361 : Int32).toInt = 0) ∨ (r_369.toInt = 1 ∧ (sv_9 (Mv 5).toNatClampNeg).toInt + 1 ≤ (sv_365 (Mv 5).toNatClampNeg).toInt ∧ (sv_365 (Mv 5).toNatClampNeg).toInt + (x_335 : Int32).toInt ≤ (sv_9 (Mv 5).toNatClampNeg).toInt + (sv_360 : Int32).toInt ∧ (x_335 : Int32).toInt + 1 ≤ (sv_360 : Int32).toInt)) := he_370
                have pf_366 : (x_335 : Int32).toInt ≤ (sv_360 : Int32).toInt ∧ (sv_360 : Int32).toInt ≤ ((Mv 0) : Int32).toInt := pf_366
                have pf_367 : (sv_343 : Int32).toInt ≤ (sv_363 : Int32).toInt ∧ (sv_363 : Int32).toInt ≤ 60 := pf_367
                have pf_368 : Agr sv_8 sv_364 (400 * ((Mv 5) : Int32).toInt + (sv_9 (Mv 5).toNatClampNeg).toInt) := pf_368
                refine W.eq (g2 := F0 m 158 ls [.int r_369]) rfl ?_
                replace hP : va_P D classes [((Ma 0), .inr (12, [.ref (Ma 1), .int (Mv 0), .int (Mv 1), .ref (Ma 2), .ref (Ma 3), .ref (Ma 4), .ref (Ma 5), .ref (Ma 6), .int sv_360, .int sv_361, .int sv_362, .int (Mv 5), .int sv_363, .int (Mv 7), .int (Mv 8), .ref (Ma 7), .int (Mv 9), .ref (Ma 8), .int (Mv 10), .ref (Ma 9), .ref (Ma 10), .int (Mv 11), .int (Mv 12), .int (Mv 13), .ref (Ma 11), .int (Mv 14), .ref (Ma 12), .ref (Ma 13), .ref (Ma 14), .ref (Ma 15), .ref (Ma 16), .long (Mj 0), .ref (Ma 17), .ref (Ma 18), .ref (Ma 19), .ref (Ma 20)])), ((Ma 1), .inl (tc 2, 400, .inl (Mf 1))), ((Ma 2), .inl (tc 0, 2400, .inl sv_364)), ((Ma 3), .inl (tc 0, 7, .inl sv_365))] H := hP₀
                replace hD : va_D A [((Ma 0), .inr (12, [.ref (Ma 1), .int (Mv 0), .int (Mv 1), .ref (Ma 2), .ref (Ma 3), .ref (Ma 4), .ref (Ma 5), .ref (Ma 6), .int sv_360, .int sv_361, .int sv_362, .int (Mv 5), .int sv_363, .int (Mv 7), .int (Mv 8), .ref (Ma 7), .int (Mv 9), .ref (Ma 8), .int (Mv 10), .ref (Ma 9), .ref (Ma 10), .int (Mv 11), .int (Mv 12), .int (Mv 13), .ref (Ma 11), .int (Mv 14), .ref (Ma 12), .ref (Ma 13), .ref (Ma 14), .ref (Ma 15), .ref (Ma 16), .long (Mj 0), .ref (Ma 17), .ref (Ma 18), .ref (Ma 19), .ref (Ma 20)])), ((Ma 1), .inl (tc 2, 400, .inl (Mf 1))), ((Ma 2), .inl (tc 0, 2400, .inl sv_364)), ((Ma 3), .inl (tc 0, 7, .inl sv_365))] := hD₀
                replace hS := hS₀
                clear hP₀ hD₀ hS₀
                refine lv_if_ne (tgt := 163) hx hb dX12_compare_158 (by decide) (fun c_374 => ?_) (fun c_374 => ?_)
                · skip
                  have hz_378 : (r_369 : Int32).toInt = 1 := by
                    have z_1 : ¬ (r_13 : Int32).toInt = (0 : Int32).toInt := fun z => c_18 (Int32.toInt_inj.mp z)
                    have z_2 := congrArg Int32.toInt c_36
                    have z_3 : ¬ (r_33 : Int32).toInt = (61 : Int32).toInt := fun z => c_38 (Int32.toInt_inj.mp z)
                    have z_4 := Int32.lt_iff_toInt_lt.mp (Int32.not_le.mp c_135)
                    have z_5 := congrArg Int32.toInt c_234
                    have z_6 : ¬ (r_345 : Int32).toInt = (0 : Int32).toInt := fun z => c_350 (Int32.toInt_inj.mp z)
                    have z_7 := congrArg Int32.toInt c_351
                    have z_8 : ¬ (r_369 : Int32).toInt = (0 : Int32).toInt := fun z => c_374 (Int32.toInt_inj.mp z)
                    have y_0 : (0 : Int32).toInt = 0 := by decide
                    have y_60 : (60 : Int32).toInt = 60 := by decide
                    have y_61 : (61 : Int32).toInt = 61 := by decide
                    have y_1 : (1 : Int32).toInt = 1 := by decide
                    have t_x_37 : x_37.toInt = (sv_28 : Int32).toInt + (1 : Int32).toInt := by rw [ex_37]; exact add_toInt (by omega) (by omega)
                    omega
                  obtain ⟨pf_375, pf_376, pf_377⟩ := hm_372 hz_378
                  have pf_375 : Cd sv_364 sv_365 (Mv 5) b sv_363 ((d + 1) + 1) := pf_375
                  have ar_pf_375 := Cd.ar pf_375
                  have pf_376 : RfO (pz_sum (rB (Mf 1) (Mv 0)) (St0 (rB (Mf 1) (Mv 0)) x_335 sv_343)) (rB (Mf 1) (Mv 0)) sv_361 sv_360 sv_363 := pf_376
                  have ar_pf_376 := RfO.wr pf_376
                  have pf_377 : SgC sv_364 sv_365 (Mv 5) (lo_23 ++ lsum (rB (Mf 1) (Mv 0)) (St0 (rB (Mf 1) (Mv 0)) x_335 sv_343)) := pf_377
                  obtain ⟨lo_379, elo_379⟩ : ∃ z : List Int, z = (lo_23 ++ lsum (rB (Mf 1) (Mv 0)) (St0 (rB (Mf 1) (Mv 0)) x_335 sv_343)) := ⟨_, rfl⟩
                  rw [← elo_379] at pf_377
                  refine lv_aload_n hx hb dX12_compare_163 rfl (lv_at hl 4 rfl) ?_
                  refine lv_bipush (v := 6) hx hb dX12_compare_164 (by decide) ?_
                  refine lv_iload hx hb dX12_compare_166 (lv_at hl 0 rfl) ?_
                  refine lv_iadd hx hb dX12_compare_168 ?_
                  refine lv_lit (v := 7) (by decide) ?_
                  refine lv_iconst (v := 0) hx hb dX12_compare_169 (by decide) ?_
                  have ha_380 : ((d + 1) : Int) ≤ sv_363.toInt := by
                    have z_1 : ¬ (r_13 : Int32).toInt = (0 : Int32).toInt := fun z => c_18 (Int32.toInt_inj.mp z)
                    have z_2 := congrArg Int32.toInt c_36
                    have z_3 : ¬ (r_33 : Int32).toInt = (61 : Int32).toInt := fun z => c_38 (Int32.toInt_inj.mp z)
                    have z_4 := Int32.lt_iff_toInt_lt.mp (Int32.not_le.mp c_135)
                    have z_5 := congrArg Int32.toInt c_234
                    have z_6 : ¬ (r_345 : Int32).toInt = (0 : Int32).toInt := fun z => c_350 (Int32.toInt_inj.mp z)
                    have z_7 := congrArg Int32.toInt c_351
                    have z_8 : ¬ (r_369 : Int32).toInt = (0 : Int32).toInt := fun z => c_374 (Int32.toInt_inj.mp z)
                    have y_0 : (0 : Int32).toInt = 0 := by decide
                    have y_60 : (60 : Int32).toInt = 60 := by decide
                    have y_61 : (61 : Int32).toInt = 61 := by decide
                    have y_1 : (1 : Int32).toInt = 1 := by decide
                    have t_x_37 : x_37.toInt = (sv_28 : Int32).toInt + (1 : Int32).toInt := by rw [ex_37]; exact add_toInt (by omega) (by omega)
                    omega
                  have ha_381 : (sv_365 (Mv 5).toNatClampNeg).toInt < 400 := by
                    have z_1 : ¬ (r_13 : Int32).toInt = (0 : Int32).toInt := fun z => c_18 (Int32.toInt_inj.mp z)
                    have z_2 := congrArg Int32.toInt c_36
                    have z_3 : ¬ (r_33 : Int32).toInt = (61 : Int32).toInt := fun z => c_38 (Int32.toInt_inj.mp z)
                    have z_4 := Int32.lt_iff_toInt_lt.mp (Int32.not_le.mp c_135)
                    have z_5 := congrArg Int32.toInt c_234
                    have z_6 : ¬ (r_345 : Int32).toInt = (0 : Int32).toInt := fun z => c_350 (Int32.toInt_inj.mp z)
                    have z_7 := congrArg Int32.toInt c_351
                    have z_8 : ¬ (r_369 : Int32).toInt = (0 : Int32).toInt := fun z => c_374 (Int32.toInt_inj.mp z)
                    have y_0 : (0 : Int32).toInt = 0 := by decide
                    have y_60 : (60 : Int32).toInt = 60 := by decide
                    have y_61 : (61 : Int32).toInt = 61 := by decide
                    have y_1 : (1 : Int32).toInt = 1 := by decide
                    have t_x_37 : x_37.toInt = (sv_28 : Int32).toInt + (1 : Int32).toInt := by rw [ex_37]; exact add_toInt (by omega) (by omega)
                    omega
                  have ha_382 : 0 ≤ (7 : Int32).toInt ∧ (7 : Int32).toInt ≤ 15 := by
                    have z_1 : ¬ (r_13 : Int32).toInt = (0 : Int32).toInt := fun z => c_18 (Int32.toInt_inj.mp z)
                    have z_2 := congrArg Int32.toInt c_36
                    have z_3 : ¬ (r_33 : Int32).toInt = (61 : Int32).toInt := fun z => c_38 (Int32.toInt_inj.mp z)
                    have z_4 := Int32.lt_iff_toInt_lt.mp (Int32.not_le.mp c_135)
                    have z_5 := congrArg Int32.toInt c_234
                    have z_6 : ¬ (r_345 : Int32).toInt = (0 : Int32).toInt := fun z => c_350 (Int32.toInt_inj.mp z)
                    have z_7 := congrArg Int32.toInt c_351
                    have z_8 : ¬ (r_369 : Int32).toInt = (0 : Int32).toInt := fun z => c_374 (Int32.toInt_inj.mp z)
                    have y_0 : (0 : Int32).toInt = 0 := by decide
                    have y_60 : (60 : Int32).toInt = 60 := by decide
                    have y_61 : (61 : Int32).toInt = 61 := by decide
                    have y_1 : (1 : Int32).toInt = 1 := by decide
                    have y_7 : (7 : Int32).toInt = 7 := by decide
                    have t_x_37 : x_37.toInt = (sv_28 : Int32).toInt + (1 : Int32).toInt := by rw [ex_37]; exact add_toInt (by omega) (by omega)
                    omega
                  have ha_383 : 0 ≤ (0 : Int32).toInt ∧ (0 : Int32).toInt ≤ 100000 := by
                    have z_1 : ¬ (r_13 : Int32).toInt = (0 : Int32).toInt := fun z => c_18 (Int32.toInt_inj.mp z)
                    have z_2 := congrArg Int32.toInt c_36
                    have z_3 : ¬ (r_33 : Int32).toInt = (61 : Int32).toInt := fun z => c_38 (Int32.toInt_inj.mp z)
                    have z_4 := Int32.lt_iff_toInt_lt.mp (Int32.not_le.mp c_135)
                    have z_5 := congrArg Int32.toInt c_234
                    have z_6 : ¬ (r_345 : Int32).toInt = (0 : Int32).toInt := fun z => c_350 (Int32.toInt_inj.mp z)
                    have z_7 := congrArg Int32.toInt c_351
                    have z_8 : ¬ (r_369 : Int32).toInt = (0 : Int32).toInt := fun z => c_374 (Int32.toInt_inj.mp z)
                    have y_0 : (0 : Int32).toInt = 0 := by decide
                    have y_60 : (60 : Int32).toInt = 60 := by decide
                    have y_61 : (61 : Int32).toInt = 61 := by decide
                    have y_1 : (1 : Int32).toInt = 1 := by decide
                    have t_x_37 : x_37.toInt = (sv_28 : Int32).toInt + (1 : Int32).toInt := by rw [ex_37]; exact add_toInt (by omega) (by omega)
                    omega
                  have ha_384 : 0 ≤ (Mv 5).toInt := by
                    have z_1 : ¬ (r_13 : Int32).toInt = (0 : Int32).toInt := fun z => c_18 (Int32.toInt_inj.mp z)
                    have z_2 := congrArg Int32.toInt c_36
                    have z_3 : ¬ (r_33 : Int32).toInt = (61 : Int32).toInt := fun z => c_38 (Int32.toInt_inj.mp z)
                    have z_4 := Int32.lt_iff_toInt_lt.mp (Int32.not_le.mp c_135)
                    have z_5 := congrArg Int32.toInt c_234
                    have z_6 : ¬ (r_345 : Int32).toInt = (0 : Int32).toInt := fun z => c_350 (Int32.toInt_inj.mp z)
                    have z_7 := congrArg Int32.toInt c_351
                    have z_8 : ¬ (r_369 : Int32).toInt = (0 : Int32).toInt := fun z => c_374 (Int32.toInt_inj.mp z)
                    have y_0 : (0 : Int32).toInt = 0 := by decide
                    have y_60 : (60 : Int32).toInt = 60 := by decide
                    have y_61 : (61 : Int32).toInt = 61 := by decide
                    have y_1 : (1 : Int32).toInt = 1 := by decide
                    have t_x_37 : x_37.toInt = (sv_28 : Int32).toInt + (1 : Int32).toInt := by rw [ex_37]; exact add_toInt (by omega) (by omega)
                    omega
                  refine cV (a := (Ma 0)) (As := [.int 7, .int 0]) (rest := []) (wr := [((Ma 1), .inl (tc 2, 400, .inl (Mf 1)))]) ⟨hx, hb, hml, hown, hts⟩ hK hX hA (cu_kX12_puts l D tc sk (Ma 0) (Ma 1) (Ma 2) (Ma 3) (Ma 4) (Ma 5) (Ma 6) (Ma 7) (Ma 8) (Ma 9) (Ma 10) (Ma 11) (Ma 12) (Ma 13) (Ma 14) (Ma 15) (Ma 16) (Ma 17) (Ma 18) (Ma 19) (Ma 20) (Mv 0) (Mv 1) sv_360 sv_361 sv_362 (Mv 5) sv_363 (Mv 7) (Mv 8) (Mv 9) (Mv 10) (Mv 11) (Mv 12) (Mv 13) (Mv 14) sv_364 sv_365 (Mj 0) 7 0 b sv_363 ((d + 1) + 1) (d + 1) lo_379 (-8) pf_375 (StpR.op (by decide) rfl (by omega)) ha_380 ha_381 pf_377 (by decide) ha_382 ha_383 ha_384) k_1296 k_1293 k_1295 k_46 k_106 pl_X12_puts ⟨Nat.le_of_ble_eq_true rfl, Nat.le_of_ble_eq_true rfl⟩ rfl rfl (va_recv hK hP (ci := 12) (q0 := 0) rfl rfl) hP hD hS [0, 2, 3] [1] rfl rfl rfl rfl rfl (by decide) rfl hl.1 rfl (Nat.le_of_ble_eq_true rfl) dX12_compare_170 ⟨Nat.le_of_ble_eq_true rfl, Nat.le_of_ble_eq_true rfl⟩ (fun v_385 u_386 H locs hv_387 hP₀ hD₀ hS₀ => ?_)
                  obtain ⟨sv_388, sv_389⟩ := u_386
                  obtain ⟨rfl, pf_390, pf_391, pf_392, pf_393⟩ := hv_387
                  have pf_390 : Cd sv_388 sv_389 (Mv 5) b sv_363 (d + 1) := pf_390
                  have ar_pf_390 := Cd.ar pf_390
                  have pf_391 : Agr sv_364 sv_388 (400 * ((Mv 5) : Int32).toInt + (sv_365 (Mv 5).toNatClampNeg).toInt) := pf_391
                  have pf_392 : (sv_389 (Mv 5).toNatClampNeg).toInt = (sv_365 (Mv 5).toNatClampNeg).toInt + 1 := pf_392
                  have pf_393 : SgC sv_388 sv_389 (Mv 5) (lo_379 ++ [((-8) : Int)]) := pf_393
                  obtain ⟨lo_394, elo_394⟩ : ∃ z : List Int, z = (lo_379 ++ [(-8)]) := ⟨_, rfl⟩
                  rw [← elo_394] at pf_393
                  refine W.eq (g2 := F0 m 173 ls []) rfl ?_
                  replace hP : va_P D classes [((Ma 1), .inl (tc 2, 400, .inl (Mf 1))), ((Ma 0), .inr (12, [.ref (Ma 1), .int (Mv 0), .int (Mv 1), .ref (Ma 2), .ref (Ma 3), .ref (Ma 4), .ref (Ma 5), .ref (Ma 6), .int sv_360, .int sv_361, .int sv_362, .int (Mv 5), .int sv_363, .int (Mv 7), .int (Mv 8), .ref (Ma 7), .int (Mv 9), .ref (Ma 8), .int (Mv 10), .ref (Ma 9), .ref (Ma 10), .int (Mv 11), .int (Mv 12), .int (Mv 13), .ref (Ma 11), .int (Mv 14), .ref (Ma 12), .ref (Ma 13), .ref (Ma 14), .ref (Ma 15), .ref (Ma 16), .long (Mj 0), .ref (Ma 17), .ref (Ma 18), .ref (Ma 19), .ref (Ma 20)])), ((Ma 2), .inl (tc 0, 2400, .inl sv_388)), ((Ma 3), .inl (tc 0, 7, .inl sv_389))] H := hP₀
                  replace hD : va_D A [((Ma 1), .inl (tc 2, 400, .inl (Mf 1))), ((Ma 0), .inr (12, [.ref (Ma 1), .int (Mv 0), .int (Mv 1), .ref (Ma 2), .ref (Ma 3), .ref (Ma 4), .ref (Ma 5), .ref (Ma 6), .int sv_360, .int sv_361, .int sv_362, .int (Mv 5), .int sv_363, .int (Mv 7), .int (Mv 8), .ref (Ma 7), .int (Mv 9), .ref (Ma 8), .int (Mv 10), .ref (Ma 9), .ref (Ma 10), .int (Mv 11), .int (Mv 12), .int (Mv 13), .ref (Ma 11), .int (Mv 14), .ref (Ma 12), .ref (Ma 13), .ref (Ma 14), .ref (Ma 15), .ref (Ma 16), .long (Mj 0), .ref (Ma 17), .ref (Ma 18), .ref (Ma 19), .ref (Ma 20)])), ((Ma 2), .inl (tc 0, 2400, .inl sv_388)), ((Ma 3), .inl (tc 0, 7, .inl sv_389))] := hD₀
                  replace hS := hS₀
                  clear hP₀ hD₀ hS₀
                  refine lv_iconst (v := 1) hx hb dX12_compare_173 (by decide) ?_
                  have ha_395 : ((Mv 2) : Int32).toInt ≤ (sv_360 : Int32).toInt ∧ (sv_360 : Int32).toInt ≤ ((Mv 0) : Int32).toInt := by
                    have z_1 : ¬ (r_13 : Int32).toInt = (0 : Int32).toInt := fun z => c_18 (Int32.toInt_inj.mp z)
                    have z_2 := congrArg Int32.toInt c_36
                    have z_3 : ¬ (r_33 : Int32).toInt = (61 : Int32).toInt := fun z => c_38 (Int32.toInt_inj.mp z)
                    have z_4 := Int32.lt_iff_toInt_lt.mp (Int32.not_le.mp c_135)
                    have z_5 := congrArg Int32.toInt c_234
                    have z_6 : ¬ (r_345 : Int32).toInt = (0 : Int32).toInt := fun z => c_350 (Int32.toInt_inj.mp z)
                    have z_7 := congrArg Int32.toInt c_351
                    have z_8 : ¬ (r_369 : Int32).toInt = (0 : Int32).toInt := fun z => c_374 (Int32.toInt_inj.mp z)
                    have y_0 : (0 : Int32).toInt = 0 := by decide
                    have y_60 : (60 : Int32).toInt = 60 := by decide
                    have y_61 : (61 : Int32).toInt = 61 := by decide
                    have y_1 : (1 : Int32).toInt = 1 := by decide
                    have t_x_37 : x_37.toInt = (sv_28 : Int32).toInt + (1 : Int32).toInt := by rw [ex_37]; exact add_toInt (by omega) (by omega)
                    omega
                  have ha_396 : ((Mv 6) : Int32).toInt ≤ (sv_363 : Int32).toInt ∧ (sv_363 : Int32).toInt ≤ 60 := by
                    have z_1 : ¬ (r_13 : Int32).toInt = (0 : Int32).toInt := fun z => c_18 (Int32.toInt_inj.mp z)
                    have z_2 := congrArg Int32.toInt c_36
                    have z_3 : ¬ (r_33 : Int32).toInt = (61 : Int32).toInt := fun z => c_38 (Int32.toInt_inj.mp z)
                    have z_4 := Int32.lt_iff_toInt_lt.mp (Int32.not_le.mp c_135)
                    have z_5 := congrArg Int32.toInt c_234
                    have z_6 : ¬ (r_345 : Int32).toInt = (0 : Int32).toInt := fun z => c_350 (Int32.toInt_inj.mp z)
                    have z_7 := congrArg Int32.toInt c_351
                    have z_8 : ¬ (r_369 : Int32).toInt = (0 : Int32).toInt := fun z => c_374 (Int32.toInt_inj.mp z)
                    have y_0 : (0 : Int32).toInt = 0 := by decide
                    have y_60 : (60 : Int32).toInt = 60 := by decide
                    have y_61 : (61 : Int32).toInt = 61 := by decide
                    have y_1 : (1 : Int32).toInt = 1 := by decide
                    have t_x_37 : x_37.toInt = (sv_28 : Int32).toInt + (1 : Int32).toInt := by rw [ex_37]; exact add_toInt (by omega) (by omega)
                    omega
                  have hr_397 : (400 * ((Mv 5) : Int32).toInt + ((Mf 3) (Mv 5).toNatClampNeg).toInt) ≤ (400 * ((Mv 5) : Int32).toInt + ((Mf 3) (Mv 5).toNatClampNeg).toInt) := by
                    have z_1 : ¬ (r_13 : Int32).toInt = (0 : Int32).toInt := fun z => c_18 (Int32.toInt_inj.mp z)
                    have z_2 := congrArg Int32.toInt c_36
                    have z_3 : ¬ (r_33 : Int32).toInt = (61 : Int32).toInt := fun z => c_38 (Int32.toInt_inj.mp z)
                    have z_4 := Int32.lt_iff_toInt_lt.mp (Int32.not_le.mp c_135)
                    have z_5 := congrArg Int32.toInt c_234
                    have z_6 : ¬ (r_345 : Int32).toInt = (0 : Int32).toInt := fun z => c_350 (Int32.toInt_inj.mp z)
                    have z_7 := congrArg Int32.toInt c_351
                    have z_8 : ¬ (r_369 : Int32).toInt = (0 : Int32).toInt := fun z => c_374 (Int32.toInt_inj.mp z)
                    have y_0 : (0 : Int32).toInt = 0 := by decide
                    have y_60 : (60 : Int32).toInt = 60 := by decide
                    have y_61 : (61 : Int32).toInt = 61 := by decide
                    have y_1 : (1 : Int32).toInt = 1 := by decide
                    have t_x_37 : x_37.toInt = (sv_28 : Int32).toInt + (1 : Int32).toInt := by rw [ex_37]; exact add_toInt (by omega) (by omega)
                    omega
                  have hr_398 : (400 * ((Mv 5) : Int32).toInt + ((Mf 3) (Mv 5).toNatClampNeg).toInt) ≤ (400 * ((Mv 5) : Int32).toInt + (sv_9 (Mv 5).toNatClampNeg).toInt) := by
                    have z_1 : ¬ (r_13 : Int32).toInt = (0 : Int32).toInt := fun z => c_18 (Int32.toInt_inj.mp z)
                    have z_2 := congrArg Int32.toInt c_36
                    have z_3 : ¬ (r_33 : Int32).toInt = (61 : Int32).toInt := fun z => c_38 (Int32.toInt_inj.mp z)
                    have z_4 := Int32.lt_iff_toInt_lt.mp (Int32.not_le.mp c_135)
                    have z_5 := congrArg Int32.toInt c_234
                    have z_6 : ¬ (r_345 : Int32).toInt = (0 : Int32).toInt := fun z => c_350 (Int32.toInt_inj.mp z)
                    have z_7 := congrArg Int32.toInt c_351
                    have z_8 : ¬ (r_369 : Int32).toInt = (0 : Int32).toInt := fun z => c_374 (Int32.toInt_inj.mp z)
                    have y_0 : (0 : Int32).toInt = 0 := by decide
                    have y_60 : (60 : Int32).toInt = 60 := by decide
                    have y_61 : (61 : Int32).toInt = 61 := by decide
                    have y_1 : (1 : Int32).toInt = 1 := by decide
                    have t_x_37 : x_37.toInt = (sv_28 : Int32).toInt + (1 : Int32).toInt := by rw [ex_37]; exact add_toInt (by omega) (by omega)
                    omega
                  have hr_399 : (400 * ((Mv 5) : Int32).toInt + ((Mf 3) (Mv 5).toNatClampNeg).toInt) ≤ (400 * ((Mv 5) : Int32).toInt + (sv_365 (Mv 5).toNatClampNeg).toInt) := by
                    have z_1 : ¬ (r_13 : Int32).toInt = (0 : Int32).toInt := fun z => c_18 (Int32.toInt_inj.mp z)
                    have z_2 := congrArg Int32.toInt c_36
                    have z_3 : ¬ (r_33 : Int32).toInt = (61 : Int32).toInt := fun z => c_38 (Int32.toInt_inj.mp z)
                    have z_4 := Int32.lt_iff_toInt_lt.mp (Int32.not_le.mp c_135)
                    have z_5 := congrArg Int32.toInt c_234
                    have z_6 : ¬ (r_345 : Int32).toInt = (0 : Int32).toInt := fun z => c_350 (Int32.toInt_inj.mp z)
                    have z_7 := congrArg Int32.toInt c_351
                    have z_8 : ¬ (r_369 : Int32).toInt = (0 : Int32).toInt := fun z => c_374 (Int32.toInt_inj.mp z)
                    have y_0 : (0 : Int32).toInt = 0 := by decide
                    have y_60 : (60 : Int32).toInt = 60 := by decide
                    have y_61 : (61 : Int32).toInt = 61 := by decide
                    have y_1 : (1 : Int32).toInt = 1 := by decide
                    have t_x_37 : x_37.toInt = (sv_28 : Int32).toInt + (1 : Int32).toInt := by rw [ex_37]; exact add_toInt (by omega) (by omega)
                    omega
                  have hp_400 : (((1 : Int32).toInt = 0 ∧ ¬ (sv_361 : Int32).toInt = 0) ∨ ((1 : Int32).toInt = 1 ∧ ((Mf 3) (Mv 5).toNatClampNeg).toInt + 1 ≤ (sv_389 (Mv 5).toNatClampNeg).toInt ∧ (sv_389 (Mv 5).toNatClampNeg).toInt + ((Mv 2) : Int32).toInt ≤ ((Mf 3) (Mv 5).toNatClampNeg).toInt + (sv_360 : Int32).toInt ∧ ((Mv 2) : Int32).toInt + 1 ≤ (sv_360 : Int32).toInt)) := by
                    have z_1 : ¬ (r_13 : Int32).toInt = (0 : Int32).toInt := fun z => c_18 (Int32.toInt_inj.mp z)
                    have z_2 := congrArg Int32.toInt c_36
                    have z_3 : ¬ (r_33 : Int32).toInt = (61 : Int32).toInt := fun z => c_38 (Int32.toInt_inj.mp z)
                    have z_4 := Int32.lt_iff_toInt_lt.mp (Int32.not_le.mp c_135)
                    have z_5 := congrArg Int32.toInt c_234
                    have z_6 : ¬ (r_345 : Int32).toInt = (0 : Int32).toInt := fun z => c_350 (Int32.toInt_inj.mp z)
                    have z_7 := congrArg Int32.toInt c_351
                    have z_8 : ¬ (r_369 : Int32).toInt = (0 : Int32).toInt := fun z => c_374 (Int32.toInt_inj.mp z)
                    have y_0 : (0 : Int32).toInt = 0 := by decide
                    have y_60 : (60 : Int32).toInt = 60 := by decide
                    have y_61 : (61 : Int32).toInt = 61 := by decide
                    have y_1 : (1 : Int32).toInt = 1 := by decide
                    have t_x_37 : x_37.toInt = (sv_28 : Int32).toInt + (1 : Int32).toInt := by rw [ex_37]; exact add_toInt (by omega) (by omega)
                    have yr : (1 : Int32).toInt = 1 := by decide
                    omega
                  have hm_401 : (1 : Int32).toInt = 1 → (Cd sv_388 sv_389 (Mv 5) b sv_363 (d + 1)) ∧ (RfO (pz_com (rB (Mf 1) (Mv 0)) (St0 (rB (Mf 1) (Mv 0)) (Mv 2) (Mv 6))) (rB (Mf 1) (Mv 0)) sv_361 sv_360 sv_363) ∧ (SgC sv_388 sv_389 (Mv 5) (ll ++ ec_com (rB (Mf 1) (Mv 0)) (St0 (rB (Mf 1) (Mv 0)) (Mv 2) (Mv 6)))) := by
                    intro h1r
                    have hr_402 : (rB (Mf 1) (Mv 0) (sv_28 : Int32).toInt.toNat = 60 ∨ rB (Mf 1) (Mv 0) (sv_28 : Int32).toInt.toNat = 61 ∨ rB (Mf 1) (Mv 0) (sv_28 : Int32).toInt.toNat = 62) := by
                      have z_1 : ¬ (r_13 : Int32).toInt = (0 : Int32).toInt := fun z => c_18 (Int32.toInt_inj.mp z)
                      have z_2 := congrArg Int32.toInt c_36
                      have z_3 : ¬ (r_33 : Int32).toInt = (61 : Int32).toInt := fun z => c_38 (Int32.toInt_inj.mp z)
                      have z_4 := Int32.lt_iff_toInt_lt.mp (Int32.not_le.mp c_135)
                      have z_5 := congrArg Int32.toInt c_234
                      have z_6 : ¬ (r_345 : Int32).toInt = (0 : Int32).toInt := fun z => c_350 (Int32.toInt_inj.mp z)
                      have z_7 := congrArg Int32.toInt c_351
                      have z_8 : ¬ (r_369 : Int32).toInt = (0 : Int32).toInt := fun z => c_374 (Int32.toInt_inj.mp z)
                      have y_0 : (0 : Int32).toInt = 0 := by decide
                      have y_60 : (60 : Int32).toInt = 60 := by decide
                      have y_61 : (61 : Int32).toInt = 61 := by decide
                      have y_1 : (1 : Int32).toInt = 1 := by decide
                      have t_x_37 : x_37.toInt = (sv_28 : Int32).toInt + (1 : Int32).toInt := by rw [ex_37]; exact add_toInt (by omega) (by omega)
                      omega
                    have rg_403 := rB_rg (n := (Mv 0)) h_bs ((sv_28 : Int32).toInt.toNat + 1)
                    have hk_404 : ((Mf 1) (x_37 : Int32).toInt.toNat).toInt = ((Mf 1) ((sv_28 : Int32).toInt.toNat + 1)).toInt := congrArg (fun z => ((Mf 1) z).toInt) (by
                      have z_1 : ¬ (r_13 : Int32).toInt = (0 : Int32).toInt := fun z => c_18 (Int32.toInt_inj.mp z)
                      have z_2 := congrArg Int32.toInt c_36
                      have z_3 : ¬ (r_33 : Int32).toInt = (61 : Int32).toInt := fun z => c_38 (Int32.toInt_inj.mp z)
                      have z_4 := Int32.lt_iff_toInt_lt.mp (Int32.not_le.mp c_135)
                      have z_5 := congrArg Int32.toInt c_234
                      have z_6 : ¬ (r_345 : Int32).toInt = (0 : Int32).toInt := fun z => c_350 (Int32.toInt_inj.mp z)
                      have z_7 := congrArg Int32.toInt c_351
                      have z_8 : ¬ (r_369 : Int32).toInt = (0 : Int32).toInt := fun z => c_374 (Int32.toInt_inj.mp z)
                      have y_0 : (0 : Int32).toInt = 0 := by decide
                      have y_60 : (60 : Int32).toInt = 60 := by decide
                      have y_61 : (61 : Int32).toInt = 61 := by decide
                      have y_1 : (1 : Int32).toInt = 1 := by decide
                      have t_x_37 : x_37.toInt = (sv_28 : Int32).toInt + (1 : Int32).toInt := by rw [ex_37]; exact add_toInt (by omega) (by omega)
                      omega)
                    have hr_405 : ((x_335 : Int32).toInt = (sv_28 : Int32).toInt + 1 ∧ ¬ ((rB (Mf 1) (Mv 0) (sv_28 : Int32).toInt.toNat = 60 ∨ rB (Mf 1) (Mv 0) (sv_28 : Int32).toInt.toNat = 62) ∧ rB (Mf 1) (Mv 0) ((sv_28 : Int32).toInt.toNat + 1) = 61)) ∨ ((x_335 : Int32).toInt = (sv_28 : Int32).toInt + 2 ∧ (rB (Mf 1) (Mv 0) (sv_28 : Int32).toInt.toNat = 60 ∨ rB (Mf 1) (Mv 0) (sv_28 : Int32).toInt.toNat = 62) ∧ rB (Mf 1) (Mv 0) ((sv_28 : Int32).toInt.toNat + 1) = 61) := by
                      have z_1 : ¬ (r_13 : Int32).toInt = (0 : Int32).toInt := fun z => c_18 (Int32.toInt_inj.mp z)
                      have z_2 := congrArg Int32.toInt c_36
                      have z_3 : ¬ (r_33 : Int32).toInt = (61 : Int32).toInt := fun z => c_38 (Int32.toInt_inj.mp z)
                      have z_4 := Int32.lt_iff_toInt_lt.mp (Int32.not_le.mp c_135)
                      have z_5 := congrArg Int32.toInt c_234
                      have z_6 : ¬ (r_345 : Int32).toInt = (0 : Int32).toInt := fun z => c_350 (Int32.toInt_inj.mp z)
                      have z_7 := congrArg Int32.toInt c_351
                      have z_8 : ¬ (r_369 : Int32).toInt = (0 : Int32).toInt := fun z => c_374 (Int32.toInt_inj.mp z)
                      have y_0 : (0 : Int32).toInt = 0 := by decide
                      have y_60 : (60 : Int32).toInt = 60 := by decide
                      have y_61 : (61 : Int32).toInt = 61 := by decide
                      have y_1 : (1 : Int32).toInt = 1 := by decide
                      have t_x_37 : x_37.toInt = (sv_28 : Int32).toInt + (1 : Int32).toInt := by rw [ex_37]; exact add_toInt (by omega) (by omega)
                      have t_x_335 : x_335.toInt = (x_37 : Int32).toInt + (1 : Int32).toInt := by rw [ex_335]; exact add_toInt (by omega) (by omega)
                      omega
                    have hr_406 : 0 ≤ (sv_7 : Int32).toInt ∧ (sv_7 : Int32).toInt < 60 ∧ (sv_343 : Int32).toInt = (sv_7 : Int32).toInt + 1 := by
                      have z_1 : ¬ (r_13 : Int32).toInt = (0 : Int32).toInt := fun z => c_18 (Int32.toInt_inj.mp z)
                      have z_2 := congrArg Int32.toInt c_36
                      have z_3 : ¬ (r_33 : Int32).toInt = (61 : Int32).toInt := fun z => c_38 (Int32.toInt_inj.mp z)
                      have z_4 := Int32.lt_iff_toInt_lt.mp (Int32.not_le.mp c_135)
                      have z_5 := congrArg Int32.toInt c_234
                      have z_6 : ¬ (r_345 : Int32).toInt = (0 : Int32).toInt := fun z => c_350 (Int32.toInt_inj.mp z)
                      have z_7 := congrArg Int32.toInt c_351
                      have z_8 : ¬ (r_369 : Int32).toInt = (0 : Int32).toInt := fun z => c_374 (Int32.toInt_inj.mp z)
                      have y_0 : (0 : Int32).toInt = 0 := by decide
                      have y_60 : (60 : Int32).toInt = 60 := by decide
                      have y_61 : (61 : Int32).toInt = 61 := by decide
                      have y_1 : (1 : Int32).toInt = 1 := by decide
                      have t_x_37 : x_37.toInt = (sv_28 : Int32).toInt + (1 : Int32).toInt := by rw [ex_37]; exact add_toInt (by omega) (by omega)
                      omega
                    have hr_407 : (rB (Mf 1) (Mv 0) (sv_28 : Int32).toInt.toNat = 60 ∨ rB (Mf 1) (Mv 0) (sv_28 : Int32).toInt.toNat = 61 ∨ rB (Mf 1) (Mv 0) (sv_28 : Int32).toInt.toNat = 62) := by
                      have z_1 : ¬ (r_13 : Int32).toInt = (0 : Int32).toInt := fun z => c_18 (Int32.toInt_inj.mp z)
                      have z_2 := congrArg Int32.toInt c_36
                      have z_3 : ¬ (r_33 : Int32).toInt = (61 : Int32).toInt := fun z => c_38 (Int32.toInt_inj.mp z)
                      have z_4 := Int32.lt_iff_toInt_lt.mp (Int32.not_le.mp c_135)
                      have z_5 := congrArg Int32.toInt c_234
                      have z_6 : ¬ (r_345 : Int32).toInt = (0 : Int32).toInt := fun z => c_350 (Int32.toInt_inj.mp z)
                      have z_7 := congrArg Int32.toInt c_351
                      have z_8 : ¬ (r_369 : Int32).toInt = (0 : Int32).toInt := fun z => c_374 (Int32.toInt_inj.mp z)
                      have y_0 : (0 : Int32).toInt = 0 := by decide
                      have y_60 : (60 : Int32).toInt = 60 := by decide
                      have y_61 : (61 : Int32).toInt = 61 := by decide
                      have y_1 : (1 : Int32).toInt = 1 := by decide
                      have t_x_37 : x_37.toInt = (sv_28 : Int32).toInt + (1 : Int32).toInt := by rw [ex_37]; exact add_toInt (by omega) (by omega)
                      omega
                    have rg_408 := rB_rg (n := (Mv 0)) h_bs ((sv_28 : Int32).toInt.toNat + 1)
                    have hk_409 : ((Mf 1) (x_37 : Int32).toInt.toNat).toInt = ((Mf 1) ((sv_28 : Int32).toInt.toNat + 1)).toInt := congrArg (fun z => ((Mf 1) z).toInt) (by
                      have z_1 : ¬ (r_13 : Int32).toInt = (0 : Int32).toInt := fun z => c_18 (Int32.toInt_inj.mp z)
                      have z_2 := congrArg Int32.toInt c_36
                      have z_3 : ¬ (r_33 : Int32).toInt = (61 : Int32).toInt := fun z => c_38 (Int32.toInt_inj.mp z)
                      have z_4 := Int32.lt_iff_toInt_lt.mp (Int32.not_le.mp c_135)
                      have z_5 := congrArg Int32.toInt c_234
                      have z_6 : ¬ (r_345 : Int32).toInt = (0 : Int32).toInt := fun z => c_350 (Int32.toInt_inj.mp z)
                      have z_7 := congrArg Int32.toInt c_351
                      have z_8 : ¬ (r_369 : Int32).toInt = (0 : Int32).toInt := fun z => c_374 (Int32.toInt_inj.mp z)
                      have y_0 : (0 : Int32).toInt = 0 := by decide
                      have y_60 : (60 : Int32).toInt = 60 := by decide
                      have y_61 : (61 : Int32).toInt = 61 := by decide
                      have y_1 : (1 : Int32).toInt = 1 := by decide
                      have t_x_37 : x_37.toInt = (sv_28 : Int32).toInt + (1 : Int32).toInt := by rw [ex_37]; exact add_toInt (by omega) (by omega)
                      omega)
                    have hr_410 : ((x_335 : Int32).toInt = (sv_28 : Int32).toInt + 1 ∧ ¬ ((rB (Mf 1) (Mv 0) (sv_28 : Int32).toInt.toNat = 60 ∨ rB (Mf 1) (Mv 0) (sv_28 : Int32).toInt.toNat = 62) ∧ rB (Mf 1) (Mv 0) ((sv_28 : Int32).toInt.toNat + 1) = 61)) ∨ ((x_335 : Int32).toInt = (sv_28 : Int32).toInt + 2 ∧ (rB (Mf 1) (Mv 0) (sv_28 : Int32).toInt.toNat = 60 ∨ rB (Mf 1) (Mv 0) (sv_28 : Int32).toInt.toNat = 62) ∧ rB (Mf 1) (Mv 0) ((sv_28 : Int32).toInt.toNat + 1) = 61) := by
                      have z_1 : ¬ (r_13 : Int32).toInt = (0 : Int32).toInt := fun z => c_18 (Int32.toInt_inj.mp z)
                      have z_2 := congrArg Int32.toInt c_36
                      have z_3 : ¬ (r_33 : Int32).toInt = (61 : Int32).toInt := fun z => c_38 (Int32.toInt_inj.mp z)
                      have z_4 := Int32.lt_iff_toInt_lt.mp (Int32.not_le.mp c_135)
                      have z_5 := congrArg Int32.toInt c_234
                      have z_6 : ¬ (r_345 : Int32).toInt = (0 : Int32).toInt := fun z => c_350 (Int32.toInt_inj.mp z)
                      have z_7 := congrArg Int32.toInt c_351
                      have z_8 : ¬ (r_369 : Int32).toInt = (0 : Int32).toInt := fun z => c_374 (Int32.toInt_inj.mp z)
                      have y_0 : (0 : Int32).toInt = 0 := by decide
                      have y_60 : (60 : Int32).toInt = 60 := by decide
                      have y_61 : (61 : Int32).toInt = 61 := by decide
                      have y_1 : (1 : Int32).toInt = 1 := by decide
                      have t_x_37 : x_37.toInt = (sv_28 : Int32).toInt + (1 : Int32).toInt := by rw [ex_37]; exact add_toInt (by omega) (by omega)
                      have t_x_335 : x_335.toInt = (x_37 : Int32).toInt + (1 : Int32).toInt := by rw [ex_335]; exact add_toInt (by omega) (by omega)
                      omega
                    have hr_411 : (rB (Mf 1) (Mv 0) (sv_28 : Int32).toInt.toNat = 60 ∧ (x_335 : Int32).toInt = (sv_28 : Int32).toInt + 1 ∧ (-8 : Int) = -7) ∨ (rB (Mf 1) (Mv 0) (sv_28 : Int32).toInt.toNat = 60 ∧ (x_335 : Int32).toInt = (sv_28 : Int32).toInt + 2 ∧ (-8 : Int) = -8) ∨ (rB (Mf 1) (Mv 0) (sv_28 : Int32).toInt.toNat = 61 ∧ (-8 : Int) = -9) ∨ (rB (Mf 1) (Mv 0) (sv_28 : Int32).toInt.toNat = 62 ∧ (x_335 : Int32).toInt = (sv_28 : Int32).toInt + 2 ∧ (-8 : Int) = -10) ∨ (rB (Mf 1) (Mv 0) (sv_28 : Int32).toInt.toNat = 62 ∧ (x_335 : Int32).toInt = (sv_28 : Int32).toInt + 1 ∧ (-8 : Int) = -11) := by
                      have z_1 : ¬ (r_13 : Int32).toInt = (0 : Int32).toInt := fun z => c_18 (Int32.toInt_inj.mp z)
                      have z_2 := congrArg Int32.toInt c_36
                      have z_3 : ¬ (r_33 : Int32).toInt = (61 : Int32).toInt := fun z => c_38 (Int32.toInt_inj.mp z)
                      have z_4 := Int32.lt_iff_toInt_lt.mp (Int32.not_le.mp c_135)
                      have z_5 := congrArg Int32.toInt c_234
                      have z_6 : ¬ (r_345 : Int32).toInt = (0 : Int32).toInt := fun z => c_350 (Int32.toInt_inj.mp z)
                      have z_7 := congrArg Int32.toInt c_351
                      have z_8 : ¬ (r_369 : Int32).toInt = (0 : Int32).toInt := fun z => c_374 (Int32.toInt_inj.mp z)
                      have y_0 : (0 : Int32).toInt = 0 := by decide
                      have y_60 : (60 : Int32).toInt = 60 := by decide
                      have y_61 : (61 : Int32).toInt = 61 := by decide
                      have y_1 : (1 : Int32).toInt = 1 := by decide
                      have t_x_37 : x_37.toInt = (sv_28 : Int32).toInt + (1 : Int32).toInt := by rw [ex_37]; exact add_toInt (by omega) (by omega)
                      have t_x_335 : x_335.toInt = (x_37 : Int32).toInt + (1 : Int32).toInt := by rw [ex_335]; exact add_toInt (by omega) (by omega)
                      omega
                    have hu_412 : SgC sv_388 sv_389 (Mv 5) (((ll ++ lsum (rB (Mf 1) (Mv 0)) (St0 (rB (Mf 1) (Mv 0)) (Mv 2) (Mv 6))) ++ lsum (rB (Mf 1) (Mv 0)) (St0 (rB (Mf 1) (Mv 0)) x_335 sv_343)) ++ [(-8)]) := by
                      rw [← elo_23, ← elo_379, ← elo_394]
                      exact pf_393
                    have hs_413 : SgC sv_388 sv_389 (Mv 5) (ll ++ ec_com (rB (Mf 1) (Mv 0)) (St0 (rB (Mf 1) (Mv 0)) (Mv 2) (Mv 6))) := by
                      rw [com_ls (o := -8) (md1 := sv_343) pf_20 pf_32 hr_407 hr_410 (ec_c_at pf_32 hr_410 hr_411)]
                      exact hu_412
                    exact ⟨pf_390, (RfO.com pf_20 pf_32 hr_402 hr_405 hr_406 pf_376), hs_413⟩
                  exact retI (v := 1) hx hb hr hlk (rfl) hP hD hS (sv_360, sv_361, sv_362, sv_363, sv_388, sv_389) ⟨_, rfl, hp_400, ha_395, ha_396, (Agr.trans (k' := (400 * ((Mv 5) : Int32).toInt + ((Mf 3) (Mv 5).toNatClampNeg).toInt)) (Agr.trans (k' := (400 * ((Mv 5) : Int32).toInt + ((Mf 3) (Mv 5).toNatClampNeg).toInt)) (Agr.mono pf_12 hr_397) pf_368 ⟨Int.le_refl _, hr_398⟩) pf_391 ⟨Int.le_refl _, hr_399⟩), hm_401, (fun h => absurd h (by decide))⟩ [1, 0, 2, 3] rfl rfl dX12_compare_174 (Nat.le_of_ble_eq_true rfl) (Nat.le_of_ble_eq_true rfl) rfl
                · skip
                  have hz_415 : (r_369 : Int32).toInt = 0 := by
                    have z_1 : ¬ (r_13 : Int32).toInt = (0 : Int32).toInt := fun z => c_18 (Int32.toInt_inj.mp z)
                    have z_2 := congrArg Int32.toInt c_36
                    have z_3 : ¬ (r_33 : Int32).toInt = (61 : Int32).toInt := fun z => c_38 (Int32.toInt_inj.mp z)
                    have z_4 := Int32.lt_iff_toInt_lt.mp (Int32.not_le.mp c_135)
                    have z_5 := congrArg Int32.toInt c_234
                    have z_6 : ¬ (r_345 : Int32).toInt = (0 : Int32).toInt := fun z => c_350 (Int32.toInt_inj.mp z)
                    have z_7 := congrArg Int32.toInt c_351
                    have z_8 := congrArg Int32.toInt c_374
                    have y_0 : (0 : Int32).toInt = 0 := by decide
                    have y_60 : (60 : Int32).toInt = 60 := by decide
                    have y_61 : (61 : Int32).toInt = 61 := by decide
                    have y_1 : (1 : Int32).toInt = 1 := by decide
                    have t_x_37 : x_37.toInt = (sv_28 : Int32).toInt + (1 : Int32).toInt := by rw [ex_37]; exact add_toInt (by omega) (by omega)
                    omega
                  obtain pf_414 := hm_373 hz_415
                  have pf_414 : RfE (pz_sum (rB (Mf 1) (Mv 0)) (St0 (rB (Mf 1) (Mv 0)) x_335 sv_343)) sv_361 := pf_414
                  refine lv_iconst (v := 0) hx hb dX12_compare_161 (by decide) ?_
                  have ha_416 : ((Mv 2) : Int32).toInt ≤ (sv_360 : Int32).toInt ∧ (sv_360 : Int32).toInt ≤ ((Mv 0) : Int32).toInt := by
                    have z_1 : ¬ (r_13 : Int32).toInt = (0 : Int32).toInt := fun z => c_18 (Int32.toInt_inj.mp z)
                    have z_2 := congrArg Int32.toInt c_36
                    have z_3 : ¬ (r_33 : Int32).toInt = (61 : Int32).toInt := fun z => c_38 (Int32.toInt_inj.mp z)
                    have z_4 := Int32.lt_iff_toInt_lt.mp (Int32.not_le.mp c_135)
                    have z_5 := congrArg Int32.toInt c_234
                    have z_6 : ¬ (r_345 : Int32).toInt = (0 : Int32).toInt := fun z => c_350 (Int32.toInt_inj.mp z)
                    have z_7 := congrArg Int32.toInt c_351
                    have z_8 := congrArg Int32.toInt c_374
                    have y_0 : (0 : Int32).toInt = 0 := by decide
                    have y_60 : (60 : Int32).toInt = 60 := by decide
                    have y_61 : (61 : Int32).toInt = 61 := by decide
                    have y_1 : (1 : Int32).toInt = 1 := by decide
                    have t_x_37 : x_37.toInt = (sv_28 : Int32).toInt + (1 : Int32).toInt := by rw [ex_37]; exact add_toInt (by omega) (by omega)
                    omega
                  have ha_417 : ((Mv 6) : Int32).toInt ≤ (sv_363 : Int32).toInt ∧ (sv_363 : Int32).toInt ≤ 60 := by
                    have z_1 : ¬ (r_13 : Int32).toInt = (0 : Int32).toInt := fun z => c_18 (Int32.toInt_inj.mp z)
                    have z_2 := congrArg Int32.toInt c_36
                    have z_3 : ¬ (r_33 : Int32).toInt = (61 : Int32).toInt := fun z => c_38 (Int32.toInt_inj.mp z)
                    have z_4 := Int32.lt_iff_toInt_lt.mp (Int32.not_le.mp c_135)
                    have z_5 := congrArg Int32.toInt c_234
                    have z_6 : ¬ (r_345 : Int32).toInt = (0 : Int32).toInt := fun z => c_350 (Int32.toInt_inj.mp z)
                    have z_7 := congrArg Int32.toInt c_351
                    have z_8 := congrArg Int32.toInt c_374
                    have y_0 : (0 : Int32).toInt = 0 := by decide
                    have y_60 : (60 : Int32).toInt = 60 := by decide
                    have y_61 : (61 : Int32).toInt = 61 := by decide
                    have y_1 : (1 : Int32).toInt = 1 := by decide
                    have t_x_37 : x_37.toInt = (sv_28 : Int32).toInt + (1 : Int32).toInt := by rw [ex_37]; exact add_toInt (by omega) (by omega)
                    omega
                  have hr_418 : (400 * ((Mv 5) : Int32).toInt + ((Mf 3) (Mv 5).toNatClampNeg).toInt) ≤ (400 * ((Mv 5) : Int32).toInt + ((Mf 3) (Mv 5).toNatClampNeg).toInt) := by
                    have z_1 : ¬ (r_13 : Int32).toInt = (0 : Int32).toInt := fun z => c_18 (Int32.toInt_inj.mp z)
                    have z_2 := congrArg Int32.toInt c_36
                    have z_3 : ¬ (r_33 : Int32).toInt = (61 : Int32).toInt := fun z => c_38 (Int32.toInt_inj.mp z)
                    have z_4 := Int32.lt_iff_toInt_lt.mp (Int32.not_le.mp c_135)
                    have z_5 := congrArg Int32.toInt c_234
                    have z_6 : ¬ (r_345 : Int32).toInt = (0 : Int32).toInt := fun z => c_350 (Int32.toInt_inj.mp z)
                    have z_7 := congrArg Int32.toInt c_351
                    have z_8 := congrArg Int32.toInt c_374
                    have y_0 : (0 : Int32).toInt = 0 := by decide
                    have y_60 : (60 : Int32).toInt = 60 := by decide
                    have y_61 : (61 : Int32).toInt = 61 := by decide
                    have y_1 : (1 : Int32).toInt = 1 := by decide
                    have t_x_37 : x_37.toInt = (sv_28 : Int32).toInt + (1 : Int32).toInt := by rw [ex_37]; exact add_toInt (by omega) (by omega)
                    omega
                  have hr_419 : (400 * ((Mv 5) : Int32).toInt + ((Mf 3) (Mv 5).toNatClampNeg).toInt) ≤ (400 * ((Mv 5) : Int32).toInt + (sv_9 (Mv 5).toNatClampNeg).toInt) := by
                    have z_1 : ¬ (r_13 : Int32).toInt = (0 : Int32).toInt := fun z => c_18 (Int32.toInt_inj.mp z)
                    have z_2 := congrArg Int32.toInt c_36
                    have z_3 : ¬ (r_33 : Int32).toInt = (61 : Int32).toInt := fun z => c_38 (Int32.toInt_inj.mp z)
                    have z_4 := Int32.lt_iff_toInt_lt.mp (Int32.not_le.mp c_135)
                    have z_5 := congrArg Int32.toInt c_234
                    have z_6 : ¬ (r_345 : Int32).toInt = (0 : Int32).toInt := fun z => c_350 (Int32.toInt_inj.mp z)
                    have z_7 := congrArg Int32.toInt c_351
                    have z_8 := congrArg Int32.toInt c_374
                    have y_0 : (0 : Int32).toInt = 0 := by decide
                    have y_60 : (60 : Int32).toInt = 60 := by decide
                    have y_61 : (61 : Int32).toInt = 61 := by decide
                    have y_1 : (1 : Int32).toInt = 1 := by decide
                    have t_x_37 : x_37.toInt = (sv_28 : Int32).toInt + (1 : Int32).toInt := by rw [ex_37]; exact add_toInt (by omega) (by omega)
                    omega
                  have hp_420 : (((0 : Int32).toInt = 0 ∧ ¬ (sv_361 : Int32).toInt = 0) ∨ ((0 : Int32).toInt = 1 ∧ ((Mf 3) (Mv 5).toNatClampNeg).toInt + 1 ≤ (sv_365 (Mv 5).toNatClampNeg).toInt ∧ (sv_365 (Mv 5).toNatClampNeg).toInt + ((Mv 2) : Int32).toInt ≤ ((Mf 3) (Mv 5).toNatClampNeg).toInt + (sv_360 : Int32).toInt ∧ ((Mv 2) : Int32).toInt + 1 ≤ (sv_360 : Int32).toInt)) := by
                    have z_1 : ¬ (r_13 : Int32).toInt = (0 : Int32).toInt := fun z => c_18 (Int32.toInt_inj.mp z)
                    have z_2 := congrArg Int32.toInt c_36
                    have z_3 : ¬ (r_33 : Int32).toInt = (61 : Int32).toInt := fun z => c_38 (Int32.toInt_inj.mp z)
                    have z_4 := Int32.lt_iff_toInt_lt.mp (Int32.not_le.mp c_135)
                    have z_5 := congrArg Int32.toInt c_234
                    have z_6 : ¬ (r_345 : Int32).toInt = (0 : Int32).toInt := fun z => c_350 (Int32.toInt_inj.mp z)
                    have z_7 := congrArg Int32.toInt c_351
                    have z_8 := congrArg Int32.toInt c_374
                    have y_0 : (0 : Int32).toInt = 0 := by decide
                    have y_60 : (60 : Int32).toInt = 60 := by decide
                    have y_61 : (61 : Int32).toInt = 61 := by decide
                    have y_1 : (1 : Int32).toInt = 1 := by decide
                    have t_x_37 : x_37.toInt = (sv_28 : Int32).toInt + (1 : Int32).toInt := by rw [ex_37]; exact add_toInt (by omega) (by omega)
                    omega
                  have hm_421 : (0 : Int32).toInt = 0 → (RfE (pz_com (rB (Mf 1) (Mv 0)) (St0 (rB (Mf 1) (Mv 0)) (Mv 2) (Mv 6))) sv_361) := by
                    intro h1r
                    have hr_422 : (rB (Mf 1) (Mv 0) (sv_28 : Int32).toInt.toNat = 60 ∨ rB (Mf 1) (Mv 0) (sv_28 : Int32).toInt.toNat = 61 ∨ rB (Mf 1) (Mv 0) (sv_28 : Int32).toInt.toNat = 62) := by
                      have z_1 : ¬ (r_13 : Int32).toInt = (0 : Int32).toInt := fun z => c_18 (Int32.toInt_inj.mp z)
                      have z_2 := congrArg Int32.toInt c_36
                      have z_3 : ¬ (r_33 : Int32).toInt = (61 : Int32).toInt := fun z => c_38 (Int32.toInt_inj.mp z)
                      have z_4 := Int32.lt_iff_toInt_lt.mp (Int32.not_le.mp c_135)
                      have z_5 := congrArg Int32.toInt c_234
                      have z_6 : ¬ (r_345 : Int32).toInt = (0 : Int32).toInt := fun z => c_350 (Int32.toInt_inj.mp z)
                      have z_7 := congrArg Int32.toInt c_351
                      have z_8 := congrArg Int32.toInt c_374
                      have y_0 : (0 : Int32).toInt = 0 := by decide
                      have y_60 : (60 : Int32).toInt = 60 := by decide
                      have y_61 : (61 : Int32).toInt = 61 := by decide
                      have y_1 : (1 : Int32).toInt = 1 := by decide
                      have t_x_37 : x_37.toInt = (sv_28 : Int32).toInt + (1 : Int32).toInt := by rw [ex_37]; exact add_toInt (by omega) (by omega)
                      omega
                    have rg_423 := rB_rg (n := (Mv 0)) h_bs ((sv_28 : Int32).toInt.toNat + 1)
                    have hk_424 : ((Mf 1) (x_37 : Int32).toInt.toNat).toInt = ((Mf 1) ((sv_28 : Int32).toInt.toNat + 1)).toInt := congrArg (fun z => ((Mf 1) z).toInt) (by
                      have z_1 : ¬ (r_13 : Int32).toInt = (0 : Int32).toInt := fun z => c_18 (Int32.toInt_inj.mp z)
                      have z_2 := congrArg Int32.toInt c_36
                      have z_3 : ¬ (r_33 : Int32).toInt = (61 : Int32).toInt := fun z => c_38 (Int32.toInt_inj.mp z)
                      have z_4 := Int32.lt_iff_toInt_lt.mp (Int32.not_le.mp c_135)
                      have z_5 := congrArg Int32.toInt c_234
                      have z_6 : ¬ (r_345 : Int32).toInt = (0 : Int32).toInt := fun z => c_350 (Int32.toInt_inj.mp z)
                      have z_7 := congrArg Int32.toInt c_351
                      have z_8 := congrArg Int32.toInt c_374
                      have y_0 : (0 : Int32).toInt = 0 := by decide
                      have y_60 : (60 : Int32).toInt = 60 := by decide
                      have y_61 : (61 : Int32).toInt = 61 := by decide
                      have y_1 : (1 : Int32).toInt = 1 := by decide
                      have t_x_37 : x_37.toInt = (sv_28 : Int32).toInt + (1 : Int32).toInt := by rw [ex_37]; exact add_toInt (by omega) (by omega)
                      omega)
                    have hr_425 : ((x_335 : Int32).toInt = (sv_28 : Int32).toInt + 1 ∧ ¬ ((rB (Mf 1) (Mv 0) (sv_28 : Int32).toInt.toNat = 60 ∨ rB (Mf 1) (Mv 0) (sv_28 : Int32).toInt.toNat = 62) ∧ rB (Mf 1) (Mv 0) ((sv_28 : Int32).toInt.toNat + 1) = 61)) ∨ ((x_335 : Int32).toInt = (sv_28 : Int32).toInt + 2 ∧ (rB (Mf 1) (Mv 0) (sv_28 : Int32).toInt.toNat = 60 ∨ rB (Mf 1) (Mv 0) (sv_28 : Int32).toInt.toNat = 62) ∧ rB (Mf 1) (Mv 0) ((sv_28 : Int32).toInt.toNat + 1) = 61) := by
                      have z_1 : ¬ (r_13 : Int32).toInt = (0 : Int32).toInt := fun z => c_18 (Int32.toInt_inj.mp z)
                      have z_2 := congrArg Int32.toInt c_36
                      have z_3 : ¬ (r_33 : Int32).toInt = (61 : Int32).toInt := fun z => c_38 (Int32.toInt_inj.mp z)
                      have z_4 := Int32.lt_iff_toInt_lt.mp (Int32.not_le.mp c_135)
                      have z_5 := congrArg Int32.toInt c_234
                      have z_6 : ¬ (r_345 : Int32).toInt = (0 : Int32).toInt := fun z => c_350 (Int32.toInt_inj.mp z)
                      have z_7 := congrArg Int32.toInt c_351
                      have z_8 := congrArg Int32.toInt c_374
                      have y_0 : (0 : Int32).toInt = 0 := by decide
                      have y_60 : (60 : Int32).toInt = 60 := by decide
                      have y_61 : (61 : Int32).toInt = 61 := by decide
                      have y_1 : (1 : Int32).toInt = 1 := by decide
                      have t_x_37 : x_37.toInt = (sv_28 : Int32).toInt + (1 : Int32).toInt := by rw [ex_37]; exact add_toInt (by omega) (by omega)
                      have t_x_335 : x_335.toInt = (x_37 : Int32).toInt + (1 : Int32).toInt := by rw [ex_335]; exact add_toInt (by omega) (by omega)
                      omega
                    have hr_426 : 0 ≤ (sv_7 : Int32).toInt ∧ (sv_7 : Int32).toInt < 60 ∧ (sv_343 : Int32).toInt = (sv_7 : Int32).toInt + 1 := by
                      have z_1 : ¬ (r_13 : Int32).toInt = (0 : Int32).toInt := fun z => c_18 (Int32.toInt_inj.mp z)
                      have z_2 := congrArg Int32.toInt c_36
                      have z_3 : ¬ (r_33 : Int32).toInt = (61 : Int32).toInt := fun z => c_38 (Int32.toInt_inj.mp z)
                      have z_4 := Int32.lt_iff_toInt_lt.mp (Int32.not_le.mp c_135)
                      have z_5 := congrArg Int32.toInt c_234
                      have z_6 : ¬ (r_345 : Int32).toInt = (0 : Int32).toInt := fun z => c_350 (Int32.toInt_inj.mp z)
                      have z_7 := congrArg Int32.toInt c_351
                      have z_8 := congrArg Int32.toInt c_374
                      have y_0 : (0 : Int32).toInt = 0 := by decide
                      have y_60 : (60 : Int32).toInt = 60 := by decide
                      have y_61 : (61 : Int32).toInt = 61 := by decide
                      have y_1 : (1 : Int32).toInt = 1 := by decide
                      have t_x_37 : x_37.toInt = (sv_28 : Int32).toInt + (1 : Int32).toInt := by rw [ex_37]; exact add_toInt (by omega) (by omega)
                      omega
                    exact (RfE.com2 pf_20 pf_32 hr_422 hr_425 hr_426 pf_414)
                  exact retI (v := 0) hx hb hr hlk (rfl) hP hD hS (sv_360, sv_361, sv_362, sv_363, sv_364, sv_365) ⟨_, rfl, hp_420, ha_416, ha_417, (Agr.trans (k' := (400 * ((Mv 5) : Int32).toInt + ((Mf 3) (Mv 5).toNatClampNeg).toInt)) (Agr.mono pf_12 hr_418) pf_368 ⟨Int.le_refl _, hr_419⟩), (fun h => absurd h (by decide)), hm_421⟩ [0, 1, 2, 3] rfl rfl dX12_compare_162 (Nat.le_of_ble_eq_true rfl) (Nat.le_of_ble_eq_true rfl) rfl
            · skip
              refine lv_iconst (v := 0) hx hb dX12_compare_113 (by decide) ?_
              have ha_427 : ((Mv 2) : Int32).toInt ≤ (x_335 : Int32).toInt ∧ (x_335 : Int32).toInt ≤ ((Mv 0) : Int32).toInt := by
                have z_1 : ¬ (r_13 : Int32).toInt = (0 : Int32).toInt := fun z => c_18 (Int32.toInt_inj.mp z)
                have z_2 := congrArg Int32.toInt c_36
                have z_3 : ¬ (r_33 : Int32).toInt = (61 : Int32).toInt := fun z => c_38 (Int32.toInt_inj.mp z)
                have z_4 := Int32.lt_iff_toInt_lt.mp (Int32.not_le.mp c_135)
                have z_5 := congrArg Int32.toInt c_234
                have z_6 := congrArg Int32.toInt c_350
                have y_0 : (0 : Int32).toInt = 0 := by decide
                have y_60 : (60 : Int32).toInt = 60 := by decide
                have y_61 : (61 : Int32).toInt = 61 := by decide
                have y_1 : (1 : Int32).toInt = 1 := by decide
                have t_x_37 : x_37.toInt = (sv_28 : Int32).toInt + (1 : Int32).toInt := by rw [ex_37]; exact add_toInt (by omega) (by omega)
                have t_x_335 : x_335.toInt = (x_37 : Int32).toInt + (1 : Int32).toInt := by rw [ex_335]; exact add_toInt (by omega) (by omega)
                omega
              have ha_428 : ((Mv 6) : Int32).toInt ≤ (sv_343 : Int32).toInt ∧ (sv_343 : Int32).toInt ≤ 60 := by
                have z_1 : ¬ (r_13 : Int32).toInt = (0 : Int32).toInt := fun z => c_18 (Int32.toInt_inj.mp z)
                have z_2 := congrArg Int32.toInt c_36
                have z_3 : ¬ (r_33 : Int32).toInt = (61 : Int32).toInt := fun z => c_38 (Int32.toInt_inj.mp z)
                have z_4 := Int32.lt_iff_toInt_lt.mp (Int32.not_le.mp c_135)
                have z_5 := congrArg Int32.toInt c_234
                have z_6 := congrArg Int32.toInt c_350
                have y_0 : (0 : Int32).toInt = 0 := by decide
                have y_60 : (60 : Int32).toInt = 60 := by decide
                have y_61 : (61 : Int32).toInt = 61 := by decide
                have y_1 : (1 : Int32).toInt = 1 := by decide
                have t_x_37 : x_37.toInt = (sv_28 : Int32).toInt + (1 : Int32).toInt := by rw [ex_37]; exact add_toInt (by omega) (by omega)
                omega
              have hp_429 : (((0 : Int32).toInt = 0 ∧ ¬ (sv_342 : Int32).toInt = 0) ∨ ((0 : Int32).toInt = 1 ∧ ((Mf 3) (Mv 5).toNatClampNeg).toInt + 1 ≤ (sv_9 (Mv 5).toNatClampNeg).toInt ∧ (sv_9 (Mv 5).toNatClampNeg).toInt + ((Mv 2) : Int32).toInt ≤ ((Mf 3) (Mv 5).toNatClampNeg).toInt + (x_335 : Int32).toInt ∧ ((Mv 2) : Int32).toInt + 1 ≤ (x_335 : Int32).toInt)) := by
                have z_1 : ¬ (r_13 : Int32).toInt = (0 : Int32).toInt := fun z => c_18 (Int32.toInt_inj.mp z)
                have z_2 := congrArg Int32.toInt c_36
                have z_3 : ¬ (r_33 : Int32).toInt = (61 : Int32).toInt := fun z => c_38 (Int32.toInt_inj.mp z)
                have z_4 := Int32.lt_iff_toInt_lt.mp (Int32.not_le.mp c_135)
                have z_5 := congrArg Int32.toInt c_234
                have z_6 := congrArg Int32.toInt c_350
                have y_0 : (0 : Int32).toInt = 0 := by decide
                have y_60 : (60 : Int32).toInt = 60 := by decide
                have y_61 : (61 : Int32).toInt = 61 := by decide
                have y_1 : (1 : Int32).toInt = 1 := by decide
                have t_x_37 : x_37.toInt = (sv_28 : Int32).toInt + (1 : Int32).toInt := by rw [ex_37]; exact add_toInt (by omega) (by omega)
                have t_x_335 : x_335.toInt = (x_37 : Int32).toInt + (1 : Int32).toInt := by rw [ex_335]; exact add_toInt (by omega) (by omega)
                omega
              have hm_430 : (0 : Int32).toInt = 0 → (RfE (pz_com (rB (Mf 1) (Mv 0)) (St0 (rB (Mf 1) (Mv 0)) (Mv 2) (Mv 6))) sv_342) := by
                intro h1r
                have hr_431 : (rB (Mf 1) (Mv 0) (sv_28 : Int32).toInt.toNat = 60 ∨ rB (Mf 1) (Mv 0) (sv_28 : Int32).toInt.toNat = 61 ∨ rB (Mf 1) (Mv 0) (sv_28 : Int32).toInt.toNat = 62) := by
                  have z_1 : ¬ (r_13 : Int32).toInt = (0 : Int32).toInt := fun z => c_18 (Int32.toInt_inj.mp z)
                  have z_2 := congrArg Int32.toInt c_36
                  have z_3 : ¬ (r_33 : Int32).toInt = (61 : Int32).toInt := fun z => c_38 (Int32.toInt_inj.mp z)
                  have z_4 := Int32.lt_iff_toInt_lt.mp (Int32.not_le.mp c_135)
                  have z_5 := congrArg Int32.toInt c_234
                  have z_6 := congrArg Int32.toInt c_350
                  have y_0 : (0 : Int32).toInt = 0 := by decide
                  have y_60 : (60 : Int32).toInt = 60 := by decide
                  have y_61 : (61 : Int32).toInt = 61 := by decide
                  have y_1 : (1 : Int32).toInt = 1 := by decide
                  have t_x_37 : x_37.toInt = (sv_28 : Int32).toInt + (1 : Int32).toInt := by rw [ex_37]; exact add_toInt (by omega) (by omega)
                  omega
                have hr_432 : 60 ≤ (sv_7 : Int32).toInt := by
                  have z_1 : ¬ (r_13 : Int32).toInt = (0 : Int32).toInt := fun z => c_18 (Int32.toInt_inj.mp z)
                  have z_2 := congrArg Int32.toInt c_36
                  have z_3 : ¬ (r_33 : Int32).toInt = (61 : Int32).toInt := fun z => c_38 (Int32.toInt_inj.mp z)
                  have z_4 := Int32.lt_iff_toInt_lt.mp (Int32.not_le.mp c_135)
                  have z_5 := congrArg Int32.toInt c_234
                  have z_6 := congrArg Int32.toInt c_350
                  have y_0 : (0 : Int32).toInt = 0 := by decide
                  have y_60 : (60 : Int32).toInt = 60 := by decide
                  have y_61 : (61 : Int32).toInt = 61 := by decide
                  have y_1 : (1 : Int32).toInt = 1 := by decide
                  have t_x_37 : x_37.toInt = (sv_28 : Int32).toInt + (1 : Int32).toInt := by rw [ex_37]; exact add_toInt (by omega) (by omega)
                  omega
                have hi_433 : (sv_342 : Int32).toInt = 1 + 8 * (sv_28 : Int32).toInt + 3 := by
                  have z_1 : ¬ (r_13 : Int32).toInt = (0 : Int32).toInt := fun z => c_18 (Int32.toInt_inj.mp z)
                  have z_2 := congrArg Int32.toInt c_36
                  have z_3 : ¬ (r_33 : Int32).toInt = (61 : Int32).toInt := fun z => c_38 (Int32.toInt_inj.mp z)
                  have z_4 := Int32.lt_iff_toInt_lt.mp (Int32.not_le.mp c_135)
                  have z_5 := congrArg Int32.toInt c_234
                  have z_6 := congrArg Int32.toInt c_350
                  have y_0 : (0 : Int32).toInt = 0 := by decide
                  have y_60 : (60 : Int32).toInt = 60 := by decide
                  have y_61 : (61 : Int32).toInt = 61 := by decide
                  have y_1 : (1 : Int32).toInt = 1 := by decide
                  have t_x_37 : x_37.toInt = (sv_28 : Int32).toInt + (1 : Int32).toInt := by rw [ex_37]; exact add_toInt (by omega) (by omega)
                  omega
                exact (RfE.com3 pf_20 pf_32 hr_431 hr_432 hi_433)
              exact retI (v := 0) hx hb hr hlk (rfl) hP hD hS (x_335, sv_342, sv_6, sv_343, sv_8, sv_9) ⟨_, rfl, hp_429, ha_427, ha_428, pf_12, (fun h => absurd h (by decide)), hm_430⟩ [3, 2, 0, 1] rfl rfl dX12_compare_114 (Nat.le_of_ble_eq_true rfl) (Nat.le_of_ble_eq_true rfl) rfl
    · skip
      refine lv_iload_n hx hb dX12_compare_25 rfl (lv_at hl 1 rfl) ?_
      refine lv_bipush (v := 61) hx hb dX12_compare_26 (by decide) ?_
      refine lv_icmp_eq (tgt := 44) hx hb dX12_compare_28 (by decide) (fun c_434 => ?_) (fun c_434 => ?_)
      · skip
        refine lv_aload_n hx hb dX12_compare_44 rfl (lv_at hl 2 rfl) ?_
        refine lv_dup hx hb dX12_compare_45 rfl ?_
        refine gf_X12_87 hx hb hts hown hK hP 2 rfl rfl dX12_compare_46 ?_
        refine lv_iconst (v := 1) hx hb dX12_compare_49 (by decide) ?_
        refine lv_iadd hx hb dX12_compare_50 ?_
        refine lv_topi (fun x_435 ex_435 => ?_)
        refine pf_X12_87 hx hb hts hown hK hP hD hS 2 rfl (Nat.le_of_ble_eq_true rfl) rfl rfl dX12_compare_51 (fun H locs hP₀ hD₀ hS₀ => ?_)
        replace hP : va_P D classes [((Ma 2), .inl (tc 0, 2400, .inl sv_8)), ((Ma 3), .inl (tc 0, 7, .inl sv_9)), ((Ma 0), .inr (12, [.ref (Ma 1), .int (Mv 0), .int (Mv 1), .ref (Ma 2), .ref (Ma 3), .ref (Ma 4), .ref (Ma 5), .ref (Ma 6), .int x_435, .int sv_5, .int sv_6, .int (Mv 5), .int sv_7, .int (Mv 7), .int (Mv 8), .ref (Ma 7), .int (Mv 9), .ref (Ma 8), .int (Mv 10), .ref (Ma 9), .ref (Ma 10), .int (Mv 11), .int (Mv 12), .int (Mv 13), .ref (Ma 11), .int (Mv 14), .ref (Ma 12), .ref (Ma 13), .ref (Ma 14), .ref (Ma 15), .ref (Ma 16), .long (Mj 0), .ref (Ma 17), .ref (Ma 18), .ref (Ma 19), .ref (Ma 20)])), ((Ma 1), .inl (tc 2, 400, .inl (Mf 1)))] H := hP₀
        replace hD : va_D A [((Ma 2), .inl (tc 0, 2400, .inl sv_8)), ((Ma 3), .inl (tc 0, 7, .inl sv_9)), ((Ma 0), .inr (12, [.ref (Ma 1), .int (Mv 0), .int (Mv 1), .ref (Ma 2), .ref (Ma 3), .ref (Ma 4), .ref (Ma 5), .ref (Ma 6), .int x_435, .int sv_5, .int sv_6, .int (Mv 5), .int sv_7, .int (Mv 7), .int (Mv 8), .ref (Ma 7), .int (Mv 9), .ref (Ma 8), .int (Mv 10), .ref (Ma 9), .ref (Ma 10), .int (Mv 11), .int (Mv 12), .int (Mv 13), .ref (Ma 11), .int (Mv 14), .ref (Ma 12), .ref (Ma 13), .ref (Ma 14), .ref (Ma 15), .ref (Ma 16), .long (Mj 0), .ref (Ma 17), .ref (Ma 18), .ref (Ma 19), .ref (Ma 20)])), ((Ma 1), .inl (tc 2, 400, .inl (Mf 1)))] := hD₀
        replace hS := hS₀
        clear hP₀ hD₀ hS₀
        have tp_x_435 : (x_435 : Int32).toInt = (sv_28 : Int32).toInt + 1 := by
          have z_1 : ¬ (r_13 : Int32).toInt = (0 : Int32).toInt := fun z => c_18 (Int32.toInt_inj.mp z)
          have z_2 : ¬ (r_33 : Int32).toInt = (60 : Int32).toInt := fun z => c_36 (Int32.toInt_inj.mp z)
          have z_3 := congrArg Int32.toInt c_434
          have y_0 : (0 : Int32).toInt = 0 := by decide
          have y_60 : (60 : Int32).toInt = 60 := by decide
          have y_61 : (61 : Int32).toInt = 61 := by decide
          have y_1 : (1 : Int32).toInt = 1 := by decide
          have t_x_435 : x_435.toInt = (sv_28 : Int32).toInt + (1 : Int32).toInt := by rw [ex_435]; exact add_toInt (by omega) (by omega)
          omega
        refine lv_iload_n hx hb dX12_compare_54 rfl (lv_at hl 1 rfl) ?_
        refine lv_bipush (v := 61) hx hb dX12_compare_55 (by decide) ?_
        refine lv_icmp_eq (tgt := 89) hx hb dX12_compare_57 (by decide) (fun c_436 => ?_) (fun c_436 => ?_)
        · skip
          refine lv_iconst (v := 0) hx hb dX12_compare_89 (by decide) ?_
          refine lv_istore_n (lv' := [(3, .int 0), (2, .int sv_28), (1, .int r_33), (0, .ref (Ma 0))]) hx hb dX12_compare_90 rfl hl (by decide) rfl (fun ls hl₀ => ?_)
          replace hl := hl₀
          clear hl₀
          refine lv_iload_n hx hb dX12_compare_91 rfl (lv_at hl 0 rfl) ?_
          refine lv_if_eq (tgt := 105) hx hb dX12_compare_92 (by decide) (fun c_437 => ?_) (fun c_437 => absurd c_437 (by decide))
          refine lv_aload_n hx hb dX12_compare_105 rfl (lv_at hl 3 rfl) ?_
          refine lv_iload_n hx hb dX12_compare_106 rfl (lv_at hl 1 rfl) ?_
          have ha_438 : 0 ≤ sv_28.toInt ∧ sv_28.toInt ≤ 400 := by
            have z_1 : ¬ (r_13 : Int32).toInt = (0 : Int32).toInt := fun z => c_18 (Int32.toInt_inj.mp z)
            have z_2 : ¬ (r_33 : Int32).toInt = (60 : Int32).toInt := fun z => c_36 (Int32.toInt_inj.mp z)
            have z_3 := congrArg Int32.toInt c_434
            have z_4 := congrArg Int32.toInt c_436
            have y_0 : (0 : Int32).toInt = 0 := by decide
            have y_60 : (60 : Int32).toInt = 60 := by decide
            have y_61 : (61 : Int32).toInt = 61 := by decide
            omega
          have ha_439 : 0 ≤ (sv_7 : Int32).toInt ∧ (sv_7 : Int32).toInt ≤ 60 := by
            have z_1 : ¬ (r_13 : Int32).toInt = (0 : Int32).toInt := fun z => c_18 (Int32.toInt_inj.mp z)
            have z_2 : ¬ (r_33 : Int32).toInt = (60 : Int32).toInt := fun z => c_36 (Int32.toInt_inj.mp z)
            have z_3 := congrArg Int32.toInt c_434
            have z_4 := congrArg Int32.toInt c_436
            have y_0 : (0 : Int32).toInt = 0 := by decide
            have y_60 : (60 : Int32).toInt = 60 := by decide
            have y_61 : (61 : Int32).toInt = 61 := by decide
            omega
          have ha_440 : (sv_5 : Int32).toInt = 0 := by
            have z_1 : ¬ (r_13 : Int32).toInt = (0 : Int32).toInt := fun z => c_18 (Int32.toInt_inj.mp z)
            have z_2 : ¬ (r_33 : Int32).toInt = (60 : Int32).toInt := fun z => c_36 (Int32.toInt_inj.mp z)
            have z_3 := congrArg Int32.toInt c_434
            have z_4 := congrArg Int32.toInt c_436
            have y_0 : (0 : Int32).toInt = 0 := by decide
            have y_60 : (60 : Int32).toInt = 60 := by decide
            have y_61 : (61 : Int32).toInt = 61 := by decide
            omega
          refine cV (a := (Ma 0)) (As := [.int sv_28]) (rest := []) (wr := [((Ma 2), .inl (tc 0, 2400, .inl sv_8)), ((Ma 3), .inl (tc 0, 7, .inl sv_9)), ((Ma 1), .inl (tc 2, 400, .inl (Mf 1)))]) ⟨hx, hb, hml, hown, hts⟩ hK hX hA (cu_fX12_makes l D tc sk (Ma 0) (Ma 1) (Ma 2) (Ma 3) (Ma 4) (Ma 5) (Ma 6) (Ma 7) (Ma 8) (Ma 9) (Ma 10) (Ma 11) (Ma 12) (Ma 13) (Ma 14) (Ma 15) (Ma 16) (Ma 17) (Ma 18) (Ma 19) (Ma 20) (Mv 0) (Mv 1) x_435 sv_5 sv_6 (Mv 5) sv_7 (Mv 7) (Mv 8) (Mv 9) (Mv 10) (Mv 11) (Mv 12) (Mv 13) (Mv 14) (Mj 0) sv_28 ha_438 ha_439 ha_440) k_1292 k_1289 k_1291 k_45 k_106 pl_X12_makes ⟨Nat.le_of_ble_eq_true rfl, Nat.le_of_ble_eq_true rfl⟩ rfl rfl (va_recv hK hP (ci := 12) (q0 := 2) rfl rfl) hP hD hS [2] [0, 1, 3] rfl rfl rfl rfl rfl (by decide) rfl hl.1 rfl (Nat.le_of_ble_eq_true rfl) dX12_compare_107 ⟨Nat.le_of_ble_eq_true rfl, Nat.le_of_ble_eq_true rfl⟩ (fun v_441 u_442 H locs hv_443 hP₀ hD₀ hS₀ => ?_)
          obtain ⟨sv_444, sv_445⟩ := u_442
          obtain ⟨r_447, rfl, he_448, pf_446⟩ := hv_443
          have he_448 : ((r_447.toInt = 0 ∧ ¬ (sv_444 : Int32).toInt = 0 ∧ sv_7.toInt = 60 ∧ (sv_444 : Int32).toInt = 1 + 8 * sv_28.toInt + 3) ∨ (r_447.toInt = 1 ∧ (sv_445 : Int32).toInt = sv_7.toInt + 1 ∧ sv_7.toInt < 60 ∧ (sv_444 : Int32).toInt = 0)) := he_448
          have pf_446 : (sv_7 : Int32).toInt ≤ (sv_445 : Int32).toInt ∧ (sv_445 : Int32).toInt ≤ 60 := pf_446
          refine W.eq (g2 := F0 m 110 ls [.int r_447]) rfl ?_
          replace hP : va_P D classes [((Ma 2), .inl (tc 0, 2400, .inl sv_8)), ((Ma 3), .inl (tc 0, 7, .inl sv_9)), ((Ma 1), .inl (tc 2, 400, .inl (Mf 1))), ((Ma 0), .inr (12, [.ref (Ma 1), .int (Mv 0), .int (Mv 1), .ref (Ma 2), .ref (Ma 3), .ref (Ma 4), .ref (Ma 5), .ref (Ma 6), .int x_435, .int sv_444, .int sv_6, .int (Mv 5), .int sv_445, .int (Mv 7), .int (Mv 8), .ref (Ma 7), .int (Mv 9), .ref (Ma 8), .int (Mv 10), .ref (Ma 9), .ref (Ma 10), .int (Mv 11), .int (Mv 12), .int (Mv 13), .ref (Ma 11), .int (Mv 14), .ref (Ma 12), .ref (Ma 13), .ref (Ma 14), .ref (Ma 15), .ref (Ma 16), .long (Mj 0), .ref (Ma 17), .ref (Ma 18), .ref (Ma 19), .ref (Ma 20)]))] H := hP₀
          replace hD : va_D A [((Ma 2), .inl (tc 0, 2400, .inl sv_8)), ((Ma 3), .inl (tc 0, 7, .inl sv_9)), ((Ma 1), .inl (tc 2, 400, .inl (Mf 1))), ((Ma 0), .inr (12, [.ref (Ma 1), .int (Mv 0), .int (Mv 1), .ref (Ma 2), .ref (Ma 3), .ref (Ma 4), .ref (Ma 5), .ref (Ma 6), .int x_435, .int sv_444, .int sv_6, .int (Mv 5), .int sv_445, .int (Mv 7), .int (Mv 8), .ref (Ma 7), .int (Mv 9), .ref (Ma 8), .int (Mv 10), .ref (Ma 9), .ref (Ma 10), .int (Mv 11), .int (Mv 12), .int (Mv 13), .ref (Ma 11), .int (Mv 14), .ref (Ma 12), .ref (Ma 13), .ref (Ma 14), .ref (Ma 15), .ref (Ma 16), .long (Mj 0), .ref (Ma 17), .ref (Ma 18), .ref (Ma 19), .ref (Ma 20)]))] := hD₀
          replace hS := hS₀
          clear hP₀ hD₀ hS₀
          have hr_451 : (sv_7 : Int32).toInt ≤ (sv_445 : Int32).toInt ∧ (sv_445 : Int32).toInt ≤ 60 := by
            have z_1 : ¬ (r_13 : Int32).toInt = (0 : Int32).toInt := fun z => c_18 (Int32.toInt_inj.mp z)
            have z_2 : ¬ (r_33 : Int32).toInt = (60 : Int32).toInt := fun z => c_36 (Int32.toInt_inj.mp z)
            have z_3 := congrArg Int32.toInt c_434
            have z_4 := congrArg Int32.toInt c_436
            have y_0 : (0 : Int32).toInt = 0 := by decide
            have y_60 : (60 : Int32).toInt = 60 := by decide
            have y_61 : (61 : Int32).toInt = 61 := by decide
            omega
          have pf_450 : Cd sv_8 sv_9 (Mv 5) b sv_445 (d + 1) := Cd.mono pf_19 hr_451
          have ar_pf_450 := Cd.ar pf_450
          refine lv_if_ne (tgt := 115) hx hb dX12_compare_110 (by decide) (fun c_452 => ?_) (fun c_452 => ?_)
          · skip
            refine lv_iload_n hx hb dX12_compare_115 rfl (lv_at hl 2 rfl) ?_
            refine lv_bipush (v := 60) hx hb dX12_compare_116 (by decide) ?_
            refine lv_icmp_ne (tgt := 133) hx hb dX12_compare_118 (by decide) (fun c_453 => ?_) (fun c_453 => ?_)
            · skip
              refine lv_iload_n hx hb dX12_compare_133 rfl (lv_at hl 2 rfl) ?_
              refine lv_bipush (v := 61) hx hb dX12_compare_134 (by decide) ?_
              refine lv_icmp_ne (tgt := 143) hx hb dX12_compare_136 (by decide) (fun c_454 => ?_) (fun c_454 => ?_)
              · skip
                exfalso
                have z_1 : ¬ (r_13 : Int32).toInt = (0 : Int32).toInt := fun z => c_18 (Int32.toInt_inj.mp z)
                have z_2 : ¬ (r_33 : Int32).toInt = (60 : Int32).toInt := fun z => c_36 (Int32.toInt_inj.mp z)
                have z_3 := congrArg Int32.toInt c_434
                have z_4 := congrArg Int32.toInt c_436
                have z_5 : ¬ (r_447 : Int32).toInt = (0 : Int32).toInt := fun z => c_452 (Int32.toInt_inj.mp z)
                have z_6 : ¬ (r_33 : Int32).toInt = (60 : Int32).toInt := fun z => c_453 (Int32.toInt_inj.mp z)
                have z_7 : ¬ (r_33 : Int32).toInt = (61 : Int32).toInt := fun z => c_454 (Int32.toInt_inj.mp z)
                have y_0 : (0 : Int32).toInt = 0 := by decide
                have y_60 : (60 : Int32).toInt = 60 := by decide
                have y_61 : (61 : Int32).toInt = 61 := by decide
                omega
              · skip
                refine lv_iconst (v := 2) hx hb dX12_compare_139 (by decide) ?_
                refine lv_goto (tgt := 152) hx hb dX12_compare_140 (by decide) ?_
                refine lv_istore (lv' := [(4, .int 2), (3, .int 0), (2, .int sv_28), (1, .int r_33), (0, .ref (Ma 0))]) hx hb dX12_compare_152 hl (by decide) rfl (fun ls hl₀ => ?_)
                replace hl := hl₀
                clear hl₀
                refine lv_aload_n hx hb dX12_compare_154 rfl (lv_at hl 4 rfl) ?_
                have ha_455 : 0 ≤ (x_435 : Int32).toInt ∧ (x_435 : Int32).toInt ≤ ((Mv 0) : Int32).toInt ∧ ((Mv 0) : Int32).toInt ≤ 400 := by
                  have z_1 : ¬ (r_13 : Int32).toInt = (0 : Int32).toInt := fun z => c_18 (Int32.toInt_inj.mp z)
                  have z_2 : ¬ (r_33 : Int32).toInt = (60 : Int32).toInt := fun z => c_36 (Int32.toInt_inj.mp z)
                  have z_3 := congrArg Int32.toInt c_434
                  have z_4 := congrArg Int32.toInt c_436
                  have z_5 : ¬ (r_447 : Int32).toInt = (0 : Int32).toInt := fun z => c_452 (Int32.toInt_inj.mp z)
                  have z_6 : ¬ (r_33 : Int32).toInt = (60 : Int32).toInt := fun z => c_453 (Int32.toInt_inj.mp z)
                  have z_7 := congrArg Int32.toInt c_454
                  have y_0 : (0 : Int32).toInt = 0 := by decide
                  have y_60 : (60 : Int32).toInt = 60 := by decide
                  have y_61 : (61 : Int32).toInt = 61 := by decide
                  have y_1 : (1 : Int32).toInt = 1 := by decide
                  have t_x_435 : x_435.toInt = (sv_28 : Int32).toInt + (1 : Int32).toInt := by rw [ex_435]; exact add_toInt (by omega) (by omega)
                  omega
                have ha_456 : (sv_9 (Mv 5).toNatClampNeg).toInt ≤ (x_435 : Int32).toInt := by
                  have z_1 : ¬ (r_13 : Int32).toInt = (0 : Int32).toInt := fun z => c_18 (Int32.toInt_inj.mp z)
                  have z_2 : ¬ (r_33 : Int32).toInt = (60 : Int32).toInt := fun z => c_36 (Int32.toInt_inj.mp z)
                  have z_3 := congrArg Int32.toInt c_434
                  have z_4 := congrArg Int32.toInt c_436
                  have z_5 : ¬ (r_447 : Int32).toInt = (0 : Int32).toInt := fun z => c_452 (Int32.toInt_inj.mp z)
                  have z_6 : ¬ (r_33 : Int32).toInt = (60 : Int32).toInt := fun z => c_453 (Int32.toInt_inj.mp z)
                  have z_7 := congrArg Int32.toInt c_454
                  have y_0 : (0 : Int32).toInt = 0 := by decide
                  have y_60 : (60 : Int32).toInt = 60 := by decide
                  have y_61 : (61 : Int32).toInt = 61 := by decide
                  have y_1 : (1 : Int32).toInt = 1 := by decide
                  have t_x_435 : x_435.toInt = (sv_28 : Int32).toInt + (1 : Int32).toInt := by rw [ex_435]; exact add_toInt (by omega) (by omega)
                  omega
                have ha_457 : 0 ≤ (sv_445 : Int32).toInt ∧ (sv_445 : Int32).toInt ≤ 60 := by
                  have z_1 : ¬ (r_13 : Int32).toInt = (0 : Int32).toInt := fun z => c_18 (Int32.toInt_inj.mp z)
                  have z_2 : ¬ (r_33 : Int32).toInt = (60 : Int32).toInt := fun z => c_36 (Int32.toInt_inj.mp z)
                  have z_3 := congrArg Int32.toInt c_434
                  have z_4 := congrArg Int32.toInt c_436
                  have z_5 : ¬ (r_447 : Int32).toInt = (0 : Int32).toInt := fun z => c_452 (Int32.toInt_inj.mp z)
                  have z_6 : ¬ (r_33 : Int32).toInt = (60 : Int32).toInt := fun z => c_453 (Int32.toInt_inj.mp z)
                  have z_7 := congrArg Int32.toInt c_454
                  have y_0 : (0 : Int32).toInt = 0 := by decide
                  have y_60 : (60 : Int32).toInt = 60 := by decide
                  have y_61 : (61 : Int32).toInt = 61 := by decide
                  omega
                have ha_458 : (sv_444 : Int32).toInt = 0 := by
                  have z_1 : ¬ (r_13 : Int32).toInt = (0 : Int32).toInt := fun z => c_18 (Int32.toInt_inj.mp z)
                  have z_2 : ¬ (r_33 : Int32).toInt = (60 : Int32).toInt := fun z => c_36 (Int32.toInt_inj.mp z)
                  have z_3 := congrArg Int32.toInt c_434
                  have z_4 := congrArg Int32.toInt c_436
                  have z_5 : ¬ (r_447 : Int32).toInt = (0 : Int32).toInt := fun z => c_452 (Int32.toInt_inj.mp z)
                  have z_6 : ¬ (r_33 : Int32).toInt = (60 : Int32).toInt := fun z => c_453 (Int32.toInt_inj.mp z)
                  have z_7 := congrArg Int32.toInt c_454
                  have y_0 : (0 : Int32).toInt = 0 := by decide
                  have y_60 : (60 : Int32).toInt = 60 := by decide
                  have y_61 : (61 : Int32).toInt = 61 := by decide
                  omega
                refine cV (a := (Ma 0)) (As := []) (rest := []) (wr := []) ⟨hx, hb, hml, hown, hts⟩ hK hX hA (cu_kX12_sum l D tc sk (Ma 0) (Ma 1) (Ma 2) (Ma 3) (Ma 4) (Ma 5) (Ma 6) (Ma 7) (Ma 8) (Ma 9) (Ma 10) (Ma 11) (Ma 12) (Ma 13) (Ma 14) (Ma 15) (Ma 16) (Ma 17) (Ma 18) (Ma 19) (Ma 20) (Mv 0) (Mv 1) x_435 sv_444 sv_6 (Mv 5) sv_445 (Mv 7) (Mv 8) (Mv 9) (Mv 10) (Mv 11) (Mv 12) (Mv 13) (Mv 14) (Mf 1) sv_8 sv_9 (Mj 0) b (d + 1) lo_23 ha_455 pf_450 ha_456 ha_457 h_bs ha_458 pf_21) k_1279 k_1276 k_1278 k_42 k_106 pl_X12_sum ⟨Nat.le_of_ble_eq_true rfl, Nat.le_of_ble_eq_true rfl⟩ rfl rfl (va_recv hK hP (ci := 12) (q0 := 3) rfl rfl) hP hD hS [3, 2, 0, 1] [] rfl rfl rfl rfl rfl (by decide) rfl hl.1 rfl (Nat.le_of_ble_eq_true rfl) dX12_compare_155 ⟨Nat.le_of_ble_eq_true rfl, Nat.le_of_ble_eq_true rfl⟩ (fun v_459 u_460 H locs hv_461 hP₀ hD₀ hS₀ => ?_)
                obtain ⟨sv_462, sv_463, sv_464, sv_465, sv_466, sv_467⟩ := u_460
                obtain ⟨r_471, rfl, he_472, pf_468, pf_469, pf_470, hm_474, hm_475⟩ := hv_461
                have he_472 : ((r_471.toInt = 0 ∧ ¬ (sv_463 : Int32).toInt = 0) ∨ (r_471.toInt = 1 ∧ (sv_9 (Mv 5).toNatClampNeg).toInt + 1 ≤ (sv_467 (Mv 5).toNatClampNeg).toInt ∧ (sv_467 (Mv 5).toNatClampNeg).toInt + (x_435 : Int32).toInt ≤ (sv_9 (Mv 5).toNatClampNeg).toInt + (sv_462 : Int32).toInt ∧ (x_435 : Int32).toInt + 1 ≤ (sv_462 : Int32).toInt)) := he_472
                have pf_468 : (x_435 : Int32).toInt ≤ (sv_462 : Int32).toInt ∧ (sv_462 : Int32).toInt ≤ ((Mv 0) : Int32).toInt := pf_468
                have pf_469 : (sv_445 : Int32).toInt ≤ (sv_465 : Int32).toInt ∧ (sv_465 : Int32).toInt ≤ 60 := pf_469
                have pf_470 : Agr sv_8 sv_466 (400 * ((Mv 5) : Int32).toInt + (sv_9 (Mv 5).toNatClampNeg).toInt) := pf_470
                refine W.eq (g2 := F0 m 158 ls [.int r_471]) rfl ?_
                replace hP : va_P D classes [((Ma 0), .inr (12, [.ref (Ma 1), .int (Mv 0), .int (Mv 1), .ref (Ma 2), .ref (Ma 3), .ref (Ma 4), .ref (Ma 5), .ref (Ma 6), .int sv_462, .int sv_463, .int sv_464, .int (Mv 5), .int sv_465, .int (Mv 7), .int (Mv 8), .ref (Ma 7), .int (Mv 9), .ref (Ma 8), .int (Mv 10), .ref (Ma 9), .ref (Ma 10), .int (Mv 11), .int (Mv 12), .int (Mv 13), .ref (Ma 11), .int (Mv 14), .ref (Ma 12), .ref (Ma 13), .ref (Ma 14), .ref (Ma 15), .ref (Ma 16), .long (Mj 0), .ref (Ma 17), .ref (Ma 18), .ref (Ma 19), .ref (Ma 20)])), ((Ma 1), .inl (tc 2, 400, .inl (Mf 1))), ((Ma 2), .inl (tc 0, 2400, .inl sv_466)), ((Ma 3), .inl (tc 0, 7, .inl sv_467))] H := hP₀
                replace hD : va_D A [((Ma 0), .inr (12, [.ref (Ma 1), .int (Mv 0), .int (Mv 1), .ref (Ma 2), .ref (Ma 3), .ref (Ma 4), .ref (Ma 5), .ref (Ma 6), .int sv_462, .int sv_463, .int sv_464, .int (Mv 5), .int sv_465, .int (Mv 7), .int (Mv 8), .ref (Ma 7), .int (Mv 9), .ref (Ma 8), .int (Mv 10), .ref (Ma 9), .ref (Ma 10), .int (Mv 11), .int (Mv 12), .int (Mv 13), .ref (Ma 11), .int (Mv 14), .ref (Ma 12), .ref (Ma 13), .ref (Ma 14), .ref (Ma 15), .ref (Ma 16), .long (Mj 0), .ref (Ma 17), .ref (Ma 18), .ref (Ma 19), .ref (Ma 20)])), ((Ma 1), .inl (tc 2, 400, .inl (Mf 1))), ((Ma 2), .inl (tc 0, 2400, .inl sv_466)), ((Ma 3), .inl (tc 0, 7, .inl sv_467))] := hD₀
                replace hS := hS₀
                clear hP₀ hD₀ hS₀
                refine lv_if_ne (tgt := 163) hx hb dX12_compare_158 (by decide) (fun c_476 => ?_) (fun c_476 => ?_)
                · skip
                  have hz_480 : (r_471 : Int32).toInt = 1 := by
                    have z_1 : ¬ (r_13 : Int32).toInt = (0 : Int32).toInt := fun z => c_18 (Int32.toInt_inj.mp z)
                    have z_2 : ¬ (r_33 : Int32).toInt = (60 : Int32).toInt := fun z => c_36 (Int32.toInt_inj.mp z)
                    have z_3 := congrArg Int32.toInt c_434
                    have z_4 := congrArg Int32.toInt c_436
                    have z_5 : ¬ (r_447 : Int32).toInt = (0 : Int32).toInt := fun z => c_452 (Int32.toInt_inj.mp z)
                    have z_6 : ¬ (r_33 : Int32).toInt = (60 : Int32).toInt := fun z => c_453 (Int32.toInt_inj.mp z)
                    have z_7 := congrArg Int32.toInt c_454
                    have z_8 : ¬ (r_471 : Int32).toInt = (0 : Int32).toInt := fun z => c_476 (Int32.toInt_inj.mp z)
                    have y_0 : (0 : Int32).toInt = 0 := by decide
                    have y_60 : (60 : Int32).toInt = 60 := by decide
                    have y_61 : (61 : Int32).toInt = 61 := by decide
                    omega
                  obtain ⟨pf_477, pf_478, pf_479⟩ := hm_474 hz_480
                  have pf_477 : Cd sv_466 sv_467 (Mv 5) b sv_465 ((d + 1) + 1) := pf_477
                  have ar_pf_477 := Cd.ar pf_477
                  have pf_478 : RfO (pz_sum (rB (Mf 1) (Mv 0)) (St0 (rB (Mf 1) (Mv 0)) x_435 sv_445)) (rB (Mf 1) (Mv 0)) sv_463 sv_462 sv_465 := pf_478
                  have ar_pf_478 := RfO.wr pf_478
                  have pf_479 : SgC sv_466 sv_467 (Mv 5) (lo_23 ++ lsum (rB (Mf 1) (Mv 0)) (St0 (rB (Mf 1) (Mv 0)) x_435 sv_445)) := pf_479
                  obtain ⟨lo_481, elo_481⟩ : ∃ z : List Int, z = (lo_23 ++ lsum (rB (Mf 1) (Mv 0)) (St0 (rB (Mf 1) (Mv 0)) x_435 sv_445)) := ⟨_, rfl⟩
                  rw [← elo_481] at pf_479
                  refine lv_aload_n hx hb dX12_compare_163 rfl (lv_at hl 4 rfl) ?_
                  refine lv_bipush (v := 6) hx hb dX12_compare_164 (by decide) ?_
                  refine lv_iload hx hb dX12_compare_166 (lv_at hl 0 rfl) ?_
                  refine lv_iadd hx hb dX12_compare_168 ?_
                  refine lv_lit (v := 8) (by decide) ?_
                  refine lv_iconst (v := 0) hx hb dX12_compare_169 (by decide) ?_
                  have ha_482 : ((d + 1) : Int) ≤ sv_465.toInt := by
                    have z_1 : ¬ (r_13 : Int32).toInt = (0 : Int32).toInt := fun z => c_18 (Int32.toInt_inj.mp z)
                    have z_2 : ¬ (r_33 : Int32).toInt = (60 : Int32).toInt := fun z => c_36 (Int32.toInt_inj.mp z)
                    have z_3 := congrArg Int32.toInt c_434
                    have z_4 := congrArg Int32.toInt c_436
                    have z_5 : ¬ (r_447 : Int32).toInt = (0 : Int32).toInt := fun z => c_452 (Int32.toInt_inj.mp z)
                    have z_6 : ¬ (r_33 : Int32).toInt = (60 : Int32).toInt := fun z => c_453 (Int32.toInt_inj.mp z)
                    have z_7 := congrArg Int32.toInt c_454
                    have z_8 : ¬ (r_471 : Int32).toInt = (0 : Int32).toInt := fun z => c_476 (Int32.toInt_inj.mp z)
                    have y_0 : (0 : Int32).toInt = 0 := by decide
                    have y_60 : (60 : Int32).toInt = 60 := by decide
                    have y_61 : (61 : Int32).toInt = 61 := by decide
                    omega
                  have ha_483 : (sv_467 (Mv 5).toNatClampNeg).toInt < 400 := by
                    have z_1 : ¬ (r_13 : Int32).toInt = (0 : Int32).toInt := fun z => c_18 (Int32.toInt_inj.mp z)
                    have z_2 : ¬ (r_33 : Int32).toInt = (60 : Int32).toInt := fun z => c_36 (Int32.toInt_inj.mp z)
                    have z_3 := congrArg Int32.toInt c_434
                    have z_4 := congrArg Int32.toInt c_436
                    have z_5 : ¬ (r_447 : Int32).toInt = (0 : Int32).toInt := fun z => c_452 (Int32.toInt_inj.mp z)
                    have z_6 : ¬ (r_33 : Int32).toInt = (60 : Int32).toInt := fun z => c_453 (Int32.toInt_inj.mp z)
                    have z_7 := congrArg Int32.toInt c_454
                    have z_8 : ¬ (r_471 : Int32).toInt = (0 : Int32).toInt := fun z => c_476 (Int32.toInt_inj.mp z)
                    have y_0 : (0 : Int32).toInt = 0 := by decide
                    have y_60 : (60 : Int32).toInt = 60 := by decide
                    have y_61 : (61 : Int32).toInt = 61 := by decide
                    omega
                  have ha_484 : 0 ≤ (8 : Int32).toInt ∧ (8 : Int32).toInt ≤ 15 := by
                    have z_1 : ¬ (r_13 : Int32).toInt = (0 : Int32).toInt := fun z => c_18 (Int32.toInt_inj.mp z)
                    have z_2 : ¬ (r_33 : Int32).toInt = (60 : Int32).toInt := fun z => c_36 (Int32.toInt_inj.mp z)
                    have z_3 := congrArg Int32.toInt c_434
                    have z_4 := congrArg Int32.toInt c_436
                    have z_5 : ¬ (r_447 : Int32).toInt = (0 : Int32).toInt := fun z => c_452 (Int32.toInt_inj.mp z)
                    have z_6 : ¬ (r_33 : Int32).toInt = (60 : Int32).toInt := fun z => c_453 (Int32.toInt_inj.mp z)
                    have z_7 := congrArg Int32.toInt c_454
                    have z_8 : ¬ (r_471 : Int32).toInt = (0 : Int32).toInt := fun z => c_476 (Int32.toInt_inj.mp z)
                    have y_0 : (0 : Int32).toInt = 0 := by decide
                    have y_60 : (60 : Int32).toInt = 60 := by decide
                    have y_61 : (61 : Int32).toInt = 61 := by decide
                    have y_8 : (8 : Int32).toInt = 8 := by decide
                    omega
                  have ha_485 : 0 ≤ (0 : Int32).toInt ∧ (0 : Int32).toInt ≤ 100000 := by
                    have z_1 : ¬ (r_13 : Int32).toInt = (0 : Int32).toInt := fun z => c_18 (Int32.toInt_inj.mp z)
                    have z_2 : ¬ (r_33 : Int32).toInt = (60 : Int32).toInt := fun z => c_36 (Int32.toInt_inj.mp z)
                    have z_3 := congrArg Int32.toInt c_434
                    have z_4 := congrArg Int32.toInt c_436
                    have z_5 : ¬ (r_447 : Int32).toInt = (0 : Int32).toInt := fun z => c_452 (Int32.toInt_inj.mp z)
                    have z_6 : ¬ (r_33 : Int32).toInt = (60 : Int32).toInt := fun z => c_453 (Int32.toInt_inj.mp z)
                    have z_7 := congrArg Int32.toInt c_454
                    have z_8 : ¬ (r_471 : Int32).toInt = (0 : Int32).toInt := fun z => c_476 (Int32.toInt_inj.mp z)
                    have y_0 : (0 : Int32).toInt = 0 := by decide
                    have y_60 : (60 : Int32).toInt = 60 := by decide
                    have y_61 : (61 : Int32).toInt = 61 := by decide
                    omega
                  have ha_486 : 0 ≤ (Mv 5).toInt := by
                    have z_1 : ¬ (r_13 : Int32).toInt = (0 : Int32).toInt := fun z => c_18 (Int32.toInt_inj.mp z)
                    have z_2 : ¬ (r_33 : Int32).toInt = (60 : Int32).toInt := fun z => c_36 (Int32.toInt_inj.mp z)
                    have z_3 := congrArg Int32.toInt c_434
                    have z_4 := congrArg Int32.toInt c_436
                    have z_5 : ¬ (r_447 : Int32).toInt = (0 : Int32).toInt := fun z => c_452 (Int32.toInt_inj.mp z)
                    have z_6 : ¬ (r_33 : Int32).toInt = (60 : Int32).toInt := fun z => c_453 (Int32.toInt_inj.mp z)
                    have z_7 := congrArg Int32.toInt c_454
                    have z_8 : ¬ (r_471 : Int32).toInt = (0 : Int32).toInt := fun z => c_476 (Int32.toInt_inj.mp z)
                    have y_0 : (0 : Int32).toInt = 0 := by decide
                    have y_60 : (60 : Int32).toInt = 60 := by decide
                    have y_61 : (61 : Int32).toInt = 61 := by decide
                    omega
                  refine cV (a := (Ma 0)) (As := [.int 8, .int 0]) (rest := []) (wr := [((Ma 1), .inl (tc 2, 400, .inl (Mf 1)))]) ⟨hx, hb, hml, hown, hts⟩ hK hX hA (cu_kX12_puts l D tc sk (Ma 0) (Ma 1) (Ma 2) (Ma 3) (Ma 4) (Ma 5) (Ma 6) (Ma 7) (Ma 8) (Ma 9) (Ma 10) (Ma 11) (Ma 12) (Ma 13) (Ma 14) (Ma 15) (Ma 16) (Ma 17) (Ma 18) (Ma 19) (Ma 20) (Mv 0) (Mv 1) sv_462 sv_463 sv_464 (Mv 5) sv_465 (Mv 7) (Mv 8) (Mv 9) (Mv 10) (Mv 11) (Mv 12) (Mv 13) (Mv 14) sv_466 sv_467 (Mj 0) 8 0 b sv_465 ((d + 1) + 1) (d + 1) lo_481 (-9) pf_477 (StpR.op (by decide) rfl (by omega)) ha_482 ha_483 pf_479 (by decide) ha_484 ha_485 ha_486) k_1296 k_1293 k_1295 k_46 k_106 pl_X12_puts ⟨Nat.le_of_ble_eq_true rfl, Nat.le_of_ble_eq_true rfl⟩ rfl rfl (va_recv hK hP (ci := 12) (q0 := 0) rfl rfl) hP hD hS [0, 2, 3] [1] rfl rfl rfl rfl rfl (by decide) rfl hl.1 rfl (Nat.le_of_ble_eq_true rfl) dX12_compare_170 ⟨Nat.le_of_ble_eq_true rfl, Nat.le_of_ble_eq_true rfl⟩ (fun v_487 u_488 H locs hv_489 hP₀ hD₀ hS₀ => ?_)
                  obtain ⟨sv_490, sv_491⟩ := u_488
                  obtain ⟨rfl, pf_492, pf_493, pf_494, pf_495⟩ := hv_489
                  have pf_492 : Cd sv_490 sv_491 (Mv 5) b sv_465 (d + 1) := pf_492
                  have ar_pf_492 := Cd.ar pf_492
                  have pf_493 : Agr sv_466 sv_490 (400 * ((Mv 5) : Int32).toInt + (sv_467 (Mv 5).toNatClampNeg).toInt) := pf_493
                  have pf_494 : (sv_491 (Mv 5).toNatClampNeg).toInt = (sv_467 (Mv 5).toNatClampNeg).toInt + 1 := pf_494
                  have pf_495 : SgC sv_490 sv_491 (Mv 5) (lo_481 ++ [((-9) : Int)]) := pf_495
                  obtain ⟨lo_496, elo_496⟩ : ∃ z : List Int, z = (lo_481 ++ [(-9)]) := ⟨_, rfl⟩
                  rw [← elo_496] at pf_495
                  refine W.eq (g2 := F0 m 173 ls []) rfl ?_
                  replace hP : va_P D classes [((Ma 1), .inl (tc 2, 400, .inl (Mf 1))), ((Ma 0), .inr (12, [.ref (Ma 1), .int (Mv 0), .int (Mv 1), .ref (Ma 2), .ref (Ma 3), .ref (Ma 4), .ref (Ma 5), .ref (Ma 6), .int sv_462, .int sv_463, .int sv_464, .int (Mv 5), .int sv_465, .int (Mv 7), .int (Mv 8), .ref (Ma 7), .int (Mv 9), .ref (Ma 8), .int (Mv 10), .ref (Ma 9), .ref (Ma 10), .int (Mv 11), .int (Mv 12), .int (Mv 13), .ref (Ma 11), .int (Mv 14), .ref (Ma 12), .ref (Ma 13), .ref (Ma 14), .ref (Ma 15), .ref (Ma 16), .long (Mj 0), .ref (Ma 17), .ref (Ma 18), .ref (Ma 19), .ref (Ma 20)])), ((Ma 2), .inl (tc 0, 2400, .inl sv_490)), ((Ma 3), .inl (tc 0, 7, .inl sv_491))] H := hP₀
                  replace hD : va_D A [((Ma 1), .inl (tc 2, 400, .inl (Mf 1))), ((Ma 0), .inr (12, [.ref (Ma 1), .int (Mv 0), .int (Mv 1), .ref (Ma 2), .ref (Ma 3), .ref (Ma 4), .ref (Ma 5), .ref (Ma 6), .int sv_462, .int sv_463, .int sv_464, .int (Mv 5), .int sv_465, .int (Mv 7), .int (Mv 8), .ref (Ma 7), .int (Mv 9), .ref (Ma 8), .int (Mv 10), .ref (Ma 9), .ref (Ma 10), .int (Mv 11), .int (Mv 12), .int (Mv 13), .ref (Ma 11), .int (Mv 14), .ref (Ma 12), .ref (Ma 13), .ref (Ma 14), .ref (Ma 15), .ref (Ma 16), .long (Mj 0), .ref (Ma 17), .ref (Ma 18), .ref (Ma 19), .ref (Ma 20)])), ((Ma 2), .inl (tc 0, 2400, .inl sv_490)), ((Ma 3), .inl (tc 0, 7, .inl sv_491))] := hD₀
                  replace hS := hS₀
                  clear hP₀ hD₀ hS₀
                  refine lv_iconst (v := 1) hx hb dX12_compare_173 (by decide) ?_
                  have ha_497 : ((Mv 2) : Int32).toInt ≤ (sv_462 : Int32).toInt ∧ (sv_462 : Int32).toInt ≤ ((Mv 0) : Int32).toInt := by
                    have z_1 : ¬ (r_13 : Int32).toInt = (0 : Int32).toInt := fun z => c_18 (Int32.toInt_inj.mp z)
                    have z_2 : ¬ (r_33 : Int32).toInt = (60 : Int32).toInt := fun z => c_36 (Int32.toInt_inj.mp z)
                    have z_3 := congrArg Int32.toInt c_434
                    have z_4 := congrArg Int32.toInt c_436
                    have z_5 : ¬ (r_447 : Int32).toInt = (0 : Int32).toInt := fun z => c_452 (Int32.toInt_inj.mp z)
                    have z_6 : ¬ (r_33 : Int32).toInt = (60 : Int32).toInt := fun z => c_453 (Int32.toInt_inj.mp z)
                    have z_7 := congrArg Int32.toInt c_454
                    have z_8 : ¬ (r_471 : Int32).toInt = (0 : Int32).toInt := fun z => c_476 (Int32.toInt_inj.mp z)
                    have y_0 : (0 : Int32).toInt = 0 := by decide
                    have y_60 : (60 : Int32).toInt = 60 := by decide
                    have y_61 : (61 : Int32).toInt = 61 := by decide
                    omega
                  have ha_498 : ((Mv 6) : Int32).toInt ≤ (sv_465 : Int32).toInt ∧ (sv_465 : Int32).toInt ≤ 60 := by
                    have z_1 : ¬ (r_13 : Int32).toInt = (0 : Int32).toInt := fun z => c_18 (Int32.toInt_inj.mp z)
                    have z_2 : ¬ (r_33 : Int32).toInt = (60 : Int32).toInt := fun z => c_36 (Int32.toInt_inj.mp z)
                    have z_3 := congrArg Int32.toInt c_434
                    have z_4 := congrArg Int32.toInt c_436
                    have z_5 : ¬ (r_447 : Int32).toInt = (0 : Int32).toInt := fun z => c_452 (Int32.toInt_inj.mp z)
                    have z_6 : ¬ (r_33 : Int32).toInt = (60 : Int32).toInt := fun z => c_453 (Int32.toInt_inj.mp z)
                    have z_7 := congrArg Int32.toInt c_454
                    have z_8 : ¬ (r_471 : Int32).toInt = (0 : Int32).toInt := fun z => c_476 (Int32.toInt_inj.mp z)
                    have y_0 : (0 : Int32).toInt = 0 := by decide
                    have y_60 : (60 : Int32).toInt = 60 := by decide
                    have y_61 : (61 : Int32).toInt = 61 := by decide
                    omega
                  have hr_499 : (400 * ((Mv 5) : Int32).toInt + ((Mf 3) (Mv 5).toNatClampNeg).toInt) ≤ (400 * ((Mv 5) : Int32).toInt + ((Mf 3) (Mv 5).toNatClampNeg).toInt) := by
                    have z_1 : ¬ (r_13 : Int32).toInt = (0 : Int32).toInt := fun z => c_18 (Int32.toInt_inj.mp z)
                    have z_2 : ¬ (r_33 : Int32).toInt = (60 : Int32).toInt := fun z => c_36 (Int32.toInt_inj.mp z)
                    have z_3 := congrArg Int32.toInt c_434
                    have z_4 := congrArg Int32.toInt c_436
                    have z_5 : ¬ (r_447 : Int32).toInt = (0 : Int32).toInt := fun z => c_452 (Int32.toInt_inj.mp z)
                    have z_6 : ¬ (r_33 : Int32).toInt = (60 : Int32).toInt := fun z => c_453 (Int32.toInt_inj.mp z)
                    have z_7 := congrArg Int32.toInt c_454
                    have z_8 : ¬ (r_471 : Int32).toInt = (0 : Int32).toInt := fun z => c_476 (Int32.toInt_inj.mp z)
                    have y_0 : (0 : Int32).toInt = 0 := by decide
                    have y_60 : (60 : Int32).toInt = 60 := by decide
                    have y_61 : (61 : Int32).toInt = 61 := by decide
                    omega
                  have hr_500 : (400 * ((Mv 5) : Int32).toInt + ((Mf 3) (Mv 5).toNatClampNeg).toInt) ≤ (400 * ((Mv 5) : Int32).toInt + (sv_9 (Mv 5).toNatClampNeg).toInt) := by
                    have z_1 : ¬ (r_13 : Int32).toInt = (0 : Int32).toInt := fun z => c_18 (Int32.toInt_inj.mp z)
                    have z_2 : ¬ (r_33 : Int32).toInt = (60 : Int32).toInt := fun z => c_36 (Int32.toInt_inj.mp z)
                    have z_3 := congrArg Int32.toInt c_434
                    have z_4 := congrArg Int32.toInt c_436
                    have z_5 : ¬ (r_447 : Int32).toInt = (0 : Int32).toInt := fun z => c_452 (Int32.toInt_inj.mp z)
                    have z_6 : ¬ (r_33 : Int32).toInt = (60 : Int32).toInt := fun z => c_453 (Int32.toInt_inj.mp z)
                    have z_7 := congrArg Int32.toInt c_454
                    have z_8 : ¬ (r_471 : Int32).toInt = (0 : Int32).toInt := fun z => c_476 (Int32.toInt_inj.mp z)
                    have y_0 : (0 : Int32).toInt = 0 := by decide
                    have y_60 : (60 : Int32).toInt = 60 := by decide
                    have y_61 : (61 : Int32).toInt = 61 := by decide
                    omega
                  have hr_501 : (400 * ((Mv 5) : Int32).toInt + ((Mf 3) (Mv 5).toNatClampNeg).toInt) ≤ (400 * ((Mv 5) : Int32).toInt + (sv_467 (Mv 5).toNatClampNeg).toInt) := by
                    have z_1 : ¬ (r_13 : Int32).toInt = (0 : Int32).toInt := fun z => c_18 (Int32.toInt_inj.mp z)
                    have z_2 : ¬ (r_33 : Int32).toInt = (60 : Int32).toInt := fun z => c_36 (Int32.toInt_inj.mp z)
                    have z_3 := congrArg Int32.toInt c_434
                    have z_4 := congrArg Int32.toInt c_436
                    have z_5 : ¬ (r_447 : Int32).toInt = (0 : Int32).toInt := fun z => c_452 (Int32.toInt_inj.mp z)
                    have z_6 : ¬ (r_33 : Int32).toInt = (60 : Int32).toInt := fun z => c_453 (Int32.toInt_inj.mp z)
                    have z_7 := congrArg Int32.toInt c_454
                    have z_8 : ¬ (r_471 : Int32).toInt = (0 : Int32).toInt := fun z => c_476 (Int32.toInt_inj.mp z)
                    have y_0 : (0 : Int32).toInt = 0 := by decide
                    have y_60 : (60 : Int32).toInt = 60 := by decide
                    have y_61 : (61 : Int32).toInt = 61 := by decide
                    omega
                  have hp_502 : (((1 : Int32).toInt = 0 ∧ ¬ (sv_463 : Int32).toInt = 0) ∨ ((1 : Int32).toInt = 1 ∧ ((Mf 3) (Mv 5).toNatClampNeg).toInt + 1 ≤ (sv_491 (Mv 5).toNatClampNeg).toInt ∧ (sv_491 (Mv 5).toNatClampNeg).toInt + ((Mv 2) : Int32).toInt ≤ ((Mf 3) (Mv 5).toNatClampNeg).toInt + (sv_462 : Int32).toInt ∧ ((Mv 2) : Int32).toInt + 1 ≤ (sv_462 : Int32).toInt)) := by
                    have z_1 : ¬ (r_13 : Int32).toInt = (0 : Int32).toInt := fun z => c_18 (Int32.toInt_inj.mp z)
                    have z_2 : ¬ (r_33 : Int32).toInt = (60 : Int32).toInt := fun z => c_36 (Int32.toInt_inj.mp z)
                    have z_3 := congrArg Int32.toInt c_434
                    have z_4 := congrArg Int32.toInt c_436
                    have z_5 : ¬ (r_447 : Int32).toInt = (0 : Int32).toInt := fun z => c_452 (Int32.toInt_inj.mp z)
                    have z_6 : ¬ (r_33 : Int32).toInt = (60 : Int32).toInt := fun z => c_453 (Int32.toInt_inj.mp z)
                    have z_7 := congrArg Int32.toInt c_454
                    have z_8 : ¬ (r_471 : Int32).toInt = (0 : Int32).toInt := fun z => c_476 (Int32.toInt_inj.mp z)
                    have y_0 : (0 : Int32).toInt = 0 := by decide
                    have y_60 : (60 : Int32).toInt = 60 := by decide
                    have y_61 : (61 : Int32).toInt = 61 := by decide
                    have y_1 : (1 : Int32).toInt = 1 := by decide
                    have yr : (1 : Int32).toInt = 1 := by decide
                    omega
                  have hm_503 : (1 : Int32).toInt = 1 → (Cd sv_490 sv_491 (Mv 5) b sv_465 (d + 1)) ∧ (RfO (pz_com (rB (Mf 1) (Mv 0)) (St0 (rB (Mf 1) (Mv 0)) (Mv 2) (Mv 6))) (rB (Mf 1) (Mv 0)) sv_463 sv_462 sv_465) ∧ (SgC sv_490 sv_491 (Mv 5) (ll ++ ec_com (rB (Mf 1) (Mv 0)) (St0 (rB (Mf 1) (Mv 0)) (Mv 2) (Mv 6)))) := by
                    intro h1r
                    have hr_504 : (rB (Mf 1) (Mv 0) (sv_28 : Int32).toInt.toNat = 60 ∨ rB (Mf 1) (Mv 0) (sv_28 : Int32).toInt.toNat = 61 ∨ rB (Mf 1) (Mv 0) (sv_28 : Int32).toInt.toNat = 62) := by
                      have z_1 : ¬ (r_13 : Int32).toInt = (0 : Int32).toInt := fun z => c_18 (Int32.toInt_inj.mp z)
                      have z_2 : ¬ (r_33 : Int32).toInt = (60 : Int32).toInt := fun z => c_36 (Int32.toInt_inj.mp z)
                      have z_3 := congrArg Int32.toInt c_434
                      have z_4 := congrArg Int32.toInt c_436
                      have z_5 : ¬ (r_447 : Int32).toInt = (0 : Int32).toInt := fun z => c_452 (Int32.toInt_inj.mp z)
                      have z_6 : ¬ (r_33 : Int32).toInt = (60 : Int32).toInt := fun z => c_453 (Int32.toInt_inj.mp z)
                      have z_7 := congrArg Int32.toInt c_454
                      have z_8 : ¬ (r_471 : Int32).toInt = (0 : Int32).toInt := fun z => c_476 (Int32.toInt_inj.mp z)
                      have y_0 : (0 : Int32).toInt = 0 := by decide
                      have y_60 : (60 : Int32).toInt = 60 := by decide
                      have y_61 : (61 : Int32).toInt = 61 := by decide
                      omega
                    have rg_505 := rB_rg (n := (Mv 0)) h_bs ((sv_28 : Int32).toInt.toNat + 1)
                    have hr_506 : ((x_435 : Int32).toInt = (sv_28 : Int32).toInt + 1 ∧ ¬ ((rB (Mf 1) (Mv 0) (sv_28 : Int32).toInt.toNat = 60 ∨ rB (Mf 1) (Mv 0) (sv_28 : Int32).toInt.toNat = 62) ∧ rB (Mf 1) (Mv 0) ((sv_28 : Int32).toInt.toNat + 1) = 61)) ∨ ((x_435 : Int32).toInt = (sv_28 : Int32).toInt + 2 ∧ (rB (Mf 1) (Mv 0) (sv_28 : Int32).toInt.toNat = 60 ∨ rB (Mf 1) (Mv 0) (sv_28 : Int32).toInt.toNat = 62) ∧ rB (Mf 1) (Mv 0) ((sv_28 : Int32).toInt.toNat + 1) = 61) := by
                      have z_1 : ¬ (r_13 : Int32).toInt = (0 : Int32).toInt := fun z => c_18 (Int32.toInt_inj.mp z)
                      have z_2 : ¬ (r_33 : Int32).toInt = (60 : Int32).toInt := fun z => c_36 (Int32.toInt_inj.mp z)
                      have z_3 := congrArg Int32.toInt c_434
                      have z_4 := congrArg Int32.toInt c_436
                      have z_5 : ¬ (r_447 : Int32).toInt = (0 : Int32).toInt := fun z => c_452 (Int32.toInt_inj.mp z)
                      have z_6 : ¬ (r_33 : Int32).toInt = (60 : Int32).toInt := fun z => c_453 (Int32.toInt_inj.mp z)
                      have z_7 := congrArg Int32.toInt c_454
                      have z_8 : ¬ (r_471 : Int32).toInt = (0 : Int32).toInt := fun z => c_476 (Int32.toInt_inj.mp z)
                      have y_0 : (0 : Int32).toInt = 0 := by decide
                      have y_60 : (60 : Int32).toInt = 60 := by decide
                      have y_61 : (61 : Int32).toInt = 61 := by decide
                      have y_1 : (1 : Int32).toInt = 1 := by decide
                      have t_x_435 : x_435.toInt = (sv_28 : Int32).toInt + (1 : Int32).toInt := by rw [ex_435]; exact add_toInt (by omega) (by omega)
                      omega
                    have hr_507 : 0 ≤ (sv_7 : Int32).toInt ∧ (sv_7 : Int32).toInt < 60 ∧ (sv_445 : Int32).toInt = (sv_7 : Int32).toInt + 1 := by
                      have z_1 : ¬ (r_13 : Int32).toInt = (0 : Int32).toInt := fun z => c_18 (Int32.toInt_inj.mp z)
                      have z_2 : ¬ (r_33 : Int32).toInt = (60 : Int32).toInt := fun z => c_36 (Int32.toInt_inj.mp z)
                      have z_3 := congrArg Int32.toInt c_434
                      have z_4 := congrArg Int32.toInt c_436
                      have z_5 : ¬ (r_447 : Int32).toInt = (0 : Int32).toInt := fun z => c_452 (Int32.toInt_inj.mp z)
                      have z_6 : ¬ (r_33 : Int32).toInt = (60 : Int32).toInt := fun z => c_453 (Int32.toInt_inj.mp z)
                      have z_7 := congrArg Int32.toInt c_454
                      have z_8 : ¬ (r_471 : Int32).toInt = (0 : Int32).toInt := fun z => c_476 (Int32.toInt_inj.mp z)
                      have y_0 : (0 : Int32).toInt = 0 := by decide
                      have y_60 : (60 : Int32).toInt = 60 := by decide
                      have y_61 : (61 : Int32).toInt = 61 := by decide
                      omega
                    have hr_508 : (rB (Mf 1) (Mv 0) (sv_28 : Int32).toInt.toNat = 60 ∨ rB (Mf 1) (Mv 0) (sv_28 : Int32).toInt.toNat = 61 ∨ rB (Mf 1) (Mv 0) (sv_28 : Int32).toInt.toNat = 62) := by
                      have z_1 : ¬ (r_13 : Int32).toInt = (0 : Int32).toInt := fun z => c_18 (Int32.toInt_inj.mp z)
                      have z_2 : ¬ (r_33 : Int32).toInt = (60 : Int32).toInt := fun z => c_36 (Int32.toInt_inj.mp z)
                      have z_3 := congrArg Int32.toInt c_434
                      have z_4 := congrArg Int32.toInt c_436
                      have z_5 : ¬ (r_447 : Int32).toInt = (0 : Int32).toInt := fun z => c_452 (Int32.toInt_inj.mp z)
                      have z_6 : ¬ (r_33 : Int32).toInt = (60 : Int32).toInt := fun z => c_453 (Int32.toInt_inj.mp z)
                      have z_7 := congrArg Int32.toInt c_454
                      have z_8 : ¬ (r_471 : Int32).toInt = (0 : Int32).toInt := fun z => c_476 (Int32.toInt_inj.mp z)
                      have y_0 : (0 : Int32).toInt = 0 := by decide
                      have y_60 : (60 : Int32).toInt = 60 := by decide
                      have y_61 : (61 : Int32).toInt = 61 := by decide
                      omega
                    have rg_509 := rB_rg (n := (Mv 0)) h_bs ((sv_28 : Int32).toInt.toNat + 1)
                    have hr_510 : ((x_435 : Int32).toInt = (sv_28 : Int32).toInt + 1 ∧ ¬ ((rB (Mf 1) (Mv 0) (sv_28 : Int32).toInt.toNat = 60 ∨ rB (Mf 1) (Mv 0) (sv_28 : Int32).toInt.toNat = 62) ∧ rB (Mf 1) (Mv 0) ((sv_28 : Int32).toInt.toNat + 1) = 61)) ∨ ((x_435 : Int32).toInt = (sv_28 : Int32).toInt + 2 ∧ (rB (Mf 1) (Mv 0) (sv_28 : Int32).toInt.toNat = 60 ∨ rB (Mf 1) (Mv 0) (sv_28 : Int32).toInt.toNat = 62) ∧ rB (Mf 1) (Mv 0) ((sv_28 : Int32).toInt.toNat + 1) = 61) := by
                      have z_1 : ¬ (r_13 : Int32).toInt = (0 : Int32).toInt := fun z => c_18 (Int32.toInt_inj.mp z)
                      have z_2 : ¬ (r_33 : Int32).toInt = (60 : Int32).toInt := fun z => c_36 (Int32.toInt_inj.mp z)
                      have z_3 := congrArg Int32.toInt c_434
                      have z_4 := congrArg Int32.toInt c_436
                      have z_5 : ¬ (r_447 : Int32).toInt = (0 : Int32).toInt := fun z => c_452 (Int32.toInt_inj.mp z)
                      have z_6 : ¬ (r_33 : Int32).toInt = (60 : Int32).toInt := fun z => c_453 (Int32.toInt_inj.mp z)
                      have z_7 := congrArg Int32.toInt c_454
                      have z_8 : ¬ (r_471 : Int32).toInt = (0 : Int32).toInt := fun z => c_476 (Int32.toInt_inj.mp z)
                      have y_0 : (0 : Int32).toInt = 0 := by decide
                      have y_60 : (60 : Int32).toInt = 60 := by decide
                      have y_61 : (61 : Int32).toInt = 61 := by decide
                      have y_1 : (1 : Int32).toInt = 1 := by decide
                      have t_x_435 : x_435.toInt = (sv_28 : Int32).toInt + (1 : Int32).toInt := by rw [ex_435]; exact add_toInt (by omega) (by omega)
                      omega
                    have hr_511 : (rB (Mf 1) (Mv 0) (sv_28 : Int32).toInt.toNat = 60 ∧ (x_435 : Int32).toInt = (sv_28 : Int32).toInt + 1 ∧ (-9 : Int) = -7) ∨ (rB (Mf 1) (Mv 0) (sv_28 : Int32).toInt.toNat = 60 ∧ (x_435 : Int32).toInt = (sv_28 : Int32).toInt + 2 ∧ (-9 : Int) = -8) ∨ (rB (Mf 1) (Mv 0) (sv_28 : Int32).toInt.toNat = 61 ∧ (-9 : Int) = -9) ∨ (rB (Mf 1) (Mv 0) (sv_28 : Int32).toInt.toNat = 62 ∧ (x_435 : Int32).toInt = (sv_28 : Int32).toInt + 2 ∧ (-9 : Int) = -10) ∨ (rB (Mf 1) (Mv 0) (sv_28 : Int32).toInt.toNat = 62 ∧ (x_435 : Int32).toInt = (sv_28 : Int32).toInt + 1 ∧ (-9 : Int) = -11) := by
                      have z_1 : ¬ (r_13 : Int32).toInt = (0 : Int32).toInt := fun z => c_18 (Int32.toInt_inj.mp z)
                      have z_2 : ¬ (r_33 : Int32).toInt = (60 : Int32).toInt := fun z => c_36 (Int32.toInt_inj.mp z)
                      have z_3 := congrArg Int32.toInt c_434
                      have z_4 := congrArg Int32.toInt c_436
                      have z_5 : ¬ (r_447 : Int32).toInt = (0 : Int32).toInt := fun z => c_452 (Int32.toInt_inj.mp z)
                      have z_6 : ¬ (r_33 : Int32).toInt = (60 : Int32).toInt := fun z => c_453 (Int32.toInt_inj.mp z)
                      have z_7 := congrArg Int32.toInt c_454
                      have z_8 : ¬ (r_471 : Int32).toInt = (0 : Int32).toInt := fun z => c_476 (Int32.toInt_inj.mp z)
                      have y_0 : (0 : Int32).toInt = 0 := by decide
                      have y_60 : (60 : Int32).toInt = 60 := by decide
                      have y_61 : (61 : Int32).toInt = 61 := by decide
                      have y_1 : (1 : Int32).toInt = 1 := by decide
                      have t_x_435 : x_435.toInt = (sv_28 : Int32).toInt + (1 : Int32).toInt := by rw [ex_435]; exact add_toInt (by omega) (by omega)
                      omega
                    have hu_512 : SgC sv_490 sv_491 (Mv 5) (((ll ++ lsum (rB (Mf 1) (Mv 0)) (St0 (rB (Mf 1) (Mv 0)) (Mv 2) (Mv 6))) ++ lsum (rB (Mf 1) (Mv 0)) (St0 (rB (Mf 1) (Mv 0)) x_435 sv_445)) ++ [(-9)]) := by
                      rw [← elo_23, ← elo_481, ← elo_496]
                      exact pf_495
                    have hs_513 : SgC sv_490 sv_491 (Mv 5) (ll ++ ec_com (rB (Mf 1) (Mv 0)) (St0 (rB (Mf 1) (Mv 0)) (Mv 2) (Mv 6))) := by
                      rw [com_ls (o := -9) (md1 := sv_445) pf_20 pf_32 hr_508 hr_510 (ec_c_at pf_32 hr_510 hr_511)]
                      exact hu_512
                    exact ⟨pf_492, (RfO.com pf_20 pf_32 hr_504 hr_506 hr_507 pf_478), hs_513⟩
                  exact retI (v := 1) hx hb hr hlk (rfl) hP hD hS (sv_462, sv_463, sv_464, sv_465, sv_490, sv_491) ⟨_, rfl, hp_502, ha_497, ha_498, (Agr.trans (k' := (400 * ((Mv 5) : Int32).toInt + ((Mf 3) (Mv 5).toNatClampNeg).toInt)) (Agr.trans (k' := (400 * ((Mv 5) : Int32).toInt + ((Mf 3) (Mv 5).toNatClampNeg).toInt)) (Agr.mono pf_12 hr_499) pf_470 ⟨Int.le_refl _, hr_500⟩) pf_493 ⟨Int.le_refl _, hr_501⟩), hm_503, (fun h => absurd h (by decide))⟩ [1, 0, 2, 3] rfl rfl dX12_compare_174 (Nat.le_of_ble_eq_true rfl) (Nat.le_of_ble_eq_true rfl) rfl
                · skip
                  have hz_515 : (r_471 : Int32).toInt = 0 := by
                    have z_1 : ¬ (r_13 : Int32).toInt = (0 : Int32).toInt := fun z => c_18 (Int32.toInt_inj.mp z)
                    have z_2 : ¬ (r_33 : Int32).toInt = (60 : Int32).toInt := fun z => c_36 (Int32.toInt_inj.mp z)
                    have z_3 := congrArg Int32.toInt c_434
                    have z_4 := congrArg Int32.toInt c_436
                    have z_5 : ¬ (r_447 : Int32).toInt = (0 : Int32).toInt := fun z => c_452 (Int32.toInt_inj.mp z)
                    have z_6 : ¬ (r_33 : Int32).toInt = (60 : Int32).toInt := fun z => c_453 (Int32.toInt_inj.mp z)
                    have z_7 := congrArg Int32.toInt c_454
                    have z_8 := congrArg Int32.toInt c_476
                    have y_0 : (0 : Int32).toInt = 0 := by decide
                    have y_60 : (60 : Int32).toInt = 60 := by decide
                    have y_61 : (61 : Int32).toInt = 61 := by decide
                    omega
                  obtain pf_514 := hm_475 hz_515
                  have pf_514 : RfE (pz_sum (rB (Mf 1) (Mv 0)) (St0 (rB (Mf 1) (Mv 0)) x_435 sv_445)) sv_463 := pf_514
                  refine lv_iconst (v := 0) hx hb dX12_compare_161 (by decide) ?_
                  have ha_516 : ((Mv 2) : Int32).toInt ≤ (sv_462 : Int32).toInt ∧ (sv_462 : Int32).toInt ≤ ((Mv 0) : Int32).toInt := by
                    have z_1 : ¬ (r_13 : Int32).toInt = (0 : Int32).toInt := fun z => c_18 (Int32.toInt_inj.mp z)
                    have z_2 : ¬ (r_33 : Int32).toInt = (60 : Int32).toInt := fun z => c_36 (Int32.toInt_inj.mp z)
                    have z_3 := congrArg Int32.toInt c_434
                    have z_4 := congrArg Int32.toInt c_436
                    have z_5 : ¬ (r_447 : Int32).toInt = (0 : Int32).toInt := fun z => c_452 (Int32.toInt_inj.mp z)
                    have z_6 : ¬ (r_33 : Int32).toInt = (60 : Int32).toInt := fun z => c_453 (Int32.toInt_inj.mp z)
                    have z_7 := congrArg Int32.toInt c_454
                    have z_8 := congrArg Int32.toInt c_476
                    have y_0 : (0 : Int32).toInt = 0 := by decide
                    have y_60 : (60 : Int32).toInt = 60 := by decide
                    have y_61 : (61 : Int32).toInt = 61 := by decide
                    omega
                  have ha_517 : ((Mv 6) : Int32).toInt ≤ (sv_465 : Int32).toInt ∧ (sv_465 : Int32).toInt ≤ 60 := by
                    have z_1 : ¬ (r_13 : Int32).toInt = (0 : Int32).toInt := fun z => c_18 (Int32.toInt_inj.mp z)
                    have z_2 : ¬ (r_33 : Int32).toInt = (60 : Int32).toInt := fun z => c_36 (Int32.toInt_inj.mp z)
                    have z_3 := congrArg Int32.toInt c_434
                    have z_4 := congrArg Int32.toInt c_436
                    have z_5 : ¬ (r_447 : Int32).toInt = (0 : Int32).toInt := fun z => c_452 (Int32.toInt_inj.mp z)
                    have z_6 : ¬ (r_33 : Int32).toInt = (60 : Int32).toInt := fun z => c_453 (Int32.toInt_inj.mp z)
                    have z_7 := congrArg Int32.toInt c_454
                    have z_8 := congrArg Int32.toInt c_476
                    have y_0 : (0 : Int32).toInt = 0 := by decide
                    have y_60 : (60 : Int32).toInt = 60 := by decide
                    have y_61 : (61 : Int32).toInt = 61 := by decide
                    omega
                  have hr_518 : (400 * ((Mv 5) : Int32).toInt + ((Mf 3) (Mv 5).toNatClampNeg).toInt) ≤ (400 * ((Mv 5) : Int32).toInt + ((Mf 3) (Mv 5).toNatClampNeg).toInt) := by
                    have z_1 : ¬ (r_13 : Int32).toInt = (0 : Int32).toInt := fun z => c_18 (Int32.toInt_inj.mp z)
                    have z_2 : ¬ (r_33 : Int32).toInt = (60 : Int32).toInt := fun z => c_36 (Int32.toInt_inj.mp z)
                    have z_3 := congrArg Int32.toInt c_434
                    have z_4 := congrArg Int32.toInt c_436
                    have z_5 : ¬ (r_447 : Int32).toInt = (0 : Int32).toInt := fun z => c_452 (Int32.toInt_inj.mp z)
                    have z_6 : ¬ (r_33 : Int32).toInt = (60 : Int32).toInt := fun z => c_453 (Int32.toInt_inj.mp z)
                    have z_7 := congrArg Int32.toInt c_454
                    have z_8 := congrArg Int32.toInt c_476
                    have y_0 : (0 : Int32).toInt = 0 := by decide
                    have y_60 : (60 : Int32).toInt = 60 := by decide
                    have y_61 : (61 : Int32).toInt = 61 := by decide
                    omega
                  have hr_519 : (400 * ((Mv 5) : Int32).toInt + ((Mf 3) (Mv 5).toNatClampNeg).toInt) ≤ (400 * ((Mv 5) : Int32).toInt + (sv_9 (Mv 5).toNatClampNeg).toInt) := by
                    have z_1 : ¬ (r_13 : Int32).toInt = (0 : Int32).toInt := fun z => c_18 (Int32.toInt_inj.mp z)
                    have z_2 : ¬ (r_33 : Int32).toInt = (60 : Int32).toInt := fun z => c_36 (Int32.toInt_inj.mp z)
                    have z_3 := congrArg Int32.toInt c_434
                    have z_4 := congrArg Int32.toInt c_436
                    have z_5 : ¬ (r_447 : Int32).toInt = (0 : Int32).toInt := fun z => c_452 (Int32.toInt_inj.mp z)
                    have z_6 : ¬ (r_33 : Int32).toInt = (60 : Int32).toInt := fun z => c_453 (Int32.toInt_inj.mp z)
                    have z_7 := congrArg Int32.toInt c_454
                    have z_8 := congrArg Int32.toInt c_476
                    have y_0 : (0 : Int32).toInt = 0 := by decide
                    have y_60 : (60 : Int32).toInt = 60 := by decide
                    have y_61 : (61 : Int32).toInt = 61 := by decide
                    omega
                  have hp_520 : (((0 : Int32).toInt = 0 ∧ ¬ (sv_463 : Int32).toInt = 0) ∨ ((0 : Int32).toInt = 1 ∧ ((Mf 3) (Mv 5).toNatClampNeg).toInt + 1 ≤ (sv_467 (Mv 5).toNatClampNeg).toInt ∧ (sv_467 (Mv 5).toNatClampNeg).toInt + ((Mv 2) : Int32).toInt ≤ ((Mf 3) (Mv 5).toNatClampNeg).toInt + (sv_462 : Int32).toInt ∧ ((Mv 2) : Int32).toInt + 1 ≤ (sv_462 : Int32).toInt)) := by
                    have z_1 : ¬ (r_13 : Int32).toInt = (0 : Int32).toInt := fun z => c_18 (Int32.toInt_inj.mp z)
                    have z_2 : ¬ (r_33 : Int32).toInt = (60 : Int32).toInt := fun z => c_36 (Int32.toInt_inj.mp z)
                    have z_3 := congrArg Int32.toInt c_434
                    have z_4 := congrArg Int32.toInt c_436
                    have z_5 : ¬ (r_447 : Int32).toInt = (0 : Int32).toInt := fun z => c_452 (Int32.toInt_inj.mp z)
                    have z_6 : ¬ (r_33 : Int32).toInt = (60 : Int32).toInt := fun z => c_453 (Int32.toInt_inj.mp z)
                    have z_7 := congrArg Int32.toInt c_454
                    have z_8 := congrArg Int32.toInt c_476
                    have y_0 : (0 : Int32).toInt = 0 := by decide
                    have y_60 : (60 : Int32).toInt = 60 := by decide
                    have y_61 : (61 : Int32).toInt = 61 := by decide
                    omega
                  have hm_521 : (0 : Int32).toInt = 0 → (RfE (pz_com (rB (Mf 1) (Mv 0)) (St0 (rB (Mf 1) (Mv 0)) (Mv 2) (Mv 6))) sv_463) := by
                    intro h1r
                    have hr_522 : (rB (Mf 1) (Mv 0) (sv_28 : Int32).toInt.toNat = 60 ∨ rB (Mf 1) (Mv 0) (sv_28 : Int32).toInt.toNat = 61 ∨ rB (Mf 1) (Mv 0) (sv_28 : Int32).toInt.toNat = 62) := by
                      have z_1 : ¬ (r_13 : Int32).toInt = (0 : Int32).toInt := fun z => c_18 (Int32.toInt_inj.mp z)
                      have z_2 : ¬ (r_33 : Int32).toInt = (60 : Int32).toInt := fun z => c_36 (Int32.toInt_inj.mp z)
                      have z_3 := congrArg Int32.toInt c_434
                      have z_4 := congrArg Int32.toInt c_436
                      have z_5 : ¬ (r_447 : Int32).toInt = (0 : Int32).toInt := fun z => c_452 (Int32.toInt_inj.mp z)
                      have z_6 : ¬ (r_33 : Int32).toInt = (60 : Int32).toInt := fun z => c_453 (Int32.toInt_inj.mp z)
                      have z_7 := congrArg Int32.toInt c_454
                      have z_8 := congrArg Int32.toInt c_476
                      have y_0 : (0 : Int32).toInt = 0 := by decide
                      have y_60 : (60 : Int32).toInt = 60 := by decide
                      have y_61 : (61 : Int32).toInt = 61 := by decide
                      omega
                    have rg_523 := rB_rg (n := (Mv 0)) h_bs ((sv_28 : Int32).toInt.toNat + 1)
                    have hr_524 : ((x_435 : Int32).toInt = (sv_28 : Int32).toInt + 1 ∧ ¬ ((rB (Mf 1) (Mv 0) (sv_28 : Int32).toInt.toNat = 60 ∨ rB (Mf 1) (Mv 0) (sv_28 : Int32).toInt.toNat = 62) ∧ rB (Mf 1) (Mv 0) ((sv_28 : Int32).toInt.toNat + 1) = 61)) ∨ ((x_435 : Int32).toInt = (sv_28 : Int32).toInt + 2 ∧ (rB (Mf 1) (Mv 0) (sv_28 : Int32).toInt.toNat = 60 ∨ rB (Mf 1) (Mv 0) (sv_28 : Int32).toInt.toNat = 62) ∧ rB (Mf 1) (Mv 0) ((sv_28 : Int32).toInt.toNat + 1) = 61) := by
                      have z_1 : ¬ (r_13 : Int32).toInt = (0 : Int32).toInt := fun z => c_18 (Int32.toInt_inj.mp z)
                      have z_2 : ¬ (r_33 : Int32).toInt = (60 : Int32).toInt := fun z => c_36 (Int32.toInt_inj.mp z)
                      have z_3 := congrArg Int32.toInt c_434
                      have z_4 := congrArg Int32.toInt c_436
                      have z_5 : ¬ (r_447 : Int32).toInt = (0 : Int32).toInt := fun z => c_452 (Int32.toInt_inj.mp z)
                      have z_6 : ¬ (r_33 : Int32).toInt = (60 : Int32).toInt := fun z => c_453 (Int32.toInt_inj.mp z)
                      have z_7 := congrArg Int32.toInt c_454
                      have z_8 := congrArg Int32.toInt c_476
                      have y_0 : (0 : Int32).toInt = 0 := by decide
                      have y_60 : (60 : Int32).toInt = 60 := by decide
                      have y_61 : (61 : Int32).toInt = 61 := by decide
                      have y_1 : (1 : Int32).toInt = 1 := by decide
                      have t_x_435 : x_435.toInt = (sv_28 : Int32).toInt + (1 : Int32).toInt := by rw [ex_435]; exact add_toInt (by omega) (by omega)
                      omega
                    have hr_525 : 0 ≤ (sv_7 : Int32).toInt ∧ (sv_7 : Int32).toInt < 60 ∧ (sv_445 : Int32).toInt = (sv_7 : Int32).toInt + 1 := by
                      have z_1 : ¬ (r_13 : Int32).toInt = (0 : Int32).toInt := fun z => c_18 (Int32.toInt_inj.mp z)
                      have z_2 : ¬ (r_33 : Int32).toInt = (60 : Int32).toInt := fun z => c_36 (Int32.toInt_inj.mp z)
                      have z_3 := congrArg Int32.toInt c_434
                      have z_4 := congrArg Int32.toInt c_436
                      have z_5 : ¬ (r_447 : Int32).toInt = (0 : Int32).toInt := fun z => c_452 (Int32.toInt_inj.mp z)
                      have z_6 : ¬ (r_33 : Int32).toInt = (60 : Int32).toInt := fun z => c_453 (Int32.toInt_inj.mp z)
                      have z_7 := congrArg Int32.toInt c_454
                      have z_8 := congrArg Int32.toInt c_476
                      have y_0 : (0 : Int32).toInt = 0 := by decide
                      have y_60 : (60 : Int32).toInt = 60 := by decide
                      have y_61 : (61 : Int32).toInt = 61 := by decide
                      omega
                    exact (RfE.com2 pf_20 pf_32 hr_522 hr_524 hr_525 pf_514)
                  exact retI (v := 0) hx hb hr hlk (rfl) hP hD hS (sv_462, sv_463, sv_464, sv_465, sv_466, sv_467) ⟨_, rfl, hp_520, ha_516, ha_517, (Agr.trans (k' := (400 * ((Mv 5) : Int32).toInt + ((Mf 3) (Mv 5).toNatClampNeg).toInt)) (Agr.mono pf_12 hr_518) pf_470 ⟨Int.le_refl _, hr_519⟩), (fun h => absurd h (by decide)), hm_521⟩ [0, 1, 2, 3] rfl rfl dX12_compare_162 (Nat.le_of_ble_eq_true rfl) (Nat.le_of_ble_eq_true rfl) rfl
            · skip
              exfalso
              have z_1 : ¬ (r_13 : Int32).toInt = (0 : Int32).toInt := fun z => c_18 (Int32.toInt_inj.mp z)
              have z_2 : ¬ (r_33 : Int32).toInt = (60 : Int32).toInt := fun z => c_36 (Int32.toInt_inj.mp z)
              have z_3 := congrArg Int32.toInt c_434
              have z_4 := congrArg Int32.toInt c_436
              have z_5 : ¬ (r_447 : Int32).toInt = (0 : Int32).toInt := fun z => c_452 (Int32.toInt_inj.mp z)
              have z_6 := congrArg Int32.toInt c_453
              have y_0 : (0 : Int32).toInt = 0 := by decide
              have y_60 : (60 : Int32).toInt = 60 := by decide
              have y_61 : (61 : Int32).toInt = 61 := by decide
              omega
          · skip
            refine lv_iconst (v := 0) hx hb dX12_compare_113 (by decide) ?_
            have ha_526 : ((Mv 2) : Int32).toInt ≤ (x_435 : Int32).toInt ∧ (x_435 : Int32).toInt ≤ ((Mv 0) : Int32).toInt := by
              have z_1 : ¬ (r_13 : Int32).toInt = (0 : Int32).toInt := fun z => c_18 (Int32.toInt_inj.mp z)
              have z_2 : ¬ (r_33 : Int32).toInt = (60 : Int32).toInt := fun z => c_36 (Int32.toInt_inj.mp z)
              have z_3 := congrArg Int32.toInt c_434
              have z_4 := congrArg Int32.toInt c_436
              have z_5 := congrArg Int32.toInt c_452
              have y_0 : (0 : Int32).toInt = 0 := by decide
              have y_60 : (60 : Int32).toInt = 60 := by decide
              have y_61 : (61 : Int32).toInt = 61 := by decide
              have y_1 : (1 : Int32).toInt = 1 := by decide
              have t_x_435 : x_435.toInt = (sv_28 : Int32).toInt + (1 : Int32).toInt := by rw [ex_435]; exact add_toInt (by omega) (by omega)
              omega
            have ha_527 : ((Mv 6) : Int32).toInt ≤ (sv_445 : Int32).toInt ∧ (sv_445 : Int32).toInt ≤ 60 := by
              have z_1 : ¬ (r_13 : Int32).toInt = (0 : Int32).toInt := fun z => c_18 (Int32.toInt_inj.mp z)
              have z_2 : ¬ (r_33 : Int32).toInt = (60 : Int32).toInt := fun z => c_36 (Int32.toInt_inj.mp z)
              have z_3 := congrArg Int32.toInt c_434
              have z_4 := congrArg Int32.toInt c_436
              have z_5 := congrArg Int32.toInt c_452
              have y_0 : (0 : Int32).toInt = 0 := by decide
              have y_60 : (60 : Int32).toInt = 60 := by decide
              have y_61 : (61 : Int32).toInt = 61 := by decide
              omega
            have hp_528 : (((0 : Int32).toInt = 0 ∧ ¬ (sv_444 : Int32).toInt = 0) ∨ ((0 : Int32).toInt = 1 ∧ ((Mf 3) (Mv 5).toNatClampNeg).toInt + 1 ≤ (sv_9 (Mv 5).toNatClampNeg).toInt ∧ (sv_9 (Mv 5).toNatClampNeg).toInt + ((Mv 2) : Int32).toInt ≤ ((Mf 3) (Mv 5).toNatClampNeg).toInt + (x_435 : Int32).toInt ∧ ((Mv 2) : Int32).toInt + 1 ≤ (x_435 : Int32).toInt)) := by
              have z_1 : ¬ (r_13 : Int32).toInt = (0 : Int32).toInt := fun z => c_18 (Int32.toInt_inj.mp z)
              have z_2 : ¬ (r_33 : Int32).toInt = (60 : Int32).toInt := fun z => c_36 (Int32.toInt_inj.mp z)
              have z_3 := congrArg Int32.toInt c_434
              have z_4 := congrArg Int32.toInt c_436
              have z_5 := congrArg Int32.toInt c_452
              have y_0 : (0 : Int32).toInt = 0 := by decide
              have y_60 : (60 : Int32).toInt = 60 := by decide
              have y_61 : (61 : Int32).toInt = 61 := by decide
              have y_1 : (1 : Int32).toInt = 1 := by decide
              have t_x_435 : x_435.toInt = (sv_28 : Int32).toInt + (1 : Int32).toInt := by rw [ex_435]; exact add_toInt (by omega) (by omega)
              omega
            have hm_529 : (0 : Int32).toInt = 0 → (RfE (pz_com (rB (Mf 1) (Mv 0)) (St0 (rB (Mf 1) (Mv 0)) (Mv 2) (Mv 6))) sv_444) := by
              intro h1r
              have hr_530 : (rB (Mf 1) (Mv 0) (sv_28 : Int32).toInt.toNat = 60 ∨ rB (Mf 1) (Mv 0) (sv_28 : Int32).toInt.toNat = 61 ∨ rB (Mf 1) (Mv 0) (sv_28 : Int32).toInt.toNat = 62) := by
                have z_1 : ¬ (r_13 : Int32).toInt = (0 : Int32).toInt := fun z => c_18 (Int32.toInt_inj.mp z)
                have z_2 : ¬ (r_33 : Int32).toInt = (60 : Int32).toInt := fun z => c_36 (Int32.toInt_inj.mp z)
                have z_3 := congrArg Int32.toInt c_434
                have z_4 := congrArg Int32.toInt c_436
                have z_5 := congrArg Int32.toInt c_452
                have y_0 : (0 : Int32).toInt = 0 := by decide
                have y_60 : (60 : Int32).toInt = 60 := by decide
                have y_61 : (61 : Int32).toInt = 61 := by decide
                omega
              have hr_531 : 60 ≤ (sv_7 : Int32).toInt := by
                have z_1 : ¬ (r_13 : Int32).toInt = (0 : Int32).toInt := fun z => c_18 (Int32.toInt_inj.mp z)
                have z_2 : ¬ (r_33 : Int32).toInt = (60 : Int32).toInt := fun z => c_36 (Int32.toInt_inj.mp z)
                have z_3 := congrArg Int32.toInt c_434
                have z_4 := congrArg Int32.toInt c_436
                have z_5 := congrArg Int32.toInt c_452
                have y_0 : (0 : Int32).toInt = 0 := by decide
                have y_60 : (60 : Int32).toInt = 60 := by decide
                have y_61 : (61 : Int32).toInt = 61 := by decide
                omega
              have hi_532 : (sv_444 : Int32).toInt = 1 + 8 * (sv_28 : Int32).toInt + 3 := by
                have z_1 : ¬ (r_13 : Int32).toInt = (0 : Int32).toInt := fun z => c_18 (Int32.toInt_inj.mp z)
                have z_2 : ¬ (r_33 : Int32).toInt = (60 : Int32).toInt := fun z => c_36 (Int32.toInt_inj.mp z)
                have z_3 := congrArg Int32.toInt c_434
                have z_4 := congrArg Int32.toInt c_436
                have z_5 := congrArg Int32.toInt c_452
                have y_0 : (0 : Int32).toInt = 0 := by decide
                have y_60 : (60 : Int32).toInt = 60 := by decide
                have y_61 : (61 : Int32).toInt = 61 := by decide
                omega
              exact (RfE.com3 pf_20 pf_32 hr_530 hr_531 hi_532)
            exact retI (v := 0) hx hb hr hlk (rfl) hP hD hS (x_435, sv_444, sv_6, sv_445, sv_8, sv_9) ⟨_, rfl, hp_528, ha_526, ha_527, pf_12, (fun h => absurd h (by decide)), hm_529⟩ [3, 2, 0, 1] rfl rfl dX12_compare_114 (Nat.le_of_ble_eq_true rfl) (Nat.le_of_ble_eq_true rfl) rfl
        · skip
          exfalso
          have z_1 : ¬ (r_13 : Int32).toInt = (0 : Int32).toInt := fun z => c_18 (Int32.toInt_inj.mp z)
          have z_2 : ¬ (r_33 : Int32).toInt = (60 : Int32).toInt := fun z => c_36 (Int32.toInt_inj.mp z)
          have z_3 := congrArg Int32.toInt c_434
          have z_4 : ¬ (r_33 : Int32).toInt = (61 : Int32).toInt := fun z => c_436 (Int32.toInt_inj.mp z)
          have y_0 : (0 : Int32).toInt = 0 := by decide
          have y_60 : (60 : Int32).toInt = 60 := by decide
          have y_61 : (61 : Int32).toInt = 61 := by decide
          omega
      · skip
        refine lv_iload_n hx hb dX12_compare_31 rfl (lv_at hl 1 rfl) ?_
        refine lv_bipush (v := 62) hx hb dX12_compare_32 (by decide) ?_
        refine lv_icmp_eq (tgt := 44) hx hb dX12_compare_34 (by decide) (fun c_533 => ?_) (fun c_533 => ?_)
        · skip
          refine lv_aload_n hx hb dX12_compare_44 rfl (lv_at hl 2 rfl) ?_
          refine lv_dup hx hb dX12_compare_45 rfl ?_
          refine gf_X12_87 hx hb hts hown hK hP 2 rfl rfl dX12_compare_46 ?_
          refine lv_iconst (v := 1) hx hb dX12_compare_49 (by decide) ?_
          refine lv_iadd hx hb dX12_compare_50 ?_
          refine lv_topi (fun x_534 ex_534 => ?_)
          refine pf_X12_87 hx hb hts hown hK hP hD hS 2 rfl (Nat.le_of_ble_eq_true rfl) rfl rfl dX12_compare_51 (fun H locs hP₀ hD₀ hS₀ => ?_)
          replace hP : va_P D classes [((Ma 2), .inl (tc 0, 2400, .inl sv_8)), ((Ma 3), .inl (tc 0, 7, .inl sv_9)), ((Ma 0), .inr (12, [.ref (Ma 1), .int (Mv 0), .int (Mv 1), .ref (Ma 2), .ref (Ma 3), .ref (Ma 4), .ref (Ma 5), .ref (Ma 6), .int x_534, .int sv_5, .int sv_6, .int (Mv 5), .int sv_7, .int (Mv 7), .int (Mv 8), .ref (Ma 7), .int (Mv 9), .ref (Ma 8), .int (Mv 10), .ref (Ma 9), .ref (Ma 10), .int (Mv 11), .int (Mv 12), .int (Mv 13), .ref (Ma 11), .int (Mv 14), .ref (Ma 12), .ref (Ma 13), .ref (Ma 14), .ref (Ma 15), .ref (Ma 16), .long (Mj 0), .ref (Ma 17), .ref (Ma 18), .ref (Ma 19), .ref (Ma 20)])), ((Ma 1), .inl (tc 2, 400, .inl (Mf 1)))] H := hP₀
          replace hD : va_D A [((Ma 2), .inl (tc 0, 2400, .inl sv_8)), ((Ma 3), .inl (tc 0, 7, .inl sv_9)), ((Ma 0), .inr (12, [.ref (Ma 1), .int (Mv 0), .int (Mv 1), .ref (Ma 2), .ref (Ma 3), .ref (Ma 4), .ref (Ma 5), .ref (Ma 6), .int x_534, .int sv_5, .int sv_6, .int (Mv 5), .int sv_7, .int (Mv 7), .int (Mv 8), .ref (Ma 7), .int (Mv 9), .ref (Ma 8), .int (Mv 10), .ref (Ma 9), .ref (Ma 10), .int (Mv 11), .int (Mv 12), .int (Mv 13), .ref (Ma 11), .int (Mv 14), .ref (Ma 12), .ref (Ma 13), .ref (Ma 14), .ref (Ma 15), .ref (Ma 16), .long (Mj 0), .ref (Ma 17), .ref (Ma 18), .ref (Ma 19), .ref (Ma 20)])), ((Ma 1), .inl (tc 2, 400, .inl (Mf 1)))] := hD₀
          replace hS := hS₀
          clear hP₀ hD₀ hS₀
          have tp_x_534 : (x_534 : Int32).toInt = (sv_28 : Int32).toInt + 1 := by
            have z_1 : ¬ (r_13 : Int32).toInt = (0 : Int32).toInt := fun z => c_18 (Int32.toInt_inj.mp z)
            have z_2 : ¬ (r_33 : Int32).toInt = (60 : Int32).toInt := fun z => c_36 (Int32.toInt_inj.mp z)
            have z_3 : ¬ (r_33 : Int32).toInt = (61 : Int32).toInt := fun z => c_434 (Int32.toInt_inj.mp z)
            have z_4 := congrArg Int32.toInt c_533
            have y_0 : (0 : Int32).toInt = 0 := by decide
            have y_60 : (60 : Int32).toInt = 60 := by decide
            have y_61 : (61 : Int32).toInt = 61 := by decide
            have y_62 : (62 : Int32).toInt = 62 := by decide
            have y_1 : (1 : Int32).toInt = 1 := by decide
            have t_x_534 : x_534.toInt = (sv_28 : Int32).toInt + (1 : Int32).toInt := by rw [ex_534]; exact add_toInt (by omega) (by omega)
            omega
          refine lv_iload_n hx hb dX12_compare_54 rfl (lv_at hl 1 rfl) ?_
          refine lv_bipush (v := 61) hx hb dX12_compare_55 (by decide) ?_
          refine lv_icmp_eq (tgt := 89) hx hb dX12_compare_57 (by decide) (fun c_535 => ?_) (fun c_535 => ?_)
          · skip
            exfalso
            have z_1 : ¬ (r_13 : Int32).toInt = (0 : Int32).toInt := fun z => c_18 (Int32.toInt_inj.mp z)
            have z_2 : ¬ (r_33 : Int32).toInt = (60 : Int32).toInt := fun z => c_36 (Int32.toInt_inj.mp z)
            have z_3 : ¬ (r_33 : Int32).toInt = (61 : Int32).toInt := fun z => c_434 (Int32.toInt_inj.mp z)
            have z_4 := congrArg Int32.toInt c_533
            have z_5 := congrArg Int32.toInt c_535
            have y_0 : (0 : Int32).toInt = 0 := by decide
            have y_60 : (60 : Int32).toInt = 60 := by decide
            have y_61 : (61 : Int32).toInt = 61 := by decide
            have y_62 : (62 : Int32).toInt = 62 := by decide
            omega
          · skip
            refine lv_aload_n hx hb dX12_compare_60 rfl (lv_at hl 2 rfl) ?_
            refine gf_X12_87 hx hb hts hown hK hP 2 rfl rfl dX12_compare_61 ?_
            refine lv_aload_n hx hb dX12_compare_64 rfl (lv_at hl 2 rfl) ?_
            refine gf_X12_77 hx hb hts hown hK hP 2 rfl rfl dX12_compare_65 ?_
            refine lv_icmp_ge (tgt := 89) hx hb dX12_compare_68 (by decide) (fun c_536 => ?_) (fun c_536 => ?_)
            · skip
              refine lv_iconst (v := 0) hx hb dX12_compare_89 (by decide) ?_
              refine lv_istore_n (lv' := [(3, .int 0), (2, .int sv_28), (1, .int r_33), (0, .ref (Ma 0))]) hx hb dX12_compare_90 rfl hl (by decide) rfl (fun ls hl₀ => ?_)
              replace hl := hl₀
              clear hl₀
              refine lv_iload_n hx hb dX12_compare_91 rfl (lv_at hl 0 rfl) ?_
              refine lv_if_eq (tgt := 105) hx hb dX12_compare_92 (by decide) (fun c_537 => ?_) (fun c_537 => absurd c_537 (by decide))
              refine lv_aload_n hx hb dX12_compare_105 rfl (lv_at hl 3 rfl) ?_
              refine lv_iload_n hx hb dX12_compare_106 rfl (lv_at hl 1 rfl) ?_
              have ha_538 : 0 ≤ sv_28.toInt ∧ sv_28.toInt ≤ 400 := by
                have z_1 : ¬ (r_13 : Int32).toInt = (0 : Int32).toInt := fun z => c_18 (Int32.toInt_inj.mp z)
                have z_2 : ¬ (r_33 : Int32).toInt = (60 : Int32).toInt := fun z => c_36 (Int32.toInt_inj.mp z)
                have z_3 : ¬ (r_33 : Int32).toInt = (61 : Int32).toInt := fun z => c_434 (Int32.toInt_inj.mp z)
                have z_4 := congrArg Int32.toInt c_533
                have z_5 : ¬ (r_33 : Int32).toInt = (61 : Int32).toInt := fun z => c_535 (Int32.toInt_inj.mp z)
                have z_6 := Int32.le_iff_toInt_le.mp c_536
                have y_0 : (0 : Int32).toInt = 0 := by decide
                have y_60 : (60 : Int32).toInt = 60 := by decide
                have y_61 : (61 : Int32).toInt = 61 := by decide
                have y_62 : (62 : Int32).toInt = 62 := by decide
                have y_1 : (1 : Int32).toInt = 1 := by decide
                have t_x_534 : x_534.toInt = (sv_28 : Int32).toInt + (1 : Int32).toInt := by rw [ex_534]; exact add_toInt (by omega) (by omega)
                omega
              have ha_539 : 0 ≤ (sv_7 : Int32).toInt ∧ (sv_7 : Int32).toInt ≤ 60 := by
                have z_1 : ¬ (r_13 : Int32).toInt = (0 : Int32).toInt := fun z => c_18 (Int32.toInt_inj.mp z)
                have z_2 : ¬ (r_33 : Int32).toInt = (60 : Int32).toInt := fun z => c_36 (Int32.toInt_inj.mp z)
                have z_3 : ¬ (r_33 : Int32).toInt = (61 : Int32).toInt := fun z => c_434 (Int32.toInt_inj.mp z)
                have z_4 := congrArg Int32.toInt c_533
                have z_5 : ¬ (r_33 : Int32).toInt = (61 : Int32).toInt := fun z => c_535 (Int32.toInt_inj.mp z)
                have z_6 := Int32.le_iff_toInt_le.mp c_536
                have y_0 : (0 : Int32).toInt = 0 := by decide
                have y_60 : (60 : Int32).toInt = 60 := by decide
                have y_61 : (61 : Int32).toInt = 61 := by decide
                have y_62 : (62 : Int32).toInt = 62 := by decide
                have y_1 : (1 : Int32).toInt = 1 := by decide
                have t_x_534 : x_534.toInt = (sv_28 : Int32).toInt + (1 : Int32).toInt := by rw [ex_534]; exact add_toInt (by omega) (by omega)
                omega
              have ha_540 : (sv_5 : Int32).toInt = 0 := by
                have z_1 : ¬ (r_13 : Int32).toInt = (0 : Int32).toInt := fun z => c_18 (Int32.toInt_inj.mp z)
                have z_2 : ¬ (r_33 : Int32).toInt = (60 : Int32).toInt := fun z => c_36 (Int32.toInt_inj.mp z)
                have z_3 : ¬ (r_33 : Int32).toInt = (61 : Int32).toInt := fun z => c_434 (Int32.toInt_inj.mp z)
                have z_4 := congrArg Int32.toInt c_533
                have z_5 : ¬ (r_33 : Int32).toInt = (61 : Int32).toInt := fun z => c_535 (Int32.toInt_inj.mp z)
                have z_6 := Int32.le_iff_toInt_le.mp c_536
                have y_0 : (0 : Int32).toInt = 0 := by decide
                have y_60 : (60 : Int32).toInt = 60 := by decide
                have y_61 : (61 : Int32).toInt = 61 := by decide
                have y_62 : (62 : Int32).toInt = 62 := by decide
                have y_1 : (1 : Int32).toInt = 1 := by decide
                have t_x_534 : x_534.toInt = (sv_28 : Int32).toInt + (1 : Int32).toInt := by rw [ex_534]; exact add_toInt (by omega) (by omega)
                omega
              refine cV (a := (Ma 0)) (As := [.int sv_28]) (rest := []) (wr := [((Ma 2), .inl (tc 0, 2400, .inl sv_8)), ((Ma 3), .inl (tc 0, 7, .inl sv_9)), ((Ma 1), .inl (tc 2, 400, .inl (Mf 1)))]) ⟨hx, hb, hml, hown, hts⟩ hK hX hA (cu_fX12_makes l D tc sk (Ma 0) (Ma 1) (Ma 2) (Ma 3) (Ma 4) (Ma 5) (Ma 6) (Ma 7) (Ma 8) (Ma 9) (Ma 10) (Ma 11) (Ma 12) (Ma 13) (Ma 14) (Ma 15) (Ma 16) (Ma 17) (Ma 18) (Ma 19) (Ma 20) (Mv 0) (Mv 1) x_534 sv_5 sv_6 (Mv 5) sv_7 (Mv 7) (Mv 8) (Mv 9) (Mv 10) (Mv 11) (Mv 12) (Mv 13) (Mv 14) (Mj 0) sv_28 ha_538 ha_539 ha_540) k_1292 k_1289 k_1291 k_45 k_106 pl_X12_makes ⟨Nat.le_of_ble_eq_true rfl, Nat.le_of_ble_eq_true rfl⟩ rfl rfl (va_recv hK hP (ci := 12) (q0 := 2) rfl rfl) hP hD hS [2] [0, 1, 3] rfl rfl rfl rfl rfl (by decide) rfl hl.1 rfl (Nat.le_of_ble_eq_true rfl) dX12_compare_107 ⟨Nat.le_of_ble_eq_true rfl, Nat.le_of_ble_eq_true rfl⟩ (fun v_541 u_542 H locs hv_543 hP₀ hD₀ hS₀ => ?_)
              obtain ⟨sv_544, sv_545⟩ := u_542
              obtain ⟨r_547, rfl, he_548, pf_546⟩ := hv_543
              have he_548 : ((r_547.toInt = 0 ∧ ¬ (sv_544 : Int32).toInt = 0 ∧ sv_7.toInt = 60 ∧ (sv_544 : Int32).toInt = 1 + 8 * sv_28.toInt + 3) ∨ (r_547.toInt = 1 ∧ (sv_545 : Int32).toInt = sv_7.toInt + 1 ∧ sv_7.toInt < 60 ∧ (sv_544 : Int32).toInt = 0)) := he_548
              have pf_546 : (sv_7 : Int32).toInt ≤ (sv_545 : Int32).toInt ∧ (sv_545 : Int32).toInt ≤ 60 := pf_546
              refine W.eq (g2 := F0 m 110 ls [.int r_547]) rfl ?_
              replace hP : va_P D classes [((Ma 2), .inl (tc 0, 2400, .inl sv_8)), ((Ma 3), .inl (tc 0, 7, .inl sv_9)), ((Ma 1), .inl (tc 2, 400, .inl (Mf 1))), ((Ma 0), .inr (12, [.ref (Ma 1), .int (Mv 0), .int (Mv 1), .ref (Ma 2), .ref (Ma 3), .ref (Ma 4), .ref (Ma 5), .ref (Ma 6), .int x_534, .int sv_544, .int sv_6, .int (Mv 5), .int sv_545, .int (Mv 7), .int (Mv 8), .ref (Ma 7), .int (Mv 9), .ref (Ma 8), .int (Mv 10), .ref (Ma 9), .ref (Ma 10), .int (Mv 11), .int (Mv 12), .int (Mv 13), .ref (Ma 11), .int (Mv 14), .ref (Ma 12), .ref (Ma 13), .ref (Ma 14), .ref (Ma 15), .ref (Ma 16), .long (Mj 0), .ref (Ma 17), .ref (Ma 18), .ref (Ma 19), .ref (Ma 20)]))] H := hP₀
              replace hD : va_D A [((Ma 2), .inl (tc 0, 2400, .inl sv_8)), ((Ma 3), .inl (tc 0, 7, .inl sv_9)), ((Ma 1), .inl (tc 2, 400, .inl (Mf 1))), ((Ma 0), .inr (12, [.ref (Ma 1), .int (Mv 0), .int (Mv 1), .ref (Ma 2), .ref (Ma 3), .ref (Ma 4), .ref (Ma 5), .ref (Ma 6), .int x_534, .int sv_544, .int sv_6, .int (Mv 5), .int sv_545, .int (Mv 7), .int (Mv 8), .ref (Ma 7), .int (Mv 9), .ref (Ma 8), .int (Mv 10), .ref (Ma 9), .ref (Ma 10), .int (Mv 11), .int (Mv 12), .int (Mv 13), .ref (Ma 11), .int (Mv 14), .ref (Ma 12), .ref (Ma 13), .ref (Ma 14), .ref (Ma 15), .ref (Ma 16), .long (Mj 0), .ref (Ma 17), .ref (Ma 18), .ref (Ma 19), .ref (Ma 20)]))] := hD₀
              replace hS := hS₀
              clear hP₀ hD₀ hS₀
              have hr_551 : (sv_7 : Int32).toInt ≤ (sv_545 : Int32).toInt ∧ (sv_545 : Int32).toInt ≤ 60 := by
                have z_1 : ¬ (r_13 : Int32).toInt = (0 : Int32).toInt := fun z => c_18 (Int32.toInt_inj.mp z)
                have z_2 : ¬ (r_33 : Int32).toInt = (60 : Int32).toInt := fun z => c_36 (Int32.toInt_inj.mp z)
                have z_3 : ¬ (r_33 : Int32).toInt = (61 : Int32).toInt := fun z => c_434 (Int32.toInt_inj.mp z)
                have z_4 := congrArg Int32.toInt c_533
                have z_5 : ¬ (r_33 : Int32).toInt = (61 : Int32).toInt := fun z => c_535 (Int32.toInt_inj.mp z)
                have z_6 := Int32.le_iff_toInt_le.mp c_536
                have y_0 : (0 : Int32).toInt = 0 := by decide
                have y_60 : (60 : Int32).toInt = 60 := by decide
                have y_61 : (61 : Int32).toInt = 61 := by decide
                have y_62 : (62 : Int32).toInt = 62 := by decide
                have y_1 : (1 : Int32).toInt = 1 := by decide
                have t_x_534 : x_534.toInt = (sv_28 : Int32).toInt + (1 : Int32).toInt := by rw [ex_534]; exact add_toInt (by omega) (by omega)
                omega
              have pf_550 : Cd sv_8 sv_9 (Mv 5) b sv_545 (d + 1) := Cd.mono pf_19 hr_551
              have ar_pf_550 := Cd.ar pf_550
              refine lv_if_ne (tgt := 115) hx hb dX12_compare_110 (by decide) (fun c_552 => ?_) (fun c_552 => ?_)
              · skip
                refine lv_iload_n hx hb dX12_compare_115 rfl (lv_at hl 2 rfl) ?_
                refine lv_bipush (v := 60) hx hb dX12_compare_116 (by decide) ?_
                refine lv_icmp_ne (tgt := 133) hx hb dX12_compare_118 (by decide) (fun c_553 => ?_) (fun c_553 => ?_)
                · skip
                  refine lv_iload_n hx hb dX12_compare_133 rfl (lv_at hl 2 rfl) ?_
                  refine lv_bipush (v := 61) hx hb dX12_compare_134 (by decide) ?_
                  refine lv_icmp_ne (tgt := 143) hx hb dX12_compare_136 (by decide) (fun c_554 => ?_) (fun c_554 => ?_)
                  · skip
                    refine lv_iload_n hx hb dX12_compare_143 rfl (lv_at hl 0 rfl) ?_
                    refine lv_if_eq (tgt := 151) hx hb dX12_compare_144 (by decide) (fun c_555 => ?_) (fun c_555 => absurd c_555 (by decide))
                    refine lv_iconst (v := 4) hx hb dX12_compare_151 (by decide) ?_
                    refine lv_istore (lv' := [(4, .int 4), (3, .int 0), (2, .int sv_28), (1, .int r_33), (0, .ref (Ma 0))]) hx hb dX12_compare_152 hl (by decide) rfl (fun ls hl₀ => ?_)
                    replace hl := hl₀
                    clear hl₀
                    refine lv_aload_n hx hb dX12_compare_154 rfl (lv_at hl 4 rfl) ?_
                    have ha_556 : 0 ≤ (x_534 : Int32).toInt ∧ (x_534 : Int32).toInt ≤ ((Mv 0) : Int32).toInt ∧ ((Mv 0) : Int32).toInt ≤ 400 := by
                      have z_1 : ¬ (r_13 : Int32).toInt = (0 : Int32).toInt := fun z => c_18 (Int32.toInt_inj.mp z)
                      have z_2 : ¬ (r_33 : Int32).toInt = (60 : Int32).toInt := fun z => c_36 (Int32.toInt_inj.mp z)
                      have z_3 : ¬ (r_33 : Int32).toInt = (61 : Int32).toInt := fun z => c_434 (Int32.toInt_inj.mp z)
                      have z_4 := congrArg Int32.toInt c_533
                      have z_5 : ¬ (r_33 : Int32).toInt = (61 : Int32).toInt := fun z => c_535 (Int32.toInt_inj.mp z)
                      have z_6 := Int32.le_iff_toInt_le.mp c_536
                      have z_7 : ¬ (r_547 : Int32).toInt = (0 : Int32).toInt := fun z => c_552 (Int32.toInt_inj.mp z)
                      have z_8 : ¬ (r_33 : Int32).toInt = (60 : Int32).toInt := fun z => c_553 (Int32.toInt_inj.mp z)
                      have z_9 : ¬ (r_33 : Int32).toInt = (61 : Int32).toInt := fun z => c_554 (Int32.toInt_inj.mp z)
                      have y_0 : (0 : Int32).toInt = 0 := by decide
                      have y_60 : (60 : Int32).toInt = 60 := by decide
                      have y_61 : (61 : Int32).toInt = 61 := by decide
                      have y_62 : (62 : Int32).toInt = 62 := by decide
                      have y_1 : (1 : Int32).toInt = 1 := by decide
                      have t_x_534 : x_534.toInt = (sv_28 : Int32).toInt + (1 : Int32).toInt := by rw [ex_534]; exact add_toInt (by omega) (by omega)
                      omega
                    have ha_557 : (sv_9 (Mv 5).toNatClampNeg).toInt ≤ (x_534 : Int32).toInt := by
                      have z_1 : ¬ (r_13 : Int32).toInt = (0 : Int32).toInt := fun z => c_18 (Int32.toInt_inj.mp z)
                      have z_2 : ¬ (r_33 : Int32).toInt = (60 : Int32).toInt := fun z => c_36 (Int32.toInt_inj.mp z)
                      have z_3 : ¬ (r_33 : Int32).toInt = (61 : Int32).toInt := fun z => c_434 (Int32.toInt_inj.mp z)
                      have z_4 := congrArg Int32.toInt c_533
                      have z_5 : ¬ (r_33 : Int32).toInt = (61 : Int32).toInt := fun z => c_535 (Int32.toInt_inj.mp z)
                      have z_6 := Int32.le_iff_toInt_le.mp c_536
                      have z_7 : ¬ (r_547 : Int32).toInt = (0 : Int32).toInt := fun z => c_552 (Int32.toInt_inj.mp z)
                      have z_8 : ¬ (r_33 : Int32).toInt = (60 : Int32).toInt := fun z => c_553 (Int32.toInt_inj.mp z)
                      have z_9 : ¬ (r_33 : Int32).toInt = (61 : Int32).toInt := fun z => c_554 (Int32.toInt_inj.mp z)
                      have y_0 : (0 : Int32).toInt = 0 := by decide
                      have y_60 : (60 : Int32).toInt = 60 := by decide
                      have y_61 : (61 : Int32).toInt = 61 := by decide
                      have y_62 : (62 : Int32).toInt = 62 := by decide
                      have y_1 : (1 : Int32).toInt = 1 := by decide
                      have t_x_534 : x_534.toInt = (sv_28 : Int32).toInt + (1 : Int32).toInt := by rw [ex_534]; exact add_toInt (by omega) (by omega)
                      omega
                    have ha_558 : 0 ≤ (sv_545 : Int32).toInt ∧ (sv_545 : Int32).toInt ≤ 60 := by
                      have z_1 : ¬ (r_13 : Int32).toInt = (0 : Int32).toInt := fun z => c_18 (Int32.toInt_inj.mp z)
                      have z_2 : ¬ (r_33 : Int32).toInt = (60 : Int32).toInt := fun z => c_36 (Int32.toInt_inj.mp z)
                      have z_3 : ¬ (r_33 : Int32).toInt = (61 : Int32).toInt := fun z => c_434 (Int32.toInt_inj.mp z)
                      have z_4 := congrArg Int32.toInt c_533
                      have z_5 : ¬ (r_33 : Int32).toInt = (61 : Int32).toInt := fun z => c_535 (Int32.toInt_inj.mp z)
                      have z_6 := Int32.le_iff_toInt_le.mp c_536
                      have z_7 : ¬ (r_547 : Int32).toInt = (0 : Int32).toInt := fun z => c_552 (Int32.toInt_inj.mp z)
                      have z_8 : ¬ (r_33 : Int32).toInt = (60 : Int32).toInt := fun z => c_553 (Int32.toInt_inj.mp z)
                      have z_9 : ¬ (r_33 : Int32).toInt = (61 : Int32).toInt := fun z => c_554 (Int32.toInt_inj.mp z)
                      have y_0 : (0 : Int32).toInt = 0 := by decide
                      have y_60 : (60 : Int32).toInt = 60 := by decide
                      have y_61 : (61 : Int32).toInt = 61 := by decide
                      have y_62 : (62 : Int32).toInt = 62 := by decide
                      have y_1 : (1 : Int32).toInt = 1 := by decide
                      have t_x_534 : x_534.toInt = (sv_28 : Int32).toInt + (1 : Int32).toInt := by rw [ex_534]; exact add_toInt (by omega) (by omega)
                      omega
                    have ha_559 : (sv_544 : Int32).toInt = 0 := by
                      have z_1 : ¬ (r_13 : Int32).toInt = (0 : Int32).toInt := fun z => c_18 (Int32.toInt_inj.mp z)
                      have z_2 : ¬ (r_33 : Int32).toInt = (60 : Int32).toInt := fun z => c_36 (Int32.toInt_inj.mp z)
                      have z_3 : ¬ (r_33 : Int32).toInt = (61 : Int32).toInt := fun z => c_434 (Int32.toInt_inj.mp z)
                      have z_4 := congrArg Int32.toInt c_533
                      have z_5 : ¬ (r_33 : Int32).toInt = (61 : Int32).toInt := fun z => c_535 (Int32.toInt_inj.mp z)
                      have z_6 := Int32.le_iff_toInt_le.mp c_536
                      have z_7 : ¬ (r_547 : Int32).toInt = (0 : Int32).toInt := fun z => c_552 (Int32.toInt_inj.mp z)
                      have z_8 : ¬ (r_33 : Int32).toInt = (60 : Int32).toInt := fun z => c_553 (Int32.toInt_inj.mp z)
                      have z_9 : ¬ (r_33 : Int32).toInt = (61 : Int32).toInt := fun z => c_554 (Int32.toInt_inj.mp z)
                      have y_0 : (0 : Int32).toInt = 0 := by decide
                      have y_60 : (60 : Int32).toInt = 60 := by decide
                      have y_61 : (61 : Int32).toInt = 61 := by decide
                      have y_62 : (62 : Int32).toInt = 62 := by decide
                      have y_1 : (1 : Int32).toInt = 1 := by decide
                      have t_x_534 : x_534.toInt = (sv_28 : Int32).toInt + (1 : Int32).toInt := by rw [ex_534]; exact add_toInt (by omega) (by omega)
                      omega
                    refine cV (a := (Ma 0)) (As := []) (rest := []) (wr := []) ⟨hx, hb, hml, hown, hts⟩ hK hX hA (cu_kX12_sum l D tc sk (Ma 0) (Ma 1) (Ma 2) (Ma 3) (Ma 4) (Ma 5) (Ma 6) (Ma 7) (Ma 8) (Ma 9) (Ma 10) (Ma 11) (Ma 12) (Ma 13) (Ma 14) (Ma 15) (Ma 16) (Ma 17) (Ma 18) (Ma 19) (Ma 20) (Mv 0) (Mv 1) x_534 sv_544 sv_6 (Mv 5) sv_545 (Mv 7) (Mv 8) (Mv 9) (Mv 10) (Mv 11) (Mv 12) (Mv 13) (Mv 14) (Mf 1) sv_8 sv_9 (Mj 0) b (d + 1) lo_23 ha_556 pf_550 ha_557 ha_558 h_bs ha_559 pf_21) k_1279 k_1276 k_1278 k_42 k_106 pl_X12_sum ⟨Nat.le_of_ble_eq_true rfl, Nat.le_of_ble_eq_true rfl⟩ rfl rfl (va_recv hK hP (ci := 12) (q0 := 3) rfl rfl) hP hD hS [3, 2, 0, 1] [] rfl rfl rfl rfl rfl (by decide) rfl hl.1 rfl (Nat.le_of_ble_eq_true rfl) dX12_compare_155 ⟨Nat.le_of_ble_eq_true rfl, Nat.le_of_ble_eq_true rfl⟩ (fun v_560 u_561 H locs hv_562 hP₀ hD₀ hS₀ => ?_)
                    obtain ⟨sv_563, sv_564, sv_565, sv_566, sv_567, sv_568⟩ := u_561
                    obtain ⟨r_572, rfl, he_573, pf_569, pf_570, pf_571, hm_575, hm_576⟩ := hv_562
                    have he_573 : ((r_572.toInt = 0 ∧ ¬ (sv_564 : Int32).toInt = 0) ∨ (r_572.toInt = 1 ∧ (sv_9 (Mv 5).toNatClampNeg).toInt + 1 ≤ (sv_568 (Mv 5).toNatClampNeg).toInt ∧ (sv_568 (Mv 5).toNatClampNeg).toInt + (x_534 : Int32).toInt ≤ (sv_9 (Mv 5).toNatClampNeg).toInt + (sv_563 : Int32).toInt ∧ (x_534 : Int32).toInt + 1 ≤ (sv_563 : Int32).toInt)) := he_573
                    have pf_569 : (x_534 : Int32).toInt ≤ (sv_563 : Int32).toInt ∧ (sv_563 : Int32).toInt ≤ ((Mv 0) : Int32).toInt := pf_569
                    have pf_570 : (sv_545 : Int32).toInt ≤ (sv_566 : Int32).toInt ∧ (sv_566 : Int32).toInt ≤ 60 := pf_570
                    have pf_571 : Agr sv_8 sv_567 (400 * ((Mv 5) : Int32).toInt + (sv_9 (Mv 5).toNatClampNeg).toInt) := pf_571
                    refine W.eq (g2 := F0 m 158 ls [.int r_572]) rfl ?_
                    replace hP : va_P D classes [((Ma 0), .inr (12, [.ref (Ma 1), .int (Mv 0), .int (Mv 1), .ref (Ma 2), .ref (Ma 3), .ref (Ma 4), .ref (Ma 5), .ref (Ma 6), .int sv_563, .int sv_564, .int sv_565, .int (Mv 5), .int sv_566, .int (Mv 7), .int (Mv 8), .ref (Ma 7), .int (Mv 9), .ref (Ma 8), .int (Mv 10), .ref (Ma 9), .ref (Ma 10), .int (Mv 11), .int (Mv 12), .int (Mv 13), .ref (Ma 11), .int (Mv 14), .ref (Ma 12), .ref (Ma 13), .ref (Ma 14), .ref (Ma 15), .ref (Ma 16), .long (Mj 0), .ref (Ma 17), .ref (Ma 18), .ref (Ma 19), .ref (Ma 20)])), ((Ma 1), .inl (tc 2, 400, .inl (Mf 1))), ((Ma 2), .inl (tc 0, 2400, .inl sv_567)), ((Ma 3), .inl (tc 0, 7, .inl sv_568))] H := hP₀
                    replace hD : va_D A [((Ma 0), .inr (12, [.ref (Ma 1), .int (Mv 0), .int (Mv 1), .ref (Ma 2), .ref (Ma 3), .ref (Ma 4), .ref (Ma 5), .ref (Ma 6), .int sv_563, .int sv_564, .int sv_565, .int (Mv 5), .int sv_566, .int (Mv 7), .int (Mv 8), .ref (Ma 7), .int (Mv 9), .ref (Ma 8), .int (Mv 10), .ref (Ma 9), .ref (Ma 10), .int (Mv 11), .int (Mv 12), .int (Mv 13), .ref (Ma 11), .int (Mv 14), .ref (Ma 12), .ref (Ma 13), .ref (Ma 14), .ref (Ma 15), .ref (Ma 16), .long (Mj 0), .ref (Ma 17), .ref (Ma 18), .ref (Ma 19), .ref (Ma 20)])), ((Ma 1), .inl (tc 2, 400, .inl (Mf 1))), ((Ma 2), .inl (tc 0, 2400, .inl sv_567)), ((Ma 3), .inl (tc 0, 7, .inl sv_568))] := hD₀
                    replace hS := hS₀
                    clear hP₀ hD₀ hS₀
                    refine lv_if_ne (tgt := 163) hx hb dX12_compare_158 (by decide) (fun c_577 => ?_) (fun c_577 => ?_)
                    · skip
                      have hz_581 : (r_572 : Int32).toInt = 1 := by
                        have z_1 : ¬ (r_13 : Int32).toInt = (0 : Int32).toInt := fun z => c_18 (Int32.toInt_inj.mp z)
                        have z_2 : ¬ (r_33 : Int32).toInt = (60 : Int32).toInt := fun z => c_36 (Int32.toInt_inj.mp z)
                        have z_3 : ¬ (r_33 : Int32).toInt = (61 : Int32).toInt := fun z => c_434 (Int32.toInt_inj.mp z)
                        have z_4 := congrArg Int32.toInt c_533
                        have z_5 : ¬ (r_33 : Int32).toInt = (61 : Int32).toInt := fun z => c_535 (Int32.toInt_inj.mp z)
                        have z_6 := Int32.le_iff_toInt_le.mp c_536
                        have z_7 : ¬ (r_547 : Int32).toInt = (0 : Int32).toInt := fun z => c_552 (Int32.toInt_inj.mp z)
                        have z_8 : ¬ (r_33 : Int32).toInt = (60 : Int32).toInt := fun z => c_553 (Int32.toInt_inj.mp z)
                        have z_9 : ¬ (r_33 : Int32).toInt = (61 : Int32).toInt := fun z => c_554 (Int32.toInt_inj.mp z)
                        have z_10 : ¬ (r_572 : Int32).toInt = (0 : Int32).toInt := fun z => c_577 (Int32.toInt_inj.mp z)
                        have y_0 : (0 : Int32).toInt = 0 := by decide
                        have y_60 : (60 : Int32).toInt = 60 := by decide
                        have y_61 : (61 : Int32).toInt = 61 := by decide
                        have y_62 : (62 : Int32).toInt = 62 := by decide
                        have y_1 : (1 : Int32).toInt = 1 := by decide
                        have t_x_534 : x_534.toInt = (sv_28 : Int32).toInt + (1 : Int32).toInt := by rw [ex_534]; exact add_toInt (by omega) (by omega)
                        omega
                      obtain ⟨pf_578, pf_579, pf_580⟩ := hm_575 hz_581
                      have pf_578 : Cd sv_567 sv_568 (Mv 5) b sv_566 ((d + 1) + 1) := pf_578
                      have ar_pf_578 := Cd.ar pf_578
                      have pf_579 : RfO (pz_sum (rB (Mf 1) (Mv 0)) (St0 (rB (Mf 1) (Mv 0)) x_534 sv_545)) (rB (Mf 1) (Mv 0)) sv_564 sv_563 sv_566 := pf_579
                      have ar_pf_579 := RfO.wr pf_579
                      have pf_580 : SgC sv_567 sv_568 (Mv 5) (lo_23 ++ lsum (rB (Mf 1) (Mv 0)) (St0 (rB (Mf 1) (Mv 0)) x_534 sv_545)) := pf_580
                      obtain ⟨lo_582, elo_582⟩ : ∃ z : List Int, z = (lo_23 ++ lsum (rB (Mf 1) (Mv 0)) (St0 (rB (Mf 1) (Mv 0)) x_534 sv_545)) := ⟨_, rfl⟩
                      rw [← elo_582] at pf_580
                      refine lv_aload_n hx hb dX12_compare_163 rfl (lv_at hl 4 rfl) ?_
                      refine lv_bipush (v := 6) hx hb dX12_compare_164 (by decide) ?_
                      refine lv_iload hx hb dX12_compare_166 (lv_at hl 0 rfl) ?_
                      refine lv_iadd hx hb dX12_compare_168 ?_
                      refine lv_lit (v := 10) (by decide) ?_
                      refine lv_iconst (v := 0) hx hb dX12_compare_169 (by decide) ?_
                      have ha_583 : ((d + 1) : Int) ≤ sv_566.toInt := by
                        have z_1 : ¬ (r_13 : Int32).toInt = (0 : Int32).toInt := fun z => c_18 (Int32.toInt_inj.mp z)
                        have z_2 : ¬ (r_33 : Int32).toInt = (60 : Int32).toInt := fun z => c_36 (Int32.toInt_inj.mp z)
                        have z_3 : ¬ (r_33 : Int32).toInt = (61 : Int32).toInt := fun z => c_434 (Int32.toInt_inj.mp z)
                        have z_4 := congrArg Int32.toInt c_533
                        have z_5 : ¬ (r_33 : Int32).toInt = (61 : Int32).toInt := fun z => c_535 (Int32.toInt_inj.mp z)
                        have z_6 := Int32.le_iff_toInt_le.mp c_536
                        have z_7 : ¬ (r_547 : Int32).toInt = (0 : Int32).toInt := fun z => c_552 (Int32.toInt_inj.mp z)
                        have z_8 : ¬ (r_33 : Int32).toInt = (60 : Int32).toInt := fun z => c_553 (Int32.toInt_inj.mp z)
                        have z_9 : ¬ (r_33 : Int32).toInt = (61 : Int32).toInt := fun z => c_554 (Int32.toInt_inj.mp z)
                        have z_10 : ¬ (r_572 : Int32).toInt = (0 : Int32).toInt := fun z => c_577 (Int32.toInt_inj.mp z)
                        have y_0 : (0 : Int32).toInt = 0 := by decide
                        have y_60 : (60 : Int32).toInt = 60 := by decide
                        have y_61 : (61 : Int32).toInt = 61 := by decide
                        have y_62 : (62 : Int32).toInt = 62 := by decide
                        have y_1 : (1 : Int32).toInt = 1 := by decide
                        have t_x_534 : x_534.toInt = (sv_28 : Int32).toInt + (1 : Int32).toInt := by rw [ex_534]; exact add_toInt (by omega) (by omega)
                        omega
                      have ha_584 : (sv_568 (Mv 5).toNatClampNeg).toInt < 400 := by
                        have z_1 : ¬ (r_13 : Int32).toInt = (0 : Int32).toInt := fun z => c_18 (Int32.toInt_inj.mp z)
                        have z_2 : ¬ (r_33 : Int32).toInt = (60 : Int32).toInt := fun z => c_36 (Int32.toInt_inj.mp z)
                        have z_3 : ¬ (r_33 : Int32).toInt = (61 : Int32).toInt := fun z => c_434 (Int32.toInt_inj.mp z)
                        have z_4 := congrArg Int32.toInt c_533
                        have z_5 : ¬ (r_33 : Int32).toInt = (61 : Int32).toInt := fun z => c_535 (Int32.toInt_inj.mp z)
                        have z_6 := Int32.le_iff_toInt_le.mp c_536
                        have z_7 : ¬ (r_547 : Int32).toInt = (0 : Int32).toInt := fun z => c_552 (Int32.toInt_inj.mp z)
                        have z_8 : ¬ (r_33 : Int32).toInt = (60 : Int32).toInt := fun z => c_553 (Int32.toInt_inj.mp z)
                        have z_9 : ¬ (r_33 : Int32).toInt = (61 : Int32).toInt := fun z => c_554 (Int32.toInt_inj.mp z)
                        have z_10 : ¬ (r_572 : Int32).toInt = (0 : Int32).toInt := fun z => c_577 (Int32.toInt_inj.mp z)
                        have y_0 : (0 : Int32).toInt = 0 := by decide
                        have y_60 : (60 : Int32).toInt = 60 := by decide
                        have y_61 : (61 : Int32).toInt = 61 := by decide
                        have y_62 : (62 : Int32).toInt = 62 := by decide
                        have y_1 : (1 : Int32).toInt = 1 := by decide
                        have t_x_534 : x_534.toInt = (sv_28 : Int32).toInt + (1 : Int32).toInt := by rw [ex_534]; exact add_toInt (by omega) (by omega)
                        omega
                      have ha_585 : 0 ≤ (10 : Int32).toInt ∧ (10 : Int32).toInt ≤ 15 := by
                        have z_1 : ¬ (r_13 : Int32).toInt = (0 : Int32).toInt := fun z => c_18 (Int32.toInt_inj.mp z)
                        have z_2 : ¬ (r_33 : Int32).toInt = (60 : Int32).toInt := fun z => c_36 (Int32.toInt_inj.mp z)
                        have z_3 : ¬ (r_33 : Int32).toInt = (61 : Int32).toInt := fun z => c_434 (Int32.toInt_inj.mp z)
                        have z_4 := congrArg Int32.toInt c_533
                        have z_5 : ¬ (r_33 : Int32).toInt = (61 : Int32).toInt := fun z => c_535 (Int32.toInt_inj.mp z)
                        have z_6 := Int32.le_iff_toInt_le.mp c_536
                        have z_7 : ¬ (r_547 : Int32).toInt = (0 : Int32).toInt := fun z => c_552 (Int32.toInt_inj.mp z)
                        have z_8 : ¬ (r_33 : Int32).toInt = (60 : Int32).toInt := fun z => c_553 (Int32.toInt_inj.mp z)
                        have z_9 : ¬ (r_33 : Int32).toInt = (61 : Int32).toInt := fun z => c_554 (Int32.toInt_inj.mp z)
                        have z_10 : ¬ (r_572 : Int32).toInt = (0 : Int32).toInt := fun z => c_577 (Int32.toInt_inj.mp z)
                        have y_0 : (0 : Int32).toInt = 0 := by decide
                        have y_60 : (60 : Int32).toInt = 60 := by decide
                        have y_61 : (61 : Int32).toInt = 61 := by decide
                        have y_62 : (62 : Int32).toInt = 62 := by decide
                        have y_1 : (1 : Int32).toInt = 1 := by decide
                        have y_10 : (10 : Int32).toInt = 10 := by decide
                        have t_x_534 : x_534.toInt = (sv_28 : Int32).toInt + (1 : Int32).toInt := by rw [ex_534]; exact add_toInt (by omega) (by omega)
                        omega
                      have ha_586 : 0 ≤ (0 : Int32).toInt ∧ (0 : Int32).toInt ≤ 100000 := by
                        have z_1 : ¬ (r_13 : Int32).toInt = (0 : Int32).toInt := fun z => c_18 (Int32.toInt_inj.mp z)
                        have z_2 : ¬ (r_33 : Int32).toInt = (60 : Int32).toInt := fun z => c_36 (Int32.toInt_inj.mp z)
                        have z_3 : ¬ (r_33 : Int32).toInt = (61 : Int32).toInt := fun z => c_434 (Int32.toInt_inj.mp z)
                        have z_4 := congrArg Int32.toInt c_533
                        have z_5 : ¬ (r_33 : Int32).toInt = (61 : Int32).toInt := fun z => c_535 (Int32.toInt_inj.mp z)
                        have z_6 := Int32.le_iff_toInt_le.mp c_536
                        have z_7 : ¬ (r_547 : Int32).toInt = (0 : Int32).toInt := fun z => c_552 (Int32.toInt_inj.mp z)
                        have z_8 : ¬ (r_33 : Int32).toInt = (60 : Int32).toInt := fun z => c_553 (Int32.toInt_inj.mp z)
                        have z_9 : ¬ (r_33 : Int32).toInt = (61 : Int32).toInt := fun z => c_554 (Int32.toInt_inj.mp z)
                        have z_10 : ¬ (r_572 : Int32).toInt = (0 : Int32).toInt := fun z => c_577 (Int32.toInt_inj.mp z)
                        have y_0 : (0 : Int32).toInt = 0 := by decide
                        have y_60 : (60 : Int32).toInt = 60 := by decide
                        have y_61 : (61 : Int32).toInt = 61 := by decide
                        have y_62 : (62 : Int32).toInt = 62 := by decide
                        have y_1 : (1 : Int32).toInt = 1 := by decide
                        have t_x_534 : x_534.toInt = (sv_28 : Int32).toInt + (1 : Int32).toInt := by rw [ex_534]; exact add_toInt (by omega) (by omega)
                        omega
                      have ha_587 : 0 ≤ (Mv 5).toInt := by
                        have z_1 : ¬ (r_13 : Int32).toInt = (0 : Int32).toInt := fun z => c_18 (Int32.toInt_inj.mp z)
                        have z_2 : ¬ (r_33 : Int32).toInt = (60 : Int32).toInt := fun z => c_36 (Int32.toInt_inj.mp z)
                        have z_3 : ¬ (r_33 : Int32).toInt = (61 : Int32).toInt := fun z => c_434 (Int32.toInt_inj.mp z)
                        have z_4 := congrArg Int32.toInt c_533
                        have z_5 : ¬ (r_33 : Int32).toInt = (61 : Int32).toInt := fun z => c_535 (Int32.toInt_inj.mp z)
                        have z_6 := Int32.le_iff_toInt_le.mp c_536
                        have z_7 : ¬ (r_547 : Int32).toInt = (0 : Int32).toInt := fun z => c_552 (Int32.toInt_inj.mp z)
                        have z_8 : ¬ (r_33 : Int32).toInt = (60 : Int32).toInt := fun z => c_553 (Int32.toInt_inj.mp z)
                        have z_9 : ¬ (r_33 : Int32).toInt = (61 : Int32).toInt := fun z => c_554 (Int32.toInt_inj.mp z)
                        have z_10 : ¬ (r_572 : Int32).toInt = (0 : Int32).toInt := fun z => c_577 (Int32.toInt_inj.mp z)
                        have y_0 : (0 : Int32).toInt = 0 := by decide
                        have y_60 : (60 : Int32).toInt = 60 := by decide
                        have y_61 : (61 : Int32).toInt = 61 := by decide
                        have y_62 : (62 : Int32).toInt = 62 := by decide
                        have y_1 : (1 : Int32).toInt = 1 := by decide
                        have t_x_534 : x_534.toInt = (sv_28 : Int32).toInt + (1 : Int32).toInt := by rw [ex_534]; exact add_toInt (by omega) (by omega)
                        omega
                      refine cV (a := (Ma 0)) (As := [.int 10, .int 0]) (rest := []) (wr := [((Ma 1), .inl (tc 2, 400, .inl (Mf 1)))]) ⟨hx, hb, hml, hown, hts⟩ hK hX hA (cu_kX12_puts l D tc sk (Ma 0) (Ma 1) (Ma 2) (Ma 3) (Ma 4) (Ma 5) (Ma 6) (Ma 7) (Ma 8) (Ma 9) (Ma 10) (Ma 11) (Ma 12) (Ma 13) (Ma 14) (Ma 15) (Ma 16) (Ma 17) (Ma 18) (Ma 19) (Ma 20) (Mv 0) (Mv 1) sv_563 sv_564 sv_565 (Mv 5) sv_566 (Mv 7) (Mv 8) (Mv 9) (Mv 10) (Mv 11) (Mv 12) (Mv 13) (Mv 14) sv_567 sv_568 (Mj 0) 10 0 b sv_566 ((d + 1) + 1) (d + 1) lo_582 (-11) pf_578 (StpR.op (by decide) rfl (by omega)) ha_583 ha_584 pf_580 (by decide) ha_585 ha_586 ha_587) k_1296 k_1293 k_1295 k_46 k_106 pl_X12_puts ⟨Nat.le_of_ble_eq_true rfl, Nat.le_of_ble_eq_true rfl⟩ rfl rfl (va_recv hK hP (ci := 12) (q0 := 0) rfl rfl) hP hD hS [0, 2, 3] [1] rfl rfl rfl rfl rfl (by decide) rfl hl.1 rfl (Nat.le_of_ble_eq_true rfl) dX12_compare_170 ⟨Nat.le_of_ble_eq_true rfl, Nat.le_of_ble_eq_true rfl⟩ (fun v_588 u_589 H locs hv_590 hP₀ hD₀ hS₀ => ?_)
                      obtain ⟨sv_591, sv_592⟩ := u_589
                      obtain ⟨rfl, pf_593, pf_594, pf_595, pf_596⟩ := hv_590
                      have pf_593 : Cd sv_591 sv_592 (Mv 5) b sv_566 (d + 1) := pf_593
                      have ar_pf_593 := Cd.ar pf_593
                      have pf_594 : Agr sv_567 sv_591 (400 * ((Mv 5) : Int32).toInt + (sv_568 (Mv 5).toNatClampNeg).toInt) := pf_594
                      have pf_595 : (sv_592 (Mv 5).toNatClampNeg).toInt = (sv_568 (Mv 5).toNatClampNeg).toInt + 1 := pf_595
                      have pf_596 : SgC sv_591 sv_592 (Mv 5) (lo_582 ++ [((-11) : Int)]) := pf_596
                      obtain ⟨lo_597, elo_597⟩ : ∃ z : List Int, z = (lo_582 ++ [(-11)]) := ⟨_, rfl⟩
                      rw [← elo_597] at pf_596
                      refine W.eq (g2 := F0 m 173 ls []) rfl ?_
                      replace hP : va_P D classes [((Ma 1), .inl (tc 2, 400, .inl (Mf 1))), ((Ma 0), .inr (12, [.ref (Ma 1), .int (Mv 0), .int (Mv 1), .ref (Ma 2), .ref (Ma 3), .ref (Ma 4), .ref (Ma 5), .ref (Ma 6), .int sv_563, .int sv_564, .int sv_565, .int (Mv 5), .int sv_566, .int (Mv 7), .int (Mv 8), .ref (Ma 7), .int (Mv 9), .ref (Ma 8), .int (Mv 10), .ref (Ma 9), .ref (Ma 10), .int (Mv 11), .int (Mv 12), .int (Mv 13), .ref (Ma 11), .int (Mv 14), .ref (Ma 12), .ref (Ma 13), .ref (Ma 14), .ref (Ma 15), .ref (Ma 16), .long (Mj 0), .ref (Ma 17), .ref (Ma 18), .ref (Ma 19), .ref (Ma 20)])), ((Ma 2), .inl (tc 0, 2400, .inl sv_591)), ((Ma 3), .inl (tc 0, 7, .inl sv_592))] H := hP₀
                      replace hD : va_D A [((Ma 1), .inl (tc 2, 400, .inl (Mf 1))), ((Ma 0), .inr (12, [.ref (Ma 1), .int (Mv 0), .int (Mv 1), .ref (Ma 2), .ref (Ma 3), .ref (Ma 4), .ref (Ma 5), .ref (Ma 6), .int sv_563, .int sv_564, .int sv_565, .int (Mv 5), .int sv_566, .int (Mv 7), .int (Mv 8), .ref (Ma 7), .int (Mv 9), .ref (Ma 8), .int (Mv 10), .ref (Ma 9), .ref (Ma 10), .int (Mv 11), .int (Mv 12), .int (Mv 13), .ref (Ma 11), .int (Mv 14), .ref (Ma 12), .ref (Ma 13), .ref (Ma 14), .ref (Ma 15), .ref (Ma 16), .long (Mj 0), .ref (Ma 17), .ref (Ma 18), .ref (Ma 19), .ref (Ma 20)])), ((Ma 2), .inl (tc 0, 2400, .inl sv_591)), ((Ma 3), .inl (tc 0, 7, .inl sv_592))] := hD₀
                      replace hS := hS₀
                      clear hP₀ hD₀ hS₀
                      refine lv_iconst (v := 1) hx hb dX12_compare_173 (by decide) ?_
                      have ha_598 : ((Mv 2) : Int32).toInt ≤ (sv_563 : Int32).toInt ∧ (sv_563 : Int32).toInt ≤ ((Mv 0) : Int32).toInt := by
                        have z_1 : ¬ (r_13 : Int32).toInt = (0 : Int32).toInt := fun z => c_18 (Int32.toInt_inj.mp z)
                        have z_2 : ¬ (r_33 : Int32).toInt = (60 : Int32).toInt := fun z => c_36 (Int32.toInt_inj.mp z)
                        have z_3 : ¬ (r_33 : Int32).toInt = (61 : Int32).toInt := fun z => c_434 (Int32.toInt_inj.mp z)
                        have z_4 := congrArg Int32.toInt c_533
                        have z_5 : ¬ (r_33 : Int32).toInt = (61 : Int32).toInt := fun z => c_535 (Int32.toInt_inj.mp z)
                        have z_6 := Int32.le_iff_toInt_le.mp c_536
                        have z_7 : ¬ (r_547 : Int32).toInt = (0 : Int32).toInt := fun z => c_552 (Int32.toInt_inj.mp z)
                        have z_8 : ¬ (r_33 : Int32).toInt = (60 : Int32).toInt := fun z => c_553 (Int32.toInt_inj.mp z)
                        have z_9 : ¬ (r_33 : Int32).toInt = (61 : Int32).toInt := fun z => c_554 (Int32.toInt_inj.mp z)
                        have z_10 : ¬ (r_572 : Int32).toInt = (0 : Int32).toInt := fun z => c_577 (Int32.toInt_inj.mp z)
                        have y_0 : (0 : Int32).toInt = 0 := by decide
                        have y_60 : (60 : Int32).toInt = 60 := by decide
                        have y_61 : (61 : Int32).toInt = 61 := by decide
                        have y_62 : (62 : Int32).toInt = 62 := by decide
                        have y_1 : (1 : Int32).toInt = 1 := by decide
                        have t_x_534 : x_534.toInt = (sv_28 : Int32).toInt + (1 : Int32).toInt := by rw [ex_534]; exact add_toInt (by omega) (by omega)
                        omega
                      have ha_599 : ((Mv 6) : Int32).toInt ≤ (sv_566 : Int32).toInt ∧ (sv_566 : Int32).toInt ≤ 60 := by
                        have z_1 : ¬ (r_13 : Int32).toInt = (0 : Int32).toInt := fun z => c_18 (Int32.toInt_inj.mp z)
                        have z_2 : ¬ (r_33 : Int32).toInt = (60 : Int32).toInt := fun z => c_36 (Int32.toInt_inj.mp z)
                        have z_3 : ¬ (r_33 : Int32).toInt = (61 : Int32).toInt := fun z => c_434 (Int32.toInt_inj.mp z)
                        have z_4 := congrArg Int32.toInt c_533
                        have z_5 : ¬ (r_33 : Int32).toInt = (61 : Int32).toInt := fun z => c_535 (Int32.toInt_inj.mp z)
                        have z_6 := Int32.le_iff_toInt_le.mp c_536
                        have z_7 : ¬ (r_547 : Int32).toInt = (0 : Int32).toInt := fun z => c_552 (Int32.toInt_inj.mp z)
                        have z_8 : ¬ (r_33 : Int32).toInt = (60 : Int32).toInt := fun z => c_553 (Int32.toInt_inj.mp z)
                        have z_9 : ¬ (r_33 : Int32).toInt = (61 : Int32).toInt := fun z => c_554 (Int32.toInt_inj.mp z)
                        have z_10 : ¬ (r_572 : Int32).toInt = (0 : Int32).toInt := fun z => c_577 (Int32.toInt_inj.mp z)
                        have y_0 : (0 : Int32).toInt = 0 := by decide
                        have y_60 : (60 : Int32).toInt = 60 := by decide
                        have y_61 : (61 : Int32).toInt = 61 := by decide
                        have y_62 : (62 : Int32).toInt = 62 := by decide
                        have y_1 : (1 : Int32).toInt = 1 := by decide
                        have t_x_534 : x_534.toInt = (sv_28 : Int32).toInt + (1 : Int32).toInt := by rw [ex_534]; exact add_toInt (by omega) (by omega)
                        omega
                      have hr_600 : (400 * ((Mv 5) : Int32).toInt + ((Mf 3) (Mv 5).toNatClampNeg).toInt) ≤ (400 * ((Mv 5) : Int32).toInt + ((Mf 3) (Mv 5).toNatClampNeg).toInt) := by
                        have z_1 : ¬ (r_13 : Int32).toInt = (0 : Int32).toInt := fun z => c_18 (Int32.toInt_inj.mp z)
                        have z_2 : ¬ (r_33 : Int32).toInt = (60 : Int32).toInt := fun z => c_36 (Int32.toInt_inj.mp z)
                        have z_3 : ¬ (r_33 : Int32).toInt = (61 : Int32).toInt := fun z => c_434 (Int32.toInt_inj.mp z)
                        have z_4 := congrArg Int32.toInt c_533
                        have z_5 : ¬ (r_33 : Int32).toInt = (61 : Int32).toInt := fun z => c_535 (Int32.toInt_inj.mp z)
                        have z_6 := Int32.le_iff_toInt_le.mp c_536
                        have z_7 : ¬ (r_547 : Int32).toInt = (0 : Int32).toInt := fun z => c_552 (Int32.toInt_inj.mp z)
                        have z_8 : ¬ (r_33 : Int32).toInt = (60 : Int32).toInt := fun z => c_553 (Int32.toInt_inj.mp z)
                        have z_9 : ¬ (r_33 : Int32).toInt = (61 : Int32).toInt := fun z => c_554 (Int32.toInt_inj.mp z)
                        have z_10 : ¬ (r_572 : Int32).toInt = (0 : Int32).toInt := fun z => c_577 (Int32.toInt_inj.mp z)
                        have y_0 : (0 : Int32).toInt = 0 := by decide
                        have y_60 : (60 : Int32).toInt = 60 := by decide
                        have y_61 : (61 : Int32).toInt = 61 := by decide
                        have y_62 : (62 : Int32).toInt = 62 := by decide
                        have y_1 : (1 : Int32).toInt = 1 := by decide
                        have t_x_534 : x_534.toInt = (sv_28 : Int32).toInt + (1 : Int32).toInt := by rw [ex_534]; exact add_toInt (by omega) (by omega)
                        omega
                      have hr_601 : (400 * ((Mv 5) : Int32).toInt + ((Mf 3) (Mv 5).toNatClampNeg).toInt) ≤ (400 * ((Mv 5) : Int32).toInt + (sv_9 (Mv 5).toNatClampNeg).toInt) := by
                        have z_1 : ¬ (r_13 : Int32).toInt = (0 : Int32).toInt := fun z => c_18 (Int32.toInt_inj.mp z)
                        have z_2 : ¬ (r_33 : Int32).toInt = (60 : Int32).toInt := fun z => c_36 (Int32.toInt_inj.mp z)
                        have z_3 : ¬ (r_33 : Int32).toInt = (61 : Int32).toInt := fun z => c_434 (Int32.toInt_inj.mp z)
                        have z_4 := congrArg Int32.toInt c_533
                        have z_5 : ¬ (r_33 : Int32).toInt = (61 : Int32).toInt := fun z => c_535 (Int32.toInt_inj.mp z)
                        have z_6 := Int32.le_iff_toInt_le.mp c_536
                        have z_7 : ¬ (r_547 : Int32).toInt = (0 : Int32).toInt := fun z => c_552 (Int32.toInt_inj.mp z)
                        have z_8 : ¬ (r_33 : Int32).toInt = (60 : Int32).toInt := fun z => c_553 (Int32.toInt_inj.mp z)
                        have z_9 : ¬ (r_33 : Int32).toInt = (61 : Int32).toInt := fun z => c_554 (Int32.toInt_inj.mp z)
                        have z_10 : ¬ (r_572 : Int32).toInt = (0 : Int32).toInt := fun z => c_577 (Int32.toInt_inj.mp z)
                        have y_0 : (0 : Int32).toInt = 0 := by decide
                        have y_60 : (60 : Int32).toInt = 60 := by decide
                        have y_61 : (61 : Int32).toInt = 61 := by decide
                        have y_62 : (62 : Int32).toInt = 62 := by decide
                        have y_1 : (1 : Int32).toInt = 1 := by decide
                        have t_x_534 : x_534.toInt = (sv_28 : Int32).toInt + (1 : Int32).toInt := by rw [ex_534]; exact add_toInt (by omega) (by omega)
                        omega
                      have hr_602 : (400 * ((Mv 5) : Int32).toInt + ((Mf 3) (Mv 5).toNatClampNeg).toInt) ≤ (400 * ((Mv 5) : Int32).toInt + (sv_568 (Mv 5).toNatClampNeg).toInt) := by
                        have z_1 : ¬ (r_13 : Int32).toInt = (0 : Int32).toInt := fun z => c_18 (Int32.toInt_inj.mp z)
                        have z_2 : ¬ (r_33 : Int32).toInt = (60 : Int32).toInt := fun z => c_36 (Int32.toInt_inj.mp z)
                        have z_3 : ¬ (r_33 : Int32).toInt = (61 : Int32).toInt := fun z => c_434 (Int32.toInt_inj.mp z)
                        have z_4 := congrArg Int32.toInt c_533
                        have z_5 : ¬ (r_33 : Int32).toInt = (61 : Int32).toInt := fun z => c_535 (Int32.toInt_inj.mp z)
                        have z_6 := Int32.le_iff_toInt_le.mp c_536
                        have z_7 : ¬ (r_547 : Int32).toInt = (0 : Int32).toInt := fun z => c_552 (Int32.toInt_inj.mp z)
                        have z_8 : ¬ (r_33 : Int32).toInt = (60 : Int32).toInt := fun z => c_553 (Int32.toInt_inj.mp z)
                        have z_9 : ¬ (r_33 : Int32).toInt = (61 : Int32).toInt := fun z => c_554 (Int32.toInt_inj.mp z)
                        have z_10 : ¬ (r_572 : Int32).toInt = (0 : Int32).toInt := fun z => c_577 (Int32.toInt_inj.mp z)
                        have y_0 : (0 : Int32).toInt = 0 := by decide
                        have y_60 : (60 : Int32).toInt = 60 := by decide
                        have y_61 : (61 : Int32).toInt = 61 := by decide
                        have y_62 : (62 : Int32).toInt = 62 := by decide
                        have y_1 : (1 : Int32).toInt = 1 := by decide
                        have t_x_534 : x_534.toInt = (sv_28 : Int32).toInt + (1 : Int32).toInt := by rw [ex_534]; exact add_toInt (by omega) (by omega)
                        omega
                      have hp_603 : (((1 : Int32).toInt = 0 ∧ ¬ (sv_564 : Int32).toInt = 0) ∨ ((1 : Int32).toInt = 1 ∧ ((Mf 3) (Mv 5).toNatClampNeg).toInt + 1 ≤ (sv_592 (Mv 5).toNatClampNeg).toInt ∧ (sv_592 (Mv 5).toNatClampNeg).toInt + ((Mv 2) : Int32).toInt ≤ ((Mf 3) (Mv 5).toNatClampNeg).toInt + (sv_563 : Int32).toInt ∧ ((Mv 2) : Int32).toInt + 1 ≤ (sv_563 : Int32).toInt)) := by
                        have z_1 : ¬ (r_13 : Int32).toInt = (0 : Int32).toInt := fun z => c_18 (Int32.toInt_inj.mp z)
                        have z_2 : ¬ (r_33 : Int32).toInt = (60 : Int32).toInt := fun z => c_36 (Int32.toInt_inj.mp z)
                        have z_3 : ¬ (r_33 : Int32).toInt = (61 : Int32).toInt := fun z => c_434 (Int32.toInt_inj.mp z)
                        have z_4 := congrArg Int32.toInt c_533
                        have z_5 : ¬ (r_33 : Int32).toInt = (61 : Int32).toInt := fun z => c_535 (Int32.toInt_inj.mp z)
                        have z_6 := Int32.le_iff_toInt_le.mp c_536
                        have z_7 : ¬ (r_547 : Int32).toInt = (0 : Int32).toInt := fun z => c_552 (Int32.toInt_inj.mp z)
                        have z_8 : ¬ (r_33 : Int32).toInt = (60 : Int32).toInt := fun z => c_553 (Int32.toInt_inj.mp z)
                        have z_9 : ¬ (r_33 : Int32).toInt = (61 : Int32).toInt := fun z => c_554 (Int32.toInt_inj.mp z)
                        have z_10 : ¬ (r_572 : Int32).toInt = (0 : Int32).toInt := fun z => c_577 (Int32.toInt_inj.mp z)
                        have y_0 : (0 : Int32).toInt = 0 := by decide
                        have y_60 : (60 : Int32).toInt = 60 := by decide
                        have y_61 : (61 : Int32).toInt = 61 := by decide
                        have y_62 : (62 : Int32).toInt = 62 := by decide
                        have y_1 : (1 : Int32).toInt = 1 := by decide
                        have t_x_534 : x_534.toInt = (sv_28 : Int32).toInt + (1 : Int32).toInt := by rw [ex_534]; exact add_toInt (by omega) (by omega)
                        have yr : (1 : Int32).toInt = 1 := by decide
                        omega
                      have hm_604 : (1 : Int32).toInt = 1 → (Cd sv_591 sv_592 (Mv 5) b sv_566 (d + 1)) ∧ (RfO (pz_com (rB (Mf 1) (Mv 0)) (St0 (rB (Mf 1) (Mv 0)) (Mv 2) (Mv 6))) (rB (Mf 1) (Mv 0)) sv_564 sv_563 sv_566) ∧ (SgC sv_591 sv_592 (Mv 5) (ll ++ ec_com (rB (Mf 1) (Mv 0)) (St0 (rB (Mf 1) (Mv 0)) (Mv 2) (Mv 6)))) := by
                        intro h1r
                        have hr_605 : (rB (Mf 1) (Mv 0) (sv_28 : Int32).toInt.toNat = 60 ∨ rB (Mf 1) (Mv 0) (sv_28 : Int32).toInt.toNat = 61 ∨ rB (Mf 1) (Mv 0) (sv_28 : Int32).toInt.toNat = 62) := by
                          have z_1 : ¬ (r_13 : Int32).toInt = (0 : Int32).toInt := fun z => c_18 (Int32.toInt_inj.mp z)
                          have z_2 : ¬ (r_33 : Int32).toInt = (60 : Int32).toInt := fun z => c_36 (Int32.toInt_inj.mp z)
                          have z_3 : ¬ (r_33 : Int32).toInt = (61 : Int32).toInt := fun z => c_434 (Int32.toInt_inj.mp z)
                          have z_4 := congrArg Int32.toInt c_533
                          have z_5 : ¬ (r_33 : Int32).toInt = (61 : Int32).toInt := fun z => c_535 (Int32.toInt_inj.mp z)
                          have z_6 := Int32.le_iff_toInt_le.mp c_536
                          have z_7 : ¬ (r_547 : Int32).toInt = (0 : Int32).toInt := fun z => c_552 (Int32.toInt_inj.mp z)
                          have z_8 : ¬ (r_33 : Int32).toInt = (60 : Int32).toInt := fun z => c_553 (Int32.toInt_inj.mp z)
                          have z_9 : ¬ (r_33 : Int32).toInt = (61 : Int32).toInt := fun z => c_554 (Int32.toInt_inj.mp z)
                          have z_10 : ¬ (r_572 : Int32).toInt = (0 : Int32).toInt := fun z => c_577 (Int32.toInt_inj.mp z)
                          have y_0 : (0 : Int32).toInt = 0 := by decide
                          have y_60 : (60 : Int32).toInt = 60 := by decide
                          have y_61 : (61 : Int32).toInt = 61 := by decide
                          have y_62 : (62 : Int32).toInt = 62 := by decide
                          have y_1 : (1 : Int32).toInt = 1 := by decide
                          have t_x_534 : x_534.toInt = (sv_28 : Int32).toInt + (1 : Int32).toInt := by rw [ex_534]; exact add_toInt (by omega) (by omega)
                          omega
                        have rg_606 := rB_rg (n := (Mv 0)) h_bs ((sv_28 : Int32).toInt.toNat + 1)
                        have hr_607 : ((x_534 : Int32).toInt = (sv_28 : Int32).toInt + 1 ∧ ¬ ((rB (Mf 1) (Mv 0) (sv_28 : Int32).toInt.toNat = 60 ∨ rB (Mf 1) (Mv 0) (sv_28 : Int32).toInt.toNat = 62) ∧ rB (Mf 1) (Mv 0) ((sv_28 : Int32).toInt.toNat + 1) = 61)) ∨ ((x_534 : Int32).toInt = (sv_28 : Int32).toInt + 2 ∧ (rB (Mf 1) (Mv 0) (sv_28 : Int32).toInt.toNat = 60 ∨ rB (Mf 1) (Mv 0) (sv_28 : Int32).toInt.toNat = 62) ∧ rB (Mf 1) (Mv 0) ((sv_28 : Int32).toInt.toNat + 1) = 61) := by
                          have z_1 : ¬ (r_13 : Int32).toInt = (0 : Int32).toInt := fun z => c_18 (Int32.toInt_inj.mp z)
                          have z_2 : ¬ (r_33 : Int32).toInt = (60 : Int32).toInt := fun z => c_36 (Int32.toInt_inj.mp z)
                          have z_3 : ¬ (r_33 : Int32).toInt = (61 : Int32).toInt := fun z => c_434 (Int32.toInt_inj.mp z)
                          have z_4 := congrArg Int32.toInt c_533
                          have z_5 : ¬ (r_33 : Int32).toInt = (61 : Int32).toInt := fun z => c_535 (Int32.toInt_inj.mp z)
                          have z_6 := Int32.le_iff_toInt_le.mp c_536
                          have z_7 : ¬ (r_547 : Int32).toInt = (0 : Int32).toInt := fun z => c_552 (Int32.toInt_inj.mp z)
                          have z_8 : ¬ (r_33 : Int32).toInt = (60 : Int32).toInt := fun z => c_553 (Int32.toInt_inj.mp z)
                          have z_9 : ¬ (r_33 : Int32).toInt = (61 : Int32).toInt := fun z => c_554 (Int32.toInt_inj.mp z)
                          have z_10 : ¬ (r_572 : Int32).toInt = (0 : Int32).toInt := fun z => c_577 (Int32.toInt_inj.mp z)
                          have y_0 : (0 : Int32).toInt = 0 := by decide
                          have y_60 : (60 : Int32).toInt = 60 := by decide
                          have y_61 : (61 : Int32).toInt = 61 := by decide
                          have y_62 : (62 : Int32).toInt = 62 := by decide
                          have y_1 : (1 : Int32).toInt = 1 := by decide
                          have t_x_534 : x_534.toInt = (sv_28 : Int32).toInt + (1 : Int32).toInt := by rw [ex_534]; exact add_toInt (by omega) (by omega)
                          omega
                        have hr_608 : 0 ≤ (sv_7 : Int32).toInt ∧ (sv_7 : Int32).toInt < 60 ∧ (sv_545 : Int32).toInt = (sv_7 : Int32).toInt + 1 := by
                          have z_1 : ¬ (r_13 : Int32).toInt = (0 : Int32).toInt := fun z => c_18 (Int32.toInt_inj.mp z)
                          have z_2 : ¬ (r_33 : Int32).toInt = (60 : Int32).toInt := fun z => c_36 (Int32.toInt_inj.mp z)
                          have z_3 : ¬ (r_33 : Int32).toInt = (61 : Int32).toInt := fun z => c_434 (Int32.toInt_inj.mp z)
                          have z_4 := congrArg Int32.toInt c_533
                          have z_5 : ¬ (r_33 : Int32).toInt = (61 : Int32).toInt := fun z => c_535 (Int32.toInt_inj.mp z)
                          have z_6 := Int32.le_iff_toInt_le.mp c_536
                          have z_7 : ¬ (r_547 : Int32).toInt = (0 : Int32).toInt := fun z => c_552 (Int32.toInt_inj.mp z)
                          have z_8 : ¬ (r_33 : Int32).toInt = (60 : Int32).toInt := fun z => c_553 (Int32.toInt_inj.mp z)
                          have z_9 : ¬ (r_33 : Int32).toInt = (61 : Int32).toInt := fun z => c_554 (Int32.toInt_inj.mp z)
                          have z_10 : ¬ (r_572 : Int32).toInt = (0 : Int32).toInt := fun z => c_577 (Int32.toInt_inj.mp z)
                          have y_0 : (0 : Int32).toInt = 0 := by decide
                          have y_60 : (60 : Int32).toInt = 60 := by decide
                          have y_61 : (61 : Int32).toInt = 61 := by decide
                          have y_62 : (62 : Int32).toInt = 62 := by decide
                          have y_1 : (1 : Int32).toInt = 1 := by decide
                          have t_x_534 : x_534.toInt = (sv_28 : Int32).toInt + (1 : Int32).toInt := by rw [ex_534]; exact add_toInt (by omega) (by omega)
                          omega
                        have hr_609 : (rB (Mf 1) (Mv 0) (sv_28 : Int32).toInt.toNat = 60 ∨ rB (Mf 1) (Mv 0) (sv_28 : Int32).toInt.toNat = 61 ∨ rB (Mf 1) (Mv 0) (sv_28 : Int32).toInt.toNat = 62) := by
                          have z_1 : ¬ (r_13 : Int32).toInt = (0 : Int32).toInt := fun z => c_18 (Int32.toInt_inj.mp z)
                          have z_2 : ¬ (r_33 : Int32).toInt = (60 : Int32).toInt := fun z => c_36 (Int32.toInt_inj.mp z)
                          have z_3 : ¬ (r_33 : Int32).toInt = (61 : Int32).toInt := fun z => c_434 (Int32.toInt_inj.mp z)
                          have z_4 := congrArg Int32.toInt c_533
                          have z_5 : ¬ (r_33 : Int32).toInt = (61 : Int32).toInt := fun z => c_535 (Int32.toInt_inj.mp z)
                          have z_6 := Int32.le_iff_toInt_le.mp c_536
                          have z_7 : ¬ (r_547 : Int32).toInt = (0 : Int32).toInt := fun z => c_552 (Int32.toInt_inj.mp z)
                          have z_8 : ¬ (r_33 : Int32).toInt = (60 : Int32).toInt := fun z => c_553 (Int32.toInt_inj.mp z)
                          have z_9 : ¬ (r_33 : Int32).toInt = (61 : Int32).toInt := fun z => c_554 (Int32.toInt_inj.mp z)
                          have z_10 : ¬ (r_572 : Int32).toInt = (0 : Int32).toInt := fun z => c_577 (Int32.toInt_inj.mp z)
                          have y_0 : (0 : Int32).toInt = 0 := by decide
                          have y_60 : (60 : Int32).toInt = 60 := by decide
                          have y_61 : (61 : Int32).toInt = 61 := by decide
                          have y_62 : (62 : Int32).toInt = 62 := by decide
                          have y_1 : (1 : Int32).toInt = 1 := by decide
                          have t_x_534 : x_534.toInt = (sv_28 : Int32).toInt + (1 : Int32).toInt := by rw [ex_534]; exact add_toInt (by omega) (by omega)
                          omega
                        have rg_610 := rB_rg (n := (Mv 0)) h_bs ((sv_28 : Int32).toInt.toNat + 1)
                        have hr_611 : ((x_534 : Int32).toInt = (sv_28 : Int32).toInt + 1 ∧ ¬ ((rB (Mf 1) (Mv 0) (sv_28 : Int32).toInt.toNat = 60 ∨ rB (Mf 1) (Mv 0) (sv_28 : Int32).toInt.toNat = 62) ∧ rB (Mf 1) (Mv 0) ((sv_28 : Int32).toInt.toNat + 1) = 61)) ∨ ((x_534 : Int32).toInt = (sv_28 : Int32).toInt + 2 ∧ (rB (Mf 1) (Mv 0) (sv_28 : Int32).toInt.toNat = 60 ∨ rB (Mf 1) (Mv 0) (sv_28 : Int32).toInt.toNat = 62) ∧ rB (Mf 1) (Mv 0) ((sv_28 : Int32).toInt.toNat + 1) = 61) := by
                          have z_1 : ¬ (r_13 : Int32).toInt = (0 : Int32).toInt := fun z => c_18 (Int32.toInt_inj.mp z)
                          have z_2 : ¬ (r_33 : Int32).toInt = (60 : Int32).toInt := fun z => c_36 (Int32.toInt_inj.mp z)
                          have z_3 : ¬ (r_33 : Int32).toInt = (61 : Int32).toInt := fun z => c_434 (Int32.toInt_inj.mp z)
                          have z_4 := congrArg Int32.toInt c_533
                          have z_5 : ¬ (r_33 : Int32).toInt = (61 : Int32).toInt := fun z => c_535 (Int32.toInt_inj.mp z)
                          have z_6 := Int32.le_iff_toInt_le.mp c_536
                          have z_7 : ¬ (r_547 : Int32).toInt = (0 : Int32).toInt := fun z => c_552 (Int32.toInt_inj.mp z)
                          have z_8 : ¬ (r_33 : Int32).toInt = (60 : Int32).toInt := fun z => c_553 (Int32.toInt_inj.mp z)
                          have z_9 : ¬ (r_33 : Int32).toInt = (61 : Int32).toInt := fun z => c_554 (Int32.toInt_inj.mp z)
                          have z_10 : ¬ (r_572 : Int32).toInt = (0 : Int32).toInt := fun z => c_577 (Int32.toInt_inj.mp z)
                          have y_0 : (0 : Int32).toInt = 0 := by decide
                          have y_60 : (60 : Int32).toInt = 60 := by decide
                          have y_61 : (61 : Int32).toInt = 61 := by decide
                          have y_62 : (62 : Int32).toInt = 62 := by decide
                          have y_1 : (1 : Int32).toInt = 1 := by decide
                          have t_x_534 : x_534.toInt = (sv_28 : Int32).toInt + (1 : Int32).toInt := by rw [ex_534]; exact add_toInt (by omega) (by omega)
                          omega
                        have hr_612 : (rB (Mf 1) (Mv 0) (sv_28 : Int32).toInt.toNat = 60 ∧ (x_534 : Int32).toInt = (sv_28 : Int32).toInt + 1 ∧ (-11 : Int) = -7) ∨ (rB (Mf 1) (Mv 0) (sv_28 : Int32).toInt.toNat = 60 ∧ (x_534 : Int32).toInt = (sv_28 : Int32).toInt + 2 ∧ (-11 : Int) = -8) ∨ (rB (Mf 1) (Mv 0) (sv_28 : Int32).toInt.toNat = 61 ∧ (-11 : Int) = -9) ∨ (rB (Mf 1) (Mv 0) (sv_28 : Int32).toInt.toNat = 62 ∧ (x_534 : Int32).toInt = (sv_28 : Int32).toInt + 2 ∧ (-11 : Int) = -10) ∨ (rB (Mf 1) (Mv 0) (sv_28 : Int32).toInt.toNat = 62 ∧ (x_534 : Int32).toInt = (sv_28 : Int32).toInt + 1 ∧ (-11 : Int) = -11) := by
                          have z_1 : ¬ (r_13 : Int32).toInt = (0 : Int32).toInt := fun z => c_18 (Int32.toInt_inj.mp z)
                          have z_2 : ¬ (r_33 : Int32).toInt = (60 : Int32).toInt := fun z => c_36 (Int32.toInt_inj.mp z)
                          have z_3 : ¬ (r_33 : Int32).toInt = (61 : Int32).toInt := fun z => c_434 (Int32.toInt_inj.mp z)
                          have z_4 := congrArg Int32.toInt c_533
                          have z_5 : ¬ (r_33 : Int32).toInt = (61 : Int32).toInt := fun z => c_535 (Int32.toInt_inj.mp z)
                          have z_6 := Int32.le_iff_toInt_le.mp c_536
                          have z_7 : ¬ (r_547 : Int32).toInt = (0 : Int32).toInt := fun z => c_552 (Int32.toInt_inj.mp z)
                          have z_8 : ¬ (r_33 : Int32).toInt = (60 : Int32).toInt := fun z => c_553 (Int32.toInt_inj.mp z)
                          have z_9 : ¬ (r_33 : Int32).toInt = (61 : Int32).toInt := fun z => c_554 (Int32.toInt_inj.mp z)
                          have z_10 : ¬ (r_572 : Int32).toInt = (0 : Int32).toInt := fun z => c_577 (Int32.toInt_inj.mp z)
                          have y_0 : (0 : Int32).toInt = 0 := by decide
                          have y_60 : (60 : Int32).toInt = 60 := by decide
                          have y_61 : (61 : Int32).toInt = 61 := by decide
                          have y_62 : (62 : Int32).toInt = 62 := by decide
                          have y_1 : (1 : Int32).toInt = 1 := by decide
                          have t_x_534 : x_534.toInt = (sv_28 : Int32).toInt + (1 : Int32).toInt := by rw [ex_534]; exact add_toInt (by omega) (by omega)
                          omega
                        have hu_613 : SgC sv_591 sv_592 (Mv 5) (((ll ++ lsum (rB (Mf 1) (Mv 0)) (St0 (rB (Mf 1) (Mv 0)) (Mv 2) (Mv 6))) ++ lsum (rB (Mf 1) (Mv 0)) (St0 (rB (Mf 1) (Mv 0)) x_534 sv_545)) ++ [(-11)]) := by
                          rw [← elo_23, ← elo_582, ← elo_597]
                          exact pf_596
                        have hs_614 : SgC sv_591 sv_592 (Mv 5) (ll ++ ec_com (rB (Mf 1) (Mv 0)) (St0 (rB (Mf 1) (Mv 0)) (Mv 2) (Mv 6))) := by
                          rw [com_ls (o := -11) (md1 := sv_545) pf_20 pf_32 hr_609 hr_611 (ec_c_at pf_32 hr_611 hr_612)]
                          exact hu_613
                        exact ⟨pf_593, (RfO.com pf_20 pf_32 hr_605 hr_607 hr_608 pf_579), hs_614⟩
                      exact retI (v := 1) hx hb hr hlk (rfl) hP hD hS (sv_563, sv_564, sv_565, sv_566, sv_591, sv_592) ⟨_, rfl, hp_603, ha_598, ha_599, (Agr.trans (k' := (400 * ((Mv 5) : Int32).toInt + ((Mf 3) (Mv 5).toNatClampNeg).toInt)) (Agr.trans (k' := (400 * ((Mv 5) : Int32).toInt + ((Mf 3) (Mv 5).toNatClampNeg).toInt)) (Agr.mono pf_12 hr_600) pf_571 ⟨Int.le_refl _, hr_601⟩) pf_594 ⟨Int.le_refl _, hr_602⟩), hm_604, (fun h => absurd h (by decide))⟩ [1, 0, 2, 3] rfl rfl dX12_compare_174 (Nat.le_of_ble_eq_true rfl) (Nat.le_of_ble_eq_true rfl) rfl
                    · skip
                      have hz_616 : (r_572 : Int32).toInt = 0 := by
                        have z_1 : ¬ (r_13 : Int32).toInt = (0 : Int32).toInt := fun z => c_18 (Int32.toInt_inj.mp z)
                        have z_2 : ¬ (r_33 : Int32).toInt = (60 : Int32).toInt := fun z => c_36 (Int32.toInt_inj.mp z)
                        have z_3 : ¬ (r_33 : Int32).toInt = (61 : Int32).toInt := fun z => c_434 (Int32.toInt_inj.mp z)
                        have z_4 := congrArg Int32.toInt c_533
                        have z_5 : ¬ (r_33 : Int32).toInt = (61 : Int32).toInt := fun z => c_535 (Int32.toInt_inj.mp z)
                        have z_6 := Int32.le_iff_toInt_le.mp c_536
                        have z_7 : ¬ (r_547 : Int32).toInt = (0 : Int32).toInt := fun z => c_552 (Int32.toInt_inj.mp z)
                        have z_8 : ¬ (r_33 : Int32).toInt = (60 : Int32).toInt := fun z => c_553 (Int32.toInt_inj.mp z)
                        have z_9 : ¬ (r_33 : Int32).toInt = (61 : Int32).toInt := fun z => c_554 (Int32.toInt_inj.mp z)
                        have z_10 := congrArg Int32.toInt c_577
                        have y_0 : (0 : Int32).toInt = 0 := by decide
                        have y_60 : (60 : Int32).toInt = 60 := by decide
                        have y_61 : (61 : Int32).toInt = 61 := by decide
                        have y_62 : (62 : Int32).toInt = 62 := by decide
                        have y_1 : (1 : Int32).toInt = 1 := by decide
                        have t_x_534 : x_534.toInt = (sv_28 : Int32).toInt + (1 : Int32).toInt := by rw [ex_534]; exact add_toInt (by omega) (by omega)
                        omega
                      obtain pf_615 := hm_576 hz_616
                      have pf_615 : RfE (pz_sum (rB (Mf 1) (Mv 0)) (St0 (rB (Mf 1) (Mv 0)) x_534 sv_545)) sv_564 := pf_615
                      refine lv_iconst (v := 0) hx hb dX12_compare_161 (by decide) ?_
                      have ha_617 : ((Mv 2) : Int32).toInt ≤ (sv_563 : Int32).toInt ∧ (sv_563 : Int32).toInt ≤ ((Mv 0) : Int32).toInt := by
                        have z_1 : ¬ (r_13 : Int32).toInt = (0 : Int32).toInt := fun z => c_18 (Int32.toInt_inj.mp z)
                        have z_2 : ¬ (r_33 : Int32).toInt = (60 : Int32).toInt := fun z => c_36 (Int32.toInt_inj.mp z)
                        have z_3 : ¬ (r_33 : Int32).toInt = (61 : Int32).toInt := fun z => c_434 (Int32.toInt_inj.mp z)
                        have z_4 := congrArg Int32.toInt c_533
                        have z_5 : ¬ (r_33 : Int32).toInt = (61 : Int32).toInt := fun z => c_535 (Int32.toInt_inj.mp z)
                        have z_6 := Int32.le_iff_toInt_le.mp c_536
                        have z_7 : ¬ (r_547 : Int32).toInt = (0 : Int32).toInt := fun z => c_552 (Int32.toInt_inj.mp z)
                        have z_8 : ¬ (r_33 : Int32).toInt = (60 : Int32).toInt := fun z => c_553 (Int32.toInt_inj.mp z)
                        have z_9 : ¬ (r_33 : Int32).toInt = (61 : Int32).toInt := fun z => c_554 (Int32.toInt_inj.mp z)
                        have z_10 := congrArg Int32.toInt c_577
                        have y_0 : (0 : Int32).toInt = 0 := by decide
                        have y_60 : (60 : Int32).toInt = 60 := by decide
                        have y_61 : (61 : Int32).toInt = 61 := by decide
                        have y_62 : (62 : Int32).toInt = 62 := by decide
                        have y_1 : (1 : Int32).toInt = 1 := by decide
                        have t_x_534 : x_534.toInt = (sv_28 : Int32).toInt + (1 : Int32).toInt := by rw [ex_534]; exact add_toInt (by omega) (by omega)
                        omega
                      have ha_618 : ((Mv 6) : Int32).toInt ≤ (sv_566 : Int32).toInt ∧ (sv_566 : Int32).toInt ≤ 60 := by
                        have z_1 : ¬ (r_13 : Int32).toInt = (0 : Int32).toInt := fun z => c_18 (Int32.toInt_inj.mp z)
                        have z_2 : ¬ (r_33 : Int32).toInt = (60 : Int32).toInt := fun z => c_36 (Int32.toInt_inj.mp z)
                        have z_3 : ¬ (r_33 : Int32).toInt = (61 : Int32).toInt := fun z => c_434 (Int32.toInt_inj.mp z)
                        have z_4 := congrArg Int32.toInt c_533
                        have z_5 : ¬ (r_33 : Int32).toInt = (61 : Int32).toInt := fun z => c_535 (Int32.toInt_inj.mp z)
                        have z_6 := Int32.le_iff_toInt_le.mp c_536
                        have z_7 : ¬ (r_547 : Int32).toInt = (0 : Int32).toInt := fun z => c_552 (Int32.toInt_inj.mp z)
                        have z_8 : ¬ (r_33 : Int32).toInt = (60 : Int32).toInt := fun z => c_553 (Int32.toInt_inj.mp z)
                        have z_9 : ¬ (r_33 : Int32).toInt = (61 : Int32).toInt := fun z => c_554 (Int32.toInt_inj.mp z)
                        have z_10 := congrArg Int32.toInt c_577
                        have y_0 : (0 : Int32).toInt = 0 := by decide
                        have y_60 : (60 : Int32).toInt = 60 := by decide
                        have y_61 : (61 : Int32).toInt = 61 := by decide
                        have y_62 : (62 : Int32).toInt = 62 := by decide
                        have y_1 : (1 : Int32).toInt = 1 := by decide
                        have t_x_534 : x_534.toInt = (sv_28 : Int32).toInt + (1 : Int32).toInt := by rw [ex_534]; exact add_toInt (by omega) (by omega)
                        omega
                      have hr_619 : (400 * ((Mv 5) : Int32).toInt + ((Mf 3) (Mv 5).toNatClampNeg).toInt) ≤ (400 * ((Mv 5) : Int32).toInt + ((Mf 3) (Mv 5).toNatClampNeg).toInt) := by
                        have z_1 : ¬ (r_13 : Int32).toInt = (0 : Int32).toInt := fun z => c_18 (Int32.toInt_inj.mp z)
                        have z_2 : ¬ (r_33 : Int32).toInt = (60 : Int32).toInt := fun z => c_36 (Int32.toInt_inj.mp z)
                        have z_3 : ¬ (r_33 : Int32).toInt = (61 : Int32).toInt := fun z => c_434 (Int32.toInt_inj.mp z)
                        have z_4 := congrArg Int32.toInt c_533
                        have z_5 : ¬ (r_33 : Int32).toInt = (61 : Int32).toInt := fun z => c_535 (Int32.toInt_inj.mp z)
                        have z_6 := Int32.le_iff_toInt_le.mp c_536
                        have z_7 : ¬ (r_547 : Int32).toInt = (0 : Int32).toInt := fun z => c_552 (Int32.toInt_inj.mp z)
                        have z_8 : ¬ (r_33 : Int32).toInt = (60 : Int32).toInt := fun z => c_553 (Int32.toInt_inj.mp z)
                        have z_9 : ¬ (r_33 : Int32).toInt = (61 : Int32).toInt := fun z => c_554 (Int32.toInt_inj.mp z)
                        have z_10 := congrArg Int32.toInt c_577
                        have y_0 : (0 : Int32).toInt = 0 := by decide
                        have y_60 : (60 : Int32).toInt = 60 := by decide
                        have y_61 : (61 : Int32).toInt = 61 := by decide
                        have y_62 : (62 : Int32).toInt = 62 := by decide
                        have y_1 : (1 : Int32).toInt = 1 := by decide
                        have t_x_534 : x_534.toInt = (sv_28 : Int32).toInt + (1 : Int32).toInt := by rw [ex_534]; exact add_toInt (by omega) (by omega)
                        omega
                      have hr_620 : (400 * ((Mv 5) : Int32).toInt + ((Mf 3) (Mv 5).toNatClampNeg).toInt) ≤ (400 * ((Mv 5) : Int32).toInt + (sv_9 (Mv 5).toNatClampNeg).toInt) := by
                        have z_1 : ¬ (r_13 : Int32).toInt = (0 : Int32).toInt := fun z => c_18 (Int32.toInt_inj.mp z)
                        have z_2 : ¬ (r_33 : Int32).toInt = (60 : Int32).toInt := fun z => c_36 (Int32.toInt_inj.mp z)
                        have z_3 : ¬ (r_33 : Int32).toInt = (61 : Int32).toInt := fun z => c_434 (Int32.toInt_inj.mp z)
                        have z_4 := congrArg Int32.toInt c_533
                        have z_5 : ¬ (r_33 : Int32).toInt = (61 : Int32).toInt := fun z => c_535 (Int32.toInt_inj.mp z)
                        have z_6 := Int32.le_iff_toInt_le.mp c_536
                        have z_7 : ¬ (r_547 : Int32).toInt = (0 : Int32).toInt := fun z => c_552 (Int32.toInt_inj.mp z)
                        have z_8 : ¬ (r_33 : Int32).toInt = (60 : Int32).toInt := fun z => c_553 (Int32.toInt_inj.mp z)
                        have z_9 : ¬ (r_33 : Int32).toInt = (61 : Int32).toInt := fun z => c_554 (Int32.toInt_inj.mp z)
                        have z_10 := congrArg Int32.toInt c_577
                        have y_0 : (0 : Int32).toInt = 0 := by decide
                        have y_60 : (60 : Int32).toInt = 60 := by decide
                        have y_61 : (61 : Int32).toInt = 61 := by decide
                        have y_62 : (62 : Int32).toInt = 62 := by decide
                        have y_1 : (1 : Int32).toInt = 1 := by decide
                        have t_x_534 : x_534.toInt = (sv_28 : Int32).toInt + (1 : Int32).toInt := by rw [ex_534]; exact add_toInt (by omega) (by omega)
                        omega
                      have hp_621 : (((0 : Int32).toInt = 0 ∧ ¬ (sv_564 : Int32).toInt = 0) ∨ ((0 : Int32).toInt = 1 ∧ ((Mf 3) (Mv 5).toNatClampNeg).toInt + 1 ≤ (sv_568 (Mv 5).toNatClampNeg).toInt ∧ (sv_568 (Mv 5).toNatClampNeg).toInt + ((Mv 2) : Int32).toInt ≤ ((Mf 3) (Mv 5).toNatClampNeg).toInt + (sv_563 : Int32).toInt ∧ ((Mv 2) : Int32).toInt + 1 ≤ (sv_563 : Int32).toInt)) := by
                        have z_1 : ¬ (r_13 : Int32).toInt = (0 : Int32).toInt := fun z => c_18 (Int32.toInt_inj.mp z)
                        have z_2 : ¬ (r_33 : Int32).toInt = (60 : Int32).toInt := fun z => c_36 (Int32.toInt_inj.mp z)
                        have z_3 : ¬ (r_33 : Int32).toInt = (61 : Int32).toInt := fun z => c_434 (Int32.toInt_inj.mp z)
                        have z_4 := congrArg Int32.toInt c_533
                        have z_5 : ¬ (r_33 : Int32).toInt = (61 : Int32).toInt := fun z => c_535 (Int32.toInt_inj.mp z)
                        have z_6 := Int32.le_iff_toInt_le.mp c_536
                        have z_7 : ¬ (r_547 : Int32).toInt = (0 : Int32).toInt := fun z => c_552 (Int32.toInt_inj.mp z)
                        have z_8 : ¬ (r_33 : Int32).toInt = (60 : Int32).toInt := fun z => c_553 (Int32.toInt_inj.mp z)
                        have z_9 : ¬ (r_33 : Int32).toInt = (61 : Int32).toInt := fun z => c_554 (Int32.toInt_inj.mp z)
                        have z_10 := congrArg Int32.toInt c_577
                        have y_0 : (0 : Int32).toInt = 0 := by decide
                        have y_60 : (60 : Int32).toInt = 60 := by decide
                        have y_61 : (61 : Int32).toInt = 61 := by decide
                        have y_62 : (62 : Int32).toInt = 62 := by decide
                        have y_1 : (1 : Int32).toInt = 1 := by decide
                        have t_x_534 : x_534.toInt = (sv_28 : Int32).toInt + (1 : Int32).toInt := by rw [ex_534]; exact add_toInt (by omega) (by omega)
                        omega
                      have hm_622 : (0 : Int32).toInt = 0 → (RfE (pz_com (rB (Mf 1) (Mv 0)) (St0 (rB (Mf 1) (Mv 0)) (Mv 2) (Mv 6))) sv_564) := by
                        intro h1r
                        have hr_623 : (rB (Mf 1) (Mv 0) (sv_28 : Int32).toInt.toNat = 60 ∨ rB (Mf 1) (Mv 0) (sv_28 : Int32).toInt.toNat = 61 ∨ rB (Mf 1) (Mv 0) (sv_28 : Int32).toInt.toNat = 62) := by
                          have z_1 : ¬ (r_13 : Int32).toInt = (0 : Int32).toInt := fun z => c_18 (Int32.toInt_inj.mp z)
                          have z_2 : ¬ (r_33 : Int32).toInt = (60 : Int32).toInt := fun z => c_36 (Int32.toInt_inj.mp z)
                          have z_3 : ¬ (r_33 : Int32).toInt = (61 : Int32).toInt := fun z => c_434 (Int32.toInt_inj.mp z)
                          have z_4 := congrArg Int32.toInt c_533
                          have z_5 : ¬ (r_33 : Int32).toInt = (61 : Int32).toInt := fun z => c_535 (Int32.toInt_inj.mp z)
                          have z_6 := Int32.le_iff_toInt_le.mp c_536
                          have z_7 : ¬ (r_547 : Int32).toInt = (0 : Int32).toInt := fun z => c_552 (Int32.toInt_inj.mp z)
                          have z_8 : ¬ (r_33 : Int32).toInt = (60 : Int32).toInt := fun z => c_553 (Int32.toInt_inj.mp z)
                          have z_9 : ¬ (r_33 : Int32).toInt = (61 : Int32).toInt := fun z => c_554 (Int32.toInt_inj.mp z)
                          have z_10 := congrArg Int32.toInt c_577
                          have y_0 : (0 : Int32).toInt = 0 := by decide
                          have y_60 : (60 : Int32).toInt = 60 := by decide
                          have y_61 : (61 : Int32).toInt = 61 := by decide
                          have y_62 : (62 : Int32).toInt = 62 := by decide
                          have y_1 : (1 : Int32).toInt = 1 := by decide
                          have t_x_534 : x_534.toInt = (sv_28 : Int32).toInt + (1 : Int32).toInt := by rw [ex_534]; exact add_toInt (by omega) (by omega)
                          omega
                        have rg_624 := rB_rg (n := (Mv 0)) h_bs ((sv_28 : Int32).toInt.toNat + 1)
                        have hr_625 : ((x_534 : Int32).toInt = (sv_28 : Int32).toInt + 1 ∧ ¬ ((rB (Mf 1) (Mv 0) (sv_28 : Int32).toInt.toNat = 60 ∨ rB (Mf 1) (Mv 0) (sv_28 : Int32).toInt.toNat = 62) ∧ rB (Mf 1) (Mv 0) ((sv_28 : Int32).toInt.toNat + 1) = 61)) ∨ ((x_534 : Int32).toInt = (sv_28 : Int32).toInt + 2 ∧ (rB (Mf 1) (Mv 0) (sv_28 : Int32).toInt.toNat = 60 ∨ rB (Mf 1) (Mv 0) (sv_28 : Int32).toInt.toNat = 62) ∧ rB (Mf 1) (Mv 0) ((sv_28 : Int32).toInt.toNat + 1) = 61) := by
                          have z_1 : ¬ (r_13 : Int32).toInt = (0 : Int32).toInt := fun z => c_18 (Int32.toInt_inj.mp z)
                          have z_2 : ¬ (r_33 : Int32).toInt = (60 : Int32).toInt := fun z => c_36 (Int32.toInt_inj.mp z)
                          have z_3 : ¬ (r_33 : Int32).toInt = (61 : Int32).toInt := fun z => c_434 (Int32.toInt_inj.mp z)
                          have z_4 := congrArg Int32.toInt c_533
                          have z_5 : ¬ (r_33 : Int32).toInt = (61 : Int32).toInt := fun z => c_535 (Int32.toInt_inj.mp z)
                          have z_6 := Int32.le_iff_toInt_le.mp c_536
                          have z_7 : ¬ (r_547 : Int32).toInt = (0 : Int32).toInt := fun z => c_552 (Int32.toInt_inj.mp z)
                          have z_8 : ¬ (r_33 : Int32).toInt = (60 : Int32).toInt := fun z => c_553 (Int32.toInt_inj.mp z)
                          have z_9 : ¬ (r_33 : Int32).toInt = (61 : Int32).toInt := fun z => c_554 (Int32.toInt_inj.mp z)
                          have z_10 := congrArg Int32.toInt c_577
                          have y_0 : (0 : Int32).toInt = 0 := by decide
                          have y_60 : (60 : Int32).toInt = 60 := by decide
                          have y_61 : (61 : Int32).toInt = 61 := by decide
                          have y_62 : (62 : Int32).toInt = 62 := by decide
                          have y_1 : (1 : Int32).toInt = 1 := by decide
                          have t_x_534 : x_534.toInt = (sv_28 : Int32).toInt + (1 : Int32).toInt := by rw [ex_534]; exact add_toInt (by omega) (by omega)
                          omega
                        have hr_626 : 0 ≤ (sv_7 : Int32).toInt ∧ (sv_7 : Int32).toInt < 60 ∧ (sv_545 : Int32).toInt = (sv_7 : Int32).toInt + 1 := by
                          have z_1 : ¬ (r_13 : Int32).toInt = (0 : Int32).toInt := fun z => c_18 (Int32.toInt_inj.mp z)
                          have z_2 : ¬ (r_33 : Int32).toInt = (60 : Int32).toInt := fun z => c_36 (Int32.toInt_inj.mp z)
                          have z_3 : ¬ (r_33 : Int32).toInt = (61 : Int32).toInt := fun z => c_434 (Int32.toInt_inj.mp z)
                          have z_4 := congrArg Int32.toInt c_533
                          have z_5 : ¬ (r_33 : Int32).toInt = (61 : Int32).toInt := fun z => c_535 (Int32.toInt_inj.mp z)
                          have z_6 := Int32.le_iff_toInt_le.mp c_536
                          have z_7 : ¬ (r_547 : Int32).toInt = (0 : Int32).toInt := fun z => c_552 (Int32.toInt_inj.mp z)
                          have z_8 : ¬ (r_33 : Int32).toInt = (60 : Int32).toInt := fun z => c_553 (Int32.toInt_inj.mp z)
                          have z_9 : ¬ (r_33 : Int32).toInt = (61 : Int32).toInt := fun z => c_554 (Int32.toInt_inj.mp z)
                          have z_10 := congrArg Int32.toInt c_577
                          have y_0 : (0 : Int32).toInt = 0 := by decide
                          have y_60 : (60 : Int32).toInt = 60 := by decide
                          have y_61 : (61 : Int32).toInt = 61 := by decide
                          have y_62 : (62 : Int32).toInt = 62 := by decide
                          have y_1 : (1 : Int32).toInt = 1 := by decide
                          have t_x_534 : x_534.toInt = (sv_28 : Int32).toInt + (1 : Int32).toInt := by rw [ex_534]; exact add_toInt (by omega) (by omega)
                          omega
                        exact (RfE.com2 pf_20 pf_32 hr_623 hr_625 hr_626 pf_615)
                      exact retI (v := 0) hx hb hr hlk (rfl) hP hD hS (sv_563, sv_564, sv_565, sv_566, sv_567, sv_568) ⟨_, rfl, hp_621, ha_617, ha_618, (Agr.trans (k' := (400 * ((Mv 5) : Int32).toInt + ((Mf 3) (Mv 5).toNatClampNeg).toInt)) (Agr.mono pf_12 hr_619) pf_571 ⟨Int.le_refl _, hr_620⟩), (fun h => absurd h (by decide)), hm_622⟩ [0, 1, 2, 3] rfl rfl dX12_compare_162 (Nat.le_of_ble_eq_true rfl) (Nat.le_of_ble_eq_true rfl) rfl
                  · skip
                    exfalso
                    have z_1 : ¬ (r_13 : Int32).toInt = (0 : Int32).toInt := fun z => c_18 (Int32.toInt_inj.mp z)
                    have z_2 : ¬ (r_33 : Int32).toInt = (60 : Int32).toInt := fun z => c_36 (Int32.toInt_inj.mp z)
                    have z_3 : ¬ (r_33 : Int32).toInt = (61 : Int32).toInt := fun z => c_434 (Int32.toInt_inj.mp z)
                    have z_4 := congrArg Int32.toInt c_533
                    have z_5 : ¬ (r_33 : Int32).toInt = (61 : Int32).toInt := fun z => c_535 (Int32.toInt_inj.mp z)
                    have z_6 := Int32.le_iff_toInt_le.mp c_536
                    have z_7 : ¬ (r_547 : Int32).toInt = (0 : Int32).toInt := fun z => c_552 (Int32.toInt_inj.mp z)
                    have z_8 : ¬ (r_33 : Int32).toInt = (60 : Int32).toInt := fun z => c_553 (Int32.toInt_inj.mp z)
                    have z_9 := congrArg Int32.toInt c_554
                    have y_0 : (0 : Int32).toInt = 0 := by decide
                    have y_60 : (60 : Int32).toInt = 60 := by decide
                    have y_61 : (61 : Int32).toInt = 61 := by decide
                    have y_62 : (62 : Int32).toInt = 62 := by decide
                    have y_1 : (1 : Int32).toInt = 1 := by decide
                    have t_x_534 : x_534.toInt = (sv_28 : Int32).toInt + (1 : Int32).toInt := by rw [ex_534]; exact add_toInt (by omega) (by omega)
                    omega
                · skip
                  exfalso
                  have z_1 : ¬ (r_13 : Int32).toInt = (0 : Int32).toInt := fun z => c_18 (Int32.toInt_inj.mp z)
                  have z_2 : ¬ (r_33 : Int32).toInt = (60 : Int32).toInt := fun z => c_36 (Int32.toInt_inj.mp z)
                  have z_3 : ¬ (r_33 : Int32).toInt = (61 : Int32).toInt := fun z => c_434 (Int32.toInt_inj.mp z)
                  have z_4 := congrArg Int32.toInt c_533
                  have z_5 : ¬ (r_33 : Int32).toInt = (61 : Int32).toInt := fun z => c_535 (Int32.toInt_inj.mp z)
                  have z_6 := Int32.le_iff_toInt_le.mp c_536
                  have z_7 : ¬ (r_547 : Int32).toInt = (0 : Int32).toInt := fun z => c_552 (Int32.toInt_inj.mp z)
                  have z_8 := congrArg Int32.toInt c_553
                  have y_0 : (0 : Int32).toInt = 0 := by decide
                  have y_60 : (60 : Int32).toInt = 60 := by decide
                  have y_61 : (61 : Int32).toInt = 61 := by decide
                  have y_62 : (62 : Int32).toInt = 62 := by decide
                  have y_1 : (1 : Int32).toInt = 1 := by decide
                  have t_x_534 : x_534.toInt = (sv_28 : Int32).toInt + (1 : Int32).toInt := by rw [ex_534]; exact add_toInt (by omega) (by omega)
                  omega
              · skip
                refine lv_iconst (v := 0) hx hb dX12_compare_113 (by decide) ?_
                have ha_627 : ((Mv 2) : Int32).toInt ≤ (x_534 : Int32).toInt ∧ (x_534 : Int32).toInt ≤ ((Mv 0) : Int32).toInt := by
                  have z_1 : ¬ (r_13 : Int32).toInt = (0 : Int32).toInt := fun z => c_18 (Int32.toInt_inj.mp z)
                  have z_2 : ¬ (r_33 : Int32).toInt = (60 : Int32).toInt := fun z => c_36 (Int32.toInt_inj.mp z)
                  have z_3 : ¬ (r_33 : Int32).toInt = (61 : Int32).toInt := fun z => c_434 (Int32.toInt_inj.mp z)
                  have z_4 := congrArg Int32.toInt c_533
                  have z_5 : ¬ (r_33 : Int32).toInt = (61 : Int32).toInt := fun z => c_535 (Int32.toInt_inj.mp z)
                  have z_6 := Int32.le_iff_toInt_le.mp c_536
                  have z_7 := congrArg Int32.toInt c_552
                  have y_0 : (0 : Int32).toInt = 0 := by decide
                  have y_60 : (60 : Int32).toInt = 60 := by decide
                  have y_61 : (61 : Int32).toInt = 61 := by decide
                  have y_62 : (62 : Int32).toInt = 62 := by decide
                  have y_1 : (1 : Int32).toInt = 1 := by decide
                  have t_x_534 : x_534.toInt = (sv_28 : Int32).toInt + (1 : Int32).toInt := by rw [ex_534]; exact add_toInt (by omega) (by omega)
                  omega
                have ha_628 : ((Mv 6) : Int32).toInt ≤ (sv_545 : Int32).toInt ∧ (sv_545 : Int32).toInt ≤ 60 := by
                  have z_1 : ¬ (r_13 : Int32).toInt = (0 : Int32).toInt := fun z => c_18 (Int32.toInt_inj.mp z)
                  have z_2 : ¬ (r_33 : Int32).toInt = (60 : Int32).toInt := fun z => c_36 (Int32.toInt_inj.mp z)
                  have z_3 : ¬ (r_33 : Int32).toInt = (61 : Int32).toInt := fun z => c_434 (Int32.toInt_inj.mp z)
                  have z_4 := congrArg Int32.toInt c_533
                  have z_5 : ¬ (r_33 : Int32).toInt = (61 : Int32).toInt := fun z => c_535 (Int32.toInt_inj.mp z)
                  have z_6 := Int32.le_iff_toInt_le.mp c_536
                  have z_7 := congrArg Int32.toInt c_552
                  have y_0 : (0 : Int32).toInt = 0 := by decide
                  have y_60 : (60 : Int32).toInt = 60 := by decide
                  have y_61 : (61 : Int32).toInt = 61 := by decide
                  have y_62 : (62 : Int32).toInt = 62 := by decide
                  have y_1 : (1 : Int32).toInt = 1 := by decide
                  have t_x_534 : x_534.toInt = (sv_28 : Int32).toInt + (1 : Int32).toInt := by rw [ex_534]; exact add_toInt (by omega) (by omega)
                  omega
                have hp_629 : (((0 : Int32).toInt = 0 ∧ ¬ (sv_544 : Int32).toInt = 0) ∨ ((0 : Int32).toInt = 1 ∧ ((Mf 3) (Mv 5).toNatClampNeg).toInt + 1 ≤ (sv_9 (Mv 5).toNatClampNeg).toInt ∧ (sv_9 (Mv 5).toNatClampNeg).toInt + ((Mv 2) : Int32).toInt ≤ ((Mf 3) (Mv 5).toNatClampNeg).toInt + (x_534 : Int32).toInt ∧ ((Mv 2) : Int32).toInt + 1 ≤ (x_534 : Int32).toInt)) := by
                  have z_1 : ¬ (r_13 : Int32).toInt = (0 : Int32).toInt := fun z => c_18 (Int32.toInt_inj.mp z)
                  have z_2 : ¬ (r_33 : Int32).toInt = (60 : Int32).toInt := fun z => c_36 (Int32.toInt_inj.mp z)
                  have z_3 : ¬ (r_33 : Int32).toInt = (61 : Int32).toInt := fun z => c_434 (Int32.toInt_inj.mp z)
                  have z_4 := congrArg Int32.toInt c_533
                  have z_5 : ¬ (r_33 : Int32).toInt = (61 : Int32).toInt := fun z => c_535 (Int32.toInt_inj.mp z)
                  have z_6 := Int32.le_iff_toInt_le.mp c_536
                  have z_7 := congrArg Int32.toInt c_552
                  have y_0 : (0 : Int32).toInt = 0 := by decide
                  have y_60 : (60 : Int32).toInt = 60 := by decide
                  have y_61 : (61 : Int32).toInt = 61 := by decide
                  have y_62 : (62 : Int32).toInt = 62 := by decide
                  have y_1 : (1 : Int32).toInt = 1 := by decide
                  have t_x_534 : x_534.toInt = (sv_28 : Int32).toInt + (1 : Int32).toInt := by rw [ex_534]; exact add_toInt (by omega) (by omega)
                  omega
                have hm_630 : (0 : Int32).toInt = 0 → (RfE (pz_com (rB (Mf 1) (Mv 0)) (St0 (rB (Mf 1) (Mv 0)) (Mv 2) (Mv 6))) sv_544) := by
                  intro h1r
                  have hr_631 : (rB (Mf 1) (Mv 0) (sv_28 : Int32).toInt.toNat = 60 ∨ rB (Mf 1) (Mv 0) (sv_28 : Int32).toInt.toNat = 61 ∨ rB (Mf 1) (Mv 0) (sv_28 : Int32).toInt.toNat = 62) := by
                    have z_1 : ¬ (r_13 : Int32).toInt = (0 : Int32).toInt := fun z => c_18 (Int32.toInt_inj.mp z)
                    have z_2 : ¬ (r_33 : Int32).toInt = (60 : Int32).toInt := fun z => c_36 (Int32.toInt_inj.mp z)
                    have z_3 : ¬ (r_33 : Int32).toInt = (61 : Int32).toInt := fun z => c_434 (Int32.toInt_inj.mp z)
                    have z_4 := congrArg Int32.toInt c_533
                    have z_5 : ¬ (r_33 : Int32).toInt = (61 : Int32).toInt := fun z => c_535 (Int32.toInt_inj.mp z)
                    have z_6 := Int32.le_iff_toInt_le.mp c_536
                    have z_7 := congrArg Int32.toInt c_552
                    have y_0 : (0 : Int32).toInt = 0 := by decide
                    have y_60 : (60 : Int32).toInt = 60 := by decide
                    have y_61 : (61 : Int32).toInt = 61 := by decide
                    have y_62 : (62 : Int32).toInt = 62 := by decide
                    have y_1 : (1 : Int32).toInt = 1 := by decide
                    have t_x_534 : x_534.toInt = (sv_28 : Int32).toInt + (1 : Int32).toInt := by rw [ex_534]; exact add_toInt (by omega) (by omega)
                    omega
                  have hr_632 : 60 ≤ (sv_7 : Int32).toInt := by
                    have z_1 : ¬ (r_13 : Int32).toInt = (0 : Int32).toInt := fun z => c_18 (Int32.toInt_inj.mp z)
                    have z_2 : ¬ (r_33 : Int32).toInt = (60 : Int32).toInt := fun z => c_36 (Int32.toInt_inj.mp z)
                    have z_3 : ¬ (r_33 : Int32).toInt = (61 : Int32).toInt := fun z => c_434 (Int32.toInt_inj.mp z)
                    have z_4 := congrArg Int32.toInt c_533
                    have z_5 : ¬ (r_33 : Int32).toInt = (61 : Int32).toInt := fun z => c_535 (Int32.toInt_inj.mp z)
                    have z_6 := Int32.le_iff_toInt_le.mp c_536
                    have z_7 := congrArg Int32.toInt c_552
                    have y_0 : (0 : Int32).toInt = 0 := by decide
                    have y_60 : (60 : Int32).toInt = 60 := by decide
                    have y_61 : (61 : Int32).toInt = 61 := by decide
                    have y_62 : (62 : Int32).toInt = 62 := by decide
                    have y_1 : (1 : Int32).toInt = 1 := by decide
                    have t_x_534 : x_534.toInt = (sv_28 : Int32).toInt + (1 : Int32).toInt := by rw [ex_534]; exact add_toInt (by omega) (by omega)
                    omega
                  have hi_633 : (sv_544 : Int32).toInt = 1 + 8 * (sv_28 : Int32).toInt + 3 := by
                    have z_1 : ¬ (r_13 : Int32).toInt = (0 : Int32).toInt := fun z => c_18 (Int32.toInt_inj.mp z)
                    have z_2 : ¬ (r_33 : Int32).toInt = (60 : Int32).toInt := fun z => c_36 (Int32.toInt_inj.mp z)
                    have z_3 : ¬ (r_33 : Int32).toInt = (61 : Int32).toInt := fun z => c_434 (Int32.toInt_inj.mp z)
                    have z_4 := congrArg Int32.toInt c_533
                    have z_5 : ¬ (r_33 : Int32).toInt = (61 : Int32).toInt := fun z => c_535 (Int32.toInt_inj.mp z)
                    have z_6 := Int32.le_iff_toInt_le.mp c_536
                    have z_7 := congrArg Int32.toInt c_552
                    have y_0 : (0 : Int32).toInt = 0 := by decide
                    have y_60 : (60 : Int32).toInt = 60 := by decide
                    have y_61 : (61 : Int32).toInt = 61 := by decide
                    have y_62 : (62 : Int32).toInt = 62 := by decide
                    have y_1 : (1 : Int32).toInt = 1 := by decide
                    have t_x_534 : x_534.toInt = (sv_28 : Int32).toInt + (1 : Int32).toInt := by rw [ex_534]; exact add_toInt (by omega) (by omega)
                    omega
                  exact (RfE.com3 pf_20 pf_32 hr_631 hr_632 hi_633)
                exact retI (v := 0) hx hb hr hlk (rfl) hP hD hS (x_534, sv_544, sv_6, sv_545, sv_8, sv_9) ⟨_, rfl, hp_629, ha_627, ha_628, pf_12, (fun h => absurd h (by decide)), hm_630⟩ [3, 2, 0, 1] rfl rfl dX12_compare_114 (Nat.le_of_ble_eq_true rfl) (Nat.le_of_ble_eq_true rfl) rfl
            · skip
              refine lv_aload_n hx hb dX12_compare_71 rfl (lv_at hl 2 rfl) ?_
              refine gf_X12_7 hx hb hts hown hK hP 2 rfl rfl dX12_compare_72 ?_
              refine lv_aload_n hx hb dX12_compare_75 rfl (lv_at hl 2 rfl) ?_
              refine gf_X12_87 hx hb hts hown hK hP 2 rfl rfl dX12_compare_76 ?_
              have hi_634 : vp_in x_534 400 := by
                have z_1 : ¬ (r_13 : Int32).toInt = (0 : Int32).toInt := fun z => c_18 (Int32.toInt_inj.mp z)
                have z_2 : ¬ (r_33 : Int32).toInt = (60 : Int32).toInt := fun z => c_36 (Int32.toInt_inj.mp z)
                have z_3 : ¬ (r_33 : Int32).toInt = (61 : Int32).toInt := fun z => c_434 (Int32.toInt_inj.mp z)
                have z_4 := congrArg Int32.toInt c_533
                have z_5 : ¬ (r_33 : Int32).toInt = (61 : Int32).toInt := fun z => c_535 (Int32.toInt_inj.mp z)
                have z_6 := Int32.lt_iff_toInt_lt.mp (Int32.not_le.mp c_536)
                have y_0 : (0 : Int32).toInt = 0 := by decide
                have y_60 : (60 : Int32).toInt = 60 := by decide
                have y_61 : (61 : Int32).toInt = 61 := by decide
                have y_62 : (62 : Int32).toInt = 62 := by decide
                have y_1 : (1 : Int32).toInt = 1 := by decide
                have t_x_534 : x_534.toInt = (sv_28 : Int32).toInt + (1 : Int32).toInt := by rw [ex_534]; exact add_toInt (by omega) (by omega)
                refine vp_in_iff.mpr ⟨?_, ?_⟩ <;> omega
              refine va_bald hx hb hK hP 3 2 rfl rfl hi_634 dX12_compare_79 ?_
              refine lv_topi (fun x_635 ex_635 => ?_)
              have kx_635 : x_635.toInt = ((Mf 1) (x_534 : Int32).toInt.toNat).toInt := congrArg Int32.toInt ex_635
              have kcx_635 : x_635.toInt = ((Mf 1) (x_534 : Int32).toNatClampNeg).toInt := congrArg Int32.toInt ex_635
              refine lv_bipush (v := 61) hx hb dX12_compare_80 (by decide) ?_
              refine lv_icmp_ne (tgt := 89) hx hb dX12_compare_82 (by decide) (fun c_636 => ?_) (fun c_636 => ?_)
              · skip
                refine lv_iconst (v := 0) hx hb dX12_compare_89 (by decide) ?_
                refine lv_istore_n (lv' := [(3, .int 0), (2, .int sv_28), (1, .int r_33), (0, .ref (Ma 0))]) hx hb dX12_compare_90 rfl hl (by decide) rfl (fun ls hl₀ => ?_)
                replace hl := hl₀
                clear hl₀
                refine lv_iload_n hx hb dX12_compare_91 rfl (lv_at hl 0 rfl) ?_
                refine lv_if_eq (tgt := 105) hx hb dX12_compare_92 (by decide) (fun c_637 => ?_) (fun c_637 => absurd c_637 (by decide))
                refine lv_aload_n hx hb dX12_compare_105 rfl (lv_at hl 3 rfl) ?_
                refine lv_iload_n hx hb dX12_compare_106 rfl (lv_at hl 1 rfl) ?_
                have ha_638 : 0 ≤ sv_28.toInt ∧ sv_28.toInt ≤ 400 := by
                  have z_1 : ¬ (r_13 : Int32).toInt = (0 : Int32).toInt := fun z => c_18 (Int32.toInt_inj.mp z)
                  have z_2 : ¬ (r_33 : Int32).toInt = (60 : Int32).toInt := fun z => c_36 (Int32.toInt_inj.mp z)
                  have z_3 : ¬ (r_33 : Int32).toInt = (61 : Int32).toInt := fun z => c_434 (Int32.toInt_inj.mp z)
                  have z_4 := congrArg Int32.toInt c_533
                  have z_5 : ¬ (r_33 : Int32).toInt = (61 : Int32).toInt := fun z => c_535 (Int32.toInt_inj.mp z)
                  have z_6 := Int32.lt_iff_toInt_lt.mp (Int32.not_le.mp c_536)
                  have z_7 : ¬ (x_635 : Int32).toInt = (61 : Int32).toInt := fun z => c_636 (Int32.toInt_inj.mp z)
                  have y_0 : (0 : Int32).toInt = 0 := by decide
                  have y_60 : (60 : Int32).toInt = 60 := by decide
                  have y_61 : (61 : Int32).toInt = 61 := by decide
                  have y_62 : (62 : Int32).toInt = 62 := by decide
                  have y_1 : (1 : Int32).toInt = 1 := by decide
                  have t_x_534 : x_534.toInt = (sv_28 : Int32).toInt + (1 : Int32).toInt := by rw [ex_534]; exact add_toInt (by omega) (by omega)
                  omega
                have ha_639 : 0 ≤ (sv_7 : Int32).toInt ∧ (sv_7 : Int32).toInt ≤ 60 := by
                  have z_1 : ¬ (r_13 : Int32).toInt = (0 : Int32).toInt := fun z => c_18 (Int32.toInt_inj.mp z)
                  have z_2 : ¬ (r_33 : Int32).toInt = (60 : Int32).toInt := fun z => c_36 (Int32.toInt_inj.mp z)
                  have z_3 : ¬ (r_33 : Int32).toInt = (61 : Int32).toInt := fun z => c_434 (Int32.toInt_inj.mp z)
                  have z_4 := congrArg Int32.toInt c_533
                  have z_5 : ¬ (r_33 : Int32).toInt = (61 : Int32).toInt := fun z => c_535 (Int32.toInt_inj.mp z)
                  have z_6 := Int32.lt_iff_toInt_lt.mp (Int32.not_le.mp c_536)
                  have z_7 : ¬ (x_635 : Int32).toInt = (61 : Int32).toInt := fun z => c_636 (Int32.toInt_inj.mp z)
                  have y_0 : (0 : Int32).toInt = 0 := by decide
                  have y_60 : (60 : Int32).toInt = 60 := by decide
                  have y_61 : (61 : Int32).toInt = 61 := by decide
                  have y_62 : (62 : Int32).toInt = 62 := by decide
                  have y_1 : (1 : Int32).toInt = 1 := by decide
                  have t_x_534 : x_534.toInt = (sv_28 : Int32).toInt + (1 : Int32).toInt := by rw [ex_534]; exact add_toInt (by omega) (by omega)
                  omega
                have ha_640 : (sv_5 : Int32).toInt = 0 := by
                  have z_1 : ¬ (r_13 : Int32).toInt = (0 : Int32).toInt := fun z => c_18 (Int32.toInt_inj.mp z)
                  have z_2 : ¬ (r_33 : Int32).toInt = (60 : Int32).toInt := fun z => c_36 (Int32.toInt_inj.mp z)
                  have z_3 : ¬ (r_33 : Int32).toInt = (61 : Int32).toInt := fun z => c_434 (Int32.toInt_inj.mp z)
                  have z_4 := congrArg Int32.toInt c_533
                  have z_5 : ¬ (r_33 : Int32).toInt = (61 : Int32).toInt := fun z => c_535 (Int32.toInt_inj.mp z)
                  have z_6 := Int32.lt_iff_toInt_lt.mp (Int32.not_le.mp c_536)
                  have z_7 : ¬ (x_635 : Int32).toInt = (61 : Int32).toInt := fun z => c_636 (Int32.toInt_inj.mp z)
                  have y_0 : (0 : Int32).toInt = 0 := by decide
                  have y_60 : (60 : Int32).toInt = 60 := by decide
                  have y_61 : (61 : Int32).toInt = 61 := by decide
                  have y_62 : (62 : Int32).toInt = 62 := by decide
                  have y_1 : (1 : Int32).toInt = 1 := by decide
                  have t_x_534 : x_534.toInt = (sv_28 : Int32).toInt + (1 : Int32).toInt := by rw [ex_534]; exact add_toInt (by omega) (by omega)
                  omega
                refine cV (a := (Ma 0)) (As := [.int sv_28]) (rest := []) (wr := [((Ma 2), .inl (tc 0, 2400, .inl sv_8)), ((Ma 3), .inl (tc 0, 7, .inl sv_9)), ((Ma 1), .inl (tc 2, 400, .inl (Mf 1)))]) ⟨hx, hb, hml, hown, hts⟩ hK hX hA (cu_fX12_makes l D tc sk (Ma 0) (Ma 1) (Ma 2) (Ma 3) (Ma 4) (Ma 5) (Ma 6) (Ma 7) (Ma 8) (Ma 9) (Ma 10) (Ma 11) (Ma 12) (Ma 13) (Ma 14) (Ma 15) (Ma 16) (Ma 17) (Ma 18) (Ma 19) (Ma 20) (Mv 0) (Mv 1) x_534 sv_5 sv_6 (Mv 5) sv_7 (Mv 7) (Mv 8) (Mv 9) (Mv 10) (Mv 11) (Mv 12) (Mv 13) (Mv 14) (Mj 0) sv_28 ha_638 ha_639 ha_640) k_1292 k_1289 k_1291 k_45 k_106 pl_X12_makes ⟨Nat.le_of_ble_eq_true rfl, Nat.le_of_ble_eq_true rfl⟩ rfl rfl (va_recv hK hP (ci := 12) (q0 := 2) rfl rfl) hP hD hS [2] [0, 1, 3] rfl rfl rfl rfl rfl (by decide) rfl hl.1 rfl (Nat.le_of_ble_eq_true rfl) dX12_compare_107 ⟨Nat.le_of_ble_eq_true rfl, Nat.le_of_ble_eq_true rfl⟩ (fun v_641 u_642 H locs hv_643 hP₀ hD₀ hS₀ => ?_)
                obtain ⟨sv_644, sv_645⟩ := u_642
                obtain ⟨r_647, rfl, he_648, pf_646⟩ := hv_643
                have he_648 : ((r_647.toInt = 0 ∧ ¬ (sv_644 : Int32).toInt = 0 ∧ sv_7.toInt = 60 ∧ (sv_644 : Int32).toInt = 1 + 8 * sv_28.toInt + 3) ∨ (r_647.toInt = 1 ∧ (sv_645 : Int32).toInt = sv_7.toInt + 1 ∧ sv_7.toInt < 60 ∧ (sv_644 : Int32).toInt = 0)) := he_648
                have pf_646 : (sv_7 : Int32).toInt ≤ (sv_645 : Int32).toInt ∧ (sv_645 : Int32).toInt ≤ 60 := pf_646
                refine W.eq (g2 := F0 m 110 ls [.int r_647]) rfl ?_
                replace hP : va_P D classes [((Ma 2), .inl (tc 0, 2400, .inl sv_8)), ((Ma 3), .inl (tc 0, 7, .inl sv_9)), ((Ma 1), .inl (tc 2, 400, .inl (Mf 1))), ((Ma 0), .inr (12, [.ref (Ma 1), .int (Mv 0), .int (Mv 1), .ref (Ma 2), .ref (Ma 3), .ref (Ma 4), .ref (Ma 5), .ref (Ma 6), .int x_534, .int sv_644, .int sv_6, .int (Mv 5), .int sv_645, .int (Mv 7), .int (Mv 8), .ref (Ma 7), .int (Mv 9), .ref (Ma 8), .int (Mv 10), .ref (Ma 9), .ref (Ma 10), .int (Mv 11), .int (Mv 12), .int (Mv 13), .ref (Ma 11), .int (Mv 14), .ref (Ma 12), .ref (Ma 13), .ref (Ma 14), .ref (Ma 15), .ref (Ma 16), .long (Mj 0), .ref (Ma 17), .ref (Ma 18), .ref (Ma 19), .ref (Ma 20)]))] H := hP₀
                replace hD : va_D A [((Ma 2), .inl (tc 0, 2400, .inl sv_8)), ((Ma 3), .inl (tc 0, 7, .inl sv_9)), ((Ma 1), .inl (tc 2, 400, .inl (Mf 1))), ((Ma 0), .inr (12, [.ref (Ma 1), .int (Mv 0), .int (Mv 1), .ref (Ma 2), .ref (Ma 3), .ref (Ma 4), .ref (Ma 5), .ref (Ma 6), .int x_534, .int sv_644, .int sv_6, .int (Mv 5), .int sv_645, .int (Mv 7), .int (Mv 8), .ref (Ma 7), .int (Mv 9), .ref (Ma 8), .int (Mv 10), .ref (Ma 9), .ref (Ma 10), .int (Mv 11), .int (Mv 12), .int (Mv 13), .ref (Ma 11), .int (Mv 14), .ref (Ma 12), .ref (Ma 13), .ref (Ma 14), .ref (Ma 15), .ref (Ma 16), .long (Mj 0), .ref (Ma 17), .ref (Ma 18), .ref (Ma 19), .ref (Ma 20)]))] := hD₀
                replace hS := hS₀
                clear hP₀ hD₀ hS₀
                have hr_651 : (sv_7 : Int32).toInt ≤ (sv_645 : Int32).toInt ∧ (sv_645 : Int32).toInt ≤ 60 := by
                  have z_1 : ¬ (r_13 : Int32).toInt = (0 : Int32).toInt := fun z => c_18 (Int32.toInt_inj.mp z)
                  have z_2 : ¬ (r_33 : Int32).toInt = (60 : Int32).toInt := fun z => c_36 (Int32.toInt_inj.mp z)
                  have z_3 : ¬ (r_33 : Int32).toInt = (61 : Int32).toInt := fun z => c_434 (Int32.toInt_inj.mp z)
                  have z_4 := congrArg Int32.toInt c_533
                  have z_5 : ¬ (r_33 : Int32).toInt = (61 : Int32).toInt := fun z => c_535 (Int32.toInt_inj.mp z)
                  have z_6 := Int32.lt_iff_toInt_lt.mp (Int32.not_le.mp c_536)
                  have z_7 : ¬ (x_635 : Int32).toInt = (61 : Int32).toInt := fun z => c_636 (Int32.toInt_inj.mp z)
                  have y_0 : (0 : Int32).toInt = 0 := by decide
                  have y_60 : (60 : Int32).toInt = 60 := by decide
                  have y_61 : (61 : Int32).toInt = 61 := by decide
                  have y_62 : (62 : Int32).toInt = 62 := by decide
                  have y_1 : (1 : Int32).toInt = 1 := by decide
                  have t_x_534 : x_534.toInt = (sv_28 : Int32).toInt + (1 : Int32).toInt := by rw [ex_534]; exact add_toInt (by omega) (by omega)
                  omega
                have pf_650 : Cd sv_8 sv_9 (Mv 5) b sv_645 (d + 1) := Cd.mono pf_19 hr_651
                have ar_pf_650 := Cd.ar pf_650
                refine lv_if_ne (tgt := 115) hx hb dX12_compare_110 (by decide) (fun c_652 => ?_) (fun c_652 => ?_)
                · skip
                  refine lv_iload_n hx hb dX12_compare_115 rfl (lv_at hl 2 rfl) ?_
                  refine lv_bipush (v := 60) hx hb dX12_compare_116 (by decide) ?_
                  refine lv_icmp_ne (tgt := 133) hx hb dX12_compare_118 (by decide) (fun c_653 => ?_) (fun c_653 => ?_)
                  · skip
                    refine lv_iload_n hx hb dX12_compare_133 rfl (lv_at hl 2 rfl) ?_
                    refine lv_bipush (v := 61) hx hb dX12_compare_134 (by decide) ?_
                    refine lv_icmp_ne (tgt := 143) hx hb dX12_compare_136 (by decide) (fun c_654 => ?_) (fun c_654 => ?_)
                    · skip
                      refine lv_iload_n hx hb dX12_compare_143 rfl (lv_at hl 0 rfl) ?_
                      refine lv_if_eq (tgt := 151) hx hb dX12_compare_144 (by decide) (fun c_655 => ?_) (fun c_655 => absurd c_655 (by decide))
                      refine lv_iconst (v := 4) hx hb dX12_compare_151 (by decide) ?_
                      refine lv_istore (lv' := [(4, .int 4), (3, .int 0), (2, .int sv_28), (1, .int r_33), (0, .ref (Ma 0))]) hx hb dX12_compare_152 hl (by decide) rfl (fun ls hl₀ => ?_)
                      replace hl := hl₀
                      clear hl₀
                      refine lv_aload_n hx hb dX12_compare_154 rfl (lv_at hl 4 rfl) ?_
                      have ha_656 : 0 ≤ (x_534 : Int32).toInt ∧ (x_534 : Int32).toInt ≤ ((Mv 0) : Int32).toInt ∧ ((Mv 0) : Int32).toInt ≤ 400 := by
                        have z_1 : ¬ (r_13 : Int32).toInt = (0 : Int32).toInt := fun z => c_18 (Int32.toInt_inj.mp z)
                        have z_2 : ¬ (r_33 : Int32).toInt = (60 : Int32).toInt := fun z => c_36 (Int32.toInt_inj.mp z)
                        have z_3 : ¬ (r_33 : Int32).toInt = (61 : Int32).toInt := fun z => c_434 (Int32.toInt_inj.mp z)
                        have z_4 := congrArg Int32.toInt c_533
                        have z_5 : ¬ (r_33 : Int32).toInt = (61 : Int32).toInt := fun z => c_535 (Int32.toInt_inj.mp z)
                        have z_6 := Int32.lt_iff_toInt_lt.mp (Int32.not_le.mp c_536)
                        have z_7 : ¬ (x_635 : Int32).toInt = (61 : Int32).toInt := fun z => c_636 (Int32.toInt_inj.mp z)
                        have z_8 : ¬ (r_647 : Int32).toInt = (0 : Int32).toInt := fun z => c_652 (Int32.toInt_inj.mp z)
                        have z_9 : ¬ (r_33 : Int32).toInt = (60 : Int32).toInt := fun z => c_653 (Int32.toInt_inj.mp z)
                        have z_10 : ¬ (r_33 : Int32).toInt = (61 : Int32).toInt := fun z => c_654 (Int32.toInt_inj.mp z)
                        have y_0 : (0 : Int32).toInt = 0 := by decide
                        have y_60 : (60 : Int32).toInt = 60 := by decide
                        have y_61 : (61 : Int32).toInt = 61 := by decide
                        have y_62 : (62 : Int32).toInt = 62 := by decide
                        have y_1 : (1 : Int32).toInt = 1 := by decide
                        have t_x_534 : x_534.toInt = (sv_28 : Int32).toInt + (1 : Int32).toInt := by rw [ex_534]; exact add_toInt (by omega) (by omega)
                        omega
                      have ha_657 : (sv_9 (Mv 5).toNatClampNeg).toInt ≤ (x_534 : Int32).toInt := by
                        have z_1 : ¬ (r_13 : Int32).toInt = (0 : Int32).toInt := fun z => c_18 (Int32.toInt_inj.mp z)
                        have z_2 : ¬ (r_33 : Int32).toInt = (60 : Int32).toInt := fun z => c_36 (Int32.toInt_inj.mp z)
                        have z_3 : ¬ (r_33 : Int32).toInt = (61 : Int32).toInt := fun z => c_434 (Int32.toInt_inj.mp z)
                        have z_4 := congrArg Int32.toInt c_533
                        have z_5 : ¬ (r_33 : Int32).toInt = (61 : Int32).toInt := fun z => c_535 (Int32.toInt_inj.mp z)
                        have z_6 := Int32.lt_iff_toInt_lt.mp (Int32.not_le.mp c_536)
                        have z_7 : ¬ (x_635 : Int32).toInt = (61 : Int32).toInt := fun z => c_636 (Int32.toInt_inj.mp z)
                        have z_8 : ¬ (r_647 : Int32).toInt = (0 : Int32).toInt := fun z => c_652 (Int32.toInt_inj.mp z)
                        have z_9 : ¬ (r_33 : Int32).toInt = (60 : Int32).toInt := fun z => c_653 (Int32.toInt_inj.mp z)
                        have z_10 : ¬ (r_33 : Int32).toInt = (61 : Int32).toInt := fun z => c_654 (Int32.toInt_inj.mp z)
                        have y_0 : (0 : Int32).toInt = 0 := by decide
                        have y_60 : (60 : Int32).toInt = 60 := by decide
                        have y_61 : (61 : Int32).toInt = 61 := by decide
                        have y_62 : (62 : Int32).toInt = 62 := by decide
                        have y_1 : (1 : Int32).toInt = 1 := by decide
                        have t_x_534 : x_534.toInt = (sv_28 : Int32).toInt + (1 : Int32).toInt := by rw [ex_534]; exact add_toInt (by omega) (by omega)
                        omega
                      have ha_658 : 0 ≤ (sv_645 : Int32).toInt ∧ (sv_645 : Int32).toInt ≤ 60 := by
                        have z_1 : ¬ (r_13 : Int32).toInt = (0 : Int32).toInt := fun z => c_18 (Int32.toInt_inj.mp z)
                        have z_2 : ¬ (r_33 : Int32).toInt = (60 : Int32).toInt := fun z => c_36 (Int32.toInt_inj.mp z)
                        have z_3 : ¬ (r_33 : Int32).toInt = (61 : Int32).toInt := fun z => c_434 (Int32.toInt_inj.mp z)
                        have z_4 := congrArg Int32.toInt c_533
                        have z_5 : ¬ (r_33 : Int32).toInt = (61 : Int32).toInt := fun z => c_535 (Int32.toInt_inj.mp z)
                        have z_6 := Int32.lt_iff_toInt_lt.mp (Int32.not_le.mp c_536)
                        have z_7 : ¬ (x_635 : Int32).toInt = (61 : Int32).toInt := fun z => c_636 (Int32.toInt_inj.mp z)
                        have z_8 : ¬ (r_647 : Int32).toInt = (0 : Int32).toInt := fun z => c_652 (Int32.toInt_inj.mp z)
                        have z_9 : ¬ (r_33 : Int32).toInt = (60 : Int32).toInt := fun z => c_653 (Int32.toInt_inj.mp z)
                        have z_10 : ¬ (r_33 : Int32).toInt = (61 : Int32).toInt := fun z => c_654 (Int32.toInt_inj.mp z)
                        have y_0 : (0 : Int32).toInt = 0 := by decide
                        have y_60 : (60 : Int32).toInt = 60 := by decide
                        have y_61 : (61 : Int32).toInt = 61 := by decide
                        have y_62 : (62 : Int32).toInt = 62 := by decide
                        have y_1 : (1 : Int32).toInt = 1 := by decide
                        have t_x_534 : x_534.toInt = (sv_28 : Int32).toInt + (1 : Int32).toInt := by rw [ex_534]; exact add_toInt (by omega) (by omega)
                        omega
                      have ha_659 : (sv_644 : Int32).toInt = 0 := by
                        have z_1 : ¬ (r_13 : Int32).toInt = (0 : Int32).toInt := fun z => c_18 (Int32.toInt_inj.mp z)
                        have z_2 : ¬ (r_33 : Int32).toInt = (60 : Int32).toInt := fun z => c_36 (Int32.toInt_inj.mp z)
                        have z_3 : ¬ (r_33 : Int32).toInt = (61 : Int32).toInt := fun z => c_434 (Int32.toInt_inj.mp z)
                        have z_4 := congrArg Int32.toInt c_533
                        have z_5 : ¬ (r_33 : Int32).toInt = (61 : Int32).toInt := fun z => c_535 (Int32.toInt_inj.mp z)
                        have z_6 := Int32.lt_iff_toInt_lt.mp (Int32.not_le.mp c_536)
                        have z_7 : ¬ (x_635 : Int32).toInt = (61 : Int32).toInt := fun z => c_636 (Int32.toInt_inj.mp z)
                        have z_8 : ¬ (r_647 : Int32).toInt = (0 : Int32).toInt := fun z => c_652 (Int32.toInt_inj.mp z)
                        have z_9 : ¬ (r_33 : Int32).toInt = (60 : Int32).toInt := fun z => c_653 (Int32.toInt_inj.mp z)
                        have z_10 : ¬ (r_33 : Int32).toInt = (61 : Int32).toInt := fun z => c_654 (Int32.toInt_inj.mp z)
                        have y_0 : (0 : Int32).toInt = 0 := by decide
                        have y_60 : (60 : Int32).toInt = 60 := by decide
                        have y_61 : (61 : Int32).toInt = 61 := by decide
                        have y_62 : (62 : Int32).toInt = 62 := by decide
                        have y_1 : (1 : Int32).toInt = 1 := by decide
                        have t_x_534 : x_534.toInt = (sv_28 : Int32).toInt + (1 : Int32).toInt := by rw [ex_534]; exact add_toInt (by omega) (by omega)
                        omega
                      refine cV (a := (Ma 0)) (As := []) (rest := []) (wr := []) ⟨hx, hb, hml, hown, hts⟩ hK hX hA (cu_kX12_sum l D tc sk (Ma 0) (Ma 1) (Ma 2) (Ma 3) (Ma 4) (Ma 5) (Ma 6) (Ma 7) (Ma 8) (Ma 9) (Ma 10) (Ma 11) (Ma 12) (Ma 13) (Ma 14) (Ma 15) (Ma 16) (Ma 17) (Ma 18) (Ma 19) (Ma 20) (Mv 0) (Mv 1) x_534 sv_644 sv_6 (Mv 5) sv_645 (Mv 7) (Mv 8) (Mv 9) (Mv 10) (Mv 11) (Mv 12) (Mv 13) (Mv 14) (Mf 1) sv_8 sv_9 (Mj 0) b (d + 1) lo_23 ha_656 pf_650 ha_657 ha_658 h_bs ha_659 pf_21) k_1279 k_1276 k_1278 k_42 k_106 pl_X12_sum ⟨Nat.le_of_ble_eq_true rfl, Nat.le_of_ble_eq_true rfl⟩ rfl rfl (va_recv hK hP (ci := 12) (q0 := 3) rfl rfl) hP hD hS [3, 2, 0, 1] [] rfl rfl rfl rfl rfl (by decide) rfl hl.1 rfl (Nat.le_of_ble_eq_true rfl) dX12_compare_155 ⟨Nat.le_of_ble_eq_true rfl, Nat.le_of_ble_eq_true rfl⟩ (fun v_660 u_661 H locs hv_662 hP₀ hD₀ hS₀ => ?_)
                      obtain ⟨sv_663, sv_664, sv_665, sv_666, sv_667, sv_668⟩ := u_661
                      obtain ⟨r_672, rfl, he_673, pf_669, pf_670, pf_671, hm_675, hm_676⟩ := hv_662
                      have he_673 : ((r_672.toInt = 0 ∧ ¬ (sv_664 : Int32).toInt = 0) ∨ (r_672.toInt = 1 ∧ (sv_9 (Mv 5).toNatClampNeg).toInt + 1 ≤ (sv_668 (Mv 5).toNatClampNeg).toInt ∧ (sv_668 (Mv 5).toNatClampNeg).toInt + (x_534 : Int32).toInt ≤ (sv_9 (Mv 5).toNatClampNeg).toInt + (sv_663 : Int32).toInt ∧ (x_534 : Int32).toInt + 1 ≤ (sv_663 : Int32).toInt)) := he_673
                      have pf_669 : (x_534 : Int32).toInt ≤ (sv_663 : Int32).toInt ∧ (sv_663 : Int32).toInt ≤ ((Mv 0) : Int32).toInt := pf_669
                      have pf_670 : (sv_645 : Int32).toInt ≤ (sv_666 : Int32).toInt ∧ (sv_666 : Int32).toInt ≤ 60 := pf_670
                      have pf_671 : Agr sv_8 sv_667 (400 * ((Mv 5) : Int32).toInt + (sv_9 (Mv 5).toNatClampNeg).toInt) := pf_671
                      refine W.eq (g2 := F0 m 158 ls [.int r_672]) rfl ?_
                      replace hP : va_P D classes [((Ma 0), .inr (12, [.ref (Ma 1), .int (Mv 0), .int (Mv 1), .ref (Ma 2), .ref (Ma 3), .ref (Ma 4), .ref (Ma 5), .ref (Ma 6), .int sv_663, .int sv_664, .int sv_665, .int (Mv 5), .int sv_666, .int (Mv 7), .int (Mv 8), .ref (Ma 7), .int (Mv 9), .ref (Ma 8), .int (Mv 10), .ref (Ma 9), .ref (Ma 10), .int (Mv 11), .int (Mv 12), .int (Mv 13), .ref (Ma 11), .int (Mv 14), .ref (Ma 12), .ref (Ma 13), .ref (Ma 14), .ref (Ma 15), .ref (Ma 16), .long (Mj 0), .ref (Ma 17), .ref (Ma 18), .ref (Ma 19), .ref (Ma 20)])), ((Ma 1), .inl (tc 2, 400, .inl (Mf 1))), ((Ma 2), .inl (tc 0, 2400, .inl sv_667)), ((Ma 3), .inl (tc 0, 7, .inl sv_668))] H := hP₀
                      replace hD : va_D A [((Ma 0), .inr (12, [.ref (Ma 1), .int (Mv 0), .int (Mv 1), .ref (Ma 2), .ref (Ma 3), .ref (Ma 4), .ref (Ma 5), .ref (Ma 6), .int sv_663, .int sv_664, .int sv_665, .int (Mv 5), .int sv_666, .int (Mv 7), .int (Mv 8), .ref (Ma 7), .int (Mv 9), .ref (Ma 8), .int (Mv 10), .ref (Ma 9), .ref (Ma 10), .int (Mv 11), .int (Mv 12), .int (Mv 13), .ref (Ma 11), .int (Mv 14), .ref (Ma 12), .ref (Ma 13), .ref (Ma 14), .ref (Ma 15), .ref (Ma 16), .long (Mj 0), .ref (Ma 17), .ref (Ma 18), .ref (Ma 19), .ref (Ma 20)])), ((Ma 1), .inl (tc 2, 400, .inl (Mf 1))), ((Ma 2), .inl (tc 0, 2400, .inl sv_667)), ((Ma 3), .inl (tc 0, 7, .inl sv_668))] := hD₀
                      replace hS := hS₀
                      clear hP₀ hD₀ hS₀
                      refine lv_if_ne (tgt := 163) hx hb dX12_compare_158 (by decide) (fun c_677 => ?_) (fun c_677 => ?_)
                      · skip
                        have hz_681 : (r_672 : Int32).toInt = 1 := by
                          have z_1 : ¬ (r_13 : Int32).toInt = (0 : Int32).toInt := fun z => c_18 (Int32.toInt_inj.mp z)
                          have z_2 : ¬ (r_33 : Int32).toInt = (60 : Int32).toInt := fun z => c_36 (Int32.toInt_inj.mp z)
                          have z_3 : ¬ (r_33 : Int32).toInt = (61 : Int32).toInt := fun z => c_434 (Int32.toInt_inj.mp z)
                          have z_4 := congrArg Int32.toInt c_533
                          have z_5 : ¬ (r_33 : Int32).toInt = (61 : Int32).toInt := fun z => c_535 (Int32.toInt_inj.mp z)
                          have z_6 := Int32.lt_iff_toInt_lt.mp (Int32.not_le.mp c_536)
                          have z_7 : ¬ (x_635 : Int32).toInt = (61 : Int32).toInt := fun z => c_636 (Int32.toInt_inj.mp z)
                          have z_8 : ¬ (r_647 : Int32).toInt = (0 : Int32).toInt := fun z => c_652 (Int32.toInt_inj.mp z)
                          have z_9 : ¬ (r_33 : Int32).toInt = (60 : Int32).toInt := fun z => c_653 (Int32.toInt_inj.mp z)
                          have z_10 : ¬ (r_33 : Int32).toInt = (61 : Int32).toInt := fun z => c_654 (Int32.toInt_inj.mp z)
                          have z_11 : ¬ (r_672 : Int32).toInt = (0 : Int32).toInt := fun z => c_677 (Int32.toInt_inj.mp z)
                          have y_0 : (0 : Int32).toInt = 0 := by decide
                          have y_60 : (60 : Int32).toInt = 60 := by decide
                          have y_61 : (61 : Int32).toInt = 61 := by decide
                          have y_62 : (62 : Int32).toInt = 62 := by decide
                          have y_1 : (1 : Int32).toInt = 1 := by decide
                          have t_x_534 : x_534.toInt = (sv_28 : Int32).toInt + (1 : Int32).toInt := by rw [ex_534]; exact add_toInt (by omega) (by omega)
                          omega
                        obtain ⟨pf_678, pf_679, pf_680⟩ := hm_675 hz_681
                        have pf_678 : Cd sv_667 sv_668 (Mv 5) b sv_666 ((d + 1) + 1) := pf_678
                        have ar_pf_678 := Cd.ar pf_678
                        have pf_679 : RfO (pz_sum (rB (Mf 1) (Mv 0)) (St0 (rB (Mf 1) (Mv 0)) x_534 sv_645)) (rB (Mf 1) (Mv 0)) sv_664 sv_663 sv_666 := pf_679
                        have ar_pf_679 := RfO.wr pf_679
                        have pf_680 : SgC sv_667 sv_668 (Mv 5) (lo_23 ++ lsum (rB (Mf 1) (Mv 0)) (St0 (rB (Mf 1) (Mv 0)) x_534 sv_645)) := pf_680
                        obtain ⟨lo_682, elo_682⟩ : ∃ z : List Int, z = (lo_23 ++ lsum (rB (Mf 1) (Mv 0)) (St0 (rB (Mf 1) (Mv 0)) x_534 sv_645)) := ⟨_, rfl⟩
                        rw [← elo_682] at pf_680
                        refine lv_aload_n hx hb dX12_compare_163 rfl (lv_at hl 4 rfl) ?_
                        refine lv_bipush (v := 6) hx hb dX12_compare_164 (by decide) ?_
                        refine lv_iload hx hb dX12_compare_166 (lv_at hl 0 rfl) ?_
                        refine lv_iadd hx hb dX12_compare_168 ?_
                        refine lv_lit (v := 10) (by decide) ?_
                        refine lv_iconst (v := 0) hx hb dX12_compare_169 (by decide) ?_
                        have ha_683 : ((d + 1) : Int) ≤ sv_666.toInt := by
                          have z_1 : ¬ (r_13 : Int32).toInt = (0 : Int32).toInt := fun z => c_18 (Int32.toInt_inj.mp z)
                          have z_2 : ¬ (r_33 : Int32).toInt = (60 : Int32).toInt := fun z => c_36 (Int32.toInt_inj.mp z)
                          have z_3 : ¬ (r_33 : Int32).toInt = (61 : Int32).toInt := fun z => c_434 (Int32.toInt_inj.mp z)
                          have z_4 := congrArg Int32.toInt c_533
                          have z_5 : ¬ (r_33 : Int32).toInt = (61 : Int32).toInt := fun z => c_535 (Int32.toInt_inj.mp z)
                          have z_6 := Int32.lt_iff_toInt_lt.mp (Int32.not_le.mp c_536)
                          have z_7 : ¬ (x_635 : Int32).toInt = (61 : Int32).toInt := fun z => c_636 (Int32.toInt_inj.mp z)
                          have z_8 : ¬ (r_647 : Int32).toInt = (0 : Int32).toInt := fun z => c_652 (Int32.toInt_inj.mp z)
                          have z_9 : ¬ (r_33 : Int32).toInt = (60 : Int32).toInt := fun z => c_653 (Int32.toInt_inj.mp z)
                          have z_10 : ¬ (r_33 : Int32).toInt = (61 : Int32).toInt := fun z => c_654 (Int32.toInt_inj.mp z)
                          have z_11 : ¬ (r_672 : Int32).toInt = (0 : Int32).toInt := fun z => c_677 (Int32.toInt_inj.mp z)
                          have y_0 : (0 : Int32).toInt = 0 := by decide
                          have y_60 : (60 : Int32).toInt = 60 := by decide
                          have y_61 : (61 : Int32).toInt = 61 := by decide
                          have y_62 : (62 : Int32).toInt = 62 := by decide
                          have y_1 : (1 : Int32).toInt = 1 := by decide
                          have t_x_534 : x_534.toInt = (sv_28 : Int32).toInt + (1 : Int32).toInt := by rw [ex_534]; exact add_toInt (by omega) (by omega)
                          omega
                        have ha_684 : (sv_668 (Mv 5).toNatClampNeg).toInt < 400 := by
                          have z_1 : ¬ (r_13 : Int32).toInt = (0 : Int32).toInt := fun z => c_18 (Int32.toInt_inj.mp z)
                          have z_2 : ¬ (r_33 : Int32).toInt = (60 : Int32).toInt := fun z => c_36 (Int32.toInt_inj.mp z)
                          have z_3 : ¬ (r_33 : Int32).toInt = (61 : Int32).toInt := fun z => c_434 (Int32.toInt_inj.mp z)
                          have z_4 := congrArg Int32.toInt c_533
                          have z_5 : ¬ (r_33 : Int32).toInt = (61 : Int32).toInt := fun z => c_535 (Int32.toInt_inj.mp z)
                          have z_6 := Int32.lt_iff_toInt_lt.mp (Int32.not_le.mp c_536)
                          have z_7 : ¬ (x_635 : Int32).toInt = (61 : Int32).toInt := fun z => c_636 (Int32.toInt_inj.mp z)
                          have z_8 : ¬ (r_647 : Int32).toInt = (0 : Int32).toInt := fun z => c_652 (Int32.toInt_inj.mp z)
                          have z_9 : ¬ (r_33 : Int32).toInt = (60 : Int32).toInt := fun z => c_653 (Int32.toInt_inj.mp z)
                          have z_10 : ¬ (r_33 : Int32).toInt = (61 : Int32).toInt := fun z => c_654 (Int32.toInt_inj.mp z)
                          have z_11 : ¬ (r_672 : Int32).toInt = (0 : Int32).toInt := fun z => c_677 (Int32.toInt_inj.mp z)
                          have y_0 : (0 : Int32).toInt = 0 := by decide
                          have y_60 : (60 : Int32).toInt = 60 := by decide
                          have y_61 : (61 : Int32).toInt = 61 := by decide
                          have y_62 : (62 : Int32).toInt = 62 := by decide
                          have y_1 : (1 : Int32).toInt = 1 := by decide
                          have t_x_534 : x_534.toInt = (sv_28 : Int32).toInt + (1 : Int32).toInt := by rw [ex_534]; exact add_toInt (by omega) (by omega)
                          omega
                        have ha_685 : 0 ≤ (10 : Int32).toInt ∧ (10 : Int32).toInt ≤ 15 := by
                          have z_1 : ¬ (r_13 : Int32).toInt = (0 : Int32).toInt := fun z => c_18 (Int32.toInt_inj.mp z)
                          have z_2 : ¬ (r_33 : Int32).toInt = (60 : Int32).toInt := fun z => c_36 (Int32.toInt_inj.mp z)
                          have z_3 : ¬ (r_33 : Int32).toInt = (61 : Int32).toInt := fun z => c_434 (Int32.toInt_inj.mp z)
                          have z_4 := congrArg Int32.toInt c_533
                          have z_5 : ¬ (r_33 : Int32).toInt = (61 : Int32).toInt := fun z => c_535 (Int32.toInt_inj.mp z)
                          have z_6 := Int32.lt_iff_toInt_lt.mp (Int32.not_le.mp c_536)
                          have z_7 : ¬ (x_635 : Int32).toInt = (61 : Int32).toInt := fun z => c_636 (Int32.toInt_inj.mp z)
                          have z_8 : ¬ (r_647 : Int32).toInt = (0 : Int32).toInt := fun z => c_652 (Int32.toInt_inj.mp z)
                          have z_9 : ¬ (r_33 : Int32).toInt = (60 : Int32).toInt := fun z => c_653 (Int32.toInt_inj.mp z)
                          have z_10 : ¬ (r_33 : Int32).toInt = (61 : Int32).toInt := fun z => c_654 (Int32.toInt_inj.mp z)
                          have z_11 : ¬ (r_672 : Int32).toInt = (0 : Int32).toInt := fun z => c_677 (Int32.toInt_inj.mp z)
                          have y_0 : (0 : Int32).toInt = 0 := by decide
                          have y_60 : (60 : Int32).toInt = 60 := by decide
                          have y_61 : (61 : Int32).toInt = 61 := by decide
                          have y_62 : (62 : Int32).toInt = 62 := by decide
                          have y_1 : (1 : Int32).toInt = 1 := by decide
                          have y_10 : (10 : Int32).toInt = 10 := by decide
                          have t_x_534 : x_534.toInt = (sv_28 : Int32).toInt + (1 : Int32).toInt := by rw [ex_534]; exact add_toInt (by omega) (by omega)
                          omega
                        have ha_686 : 0 ≤ (0 : Int32).toInt ∧ (0 : Int32).toInt ≤ 100000 := by
                          have z_1 : ¬ (r_13 : Int32).toInt = (0 : Int32).toInt := fun z => c_18 (Int32.toInt_inj.mp z)
                          have z_2 : ¬ (r_33 : Int32).toInt = (60 : Int32).toInt := fun z => c_36 (Int32.toInt_inj.mp z)
                          have z_3 : ¬ (r_33 : Int32).toInt = (61 : Int32).toInt := fun z => c_434 (Int32.toInt_inj.mp z)
                          have z_4 := congrArg Int32.toInt c_533
                          have z_5 : ¬ (r_33 : Int32).toInt = (61 : Int32).toInt := fun z => c_535 (Int32.toInt_inj.mp z)
                          have z_6 := Int32.lt_iff_toInt_lt.mp (Int32.not_le.mp c_536)
                          have z_7 : ¬ (x_635 : Int32).toInt = (61 : Int32).toInt := fun z => c_636 (Int32.toInt_inj.mp z)
                          have z_8 : ¬ (r_647 : Int32).toInt = (0 : Int32).toInt := fun z => c_652 (Int32.toInt_inj.mp z)
                          have z_9 : ¬ (r_33 : Int32).toInt = (60 : Int32).toInt := fun z => c_653 (Int32.toInt_inj.mp z)
                          have z_10 : ¬ (r_33 : Int32).toInt = (61 : Int32).toInt := fun z => c_654 (Int32.toInt_inj.mp z)
                          have z_11 : ¬ (r_672 : Int32).toInt = (0 : Int32).toInt := fun z => c_677 (Int32.toInt_inj.mp z)
                          have y_0 : (0 : Int32).toInt = 0 := by decide
                          have y_60 : (60 : Int32).toInt = 60 := by decide
                          have y_61 : (61 : Int32).toInt = 61 := by decide
                          have y_62 : (62 : Int32).toInt = 62 := by decide
                          have y_1 : (1 : Int32).toInt = 1 := by decide
                          have t_x_534 : x_534.toInt = (sv_28 : Int32).toInt + (1 : Int32).toInt := by rw [ex_534]; exact add_toInt (by omega) (by omega)
                          omega
                        have ha_687 : 0 ≤ (Mv 5).toInt := by
                          have z_1 : ¬ (r_13 : Int32).toInt = (0 : Int32).toInt := fun z => c_18 (Int32.toInt_inj.mp z)
                          have z_2 : ¬ (r_33 : Int32).toInt = (60 : Int32).toInt := fun z => c_36 (Int32.toInt_inj.mp z)
                          have z_3 : ¬ (r_33 : Int32).toInt = (61 : Int32).toInt := fun z => c_434 (Int32.toInt_inj.mp z)
                          have z_4 := congrArg Int32.toInt c_533
                          have z_5 : ¬ (r_33 : Int32).toInt = (61 : Int32).toInt := fun z => c_535 (Int32.toInt_inj.mp z)
                          have z_6 := Int32.lt_iff_toInt_lt.mp (Int32.not_le.mp c_536)
                          have z_7 : ¬ (x_635 : Int32).toInt = (61 : Int32).toInt := fun z => c_636 (Int32.toInt_inj.mp z)
                          have z_8 : ¬ (r_647 : Int32).toInt = (0 : Int32).toInt := fun z => c_652 (Int32.toInt_inj.mp z)
                          have z_9 : ¬ (r_33 : Int32).toInt = (60 : Int32).toInt := fun z => c_653 (Int32.toInt_inj.mp z)
                          have z_10 : ¬ (r_33 : Int32).toInt = (61 : Int32).toInt := fun z => c_654 (Int32.toInt_inj.mp z)
                          have z_11 : ¬ (r_672 : Int32).toInt = (0 : Int32).toInt := fun z => c_677 (Int32.toInt_inj.mp z)
                          have y_0 : (0 : Int32).toInt = 0 := by decide
                          have y_60 : (60 : Int32).toInt = 60 := by decide
                          have y_61 : (61 : Int32).toInt = 61 := by decide
                          have y_62 : (62 : Int32).toInt = 62 := by decide
                          have y_1 : (1 : Int32).toInt = 1 := by decide
                          have t_x_534 : x_534.toInt = (sv_28 : Int32).toInt + (1 : Int32).toInt := by rw [ex_534]; exact add_toInt (by omega) (by omega)
                          omega
                        refine cV (a := (Ma 0)) (As := [.int 10, .int 0]) (rest := []) (wr := [((Ma 1), .inl (tc 2, 400, .inl (Mf 1)))]) ⟨hx, hb, hml, hown, hts⟩ hK hX hA (cu_kX12_puts l D tc sk (Ma 0) (Ma 1) (Ma 2) (Ma 3) (Ma 4) (Ma 5) (Ma 6) (Ma 7) (Ma 8) (Ma 9) (Ma 10) (Ma 11) (Ma 12) (Ma 13) (Ma 14) (Ma 15) (Ma 16) (Ma 17) (Ma 18) (Ma 19) (Ma 20) (Mv 0) (Mv 1) sv_663 sv_664 sv_665 (Mv 5) sv_666 (Mv 7) (Mv 8) (Mv 9) (Mv 10) (Mv 11) (Mv 12) (Mv 13) (Mv 14) sv_667 sv_668 (Mj 0) 10 0 b sv_666 ((d + 1) + 1) (d + 1) lo_682 (-11) pf_678 (StpR.op (by decide) rfl (by omega)) ha_683 ha_684 pf_680 (by decide) ha_685 ha_686 ha_687) k_1296 k_1293 k_1295 k_46 k_106 pl_X12_puts ⟨Nat.le_of_ble_eq_true rfl, Nat.le_of_ble_eq_true rfl⟩ rfl rfl (va_recv hK hP (ci := 12) (q0 := 0) rfl rfl) hP hD hS [0, 2, 3] [1] rfl rfl rfl rfl rfl (by decide) rfl hl.1 rfl (Nat.le_of_ble_eq_true rfl) dX12_compare_170 ⟨Nat.le_of_ble_eq_true rfl, Nat.le_of_ble_eq_true rfl⟩ (fun v_688 u_689 H locs hv_690 hP₀ hD₀ hS₀ => ?_)
                        obtain ⟨sv_691, sv_692⟩ := u_689
                        obtain ⟨rfl, pf_693, pf_694, pf_695, pf_696⟩ := hv_690
                        have pf_693 : Cd sv_691 sv_692 (Mv 5) b sv_666 (d + 1) := pf_693
                        have ar_pf_693 := Cd.ar pf_693
                        have pf_694 : Agr sv_667 sv_691 (400 * ((Mv 5) : Int32).toInt + (sv_668 (Mv 5).toNatClampNeg).toInt) := pf_694
                        have pf_695 : (sv_692 (Mv 5).toNatClampNeg).toInt = (sv_668 (Mv 5).toNatClampNeg).toInt + 1 := pf_695
                        have pf_696 : SgC sv_691 sv_692 (Mv 5) (lo_682 ++ [((-11) : Int)]) := pf_696
                        obtain ⟨lo_697, elo_697⟩ : ∃ z : List Int, z = (lo_682 ++ [(-11)]) := ⟨_, rfl⟩
                        rw [← elo_697] at pf_696
                        refine W.eq (g2 := F0 m 173 ls []) rfl ?_
                        replace hP : va_P D classes [((Ma 1), .inl (tc 2, 400, .inl (Mf 1))), ((Ma 0), .inr (12, [.ref (Ma 1), .int (Mv 0), .int (Mv 1), .ref (Ma 2), .ref (Ma 3), .ref (Ma 4), .ref (Ma 5), .ref (Ma 6), .int sv_663, .int sv_664, .int sv_665, .int (Mv 5), .int sv_666, .int (Mv 7), .int (Mv 8), .ref (Ma 7), .int (Mv 9), .ref (Ma 8), .int (Mv 10), .ref (Ma 9), .ref (Ma 10), .int (Mv 11), .int (Mv 12), .int (Mv 13), .ref (Ma 11), .int (Mv 14), .ref (Ma 12), .ref (Ma 13), .ref (Ma 14), .ref (Ma 15), .ref (Ma 16), .long (Mj 0), .ref (Ma 17), .ref (Ma 18), .ref (Ma 19), .ref (Ma 20)])), ((Ma 2), .inl (tc 0, 2400, .inl sv_691)), ((Ma 3), .inl (tc 0, 7, .inl sv_692))] H := hP₀
                        replace hD : va_D A [((Ma 1), .inl (tc 2, 400, .inl (Mf 1))), ((Ma 0), .inr (12, [.ref (Ma 1), .int (Mv 0), .int (Mv 1), .ref (Ma 2), .ref (Ma 3), .ref (Ma 4), .ref (Ma 5), .ref (Ma 6), .int sv_663, .int sv_664, .int sv_665, .int (Mv 5), .int sv_666, .int (Mv 7), .int (Mv 8), .ref (Ma 7), .int (Mv 9), .ref (Ma 8), .int (Mv 10), .ref (Ma 9), .ref (Ma 10), .int (Mv 11), .int (Mv 12), .int (Mv 13), .ref (Ma 11), .int (Mv 14), .ref (Ma 12), .ref (Ma 13), .ref (Ma 14), .ref (Ma 15), .ref (Ma 16), .long (Mj 0), .ref (Ma 17), .ref (Ma 18), .ref (Ma 19), .ref (Ma 20)])), ((Ma 2), .inl (tc 0, 2400, .inl sv_691)), ((Ma 3), .inl (tc 0, 7, .inl sv_692))] := hD₀
                        replace hS := hS₀
                        clear hP₀ hD₀ hS₀
                        refine lv_iconst (v := 1) hx hb dX12_compare_173 (by decide) ?_
                        have ha_698 : ((Mv 2) : Int32).toInt ≤ (sv_663 : Int32).toInt ∧ (sv_663 : Int32).toInt ≤ ((Mv 0) : Int32).toInt := by
                          have z_1 : ¬ (r_13 : Int32).toInt = (0 : Int32).toInt := fun z => c_18 (Int32.toInt_inj.mp z)
                          have z_2 : ¬ (r_33 : Int32).toInt = (60 : Int32).toInt := fun z => c_36 (Int32.toInt_inj.mp z)
                          have z_3 : ¬ (r_33 : Int32).toInt = (61 : Int32).toInt := fun z => c_434 (Int32.toInt_inj.mp z)
                          have z_4 := congrArg Int32.toInt c_533
                          have z_5 : ¬ (r_33 : Int32).toInt = (61 : Int32).toInt := fun z => c_535 (Int32.toInt_inj.mp z)
                          have z_6 := Int32.lt_iff_toInt_lt.mp (Int32.not_le.mp c_536)
                          have z_7 : ¬ (x_635 : Int32).toInt = (61 : Int32).toInt := fun z => c_636 (Int32.toInt_inj.mp z)
                          have z_8 : ¬ (r_647 : Int32).toInt = (0 : Int32).toInt := fun z => c_652 (Int32.toInt_inj.mp z)
                          have z_9 : ¬ (r_33 : Int32).toInt = (60 : Int32).toInt := fun z => c_653 (Int32.toInt_inj.mp z)
                          have z_10 : ¬ (r_33 : Int32).toInt = (61 : Int32).toInt := fun z => c_654 (Int32.toInt_inj.mp z)
                          have z_11 : ¬ (r_672 : Int32).toInt = (0 : Int32).toInt := fun z => c_677 (Int32.toInt_inj.mp z)
                          have y_0 : (0 : Int32).toInt = 0 := by decide
                          have y_60 : (60 : Int32).toInt = 60 := by decide
                          have y_61 : (61 : Int32).toInt = 61 := by decide
                          have y_62 : (62 : Int32).toInt = 62 := by decide
                          have y_1 : (1 : Int32).toInt = 1 := by decide
                          have t_x_534 : x_534.toInt = (sv_28 : Int32).toInt + (1 : Int32).toInt := by rw [ex_534]; exact add_toInt (by omega) (by omega)
                          omega
                        have ha_699 : ((Mv 6) : Int32).toInt ≤ (sv_666 : Int32).toInt ∧ (sv_666 : Int32).toInt ≤ 60 := by
                          have z_1 : ¬ (r_13 : Int32).toInt = (0 : Int32).toInt := fun z => c_18 (Int32.toInt_inj.mp z)
                          have z_2 : ¬ (r_33 : Int32).toInt = (60 : Int32).toInt := fun z => c_36 (Int32.toInt_inj.mp z)
                          have z_3 : ¬ (r_33 : Int32).toInt = (61 : Int32).toInt := fun z => c_434 (Int32.toInt_inj.mp z)
                          have z_4 := congrArg Int32.toInt c_533
                          have z_5 : ¬ (r_33 : Int32).toInt = (61 : Int32).toInt := fun z => c_535 (Int32.toInt_inj.mp z)
                          have z_6 := Int32.lt_iff_toInt_lt.mp (Int32.not_le.mp c_536)
                          have z_7 : ¬ (x_635 : Int32).toInt = (61 : Int32).toInt := fun z => c_636 (Int32.toInt_inj.mp z)
                          have z_8 : ¬ (r_647 : Int32).toInt = (0 : Int32).toInt := fun z => c_652 (Int32.toInt_inj.mp z)
                          have z_9 : ¬ (r_33 : Int32).toInt = (60 : Int32).toInt := fun z => c_653 (Int32.toInt_inj.mp z)
                          have z_10 : ¬ (r_33 : Int32).toInt = (61 : Int32).toInt := fun z => c_654 (Int32.toInt_inj.mp z)
                          have z_11 : ¬ (r_672 : Int32).toInt = (0 : Int32).toInt := fun z => c_677 (Int32.toInt_inj.mp z)
                          have y_0 : (0 : Int32).toInt = 0 := by decide
                          have y_60 : (60 : Int32).toInt = 60 := by decide
                          have y_61 : (61 : Int32).toInt = 61 := by decide
                          have y_62 : (62 : Int32).toInt = 62 := by decide
                          have y_1 : (1 : Int32).toInt = 1 := by decide
                          have t_x_534 : x_534.toInt = (sv_28 : Int32).toInt + (1 : Int32).toInt := by rw [ex_534]; exact add_toInt (by omega) (by omega)
                          omega
                        have hr_700 : (400 * ((Mv 5) : Int32).toInt + ((Mf 3) (Mv 5).toNatClampNeg).toInt) ≤ (400 * ((Mv 5) : Int32).toInt + ((Mf 3) (Mv 5).toNatClampNeg).toInt) := by
                          have z_1 : ¬ (r_13 : Int32).toInt = (0 : Int32).toInt := fun z => c_18 (Int32.toInt_inj.mp z)
                          have z_2 : ¬ (r_33 : Int32).toInt = (60 : Int32).toInt := fun z => c_36 (Int32.toInt_inj.mp z)
                          have z_3 : ¬ (r_33 : Int32).toInt = (61 : Int32).toInt := fun z => c_434 (Int32.toInt_inj.mp z)
                          have z_4 := congrArg Int32.toInt c_533
                          have z_5 : ¬ (r_33 : Int32).toInt = (61 : Int32).toInt := fun z => c_535 (Int32.toInt_inj.mp z)
                          have z_6 := Int32.lt_iff_toInt_lt.mp (Int32.not_le.mp c_536)
                          have z_7 : ¬ (x_635 : Int32).toInt = (61 : Int32).toInt := fun z => c_636 (Int32.toInt_inj.mp z)
                          have z_8 : ¬ (r_647 : Int32).toInt = (0 : Int32).toInt := fun z => c_652 (Int32.toInt_inj.mp z)
                          have z_9 : ¬ (r_33 : Int32).toInt = (60 : Int32).toInt := fun z => c_653 (Int32.toInt_inj.mp z)
                          have z_10 : ¬ (r_33 : Int32).toInt = (61 : Int32).toInt := fun z => c_654 (Int32.toInt_inj.mp z)
                          have z_11 : ¬ (r_672 : Int32).toInt = (0 : Int32).toInt := fun z => c_677 (Int32.toInt_inj.mp z)
                          have y_0 : (0 : Int32).toInt = 0 := by decide
                          have y_60 : (60 : Int32).toInt = 60 := by decide
                          have y_61 : (61 : Int32).toInt = 61 := by decide
                          have y_62 : (62 : Int32).toInt = 62 := by decide
                          have y_1 : (1 : Int32).toInt = 1 := by decide
                          have t_x_534 : x_534.toInt = (sv_28 : Int32).toInt + (1 : Int32).toInt := by rw [ex_534]; exact add_toInt (by omega) (by omega)
                          omega
                        have hr_701 : (400 * ((Mv 5) : Int32).toInt + ((Mf 3) (Mv 5).toNatClampNeg).toInt) ≤ (400 * ((Mv 5) : Int32).toInt + (sv_9 (Mv 5).toNatClampNeg).toInt) := by
                          have z_1 : ¬ (r_13 : Int32).toInt = (0 : Int32).toInt := fun z => c_18 (Int32.toInt_inj.mp z)
                          have z_2 : ¬ (r_33 : Int32).toInt = (60 : Int32).toInt := fun z => c_36 (Int32.toInt_inj.mp z)
                          have z_3 : ¬ (r_33 : Int32).toInt = (61 : Int32).toInt := fun z => c_434 (Int32.toInt_inj.mp z)
                          have z_4 := congrArg Int32.toInt c_533
                          have z_5 : ¬ (r_33 : Int32).toInt = (61 : Int32).toInt := fun z => c_535 (Int32.toInt_inj.mp z)
                          have z_6 := Int32.lt_iff_toInt_lt.mp (Int32.not_le.mp c_536)
                          have z_7 : ¬ (x_635 : Int32).toInt = (61 : Int32).toInt := fun z => c_636 (Int32.toInt_inj.mp z)
                          have z_8 : ¬ (r_647 : Int32).toInt = (0 : Int32).toInt := fun z => c_652 (Int32.toInt_inj.mp z)
                          have z_9 : ¬ (r_33 : Int32).toInt = (60 : Int32).toInt := fun z => c_653 (Int32.toInt_inj.mp z)
                          have z_10 : ¬ (r_33 : Int32).toInt = (61 : Int32).toInt := fun z => c_654 (Int32.toInt_inj.mp z)
                          have z_11 : ¬ (r_672 : Int32).toInt = (0 : Int32).toInt := fun z => c_677 (Int32.toInt_inj.mp z)
                          have y_0 : (0 : Int32).toInt = 0 := by decide
                          have y_60 : (60 : Int32).toInt = 60 := by decide
                          have y_61 : (61 : Int32).toInt = 61 := by decide
                          have y_62 : (62 : Int32).toInt = 62 := by decide
                          have y_1 : (1 : Int32).toInt = 1 := by decide
                          have t_x_534 : x_534.toInt = (sv_28 : Int32).toInt + (1 : Int32).toInt := by rw [ex_534]; exact add_toInt (by omega) (by omega)
                          omega
                        have hr_702 : (400 * ((Mv 5) : Int32).toInt + ((Mf 3) (Mv 5).toNatClampNeg).toInt) ≤ (400 * ((Mv 5) : Int32).toInt + (sv_668 (Mv 5).toNatClampNeg).toInt) := by
                          have z_1 : ¬ (r_13 : Int32).toInt = (0 : Int32).toInt := fun z => c_18 (Int32.toInt_inj.mp z)
                          have z_2 : ¬ (r_33 : Int32).toInt = (60 : Int32).toInt := fun z => c_36 (Int32.toInt_inj.mp z)
                          have z_3 : ¬ (r_33 : Int32).toInt = (61 : Int32).toInt := fun z => c_434 (Int32.toInt_inj.mp z)
                          have z_4 := congrArg Int32.toInt c_533
                          have z_5 : ¬ (r_33 : Int32).toInt = (61 : Int32).toInt := fun z => c_535 (Int32.toInt_inj.mp z)
                          have z_6 := Int32.lt_iff_toInt_lt.mp (Int32.not_le.mp c_536)
                          have z_7 : ¬ (x_635 : Int32).toInt = (61 : Int32).toInt := fun z => c_636 (Int32.toInt_inj.mp z)
                          have z_8 : ¬ (r_647 : Int32).toInt = (0 : Int32).toInt := fun z => c_652 (Int32.toInt_inj.mp z)
                          have z_9 : ¬ (r_33 : Int32).toInt = (60 : Int32).toInt := fun z => c_653 (Int32.toInt_inj.mp z)
                          have z_10 : ¬ (r_33 : Int32).toInt = (61 : Int32).toInt := fun z => c_654 (Int32.toInt_inj.mp z)
                          have z_11 : ¬ (r_672 : Int32).toInt = (0 : Int32).toInt := fun z => c_677 (Int32.toInt_inj.mp z)
                          have y_0 : (0 : Int32).toInt = 0 := by decide
                          have y_60 : (60 : Int32).toInt = 60 := by decide
                          have y_61 : (61 : Int32).toInt = 61 := by decide
                          have y_62 : (62 : Int32).toInt = 62 := by decide
                          have y_1 : (1 : Int32).toInt = 1 := by decide
                          have t_x_534 : x_534.toInt = (sv_28 : Int32).toInt + (1 : Int32).toInt := by rw [ex_534]; exact add_toInt (by omega) (by omega)
                          omega
                        have hp_703 : (((1 : Int32).toInt = 0 ∧ ¬ (sv_664 : Int32).toInt = 0) ∨ ((1 : Int32).toInt = 1 ∧ ((Mf 3) (Mv 5).toNatClampNeg).toInt + 1 ≤ (sv_692 (Mv 5).toNatClampNeg).toInt ∧ (sv_692 (Mv 5).toNatClampNeg).toInt + ((Mv 2) : Int32).toInt ≤ ((Mf 3) (Mv 5).toNatClampNeg).toInt + (sv_663 : Int32).toInt ∧ ((Mv 2) : Int32).toInt + 1 ≤ (sv_663 : Int32).toInt)) := by
                          have z_1 : ¬ (r_13 : Int32).toInt = (0 : Int32).toInt := fun z => c_18 (Int32.toInt_inj.mp z)
                          have z_2 : ¬ (r_33 : Int32).toInt = (60 : Int32).toInt := fun z => c_36 (Int32.toInt_inj.mp z)
                          have z_3 : ¬ (r_33 : Int32).toInt = (61 : Int32).toInt := fun z => c_434 (Int32.toInt_inj.mp z)
                          have z_4 := congrArg Int32.toInt c_533
                          have z_5 : ¬ (r_33 : Int32).toInt = (61 : Int32).toInt := fun z => c_535 (Int32.toInt_inj.mp z)
                          have z_6 := Int32.lt_iff_toInt_lt.mp (Int32.not_le.mp c_536)
                          have z_7 : ¬ (x_635 : Int32).toInt = (61 : Int32).toInt := fun z => c_636 (Int32.toInt_inj.mp z)
                          have z_8 : ¬ (r_647 : Int32).toInt = (0 : Int32).toInt := fun z => c_652 (Int32.toInt_inj.mp z)
                          have z_9 : ¬ (r_33 : Int32).toInt = (60 : Int32).toInt := fun z => c_653 (Int32.toInt_inj.mp z)
                          have z_10 : ¬ (r_33 : Int32).toInt = (61 : Int32).toInt := fun z => c_654 (Int32.toInt_inj.mp z)
                          have z_11 : ¬ (r_672 : Int32).toInt = (0 : Int32).toInt := fun z => c_677 (Int32.toInt_inj.mp z)
                          have y_0 : (0 : Int32).toInt = 0 := by decide
                          have y_60 : (60 : Int32).toInt = 60 := by decide
                          have y_61 : (61 : Int32).toInt = 61 := by decide
                          have y_62 : (62 : Int32).toInt = 62 := by decide
                          have y_1 : (1 : Int32).toInt = 1 := by decide
                          have t_x_534 : x_534.toInt = (sv_28 : Int32).toInt + (1 : Int32).toInt := by rw [ex_534]; exact add_toInt (by omega) (by omega)
                          have yr : (1 : Int32).toInt = 1 := by decide
                          omega
                        have hm_704 : (1 : Int32).toInt = 1 → (Cd sv_691 sv_692 (Mv 5) b sv_666 (d + 1)) ∧ (RfO (pz_com (rB (Mf 1) (Mv 0)) (St0 (rB (Mf 1) (Mv 0)) (Mv 2) (Mv 6))) (rB (Mf 1) (Mv 0)) sv_664 sv_663 sv_666) ∧ (SgC sv_691 sv_692 (Mv 5) (ll ++ ec_com (rB (Mf 1) (Mv 0)) (St0 (rB (Mf 1) (Mv 0)) (Mv 2) (Mv 6)))) := by
                          intro h1r
                          have hr_705 : (rB (Mf 1) (Mv 0) (sv_28 : Int32).toInt.toNat = 60 ∨ rB (Mf 1) (Mv 0) (sv_28 : Int32).toInt.toNat = 61 ∨ rB (Mf 1) (Mv 0) (sv_28 : Int32).toInt.toNat = 62) := by
                            have z_1 : ¬ (r_13 : Int32).toInt = (0 : Int32).toInt := fun z => c_18 (Int32.toInt_inj.mp z)
                            have z_2 : ¬ (r_33 : Int32).toInt = (60 : Int32).toInt := fun z => c_36 (Int32.toInt_inj.mp z)
                            have z_3 : ¬ (r_33 : Int32).toInt = (61 : Int32).toInt := fun z => c_434 (Int32.toInt_inj.mp z)
                            have z_4 := congrArg Int32.toInt c_533
                            have z_5 : ¬ (r_33 : Int32).toInt = (61 : Int32).toInt := fun z => c_535 (Int32.toInt_inj.mp z)
                            have z_6 := Int32.lt_iff_toInt_lt.mp (Int32.not_le.mp c_536)
                            have z_7 : ¬ (x_635 : Int32).toInt = (61 : Int32).toInt := fun z => c_636 (Int32.toInt_inj.mp z)
                            have z_8 : ¬ (r_647 : Int32).toInt = (0 : Int32).toInt := fun z => c_652 (Int32.toInt_inj.mp z)
                            have z_9 : ¬ (r_33 : Int32).toInt = (60 : Int32).toInt := fun z => c_653 (Int32.toInt_inj.mp z)
                            have z_10 : ¬ (r_33 : Int32).toInt = (61 : Int32).toInt := fun z => c_654 (Int32.toInt_inj.mp z)
                            have z_11 : ¬ (r_672 : Int32).toInt = (0 : Int32).toInt := fun z => c_677 (Int32.toInt_inj.mp z)
                            have y_0 : (0 : Int32).toInt = 0 := by decide
                            have y_60 : (60 : Int32).toInt = 60 := by decide
                            have y_61 : (61 : Int32).toInt = 61 := by decide
                            have y_62 : (62 : Int32).toInt = 62 := by decide
                            have y_1 : (1 : Int32).toInt = 1 := by decide
                            have t_x_534 : x_534.toInt = (sv_28 : Int32).toInt + (1 : Int32).toInt := by rw [ex_534]; exact add_toInt (by omega) (by omega)
                            omega
                          have rg_706 := rB_rg (n := (Mv 0)) h_bs ((sv_28 : Int32).toInt.toNat + 1)
                          have hk_707 : ((Mf 1) (x_534 : Int32).toInt.toNat).toInt = ((Mf 1) ((sv_28 : Int32).toInt.toNat + 1)).toInt := congrArg (fun z => ((Mf 1) z).toInt) (by
                            have z_1 : ¬ (r_13 : Int32).toInt = (0 : Int32).toInt := fun z => c_18 (Int32.toInt_inj.mp z)
                            have z_2 : ¬ (r_33 : Int32).toInt = (60 : Int32).toInt := fun z => c_36 (Int32.toInt_inj.mp z)
                            have z_3 : ¬ (r_33 : Int32).toInt = (61 : Int32).toInt := fun z => c_434 (Int32.toInt_inj.mp z)
                            have z_4 := congrArg Int32.toInt c_533
                            have z_5 : ¬ (r_33 : Int32).toInt = (61 : Int32).toInt := fun z => c_535 (Int32.toInt_inj.mp z)
                            have z_6 := Int32.lt_iff_toInt_lt.mp (Int32.not_le.mp c_536)
                            have z_7 : ¬ (x_635 : Int32).toInt = (61 : Int32).toInt := fun z => c_636 (Int32.toInt_inj.mp z)
                            have z_8 : ¬ (r_647 : Int32).toInt = (0 : Int32).toInt := fun z => c_652 (Int32.toInt_inj.mp z)
                            have z_9 : ¬ (r_33 : Int32).toInt = (60 : Int32).toInt := fun z => c_653 (Int32.toInt_inj.mp z)
                            have z_10 : ¬ (r_33 : Int32).toInt = (61 : Int32).toInt := fun z => c_654 (Int32.toInt_inj.mp z)
                            have z_11 : ¬ (r_672 : Int32).toInt = (0 : Int32).toInt := fun z => c_677 (Int32.toInt_inj.mp z)
                            have y_0 : (0 : Int32).toInt = 0 := by decide
                            have y_60 : (60 : Int32).toInt = 60 := by decide
                            have y_61 : (61 : Int32).toInt = 61 := by decide
                            have y_62 : (62 : Int32).toInt = 62 := by decide
                            have y_1 : (1 : Int32).toInt = 1 := by decide
                            have t_x_534 : x_534.toInt = (sv_28 : Int32).toInt + (1 : Int32).toInt := by rw [ex_534]; exact add_toInt (by omega) (by omega)
                            omega)
                          have hr_708 : ((x_534 : Int32).toInt = (sv_28 : Int32).toInt + 1 ∧ ¬ ((rB (Mf 1) (Mv 0) (sv_28 : Int32).toInt.toNat = 60 ∨ rB (Mf 1) (Mv 0) (sv_28 : Int32).toInt.toNat = 62) ∧ rB (Mf 1) (Mv 0) ((sv_28 : Int32).toInt.toNat + 1) = 61)) ∨ ((x_534 : Int32).toInt = (sv_28 : Int32).toInt + 2 ∧ (rB (Mf 1) (Mv 0) (sv_28 : Int32).toInt.toNat = 60 ∨ rB (Mf 1) (Mv 0) (sv_28 : Int32).toInt.toNat = 62) ∧ rB (Mf 1) (Mv 0) ((sv_28 : Int32).toInt.toNat + 1) = 61) := by
                            have z_1 : ¬ (r_13 : Int32).toInt = (0 : Int32).toInt := fun z => c_18 (Int32.toInt_inj.mp z)
                            have z_2 : ¬ (r_33 : Int32).toInt = (60 : Int32).toInt := fun z => c_36 (Int32.toInt_inj.mp z)
                            have z_3 : ¬ (r_33 : Int32).toInt = (61 : Int32).toInt := fun z => c_434 (Int32.toInt_inj.mp z)
                            have z_4 := congrArg Int32.toInt c_533
                            have z_5 : ¬ (r_33 : Int32).toInt = (61 : Int32).toInt := fun z => c_535 (Int32.toInt_inj.mp z)
                            have z_6 := Int32.lt_iff_toInt_lt.mp (Int32.not_le.mp c_536)
                            have z_7 : ¬ (x_635 : Int32).toInt = (61 : Int32).toInt := fun z => c_636 (Int32.toInt_inj.mp z)
                            have z_8 : ¬ (r_647 : Int32).toInt = (0 : Int32).toInt := fun z => c_652 (Int32.toInt_inj.mp z)
                            have z_9 : ¬ (r_33 : Int32).toInt = (60 : Int32).toInt := fun z => c_653 (Int32.toInt_inj.mp z)
                            have z_10 : ¬ (r_33 : Int32).toInt = (61 : Int32).toInt := fun z => c_654 (Int32.toInt_inj.mp z)
                            have z_11 : ¬ (r_672 : Int32).toInt = (0 : Int32).toInt := fun z => c_677 (Int32.toInt_inj.mp z)
                            have y_0 : (0 : Int32).toInt = 0 := by decide
                            have y_60 : (60 : Int32).toInt = 60 := by decide
                            have y_61 : (61 : Int32).toInt = 61 := by decide
                            have y_62 : (62 : Int32).toInt = 62 := by decide
                            have y_1 : (1 : Int32).toInt = 1 := by decide
                            have t_x_534 : x_534.toInt = (sv_28 : Int32).toInt + (1 : Int32).toInt := by rw [ex_534]; exact add_toInt (by omega) (by omega)
                            omega
                          have hr_709 : 0 ≤ (sv_7 : Int32).toInt ∧ (sv_7 : Int32).toInt < 60 ∧ (sv_645 : Int32).toInt = (sv_7 : Int32).toInt + 1 := by
                            have z_1 : ¬ (r_13 : Int32).toInt = (0 : Int32).toInt := fun z => c_18 (Int32.toInt_inj.mp z)
                            have z_2 : ¬ (r_33 : Int32).toInt = (60 : Int32).toInt := fun z => c_36 (Int32.toInt_inj.mp z)
                            have z_3 : ¬ (r_33 : Int32).toInt = (61 : Int32).toInt := fun z => c_434 (Int32.toInt_inj.mp z)
                            have z_4 := congrArg Int32.toInt c_533
                            have z_5 : ¬ (r_33 : Int32).toInt = (61 : Int32).toInt := fun z => c_535 (Int32.toInt_inj.mp z)
                            have z_6 := Int32.lt_iff_toInt_lt.mp (Int32.not_le.mp c_536)
                            have z_7 : ¬ (x_635 : Int32).toInt = (61 : Int32).toInt := fun z => c_636 (Int32.toInt_inj.mp z)
                            have z_8 : ¬ (r_647 : Int32).toInt = (0 : Int32).toInt := fun z => c_652 (Int32.toInt_inj.mp z)
                            have z_9 : ¬ (r_33 : Int32).toInt = (60 : Int32).toInt := fun z => c_653 (Int32.toInt_inj.mp z)
                            have z_10 : ¬ (r_33 : Int32).toInt = (61 : Int32).toInt := fun z => c_654 (Int32.toInt_inj.mp z)
                            have z_11 : ¬ (r_672 : Int32).toInt = (0 : Int32).toInt := fun z => c_677 (Int32.toInt_inj.mp z)
                            have y_0 : (0 : Int32).toInt = 0 := by decide
                            have y_60 : (60 : Int32).toInt = 60 := by decide
                            have y_61 : (61 : Int32).toInt = 61 := by decide
                            have y_62 : (62 : Int32).toInt = 62 := by decide
                            have y_1 : (1 : Int32).toInt = 1 := by decide
                            have t_x_534 : x_534.toInt = (sv_28 : Int32).toInt + (1 : Int32).toInt := by rw [ex_534]; exact add_toInt (by omega) (by omega)
                            omega
                          have hr_710 : (rB (Mf 1) (Mv 0) (sv_28 : Int32).toInt.toNat = 60 ∨ rB (Mf 1) (Mv 0) (sv_28 : Int32).toInt.toNat = 61 ∨ rB (Mf 1) (Mv 0) (sv_28 : Int32).toInt.toNat = 62) := by
                            have z_1 : ¬ (r_13 : Int32).toInt = (0 : Int32).toInt := fun z => c_18 (Int32.toInt_inj.mp z)
                            have z_2 : ¬ (r_33 : Int32).toInt = (60 : Int32).toInt := fun z => c_36 (Int32.toInt_inj.mp z)
                            have z_3 : ¬ (r_33 : Int32).toInt = (61 : Int32).toInt := fun z => c_434 (Int32.toInt_inj.mp z)
                            have z_4 := congrArg Int32.toInt c_533
                            have z_5 : ¬ (r_33 : Int32).toInt = (61 : Int32).toInt := fun z => c_535 (Int32.toInt_inj.mp z)
                            have z_6 := Int32.lt_iff_toInt_lt.mp (Int32.not_le.mp c_536)
                            have z_7 : ¬ (x_635 : Int32).toInt = (61 : Int32).toInt := fun z => c_636 (Int32.toInt_inj.mp z)
                            have z_8 : ¬ (r_647 : Int32).toInt = (0 : Int32).toInt := fun z => c_652 (Int32.toInt_inj.mp z)
                            have z_9 : ¬ (r_33 : Int32).toInt = (60 : Int32).toInt := fun z => c_653 (Int32.toInt_inj.mp z)
                            have z_10 : ¬ (r_33 : Int32).toInt = (61 : Int32).toInt := fun z => c_654 (Int32.toInt_inj.mp z)
                            have z_11 : ¬ (r_672 : Int32).toInt = (0 : Int32).toInt := fun z => c_677 (Int32.toInt_inj.mp z)
                            have y_0 : (0 : Int32).toInt = 0 := by decide
                            have y_60 : (60 : Int32).toInt = 60 := by decide
                            have y_61 : (61 : Int32).toInt = 61 := by decide
                            have y_62 : (62 : Int32).toInt = 62 := by decide
                            have y_1 : (1 : Int32).toInt = 1 := by decide
                            have t_x_534 : x_534.toInt = (sv_28 : Int32).toInt + (1 : Int32).toInt := by rw [ex_534]; exact add_toInt (by omega) (by omega)
                            omega
                          have rg_711 := rB_rg (n := (Mv 0)) h_bs ((sv_28 : Int32).toInt.toNat + 1)
                          have hk_712 : ((Mf 1) (x_534 : Int32).toInt.toNat).toInt = ((Mf 1) ((sv_28 : Int32).toInt.toNat + 1)).toInt := congrArg (fun z => ((Mf 1) z).toInt) (by
                            have z_1 : ¬ (r_13 : Int32).toInt = (0 : Int32).toInt := fun z => c_18 (Int32.toInt_inj.mp z)
                            have z_2 : ¬ (r_33 : Int32).toInt = (60 : Int32).toInt := fun z => c_36 (Int32.toInt_inj.mp z)
                            have z_3 : ¬ (r_33 : Int32).toInt = (61 : Int32).toInt := fun z => c_434 (Int32.toInt_inj.mp z)
                            have z_4 := congrArg Int32.toInt c_533
                            have z_5 : ¬ (r_33 : Int32).toInt = (61 : Int32).toInt := fun z => c_535 (Int32.toInt_inj.mp z)
                            have z_6 := Int32.lt_iff_toInt_lt.mp (Int32.not_le.mp c_536)
                            have z_7 : ¬ (x_635 : Int32).toInt = (61 : Int32).toInt := fun z => c_636 (Int32.toInt_inj.mp z)
                            have z_8 : ¬ (r_647 : Int32).toInt = (0 : Int32).toInt := fun z => c_652 (Int32.toInt_inj.mp z)
                            have z_9 : ¬ (r_33 : Int32).toInt = (60 : Int32).toInt := fun z => c_653 (Int32.toInt_inj.mp z)
                            have z_10 : ¬ (r_33 : Int32).toInt = (61 : Int32).toInt := fun z => c_654 (Int32.toInt_inj.mp z)
                            have z_11 : ¬ (r_672 : Int32).toInt = (0 : Int32).toInt := fun z => c_677 (Int32.toInt_inj.mp z)
                            have y_0 : (0 : Int32).toInt = 0 := by decide
                            have y_60 : (60 : Int32).toInt = 60 := by decide
                            have y_61 : (61 : Int32).toInt = 61 := by decide
                            have y_62 : (62 : Int32).toInt = 62 := by decide
                            have y_1 : (1 : Int32).toInt = 1 := by decide
                            have t_x_534 : x_534.toInt = (sv_28 : Int32).toInt + (1 : Int32).toInt := by rw [ex_534]; exact add_toInt (by omega) (by omega)
                            omega)
                          have hr_713 : ((x_534 : Int32).toInt = (sv_28 : Int32).toInt + 1 ∧ ¬ ((rB (Mf 1) (Mv 0) (sv_28 : Int32).toInt.toNat = 60 ∨ rB (Mf 1) (Mv 0) (sv_28 : Int32).toInt.toNat = 62) ∧ rB (Mf 1) (Mv 0) ((sv_28 : Int32).toInt.toNat + 1) = 61)) ∨ ((x_534 : Int32).toInt = (sv_28 : Int32).toInt + 2 ∧ (rB (Mf 1) (Mv 0) (sv_28 : Int32).toInt.toNat = 60 ∨ rB (Mf 1) (Mv 0) (sv_28 : Int32).toInt.toNat = 62) ∧ rB (Mf 1) (Mv 0) ((sv_28 : Int32).toInt.toNat + 1) = 61) := by
                            have z_1 : ¬ (r_13 : Int32).toInt = (0 : Int32).toInt := fun z => c_18 (Int32.toInt_inj.mp z)
                            have z_2 : ¬ (r_33 : Int32).toInt = (60 : Int32).toInt := fun z => c_36 (Int32.toInt_inj.mp z)
                            have z_3 : ¬ (r_33 : Int32).toInt = (61 : Int32).toInt := fun z => c_434 (Int32.toInt_inj.mp z)
                            have z_4 := congrArg Int32.toInt c_533
                            have z_5 : ¬ (r_33 : Int32).toInt = (61 : Int32).toInt := fun z => c_535 (Int32.toInt_inj.mp z)
                            have z_6 := Int32.lt_iff_toInt_lt.mp (Int32.not_le.mp c_536)
                            have z_7 : ¬ (x_635 : Int32).toInt = (61 : Int32).toInt := fun z => c_636 (Int32.toInt_inj.mp z)
                            have z_8 : ¬ (r_647 : Int32).toInt = (0 : Int32).toInt := fun z => c_652 (Int32.toInt_inj.mp z)
                            have z_9 : ¬ (r_33 : Int32).toInt = (60 : Int32).toInt := fun z => c_653 (Int32.toInt_inj.mp z)
                            have z_10 : ¬ (r_33 : Int32).toInt = (61 : Int32).toInt := fun z => c_654 (Int32.toInt_inj.mp z)
                            have z_11 : ¬ (r_672 : Int32).toInt = (0 : Int32).toInt := fun z => c_677 (Int32.toInt_inj.mp z)
                            have y_0 : (0 : Int32).toInt = 0 := by decide
                            have y_60 : (60 : Int32).toInt = 60 := by decide
                            have y_61 : (61 : Int32).toInt = 61 := by decide
                            have y_62 : (62 : Int32).toInt = 62 := by decide
                            have y_1 : (1 : Int32).toInt = 1 := by decide
                            have t_x_534 : x_534.toInt = (sv_28 : Int32).toInt + (1 : Int32).toInt := by rw [ex_534]; exact add_toInt (by omega) (by omega)
                            omega
                          have hr_714 : (rB (Mf 1) (Mv 0) (sv_28 : Int32).toInt.toNat = 60 ∧ (x_534 : Int32).toInt = (sv_28 : Int32).toInt + 1 ∧ (-11 : Int) = -7) ∨ (rB (Mf 1) (Mv 0) (sv_28 : Int32).toInt.toNat = 60 ∧ (x_534 : Int32).toInt = (sv_28 : Int32).toInt + 2 ∧ (-11 : Int) = -8) ∨ (rB (Mf 1) (Mv 0) (sv_28 : Int32).toInt.toNat = 61 ∧ (-11 : Int) = -9) ∨ (rB (Mf 1) (Mv 0) (sv_28 : Int32).toInt.toNat = 62 ∧ (x_534 : Int32).toInt = (sv_28 : Int32).toInt + 2 ∧ (-11 : Int) = -10) ∨ (rB (Mf 1) (Mv 0) (sv_28 : Int32).toInt.toNat = 62 ∧ (x_534 : Int32).toInt = (sv_28 : Int32).toInt + 1 ∧ (-11 : Int) = -11) := by
                            have z_1 : ¬ (r_13 : Int32).toInt = (0 : Int32).toInt := fun z => c_18 (Int32.toInt_inj.mp z)
                            have z_2 : ¬ (r_33 : Int32).toInt = (60 : Int32).toInt := fun z => c_36 (Int32.toInt_inj.mp z)
                            have z_3 : ¬ (r_33 : Int32).toInt = (61 : Int32).toInt := fun z => c_434 (Int32.toInt_inj.mp z)
                            have z_4 := congrArg Int32.toInt c_533
                            have z_5 : ¬ (r_33 : Int32).toInt = (61 : Int32).toInt := fun z => c_535 (Int32.toInt_inj.mp z)
                            have z_6 := Int32.lt_iff_toInt_lt.mp (Int32.not_le.mp c_536)
                            have z_7 : ¬ (x_635 : Int32).toInt = (61 : Int32).toInt := fun z => c_636 (Int32.toInt_inj.mp z)
                            have z_8 : ¬ (r_647 : Int32).toInt = (0 : Int32).toInt := fun z => c_652 (Int32.toInt_inj.mp z)
                            have z_9 : ¬ (r_33 : Int32).toInt = (60 : Int32).toInt := fun z => c_653 (Int32.toInt_inj.mp z)
                            have z_10 : ¬ (r_33 : Int32).toInt = (61 : Int32).toInt := fun z => c_654 (Int32.toInt_inj.mp z)
                            have z_11 : ¬ (r_672 : Int32).toInt = (0 : Int32).toInt := fun z => c_677 (Int32.toInt_inj.mp z)
                            have y_0 : (0 : Int32).toInt = 0 := by decide
                            have y_60 : (60 : Int32).toInt = 60 := by decide
                            have y_61 : (61 : Int32).toInt = 61 := by decide
                            have y_62 : (62 : Int32).toInt = 62 := by decide
                            have y_1 : (1 : Int32).toInt = 1 := by decide
                            have t_x_534 : x_534.toInt = (sv_28 : Int32).toInt + (1 : Int32).toInt := by rw [ex_534]; exact add_toInt (by omega) (by omega)
                            omega
                          have hu_715 : SgC sv_691 sv_692 (Mv 5) (((ll ++ lsum (rB (Mf 1) (Mv 0)) (St0 (rB (Mf 1) (Mv 0)) (Mv 2) (Mv 6))) ++ lsum (rB (Mf 1) (Mv 0)) (St0 (rB (Mf 1) (Mv 0)) x_534 sv_645)) ++ [(-11)]) := by
                            rw [← elo_23, ← elo_682, ← elo_697]
                            exact pf_696
                          have hs_716 : SgC sv_691 sv_692 (Mv 5) (ll ++ ec_com (rB (Mf 1) (Mv 0)) (St0 (rB (Mf 1) (Mv 0)) (Mv 2) (Mv 6))) := by
                            rw [com_ls (o := -11) (md1 := sv_645) pf_20 pf_32 hr_710 hr_713 (ec_c_at pf_32 hr_713 hr_714)]
                            exact hu_715
                          exact ⟨pf_693, (RfO.com pf_20 pf_32 hr_705 hr_708 hr_709 pf_679), hs_716⟩
                        exact retI (v := 1) hx hb hr hlk (rfl) hP hD hS (sv_663, sv_664, sv_665, sv_666, sv_691, sv_692) ⟨_, rfl, hp_703, ha_698, ha_699, (Agr.trans (k' := (400 * ((Mv 5) : Int32).toInt + ((Mf 3) (Mv 5).toNatClampNeg).toInt)) (Agr.trans (k' := (400 * ((Mv 5) : Int32).toInt + ((Mf 3) (Mv 5).toNatClampNeg).toInt)) (Agr.mono pf_12 hr_700) pf_671 ⟨Int.le_refl _, hr_701⟩) pf_694 ⟨Int.le_refl _, hr_702⟩), hm_704, (fun h => absurd h (by decide))⟩ [1, 0, 2, 3] rfl rfl dX12_compare_174 (Nat.le_of_ble_eq_true rfl) (Nat.le_of_ble_eq_true rfl) rfl
                      · skip
                        have hz_718 : (r_672 : Int32).toInt = 0 := by
                          have z_1 : ¬ (r_13 : Int32).toInt = (0 : Int32).toInt := fun z => c_18 (Int32.toInt_inj.mp z)
                          have z_2 : ¬ (r_33 : Int32).toInt = (60 : Int32).toInt := fun z => c_36 (Int32.toInt_inj.mp z)
                          have z_3 : ¬ (r_33 : Int32).toInt = (61 : Int32).toInt := fun z => c_434 (Int32.toInt_inj.mp z)
                          have z_4 := congrArg Int32.toInt c_533
                          have z_5 : ¬ (r_33 : Int32).toInt = (61 : Int32).toInt := fun z => c_535 (Int32.toInt_inj.mp z)
                          have z_6 := Int32.lt_iff_toInt_lt.mp (Int32.not_le.mp c_536)
                          have z_7 : ¬ (x_635 : Int32).toInt = (61 : Int32).toInt := fun z => c_636 (Int32.toInt_inj.mp z)
                          have z_8 : ¬ (r_647 : Int32).toInt = (0 : Int32).toInt := fun z => c_652 (Int32.toInt_inj.mp z)
                          have z_9 : ¬ (r_33 : Int32).toInt = (60 : Int32).toInt := fun z => c_653 (Int32.toInt_inj.mp z)
                          have z_10 : ¬ (r_33 : Int32).toInt = (61 : Int32).toInt := fun z => c_654 (Int32.toInt_inj.mp z)
                          have z_11 := congrArg Int32.toInt c_677
                          have y_0 : (0 : Int32).toInt = 0 := by decide
                          have y_60 : (60 : Int32).toInt = 60 := by decide
                          have y_61 : (61 : Int32).toInt = 61 := by decide
                          have y_62 : (62 : Int32).toInt = 62 := by decide
                          have y_1 : (1 : Int32).toInt = 1 := by decide
                          have t_x_534 : x_534.toInt = (sv_28 : Int32).toInt + (1 : Int32).toInt := by rw [ex_534]; exact add_toInt (by omega) (by omega)
                          omega
                        obtain pf_717 := hm_676 hz_718
                        have pf_717 : RfE (pz_sum (rB (Mf 1) (Mv 0)) (St0 (rB (Mf 1) (Mv 0)) x_534 sv_645)) sv_664 := pf_717
                        refine lv_iconst (v := 0) hx hb dX12_compare_161 (by decide) ?_
                        have ha_719 : ((Mv 2) : Int32).toInt ≤ (sv_663 : Int32).toInt ∧ (sv_663 : Int32).toInt ≤ ((Mv 0) : Int32).toInt := by
                          have z_1 : ¬ (r_13 : Int32).toInt = (0 : Int32).toInt := fun z => c_18 (Int32.toInt_inj.mp z)
                          have z_2 : ¬ (r_33 : Int32).toInt = (60 : Int32).toInt := fun z => c_36 (Int32.toInt_inj.mp z)
                          have z_3 : ¬ (r_33 : Int32).toInt = (61 : Int32).toInt := fun z => c_434 (Int32.toInt_inj.mp z)
                          have z_4 := congrArg Int32.toInt c_533
                          have z_5 : ¬ (r_33 : Int32).toInt = (61 : Int32).toInt := fun z => c_535 (Int32.toInt_inj.mp z)
                          have z_6 := Int32.lt_iff_toInt_lt.mp (Int32.not_le.mp c_536)
                          have z_7 : ¬ (x_635 : Int32).toInt = (61 : Int32).toInt := fun z => c_636 (Int32.toInt_inj.mp z)
                          have z_8 : ¬ (r_647 : Int32).toInt = (0 : Int32).toInt := fun z => c_652 (Int32.toInt_inj.mp z)
                          have z_9 : ¬ (r_33 : Int32).toInt = (60 : Int32).toInt := fun z => c_653 (Int32.toInt_inj.mp z)
                          have z_10 : ¬ (r_33 : Int32).toInt = (61 : Int32).toInt := fun z => c_654 (Int32.toInt_inj.mp z)
                          have z_11 := congrArg Int32.toInt c_677
                          have y_0 : (0 : Int32).toInt = 0 := by decide
                          have y_60 : (60 : Int32).toInt = 60 := by decide
                          have y_61 : (61 : Int32).toInt = 61 := by decide
                          have y_62 : (62 : Int32).toInt = 62 := by decide
                          have y_1 : (1 : Int32).toInt = 1 := by decide
                          have t_x_534 : x_534.toInt = (sv_28 : Int32).toInt + (1 : Int32).toInt := by rw [ex_534]; exact add_toInt (by omega) (by omega)
                          omega
                        have ha_720 : ((Mv 6) : Int32).toInt ≤ (sv_666 : Int32).toInt ∧ (sv_666 : Int32).toInt ≤ 60 := by
                          have z_1 : ¬ (r_13 : Int32).toInt = (0 : Int32).toInt := fun z => c_18 (Int32.toInt_inj.mp z)
                          have z_2 : ¬ (r_33 : Int32).toInt = (60 : Int32).toInt := fun z => c_36 (Int32.toInt_inj.mp z)
                          have z_3 : ¬ (r_33 : Int32).toInt = (61 : Int32).toInt := fun z => c_434 (Int32.toInt_inj.mp z)
                          have z_4 := congrArg Int32.toInt c_533
                          have z_5 : ¬ (r_33 : Int32).toInt = (61 : Int32).toInt := fun z => c_535 (Int32.toInt_inj.mp z)
                          have z_6 := Int32.lt_iff_toInt_lt.mp (Int32.not_le.mp c_536)
                          have z_7 : ¬ (x_635 : Int32).toInt = (61 : Int32).toInt := fun z => c_636 (Int32.toInt_inj.mp z)
                          have z_8 : ¬ (r_647 : Int32).toInt = (0 : Int32).toInt := fun z => c_652 (Int32.toInt_inj.mp z)
                          have z_9 : ¬ (r_33 : Int32).toInt = (60 : Int32).toInt := fun z => c_653 (Int32.toInt_inj.mp z)
                          have z_10 : ¬ (r_33 : Int32).toInt = (61 : Int32).toInt := fun z => c_654 (Int32.toInt_inj.mp z)
                          have z_11 := congrArg Int32.toInt c_677
                          have y_0 : (0 : Int32).toInt = 0 := by decide
                          have y_60 : (60 : Int32).toInt = 60 := by decide
                          have y_61 : (61 : Int32).toInt = 61 := by decide
                          have y_62 : (62 : Int32).toInt = 62 := by decide
                          have y_1 : (1 : Int32).toInt = 1 := by decide
                          have t_x_534 : x_534.toInt = (sv_28 : Int32).toInt + (1 : Int32).toInt := by rw [ex_534]; exact add_toInt (by omega) (by omega)
                          omega
                        have hr_721 : (400 * ((Mv 5) : Int32).toInt + ((Mf 3) (Mv 5).toNatClampNeg).toInt) ≤ (400 * ((Mv 5) : Int32).toInt + ((Mf 3) (Mv 5).toNatClampNeg).toInt) := by
                          have z_1 : ¬ (r_13 : Int32).toInt = (0 : Int32).toInt := fun z => c_18 (Int32.toInt_inj.mp z)
                          have z_2 : ¬ (r_33 : Int32).toInt = (60 : Int32).toInt := fun z => c_36 (Int32.toInt_inj.mp z)
                          have z_3 : ¬ (r_33 : Int32).toInt = (61 : Int32).toInt := fun z => c_434 (Int32.toInt_inj.mp z)
                          have z_4 := congrArg Int32.toInt c_533
                          have z_5 : ¬ (r_33 : Int32).toInt = (61 : Int32).toInt := fun z => c_535 (Int32.toInt_inj.mp z)
                          have z_6 := Int32.lt_iff_toInt_lt.mp (Int32.not_le.mp c_536)
                          have z_7 : ¬ (x_635 : Int32).toInt = (61 : Int32).toInt := fun z => c_636 (Int32.toInt_inj.mp z)
                          have z_8 : ¬ (r_647 : Int32).toInt = (0 : Int32).toInt := fun z => c_652 (Int32.toInt_inj.mp z)
                          have z_9 : ¬ (r_33 : Int32).toInt = (60 : Int32).toInt := fun z => c_653 (Int32.toInt_inj.mp z)
                          have z_10 : ¬ (r_33 : Int32).toInt = (61 : Int32).toInt := fun z => c_654 (Int32.toInt_inj.mp z)
                          have z_11 := congrArg Int32.toInt c_677
                          have y_0 : (0 : Int32).toInt = 0 := by decide
                          have y_60 : (60 : Int32).toInt = 60 := by decide
                          have y_61 : (61 : Int32).toInt = 61 := by decide
                          have y_62 : (62 : Int32).toInt = 62 := by decide
                          have y_1 : (1 : Int32).toInt = 1 := by decide
                          have t_x_534 : x_534.toInt = (sv_28 : Int32).toInt + (1 : Int32).toInt := by rw [ex_534]; exact add_toInt (by omega) (by omega)
                          omega
                        have hr_722 : (400 * ((Mv 5) : Int32).toInt + ((Mf 3) (Mv 5).toNatClampNeg).toInt) ≤ (400 * ((Mv 5) : Int32).toInt + (sv_9 (Mv 5).toNatClampNeg).toInt) := by
                          have z_1 : ¬ (r_13 : Int32).toInt = (0 : Int32).toInt := fun z => c_18 (Int32.toInt_inj.mp z)
                          have z_2 : ¬ (r_33 : Int32).toInt = (60 : Int32).toInt := fun z => c_36 (Int32.toInt_inj.mp z)
                          have z_3 : ¬ (r_33 : Int32).toInt = (61 : Int32).toInt := fun z => c_434 (Int32.toInt_inj.mp z)
                          have z_4 := congrArg Int32.toInt c_533
                          have z_5 : ¬ (r_33 : Int32).toInt = (61 : Int32).toInt := fun z => c_535 (Int32.toInt_inj.mp z)
                          have z_6 := Int32.lt_iff_toInt_lt.mp (Int32.not_le.mp c_536)
                          have z_7 : ¬ (x_635 : Int32).toInt = (61 : Int32).toInt := fun z => c_636 (Int32.toInt_inj.mp z)
                          have z_8 : ¬ (r_647 : Int32).toInt = (0 : Int32).toInt := fun z => c_652 (Int32.toInt_inj.mp z)
                          have z_9 : ¬ (r_33 : Int32).toInt = (60 : Int32).toInt := fun z => c_653 (Int32.toInt_inj.mp z)
                          have z_10 : ¬ (r_33 : Int32).toInt = (61 : Int32).toInt := fun z => c_654 (Int32.toInt_inj.mp z)
                          have z_11 := congrArg Int32.toInt c_677
                          have y_0 : (0 : Int32).toInt = 0 := by decide
                          have y_60 : (60 : Int32).toInt = 60 := by decide
                          have y_61 : (61 : Int32).toInt = 61 := by decide
                          have y_62 : (62 : Int32).toInt = 62 := by decide
                          have y_1 : (1 : Int32).toInt = 1 := by decide
                          have t_x_534 : x_534.toInt = (sv_28 : Int32).toInt + (1 : Int32).toInt := by rw [ex_534]; exact add_toInt (by omega) (by omega)
                          omega
                        have hp_723 : (((0 : Int32).toInt = 0 ∧ ¬ (sv_664 : Int32).toInt = 0) ∨ ((0 : Int32).toInt = 1 ∧ ((Mf 3) (Mv 5).toNatClampNeg).toInt + 1 ≤ (sv_668 (Mv 5).toNatClampNeg).toInt ∧ (sv_668 (Mv 5).toNatClampNeg).toInt + ((Mv 2) : Int32).toInt ≤ ((Mf 3) (Mv 5).toNatClampNeg).toInt + (sv_663 : Int32).toInt ∧ ((Mv 2) : Int32).toInt + 1 ≤ (sv_663 : Int32).toInt)) := by
                          have z_1 : ¬ (r_13 : Int32).toInt = (0 : Int32).toInt := fun z => c_18 (Int32.toInt_inj.mp z)
                          have z_2 : ¬ (r_33 : Int32).toInt = (60 : Int32).toInt := fun z => c_36 (Int32.toInt_inj.mp z)
                          have z_3 : ¬ (r_33 : Int32).toInt = (61 : Int32).toInt := fun z => c_434 (Int32.toInt_inj.mp z)
                          have z_4 := congrArg Int32.toInt c_533
                          have z_5 : ¬ (r_33 : Int32).toInt = (61 : Int32).toInt := fun z => c_535 (Int32.toInt_inj.mp z)
                          have z_6 := Int32.lt_iff_toInt_lt.mp (Int32.not_le.mp c_536)
                          have z_7 : ¬ (x_635 : Int32).toInt = (61 : Int32).toInt := fun z => c_636 (Int32.toInt_inj.mp z)
                          have z_8 : ¬ (r_647 : Int32).toInt = (0 : Int32).toInt := fun z => c_652 (Int32.toInt_inj.mp z)
                          have z_9 : ¬ (r_33 : Int32).toInt = (60 : Int32).toInt := fun z => c_653 (Int32.toInt_inj.mp z)
                          have z_10 : ¬ (r_33 : Int32).toInt = (61 : Int32).toInt := fun z => c_654 (Int32.toInt_inj.mp z)
                          have z_11 := congrArg Int32.toInt c_677
                          have y_0 : (0 : Int32).toInt = 0 := by decide
                          have y_60 : (60 : Int32).toInt = 60 := by decide
                          have y_61 : (61 : Int32).toInt = 61 := by decide
                          have y_62 : (62 : Int32).toInt = 62 := by decide
                          have y_1 : (1 : Int32).toInt = 1 := by decide
                          have t_x_534 : x_534.toInt = (sv_28 : Int32).toInt + (1 : Int32).toInt := by rw [ex_534]; exact add_toInt (by omega) (by omega)
                          omega
                        have hm_724 : (0 : Int32).toInt = 0 → (RfE (pz_com (rB (Mf 1) (Mv 0)) (St0 (rB (Mf 1) (Mv 0)) (Mv 2) (Mv 6))) sv_664) := by
                          intro h1r
                          have hr_725 : (rB (Mf 1) (Mv 0) (sv_28 : Int32).toInt.toNat = 60 ∨ rB (Mf 1) (Mv 0) (sv_28 : Int32).toInt.toNat = 61 ∨ rB (Mf 1) (Mv 0) (sv_28 : Int32).toInt.toNat = 62) := by
                            have z_1 : ¬ (r_13 : Int32).toInt = (0 : Int32).toInt := fun z => c_18 (Int32.toInt_inj.mp z)
                            have z_2 : ¬ (r_33 : Int32).toInt = (60 : Int32).toInt := fun z => c_36 (Int32.toInt_inj.mp z)
                            have z_3 : ¬ (r_33 : Int32).toInt = (61 : Int32).toInt := fun z => c_434 (Int32.toInt_inj.mp z)
                            have z_4 := congrArg Int32.toInt c_533
                            have z_5 : ¬ (r_33 : Int32).toInt = (61 : Int32).toInt := fun z => c_535 (Int32.toInt_inj.mp z)
                            have z_6 := Int32.lt_iff_toInt_lt.mp (Int32.not_le.mp c_536)
                            have z_7 : ¬ (x_635 : Int32).toInt = (61 : Int32).toInt := fun z => c_636 (Int32.toInt_inj.mp z)
                            have z_8 : ¬ (r_647 : Int32).toInt = (0 : Int32).toInt := fun z => c_652 (Int32.toInt_inj.mp z)
                            have z_9 : ¬ (r_33 : Int32).toInt = (60 : Int32).toInt := fun z => c_653 (Int32.toInt_inj.mp z)
                            have z_10 : ¬ (r_33 : Int32).toInt = (61 : Int32).toInt := fun z => c_654 (Int32.toInt_inj.mp z)
                            have z_11 := congrArg Int32.toInt c_677
                            have y_0 : (0 : Int32).toInt = 0 := by decide
                            have y_60 : (60 : Int32).toInt = 60 := by decide
                            have y_61 : (61 : Int32).toInt = 61 := by decide
                            have y_62 : (62 : Int32).toInt = 62 := by decide
                            have y_1 : (1 : Int32).toInt = 1 := by decide
                            have t_x_534 : x_534.toInt = (sv_28 : Int32).toInt + (1 : Int32).toInt := by rw [ex_534]; exact add_toInt (by omega) (by omega)
                            omega
                          have rg_726 := rB_rg (n := (Mv 0)) h_bs ((sv_28 : Int32).toInt.toNat + 1)
                          have hk_727 : ((Mf 1) (x_534 : Int32).toInt.toNat).toInt = ((Mf 1) ((sv_28 : Int32).toInt.toNat + 1)).toInt := congrArg (fun z => ((Mf 1) z).toInt) (by
                            have z_1 : ¬ (r_13 : Int32).toInt = (0 : Int32).toInt := fun z => c_18 (Int32.toInt_inj.mp z)
                            have z_2 : ¬ (r_33 : Int32).toInt = (60 : Int32).toInt := fun z => c_36 (Int32.toInt_inj.mp z)
                            have z_3 : ¬ (r_33 : Int32).toInt = (61 : Int32).toInt := fun z => c_434 (Int32.toInt_inj.mp z)
                            have z_4 := congrArg Int32.toInt c_533
                            have z_5 : ¬ (r_33 : Int32).toInt = (61 : Int32).toInt := fun z => c_535 (Int32.toInt_inj.mp z)
                            have z_6 := Int32.lt_iff_toInt_lt.mp (Int32.not_le.mp c_536)
                            have z_7 : ¬ (x_635 : Int32).toInt = (61 : Int32).toInt := fun z => c_636 (Int32.toInt_inj.mp z)
                            have z_8 : ¬ (r_647 : Int32).toInt = (0 : Int32).toInt := fun z => c_652 (Int32.toInt_inj.mp z)
                            have z_9 : ¬ (r_33 : Int32).toInt = (60 : Int32).toInt := fun z => c_653 (Int32.toInt_inj.mp z)
                            have z_10 : ¬ (r_33 : Int32).toInt = (61 : Int32).toInt := fun z => c_654 (Int32.toInt_inj.mp z)
                            have z_11 := congrArg Int32.toInt c_677
                            have y_0 : (0 : Int32).toInt = 0 := by decide
                            have y_60 : (60 : Int32).toInt = 60 := by decide
                            have y_61 : (61 : Int32).toInt = 61 := by decide
                            have y_62 : (62 : Int32).toInt = 62 := by decide
                            have y_1 : (1 : Int32).toInt = 1 := by decide
                            have t_x_534 : x_534.toInt = (sv_28 : Int32).toInt + (1 : Int32).toInt := by rw [ex_534]; exact add_toInt (by omega) (by omega)
                            omega)
                          have hr_728 : ((x_534 : Int32).toInt = (sv_28 : Int32).toInt + 1 ∧ ¬ ((rB (Mf 1) (Mv 0) (sv_28 : Int32).toInt.toNat = 60 ∨ rB (Mf 1) (Mv 0) (sv_28 : Int32).toInt.toNat = 62) ∧ rB (Mf 1) (Mv 0) ((sv_28 : Int32).toInt.toNat + 1) = 61)) ∨ ((x_534 : Int32).toInt = (sv_28 : Int32).toInt + 2 ∧ (rB (Mf 1) (Mv 0) (sv_28 : Int32).toInt.toNat = 60 ∨ rB (Mf 1) (Mv 0) (sv_28 : Int32).toInt.toNat = 62) ∧ rB (Mf 1) (Mv 0) ((sv_28 : Int32).toInt.toNat + 1) = 61) := by
                            have z_1 : ¬ (r_13 : Int32).toInt = (0 : Int32).toInt := fun z => c_18 (Int32.toInt_inj.mp z)
                            have z_2 : ¬ (r_33 : Int32).toInt = (60 : Int32).toInt := fun z => c_36 (Int32.toInt_inj.mp z)
                            have z_3 : ¬ (r_33 : Int32).toInt = (61 : Int32).toInt := fun z => c_434 (Int32.toInt_inj.mp z)
                            have z_4 := congrArg Int32.toInt c_533
                            have z_5 : ¬ (r_33 : Int32).toInt = (61 : Int32).toInt := fun z => c_535 (Int32.toInt_inj.mp z)
                            have z_6 := Int32.lt_iff_toInt_lt.mp (Int32.not_le.mp c_536)
                            have z_7 : ¬ (x_635 : Int32).toInt = (61 : Int32).toInt := fun z => c_636 (Int32.toInt_inj.mp z)
                            have z_8 : ¬ (r_647 : Int32).toInt = (0 : Int32).toInt := fun z => c_652 (Int32.toInt_inj.mp z)
                            have z_9 : ¬ (r_33 : Int32).toInt = (60 : Int32).toInt := fun z => c_653 (Int32.toInt_inj.mp z)
                            have z_10 : ¬ (r_33 : Int32).toInt = (61 : Int32).toInt := fun z => c_654 (Int32.toInt_inj.mp z)
                            have z_11 := congrArg Int32.toInt c_677
                            have y_0 : (0 : Int32).toInt = 0 := by decide
                            have y_60 : (60 : Int32).toInt = 60 := by decide
                            have y_61 : (61 : Int32).toInt = 61 := by decide
                            have y_62 : (62 : Int32).toInt = 62 := by decide
                            have y_1 : (1 : Int32).toInt = 1 := by decide
                            have t_x_534 : x_534.toInt = (sv_28 : Int32).toInt + (1 : Int32).toInt := by rw [ex_534]; exact add_toInt (by omega) (by omega)
                            omega
                          have hr_729 : 0 ≤ (sv_7 : Int32).toInt ∧ (sv_7 : Int32).toInt < 60 ∧ (sv_645 : Int32).toInt = (sv_7 : Int32).toInt + 1 := by
                            have z_1 : ¬ (r_13 : Int32).toInt = (0 : Int32).toInt := fun z => c_18 (Int32.toInt_inj.mp z)
                            have z_2 : ¬ (r_33 : Int32).toInt = (60 : Int32).toInt := fun z => c_36 (Int32.toInt_inj.mp z)
                            have z_3 : ¬ (r_33 : Int32).toInt = (61 : Int32).toInt := fun z => c_434 (Int32.toInt_inj.mp z)
                            have z_4 := congrArg Int32.toInt c_533
                            have z_5 : ¬ (r_33 : Int32).toInt = (61 : Int32).toInt := fun z => c_535 (Int32.toInt_inj.mp z)
                            have z_6 := Int32.lt_iff_toInt_lt.mp (Int32.not_le.mp c_536)
                            have z_7 : ¬ (x_635 : Int32).toInt = (61 : Int32).toInt := fun z => c_636 (Int32.toInt_inj.mp z)
                            have z_8 : ¬ (r_647 : Int32).toInt = (0 : Int32).toInt := fun z => c_652 (Int32.toInt_inj.mp z)
                            have z_9 : ¬ (r_33 : Int32).toInt = (60 : Int32).toInt := fun z => c_653 (Int32.toInt_inj.mp z)
                            have z_10 : ¬ (r_33 : Int32).toInt = (61 : Int32).toInt := fun z => c_654 (Int32.toInt_inj.mp z)
                            have z_11 := congrArg Int32.toInt c_677
                            have y_0 : (0 : Int32).toInt = 0 := by decide
                            have y_60 : (60 : Int32).toInt = 60 := by decide
                            have y_61 : (61 : Int32).toInt = 61 := by decide
                            have y_62 : (62 : Int32).toInt = 62 := by decide
                            have y_1 : (1 : Int32).toInt = 1 := by decide
                            have t_x_534 : x_534.toInt = (sv_28 : Int32).toInt + (1 : Int32).toInt := by rw [ex_534]; exact add_toInt (by omega) (by omega)
                            omega
                          exact (RfE.com2 pf_20 pf_32 hr_725 hr_728 hr_729 pf_717)
                        exact retI (v := 0) hx hb hr hlk (rfl) hP hD hS (sv_663, sv_664, sv_665, sv_666, sv_667, sv_668) ⟨_, rfl, hp_723, ha_719, ha_720, (Agr.trans (k' := (400 * ((Mv 5) : Int32).toInt + ((Mf 3) (Mv 5).toNatClampNeg).toInt)) (Agr.mono pf_12 hr_721) pf_671 ⟨Int.le_refl _, hr_722⟩), (fun h => absurd h (by decide)), hm_724⟩ [0, 1, 2, 3] rfl rfl dX12_compare_162 (Nat.le_of_ble_eq_true rfl) (Nat.le_of_ble_eq_true rfl) rfl
                    · skip
                      exfalso
                      have z_1 : ¬ (r_13 : Int32).toInt = (0 : Int32).toInt := fun z => c_18 (Int32.toInt_inj.mp z)
                      have z_2 : ¬ (r_33 : Int32).toInt = (60 : Int32).toInt := fun z => c_36 (Int32.toInt_inj.mp z)
                      have z_3 : ¬ (r_33 : Int32).toInt = (61 : Int32).toInt := fun z => c_434 (Int32.toInt_inj.mp z)
                      have z_4 := congrArg Int32.toInt c_533
                      have z_5 : ¬ (r_33 : Int32).toInt = (61 : Int32).toInt := fun z => c_535 (Int32.toInt_inj.mp z)
                      have z_6 := Int32.lt_iff_toInt_lt.mp (Int32.not_le.mp c_536)
                      have z_7 : ¬ (x_635 : Int32).toInt = (61 : Int32).toInt := fun z => c_636 (Int32.toInt_inj.mp z)
                      have z_8 : ¬ (r_647 : Int32).toInt = (0 : Int32).toInt := fun z => c_652 (Int32.toInt_inj.mp z)
                      have z_9 : ¬ (r_33 : Int32).toInt = (60 : Int32).toInt := fun z => c_653 (Int32.toInt_inj.mp z)
                      have z_10 := congrArg Int32.toInt c_654
                      have y_0 : (0 : Int32).toInt = 0 := by decide
                      have y_60 : (60 : Int32).toInt = 60 := by decide
                      have y_61 : (61 : Int32).toInt = 61 := by decide
                      have y_62 : (62 : Int32).toInt = 62 := by decide
                      have y_1 : (1 : Int32).toInt = 1 := by decide
                      have t_x_534 : x_534.toInt = (sv_28 : Int32).toInt + (1 : Int32).toInt := by rw [ex_534]; exact add_toInt (by omega) (by omega)
                      omega
                  · skip
                    exfalso
                    have z_1 : ¬ (r_13 : Int32).toInt = (0 : Int32).toInt := fun z => c_18 (Int32.toInt_inj.mp z)
                    have z_2 : ¬ (r_33 : Int32).toInt = (60 : Int32).toInt := fun z => c_36 (Int32.toInt_inj.mp z)
                    have z_3 : ¬ (r_33 : Int32).toInt = (61 : Int32).toInt := fun z => c_434 (Int32.toInt_inj.mp z)
                    have z_4 := congrArg Int32.toInt c_533
                    have z_5 : ¬ (r_33 : Int32).toInt = (61 : Int32).toInt := fun z => c_535 (Int32.toInt_inj.mp z)
                    have z_6 := Int32.lt_iff_toInt_lt.mp (Int32.not_le.mp c_536)
                    have z_7 : ¬ (x_635 : Int32).toInt = (61 : Int32).toInt := fun z => c_636 (Int32.toInt_inj.mp z)
                    have z_8 : ¬ (r_647 : Int32).toInt = (0 : Int32).toInt := fun z => c_652 (Int32.toInt_inj.mp z)
                    have z_9 := congrArg Int32.toInt c_653
                    have y_0 : (0 : Int32).toInt = 0 := by decide
                    have y_60 : (60 : Int32).toInt = 60 := by decide
                    have y_61 : (61 : Int32).toInt = 61 := by decide
                    have y_62 : (62 : Int32).toInt = 62 := by decide
                    have y_1 : (1 : Int32).toInt = 1 := by decide
                    have t_x_534 : x_534.toInt = (sv_28 : Int32).toInt + (1 : Int32).toInt := by rw [ex_534]; exact add_toInt (by omega) (by omega)
                    omega
                · skip
                  refine lv_iconst (v := 0) hx hb dX12_compare_113 (by decide) ?_
                  have ha_730 : ((Mv 2) : Int32).toInt ≤ (x_534 : Int32).toInt ∧ (x_534 : Int32).toInt ≤ ((Mv 0) : Int32).toInt := by
                    have z_1 : ¬ (r_13 : Int32).toInt = (0 : Int32).toInt := fun z => c_18 (Int32.toInt_inj.mp z)
                    have z_2 : ¬ (r_33 : Int32).toInt = (60 : Int32).toInt := fun z => c_36 (Int32.toInt_inj.mp z)
                    have z_3 : ¬ (r_33 : Int32).toInt = (61 : Int32).toInt := fun z => c_434 (Int32.toInt_inj.mp z)
                    have z_4 := congrArg Int32.toInt c_533
                    have z_5 : ¬ (r_33 : Int32).toInt = (61 : Int32).toInt := fun z => c_535 (Int32.toInt_inj.mp z)
                    have z_6 := Int32.lt_iff_toInt_lt.mp (Int32.not_le.mp c_536)
                    have z_7 : ¬ (x_635 : Int32).toInt = (61 : Int32).toInt := fun z => c_636 (Int32.toInt_inj.mp z)
                    have z_8 := congrArg Int32.toInt c_652
                    have y_0 : (0 : Int32).toInt = 0 := by decide
                    have y_60 : (60 : Int32).toInt = 60 := by decide
                    have y_61 : (61 : Int32).toInt = 61 := by decide
                    have y_62 : (62 : Int32).toInt = 62 := by decide
                    have y_1 : (1 : Int32).toInt = 1 := by decide
                    have t_x_534 : x_534.toInt = (sv_28 : Int32).toInt + (1 : Int32).toInt := by rw [ex_534]; exact add_toInt (by omega) (by omega)
                    omega
                  have ha_731 : ((Mv 6) : Int32).toInt ≤ (sv_645 : Int32).toInt ∧ (sv_645 : Int32).toInt ≤ 60 := by
                    have z_1 : ¬ (r_13 : Int32).toInt = (0 : Int32).toInt := fun z => c_18 (Int32.toInt_inj.mp z)
                    have z_2 : ¬ (r_33 : Int32).toInt = (60 : Int32).toInt := fun z => c_36 (Int32.toInt_inj.mp z)
                    have z_3 : ¬ (r_33 : Int32).toInt = (61 : Int32).toInt := fun z => c_434 (Int32.toInt_inj.mp z)
                    have z_4 := congrArg Int32.toInt c_533
                    have z_5 : ¬ (r_33 : Int32).toInt = (61 : Int32).toInt := fun z => c_535 (Int32.toInt_inj.mp z)
                    have z_6 := Int32.lt_iff_toInt_lt.mp (Int32.not_le.mp c_536)
                    have z_7 : ¬ (x_635 : Int32).toInt = (61 : Int32).toInt := fun z => c_636 (Int32.toInt_inj.mp z)
                    have z_8 := congrArg Int32.toInt c_652
                    have y_0 : (0 : Int32).toInt = 0 := by decide
                    have y_60 : (60 : Int32).toInt = 60 := by decide
                    have y_61 : (61 : Int32).toInt = 61 := by decide
                    have y_62 : (62 : Int32).toInt = 62 := by decide
                    have y_1 : (1 : Int32).toInt = 1 := by decide
                    have t_x_534 : x_534.toInt = (sv_28 : Int32).toInt + (1 : Int32).toInt := by rw [ex_534]; exact add_toInt (by omega) (by omega)
                    omega
                  have hp_732 : (((0 : Int32).toInt = 0 ∧ ¬ (sv_644 : Int32).toInt = 0) ∨ ((0 : Int32).toInt = 1 ∧ ((Mf 3) (Mv 5).toNatClampNeg).toInt + 1 ≤ (sv_9 (Mv 5).toNatClampNeg).toInt ∧ (sv_9 (Mv 5).toNatClampNeg).toInt + ((Mv 2) : Int32).toInt ≤ ((Mf 3) (Mv 5).toNatClampNeg).toInt + (x_534 : Int32).toInt ∧ ((Mv 2) : Int32).toInt + 1 ≤ (x_534 : Int32).toInt)) := by
                    have z_1 : ¬ (r_13 : Int32).toInt = (0 : Int32).toInt := fun z => c_18 (Int32.toInt_inj.mp z)
                    have z_2 : ¬ (r_33 : Int32).toInt = (60 : Int32).toInt := fun z => c_36 (Int32.toInt_inj.mp z)
                    have z_3 : ¬ (r_33 : Int32).toInt = (61 : Int32).toInt := fun z => c_434 (Int32.toInt_inj.mp z)
                    have z_4 := congrArg Int32.toInt c_533
                    have z_5 : ¬ (r_33 : Int32).toInt = (61 : Int32).toInt := fun z => c_535 (Int32.toInt_inj.mp z)
                    have z_6 := Int32.lt_iff_toInt_lt.mp (Int32.not_le.mp c_536)
                    have z_7 : ¬ (x_635 : Int32).toInt = (61 : Int32).toInt := fun z => c_636 (Int32.toInt_inj.mp z)
                    have z_8 := congrArg Int32.toInt c_652
                    have y_0 : (0 : Int32).toInt = 0 := by decide
                    have y_60 : (60 : Int32).toInt = 60 := by decide
                    have y_61 : (61 : Int32).toInt = 61 := by decide
                    have y_62 : (62 : Int32).toInt = 62 := by decide
                    have y_1 : (1 : Int32).toInt = 1 := by decide
                    have t_x_534 : x_534.toInt = (sv_28 : Int32).toInt + (1 : Int32).toInt := by rw [ex_534]; exact add_toInt (by omega) (by omega)
                    omega
                  have hm_733 : (0 : Int32).toInt = 0 → (RfE (pz_com (rB (Mf 1) (Mv 0)) (St0 (rB (Mf 1) (Mv 0)) (Mv 2) (Mv 6))) sv_644) := by
                    intro h1r
                    have hr_734 : (rB (Mf 1) (Mv 0) (sv_28 : Int32).toInt.toNat = 60 ∨ rB (Mf 1) (Mv 0) (sv_28 : Int32).toInt.toNat = 61 ∨ rB (Mf 1) (Mv 0) (sv_28 : Int32).toInt.toNat = 62) := by
                      have z_1 : ¬ (r_13 : Int32).toInt = (0 : Int32).toInt := fun z => c_18 (Int32.toInt_inj.mp z)
                      have z_2 : ¬ (r_33 : Int32).toInt = (60 : Int32).toInt := fun z => c_36 (Int32.toInt_inj.mp z)
                      have z_3 : ¬ (r_33 : Int32).toInt = (61 : Int32).toInt := fun z => c_434 (Int32.toInt_inj.mp z)
                      have z_4 := congrArg Int32.toInt c_533
                      have z_5 : ¬ (r_33 : Int32).toInt = (61 : Int32).toInt := fun z => c_535 (Int32.toInt_inj.mp z)
                      have z_6 := Int32.lt_iff_toInt_lt.mp (Int32.not_le.mp c_536)
                      have z_7 : ¬ (x_635 : Int32).toInt = (61 : Int32).toInt := fun z => c_636 (Int32.toInt_inj.mp z)
                      have z_8 := congrArg Int32.toInt c_652
                      have y_0 : (0 : Int32).toInt = 0 := by decide
                      have y_60 : (60 : Int32).toInt = 60 := by decide
                      have y_61 : (61 : Int32).toInt = 61 := by decide
                      have y_62 : (62 : Int32).toInt = 62 := by decide
                      have y_1 : (1 : Int32).toInt = 1 := by decide
                      have t_x_534 : x_534.toInt = (sv_28 : Int32).toInt + (1 : Int32).toInt := by rw [ex_534]; exact add_toInt (by omega) (by omega)
                      omega
                    have hr_735 : 60 ≤ (sv_7 : Int32).toInt := by
                      have z_1 : ¬ (r_13 : Int32).toInt = (0 : Int32).toInt := fun z => c_18 (Int32.toInt_inj.mp z)
                      have z_2 : ¬ (r_33 : Int32).toInt = (60 : Int32).toInt := fun z => c_36 (Int32.toInt_inj.mp z)
                      have z_3 : ¬ (r_33 : Int32).toInt = (61 : Int32).toInt := fun z => c_434 (Int32.toInt_inj.mp z)
                      have z_4 := congrArg Int32.toInt c_533
                      have z_5 : ¬ (r_33 : Int32).toInt = (61 : Int32).toInt := fun z => c_535 (Int32.toInt_inj.mp z)
                      have z_6 := Int32.lt_iff_toInt_lt.mp (Int32.not_le.mp c_536)
                      have z_7 : ¬ (x_635 : Int32).toInt = (61 : Int32).toInt := fun z => c_636 (Int32.toInt_inj.mp z)
                      have z_8 := congrArg Int32.toInt c_652
                      have y_0 : (0 : Int32).toInt = 0 := by decide
                      have y_60 : (60 : Int32).toInt = 60 := by decide
                      have y_61 : (61 : Int32).toInt = 61 := by decide
                      have y_62 : (62 : Int32).toInt = 62 := by decide
                      have y_1 : (1 : Int32).toInt = 1 := by decide
                      have t_x_534 : x_534.toInt = (sv_28 : Int32).toInt + (1 : Int32).toInt := by rw [ex_534]; exact add_toInt (by omega) (by omega)
                      omega
                    have hi_736 : (sv_644 : Int32).toInt = 1 + 8 * (sv_28 : Int32).toInt + 3 := by
                      have z_1 : ¬ (r_13 : Int32).toInt = (0 : Int32).toInt := fun z => c_18 (Int32.toInt_inj.mp z)
                      have z_2 : ¬ (r_33 : Int32).toInt = (60 : Int32).toInt := fun z => c_36 (Int32.toInt_inj.mp z)
                      have z_3 : ¬ (r_33 : Int32).toInt = (61 : Int32).toInt := fun z => c_434 (Int32.toInt_inj.mp z)
                      have z_4 := congrArg Int32.toInt c_533
                      have z_5 : ¬ (r_33 : Int32).toInt = (61 : Int32).toInt := fun z => c_535 (Int32.toInt_inj.mp z)
                      have z_6 := Int32.lt_iff_toInt_lt.mp (Int32.not_le.mp c_536)
                      have z_7 : ¬ (x_635 : Int32).toInt = (61 : Int32).toInt := fun z => c_636 (Int32.toInt_inj.mp z)
                      have z_8 := congrArg Int32.toInt c_652
                      have y_0 : (0 : Int32).toInt = 0 := by decide
                      have y_60 : (60 : Int32).toInt = 60 := by decide
                      have y_61 : (61 : Int32).toInt = 61 := by decide
                      have y_62 : (62 : Int32).toInt = 62 := by decide
                      have y_1 : (1 : Int32).toInt = 1 := by decide
                      have t_x_534 : x_534.toInt = (sv_28 : Int32).toInt + (1 : Int32).toInt := by rw [ex_534]; exact add_toInt (by omega) (by omega)
                      omega
                    exact (RfE.com3 pf_20 pf_32 hr_734 hr_735 hi_736)
                  exact retI (v := 0) hx hb hr hlk (rfl) hP hD hS (x_534, sv_644, sv_6, sv_645, sv_8, sv_9) ⟨_, rfl, hp_732, ha_730, ha_731, pf_12, (fun h => absurd h (by decide)), hm_733⟩ [3, 2, 0, 1] rfl rfl dX12_compare_114 (Nat.le_of_ble_eq_true rfl) (Nat.le_of_ble_eq_true rfl) rfl
              · skip
                refine lv_iconst (v := 1) hx hb dX12_compare_85 (by decide) ?_
                refine lv_goto (tgt := 90) hx hb dX12_compare_86 (by decide) ?_
                refine lv_istore_n (lv' := [(3, .int 1), (2, .int sv_28), (1, .int r_33), (0, .ref (Ma 0))]) hx hb dX12_compare_90 rfl hl (by decide) rfl (fun ls hl₀ => ?_)
                replace hl := hl₀
                clear hl₀
                refine lv_iload_n hx hb dX12_compare_91 rfl (lv_at hl 0 rfl) ?_
                refine lv_if_eq (tgt := 105) hx hb dX12_compare_92 (by decide) (fun c_737 => absurd c_737 (by decide)) (fun c_737 => ?_)
                refine lv_aload_n hx hb dX12_compare_95 rfl (lv_at hl 3 rfl) ?_
                refine lv_dup hx hb dX12_compare_96 rfl ?_
                refine gf_X12_87 hx hb hts hown hK hP 2 rfl rfl dX12_compare_97 ?_
                refine lv_iconst (v := 1) hx hb dX12_compare_100 (by decide) ?_
                refine lv_iadd hx hb dX12_compare_101 ?_
                refine lv_topi (fun x_738 ex_738 => ?_)
                refine pf_X12_87 hx hb hts hown hK hP hD hS 2 rfl (Nat.le_of_ble_eq_true rfl) rfl rfl dX12_compare_102 (fun H locs hP₀ hD₀ hS₀ => ?_)
                replace hP : va_P D classes [((Ma 2), .inl (tc 0, 2400, .inl sv_8)), ((Ma 3), .inl (tc 0, 7, .inl sv_9)), ((Ma 0), .inr (12, [.ref (Ma 1), .int (Mv 0), .int (Mv 1), .ref (Ma 2), .ref (Ma 3), .ref (Ma 4), .ref (Ma 5), .ref (Ma 6), .int x_738, .int sv_5, .int sv_6, .int (Mv 5), .int sv_7, .int (Mv 7), .int (Mv 8), .ref (Ma 7), .int (Mv 9), .ref (Ma 8), .int (Mv 10), .ref (Ma 9), .ref (Ma 10), .int (Mv 11), .int (Mv 12), .int (Mv 13), .ref (Ma 11), .int (Mv 14), .ref (Ma 12), .ref (Ma 13), .ref (Ma 14), .ref (Ma 15), .ref (Ma 16), .long (Mj 0), .ref (Ma 17), .ref (Ma 18), .ref (Ma 19), .ref (Ma 20)])), ((Ma 1), .inl (tc 2, 400, .inl (Mf 1)))] H := hP₀
                replace hD : va_D A [((Ma 2), .inl (tc 0, 2400, .inl sv_8)), ((Ma 3), .inl (tc 0, 7, .inl sv_9)), ((Ma 0), .inr (12, [.ref (Ma 1), .int (Mv 0), .int (Mv 1), .ref (Ma 2), .ref (Ma 3), .ref (Ma 4), .ref (Ma 5), .ref (Ma 6), .int x_738, .int sv_5, .int sv_6, .int (Mv 5), .int sv_7, .int (Mv 7), .int (Mv 8), .ref (Ma 7), .int (Mv 9), .ref (Ma 8), .int (Mv 10), .ref (Ma 9), .ref (Ma 10), .int (Mv 11), .int (Mv 12), .int (Mv 13), .ref (Ma 11), .int (Mv 14), .ref (Ma 12), .ref (Ma 13), .ref (Ma 14), .ref (Ma 15), .ref (Ma 16), .long (Mj 0), .ref (Ma 17), .ref (Ma 18), .ref (Ma 19), .ref (Ma 20)])), ((Ma 1), .inl (tc 2, 400, .inl (Mf 1)))] := hD₀
                replace hS := hS₀
                clear hP₀ hD₀ hS₀
                have tp_x_738 : (x_738 : Int32).toInt = (x_534 : Int32).toInt + 1 := by
                  have z_1 : ¬ (r_13 : Int32).toInt = (0 : Int32).toInt := fun z => c_18 (Int32.toInt_inj.mp z)
                  have z_2 : ¬ (r_33 : Int32).toInt = (60 : Int32).toInt := fun z => c_36 (Int32.toInt_inj.mp z)
                  have z_3 : ¬ (r_33 : Int32).toInt = (61 : Int32).toInt := fun z => c_434 (Int32.toInt_inj.mp z)
                  have z_4 := congrArg Int32.toInt c_533
                  have z_5 : ¬ (r_33 : Int32).toInt = (61 : Int32).toInt := fun z => c_535 (Int32.toInt_inj.mp z)
                  have z_6 := Int32.lt_iff_toInt_lt.mp (Int32.not_le.mp c_536)
                  have z_7 := congrArg Int32.toInt c_636
                  have y_0 : (0 : Int32).toInt = 0 := by decide
                  have y_60 : (60 : Int32).toInt = 60 := by decide
                  have y_61 : (61 : Int32).toInt = 61 := by decide
                  have y_62 : (62 : Int32).toInt = 62 := by decide
                  have y_1 : (1 : Int32).toInt = 1 := by decide
                  have t_x_534 : x_534.toInt = (sv_28 : Int32).toInt + (1 : Int32).toInt := by rw [ex_534]; exact add_toInt (by omega) (by omega)
                  have t_x_738 : x_738.toInt = (x_534 : Int32).toInt + (1 : Int32).toInt := by rw [ex_738]; exact add_toInt (by omega) (by omega)
                  omega
                refine lv_aload_n hx hb dX12_compare_105 rfl (lv_at hl 3 rfl) ?_
                refine lv_iload_n hx hb dX12_compare_106 rfl (lv_at hl 1 rfl) ?_
                have ha_739 : 0 ≤ sv_28.toInt ∧ sv_28.toInt ≤ 400 := by
                  have z_1 : ¬ (r_13 : Int32).toInt = (0 : Int32).toInt := fun z => c_18 (Int32.toInt_inj.mp z)
                  have z_2 : ¬ (r_33 : Int32).toInt = (60 : Int32).toInt := fun z => c_36 (Int32.toInt_inj.mp z)
                  have z_3 : ¬ (r_33 : Int32).toInt = (61 : Int32).toInt := fun z => c_434 (Int32.toInt_inj.mp z)
                  have z_4 := congrArg Int32.toInt c_533
                  have z_5 : ¬ (r_33 : Int32).toInt = (61 : Int32).toInt := fun z => c_535 (Int32.toInt_inj.mp z)
                  have z_6 := Int32.lt_iff_toInt_lt.mp (Int32.not_le.mp c_536)
                  have z_7 := congrArg Int32.toInt c_636
                  have y_0 : (0 : Int32).toInt = 0 := by decide
                  have y_60 : (60 : Int32).toInt = 60 := by decide
                  have y_61 : (61 : Int32).toInt = 61 := by decide
                  have y_62 : (62 : Int32).toInt = 62 := by decide
                  have y_1 : (1 : Int32).toInt = 1 := by decide
                  have t_x_534 : x_534.toInt = (sv_28 : Int32).toInt + (1 : Int32).toInt := by rw [ex_534]; exact add_toInt (by omega) (by omega)
                  omega
                have ha_740 : 0 ≤ (sv_7 : Int32).toInt ∧ (sv_7 : Int32).toInt ≤ 60 := by
                  have z_1 : ¬ (r_13 : Int32).toInt = (0 : Int32).toInt := fun z => c_18 (Int32.toInt_inj.mp z)
                  have z_2 : ¬ (r_33 : Int32).toInt = (60 : Int32).toInt := fun z => c_36 (Int32.toInt_inj.mp z)
                  have z_3 : ¬ (r_33 : Int32).toInt = (61 : Int32).toInt := fun z => c_434 (Int32.toInt_inj.mp z)
                  have z_4 := congrArg Int32.toInt c_533
                  have z_5 : ¬ (r_33 : Int32).toInt = (61 : Int32).toInt := fun z => c_535 (Int32.toInt_inj.mp z)
                  have z_6 := Int32.lt_iff_toInt_lt.mp (Int32.not_le.mp c_536)
                  have z_7 := congrArg Int32.toInt c_636
                  have y_0 : (0 : Int32).toInt = 0 := by decide
                  have y_60 : (60 : Int32).toInt = 60 := by decide
                  have y_61 : (61 : Int32).toInt = 61 := by decide
                  have y_62 : (62 : Int32).toInt = 62 := by decide
                  have y_1 : (1 : Int32).toInt = 1 := by decide
                  have t_x_534 : x_534.toInt = (sv_28 : Int32).toInt + (1 : Int32).toInt := by rw [ex_534]; exact add_toInt (by omega) (by omega)
                  omega
                have ha_741 : (sv_5 : Int32).toInt = 0 := by
                  have z_1 : ¬ (r_13 : Int32).toInt = (0 : Int32).toInt := fun z => c_18 (Int32.toInt_inj.mp z)
                  have z_2 : ¬ (r_33 : Int32).toInt = (60 : Int32).toInt := fun z => c_36 (Int32.toInt_inj.mp z)
                  have z_3 : ¬ (r_33 : Int32).toInt = (61 : Int32).toInt := fun z => c_434 (Int32.toInt_inj.mp z)
                  have z_4 := congrArg Int32.toInt c_533
                  have z_5 : ¬ (r_33 : Int32).toInt = (61 : Int32).toInt := fun z => c_535 (Int32.toInt_inj.mp z)
                  have z_6 := Int32.lt_iff_toInt_lt.mp (Int32.not_le.mp c_536)
                  have z_7 := congrArg Int32.toInt c_636
                  have y_0 : (0 : Int32).toInt = 0 := by decide
                  have y_60 : (60 : Int32).toInt = 60 := by decide
                  have y_61 : (61 : Int32).toInt = 61 := by decide
                  have y_62 : (62 : Int32).toInt = 62 := by decide
                  have y_1 : (1 : Int32).toInt = 1 := by decide
                  have t_x_534 : x_534.toInt = (sv_28 : Int32).toInt + (1 : Int32).toInt := by rw [ex_534]; exact add_toInt (by omega) (by omega)
                  omega
                refine cV (a := (Ma 0)) (As := [.int sv_28]) (rest := []) (wr := [((Ma 2), .inl (tc 0, 2400, .inl sv_8)), ((Ma 3), .inl (tc 0, 7, .inl sv_9)), ((Ma 1), .inl (tc 2, 400, .inl (Mf 1)))]) ⟨hx, hb, hml, hown, hts⟩ hK hX hA (cu_fX12_makes l D tc sk (Ma 0) (Ma 1) (Ma 2) (Ma 3) (Ma 4) (Ma 5) (Ma 6) (Ma 7) (Ma 8) (Ma 9) (Ma 10) (Ma 11) (Ma 12) (Ma 13) (Ma 14) (Ma 15) (Ma 16) (Ma 17) (Ma 18) (Ma 19) (Ma 20) (Mv 0) (Mv 1) x_738 sv_5 sv_6 (Mv 5) sv_7 (Mv 7) (Mv 8) (Mv 9) (Mv 10) (Mv 11) (Mv 12) (Mv 13) (Mv 14) (Mj 0) sv_28 ha_739 ha_740 ha_741) k_1292 k_1289 k_1291 k_45 k_106 pl_X12_makes ⟨Nat.le_of_ble_eq_true rfl, Nat.le_of_ble_eq_true rfl⟩ rfl rfl (va_recv hK hP (ci := 12) (q0 := 2) rfl rfl) hP hD hS [2] [0, 1, 3] rfl rfl rfl rfl rfl (by decide) rfl hl.1 rfl (Nat.le_of_ble_eq_true rfl) dX12_compare_107 ⟨Nat.le_of_ble_eq_true rfl, Nat.le_of_ble_eq_true rfl⟩ (fun v_742 u_743 H locs hv_744 hP₀ hD₀ hS₀ => ?_)
                obtain ⟨sv_745, sv_746⟩ := u_743
                obtain ⟨r_748, rfl, he_749, pf_747⟩ := hv_744
                have he_749 : ((r_748.toInt = 0 ∧ ¬ (sv_745 : Int32).toInt = 0 ∧ sv_7.toInt = 60 ∧ (sv_745 : Int32).toInt = 1 + 8 * sv_28.toInt + 3) ∨ (r_748.toInt = 1 ∧ (sv_746 : Int32).toInt = sv_7.toInt + 1 ∧ sv_7.toInt < 60 ∧ (sv_745 : Int32).toInt = 0)) := he_749
                have pf_747 : (sv_7 : Int32).toInt ≤ (sv_746 : Int32).toInt ∧ (sv_746 : Int32).toInt ≤ 60 := pf_747
                refine W.eq (g2 := F0 m 110 ls [.int r_748]) rfl ?_
                replace hP : va_P D classes [((Ma 2), .inl (tc 0, 2400, .inl sv_8)), ((Ma 3), .inl (tc 0, 7, .inl sv_9)), ((Ma 1), .inl (tc 2, 400, .inl (Mf 1))), ((Ma 0), .inr (12, [.ref (Ma 1), .int (Mv 0), .int (Mv 1), .ref (Ma 2), .ref (Ma 3), .ref (Ma 4), .ref (Ma 5), .ref (Ma 6), .int x_738, .int sv_745, .int sv_6, .int (Mv 5), .int sv_746, .int (Mv 7), .int (Mv 8), .ref (Ma 7), .int (Mv 9), .ref (Ma 8), .int (Mv 10), .ref (Ma 9), .ref (Ma 10), .int (Mv 11), .int (Mv 12), .int (Mv 13), .ref (Ma 11), .int (Mv 14), .ref (Ma 12), .ref (Ma 13), .ref (Ma 14), .ref (Ma 15), .ref (Ma 16), .long (Mj 0), .ref (Ma 17), .ref (Ma 18), .ref (Ma 19), .ref (Ma 20)]))] H := hP₀
                replace hD : va_D A [((Ma 2), .inl (tc 0, 2400, .inl sv_8)), ((Ma 3), .inl (tc 0, 7, .inl sv_9)), ((Ma 1), .inl (tc 2, 400, .inl (Mf 1))), ((Ma 0), .inr (12, [.ref (Ma 1), .int (Mv 0), .int (Mv 1), .ref (Ma 2), .ref (Ma 3), .ref (Ma 4), .ref (Ma 5), .ref (Ma 6), .int x_738, .int sv_745, .int sv_6, .int (Mv 5), .int sv_746, .int (Mv 7), .int (Mv 8), .ref (Ma 7), .int (Mv 9), .ref (Ma 8), .int (Mv 10), .ref (Ma 9), .ref (Ma 10), .int (Mv 11), .int (Mv 12), .int (Mv 13), .ref (Ma 11), .int (Mv 14), .ref (Ma 12), .ref (Ma 13), .ref (Ma 14), .ref (Ma 15), .ref (Ma 16), .long (Mj 0), .ref (Ma 17), .ref (Ma 18), .ref (Ma 19), .ref (Ma 20)]))] := hD₀
                replace hS := hS₀
                clear hP₀ hD₀ hS₀
                have hr_752 : (sv_7 : Int32).toInt ≤ (sv_746 : Int32).toInt ∧ (sv_746 : Int32).toInt ≤ 60 := by
                  have z_1 : ¬ (r_13 : Int32).toInt = (0 : Int32).toInt := fun z => c_18 (Int32.toInt_inj.mp z)
                  have z_2 : ¬ (r_33 : Int32).toInt = (60 : Int32).toInt := fun z => c_36 (Int32.toInt_inj.mp z)
                  have z_3 : ¬ (r_33 : Int32).toInt = (61 : Int32).toInt := fun z => c_434 (Int32.toInt_inj.mp z)
                  have z_4 := congrArg Int32.toInt c_533
                  have z_5 : ¬ (r_33 : Int32).toInt = (61 : Int32).toInt := fun z => c_535 (Int32.toInt_inj.mp z)
                  have z_6 := Int32.lt_iff_toInt_lt.mp (Int32.not_le.mp c_536)
                  have z_7 := congrArg Int32.toInt c_636
                  have y_0 : (0 : Int32).toInt = 0 := by decide
                  have y_60 : (60 : Int32).toInt = 60 := by decide
                  have y_61 : (61 : Int32).toInt = 61 := by decide
                  have y_62 : (62 : Int32).toInt = 62 := by decide
                  have y_1 : (1 : Int32).toInt = 1 := by decide
                  have t_x_534 : x_534.toInt = (sv_28 : Int32).toInt + (1 : Int32).toInt := by rw [ex_534]; exact add_toInt (by omega) (by omega)
                  omega
                have pf_751 : Cd sv_8 sv_9 (Mv 5) b sv_746 (d + 1) := Cd.mono pf_19 hr_752
                have ar_pf_751 := Cd.ar pf_751
                refine lv_if_ne (tgt := 115) hx hb dX12_compare_110 (by decide) (fun c_753 => ?_) (fun c_753 => ?_)
                · skip
                  refine lv_iload_n hx hb dX12_compare_115 rfl (lv_at hl 2 rfl) ?_
                  refine lv_bipush (v := 60) hx hb dX12_compare_116 (by decide) ?_
                  refine lv_icmp_ne (tgt := 133) hx hb dX12_compare_118 (by decide) (fun c_754 => ?_) (fun c_754 => ?_)
                  · skip
                    refine lv_iload_n hx hb dX12_compare_133 rfl (lv_at hl 2 rfl) ?_
                    refine lv_bipush (v := 61) hx hb dX12_compare_134 (by decide) ?_
                    refine lv_icmp_ne (tgt := 143) hx hb dX12_compare_136 (by decide) (fun c_755 => ?_) (fun c_755 => ?_)
                    · skip
                      refine lv_iload_n hx hb dX12_compare_143 rfl (lv_at hl 0 rfl) ?_
                      refine lv_if_eq (tgt := 151) hx hb dX12_compare_144 (by decide) (fun c_756 => absurd c_756 (by decide)) (fun c_756 => ?_)
                      refine lv_iconst (v := 3) hx hb dX12_compare_147 (by decide) ?_
                      refine lv_goto (tgt := 152) hx hb dX12_compare_148 (by decide) ?_
                      refine lv_istore (lv' := [(4, .int 3), (3, .int 1), (2, .int sv_28), (1, .int r_33), (0, .ref (Ma 0))]) hx hb dX12_compare_152 hl (by decide) rfl (fun ls hl₀ => ?_)
                      replace hl := hl₀
                      clear hl₀
                      refine lv_aload_n hx hb dX12_compare_154 rfl (lv_at hl 4 rfl) ?_
                      have ha_757 : 0 ≤ (x_738 : Int32).toInt ∧ (x_738 : Int32).toInt ≤ ((Mv 0) : Int32).toInt ∧ ((Mv 0) : Int32).toInt ≤ 400 := by
                        have z_1 : ¬ (r_13 : Int32).toInt = (0 : Int32).toInt := fun z => c_18 (Int32.toInt_inj.mp z)
                        have z_2 : ¬ (r_33 : Int32).toInt = (60 : Int32).toInt := fun z => c_36 (Int32.toInt_inj.mp z)
                        have z_3 : ¬ (r_33 : Int32).toInt = (61 : Int32).toInt := fun z => c_434 (Int32.toInt_inj.mp z)
                        have z_4 := congrArg Int32.toInt c_533
                        have z_5 : ¬ (r_33 : Int32).toInt = (61 : Int32).toInt := fun z => c_535 (Int32.toInt_inj.mp z)
                        have z_6 := Int32.lt_iff_toInt_lt.mp (Int32.not_le.mp c_536)
                        have z_7 := congrArg Int32.toInt c_636
                        have z_8 : ¬ (r_748 : Int32).toInt = (0 : Int32).toInt := fun z => c_753 (Int32.toInt_inj.mp z)
                        have z_9 : ¬ (r_33 : Int32).toInt = (60 : Int32).toInt := fun z => c_754 (Int32.toInt_inj.mp z)
                        have z_10 : ¬ (r_33 : Int32).toInt = (61 : Int32).toInt := fun z => c_755 (Int32.toInt_inj.mp z)
                        have y_0 : (0 : Int32).toInt = 0 := by decide
                        have y_60 : (60 : Int32).toInt = 60 := by decide
                        have y_61 : (61 : Int32).toInt = 61 := by decide
                        have y_62 : (62 : Int32).toInt = 62 := by decide
                        have y_1 : (1 : Int32).toInt = 1 := by decide
                        have t_x_534 : x_534.toInt = (sv_28 : Int32).toInt + (1 : Int32).toInt := by rw [ex_534]; exact add_toInt (by omega) (by omega)
                        have t_x_738 : x_738.toInt = (x_534 : Int32).toInt + (1 : Int32).toInt := by rw [ex_738]; exact add_toInt (by omega) (by omega)
                        omega
                      have ha_758 : (sv_9 (Mv 5).toNatClampNeg).toInt ≤ (x_738 : Int32).toInt := by
                        have z_1 : ¬ (r_13 : Int32).toInt = (0 : Int32).toInt := fun z => c_18 (Int32.toInt_inj.mp z)
                        have z_2 : ¬ (r_33 : Int32).toInt = (60 : Int32).toInt := fun z => c_36 (Int32.toInt_inj.mp z)
                        have z_3 : ¬ (r_33 : Int32).toInt = (61 : Int32).toInt := fun z => c_434 (Int32.toInt_inj.mp z)
                        have z_4 := congrArg Int32.toInt c_533
                        have z_5 : ¬ (r_33 : Int32).toInt = (61 : Int32).toInt := fun z => c_535 (Int32.toInt_inj.mp z)
                        have z_6 := Int32.lt_iff_toInt_lt.mp (Int32.not_le.mp c_536)
                        have z_7 := congrArg Int32.toInt c_636
                        have z_8 : ¬ (r_748 : Int32).toInt = (0 : Int32).toInt := fun z => c_753 (Int32.toInt_inj.mp z)
                        have z_9 : ¬ (r_33 : Int32).toInt = (60 : Int32).toInt := fun z => c_754 (Int32.toInt_inj.mp z)
                        have z_10 : ¬ (r_33 : Int32).toInt = (61 : Int32).toInt := fun z => c_755 (Int32.toInt_inj.mp z)
                        have y_0 : (0 : Int32).toInt = 0 := by decide
                        have y_60 : (60 : Int32).toInt = 60 := by decide
                        have y_61 : (61 : Int32).toInt = 61 := by decide
                        have y_62 : (62 : Int32).toInt = 62 := by decide
                        have y_1 : (1 : Int32).toInt = 1 := by decide
                        have t_x_534 : x_534.toInt = (sv_28 : Int32).toInt + (1 : Int32).toInt := by rw [ex_534]; exact add_toInt (by omega) (by omega)
                        have t_x_738 : x_738.toInt = (x_534 : Int32).toInt + (1 : Int32).toInt := by rw [ex_738]; exact add_toInt (by omega) (by omega)
                        omega
                      have ha_759 : 0 ≤ (sv_746 : Int32).toInt ∧ (sv_746 : Int32).toInt ≤ 60 := by
                        have z_1 : ¬ (r_13 : Int32).toInt = (0 : Int32).toInt := fun z => c_18 (Int32.toInt_inj.mp z)
                        have z_2 : ¬ (r_33 : Int32).toInt = (60 : Int32).toInt := fun z => c_36 (Int32.toInt_inj.mp z)
                        have z_3 : ¬ (r_33 : Int32).toInt = (61 : Int32).toInt := fun z => c_434 (Int32.toInt_inj.mp z)
                        have z_4 := congrArg Int32.toInt c_533
                        have z_5 : ¬ (r_33 : Int32).toInt = (61 : Int32).toInt := fun z => c_535 (Int32.toInt_inj.mp z)
                        have z_6 := Int32.lt_iff_toInt_lt.mp (Int32.not_le.mp c_536)
                        have z_7 := congrArg Int32.toInt c_636
                        have z_8 : ¬ (r_748 : Int32).toInt = (0 : Int32).toInt := fun z => c_753 (Int32.toInt_inj.mp z)
                        have z_9 : ¬ (r_33 : Int32).toInt = (60 : Int32).toInt := fun z => c_754 (Int32.toInt_inj.mp z)
                        have z_10 : ¬ (r_33 : Int32).toInt = (61 : Int32).toInt := fun z => c_755 (Int32.toInt_inj.mp z)
                        have y_0 : (0 : Int32).toInt = 0 := by decide
                        have y_60 : (60 : Int32).toInt = 60 := by decide
                        have y_61 : (61 : Int32).toInt = 61 := by decide
                        have y_62 : (62 : Int32).toInt = 62 := by decide
                        have y_1 : (1 : Int32).toInt = 1 := by decide
                        have t_x_534 : x_534.toInt = (sv_28 : Int32).toInt + (1 : Int32).toInt := by rw [ex_534]; exact add_toInt (by omega) (by omega)
                        omega
                      have ha_760 : (sv_745 : Int32).toInt = 0 := by
                        have z_1 : ¬ (r_13 : Int32).toInt = (0 : Int32).toInt := fun z => c_18 (Int32.toInt_inj.mp z)
                        have z_2 : ¬ (r_33 : Int32).toInt = (60 : Int32).toInt := fun z => c_36 (Int32.toInt_inj.mp z)
                        have z_3 : ¬ (r_33 : Int32).toInt = (61 : Int32).toInt := fun z => c_434 (Int32.toInt_inj.mp z)
                        have z_4 := congrArg Int32.toInt c_533
                        have z_5 : ¬ (r_33 : Int32).toInt = (61 : Int32).toInt := fun z => c_535 (Int32.toInt_inj.mp z)
                        have z_6 := Int32.lt_iff_toInt_lt.mp (Int32.not_le.mp c_536)
                        have z_7 := congrArg Int32.toInt c_636
                        have z_8 : ¬ (r_748 : Int32).toInt = (0 : Int32).toInt := fun z => c_753 (Int32.toInt_inj.mp z)
                        have z_9 : ¬ (r_33 : Int32).toInt = (60 : Int32).toInt := fun z => c_754 (Int32.toInt_inj.mp z)
                        have z_10 : ¬ (r_33 : Int32).toInt = (61 : Int32).toInt := fun z => c_755 (Int32.toInt_inj.mp z)
                        have y_0 : (0 : Int32).toInt = 0 := by decide
                        have y_60 : (60 : Int32).toInt = 60 := by decide
                        have y_61 : (61 : Int32).toInt = 61 := by decide
                        have y_62 : (62 : Int32).toInt = 62 := by decide
                        have y_1 : (1 : Int32).toInt = 1 := by decide
                        have t_x_534 : x_534.toInt = (sv_28 : Int32).toInt + (1 : Int32).toInt := by rw [ex_534]; exact add_toInt (by omega) (by omega)
                        omega
                      refine cV (a := (Ma 0)) (As := []) (rest := []) (wr := []) ⟨hx, hb, hml, hown, hts⟩ hK hX hA (cu_kX12_sum l D tc sk (Ma 0) (Ma 1) (Ma 2) (Ma 3) (Ma 4) (Ma 5) (Ma 6) (Ma 7) (Ma 8) (Ma 9) (Ma 10) (Ma 11) (Ma 12) (Ma 13) (Ma 14) (Ma 15) (Ma 16) (Ma 17) (Ma 18) (Ma 19) (Ma 20) (Mv 0) (Mv 1) x_738 sv_745 sv_6 (Mv 5) sv_746 (Mv 7) (Mv 8) (Mv 9) (Mv 10) (Mv 11) (Mv 12) (Mv 13) (Mv 14) (Mf 1) sv_8 sv_9 (Mj 0) b (d + 1) lo_23 ha_757 pf_751 ha_758 ha_759 h_bs ha_760 pf_21) k_1279 k_1276 k_1278 k_42 k_106 pl_X12_sum ⟨Nat.le_of_ble_eq_true rfl, Nat.le_of_ble_eq_true rfl⟩ rfl rfl (va_recv hK hP (ci := 12) (q0 := 3) rfl rfl) hP hD hS [3, 2, 0, 1] [] rfl rfl rfl rfl rfl (by decide) rfl hl.1 rfl (Nat.le_of_ble_eq_true rfl) dX12_compare_155 ⟨Nat.le_of_ble_eq_true rfl, Nat.le_of_ble_eq_true rfl⟩ (fun v_761 u_762 H locs hv_763 hP₀ hD₀ hS₀ => ?_)
                      obtain ⟨sv_764, sv_765, sv_766, sv_767, sv_768, sv_769⟩ := u_762
                      obtain ⟨r_773, rfl, he_774, pf_770, pf_771, pf_772, hm_776, hm_777⟩ := hv_763
                      have he_774 : ((r_773.toInt = 0 ∧ ¬ (sv_765 : Int32).toInt = 0) ∨ (r_773.toInt = 1 ∧ (sv_9 (Mv 5).toNatClampNeg).toInt + 1 ≤ (sv_769 (Mv 5).toNatClampNeg).toInt ∧ (sv_769 (Mv 5).toNatClampNeg).toInt + (x_738 : Int32).toInt ≤ (sv_9 (Mv 5).toNatClampNeg).toInt + (sv_764 : Int32).toInt ∧ (x_738 : Int32).toInt + 1 ≤ (sv_764 : Int32).toInt)) := he_774
                      have pf_770 : (x_738 : Int32).toInt ≤ (sv_764 : Int32).toInt ∧ (sv_764 : Int32).toInt ≤ ((Mv 0) : Int32).toInt := pf_770
                      have pf_771 : (sv_746 : Int32).toInt ≤ (sv_767 : Int32).toInt ∧ (sv_767 : Int32).toInt ≤ 60 := pf_771
                      have pf_772 : Agr sv_8 sv_768 (400 * ((Mv 5) : Int32).toInt + (sv_9 (Mv 5).toNatClampNeg).toInt) := pf_772
                      refine W.eq (g2 := F0 m 158 ls [.int r_773]) rfl ?_
                      replace hP : va_P D classes [((Ma 0), .inr (12, [.ref (Ma 1), .int (Mv 0), .int (Mv 1), .ref (Ma 2), .ref (Ma 3), .ref (Ma 4), .ref (Ma 5), .ref (Ma 6), .int sv_764, .int sv_765, .int sv_766, .int (Mv 5), .int sv_767, .int (Mv 7), .int (Mv 8), .ref (Ma 7), .int (Mv 9), .ref (Ma 8), .int (Mv 10), .ref (Ma 9), .ref (Ma 10), .int (Mv 11), .int (Mv 12), .int (Mv 13), .ref (Ma 11), .int (Mv 14), .ref (Ma 12), .ref (Ma 13), .ref (Ma 14), .ref (Ma 15), .ref (Ma 16), .long (Mj 0), .ref (Ma 17), .ref (Ma 18), .ref (Ma 19), .ref (Ma 20)])), ((Ma 1), .inl (tc 2, 400, .inl (Mf 1))), ((Ma 2), .inl (tc 0, 2400, .inl sv_768)), ((Ma 3), .inl (tc 0, 7, .inl sv_769))] H := hP₀
                      replace hD : va_D A [((Ma 0), .inr (12, [.ref (Ma 1), .int (Mv 0), .int (Mv 1), .ref (Ma 2), .ref (Ma 3), .ref (Ma 4), .ref (Ma 5), .ref (Ma 6), .int sv_764, .int sv_765, .int sv_766, .int (Mv 5), .int sv_767, .int (Mv 7), .int (Mv 8), .ref (Ma 7), .int (Mv 9), .ref (Ma 8), .int (Mv 10), .ref (Ma 9), .ref (Ma 10), .int (Mv 11), .int (Mv 12), .int (Mv 13), .ref (Ma 11), .int (Mv 14), .ref (Ma 12), .ref (Ma 13), .ref (Ma 14), .ref (Ma 15), .ref (Ma 16), .long (Mj 0), .ref (Ma 17), .ref (Ma 18), .ref (Ma 19), .ref (Ma 20)])), ((Ma 1), .inl (tc 2, 400, .inl (Mf 1))), ((Ma 2), .inl (tc 0, 2400, .inl sv_768)), ((Ma 3), .inl (tc 0, 7, .inl sv_769))] := hD₀
                      replace hS := hS₀
                      clear hP₀ hD₀ hS₀
                      refine lv_if_ne (tgt := 163) hx hb dX12_compare_158 (by decide) (fun c_778 => ?_) (fun c_778 => ?_)
                      · skip
                        have hz_782 : (r_773 : Int32).toInt = 1 := by
                          have z_1 : ¬ (r_13 : Int32).toInt = (0 : Int32).toInt := fun z => c_18 (Int32.toInt_inj.mp z)
                          have z_2 : ¬ (r_33 : Int32).toInt = (60 : Int32).toInt := fun z => c_36 (Int32.toInt_inj.mp z)
                          have z_3 : ¬ (r_33 : Int32).toInt = (61 : Int32).toInt := fun z => c_434 (Int32.toInt_inj.mp z)
                          have z_4 := congrArg Int32.toInt c_533
                          have z_5 : ¬ (r_33 : Int32).toInt = (61 : Int32).toInt := fun z => c_535 (Int32.toInt_inj.mp z)
                          have z_6 := Int32.lt_iff_toInt_lt.mp (Int32.not_le.mp c_536)
                          have z_7 := congrArg Int32.toInt c_636
                          have z_8 : ¬ (r_748 : Int32).toInt = (0 : Int32).toInt := fun z => c_753 (Int32.toInt_inj.mp z)
                          have z_9 : ¬ (r_33 : Int32).toInt = (60 : Int32).toInt := fun z => c_754 (Int32.toInt_inj.mp z)
                          have z_10 : ¬ (r_33 : Int32).toInt = (61 : Int32).toInt := fun z => c_755 (Int32.toInt_inj.mp z)
                          have z_11 : ¬ (r_773 : Int32).toInt = (0 : Int32).toInt := fun z => c_778 (Int32.toInt_inj.mp z)
                          have y_0 : (0 : Int32).toInt = 0 := by decide
                          have y_60 : (60 : Int32).toInt = 60 := by decide
                          have y_61 : (61 : Int32).toInt = 61 := by decide
                          have y_62 : (62 : Int32).toInt = 62 := by decide
                          have y_1 : (1 : Int32).toInt = 1 := by decide
                          have t_x_534 : x_534.toInt = (sv_28 : Int32).toInt + (1 : Int32).toInt := by rw [ex_534]; exact add_toInt (by omega) (by omega)
                          omega
                        obtain ⟨pf_779, pf_780, pf_781⟩ := hm_776 hz_782
                        have pf_779 : Cd sv_768 sv_769 (Mv 5) b sv_767 ((d + 1) + 1) := pf_779
                        have ar_pf_779 := Cd.ar pf_779
                        have pf_780 : RfO (pz_sum (rB (Mf 1) (Mv 0)) (St0 (rB (Mf 1) (Mv 0)) x_738 sv_746)) (rB (Mf 1) (Mv 0)) sv_765 sv_764 sv_767 := pf_780
                        have ar_pf_780 := RfO.wr pf_780
                        have pf_781 : SgC sv_768 sv_769 (Mv 5) (lo_23 ++ lsum (rB (Mf 1) (Mv 0)) (St0 (rB (Mf 1) (Mv 0)) x_738 sv_746)) := pf_781
                        obtain ⟨lo_783, elo_783⟩ : ∃ z : List Int, z = (lo_23 ++ lsum (rB (Mf 1) (Mv 0)) (St0 (rB (Mf 1) (Mv 0)) x_738 sv_746)) := ⟨_, rfl⟩
                        rw [← elo_783] at pf_781
                        refine lv_aload_n hx hb dX12_compare_163 rfl (lv_at hl 4 rfl) ?_
                        refine lv_bipush (v := 6) hx hb dX12_compare_164 (by decide) ?_
                        refine lv_iload hx hb dX12_compare_166 (lv_at hl 0 rfl) ?_
                        refine lv_iadd hx hb dX12_compare_168 ?_
                        refine lv_lit (v := 9) (by decide) ?_
                        refine lv_iconst (v := 0) hx hb dX12_compare_169 (by decide) ?_
                        have ha_784 : ((d + 1) : Int) ≤ sv_767.toInt := by
                          have z_1 : ¬ (r_13 : Int32).toInt = (0 : Int32).toInt := fun z => c_18 (Int32.toInt_inj.mp z)
                          have z_2 : ¬ (r_33 : Int32).toInt = (60 : Int32).toInt := fun z => c_36 (Int32.toInt_inj.mp z)
                          have z_3 : ¬ (r_33 : Int32).toInt = (61 : Int32).toInt := fun z => c_434 (Int32.toInt_inj.mp z)
                          have z_4 := congrArg Int32.toInt c_533
                          have z_5 : ¬ (r_33 : Int32).toInt = (61 : Int32).toInt := fun z => c_535 (Int32.toInt_inj.mp z)
                          have z_6 := Int32.lt_iff_toInt_lt.mp (Int32.not_le.mp c_536)
                          have z_7 := congrArg Int32.toInt c_636
                          have z_8 : ¬ (r_748 : Int32).toInt = (0 : Int32).toInt := fun z => c_753 (Int32.toInt_inj.mp z)
                          have z_9 : ¬ (r_33 : Int32).toInt = (60 : Int32).toInt := fun z => c_754 (Int32.toInt_inj.mp z)
                          have z_10 : ¬ (r_33 : Int32).toInt = (61 : Int32).toInt := fun z => c_755 (Int32.toInt_inj.mp z)
                          have z_11 : ¬ (r_773 : Int32).toInt = (0 : Int32).toInt := fun z => c_778 (Int32.toInt_inj.mp z)
                          have y_0 : (0 : Int32).toInt = 0 := by decide
                          have y_60 : (60 : Int32).toInt = 60 := by decide
                          have y_61 : (61 : Int32).toInt = 61 := by decide
                          have y_62 : (62 : Int32).toInt = 62 := by decide
                          have y_1 : (1 : Int32).toInt = 1 := by decide
                          have t_x_534 : x_534.toInt = (sv_28 : Int32).toInt + (1 : Int32).toInt := by rw [ex_534]; exact add_toInt (by omega) (by omega)
                          omega
                        have ha_785 : (sv_769 (Mv 5).toNatClampNeg).toInt < 400 := by
                          have z_1 : ¬ (r_13 : Int32).toInt = (0 : Int32).toInt := fun z => c_18 (Int32.toInt_inj.mp z)
                          have z_2 : ¬ (r_33 : Int32).toInt = (60 : Int32).toInt := fun z => c_36 (Int32.toInt_inj.mp z)
                          have z_3 : ¬ (r_33 : Int32).toInt = (61 : Int32).toInt := fun z => c_434 (Int32.toInt_inj.mp z)
                          have z_4 := congrArg Int32.toInt c_533
                          have z_5 : ¬ (r_33 : Int32).toInt = (61 : Int32).toInt := fun z => c_535 (Int32.toInt_inj.mp z)
                          have z_6 := Int32.lt_iff_toInt_lt.mp (Int32.not_le.mp c_536)
                          have z_7 := congrArg Int32.toInt c_636
                          have z_8 : ¬ (r_748 : Int32).toInt = (0 : Int32).toInt := fun z => c_753 (Int32.toInt_inj.mp z)
                          have z_9 : ¬ (r_33 : Int32).toInt = (60 : Int32).toInt := fun z => c_754 (Int32.toInt_inj.mp z)
                          have z_10 : ¬ (r_33 : Int32).toInt = (61 : Int32).toInt := fun z => c_755 (Int32.toInt_inj.mp z)
                          have z_11 : ¬ (r_773 : Int32).toInt = (0 : Int32).toInt := fun z => c_778 (Int32.toInt_inj.mp z)
                          have y_0 : (0 : Int32).toInt = 0 := by decide
                          have y_60 : (60 : Int32).toInt = 60 := by decide
                          have y_61 : (61 : Int32).toInt = 61 := by decide
                          have y_62 : (62 : Int32).toInt = 62 := by decide
                          have y_1 : (1 : Int32).toInt = 1 := by decide
                          have t_x_534 : x_534.toInt = (sv_28 : Int32).toInt + (1 : Int32).toInt := by rw [ex_534]; exact add_toInt (by omega) (by omega)
                          omega
                        have ha_786 : 0 ≤ (9 : Int32).toInt ∧ (9 : Int32).toInt ≤ 15 := by
                          have z_1 : ¬ (r_13 : Int32).toInt = (0 : Int32).toInt := fun z => c_18 (Int32.toInt_inj.mp z)
                          have z_2 : ¬ (r_33 : Int32).toInt = (60 : Int32).toInt := fun z => c_36 (Int32.toInt_inj.mp z)
                          have z_3 : ¬ (r_33 : Int32).toInt = (61 : Int32).toInt := fun z => c_434 (Int32.toInt_inj.mp z)
                          have z_4 := congrArg Int32.toInt c_533
                          have z_5 : ¬ (r_33 : Int32).toInt = (61 : Int32).toInt := fun z => c_535 (Int32.toInt_inj.mp z)
                          have z_6 := Int32.lt_iff_toInt_lt.mp (Int32.not_le.mp c_536)
                          have z_7 := congrArg Int32.toInt c_636
                          have z_8 : ¬ (r_748 : Int32).toInt = (0 : Int32).toInt := fun z => c_753 (Int32.toInt_inj.mp z)
                          have z_9 : ¬ (r_33 : Int32).toInt = (60 : Int32).toInt := fun z => c_754 (Int32.toInt_inj.mp z)
                          have z_10 : ¬ (r_33 : Int32).toInt = (61 : Int32).toInt := fun z => c_755 (Int32.toInt_inj.mp z)
                          have z_11 : ¬ (r_773 : Int32).toInt = (0 : Int32).toInt := fun z => c_778 (Int32.toInt_inj.mp z)
                          have y_0 : (0 : Int32).toInt = 0 := by decide
                          have y_60 : (60 : Int32).toInt = 60 := by decide
                          have y_61 : (61 : Int32).toInt = 61 := by decide
                          have y_62 : (62 : Int32).toInt = 62 := by decide
                          have y_1 : (1 : Int32).toInt = 1 := by decide
                          have y_9 : (9 : Int32).toInt = 9 := by decide
                          have t_x_534 : x_534.toInt = (sv_28 : Int32).toInt + (1 : Int32).toInt := by rw [ex_534]; exact add_toInt (by omega) (by omega)
                          omega
                        have ha_787 : 0 ≤ (0 : Int32).toInt ∧ (0 : Int32).toInt ≤ 100000 := by
                          have z_1 : ¬ (r_13 : Int32).toInt = (0 : Int32).toInt := fun z => c_18 (Int32.toInt_inj.mp z)
                          have z_2 : ¬ (r_33 : Int32).toInt = (60 : Int32).toInt := fun z => c_36 (Int32.toInt_inj.mp z)
                          have z_3 : ¬ (r_33 : Int32).toInt = (61 : Int32).toInt := fun z => c_434 (Int32.toInt_inj.mp z)
                          have z_4 := congrArg Int32.toInt c_533
                          have z_5 : ¬ (r_33 : Int32).toInt = (61 : Int32).toInt := fun z => c_535 (Int32.toInt_inj.mp z)
                          have z_6 := Int32.lt_iff_toInt_lt.mp (Int32.not_le.mp c_536)
                          have z_7 := congrArg Int32.toInt c_636
                          have z_8 : ¬ (r_748 : Int32).toInt = (0 : Int32).toInt := fun z => c_753 (Int32.toInt_inj.mp z)
                          have z_9 : ¬ (r_33 : Int32).toInt = (60 : Int32).toInt := fun z => c_754 (Int32.toInt_inj.mp z)
                          have z_10 : ¬ (r_33 : Int32).toInt = (61 : Int32).toInt := fun z => c_755 (Int32.toInt_inj.mp z)
                          have z_11 : ¬ (r_773 : Int32).toInt = (0 : Int32).toInt := fun z => c_778 (Int32.toInt_inj.mp z)
                          have y_0 : (0 : Int32).toInt = 0 := by decide
                          have y_60 : (60 : Int32).toInt = 60 := by decide
                          have y_61 : (61 : Int32).toInt = 61 := by decide
                          have y_62 : (62 : Int32).toInt = 62 := by decide
                          have y_1 : (1 : Int32).toInt = 1 := by decide
                          have t_x_534 : x_534.toInt = (sv_28 : Int32).toInt + (1 : Int32).toInt := by rw [ex_534]; exact add_toInt (by omega) (by omega)
                          omega
                        have ha_788 : 0 ≤ (Mv 5).toInt := by
                          have z_1 : ¬ (r_13 : Int32).toInt = (0 : Int32).toInt := fun z => c_18 (Int32.toInt_inj.mp z)
                          have z_2 : ¬ (r_33 : Int32).toInt = (60 : Int32).toInt := fun z => c_36 (Int32.toInt_inj.mp z)
                          have z_3 : ¬ (r_33 : Int32).toInt = (61 : Int32).toInt := fun z => c_434 (Int32.toInt_inj.mp z)
                          have z_4 := congrArg Int32.toInt c_533
                          have z_5 : ¬ (r_33 : Int32).toInt = (61 : Int32).toInt := fun z => c_535 (Int32.toInt_inj.mp z)
                          have z_6 := Int32.lt_iff_toInt_lt.mp (Int32.not_le.mp c_536)
                          have z_7 := congrArg Int32.toInt c_636
                          have z_8 : ¬ (r_748 : Int32).toInt = (0 : Int32).toInt := fun z => c_753 (Int32.toInt_inj.mp z)
                          have z_9 : ¬ (r_33 : Int32).toInt = (60 : Int32).toInt := fun z => c_754 (Int32.toInt_inj.mp z)
                          have z_10 : ¬ (r_33 : Int32).toInt = (61 : Int32).toInt := fun z => c_755 (Int32.toInt_inj.mp z)
                          have z_11 : ¬ (r_773 : Int32).toInt = (0 : Int32).toInt := fun z => c_778 (Int32.toInt_inj.mp z)
                          have y_0 : (0 : Int32).toInt = 0 := by decide
                          have y_60 : (60 : Int32).toInt = 60 := by decide
                          have y_61 : (61 : Int32).toInt = 61 := by decide
                          have y_62 : (62 : Int32).toInt = 62 := by decide
                          have y_1 : (1 : Int32).toInt = 1 := by decide
                          have t_x_534 : x_534.toInt = (sv_28 : Int32).toInt + (1 : Int32).toInt := by rw [ex_534]; exact add_toInt (by omega) (by omega)
                          omega
                        refine cV (a := (Ma 0)) (As := [.int 9, .int 0]) (rest := []) (wr := [((Ma 1), .inl (tc 2, 400, .inl (Mf 1)))]) ⟨hx, hb, hml, hown, hts⟩ hK hX hA (cu_kX12_puts l D tc sk (Ma 0) (Ma 1) (Ma 2) (Ma 3) (Ma 4) (Ma 5) (Ma 6) (Ma 7) (Ma 8) (Ma 9) (Ma 10) (Ma 11) (Ma 12) (Ma 13) (Ma 14) (Ma 15) (Ma 16) (Ma 17) (Ma 18) (Ma 19) (Ma 20) (Mv 0) (Mv 1) sv_764 sv_765 sv_766 (Mv 5) sv_767 (Mv 7) (Mv 8) (Mv 9) (Mv 10) (Mv 11) (Mv 12) (Mv 13) (Mv 14) sv_768 sv_769 (Mj 0) 9 0 b sv_767 ((d + 1) + 1) (d + 1) lo_783 (-10) pf_779 (StpR.op (by decide) rfl (by omega)) ha_784 ha_785 pf_781 (by decide) ha_786 ha_787 ha_788) k_1296 k_1293 k_1295 k_46 k_106 pl_X12_puts ⟨Nat.le_of_ble_eq_true rfl, Nat.le_of_ble_eq_true rfl⟩ rfl rfl (va_recv hK hP (ci := 12) (q0 := 0) rfl rfl) hP hD hS [0, 2, 3] [1] rfl rfl rfl rfl rfl (by decide) rfl hl.1 rfl (Nat.le_of_ble_eq_true rfl) dX12_compare_170 ⟨Nat.le_of_ble_eq_true rfl, Nat.le_of_ble_eq_true rfl⟩ (fun v_789 u_790 H locs hv_791 hP₀ hD₀ hS₀ => ?_)
                        obtain ⟨sv_792, sv_793⟩ := u_790
                        obtain ⟨rfl, pf_794, pf_795, pf_796, pf_797⟩ := hv_791
                        have pf_794 : Cd sv_792 sv_793 (Mv 5) b sv_767 (d + 1) := pf_794
                        have ar_pf_794 := Cd.ar pf_794
                        have pf_795 : Agr sv_768 sv_792 (400 * ((Mv 5) : Int32).toInt + (sv_769 (Mv 5).toNatClampNeg).toInt) := pf_795
                        have pf_796 : (sv_793 (Mv 5).toNatClampNeg).toInt = (sv_769 (Mv 5).toNatClampNeg).toInt + 1 := pf_796
                        have pf_797 : SgC sv_792 sv_793 (Mv 5) (lo_783 ++ [((-10) : Int)]) := pf_797
                        obtain ⟨lo_798, elo_798⟩ : ∃ z : List Int, z = (lo_783 ++ [(-10)]) := ⟨_, rfl⟩
                        rw [← elo_798] at pf_797
                        refine W.eq (g2 := F0 m 173 ls []) rfl ?_
                        replace hP : va_P D classes [((Ma 1), .inl (tc 2, 400, .inl (Mf 1))), ((Ma 0), .inr (12, [.ref (Ma 1), .int (Mv 0), .int (Mv 1), .ref (Ma 2), .ref (Ma 3), .ref (Ma 4), .ref (Ma 5), .ref (Ma 6), .int sv_764, .int sv_765, .int sv_766, .int (Mv 5), .int sv_767, .int (Mv 7), .int (Mv 8), .ref (Ma 7), .int (Mv 9), .ref (Ma 8), .int (Mv 10), .ref (Ma 9), .ref (Ma 10), .int (Mv 11), .int (Mv 12), .int (Mv 13), .ref (Ma 11), .int (Mv 14), .ref (Ma 12), .ref (Ma 13), .ref (Ma 14), .ref (Ma 15), .ref (Ma 16), .long (Mj 0), .ref (Ma 17), .ref (Ma 18), .ref (Ma 19), .ref (Ma 20)])), ((Ma 2), .inl (tc 0, 2400, .inl sv_792)), ((Ma 3), .inl (tc 0, 7, .inl sv_793))] H := hP₀
                        replace hD : va_D A [((Ma 1), .inl (tc 2, 400, .inl (Mf 1))), ((Ma 0), .inr (12, [.ref (Ma 1), .int (Mv 0), .int (Mv 1), .ref (Ma 2), .ref (Ma 3), .ref (Ma 4), .ref (Ma 5), .ref (Ma 6), .int sv_764, .int sv_765, .int sv_766, .int (Mv 5), .int sv_767, .int (Mv 7), .int (Mv 8), .ref (Ma 7), .int (Mv 9), .ref (Ma 8), .int (Mv 10), .ref (Ma 9), .ref (Ma 10), .int (Mv 11), .int (Mv 12), .int (Mv 13), .ref (Ma 11), .int (Mv 14), .ref (Ma 12), .ref (Ma 13), .ref (Ma 14), .ref (Ma 15), .ref (Ma 16), .long (Mj 0), .ref (Ma 17), .ref (Ma 18), .ref (Ma 19), .ref (Ma 20)])), ((Ma 2), .inl (tc 0, 2400, .inl sv_792)), ((Ma 3), .inl (tc 0, 7, .inl sv_793))] := hD₀
                        replace hS := hS₀
                        clear hP₀ hD₀ hS₀
                        refine lv_iconst (v := 1) hx hb dX12_compare_173 (by decide) ?_
                        have ha_799 : ((Mv 2) : Int32).toInt ≤ (sv_764 : Int32).toInt ∧ (sv_764 : Int32).toInt ≤ ((Mv 0) : Int32).toInt := by
                          have z_1 : ¬ (r_13 : Int32).toInt = (0 : Int32).toInt := fun z => c_18 (Int32.toInt_inj.mp z)
                          have z_2 : ¬ (r_33 : Int32).toInt = (60 : Int32).toInt := fun z => c_36 (Int32.toInt_inj.mp z)
                          have z_3 : ¬ (r_33 : Int32).toInt = (61 : Int32).toInt := fun z => c_434 (Int32.toInt_inj.mp z)
                          have z_4 := congrArg Int32.toInt c_533
                          have z_5 : ¬ (r_33 : Int32).toInt = (61 : Int32).toInt := fun z => c_535 (Int32.toInt_inj.mp z)
                          have z_6 := Int32.lt_iff_toInt_lt.mp (Int32.not_le.mp c_536)
                          have z_7 := congrArg Int32.toInt c_636
                          have z_8 : ¬ (r_748 : Int32).toInt = (0 : Int32).toInt := fun z => c_753 (Int32.toInt_inj.mp z)
                          have z_9 : ¬ (r_33 : Int32).toInt = (60 : Int32).toInt := fun z => c_754 (Int32.toInt_inj.mp z)
                          have z_10 : ¬ (r_33 : Int32).toInt = (61 : Int32).toInt := fun z => c_755 (Int32.toInt_inj.mp z)
                          have z_11 : ¬ (r_773 : Int32).toInt = (0 : Int32).toInt := fun z => c_778 (Int32.toInt_inj.mp z)
                          have y_0 : (0 : Int32).toInt = 0 := by decide
                          have y_60 : (60 : Int32).toInt = 60 := by decide
                          have y_61 : (61 : Int32).toInt = 61 := by decide
                          have y_62 : (62 : Int32).toInt = 62 := by decide
                          have y_1 : (1 : Int32).toInt = 1 := by decide
                          have t_x_534 : x_534.toInt = (sv_28 : Int32).toInt + (1 : Int32).toInt := by rw [ex_534]; exact add_toInt (by omega) (by omega)
                          omega
                        have ha_800 : ((Mv 6) : Int32).toInt ≤ (sv_767 : Int32).toInt ∧ (sv_767 : Int32).toInt ≤ 60 := by
                          have z_1 : ¬ (r_13 : Int32).toInt = (0 : Int32).toInt := fun z => c_18 (Int32.toInt_inj.mp z)
                          have z_2 : ¬ (r_33 : Int32).toInt = (60 : Int32).toInt := fun z => c_36 (Int32.toInt_inj.mp z)
                          have z_3 : ¬ (r_33 : Int32).toInt = (61 : Int32).toInt := fun z => c_434 (Int32.toInt_inj.mp z)
                          have z_4 := congrArg Int32.toInt c_533
                          have z_5 : ¬ (r_33 : Int32).toInt = (61 : Int32).toInt := fun z => c_535 (Int32.toInt_inj.mp z)
                          have z_6 := Int32.lt_iff_toInt_lt.mp (Int32.not_le.mp c_536)
                          have z_7 := congrArg Int32.toInt c_636
                          have z_8 : ¬ (r_748 : Int32).toInt = (0 : Int32).toInt := fun z => c_753 (Int32.toInt_inj.mp z)
                          have z_9 : ¬ (r_33 : Int32).toInt = (60 : Int32).toInt := fun z => c_754 (Int32.toInt_inj.mp z)
                          have z_10 : ¬ (r_33 : Int32).toInt = (61 : Int32).toInt := fun z => c_755 (Int32.toInt_inj.mp z)
                          have z_11 : ¬ (r_773 : Int32).toInt = (0 : Int32).toInt := fun z => c_778 (Int32.toInt_inj.mp z)
                          have y_0 : (0 : Int32).toInt = 0 := by decide
                          have y_60 : (60 : Int32).toInt = 60 := by decide
                          have y_61 : (61 : Int32).toInt = 61 := by decide
                          have y_62 : (62 : Int32).toInt = 62 := by decide
                          have y_1 : (1 : Int32).toInt = 1 := by decide
                          have t_x_534 : x_534.toInt = (sv_28 : Int32).toInt + (1 : Int32).toInt := by rw [ex_534]; exact add_toInt (by omega) (by omega)
                          omega
                        have hr_801 : (400 * ((Mv 5) : Int32).toInt + ((Mf 3) (Mv 5).toNatClampNeg).toInt) ≤ (400 * ((Mv 5) : Int32).toInt + ((Mf 3) (Mv 5).toNatClampNeg).toInt) := by
                          have z_1 : ¬ (r_13 : Int32).toInt = (0 : Int32).toInt := fun z => c_18 (Int32.toInt_inj.mp z)
                          have z_2 : ¬ (r_33 : Int32).toInt = (60 : Int32).toInt := fun z => c_36 (Int32.toInt_inj.mp z)
                          have z_3 : ¬ (r_33 : Int32).toInt = (61 : Int32).toInt := fun z => c_434 (Int32.toInt_inj.mp z)
                          have z_4 := congrArg Int32.toInt c_533
                          have z_5 : ¬ (r_33 : Int32).toInt = (61 : Int32).toInt := fun z => c_535 (Int32.toInt_inj.mp z)
                          have z_6 := Int32.lt_iff_toInt_lt.mp (Int32.not_le.mp c_536)
                          have z_7 := congrArg Int32.toInt c_636
                          have z_8 : ¬ (r_748 : Int32).toInt = (0 : Int32).toInt := fun z => c_753 (Int32.toInt_inj.mp z)
                          have z_9 : ¬ (r_33 : Int32).toInt = (60 : Int32).toInt := fun z => c_754 (Int32.toInt_inj.mp z)
                          have z_10 : ¬ (r_33 : Int32).toInt = (61 : Int32).toInt := fun z => c_755 (Int32.toInt_inj.mp z)
                          have z_11 : ¬ (r_773 : Int32).toInt = (0 : Int32).toInt := fun z => c_778 (Int32.toInt_inj.mp z)
                          have y_0 : (0 : Int32).toInt = 0 := by decide
                          have y_60 : (60 : Int32).toInt = 60 := by decide
                          have y_61 : (61 : Int32).toInt = 61 := by decide
                          have y_62 : (62 : Int32).toInt = 62 := by decide
                          have y_1 : (1 : Int32).toInt = 1 := by decide
                          have t_x_534 : x_534.toInt = (sv_28 : Int32).toInt + (1 : Int32).toInt := by rw [ex_534]; exact add_toInt (by omega) (by omega)
                          omega
                        have hr_802 : (400 * ((Mv 5) : Int32).toInt + ((Mf 3) (Mv 5).toNatClampNeg).toInt) ≤ (400 * ((Mv 5) : Int32).toInt + (sv_9 (Mv 5).toNatClampNeg).toInt) := by
                          have z_1 : ¬ (r_13 : Int32).toInt = (0 : Int32).toInt := fun z => c_18 (Int32.toInt_inj.mp z)
                          have z_2 : ¬ (r_33 : Int32).toInt = (60 : Int32).toInt := fun z => c_36 (Int32.toInt_inj.mp z)
                          have z_3 : ¬ (r_33 : Int32).toInt = (61 : Int32).toInt := fun z => c_434 (Int32.toInt_inj.mp z)
                          have z_4 := congrArg Int32.toInt c_533
                          have z_5 : ¬ (r_33 : Int32).toInt = (61 : Int32).toInt := fun z => c_535 (Int32.toInt_inj.mp z)
                          have z_6 := Int32.lt_iff_toInt_lt.mp (Int32.not_le.mp c_536)
                          have z_7 := congrArg Int32.toInt c_636
                          have z_8 : ¬ (r_748 : Int32).toInt = (0 : Int32).toInt := fun z => c_753 (Int32.toInt_inj.mp z)
                          have z_9 : ¬ (r_33 : Int32).toInt = (60 : Int32).toInt := fun z => c_754 (Int32.toInt_inj.mp z)
                          have z_10 : ¬ (r_33 : Int32).toInt = (61 : Int32).toInt := fun z => c_755 (Int32.toInt_inj.mp z)
                          have z_11 : ¬ (r_773 : Int32).toInt = (0 : Int32).toInt := fun z => c_778 (Int32.toInt_inj.mp z)
                          have y_0 : (0 : Int32).toInt = 0 := by decide
                          have y_60 : (60 : Int32).toInt = 60 := by decide
                          have y_61 : (61 : Int32).toInt = 61 := by decide
                          have y_62 : (62 : Int32).toInt = 62 := by decide
                          have y_1 : (1 : Int32).toInt = 1 := by decide
                          have t_x_534 : x_534.toInt = (sv_28 : Int32).toInt + (1 : Int32).toInt := by rw [ex_534]; exact add_toInt (by omega) (by omega)
                          omega
                        have hr_803 : (400 * ((Mv 5) : Int32).toInt + ((Mf 3) (Mv 5).toNatClampNeg).toInt) ≤ (400 * ((Mv 5) : Int32).toInt + (sv_769 (Mv 5).toNatClampNeg).toInt) := by
                          have z_1 : ¬ (r_13 : Int32).toInt = (0 : Int32).toInt := fun z => c_18 (Int32.toInt_inj.mp z)
                          have z_2 : ¬ (r_33 : Int32).toInt = (60 : Int32).toInt := fun z => c_36 (Int32.toInt_inj.mp z)
                          have z_3 : ¬ (r_33 : Int32).toInt = (61 : Int32).toInt := fun z => c_434 (Int32.toInt_inj.mp z)
                          have z_4 := congrArg Int32.toInt c_533
                          have z_5 : ¬ (r_33 : Int32).toInt = (61 : Int32).toInt := fun z => c_535 (Int32.toInt_inj.mp z)
                          have z_6 := Int32.lt_iff_toInt_lt.mp (Int32.not_le.mp c_536)
                          have z_7 := congrArg Int32.toInt c_636
                          have z_8 : ¬ (r_748 : Int32).toInt = (0 : Int32).toInt := fun z => c_753 (Int32.toInt_inj.mp z)
                          have z_9 : ¬ (r_33 : Int32).toInt = (60 : Int32).toInt := fun z => c_754 (Int32.toInt_inj.mp z)
                          have z_10 : ¬ (r_33 : Int32).toInt = (61 : Int32).toInt := fun z => c_755 (Int32.toInt_inj.mp z)
                          have z_11 : ¬ (r_773 : Int32).toInt = (0 : Int32).toInt := fun z => c_778 (Int32.toInt_inj.mp z)
                          have y_0 : (0 : Int32).toInt = 0 := by decide
                          have y_60 : (60 : Int32).toInt = 60 := by decide
                          have y_61 : (61 : Int32).toInt = 61 := by decide
                          have y_62 : (62 : Int32).toInt = 62 := by decide
                          have y_1 : (1 : Int32).toInt = 1 := by decide
                          have t_x_534 : x_534.toInt = (sv_28 : Int32).toInt + (1 : Int32).toInt := by rw [ex_534]; exact add_toInt (by omega) (by omega)
                          omega
                        have hp_804 : (((1 : Int32).toInt = 0 ∧ ¬ (sv_765 : Int32).toInt = 0) ∨ ((1 : Int32).toInt = 1 ∧ ((Mf 3) (Mv 5).toNatClampNeg).toInt + 1 ≤ (sv_793 (Mv 5).toNatClampNeg).toInt ∧ (sv_793 (Mv 5).toNatClampNeg).toInt + ((Mv 2) : Int32).toInt ≤ ((Mf 3) (Mv 5).toNatClampNeg).toInt + (sv_764 : Int32).toInt ∧ ((Mv 2) : Int32).toInt + 1 ≤ (sv_764 : Int32).toInt)) := by
                          have z_1 : ¬ (r_13 : Int32).toInt = (0 : Int32).toInt := fun z => c_18 (Int32.toInt_inj.mp z)
                          have z_2 : ¬ (r_33 : Int32).toInt = (60 : Int32).toInt := fun z => c_36 (Int32.toInt_inj.mp z)
                          have z_3 : ¬ (r_33 : Int32).toInt = (61 : Int32).toInt := fun z => c_434 (Int32.toInt_inj.mp z)
                          have z_4 := congrArg Int32.toInt c_533
                          have z_5 : ¬ (r_33 : Int32).toInt = (61 : Int32).toInt := fun z => c_535 (Int32.toInt_inj.mp z)
                          have z_6 := Int32.lt_iff_toInt_lt.mp (Int32.not_le.mp c_536)
                          have z_7 := congrArg Int32.toInt c_636
                          have z_8 : ¬ (r_748 : Int32).toInt = (0 : Int32).toInt := fun z => c_753 (Int32.toInt_inj.mp z)
                          have z_9 : ¬ (r_33 : Int32).toInt = (60 : Int32).toInt := fun z => c_754 (Int32.toInt_inj.mp z)
                          have z_10 : ¬ (r_33 : Int32).toInt = (61 : Int32).toInt := fun z => c_755 (Int32.toInt_inj.mp z)
                          have z_11 : ¬ (r_773 : Int32).toInt = (0 : Int32).toInt := fun z => c_778 (Int32.toInt_inj.mp z)
                          have y_0 : (0 : Int32).toInt = 0 := by decide
                          have y_60 : (60 : Int32).toInt = 60 := by decide
                          have y_61 : (61 : Int32).toInt = 61 := by decide
                          have y_62 : (62 : Int32).toInt = 62 := by decide
                          have y_1 : (1 : Int32).toInt = 1 := by decide
                          have t_x_534 : x_534.toInt = (sv_28 : Int32).toInt + (1 : Int32).toInt := by rw [ex_534]; exact add_toInt (by omega) (by omega)
                          have yr : (1 : Int32).toInt = 1 := by decide
                          omega
                        have hm_805 : (1 : Int32).toInt = 1 → (Cd sv_792 sv_793 (Mv 5) b sv_767 (d + 1)) ∧ (RfO (pz_com (rB (Mf 1) (Mv 0)) (St0 (rB (Mf 1) (Mv 0)) (Mv 2) (Mv 6))) (rB (Mf 1) (Mv 0)) sv_765 sv_764 sv_767) ∧ (SgC sv_792 sv_793 (Mv 5) (ll ++ ec_com (rB (Mf 1) (Mv 0)) (St0 (rB (Mf 1) (Mv 0)) (Mv 2) (Mv 6)))) := by
                          intro h1r
                          have hr_806 : (rB (Mf 1) (Mv 0) (sv_28 : Int32).toInt.toNat = 60 ∨ rB (Mf 1) (Mv 0) (sv_28 : Int32).toInt.toNat = 61 ∨ rB (Mf 1) (Mv 0) (sv_28 : Int32).toInt.toNat = 62) := by
                            have z_1 : ¬ (r_13 : Int32).toInt = (0 : Int32).toInt := fun z => c_18 (Int32.toInt_inj.mp z)
                            have z_2 : ¬ (r_33 : Int32).toInt = (60 : Int32).toInt := fun z => c_36 (Int32.toInt_inj.mp z)
                            have z_3 : ¬ (r_33 : Int32).toInt = (61 : Int32).toInt := fun z => c_434 (Int32.toInt_inj.mp z)
                            have z_4 := congrArg Int32.toInt c_533
                            have z_5 : ¬ (r_33 : Int32).toInt = (61 : Int32).toInt := fun z => c_535 (Int32.toInt_inj.mp z)
                            have z_6 := Int32.lt_iff_toInt_lt.mp (Int32.not_le.mp c_536)
                            have z_7 := congrArg Int32.toInt c_636
                            have z_8 : ¬ (r_748 : Int32).toInt = (0 : Int32).toInt := fun z => c_753 (Int32.toInt_inj.mp z)
                            have z_9 : ¬ (r_33 : Int32).toInt = (60 : Int32).toInt := fun z => c_754 (Int32.toInt_inj.mp z)
                            have z_10 : ¬ (r_33 : Int32).toInt = (61 : Int32).toInt := fun z => c_755 (Int32.toInt_inj.mp z)
                            have z_11 : ¬ (r_773 : Int32).toInt = (0 : Int32).toInt := fun z => c_778 (Int32.toInt_inj.mp z)
                            have y_0 : (0 : Int32).toInt = 0 := by decide
                            have y_60 : (60 : Int32).toInt = 60 := by decide
                            have y_61 : (61 : Int32).toInt = 61 := by decide
                            have y_62 : (62 : Int32).toInt = 62 := by decide
                            have y_1 : (1 : Int32).toInt = 1 := by decide
                            have t_x_534 : x_534.toInt = (sv_28 : Int32).toInt + (1 : Int32).toInt := by rw [ex_534]; exact add_toInt (by omega) (by omega)
                            omega
                          have rg_807 := rB_rg (n := (Mv 0)) h_bs ((sv_28 : Int32).toInt.toNat + 1)
                          have hk_808 : ((Mf 1) (x_534 : Int32).toInt.toNat).toInt = ((Mf 1) ((sv_28 : Int32).toInt.toNat + 1)).toInt := congrArg (fun z => ((Mf 1) z).toInt) (by
                            have z_1 : ¬ (r_13 : Int32).toInt = (0 : Int32).toInt := fun z => c_18 (Int32.toInt_inj.mp z)
                            have z_2 : ¬ (r_33 : Int32).toInt = (60 : Int32).toInt := fun z => c_36 (Int32.toInt_inj.mp z)
                            have z_3 : ¬ (r_33 : Int32).toInt = (61 : Int32).toInt := fun z => c_434 (Int32.toInt_inj.mp z)
                            have z_4 := congrArg Int32.toInt c_533
                            have z_5 : ¬ (r_33 : Int32).toInt = (61 : Int32).toInt := fun z => c_535 (Int32.toInt_inj.mp z)
                            have z_6 := Int32.lt_iff_toInt_lt.mp (Int32.not_le.mp c_536)
                            have z_7 := congrArg Int32.toInt c_636
                            have z_8 : ¬ (r_748 : Int32).toInt = (0 : Int32).toInt := fun z => c_753 (Int32.toInt_inj.mp z)
                            have z_9 : ¬ (r_33 : Int32).toInt = (60 : Int32).toInt := fun z => c_754 (Int32.toInt_inj.mp z)
                            have z_10 : ¬ (r_33 : Int32).toInt = (61 : Int32).toInt := fun z => c_755 (Int32.toInt_inj.mp z)
                            have z_11 : ¬ (r_773 : Int32).toInt = (0 : Int32).toInt := fun z => c_778 (Int32.toInt_inj.mp z)
                            have y_0 : (0 : Int32).toInt = 0 := by decide
                            have y_60 : (60 : Int32).toInt = 60 := by decide
                            have y_61 : (61 : Int32).toInt = 61 := by decide
                            have y_62 : (62 : Int32).toInt = 62 := by decide
                            have y_1 : (1 : Int32).toInt = 1 := by decide
                            have t_x_534 : x_534.toInt = (sv_28 : Int32).toInt + (1 : Int32).toInt := by rw [ex_534]; exact add_toInt (by omega) (by omega)
                            omega)
                          have hr_809 : ((x_738 : Int32).toInt = (sv_28 : Int32).toInt + 1 ∧ ¬ ((rB (Mf 1) (Mv 0) (sv_28 : Int32).toInt.toNat = 60 ∨ rB (Mf 1) (Mv 0) (sv_28 : Int32).toInt.toNat = 62) ∧ rB (Mf 1) (Mv 0) ((sv_28 : Int32).toInt.toNat + 1) = 61)) ∨ ((x_738 : Int32).toInt = (sv_28 : Int32).toInt + 2 ∧ (rB (Mf 1) (Mv 0) (sv_28 : Int32).toInt.toNat = 60 ∨ rB (Mf 1) (Mv 0) (sv_28 : Int32).toInt.toNat = 62) ∧ rB (Mf 1) (Mv 0) ((sv_28 : Int32).toInt.toNat + 1) = 61) := by
                            have z_1 : ¬ (r_13 : Int32).toInt = (0 : Int32).toInt := fun z => c_18 (Int32.toInt_inj.mp z)
                            have z_2 : ¬ (r_33 : Int32).toInt = (60 : Int32).toInt := fun z => c_36 (Int32.toInt_inj.mp z)
                            have z_3 : ¬ (r_33 : Int32).toInt = (61 : Int32).toInt := fun z => c_434 (Int32.toInt_inj.mp z)
                            have z_4 := congrArg Int32.toInt c_533
                            have z_5 : ¬ (r_33 : Int32).toInt = (61 : Int32).toInt := fun z => c_535 (Int32.toInt_inj.mp z)
                            have z_6 := Int32.lt_iff_toInt_lt.mp (Int32.not_le.mp c_536)
                            have z_7 := congrArg Int32.toInt c_636
                            have z_8 : ¬ (r_748 : Int32).toInt = (0 : Int32).toInt := fun z => c_753 (Int32.toInt_inj.mp z)
                            have z_9 : ¬ (r_33 : Int32).toInt = (60 : Int32).toInt := fun z => c_754 (Int32.toInt_inj.mp z)
                            have z_10 : ¬ (r_33 : Int32).toInt = (61 : Int32).toInt := fun z => c_755 (Int32.toInt_inj.mp z)
                            have z_11 : ¬ (r_773 : Int32).toInt = (0 : Int32).toInt := fun z => c_778 (Int32.toInt_inj.mp z)
                            have y_0 : (0 : Int32).toInt = 0 := by decide
                            have y_60 : (60 : Int32).toInt = 60 := by decide
                            have y_61 : (61 : Int32).toInt = 61 := by decide
                            have y_62 : (62 : Int32).toInt = 62 := by decide
                            have y_1 : (1 : Int32).toInt = 1 := by decide
                            have t_x_534 : x_534.toInt = (sv_28 : Int32).toInt + (1 : Int32).toInt := by rw [ex_534]; exact add_toInt (by omega) (by omega)
                            have t_x_738 : x_738.toInt = (x_534 : Int32).toInt + (1 : Int32).toInt := by rw [ex_738]; exact add_toInt (by omega) (by omega)
                            omega
                          have hr_810 : 0 ≤ (sv_7 : Int32).toInt ∧ (sv_7 : Int32).toInt < 60 ∧ (sv_746 : Int32).toInt = (sv_7 : Int32).toInt + 1 := by
                            have z_1 : ¬ (r_13 : Int32).toInt = (0 : Int32).toInt := fun z => c_18 (Int32.toInt_inj.mp z)
                            have z_2 : ¬ (r_33 : Int32).toInt = (60 : Int32).toInt := fun z => c_36 (Int32.toInt_inj.mp z)
                            have z_3 : ¬ (r_33 : Int32).toInt = (61 : Int32).toInt := fun z => c_434 (Int32.toInt_inj.mp z)
                            have z_4 := congrArg Int32.toInt c_533
                            have z_5 : ¬ (r_33 : Int32).toInt = (61 : Int32).toInt := fun z => c_535 (Int32.toInt_inj.mp z)
                            have z_6 := Int32.lt_iff_toInt_lt.mp (Int32.not_le.mp c_536)
                            have z_7 := congrArg Int32.toInt c_636
                            have z_8 : ¬ (r_748 : Int32).toInt = (0 : Int32).toInt := fun z => c_753 (Int32.toInt_inj.mp z)
                            have z_9 : ¬ (r_33 : Int32).toInt = (60 : Int32).toInt := fun z => c_754 (Int32.toInt_inj.mp z)
                            have z_10 : ¬ (r_33 : Int32).toInt = (61 : Int32).toInt := fun z => c_755 (Int32.toInt_inj.mp z)
                            have z_11 : ¬ (r_773 : Int32).toInt = (0 : Int32).toInt := fun z => c_778 (Int32.toInt_inj.mp z)
                            have y_0 : (0 : Int32).toInt = 0 := by decide
                            have y_60 : (60 : Int32).toInt = 60 := by decide
                            have y_61 : (61 : Int32).toInt = 61 := by decide
                            have y_62 : (62 : Int32).toInt = 62 := by decide
                            have y_1 : (1 : Int32).toInt = 1 := by decide
                            have t_x_534 : x_534.toInt = (sv_28 : Int32).toInt + (1 : Int32).toInt := by rw [ex_534]; exact add_toInt (by omega) (by omega)
                            omega
                          have hr_811 : (rB (Mf 1) (Mv 0) (sv_28 : Int32).toInt.toNat = 60 ∨ rB (Mf 1) (Mv 0) (sv_28 : Int32).toInt.toNat = 61 ∨ rB (Mf 1) (Mv 0) (sv_28 : Int32).toInt.toNat = 62) := by
                            have z_1 : ¬ (r_13 : Int32).toInt = (0 : Int32).toInt := fun z => c_18 (Int32.toInt_inj.mp z)
                            have z_2 : ¬ (r_33 : Int32).toInt = (60 : Int32).toInt := fun z => c_36 (Int32.toInt_inj.mp z)
                            have z_3 : ¬ (r_33 : Int32).toInt = (61 : Int32).toInt := fun z => c_434 (Int32.toInt_inj.mp z)
                            have z_4 := congrArg Int32.toInt c_533
                            have z_5 : ¬ (r_33 : Int32).toInt = (61 : Int32).toInt := fun z => c_535 (Int32.toInt_inj.mp z)
                            have z_6 := Int32.lt_iff_toInt_lt.mp (Int32.not_le.mp c_536)
                            have z_7 := congrArg Int32.toInt c_636
                            have z_8 : ¬ (r_748 : Int32).toInt = (0 : Int32).toInt := fun z => c_753 (Int32.toInt_inj.mp z)
                            have z_9 : ¬ (r_33 : Int32).toInt = (60 : Int32).toInt := fun z => c_754 (Int32.toInt_inj.mp z)
                            have z_10 : ¬ (r_33 : Int32).toInt = (61 : Int32).toInt := fun z => c_755 (Int32.toInt_inj.mp z)
                            have z_11 : ¬ (r_773 : Int32).toInt = (0 : Int32).toInt := fun z => c_778 (Int32.toInt_inj.mp z)
                            have y_0 : (0 : Int32).toInt = 0 := by decide
                            have y_60 : (60 : Int32).toInt = 60 := by decide
                            have y_61 : (61 : Int32).toInt = 61 := by decide
                            have y_62 : (62 : Int32).toInt = 62 := by decide
                            have y_1 : (1 : Int32).toInt = 1 := by decide
                            have t_x_534 : x_534.toInt = (sv_28 : Int32).toInt + (1 : Int32).toInt := by rw [ex_534]; exact add_toInt (by omega) (by omega)
                            omega
                          have rg_812 := rB_rg (n := (Mv 0)) h_bs ((sv_28 : Int32).toInt.toNat + 1)
                          have hk_813 : ((Mf 1) (x_534 : Int32).toInt.toNat).toInt = ((Mf 1) ((sv_28 : Int32).toInt.toNat + 1)).toInt := congrArg (fun z => ((Mf 1) z).toInt) (by
                            have z_1 : ¬ (r_13 : Int32).toInt = (0 : Int32).toInt := fun z => c_18 (Int32.toInt_inj.mp z)
                            have z_2 : ¬ (r_33 : Int32).toInt = (60 : Int32).toInt := fun z => c_36 (Int32.toInt_inj.mp z)
                            have z_3 : ¬ (r_33 : Int32).toInt = (61 : Int32).toInt := fun z => c_434 (Int32.toInt_inj.mp z)
                            have z_4 := congrArg Int32.toInt c_533
                            have z_5 : ¬ (r_33 : Int32).toInt = (61 : Int32).toInt := fun z => c_535 (Int32.toInt_inj.mp z)
                            have z_6 := Int32.lt_iff_toInt_lt.mp (Int32.not_le.mp c_536)
                            have z_7 := congrArg Int32.toInt c_636
                            have z_8 : ¬ (r_748 : Int32).toInt = (0 : Int32).toInt := fun z => c_753 (Int32.toInt_inj.mp z)
                            have z_9 : ¬ (r_33 : Int32).toInt = (60 : Int32).toInt := fun z => c_754 (Int32.toInt_inj.mp z)
                            have z_10 : ¬ (r_33 : Int32).toInt = (61 : Int32).toInt := fun z => c_755 (Int32.toInt_inj.mp z)
                            have z_11 : ¬ (r_773 : Int32).toInt = (0 : Int32).toInt := fun z => c_778 (Int32.toInt_inj.mp z)
                            have y_0 : (0 : Int32).toInt = 0 := by decide
                            have y_60 : (60 : Int32).toInt = 60 := by decide
                            have y_61 : (61 : Int32).toInt = 61 := by decide
                            have y_62 : (62 : Int32).toInt = 62 := by decide
                            have y_1 : (1 : Int32).toInt = 1 := by decide
                            have t_x_534 : x_534.toInt = (sv_28 : Int32).toInt + (1 : Int32).toInt := by rw [ex_534]; exact add_toInt (by omega) (by omega)
                            omega)
                          have hr_814 : ((x_738 : Int32).toInt = (sv_28 : Int32).toInt + 1 ∧ ¬ ((rB (Mf 1) (Mv 0) (sv_28 : Int32).toInt.toNat = 60 ∨ rB (Mf 1) (Mv 0) (sv_28 : Int32).toInt.toNat = 62) ∧ rB (Mf 1) (Mv 0) ((sv_28 : Int32).toInt.toNat + 1) = 61)) ∨ ((x_738 : Int32).toInt = (sv_28 : Int32).toInt + 2 ∧ (rB (Mf 1) (Mv 0) (sv_28 : Int32).toInt.toNat = 60 ∨ rB (Mf 1) (Mv 0) (sv_28 : Int32).toInt.toNat = 62) ∧ rB (Mf 1) (Mv 0) ((sv_28 : Int32).toInt.toNat + 1) = 61) := by
                            have z_1 : ¬ (r_13 : Int32).toInt = (0 : Int32).toInt := fun z => c_18 (Int32.toInt_inj.mp z)
                            have z_2 : ¬ (r_33 : Int32).toInt = (60 : Int32).toInt := fun z => c_36 (Int32.toInt_inj.mp z)
                            have z_3 : ¬ (r_33 : Int32).toInt = (61 : Int32).toInt := fun z => c_434 (Int32.toInt_inj.mp z)
                            have z_4 := congrArg Int32.toInt c_533
                            have z_5 : ¬ (r_33 : Int32).toInt = (61 : Int32).toInt := fun z => c_535 (Int32.toInt_inj.mp z)
                            have z_6 := Int32.lt_iff_toInt_lt.mp (Int32.not_le.mp c_536)
                            have z_7 := congrArg Int32.toInt c_636
                            have z_8 : ¬ (r_748 : Int32).toInt = (0 : Int32).toInt := fun z => c_753 (Int32.toInt_inj.mp z)
                            have z_9 : ¬ (r_33 : Int32).toInt = (60 : Int32).toInt := fun z => c_754 (Int32.toInt_inj.mp z)
                            have z_10 : ¬ (r_33 : Int32).toInt = (61 : Int32).toInt := fun z => c_755 (Int32.toInt_inj.mp z)
                            have z_11 : ¬ (r_773 : Int32).toInt = (0 : Int32).toInt := fun z => c_778 (Int32.toInt_inj.mp z)
                            have y_0 : (0 : Int32).toInt = 0 := by decide
                            have y_60 : (60 : Int32).toInt = 60 := by decide
                            have y_61 : (61 : Int32).toInt = 61 := by decide
                            have y_62 : (62 : Int32).toInt = 62 := by decide
                            have y_1 : (1 : Int32).toInt = 1 := by decide
                            have t_x_534 : x_534.toInt = (sv_28 : Int32).toInt + (1 : Int32).toInt := by rw [ex_534]; exact add_toInt (by omega) (by omega)
                            have t_x_738 : x_738.toInt = (x_534 : Int32).toInt + (1 : Int32).toInt := by rw [ex_738]; exact add_toInt (by omega) (by omega)
                            omega
                          have hr_815 : (rB (Mf 1) (Mv 0) (sv_28 : Int32).toInt.toNat = 60 ∧ (x_738 : Int32).toInt = (sv_28 : Int32).toInt + 1 ∧ (-10 : Int) = -7) ∨ (rB (Mf 1) (Mv 0) (sv_28 : Int32).toInt.toNat = 60 ∧ (x_738 : Int32).toInt = (sv_28 : Int32).toInt + 2 ∧ (-10 : Int) = -8) ∨ (rB (Mf 1) (Mv 0) (sv_28 : Int32).toInt.toNat = 61 ∧ (-10 : Int) = -9) ∨ (rB (Mf 1) (Mv 0) (sv_28 : Int32).toInt.toNat = 62 ∧ (x_738 : Int32).toInt = (sv_28 : Int32).toInt + 2 ∧ (-10 : Int) = -10) ∨ (rB (Mf 1) (Mv 0) (sv_28 : Int32).toInt.toNat = 62 ∧ (x_738 : Int32).toInt = (sv_28 : Int32).toInt + 1 ∧ (-10 : Int) = -11) := by
                            have z_1 : ¬ (r_13 : Int32).toInt = (0 : Int32).toInt := fun z => c_18 (Int32.toInt_inj.mp z)
                            have z_2 : ¬ (r_33 : Int32).toInt = (60 : Int32).toInt := fun z => c_36 (Int32.toInt_inj.mp z)
                            have z_3 : ¬ (r_33 : Int32).toInt = (61 : Int32).toInt := fun z => c_434 (Int32.toInt_inj.mp z)
                            have z_4 := congrArg Int32.toInt c_533
                            have z_5 : ¬ (r_33 : Int32).toInt = (61 : Int32).toInt := fun z => c_535 (Int32.toInt_inj.mp z)
                            have z_6 := Int32.lt_iff_toInt_lt.mp (Int32.not_le.mp c_536)
                            have z_7 := congrArg Int32.toInt c_636
                            have z_8 : ¬ (r_748 : Int32).toInt = (0 : Int32).toInt := fun z => c_753 (Int32.toInt_inj.mp z)
                            have z_9 : ¬ (r_33 : Int32).toInt = (60 : Int32).toInt := fun z => c_754 (Int32.toInt_inj.mp z)
                            have z_10 : ¬ (r_33 : Int32).toInt = (61 : Int32).toInt := fun z => c_755 (Int32.toInt_inj.mp z)
                            have z_11 : ¬ (r_773 : Int32).toInt = (0 : Int32).toInt := fun z => c_778 (Int32.toInt_inj.mp z)
                            have y_0 : (0 : Int32).toInt = 0 := by decide
                            have y_60 : (60 : Int32).toInt = 60 := by decide
                            have y_61 : (61 : Int32).toInt = 61 := by decide
                            have y_62 : (62 : Int32).toInt = 62 := by decide
                            have y_1 : (1 : Int32).toInt = 1 := by decide
                            have t_x_534 : x_534.toInt = (sv_28 : Int32).toInt + (1 : Int32).toInt := by rw [ex_534]; exact add_toInt (by omega) (by omega)
                            have t_x_738 : x_738.toInt = (x_534 : Int32).toInt + (1 : Int32).toInt := by rw [ex_738]; exact add_toInt (by omega) (by omega)
                            omega
                          have hu_816 : SgC sv_792 sv_793 (Mv 5) (((ll ++ lsum (rB (Mf 1) (Mv 0)) (St0 (rB (Mf 1) (Mv 0)) (Mv 2) (Mv 6))) ++ lsum (rB (Mf 1) (Mv 0)) (St0 (rB (Mf 1) (Mv 0)) x_738 sv_746)) ++ [(-10)]) := by
                            rw [← elo_23, ← elo_783, ← elo_798]
                            exact pf_797
                          have hs_817 : SgC sv_792 sv_793 (Mv 5) (ll ++ ec_com (rB (Mf 1) (Mv 0)) (St0 (rB (Mf 1) (Mv 0)) (Mv 2) (Mv 6))) := by
                            rw [com_ls (o := -10) (md1 := sv_746) pf_20 pf_32 hr_811 hr_814 (ec_c_at pf_32 hr_814 hr_815)]
                            exact hu_816
                          exact ⟨pf_794, (RfO.com pf_20 pf_32 hr_806 hr_809 hr_810 pf_780), hs_817⟩
                        exact retI (v := 1) hx hb hr hlk (rfl) hP hD hS (sv_764, sv_765, sv_766, sv_767, sv_792, sv_793) ⟨_, rfl, hp_804, ha_799, ha_800, (Agr.trans (k' := (400 * ((Mv 5) : Int32).toInt + ((Mf 3) (Mv 5).toNatClampNeg).toInt)) (Agr.trans (k' := (400 * ((Mv 5) : Int32).toInt + ((Mf 3) (Mv 5).toNatClampNeg).toInt)) (Agr.mono pf_12 hr_801) pf_772 ⟨Int.le_refl _, hr_802⟩) pf_795 ⟨Int.le_refl _, hr_803⟩), hm_805, (fun h => absurd h (by decide))⟩ [1, 0, 2, 3] rfl rfl dX12_compare_174 (Nat.le_of_ble_eq_true rfl) (Nat.le_of_ble_eq_true rfl) rfl
                      · skip
                        have hz_819 : (r_773 : Int32).toInt = 0 := by
                          have z_1 : ¬ (r_13 : Int32).toInt = (0 : Int32).toInt := fun z => c_18 (Int32.toInt_inj.mp z)
                          have z_2 : ¬ (r_33 : Int32).toInt = (60 : Int32).toInt := fun z => c_36 (Int32.toInt_inj.mp z)
                          have z_3 : ¬ (r_33 : Int32).toInt = (61 : Int32).toInt := fun z => c_434 (Int32.toInt_inj.mp z)
                          have z_4 := congrArg Int32.toInt c_533
                          have z_5 : ¬ (r_33 : Int32).toInt = (61 : Int32).toInt := fun z => c_535 (Int32.toInt_inj.mp z)
                          have z_6 := Int32.lt_iff_toInt_lt.mp (Int32.not_le.mp c_536)
                          have z_7 := congrArg Int32.toInt c_636
                          have z_8 : ¬ (r_748 : Int32).toInt = (0 : Int32).toInt := fun z => c_753 (Int32.toInt_inj.mp z)
                          have z_9 : ¬ (r_33 : Int32).toInt = (60 : Int32).toInt := fun z => c_754 (Int32.toInt_inj.mp z)
                          have z_10 : ¬ (r_33 : Int32).toInt = (61 : Int32).toInt := fun z => c_755 (Int32.toInt_inj.mp z)
                          have z_11 := congrArg Int32.toInt c_778
                          have y_0 : (0 : Int32).toInt = 0 := by decide
                          have y_60 : (60 : Int32).toInt = 60 := by decide
                          have y_61 : (61 : Int32).toInt = 61 := by decide
                          have y_62 : (62 : Int32).toInt = 62 := by decide
                          have y_1 : (1 : Int32).toInt = 1 := by decide
                          have t_x_534 : x_534.toInt = (sv_28 : Int32).toInt + (1 : Int32).toInt := by rw [ex_534]; exact add_toInt (by omega) (by omega)
                          omega
                        obtain pf_818 := hm_777 hz_819
                        have pf_818 : RfE (pz_sum (rB (Mf 1) (Mv 0)) (St0 (rB (Mf 1) (Mv 0)) x_738 sv_746)) sv_765 := pf_818
                        refine lv_iconst (v := 0) hx hb dX12_compare_161 (by decide) ?_
                        have ha_820 : ((Mv 2) : Int32).toInt ≤ (sv_764 : Int32).toInt ∧ (sv_764 : Int32).toInt ≤ ((Mv 0) : Int32).toInt := by
                          have z_1 : ¬ (r_13 : Int32).toInt = (0 : Int32).toInt := fun z => c_18 (Int32.toInt_inj.mp z)
                          have z_2 : ¬ (r_33 : Int32).toInt = (60 : Int32).toInt := fun z => c_36 (Int32.toInt_inj.mp z)
                          have z_3 : ¬ (r_33 : Int32).toInt = (61 : Int32).toInt := fun z => c_434 (Int32.toInt_inj.mp z)
                          have z_4 := congrArg Int32.toInt c_533
                          have z_5 : ¬ (r_33 : Int32).toInt = (61 : Int32).toInt := fun z => c_535 (Int32.toInt_inj.mp z)
                          have z_6 := Int32.lt_iff_toInt_lt.mp (Int32.not_le.mp c_536)
                          have z_7 := congrArg Int32.toInt c_636
                          have z_8 : ¬ (r_748 : Int32).toInt = (0 : Int32).toInt := fun z => c_753 (Int32.toInt_inj.mp z)
                          have z_9 : ¬ (r_33 : Int32).toInt = (60 : Int32).toInt := fun z => c_754 (Int32.toInt_inj.mp z)
                          have z_10 : ¬ (r_33 : Int32).toInt = (61 : Int32).toInt := fun z => c_755 (Int32.toInt_inj.mp z)
                          have z_11 := congrArg Int32.toInt c_778
                          have y_0 : (0 : Int32).toInt = 0 := by decide
                          have y_60 : (60 : Int32).toInt = 60 := by decide
                          have y_61 : (61 : Int32).toInt = 61 := by decide
                          have y_62 : (62 : Int32).toInt = 62 := by decide
                          have y_1 : (1 : Int32).toInt = 1 := by decide
                          have t_x_534 : x_534.toInt = (sv_28 : Int32).toInt + (1 : Int32).toInt := by rw [ex_534]; exact add_toInt (by omega) (by omega)
                          omega
                        have ha_821 : ((Mv 6) : Int32).toInt ≤ (sv_767 : Int32).toInt ∧ (sv_767 : Int32).toInt ≤ 60 := by
                          have z_1 : ¬ (r_13 : Int32).toInt = (0 : Int32).toInt := fun z => c_18 (Int32.toInt_inj.mp z)
                          have z_2 : ¬ (r_33 : Int32).toInt = (60 : Int32).toInt := fun z => c_36 (Int32.toInt_inj.mp z)
                          have z_3 : ¬ (r_33 : Int32).toInt = (61 : Int32).toInt := fun z => c_434 (Int32.toInt_inj.mp z)
                          have z_4 := congrArg Int32.toInt c_533
                          have z_5 : ¬ (r_33 : Int32).toInt = (61 : Int32).toInt := fun z => c_535 (Int32.toInt_inj.mp z)
                          have z_6 := Int32.lt_iff_toInt_lt.mp (Int32.not_le.mp c_536)
                          have z_7 := congrArg Int32.toInt c_636
                          have z_8 : ¬ (r_748 : Int32).toInt = (0 : Int32).toInt := fun z => c_753 (Int32.toInt_inj.mp z)
                          have z_9 : ¬ (r_33 : Int32).toInt = (60 : Int32).toInt := fun z => c_754 (Int32.toInt_inj.mp z)
                          have z_10 : ¬ (r_33 : Int32).toInt = (61 : Int32).toInt := fun z => c_755 (Int32.toInt_inj.mp z)
                          have z_11 := congrArg Int32.toInt c_778
                          have y_0 : (0 : Int32).toInt = 0 := by decide
                          have y_60 : (60 : Int32).toInt = 60 := by decide
                          have y_61 : (61 : Int32).toInt = 61 := by decide
                          have y_62 : (62 : Int32).toInt = 62 := by decide
                          have y_1 : (1 : Int32).toInt = 1 := by decide
                          have t_x_534 : x_534.toInt = (sv_28 : Int32).toInt + (1 : Int32).toInt := by rw [ex_534]; exact add_toInt (by omega) (by omega)
                          omega
                        have hr_822 : (400 * ((Mv 5) : Int32).toInt + ((Mf 3) (Mv 5).toNatClampNeg).toInt) ≤ (400 * ((Mv 5) : Int32).toInt + ((Mf 3) (Mv 5).toNatClampNeg).toInt) := by
                          have z_1 : ¬ (r_13 : Int32).toInt = (0 : Int32).toInt := fun z => c_18 (Int32.toInt_inj.mp z)
                          have z_2 : ¬ (r_33 : Int32).toInt = (60 : Int32).toInt := fun z => c_36 (Int32.toInt_inj.mp z)
                          have z_3 : ¬ (r_33 : Int32).toInt = (61 : Int32).toInt := fun z => c_434 (Int32.toInt_inj.mp z)
                          have z_4 := congrArg Int32.toInt c_533
                          have z_5 : ¬ (r_33 : Int32).toInt = (61 : Int32).toInt := fun z => c_535 (Int32.toInt_inj.mp z)
                          have z_6 := Int32.lt_iff_toInt_lt.mp (Int32.not_le.mp c_536)
                          have z_7 := congrArg Int32.toInt c_636
                          have z_8 : ¬ (r_748 : Int32).toInt = (0 : Int32).toInt := fun z => c_753 (Int32.toInt_inj.mp z)
                          have z_9 : ¬ (r_33 : Int32).toInt = (60 : Int32).toInt := fun z => c_754 (Int32.toInt_inj.mp z)
                          have z_10 : ¬ (r_33 : Int32).toInt = (61 : Int32).toInt := fun z => c_755 (Int32.toInt_inj.mp z)
                          have z_11 := congrArg Int32.toInt c_778
                          have y_0 : (0 : Int32).toInt = 0 := by decide
                          have y_60 : (60 : Int32).toInt = 60 := by decide
                          have y_61 : (61 : Int32).toInt = 61 := by decide
                          have y_62 : (62 : Int32).toInt = 62 := by decide
                          have y_1 : (1 : Int32).toInt = 1 := by decide
                          have t_x_534 : x_534.toInt = (sv_28 : Int32).toInt + (1 : Int32).toInt := by rw [ex_534]; exact add_toInt (by omega) (by omega)
                          omega
                        have hr_823 : (400 * ((Mv 5) : Int32).toInt + ((Mf 3) (Mv 5).toNatClampNeg).toInt) ≤ (400 * ((Mv 5) : Int32).toInt + (sv_9 (Mv 5).toNatClampNeg).toInt) := by
                          have z_1 : ¬ (r_13 : Int32).toInt = (0 : Int32).toInt := fun z => c_18 (Int32.toInt_inj.mp z)
                          have z_2 : ¬ (r_33 : Int32).toInt = (60 : Int32).toInt := fun z => c_36 (Int32.toInt_inj.mp z)
                          have z_3 : ¬ (r_33 : Int32).toInt = (61 : Int32).toInt := fun z => c_434 (Int32.toInt_inj.mp z)
                          have z_4 := congrArg Int32.toInt c_533
                          have z_5 : ¬ (r_33 : Int32).toInt = (61 : Int32).toInt := fun z => c_535 (Int32.toInt_inj.mp z)
                          have z_6 := Int32.lt_iff_toInt_lt.mp (Int32.not_le.mp c_536)
                          have z_7 := congrArg Int32.toInt c_636
                          have z_8 : ¬ (r_748 : Int32).toInt = (0 : Int32).toInt := fun z => c_753 (Int32.toInt_inj.mp z)
                          have z_9 : ¬ (r_33 : Int32).toInt = (60 : Int32).toInt := fun z => c_754 (Int32.toInt_inj.mp z)
                          have z_10 : ¬ (r_33 : Int32).toInt = (61 : Int32).toInt := fun z => c_755 (Int32.toInt_inj.mp z)
                          have z_11 := congrArg Int32.toInt c_778
                          have y_0 : (0 : Int32).toInt = 0 := by decide
                          have y_60 : (60 : Int32).toInt = 60 := by decide
                          have y_61 : (61 : Int32).toInt = 61 := by decide
                          have y_62 : (62 : Int32).toInt = 62 := by decide
                          have y_1 : (1 : Int32).toInt = 1 := by decide
                          have t_x_534 : x_534.toInt = (sv_28 : Int32).toInt + (1 : Int32).toInt := by rw [ex_534]; exact add_toInt (by omega) (by omega)
                          omega
                        have hp_824 : (((0 : Int32).toInt = 0 ∧ ¬ (sv_765 : Int32).toInt = 0) ∨ ((0 : Int32).toInt = 1 ∧ ((Mf 3) (Mv 5).toNatClampNeg).toInt + 1 ≤ (sv_769 (Mv 5).toNatClampNeg).toInt ∧ (sv_769 (Mv 5).toNatClampNeg).toInt + ((Mv 2) : Int32).toInt ≤ ((Mf 3) (Mv 5).toNatClampNeg).toInt + (sv_764 : Int32).toInt ∧ ((Mv 2) : Int32).toInt + 1 ≤ (sv_764 : Int32).toInt)) := by
                          have z_1 : ¬ (r_13 : Int32).toInt = (0 : Int32).toInt := fun z => c_18 (Int32.toInt_inj.mp z)
                          have z_2 : ¬ (r_33 : Int32).toInt = (60 : Int32).toInt := fun z => c_36 (Int32.toInt_inj.mp z)
                          have z_3 : ¬ (r_33 : Int32).toInt = (61 : Int32).toInt := fun z => c_434 (Int32.toInt_inj.mp z)
                          have z_4 := congrArg Int32.toInt c_533
                          have z_5 : ¬ (r_33 : Int32).toInt = (61 : Int32).toInt := fun z => c_535 (Int32.toInt_inj.mp z)
                          have z_6 := Int32.lt_iff_toInt_lt.mp (Int32.not_le.mp c_536)
                          have z_7 := congrArg Int32.toInt c_636
                          have z_8 : ¬ (r_748 : Int32).toInt = (0 : Int32).toInt := fun z => c_753 (Int32.toInt_inj.mp z)
                          have z_9 : ¬ (r_33 : Int32).toInt = (60 : Int32).toInt := fun z => c_754 (Int32.toInt_inj.mp z)
                          have z_10 : ¬ (r_33 : Int32).toInt = (61 : Int32).toInt := fun z => c_755 (Int32.toInt_inj.mp z)
                          have z_11 := congrArg Int32.toInt c_778
                          have y_0 : (0 : Int32).toInt = 0 := by decide
                          have y_60 : (60 : Int32).toInt = 60 := by decide
                          have y_61 : (61 : Int32).toInt = 61 := by decide
                          have y_62 : (62 : Int32).toInt = 62 := by decide
                          have y_1 : (1 : Int32).toInt = 1 := by decide
                          have t_x_534 : x_534.toInt = (sv_28 : Int32).toInt + (1 : Int32).toInt := by rw [ex_534]; exact add_toInt (by omega) (by omega)
                          omega
                        have hm_825 : (0 : Int32).toInt = 0 → (RfE (pz_com (rB (Mf 1) (Mv 0)) (St0 (rB (Mf 1) (Mv 0)) (Mv 2) (Mv 6))) sv_765) := by
                          intro h1r
                          have hr_826 : (rB (Mf 1) (Mv 0) (sv_28 : Int32).toInt.toNat = 60 ∨ rB (Mf 1) (Mv 0) (sv_28 : Int32).toInt.toNat = 61 ∨ rB (Mf 1) (Mv 0) (sv_28 : Int32).toInt.toNat = 62) := by
                            have z_1 : ¬ (r_13 : Int32).toInt = (0 : Int32).toInt := fun z => c_18 (Int32.toInt_inj.mp z)
                            have z_2 : ¬ (r_33 : Int32).toInt = (60 : Int32).toInt := fun z => c_36 (Int32.toInt_inj.mp z)
                            have z_3 : ¬ (r_33 : Int32).toInt = (61 : Int32).toInt := fun z => c_434 (Int32.toInt_inj.mp z)
                            have z_4 := congrArg Int32.toInt c_533
                            have z_5 : ¬ (r_33 : Int32).toInt = (61 : Int32).toInt := fun z => c_535 (Int32.toInt_inj.mp z)
                            have z_6 := Int32.lt_iff_toInt_lt.mp (Int32.not_le.mp c_536)
                            have z_7 := congrArg Int32.toInt c_636
                            have z_8 : ¬ (r_748 : Int32).toInt = (0 : Int32).toInt := fun z => c_753 (Int32.toInt_inj.mp z)
                            have z_9 : ¬ (r_33 : Int32).toInt = (60 : Int32).toInt := fun z => c_754 (Int32.toInt_inj.mp z)
                            have z_10 : ¬ (r_33 : Int32).toInt = (61 : Int32).toInt := fun z => c_755 (Int32.toInt_inj.mp z)
                            have z_11 := congrArg Int32.toInt c_778
                            have y_0 : (0 : Int32).toInt = 0 := by decide
                            have y_60 : (60 : Int32).toInt = 60 := by decide
                            have y_61 : (61 : Int32).toInt = 61 := by decide
                            have y_62 : (62 : Int32).toInt = 62 := by decide
                            have y_1 : (1 : Int32).toInt = 1 := by decide
                            have t_x_534 : x_534.toInt = (sv_28 : Int32).toInt + (1 : Int32).toInt := by rw [ex_534]; exact add_toInt (by omega) (by omega)
                            omega
                          have rg_827 := rB_rg (n := (Mv 0)) h_bs ((sv_28 : Int32).toInt.toNat + 1)
                          have hk_828 : ((Mf 1) (x_534 : Int32).toInt.toNat).toInt = ((Mf 1) ((sv_28 : Int32).toInt.toNat + 1)).toInt := congrArg (fun z => ((Mf 1) z).toInt) (by
                            have z_1 : ¬ (r_13 : Int32).toInt = (0 : Int32).toInt := fun z => c_18 (Int32.toInt_inj.mp z)
                            have z_2 : ¬ (r_33 : Int32).toInt = (60 : Int32).toInt := fun z => c_36 (Int32.toInt_inj.mp z)
                            have z_3 : ¬ (r_33 : Int32).toInt = (61 : Int32).toInt := fun z => c_434 (Int32.toInt_inj.mp z)
                            have z_4 := congrArg Int32.toInt c_533
                            have z_5 : ¬ (r_33 : Int32).toInt = (61 : Int32).toInt := fun z => c_535 (Int32.toInt_inj.mp z)
                            have z_6 := Int32.lt_iff_toInt_lt.mp (Int32.not_le.mp c_536)
                            have z_7 := congrArg Int32.toInt c_636
                            have z_8 : ¬ (r_748 : Int32).toInt = (0 : Int32).toInt := fun z => c_753 (Int32.toInt_inj.mp z)
                            have z_9 : ¬ (r_33 : Int32).toInt = (60 : Int32).toInt := fun z => c_754 (Int32.toInt_inj.mp z)
                            have z_10 : ¬ (r_33 : Int32).toInt = (61 : Int32).toInt := fun z => c_755 (Int32.toInt_inj.mp z)
                            have z_11 := congrArg Int32.toInt c_778
                            have y_0 : (0 : Int32).toInt = 0 := by decide
                            have y_60 : (60 : Int32).toInt = 60 := by decide
                            have y_61 : (61 : Int32).toInt = 61 := by decide
                            have y_62 : (62 : Int32).toInt = 62 := by decide
                            have y_1 : (1 : Int32).toInt = 1 := by decide
                            have t_x_534 : x_534.toInt = (sv_28 : Int32).toInt + (1 : Int32).toInt := by rw [ex_534]; exact add_toInt (by omega) (by omega)
                            omega)
                          have hr_829 : ((x_738 : Int32).toInt = (sv_28 : Int32).toInt + 1 ∧ ¬ ((rB (Mf 1) (Mv 0) (sv_28 : Int32).toInt.toNat = 60 ∨ rB (Mf 1) (Mv 0) (sv_28 : Int32).toInt.toNat = 62) ∧ rB (Mf 1) (Mv 0) ((sv_28 : Int32).toInt.toNat + 1) = 61)) ∨ ((x_738 : Int32).toInt = (sv_28 : Int32).toInt + 2 ∧ (rB (Mf 1) (Mv 0) (sv_28 : Int32).toInt.toNat = 60 ∨ rB (Mf 1) (Mv 0) (sv_28 : Int32).toInt.toNat = 62) ∧ rB (Mf 1) (Mv 0) ((sv_28 : Int32).toInt.toNat + 1) = 61) := by
                            have z_1 : ¬ (r_13 : Int32).toInt = (0 : Int32).toInt := fun z => c_18 (Int32.toInt_inj.mp z)
                            have z_2 : ¬ (r_33 : Int32).toInt = (60 : Int32).toInt := fun z => c_36 (Int32.toInt_inj.mp z)
                            have z_3 : ¬ (r_33 : Int32).toInt = (61 : Int32).toInt := fun z => c_434 (Int32.toInt_inj.mp z)
                            have z_4 := congrArg Int32.toInt c_533
                            have z_5 : ¬ (r_33 : Int32).toInt = (61 : Int32).toInt := fun z => c_535 (Int32.toInt_inj.mp z)
                            have z_6 := Int32.lt_iff_toInt_lt.mp (Int32.not_le.mp c_536)
                            have z_7 := congrArg Int32.toInt c_636
                            have z_8 : ¬ (r_748 : Int32).toInt = (0 : Int32).toInt := fun z => c_753 (Int32.toInt_inj.mp z)
                            have z_9 : ¬ (r_33 : Int32).toInt = (60 : Int32).toInt := fun z => c_754 (Int32.toInt_inj.mp z)
                            have z_10 : ¬ (r_33 : Int32).toInt = (61 : Int32).toInt := fun z => c_755 (Int32.toInt_inj.mp z)
                            have z_11 := congrArg Int32.toInt c_778
                            have y_0 : (0 : Int32).toInt = 0 := by decide
                            have y_60 : (60 : Int32).toInt = 60 := by decide
                            have y_61 : (61 : Int32).toInt = 61 := by decide
                            have y_62 : (62 : Int32).toInt = 62 := by decide
                            have y_1 : (1 : Int32).toInt = 1 := by decide
                            have t_x_534 : x_534.toInt = (sv_28 : Int32).toInt + (1 : Int32).toInt := by rw [ex_534]; exact add_toInt (by omega) (by omega)
                            have t_x_738 : x_738.toInt = (x_534 : Int32).toInt + (1 : Int32).toInt := by rw [ex_738]; exact add_toInt (by omega) (by omega)
                            omega
                          have hr_830 : 0 ≤ (sv_7 : Int32).toInt ∧ (sv_7 : Int32).toInt < 60 ∧ (sv_746 : Int32).toInt = (sv_7 : Int32).toInt + 1 := by
                            have z_1 : ¬ (r_13 : Int32).toInt = (0 : Int32).toInt := fun z => c_18 (Int32.toInt_inj.mp z)
                            have z_2 : ¬ (r_33 : Int32).toInt = (60 : Int32).toInt := fun z => c_36 (Int32.toInt_inj.mp z)
                            have z_3 : ¬ (r_33 : Int32).toInt = (61 : Int32).toInt := fun z => c_434 (Int32.toInt_inj.mp z)
                            have z_4 := congrArg Int32.toInt c_533
                            have z_5 : ¬ (r_33 : Int32).toInt = (61 : Int32).toInt := fun z => c_535 (Int32.toInt_inj.mp z)
                            have z_6 := Int32.lt_iff_toInt_lt.mp (Int32.not_le.mp c_536)
                            have z_7 := congrArg Int32.toInt c_636
                            have z_8 : ¬ (r_748 : Int32).toInt = (0 : Int32).toInt := fun z => c_753 (Int32.toInt_inj.mp z)
                            have z_9 : ¬ (r_33 : Int32).toInt = (60 : Int32).toInt := fun z => c_754 (Int32.toInt_inj.mp z)
                            have z_10 : ¬ (r_33 : Int32).toInt = (61 : Int32).toInt := fun z => c_755 (Int32.toInt_inj.mp z)
                            have z_11 := congrArg Int32.toInt c_778
                            have y_0 : (0 : Int32).toInt = 0 := by decide
                            have y_60 : (60 : Int32).toInt = 60 := by decide
                            have y_61 : (61 : Int32).toInt = 61 := by decide
                            have y_62 : (62 : Int32).toInt = 62 := by decide
                            have y_1 : (1 : Int32).toInt = 1 := by decide
                            have t_x_534 : x_534.toInt = (sv_28 : Int32).toInt + (1 : Int32).toInt := by rw [ex_534]; exact add_toInt (by omega) (by omega)
                            omega
                          exact (RfE.com2 pf_20 pf_32 hr_826 hr_829 hr_830 pf_818)
                        exact retI (v := 0) hx hb hr hlk (rfl) hP hD hS (sv_764, sv_765, sv_766, sv_767, sv_768, sv_769) ⟨_, rfl, hp_824, ha_820, ha_821, (Agr.trans (k' := (400 * ((Mv 5) : Int32).toInt + ((Mf 3) (Mv 5).toNatClampNeg).toInt)) (Agr.mono pf_12 hr_822) pf_772 ⟨Int.le_refl _, hr_823⟩), (fun h => absurd h (by decide)), hm_825⟩ [0, 1, 2, 3] rfl rfl dX12_compare_162 (Nat.le_of_ble_eq_true rfl) (Nat.le_of_ble_eq_true rfl) rfl
                    · skip
                      exfalso
                      have z_1 : ¬ (r_13 : Int32).toInt = (0 : Int32).toInt := fun z => c_18 (Int32.toInt_inj.mp z)
                      have z_2 : ¬ (r_33 : Int32).toInt = (60 : Int32).toInt := fun z => c_36 (Int32.toInt_inj.mp z)
                      have z_3 : ¬ (r_33 : Int32).toInt = (61 : Int32).toInt := fun z => c_434 (Int32.toInt_inj.mp z)
                      have z_4 := congrArg Int32.toInt c_533
                      have z_5 : ¬ (r_33 : Int32).toInt = (61 : Int32).toInt := fun z => c_535 (Int32.toInt_inj.mp z)
                      have z_6 := Int32.lt_iff_toInt_lt.mp (Int32.not_le.mp c_536)
                      have z_7 := congrArg Int32.toInt c_636
                      have z_8 : ¬ (r_748 : Int32).toInt = (0 : Int32).toInt := fun z => c_753 (Int32.toInt_inj.mp z)
                      have z_9 : ¬ (r_33 : Int32).toInt = (60 : Int32).toInt := fun z => c_754 (Int32.toInt_inj.mp z)
                      have z_10 := congrArg Int32.toInt c_755
                      have y_0 : (0 : Int32).toInt = 0 := by decide
                      have y_60 : (60 : Int32).toInt = 60 := by decide
                      have y_61 : (61 : Int32).toInt = 61 := by decide
                      have y_62 : (62 : Int32).toInt = 62 := by decide
                      have y_1 : (1 : Int32).toInt = 1 := by decide
                      have t_x_534 : x_534.toInt = (sv_28 : Int32).toInt + (1 : Int32).toInt := by rw [ex_534]; exact add_toInt (by omega) (by omega)
                      omega
                  · skip
                    exfalso
                    have z_1 : ¬ (r_13 : Int32).toInt = (0 : Int32).toInt := fun z => c_18 (Int32.toInt_inj.mp z)
                    have z_2 : ¬ (r_33 : Int32).toInt = (60 : Int32).toInt := fun z => c_36 (Int32.toInt_inj.mp z)
                    have z_3 : ¬ (r_33 : Int32).toInt = (61 : Int32).toInt := fun z => c_434 (Int32.toInt_inj.mp z)
                    have z_4 := congrArg Int32.toInt c_533
                    have z_5 : ¬ (r_33 : Int32).toInt = (61 : Int32).toInt := fun z => c_535 (Int32.toInt_inj.mp z)
                    have z_6 := Int32.lt_iff_toInt_lt.mp (Int32.not_le.mp c_536)
                    have z_7 := congrArg Int32.toInt c_636
                    have z_8 : ¬ (r_748 : Int32).toInt = (0 : Int32).toInt := fun z => c_753 (Int32.toInt_inj.mp z)
                    have z_9 := congrArg Int32.toInt c_754
                    have y_0 : (0 : Int32).toInt = 0 := by decide
                    have y_60 : (60 : Int32).toInt = 60 := by decide
                    have y_61 : (61 : Int32).toInt = 61 := by decide
                    have y_62 : (62 : Int32).toInt = 62 := by decide
                    have y_1 : (1 : Int32).toInt = 1 := by decide
                    have t_x_534 : x_534.toInt = (sv_28 : Int32).toInt + (1 : Int32).toInt := by rw [ex_534]; exact add_toInt (by omega) (by omega)
                    omega
                · skip
                  refine lv_iconst (v := 0) hx hb dX12_compare_113 (by decide) ?_
                  have ha_831 : ((Mv 2) : Int32).toInt ≤ (x_738 : Int32).toInt ∧ (x_738 : Int32).toInt ≤ ((Mv 0) : Int32).toInt := by
                    have z_1 : ¬ (r_13 : Int32).toInt = (0 : Int32).toInt := fun z => c_18 (Int32.toInt_inj.mp z)
                    have z_2 : ¬ (r_33 : Int32).toInt = (60 : Int32).toInt := fun z => c_36 (Int32.toInt_inj.mp z)
                    have z_3 : ¬ (r_33 : Int32).toInt = (61 : Int32).toInt := fun z => c_434 (Int32.toInt_inj.mp z)
                    have z_4 := congrArg Int32.toInt c_533
                    have z_5 : ¬ (r_33 : Int32).toInt = (61 : Int32).toInt := fun z => c_535 (Int32.toInt_inj.mp z)
                    have z_6 := Int32.lt_iff_toInt_lt.mp (Int32.not_le.mp c_536)
                    have z_7 := congrArg Int32.toInt c_636
                    have z_8 := congrArg Int32.toInt c_753
                    have y_0 : (0 : Int32).toInt = 0 := by decide
                    have y_60 : (60 : Int32).toInt = 60 := by decide
                    have y_61 : (61 : Int32).toInt = 61 := by decide
                    have y_62 : (62 : Int32).toInt = 62 := by decide
                    have y_1 : (1 : Int32).toInt = 1 := by decide
                    have t_x_534 : x_534.toInt = (sv_28 : Int32).toInt + (1 : Int32).toInt := by rw [ex_534]; exact add_toInt (by omega) (by omega)
                    have t_x_738 : x_738.toInt = (x_534 : Int32).toInt + (1 : Int32).toInt := by rw [ex_738]; exact add_toInt (by omega) (by omega)
                    omega
                  have ha_832 : ((Mv 6) : Int32).toInt ≤ (sv_746 : Int32).toInt ∧ (sv_746 : Int32).toInt ≤ 60 := by
                    have z_1 : ¬ (r_13 : Int32).toInt = (0 : Int32).toInt := fun z => c_18 (Int32.toInt_inj.mp z)
                    have z_2 : ¬ (r_33 : Int32).toInt = (60 : Int32).toInt := fun z => c_36 (Int32.toInt_inj.mp z)
                    have z_3 : ¬ (r_33 : Int32).toInt = (61 : Int32).toInt := fun z => c_434 (Int32.toInt_inj.mp z)
                    have z_4 := congrArg Int32.toInt c_533
                    have z_5 : ¬ (r_33 : Int32).toInt = (61 : Int32).toInt := fun z => c_535 (Int32.toInt_inj.mp z)
                    have z_6 := Int32.lt_iff_toInt_lt.mp (Int32.not_le.mp c_536)
                    have z_7 := congrArg Int32.toInt c_636
                    have z_8 := congrArg Int32.toInt c_753
                    have y_0 : (0 : Int32).toInt = 0 := by decide
                    have y_60 : (60 : Int32).toInt = 60 := by decide
                    have y_61 : (61 : Int32).toInt = 61 := by decide
                    have y_62 : (62 : Int32).toInt = 62 := by decide
                    have y_1 : (1 : Int32).toInt = 1 := by decide
                    have t_x_534 : x_534.toInt = (sv_28 : Int32).toInt + (1 : Int32).toInt := by rw [ex_534]; exact add_toInt (by omega) (by omega)
                    omega
                  have hp_833 : (((0 : Int32).toInt = 0 ∧ ¬ (sv_745 : Int32).toInt = 0) ∨ ((0 : Int32).toInt = 1 ∧ ((Mf 3) (Mv 5).toNatClampNeg).toInt + 1 ≤ (sv_9 (Mv 5).toNatClampNeg).toInt ∧ (sv_9 (Mv 5).toNatClampNeg).toInt + ((Mv 2) : Int32).toInt ≤ ((Mf 3) (Mv 5).toNatClampNeg).toInt + (x_738 : Int32).toInt ∧ ((Mv 2) : Int32).toInt + 1 ≤ (x_738 : Int32).toInt)) := by
                    have z_1 : ¬ (r_13 : Int32).toInt = (0 : Int32).toInt := fun z => c_18 (Int32.toInt_inj.mp z)
                    have z_2 : ¬ (r_33 : Int32).toInt = (60 : Int32).toInt := fun z => c_36 (Int32.toInt_inj.mp z)
                    have z_3 : ¬ (r_33 : Int32).toInt = (61 : Int32).toInt := fun z => c_434 (Int32.toInt_inj.mp z)
                    have z_4 := congrArg Int32.toInt c_533
                    have z_5 : ¬ (r_33 : Int32).toInt = (61 : Int32).toInt := fun z => c_535 (Int32.toInt_inj.mp z)
                    have z_6 := Int32.lt_iff_toInt_lt.mp (Int32.not_le.mp c_536)
                    have z_7 := congrArg Int32.toInt c_636
                    have z_8 := congrArg Int32.toInt c_753
                    have y_0 : (0 : Int32).toInt = 0 := by decide
                    have y_60 : (60 : Int32).toInt = 60 := by decide
                    have y_61 : (61 : Int32).toInt = 61 := by decide
                    have y_62 : (62 : Int32).toInt = 62 := by decide
                    have y_1 : (1 : Int32).toInt = 1 := by decide
                    have t_x_534 : x_534.toInt = (sv_28 : Int32).toInt + (1 : Int32).toInt := by rw [ex_534]; exact add_toInt (by omega) (by omega)
                    have t_x_738 : x_738.toInt = (x_534 : Int32).toInt + (1 : Int32).toInt := by rw [ex_738]; exact add_toInt (by omega) (by omega)
                    omega
                  have hm_834 : (0 : Int32).toInt = 0 → (RfE (pz_com (rB (Mf 1) (Mv 0)) (St0 (rB (Mf 1) (Mv 0)) (Mv 2) (Mv 6))) sv_745) := by
                    intro h1r
                    have hr_835 : (rB (Mf 1) (Mv 0) (sv_28 : Int32).toInt.toNat = 60 ∨ rB (Mf 1) (Mv 0) (sv_28 : Int32).toInt.toNat = 61 ∨ rB (Mf 1) (Mv 0) (sv_28 : Int32).toInt.toNat = 62) := by
                      have z_1 : ¬ (r_13 : Int32).toInt = (0 : Int32).toInt := fun z => c_18 (Int32.toInt_inj.mp z)
                      have z_2 : ¬ (r_33 : Int32).toInt = (60 : Int32).toInt := fun z => c_36 (Int32.toInt_inj.mp z)
                      have z_3 : ¬ (r_33 : Int32).toInt = (61 : Int32).toInt := fun z => c_434 (Int32.toInt_inj.mp z)
                      have z_4 := congrArg Int32.toInt c_533
                      have z_5 : ¬ (r_33 : Int32).toInt = (61 : Int32).toInt := fun z => c_535 (Int32.toInt_inj.mp z)
                      have z_6 := Int32.lt_iff_toInt_lt.mp (Int32.not_le.mp c_536)
                      have z_7 := congrArg Int32.toInt c_636
                      have z_8 := congrArg Int32.toInt c_753
                      have y_0 : (0 : Int32).toInt = 0 := by decide
                      have y_60 : (60 : Int32).toInt = 60 := by decide
                      have y_61 : (61 : Int32).toInt = 61 := by decide
                      have y_62 : (62 : Int32).toInt = 62 := by decide
                      have y_1 : (1 : Int32).toInt = 1 := by decide
                      have t_x_534 : x_534.toInt = (sv_28 : Int32).toInt + (1 : Int32).toInt := by rw [ex_534]; exact add_toInt (by omega) (by omega)
                      omega
                    have hr_836 : 60 ≤ (sv_7 : Int32).toInt := by
                      have z_1 : ¬ (r_13 : Int32).toInt = (0 : Int32).toInt := fun z => c_18 (Int32.toInt_inj.mp z)
                      have z_2 : ¬ (r_33 : Int32).toInt = (60 : Int32).toInt := fun z => c_36 (Int32.toInt_inj.mp z)
                      have z_3 : ¬ (r_33 : Int32).toInt = (61 : Int32).toInt := fun z => c_434 (Int32.toInt_inj.mp z)
                      have z_4 := congrArg Int32.toInt c_533
                      have z_5 : ¬ (r_33 : Int32).toInt = (61 : Int32).toInt := fun z => c_535 (Int32.toInt_inj.mp z)
                      have z_6 := Int32.lt_iff_toInt_lt.mp (Int32.not_le.mp c_536)
                      have z_7 := congrArg Int32.toInt c_636
                      have z_8 := congrArg Int32.toInt c_753
                      have y_0 : (0 : Int32).toInt = 0 := by decide
                      have y_60 : (60 : Int32).toInt = 60 := by decide
                      have y_61 : (61 : Int32).toInt = 61 := by decide
                      have y_62 : (62 : Int32).toInt = 62 := by decide
                      have y_1 : (1 : Int32).toInt = 1 := by decide
                      have t_x_534 : x_534.toInt = (sv_28 : Int32).toInt + (1 : Int32).toInt := by rw [ex_534]; exact add_toInt (by omega) (by omega)
                      omega
                    have hi_837 : (sv_745 : Int32).toInt = 1 + 8 * (sv_28 : Int32).toInt + 3 := by
                      have z_1 : ¬ (r_13 : Int32).toInt = (0 : Int32).toInt := fun z => c_18 (Int32.toInt_inj.mp z)
                      have z_2 : ¬ (r_33 : Int32).toInt = (60 : Int32).toInt := fun z => c_36 (Int32.toInt_inj.mp z)
                      have z_3 : ¬ (r_33 : Int32).toInt = (61 : Int32).toInt := fun z => c_434 (Int32.toInt_inj.mp z)
                      have z_4 := congrArg Int32.toInt c_533
                      have z_5 : ¬ (r_33 : Int32).toInt = (61 : Int32).toInt := fun z => c_535 (Int32.toInt_inj.mp z)
                      have z_6 := Int32.lt_iff_toInt_lt.mp (Int32.not_le.mp c_536)
                      have z_7 := congrArg Int32.toInt c_636
                      have z_8 := congrArg Int32.toInt c_753
                      have y_0 : (0 : Int32).toInt = 0 := by decide
                      have y_60 : (60 : Int32).toInt = 60 := by decide
                      have y_61 : (61 : Int32).toInt = 61 := by decide
                      have y_62 : (62 : Int32).toInt = 62 := by decide
                      have y_1 : (1 : Int32).toInt = 1 := by decide
                      have t_x_534 : x_534.toInt = (sv_28 : Int32).toInt + (1 : Int32).toInt := by rw [ex_534]; exact add_toInt (by omega) (by omega)
                      omega
                    exact (RfE.com3 pf_20 pf_32 hr_835 hr_836 hi_837)
                  exact retI (v := 0) hx hb hr hlk (rfl) hP hD hS (x_738, sv_745, sv_6, sv_746, sv_8, sv_9) ⟨_, rfl, hp_833, ha_831, ha_832, pf_12, (fun h => absurd h (by decide)), hm_834⟩ [3, 2, 0, 1] rfl rfl dX12_compare_114 (Nat.le_of_ble_eq_true rfl) (Nat.le_of_ble_eq_true rfl) rfl
        · skip
          refine lv_aload_n hx hb dX12_compare_37 rfl (lv_at hl 2 rfl) ?_
          refine lv_iconst (v := 0) hx hb dX12_compare_38 (by decide) ?_
          refine lv_iload_n hx hb dX12_compare_39 rfl (lv_at hl 0 rfl) ?_
          have ha_838 : 0 ≤ (0 : Int32).toInt ∧ (0 : Int32).toInt ≤ 4 := by
            have z_1 : ¬ (r_13 : Int32).toInt = (0 : Int32).toInt := fun z => c_18 (Int32.toInt_inj.mp z)
            have z_2 : ¬ (r_33 : Int32).toInt = (60 : Int32).toInt := fun z => c_36 (Int32.toInt_inj.mp z)
            have z_3 : ¬ (r_33 : Int32).toInt = (61 : Int32).toInt := fun z => c_434 (Int32.toInt_inj.mp z)
            have z_4 : ¬ (r_33 : Int32).toInt = (62 : Int32).toInt := fun z => c_533 (Int32.toInt_inj.mp z)
            have y_0 : (0 : Int32).toInt = 0 := by decide
            have y_60 : (60 : Int32).toInt = 60 := by decide
            have y_61 : (61 : Int32).toInt = 61 := by decide
            have y_62 : (62 : Int32).toInt = 62 := by decide
            omega
          have ha_839 : 0 ≤ sv_28.toInt ∧ sv_28.toInt ≤ 400 := by
            have z_1 : ¬ (r_13 : Int32).toInt = (0 : Int32).toInt := fun z => c_18 (Int32.toInt_inj.mp z)
            have z_2 : ¬ (r_33 : Int32).toInt = (60 : Int32).toInt := fun z => c_36 (Int32.toInt_inj.mp z)
            have z_3 : ¬ (r_33 : Int32).toInt = (61 : Int32).toInt := fun z => c_434 (Int32.toInt_inj.mp z)
            have z_4 : ¬ (r_33 : Int32).toInt = (62 : Int32).toInt := fun z => c_533 (Int32.toInt_inj.mp z)
            have y_0 : (0 : Int32).toInt = 0 := by decide
            have y_60 : (60 : Int32).toInt = 60 := by decide
            have y_61 : (61 : Int32).toInt = 61 := by decide
            have y_62 : (62 : Int32).toInt = 62 := by decide
            omega
          have ha_840 : (sv_5 : Int32).toInt = 0 := by
            have z_1 : ¬ (r_13 : Int32).toInt = (0 : Int32).toInt := fun z => c_18 (Int32.toInt_inj.mp z)
            have z_2 : ¬ (r_33 : Int32).toInt = (60 : Int32).toInt := fun z => c_36 (Int32.toInt_inj.mp z)
            have z_3 : ¬ (r_33 : Int32).toInt = (61 : Int32).toInt := fun z => c_434 (Int32.toInt_inj.mp z)
            have z_4 : ¬ (r_33 : Int32).toInt = (62 : Int32).toInt := fun z => c_533 (Int32.toInt_inj.mp z)
            have y_0 : (0 : Int32).toInt = 0 := by decide
            have y_60 : (60 : Int32).toInt = 60 := by decide
            have y_61 : (61 : Int32).toInt = 61 := by decide
            have y_62 : (62 : Int32).toInt = 62 := by decide
            omega
          refine cV (a := (Ma 0)) (As := [.int 0, .int sv_28]) (rest := []) (wr := [((Ma 2), .inl (tc 0, 2400, .inl sv_8)), ((Ma 3), .inl (tc 0, 7, .inl sv_9)), ((Ma 1), .inl (tc 2, 400, .inl (Mf 1)))]) ⟨hx, hb, hml, hown, hts⟩ hK hX hA (cu_fX12_fails l D tc sk (Ma 0) (Ma 1) (Ma 2) (Ma 3) (Ma 4) (Ma 5) (Ma 6) (Ma 7) (Ma 8) (Ma 9) (Ma 10) (Ma 11) (Ma 12) (Ma 13) (Ma 14) (Ma 15) (Ma 16) (Ma 17) (Ma 18) (Ma 19) (Ma 20) (Mv 0) (Mv 1) sv_28 sv_5 sv_6 (Mv 5) sv_7 (Mv 7) (Mv 8) (Mv 9) (Mv 10) (Mv 11) (Mv 12) (Mv 13) (Mv 14) (Mj 0) 0 sv_28 ha_838 ha_839 ha_840) k_1232 k_1229 k_1231 k_31 k_106 pl_X12_fails ⟨Nat.le_of_ble_eq_true rfl, Nat.le_of_ble_eq_true rfl⟩ rfl rfl (va_recv hK hP (ci := 12) (q0 := 2) rfl rfl) hP hD hS [2] [0, 1, 3] rfl rfl rfl rfl rfl (by decide) rfl hl.1 rfl (Nat.le_of_ble_eq_true rfl) dX12_compare_40 ⟨Nat.le_of_ble_eq_true rfl, Nat.le_of_ble_eq_true rfl⟩ (fun v_841 u_842 H locs hv_843 hP₀ hD₀ hS₀ => ?_)
          obtain ⟨sv_844, rfl⟩ : ∃ z, z = u_842 := ⟨_, rfl⟩
          obtain ⟨r_847, rfl, he_848, pf_845, pf_846⟩ := hv_843
          have he_848 : r_847.toInt = 0 := he_848
          have pf_845 : ¬ (sv_844 : Int32).toInt = 0 := pf_845
          have pf_846 : (sv_844 : Int32).toInt = 1 + 8 * sv_28.toInt + (0 : Int32).toInt := pf_846
          refine W.eq (g2 := F0 m 43 ls [.int r_847]) rfl ?_
          replace hP : va_P D classes [((Ma 2), .inl (tc 0, 2400, .inl sv_8)), ((Ma 3), .inl (tc 0, 7, .inl sv_9)), ((Ma 1), .inl (tc 2, 400, .inl (Mf 1))), ((Ma 0), .inr (12, [.ref (Ma 1), .int (Mv 0), .int (Mv 1), .ref (Ma 2), .ref (Ma 3), .ref (Ma 4), .ref (Ma 5), .ref (Ma 6), .int sv_28, .int sv_844, .int sv_6, .int (Mv 5), .int sv_7, .int (Mv 7), .int (Mv 8), .ref (Ma 7), .int (Mv 9), .ref (Ma 8), .int (Mv 10), .ref (Ma 9), .ref (Ma 10), .int (Mv 11), .int (Mv 12), .int (Mv 13), .ref (Ma 11), .int (Mv 14), .ref (Ma 12), .ref (Ma 13), .ref (Ma 14), .ref (Ma 15), .ref (Ma 16), .long (Mj 0), .ref (Ma 17), .ref (Ma 18), .ref (Ma 19), .ref (Ma 20)]))] H := hP₀
          replace hD : va_D A [((Ma 2), .inl (tc 0, 2400, .inl sv_8)), ((Ma 3), .inl (tc 0, 7, .inl sv_9)), ((Ma 1), .inl (tc 2, 400, .inl (Mf 1))), ((Ma 0), .inr (12, [.ref (Ma 1), .int (Mv 0), .int (Mv 1), .ref (Ma 2), .ref (Ma 3), .ref (Ma 4), .ref (Ma 5), .ref (Ma 6), .int sv_28, .int sv_844, .int sv_6, .int (Mv 5), .int sv_7, .int (Mv 7), .int (Mv 8), .ref (Ma 7), .int (Mv 9), .ref (Ma 8), .int (Mv 10), .ref (Ma 9), .ref (Ma 10), .int (Mv 11), .int (Mv 12), .int (Mv 13), .ref (Ma 11), .int (Mv 14), .ref (Ma 12), .ref (Ma 13), .ref (Ma 14), .ref (Ma 15), .ref (Ma 16), .long (Mj 0), .ref (Ma 17), .ref (Ma 18), .ref (Ma 19), .ref (Ma 20)]))] := hD₀
          replace hS := hS₀
          clear hP₀ hD₀ hS₀
          have yf_850 : (0 : Int32).toInt = 0 := by decide
          have ha_851 : ((Mv 2) : Int32).toInt ≤ (sv_28 : Int32).toInt ∧ (sv_28 : Int32).toInt ≤ ((Mv 0) : Int32).toInt := by
            have z_1 : ¬ (r_13 : Int32).toInt = (0 : Int32).toInt := fun z => c_18 (Int32.toInt_inj.mp z)
            have z_2 : ¬ (r_33 : Int32).toInt = (60 : Int32).toInt := fun z => c_36 (Int32.toInt_inj.mp z)
            have z_3 : ¬ (r_33 : Int32).toInt = (61 : Int32).toInt := fun z => c_434 (Int32.toInt_inj.mp z)
            have z_4 : ¬ (r_33 : Int32).toInt = (62 : Int32).toInt := fun z => c_533 (Int32.toInt_inj.mp z)
            have y_0 : (0 : Int32).toInt = 0 := by decide
            have y_60 : (60 : Int32).toInt = 60 := by decide
            have y_61 : (61 : Int32).toInt = 61 := by decide
            have y_62 : (62 : Int32).toInt = 62 := by decide
            omega
          have hb_852 : (r_847 : Int32).toInt = 0 ∨ (r_847 : Int32).toInt = 1 := by
            have z_1 : ¬ (r_13 : Int32).toInt = (0 : Int32).toInt := fun z => c_18 (Int32.toInt_inj.mp z)
            have z_2 : ¬ (r_33 : Int32).toInt = (60 : Int32).toInt := fun z => c_36 (Int32.toInt_inj.mp z)
            have z_3 : ¬ (r_33 : Int32).toInt = (61 : Int32).toInt := fun z => c_434 (Int32.toInt_inj.mp z)
            have z_4 : ¬ (r_33 : Int32).toInt = (62 : Int32).toInt := fun z => c_533 (Int32.toInt_inj.mp z)
            have y_0 : (0 : Int32).toInt = 0 := by decide
            have y_60 : (60 : Int32).toInt = 60 := by decide
            have y_61 : (61 : Int32).toInt = 61 := by decide
            have y_62 : (62 : Int32).toInt = 62 := by decide
            omega
          have hp_853 : (((r_847 : Int32).toInt = 0 ∧ ¬ (sv_844 : Int32).toInt = 0) ∨ ((r_847 : Int32).toInt = 1 ∧ ((Mf 3) (Mv 5).toNatClampNeg).toInt + 1 ≤ (sv_9 (Mv 5).toNatClampNeg).toInt ∧ (sv_9 (Mv 5).toNatClampNeg).toInt + ((Mv 2) : Int32).toInt ≤ ((Mf 3) (Mv 5).toNatClampNeg).toInt + (sv_28 : Int32).toInt ∧ ((Mv 2) : Int32).toInt + 1 ≤ (sv_28 : Int32).toInt)) := by
            have z_1 : ¬ (r_13 : Int32).toInt = (0 : Int32).toInt := fun z => c_18 (Int32.toInt_inj.mp z)
            have z_2 : ¬ (r_33 : Int32).toInt = (60 : Int32).toInt := fun z => c_36 (Int32.toInt_inj.mp z)
            have z_3 : ¬ (r_33 : Int32).toInt = (61 : Int32).toInt := fun z => c_434 (Int32.toInt_inj.mp z)
            have z_4 : ¬ (r_33 : Int32).toInt = (62 : Int32).toInt := fun z => c_533 (Int32.toInt_inj.mp z)
            have y_0 : (0 : Int32).toInt = 0 := by decide
            have y_60 : (60 : Int32).toInt = 60 := by decide
            have y_61 : (61 : Int32).toInt = 61 := by decide
            have y_62 : (62 : Int32).toInt = 62 := by decide
            omega
          have hm_854 : (r_847 : Int32).toInt = 1 → (Cd sv_8 sv_9 (Mv 5) b sv_7 (d + 1)) ∧ (RfO (pz_com (rB (Mf 1) (Mv 0)) (St0 (rB (Mf 1) (Mv 0)) (Mv 2) (Mv 6))) (rB (Mf 1) (Mv 0)) sv_844 sv_28 sv_7) ∧ (SgC sv_8 sv_9 (Mv 5) (ll ++ ec_com (rB (Mf 1) (Mv 0)) (St0 (rB (Mf 1) (Mv 0)) (Mv 2) (Mv 6)))) := by
            intro h1r
            exfalso
            have z_1 : ¬ (r_13 : Int32).toInt = (0 : Int32).toInt := fun z => c_18 (Int32.toInt_inj.mp z)
            have z_2 : ¬ (r_33 : Int32).toInt = (60 : Int32).toInt := fun z => c_36 (Int32.toInt_inj.mp z)
            have z_3 : ¬ (r_33 : Int32).toInt = (61 : Int32).toInt := fun z => c_434 (Int32.toInt_inj.mp z)
            have z_4 : ¬ (r_33 : Int32).toInt = (62 : Int32).toInt := fun z => c_533 (Int32.toInt_inj.mp z)
            have y_0 : (0 : Int32).toInt = 0 := by decide
            have y_60 : (60 : Int32).toInt = 60 := by decide
            have y_61 : (61 : Int32).toInt = 61 := by decide
            have y_62 : (62 : Int32).toInt = 62 := by decide
            omega
          have hm_855 : (r_847 : Int32).toInt = 0 → (RfE (pz_com (rB (Mf 1) (Mv 0)) (St0 (rB (Mf 1) (Mv 0)) (Mv 2) (Mv 6))) sv_844) := by
            intro h1r
            have hr_856 : ¬ (rB (Mf 1) (Mv 0) (sv_28 : Int32).toInt.toNat = 60 ∨ rB (Mf 1) (Mv 0) (sv_28 : Int32).toInt.toNat = 61 ∨ rB (Mf 1) (Mv 0) (sv_28 : Int32).toInt.toNat = 62) := by
              have z_1 : ¬ (r_13 : Int32).toInt = (0 : Int32).toInt := fun z => c_18 (Int32.toInt_inj.mp z)
              have z_2 : ¬ (r_33 : Int32).toInt = (60 : Int32).toInt := fun z => c_36 (Int32.toInt_inj.mp z)
              have z_3 : ¬ (r_33 : Int32).toInt = (61 : Int32).toInt := fun z => c_434 (Int32.toInt_inj.mp z)
              have z_4 : ¬ (r_33 : Int32).toInt = (62 : Int32).toInt := fun z => c_533 (Int32.toInt_inj.mp z)
              have y_0 : (0 : Int32).toInt = 0 := by decide
              have y_60 : (60 : Int32).toInt = 60 := by decide
              have y_61 : (61 : Int32).toInt = 61 := by decide
              have y_62 : (62 : Int32).toInt = 62 := by decide
              omega
            have hi_857 : (sv_844 : Int32).toInt = 1 + 8 * (sv_28 : Int32).toInt := by
              have z_1 : ¬ (r_13 : Int32).toInt = (0 : Int32).toInt := fun z => c_18 (Int32.toInt_inj.mp z)
              have z_2 : ¬ (r_33 : Int32).toInt = (60 : Int32).toInt := fun z => c_36 (Int32.toInt_inj.mp z)
              have z_3 : ¬ (r_33 : Int32).toInt = (61 : Int32).toInt := fun z => c_434 (Int32.toInt_inj.mp z)
              have z_4 : ¬ (r_33 : Int32).toInt = (62 : Int32).toInt := fun z => c_533 (Int32.toInt_inj.mp z)
              have y_0 : (0 : Int32).toInt = 0 := by decide
              have y_60 : (60 : Int32).toInt = 60 := by decide
              have y_61 : (61 : Int32).toInt = 61 := by decide
              have y_62 : (62 : Int32).toInt = 62 := by decide
              omega
            exact (RfE.com0 pf_20 pf_32 hr_856 hi_857)
          exact retI (v := r_847) hx hb hr hlk (nar01 hb_852) hP hD hS (sv_28, sv_844, sv_6, sv_7, sv_8, sv_9) ⟨_, rfl, hp_853, ha_851, pf_11, pf_12, hm_854, hm_855⟩ [3, 2, 0, 1] rfl rfl dX12_compare_43 (Nat.le_of_ble_eq_true rfl) (Nat.le_of_ble_eq_true rfl) rfl
  · skip
    have hz_859 : (r_13 : Int32).toInt = 0 := by
      have z_1 := congrArg Int32.toInt c_18
      have y_0 : (0 : Int32).toInt = 0 := by decide
      omega
    obtain pf_858 := hm_17 hz_859
    have pf_858 : RfE (pz_sum (rB (Mf 1) (Mv 0)) (St0 (rB (Mf 1) (Mv 0)) (Mv 2) (Mv 6))) sv_5 := pf_858
    refine lv_iconst (v := 0) hx hb dX12_compare_7 (by decide) ?_
    have hp_860 : (((0 : Int32).toInt = 0 ∧ ¬ (sv_5 : Int32).toInt = 0) ∨ ((0 : Int32).toInt = 1 ∧ ((Mf 3) (Mv 5).toNatClampNeg).toInt + 1 ≤ (sv_9 (Mv 5).toNatClampNeg).toInt ∧ (sv_9 (Mv 5).toNatClampNeg).toInt + ((Mv 2) : Int32).toInt ≤ ((Mf 3) (Mv 5).toNatClampNeg).toInt + (sv_4 : Int32).toInt ∧ ((Mv 2) : Int32).toInt + 1 ≤ (sv_4 : Int32).toInt)) := by
      have z_1 := congrArg Int32.toInt c_18
      have y_0 : (0 : Int32).toInt = 0 := by decide
      omega
    have hm_861 : (0 : Int32).toInt = 0 → (RfE (pz_com (rB (Mf 1) (Mv 0)) (St0 (rB (Mf 1) (Mv 0)) (Mv 2) (Mv 6))) sv_5) := by
      intro h1r
      exact (RfE.com1 pf_858)
    exact retI (v := 0) hx hb hr hlk (rfl) hP hD hS (sv_4, sv_5, sv_6, sv_7, sv_8, sv_9) ⟨_, rfl, hp_860, pf_10, pf_11, pf_12, (fun h => absurd h (by decide)), hm_861⟩ [0, 1, 2, 3] rfl rfl dX12_compare_8 (Nat.le_of_ble_eq_true rfl) (Nat.le_of_ble_eq_true rfl) rfl
