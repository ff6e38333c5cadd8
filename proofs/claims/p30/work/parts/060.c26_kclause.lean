set_option maxRecDepth 16384
set_option maxHeartbeats 4000000 in
set_option maxRecDepth 100000 in
theorem ct_kX12_isBuyHere (l : Launch) (D : va_G) (tc : Nat → ClassId) (sk : (Nat → Nat) × (Nat → Nat)) (Ma : Nat → Nat) (Mv : Nat → Int32) (Mf : Nat → Nat → Int32) (Mj : Nat → Int64) (ll : List Int) (Rs : RuA) (h_nx : 0 ≤ ((Mv 2) : Int32).toInt ∧ ((Mv 2) : Int32).toInt ≤ ((Mv 0) : Int32).toInt ∧ ((Mv 0) : Int32).toInt ≤ 400) (h_md : 0 ≤ ((Mv 6) : Int32).toInt ∧ ((Mv 6) : Int32).toInt ≤ 60) (h_t : 0 ≤ ((Mv 5) : Int32).toInt ∧ ((Mv 5) : Int32).toInt ≤ 5) (h_L : 0 ≤ ((Mf 3) (Mv 5).toNatClampNeg).toInt ∧ ((Mf 3) (Mv 5).toNatClampNeg).toInt ≤ ((Mv 2) : Int32).toInt) (h_rp : RulP (Mf 2) (Mf 4) (Mf 5) (Mv 5) (((Mf 3) (Mv 5).toNatClampNeg).toInt)) (h_c : ((Mf 5) (Mv 5).toInt.toNat).toInt + 1 = ((Mv 8) : Int32).toInt ∧ ((Mv 8) : Int32).toInt ≤ 12) (h_bs : ByS (Mf 1)) (h_w : ((Mv 3) : Int32).toInt = 0) (h_bw : BwH (rB (Mf 1) (Mv 0)) (Mv 2)) (h_sg : SgC (Mf 2) (Mf 3) (Mv 5) ll) (h_rw : RwL (Mf 4) (Mf 5) (Mv 5) ll Rs) : Ct l yX12_isBuyHere cX12_isBuyHere 2 (some .boolean) { frames := 9, cells := 0, slots := 0, locals := 198 } D tc sk [.ref (Ma 0)] [((Ma 0), .inr (12, [.ref (Ma 1), .int (Mv 0), .int (Mv 1), .ref (Ma 2), .ref (Ma 3), .ref (Ma 4), .ref (Ma 5), .ref (Ma 6), .int (Mv 2), .int (Mv 3), .int (Mv 4), .int (Mv 5), .int (Mv 6), .int (Mv 7), .int (Mv 8), .ref (Ma 7), .int (Mv 9), .ref (Ma 8), .int (Mv 10), .ref (Ma 9), .ref (Ma 10), .int (Mv 11), .int (Mv 12), .int (Mv 13), .ref (Ma 11), .int (Mv 14), .ref (Ma 12), .ref (Ma 13), .ref (Ma 14), .ref (Ma 15), .ref (Ma 16), .long (Mj 0), .ref (Ma 17), .ref (Ma 18), .ref (Ma 19), .ref (Ma 20)])), ((Ma 1), .inl (tc 2, 400, .inl (Mf 1))), ((Ma 2), .inl (tc 0, 2400, .inl (Mf 2))), ((Ma 3), .inl (tc 0, 7, .inl (Mf 3))), ((Ma 4), .inl (tc 0, 288, .inl (Mf 4))), ((Ma 5), .inl (tc 0, 6, .inl (Mf 5))), ((Ma 7), .inl (tc 0, 400, .inl (Mf 7)))] (fun (v : Option Value) (u : (Int32) × (Int32) × (Int32) × (Int32) × (Int32) × (Int32) × (Nat → Int32) × (Nat → Int32) × (Nat → Int32) × (Nat → Int32) × (Nat → Int32)) => match u with | (oo0x1, oo0x2, oo0x3, oo0x4, oo0x5, oo0x6, oo0x7, oo0x8, oo0x9, oo0x10, oo0x11) => ∃ r : Int32, v = some (.int r) ∧ (((r.toInt = 0 ∧ ¬ (oo0x2 : Int32).toInt = 0) ∨ (r.toInt = 1 ∧ 0 ≤ (oo0x8 (Mv 5).toNatClampNeg).toInt ∧ (oo0x8 (Mv 5).toNatClampNeg).toInt ≤ (oo0x1 : Int32).toInt ∧ (oo0x10 (Mv 5).toInt.toNat).toInt = ((Mf 5) (Mv 5).toInt.toNat).toInt + 1 ∧ (oo0x2 : Int32).toInt = 0))) ∧ (((Mv 2) : Int32).toInt ≤ (oo0x1 : Int32).toInt ∧ (oo0x1 : Int32).toInt ≤ ((Mv 0) : Int32).toInt) ∧ (((Mv 6) : Int32).toInt ≤ (oo0x4 : Int32).toInt ∧ (oo0x4 : Int32).toInt ≤ 60) ∧ (RulD oo0x7 oo0x9 oo0x10 (Mv 5)) ∧ (Agr (Mf 2) oo0x7 (400 * ((Mv 5) : Int32).toInt)) ∧ (Agr (Mf 4) oo0x9 (48 * ((Mv 5) : Int32).toInt)) ∧ (Agr (Mf 5) oo0x10 ((Mv 5) : Int32).toInt) ∧ (r.toInt = 1 → (RulP oo0x7 oo0x9 oo0x10 (Mv 5) ((oo0x8 (Mv 5).toNatClampNeg).toInt)) ∧ (RfO (BuR (rB (Mf 1) (Mv 0)) (Mv 2) (Mv 6)) (rB (Mf 1) (Mv 0)) oo0x2 oo0x1 oo0x4) ∧ (RwK oo0x7 oo0x8 oo0x9 oo0x10 (Mv 5) (Rs ++ [ru_cl (rB (Mf 1) (Mv 0)) (St0 (rB (Mf 1) (Mv 0)) (Mv 2) (Mv 6))]))) ∧ (r.toInt = 0 → (RfE (BuR (rB (Mf 1) (Mv 0)) (Mv 2) (Mv 6)) oo0x2))) (fun (u : (Int32) × (Int32) × (Int32) × (Int32) × (Int32) × (Int32) × (Nat → Int32) × (Nat → Int32) × (Nat → Int32) × (Nat → Int32) × (Nat → Int32)) => match u with | (oo0x1, oo0x2, oo0x3, oo0x4, oo0x5, oo0x6, oo0x7, oo0x8, oo0x9, oo0x10, oo0x11) => [((Ma 0), .inr (12, [.ref (Ma 1), .int (Mv 0), .int (Mv 1), .ref (Ma 2), .ref (Ma 3), .ref (Ma 4), .ref (Ma 5), .ref (Ma 6), .int oo0x1, .int oo0x2, .int oo0x3, .int (Mv 5), .int oo0x4, .int oo0x5, .int (Mv 8), .ref (Ma 7), .int oo0x6, .ref (Ma 8), .int (Mv 10), .ref (Ma 9), .ref (Ma 10), .int (Mv 11), .int (Mv 12), .int (Mv 13), .ref (Ma 11), .int (Mv 14), .ref (Ma 12), .ref (Ma 13), .ref (Ma 14), .ref (Ma 15), .ref (Ma 16), .long (Mj 0), .ref (Ma 17), .ref (Ma 18), .ref (Ma 19), .ref (Ma 20)])), ((Ma 1), .inl (tc 2, 400, .inl (Mf 1))), ((Ma 2), .inl (tc 0, 2400, .inl oo0x7)), ((Ma 3), .inl (tc 0, 7, .inl oo0x8)), ((Ma 4), .inl (tc 0, 288, .inl oo0x9)), ((Ma 5), .inl (tc 0, 6, .inl oo0x10)), ((Ma 7), .inl (tc 0, 400, .inl oo0x11))]) 0 0 := by
  refine Ct.start (by decide) (Nat.le_of_ble_eq_true rfl) (fun p e s m below meth c A ls hx hb hr hlk hin hml hown hts hK hX hP hD hA hl hS => ?_)
  have hl : lv_has ls 2 [(0, .ref (Ma 0))] := hl
  have ar_h_rp := h_rp.2.1
  refine lv_aload_n hx hb dX12_isBuyHere_0 rfl (lv_at hl 0 rfl) ?_
  refine cV (a := (Ma 0)) (As := []) (rest := []) (wr := [((Ma 2), .inl (tc 0, 2400, .inl (Mf 2))), ((Ma 3), .inl (tc 0, 7, .inl (Mf 3))), ((Ma 4), .inl (tc 0, 288, .inl (Mf 4))), ((Ma 5), .inl (tc 0, 6, .inl (Mf 5))), ((Ma 7), .inl (tc 0, 400, .inl (Mf 7)))]) ⟨hx, hb, hml, hown, hts⟩ hK hX hA (cu_fX12_passWord l D tc sk (Ma 0) (Ma 1) (Ma 2) (Ma 3) (Ma 4) (Ma 5) (Ma 6) (Ma 7) (Ma 8) (Ma 9) (Ma 10) (Ma 11) (Ma 12) (Ma 13) (Ma 14) (Ma 15) (Ma 16) (Ma 17) (Ma 18) (Ma 19) (Ma 20) (Mv 0) (Mv 1) (Mv 2) (Mv 3) (Mv 4) (Mv 5) (Mv 6) (Mv 7) (Mv 8) (Mv 9) (Mv 10) (Mv 11) (Mv 12) (Mv 13) (Mv 14) (Mf 1) (Mj 0) h_nx h_bs) k_1244 k_1241 k_1243 k_34 k_106 pl_X12_passWord ⟨Nat.le_of_ble_eq_true rfl, Nat.le_of_ble_eq_true rfl⟩ rfl rfl (va_recv hK hP (ci := 12) (q0 := 0) rfl rfl) hP hD hS [0, 1] [2, 3, 4, 5, 6] rfl rfl rfl rfl rfl (by decide) rfl hl.1 rfl (Nat.le_of_ble_eq_true rfl) dX12_isBuyHere_1 ⟨Nat.le_of_ble_eq_true rfl, Nat.le_of_ble_eq_true rfl⟩ (fun v_1 u_2 H locs hv_3 hP₀ hD₀ hS₀ => ?_)
  obtain ⟨sv_4, rfl⟩ : ∃ z, z = u_2 := ⟨_, rfl⟩
  obtain ⟨rfl, pf_5, pf_6, pf_7⟩ := hv_3
  have pf_5 : ((Mv 2) : Int32).toInt ≤ (sv_4 : Int32).toInt ∧ (sv_4 : Int32).toInt ≤ ((Mv 0) : Int32).toInt := pf_5
  have pf_6 : Pw (Mf 1) (Mv 0) (Mv 2) sv_4 := pf_6
  have pf_7 : PsR (rB (Mf 1) (Mv 0)) (Mv 2) sv_4 := pf_7
  refine W.eq (g2 := F0 m 4 ls []) rfl ?_
  replace hP : va_P D classes [((Ma 2), .inl (tc 0, 2400, .inl (Mf 2))), ((Ma 3), .inl (tc 0, 7, .inl (Mf 3))), ((Ma 4), .inl (tc 0, 288, .inl (Mf 4))), ((Ma 5), .inl (tc 0, 6, .inl (Mf 5))), ((Ma 7), .inl (tc 0, 400, .inl (Mf 7))), ((Ma 0), .inr (12, [.ref (Ma 1), .int (Mv 0), .int (Mv 1), .ref (Ma 2), .ref (Ma 3), .ref (Ma 4), .ref (Ma 5), .ref (Ma 6), .int sv_4, .int (Mv 3), .int (Mv 4), .int (Mv 5), .int (Mv 6), .int (Mv 7), .int (Mv 8), .ref (Ma 7), .int (Mv 9), .ref (Ma 8), .int (Mv 10), .ref (Ma 9), .ref (Ma 10), .int (Mv 11), .int (Mv 12), .int (Mv 13), .ref (Ma 11), .int (Mv 14), .ref (Ma 12), .ref (Ma 13), .ref (Ma 14), .ref (Ma 15), .ref (Ma 16), .long (Mj 0), .ref (Ma 17), .ref (Ma 18), .ref (Ma 19), .ref (Ma 20)])), ((Ma 1), .inl (tc 2, 400, .inl (Mf 1)))] H := hP₀
  replace hD : va_D A [((Ma 2), .inl (tc 0, 2400, .inl (Mf 2))), ((Ma 3), .inl (tc 0, 7, .inl (Mf 3))), ((Ma 4), .inl (tc 0, 288, .inl (Mf 4))), ((Ma 5), .inl (tc 0, 6, .inl (Mf 5))), ((Ma 7), .inl (tc 0, 400, .inl (Mf 7))), ((Ma 0), .inr (12, [.ref (Ma 1), .int (Mv 0), .int (Mv 1), .ref (Ma 2), .ref (Ma 3), .ref (Ma 4), .ref (Ma 5), .ref (Ma 6), .int sv_4, .int (Mv 3), .int (Mv 4), .int (Mv 5), .int (Mv 6), .int (Mv 7), .int (Mv 8), .ref (Ma 7), .int (Mv 9), .ref (Ma 8), .int (Mv 10), .ref (Ma 9), .ref (Ma 10), .int (Mv 11), .int (Mv 12), .int (Mv 13), .ref (Ma 11), .int (Mv 14), .ref (Ma 12), .ref (Ma 13), .ref (Ma 14), .ref (Ma 15), .ref (Ma 16), .long (Mj 0), .ref (Ma 17), .ref (Ma 18), .ref (Ma 19), .ref (Ma 20)])), ((Ma 1), .inl (tc 2, 400, .inl (Mf 1)))] := hD₀
  replace hS := hS₀
  clear hP₀ hD₀ hS₀
  refine lv_bipush (v := 48) hx hb dX12_isBuyHere_4 (by decide) ?_
  refine lv_aload_n hx hb dX12_isBuyHere_6 rfl (lv_at hl 0 rfl) ?_
  refine gf_X12_145 hx hb hts hown hK hP 5 rfl rfl dX12_isBuyHere_7 ?_
  refine lv_imul hx hb dX12_isBuyHere_10 ?_
  refine lv_topi (fun x_8 ex_8 => ?_)
  refine lv_iconst (v := 4) hx hb dX12_isBuyHere_11 (by decide) ?_
  refine lv_aload_n hx hb dX12_isBuyHere_12 rfl (lv_at hl 0 rfl) ?_
  refine gf_X12_23 hx hb hts hown hK hP 5 rfl rfl dX12_isBuyHere_13 ?_
  refine lv_aload_n hx hb dX12_isBuyHere_16 rfl (lv_at hl 0 rfl) ?_
  refine gf_X12_145 hx hb hts hown hK hP 5 rfl rfl dX12_isBuyHere_17 ?_
  have hi_9 : vp_in (Mv 5) 6 := by
    refine vp_in_iff.mpr ⟨?_, ?_⟩ <;> omega
  refine va_iald hx hb hK hP 3 0 rfl rfl hi_9 dX12_isBuyHere_20 ?_
  refine lv_topi (fun x_10 ex_10 => ?_)
  have kx_10 : x_10.toInt = ((Mf 5) ((Mv 5) : Int32).toInt.toNat).toInt := congrArg Int32.toInt ex_10
  obtain ⟨A0, hA0⟩ : ∃ A0 : Nat, A0 = 48 * (Mv 5).toInt.toNat + 4 * (((Mf 5) (Mv 5).toInt.toNat).toInt).toNat := ⟨_, rfl⟩
  refine lv_imul hx hb dX12_isBuyHere_21 ?_
  refine lv_topi (fun x_11 ex_11 => ?_)
  refine lv_iadd hx hb dX12_isBuyHere_22 ?_
  refine lv_topi (fun x_12 ex_12 => ?_)
  refine lv_istore_n (lv' := [(1, .int x_12), (0, .ref (Ma 0))]) hx hb dX12_isBuyHere_23 rfl hl (by decide) rfl (fun ls hl₀ => ?_)
  replace hl := hl₀
  clear hl₀
  refine lv_aload_n hx hb dX12_isBuyHere_24 rfl (lv_at hl 1 rfl) ?_
  refine gf_X12_20 hx hb hts hown hK hP 5 rfl rfl dX12_isBuyHere_25 ?_
  refine lv_iload_n hx hb dX12_isBuyHere_28 rfl (lv_at hl 0 rfl) ?_
  refine lv_aload_n hx hb dX12_isBuyHere_29 rfl (lv_at hl 1 rfl) ?_
  refine gf_X12_17 hx hb hts hown hK hP 5 rfl rfl dX12_isBuyHere_30 ?_
  refine lv_aload_n hx hb dX12_isBuyHere_33 rfl (lv_at hl 1 rfl) ?_
  refine gf_X12_145 hx hb hts hown hK hP 5 rfl rfl dX12_isBuyHere_34 ?_
  have hi_13 : vp_in (Mv 5) 7 := by
    refine vp_in_iff.mpr ⟨?_, ?_⟩ <;> omega
  refine va_iald hx hb hK hP 1 0 rfl rfl hi_13 dX12_isBuyHere_37 ?_
  refine lv_topi (fun x_14 ex_14 => ?_)
  have kx_14 : x_14.toInt = ((Mf 3) ((Mv 5) : Int32).toNatClampNeg).toInt := congrArg Int32.toInt ex_14
  have hi_15 : vp_in x_12 288 := by
    have y_4 : (4 : Int32).toInt = 4 := by decide
    have y_48 : (48 : Int32).toInt = 48 := by decide
    have t_x_8 : x_8.toInt = (48 : Int32).toInt * ((Mv 5) : Int32).toInt := by rw [ex_8]; exact mul_toInt (by first | omega | (rw [y_48]; omega)) (by first | omega | (rw [y_48]; omega))
    rw [y_48] at t_x_8
    have t_x_11 : x_11.toInt = (4 : Int32).toInt * (x_10 : Int32).toInt := by rw [ex_11]; exact mul_toInt (by first | omega | (rw [y_4]; omega)) (by first | omega | (rw [y_4]; omega))
    rw [y_4] at t_x_11
    have t_x_12 : x_12.toInt = (x_8 : Int32).toInt + (x_11 : Int32).toInt := by rw [ex_12]; exact add_toInt (by omega) (by omega)
    refine vp_in_iff.mpr ⟨?_, ?_⟩ <;> omega
  refine st_int hx hb hK hP hD hS 2 0 rfl rfl hi_15 dX12_isBuyHere_38 (fun g_16 H locs eg_16 hP₀ hD₀ hS₀ => ?_)
  replace hP : va_P D classes [((Ma 2), .inl (tc 0, 2400, .inl (Mf 2))), ((Ma 3), .inl (tc 0, 7, .inl (Mf 3))), ((Ma 4), .inl (tc 0, 288, .inl g_16)), ((Ma 5), .inl (tc 0, 6, .inl (Mf 5))), ((Ma 7), .inl (tc 0, 400, .inl (Mf 7))), ((Ma 0), .inr (12, [.ref (Ma 1), .int (Mv 0), .int (Mv 1), .ref (Ma 2), .ref (Ma 3), .ref (Ma 4), .ref (Ma 5), .ref (Ma 6), .int sv_4, .int (Mv 3), .int (Mv 4), .int (Mv 5), .int (Mv 6), .int (Mv 7), .int (Mv 8), .ref (Ma 7), .int (Mv 9), .ref (Ma 8), .int (Mv 10), .ref (Ma 9), .ref (Ma 10), .int (Mv 11), .int (Mv 12), .int (Mv 13), .ref (Ma 11), .int (Mv 14), .ref (Ma 12), .ref (Ma 13), .ref (Ma 14), .ref (Ma 15), .ref (Ma 16), .long (Mj 0), .ref (Ma 17), .ref (Ma 18), .ref (Ma 19), .ref (Ma 20)])), ((Ma 1), .inl (tc 2, 400, .inl (Mf 1)))] H := hP₀
  replace hD : va_D A [((Ma 2), .inl (tc 0, 2400, .inl (Mf 2))), ((Ma 3), .inl (tc 0, 7, .inl (Mf 3))), ((Ma 4), .inl (tc 0, 288, .inl g_16)), ((Ma 5), .inl (tc 0, 6, .inl (Mf 5))), ((Ma 7), .inl (tc 0, 400, .inl (Mf 7))), ((Ma 0), .inr (12, [.ref (Ma 1), .int (Mv 0), .int (Mv 1), .ref (Ma 2), .ref (Ma 3), .ref (Ma 4), .ref (Ma 5), .ref (Ma 6), .int sv_4, .int (Mv 3), .int (Mv 4), .int (Mv 5), .int (Mv 6), .int (Mv 7), .int (Mv 8), .ref (Ma 7), .int (Mv 9), .ref (Ma 8), .int (Mv 10), .ref (Ma 9), .ref (Ma 10), .int (Mv 11), .int (Mv 12), .int (Mv 13), .ref (Ma 11), .int (Mv 14), .ref (Ma 12), .ref (Ma 13), .ref (Ma 14), .ref (Ma 15), .ref (Ma 16), .long (Mj 0), .ref (Ma 17), .ref (Ma 18), .ref (Ma 19), .ref (Ma 20)])), ((Ma 1), .inl (tc 2, 400, .inl (Mf 1)))] := hD₀
  replace hS := hS₀
  clear hP₀ hD₀ hS₀
  have hi_17 : (x_12 : Int32).toInt = (A0 : Int) + (0 : Nat) := by
    have y_4 : (4 : Int32).toInt = 4 := by decide
    have y_48 : (48 : Int32).toInt = 48 := by decide
    have t_x_8 : x_8.toInt = (48 : Int32).toInt * ((Mv 5) : Int32).toInt := by rw [ex_8]; exact mul_toInt (by first | omega | (rw [y_48]; omega)) (by first | omega | (rw [y_48]; omega))
    rw [y_48] at t_x_8
    have t_x_11 : x_11.toInt = (4 : Int32).toInt * (x_10 : Int32).toInt := by rw [ex_11]; exact mul_toInt (by first | omega | (rw [y_4]; omega)) (by first | omega | (rw [y_4]; omega))
    rw [y_4] at t_x_11
    have t_x_12 : x_12.toInt = (x_8 : Int32).toInt + (x_11 : Int32).toInt := by rw [ex_12]; exact add_toInt (by omega) (by omega)
    omega
  have hr_19 : 48 * (Mv 5).toInt + 4 * ((Mf 5) (Mv 5).toInt.toNat).toInt ≤ (((x_12 : Int32).toNatClampNeg : Nat) : Int) := by
    have y_4 : (4 : Int32).toInt = 4 := by decide
    have y_48 : (48 : Int32).toInt = 48 := by decide
    have t_x_8 : x_8.toInt = (48 : Int32).toInt * ((Mv 5) : Int32).toInt := by rw [ex_8]; exact mul_toInt (by first | omega | (rw [y_48]; omega)) (by first | omega | (rw [y_48]; omega))
    rw [y_48] at t_x_8
    have t_x_11 : x_11.toInt = (4 : Int32).toInt * (x_10 : Int32).toInt := by rw [ex_11]; exact mul_toInt (by first | omega | (rw [y_4]; omega)) (by first | omega | (rw [y_4]; omega))
    rw [y_4] at t_x_11
    have t_x_12 : x_12.toInt = (x_8 : Int32).toInt + (x_11 : Int32).toInt := by rw [ex_12]; exact add_toInt (by omega) (by omega)
    have hcl : (x_12 : Int32).toNatClampNeg = (x_12 : Int32).toInt.toNat := rfl
    omega
  have pf_18 : RulP (Mf 2) g_16 (Mf 5) (Mv 5) (((Mf 3) (Mv 5).toNatClampNeg).toInt) := RulP.cl h_rp eg_16 h_t.1 hr_19
  have ar_pf_18 := pf_18.2.1
  have pf_20 : ClV g_16 A0 0 x_14 := ClV.put eg_16 hi_17
  have hr_22 : 0 ≤ (x_14 : Int32).toInt ∧ (x_14 : Int32).toInt ≤ 400 := by
    omega
  have hr_23 : 0 ≤ ((Mv 6) : Int32).toInt ∧ ((Mv 6) : Int32).toInt ≤ 60 := by
    omega
  have pf_21 : Cd (Mf 2) (Mf 3) (Mv 5) x_14 (Mv 6) 0 := Cd.nil h_t ex_14 hr_22 hr_23
  have ar_pf_21 := Cd.ar pf_21
  have hr_24 : (48 * ((Mv 5) : Int32).toInt) ≤ (((x_12 : Int32).toNatClampNeg : Nat) : Int) := by
    have y_4 : (4 : Int32).toInt = 4 := by decide
    have y_48 : (48 : Int32).toInt = 48 := by decide
    have t_x_8 : x_8.toInt = (48 : Int32).toInt * ((Mv 5) : Int32).toInt := by rw [ex_8]; exact mul_toInt (by first | omega | (rw [y_48]; omega)) (by first | omega | (rw [y_48]; omega))
    rw [y_48] at t_x_8
    have t_x_11 : x_11.toInt = (4 : Int32).toInt * (x_10 : Int32).toInt := by rw [ex_11]; exact mul_toInt (by first | omega | (rw [y_4]; omega)) (by first | omega | (rw [y_4]; omega))
    rw [y_4] at t_x_11
    have t_x_12 : x_12.toInt = (x_8 : Int32).toInt + (x_11 : Int32).toInt := by rw [ex_12]; exact add_toInt (by omega) (by omega)
    have hcl : (x_12 : Int32).toNatClampNeg = (x_12 : Int32).toInt.toNat := rfl
    omega
  have pf_25 : Agr (Mf 4) g_16 (48 * ((Mv 5) : Int32).toInt) := Agr.up eg_16 hr_24
  have hr_26 : 48 * (Mv 5).toInt.toNat + 4 * List.length Rs ≤ (x_12 : Int32).toNatClampNeg := by
    have y_4 : (4 : Int32).toInt = 4 := by decide
    have y_48 : (48 : Int32).toInt = 48 := by decide
    have t_x_8 : x_8.toInt = (48 : Int32).toInt * ((Mv 5) : Int32).toInt := by rw [ex_8]; exact mul_toInt (by first | omega | (rw [y_48]; omega)) (by first | omega | (rw [y_48]; omega))
    rw [y_48] at t_x_8
    have t_x_11 : x_11.toInt = (4 : Int32).toInt * (x_10 : Int32).toInt := by rw [ex_11]; exact mul_toInt (by first | omega | (rw [y_4]; omega)) (by first | omega | (rw [y_4]; omega))
    rw [y_4] at t_x_11
    have t_x_12 : x_12.toInt = (x_8 : Int32).toInt + (x_11 : Int32).toInt := by rw [ex_12]; exact add_toInt (by omega) (by omega)
    have hcl : (x_12 : Int32).toNatClampNeg = (x_12 : Int32).toInt.toNat := rfl
    have hrw1 := h_rw.1
    omega
  have pf_27 : RwL g_16 (Mf 5) (Mv 5) ll Rs := RwL.cl h_rw eg_16 hr_26
  refine lv_aload_n hx hb dX12_isBuyHere_39 rfl (lv_at hl 1 rfl) ?_
  have ha_28 : 0 ≤ (sv_4 : Int32).toInt ∧ (sv_4 : Int32).toInt ≤ ((Mv 0) : Int32).toInt ∧ ((Mv 0) : Int32).toInt ≤ 400 := by
    omega
  have ha_29 : ((Mf 3) (Mv 5).toNatClampNeg).toInt ≤ (sv_4 : Int32).toInt := by
    omega
  refine cV (a := (Ma 0)) (As := []) (rest := []) (wr := [((Ma 4), .inl (tc 0, 288, .inl g_16)), ((Ma 5), .inl (tc 0, 6, .inl (Mf 5))), ((Ma 7), .inl (tc 0, 400, .inl (Mf 7)))]) ⟨hx, hb, hml, hown, hts⟩ hK hX hA (cu_kX12_sum l D tc sk (Ma 0) (Ma 1) (Ma 2) (Ma 3) (Ma 4) (Ma 5) (Ma 6) (Ma 7) (Ma 8) (Ma 9) (Ma 10) (Ma 11) (Ma 12) (Ma 13) (Ma 14) (Ma 15) (Ma 16) (Ma 17) (Ma 18) (Ma 19) (Ma 20) (Mv 0) (Mv 1) sv_4 (Mv 3) (Mv 4) (Mv 5) (Mv 6) (Mv 7) (Mv 8) (Mv 9) (Mv 10) (Mv 11) (Mv 12) (Mv 13) (Mv 14) (Mf 1) (Mf 2) (Mf 3) (Mj 0) x_14 0 ll ha_28 pf_21 ha_29 h_md h_bs h_w h_sg) k_1279 k_1276 k_1278 k_42 k_106 pl_X12_sum ⟨Nat.le_of_ble_eq_true rfl, Nat.le_of_ble_eq_true rfl⟩ rfl rfl (va_recv hK hP (ci := 12) (q0 := 5) rfl rfl) hP hD hS [5, 6, 0, 1] [2, 3, 4] rfl rfl rfl rfl rfl (by decide) rfl hl.1 rfl (Nat.le_of_ble_eq_true rfl) dX12_isBuyHere_40 ⟨Nat.le_of_ble_eq_true rfl, Nat.le_of_ble_eq_true rfl⟩ (fun v_30 u_31 H locs hv_32 hP₀ hD₀ hS₀ => ?_)
  obtain ⟨sv_33, sv_34, sv_35, sv_36, sv_37, sv_38⟩ := u_31
  obtain ⟨r_42, rfl, he_43, pf_39, pf_40, pf_41, hm_45, hm_46⟩ := hv_32
  have he_43 : ((r_42.toInt = 0 ∧ ¬ (sv_34 : Int32).toInt = 0) ∨ (r_42.toInt = 1 ∧ ((Mf 3) (Mv 5).toNatClampNeg).toInt + 1 ≤ (sv_38 (Mv 5).toNatClampNeg).toInt ∧ (sv_38 (Mv 5).toNatClampNeg).toInt + (sv_4 : Int32).toInt ≤ ((Mf 3) (Mv 5).toNatClampNeg).toInt + (sv_33 : Int32).toInt ∧ (sv_4 : Int32).toInt + 1 ≤ (sv_33 : Int32).toInt)) := he_43
  have pf_39 : (sv_4 : Int32).toInt ≤ (sv_33 : Int32).toInt ∧ (sv_33 : Int32).toInt ≤ ((Mv 0) : Int32).toInt := pf_39
  have pf_40 : ((Mv 6) : Int32).toInt ≤ (sv_36 : Int32).toInt ∧ (sv_36 : Int32).toInt ≤ 60 := pf_40
  have pf_41 : Agr (Mf 2) sv_37 (400 * ((Mv 5) : Int32).toInt + ((Mf 3) (Mv 5).toNatClampNeg).toInt) := pf_41
  have hr_48 : 400 * ((Mv 5) : Int32).toInt + (((Mf 3) (Mv 5).toNatClampNeg).toInt) ≤ (400 * ((Mv 5) : Int32).toInt + ((Mf 3) (Mv 5).toNatClampNeg).toInt) ∧ 0 ≤ ((Mv 5) : Int32).toInt ∧ 0 ≤ (((Mf 3) (Mv 5).toNatClampNeg).toInt) := by
    omega
  have pf_47 : RulP sv_37 (Mf 4) (Mf 5) (Mv 5) (((Mf 3) (Mv 5).toNatClampNeg).toInt) := RulP.agr h_rp pf_41 hr_48.2.1 hr_48.1 hr_48.2.2
  have ar_pf_47 := pf_47.2.1
  have hr_50 : 400 * ((Mv 5) : Int32).toInt + (((Mf 3) (Mv 5).toNatClampNeg).toInt) ≤ (400 * ((Mv 5) : Int32).toInt + ((Mf 3) (Mv 5).toNatClampNeg).toInt) ∧ 0 ≤ ((Mv 5) : Int32).toInt ∧ 0 ≤ (((Mf 3) (Mv 5).toNatClampNeg).toInt) := by
    omega
  have pf_49 : RulP sv_37 g_16 (Mf 5) (Mv 5) (((Mf 3) (Mv 5).toNatClampNeg).toInt) := RulP.agr pf_18 pf_41 hr_50.2.1 hr_50.1 hr_50.2.2
  have ar_pf_49 := pf_49.2.1
  refine W.eq (g2 := F0 m 43 ls [.int r_42]) rfl ?_
  replace hP : va_P D classes [((Ma 4), .inl (tc 0, 288, .inl g_16)), ((Ma 5), .inl (tc 0, 6, .inl (Mf 5))), ((Ma 7), .inl (tc 0, 400, .inl (Mf 7))), ((Ma 0), .inr (12, [.ref (Ma 1), .int (Mv 0), .int (Mv 1), .ref (Ma 2), .ref (Ma 3), .ref (Ma 4), .ref (Ma 5), .ref (Ma 6), .int sv_33, .int sv_34, .int sv_35, .int (Mv 5), .int sv_36, .int (Mv 7), .int (Mv 8), .ref (Ma 7), .int (Mv 9), .ref (Ma 8), .int (Mv 10), .ref (Ma 9), .ref (Ma 10), .int (Mv 11), .int (Mv 12), .int (Mv 13), .ref (Ma 11), .int (Mv 14), .ref (Ma 12), .ref (Ma 13), .ref (Ma 14), .ref (Ma 15), .ref (Ma 16), .long (Mj 0), .ref (Ma 17), .ref (Ma 18), .ref (Ma 19), .ref (Ma 20)])), ((Ma 1), .inl (tc 2, 400, .inl (Mf 1))), ((Ma 2), .inl (tc 0, 2400, .inl sv_37)), ((Ma 3), .inl (tc 0, 7, .inl sv_38))] H := hP₀
  replace hD : va_D A [((Ma 4), .inl (tc 0, 288, .inl g_16)), ((Ma 5), .inl (tc 0, 6, .inl (Mf 5))), ((Ma 7), .inl (tc 0, 400, .inl (Mf 7))), ((Ma 0), .inr (12, [.ref (Ma 1), .int (Mv 0), .int (Mv 1), .ref (Ma 2), .ref (Ma 3), .ref (Ma 4), .ref (Ma 5), .ref (Ma 6), .int sv_33, .int sv_34, .int sv_35, .int (Mv 5), .int sv_36, .int (Mv 7), .int (Mv 8), .ref (Ma 7), .int (Mv 9), .ref (Ma 8), .int (Mv 10), .ref (Ma 9), .ref (Ma 10), .int (Mv 11), .int (Mv 12), .int (Mv 13), .ref (Ma 11), .int (Mv 14), .ref (Ma 12), .ref (Ma 13), .ref (Ma 14), .ref (Ma 15), .ref (Ma 16), .long (Mj 0), .ref (Ma 17), .ref (Ma 18), .ref (Ma 19), .ref (Ma 20)])), ((Ma 1), .inl (tc 2, 400, .inl (Mf 1))), ((Ma 2), .inl (tc 0, 2400, .inl sv_37)), ((Ma 3), .inl (tc 0, 7, .inl sv_38))] := hD₀
  replace hS := hS₀
  clear hP₀ hD₀ hS₀
  refine lv_if_ne (tgt := 48) hx hb dX12_isBuyHere_43 (by decide) (fun c_51 => ?_) (fun c_51 => ?_)
  · skip
    have hz_55 : (r_42 : Int32).toInt = 1 := by
      have z_1 : ¬ (r_42 : Int32).toInt = (0 : Int32).toInt := fun z => c_51 (Int32.toInt_inj.mp z)
      have y_0 : (0 : Int32).toInt = 0 := by decide
      omega
    obtain ⟨pf_52, pf_53, pf_54⟩ := hm_45 hz_55
    have pf_52 : Cd sv_37 sv_38 (Mv 5) x_14 sv_36 ((0 : Nat) + 1) := pf_52
    have ar_pf_52 := Cd.ar pf_52
    have pf_53 : RfO (pz_sum (rB (Mf 1) (Mv 0)) (St0 (rB (Mf 1) (Mv 0)) sv_4 (Mv 6))) (rB (Mf 1) (Mv 0)) sv_34 sv_33 sv_36 := pf_53
    have ar_pf_53 := RfO.wr pf_53
    have pf_54 : SgC sv_37 sv_38 (Mv 5) (ll ++ lsum (rB (Mf 1) (Mv 0)) (St0 (rB (Mf 1) (Mv 0)) sv_4 (Mv 6))) := pf_54
    obtain ⟨lo_56, elo_56⟩ : ∃ z : List Int, z = (ll ++ lsum (rB (Mf 1) (Mv 0)) (St0 (rB (Mf 1) (Mv 0)) sv_4 (Mv 6))) := ⟨_, rfl⟩
    rw [← elo_56] at pf_54
    refine lv_aload_n hx hb dX12_isBuyHere_48 rfl (lv_at hl 1 rfl) ?_
    refine gf_X12_20 hx hb hts hown hK hP 3 rfl rfl dX12_isBuyHere_49 ?_
    refine lv_iload_n hx hb dX12_isBuyHere_52 rfl (lv_at hl 0 rfl) ?_
    refine lv_iconst (v := 1) hx hb dX12_isBuyHere_53 (by decide) ?_
    refine lv_iadd hx hb dX12_isBuyHere_54 ?_
    refine lv_topi (fun x_57 ex_57 => ?_)
    refine lv_aload_n hx hb dX12_isBuyHere_55 rfl (lv_at hl 1 rfl) ?_
    refine gf_X12_17 hx hb hts hown hK hP 3 rfl rfl dX12_isBuyHere_56 ?_
    refine lv_aload_n hx hb dX12_isBuyHere_59 rfl (lv_at hl 1 rfl) ?_
    refine gf_X12_145 hx hb hts hown hK hP 3 rfl rfl dX12_isBuyHere_60 ?_
    have hi_58 : vp_in (Mv 5) 7 := by
      have z_1 : ¬ (r_42 : Int32).toInt = (0 : Int32).toInt := fun z => c_51 (Int32.toInt_inj.mp z)
      have y_0 : (0 : Int32).toInt = 0 := by decide
      refine vp_in_iff.mpr ⟨?_, ?_⟩ <;> omega
    refine va_iald hx hb hK hP 6 0 rfl rfl hi_58 dX12_isBuyHere_63 ?_
    refine lv_topi (fun x_59 ex_59 => ?_)
    have kx_59 : x_59.toInt = (sv_38 ((Mv 5) : Int32).toNatClampNeg).toInt := congrArg Int32.toInt ex_59
    have pf_60 : WFc sv_37 (Mv 5) x_14 x_59 := Cd.wf pf_52 ex_59
    have ar_pf_60 := WFc.ar pf_60
    have hi_61 : vp_in x_57 288 := by
      have z_1 : ¬ (r_42 : Int32).toInt = (0 : Int32).toInt := fun z => c_51 (Int32.toInt_inj.mp z)
      have y_0 : (0 : Int32).toInt = 0 := by decide
      have y_1 : (1 : Int32).toInt = 1 := by decide
      have y_4 : (4 : Int32).toInt = 4 := by decide
      have y_48 : (48 : Int32).toInt = 48 := by decide
      have t_x_8 : x_8.toInt = (48 : Int32).toInt * ((Mv 5) : Int32).toInt := by rw [ex_8]; exact mul_toInt (by first | omega | (rw [y_48]; omega)) (by first | omega | (rw [y_48]; omega))
      rw [y_48] at t_x_8
      have t_x_11 : x_11.toInt = (4 : Int32).toInt * (x_10 : Int32).toInt := by rw [ex_11]; exact mul_toInt (by first | omega | (rw [y_4]; omega)) (by first | omega | (rw [y_4]; omega))
      rw [y_4] at t_x_11
      have t_x_12 : x_12.toInt = (x_8 : Int32).toInt + (x_11 : Int32).toInt := by rw [ex_12]; exact add_toInt (by omega) (by omega)
      have t_x_57 : x_57.toInt = (x_12 : Int32).toInt + (1 : Int32).toInt := by rw [ex_57]; exact add_toInt (by omega) (by omega)
      refine vp_in_iff.mpr ⟨?_, ?_⟩ <;> omega
    refine st_int hx hb hK hP hD hS 0 0 rfl rfl hi_61 dX12_isBuyHere_64 (fun g_62 H locs eg_62 hP₀ hD₀ hS₀ => ?_)
    replace hP : va_P D classes [((Ma 4), .inl (tc 0, 288, .inl g_62)), ((Ma 5), .inl (tc 0, 6, .inl (Mf 5))), ((Ma 7), .inl (tc 0, 400, .inl (Mf 7))), ((Ma 0), .inr (12, [.ref (Ma 1), .int (Mv 0), .int (Mv 1), .ref (Ma 2), .ref (Ma 3), .ref (Ma 4), .ref (Ma 5), .ref (Ma 6), .int sv_33, .int sv_34, .int sv_35, .int (Mv 5), .int sv_36, .int (Mv 7), .int (Mv 8), .ref (Ma 7), .int (Mv 9), .ref (Ma 8), .int (Mv 10), .ref (Ma 9), .ref (Ma 10), .int (Mv 11), .int (Mv 12), .int (Mv 13), .ref (Ma 11), .int (Mv 14), .ref (Ma 12), .ref (Ma 13), .ref (Ma 14), .ref (Ma 15), .ref (Ma 16), .long (Mj 0), .ref (Ma 17), .ref (Ma 18), .ref (Ma 19), .ref (Ma 20)])), ((Ma 1), .inl (tc 2, 400, .inl (Mf 1))), ((Ma 2), .inl (tc 0, 2400, .inl sv_37)), ((Ma 3), .inl (tc 0, 7, .inl sv_38))] H := hP₀
    replace hD : va_D A [((Ma 4), .inl (tc 0, 288, .inl g_62)), ((Ma 5), .inl (tc 0, 6, .inl (Mf 5))), ((Ma 7), .inl (tc 0, 400, .inl (Mf 7))), ((Ma 0), .inr (12, [.ref (Ma 1), .int (Mv 0), .int (Mv 1), .ref (Ma 2), .ref (Ma 3), .ref (Ma 4), .ref (Ma 5), .ref (Ma 6), .int sv_33, .int sv_34, .int sv_35, .int (Mv 5), .int sv_36, .int (Mv 7), .int (Mv 8), .ref (Ma 7), .int (Mv 9), .ref (Ma 8), .int (Mv 10), .ref (Ma 9), .ref (Ma 10), .int (Mv 11), .int (Mv 12), .int (Mv 13), .ref (Ma 11), .int (Mv 14), .ref (Ma 12), .ref (Ma 13), .ref (Ma 14), .ref (Ma 15), .ref (Ma 16), .long (Mj 0), .ref (Ma 17), .ref (Ma 18), .ref (Ma 19), .ref (Ma 20)])), ((Ma 1), .inl (tc 2, 400, .inl (Mf 1))), ((Ma 2), .inl (tc 0, 2400, .inl sv_37)), ((Ma 3), .inl (tc 0, 7, .inl sv_38))] := hD₀
    replace hS := hS₀
    clear hP₀ hD₀ hS₀
    have hi_63 : (x_57 : Int32).toInt = (A0 : Int) + (1 : Nat) := by
      have z_1 : ¬ (r_42 : Int32).toInt = (0 : Int32).toInt := fun z => c_51 (Int32.toInt_inj.mp z)
      have y_0 : (0 : Int32).toInt = 0 := by decide
      have y_1 : (1 : Int32).toInt = 1 := by decide
      have y_4 : (4 : Int32).toInt = 4 := by decide
      have y_48 : (48 : Int32).toInt = 48 := by decide
      have t_x_8 : x_8.toInt = (48 : Int32).toInt * ((Mv 5) : Int32).toInt := by rw [ex_8]; exact mul_toInt (by first | omega | (rw [y_48]; omega)) (by first | omega | (rw [y_48]; omega))
      rw [y_48] at t_x_8
      have t_x_11 : x_11.toInt = (4 : Int32).toInt * (x_10 : Int32).toInt := by rw [ex_11]; exact mul_toInt (by first | omega | (rw [y_4]; omega)) (by first | omega | (rw [y_4]; omega))
      rw [y_4] at t_x_11
      have t_x_12 : x_12.toInt = (x_8 : Int32).toInt + (x_11 : Int32).toInt := by rw [ex_12]; exact add_toInt (by omega) (by omega)
      have t_x_57 : x_57.toInt = (x_12 : Int32).toInt + (1 : Int32).toInt := by rw [ex_57]; exact add_toInt (by omega) (by omega)
      omega
    have hr_65 : 48 * (Mv 5).toInt + 4 * ((Mf 5) (Mv 5).toInt.toNat).toInt ≤ (((x_57 : Int32).toNatClampNeg : Nat) : Int) := by
      have z_1 : ¬ (r_42 : Int32).toInt = (0 : Int32).toInt := fun z => c_51 (Int32.toInt_inj.mp z)
      have y_0 : (0 : Int32).toInt = 0 := by decide
      have y_1 : (1 : Int32).toInt = 1 := by decide
      have y_4 : (4 : Int32).toInt = 4 := by decide
      have y_48 : (48 : Int32).toInt = 48 := by decide
      have t_x_8 : x_8.toInt = (48 : Int32).toInt * ((Mv 5) : Int32).toInt := by rw [ex_8]; exact mul_toInt (by first | omega | (rw [y_48]; omega)) (by first | omega | (rw [y_48]; omega))
      rw [y_48] at t_x_8
      have t_x_11 : x_11.toInt = (4 : Int32).toInt * (x_10 : Int32).toInt := by rw [ex_11]; exact mul_toInt (by first | omega | (rw [y_4]; omega)) (by first | omega | (rw [y_4]; omega))
      rw [y_4] at t_x_11
      have t_x_12 : x_12.toInt = (x_8 : Int32).toInt + (x_11 : Int32).toInt := by rw [ex_12]; exact add_toInt (by omega) (by omega)
      have t_x_57 : x_57.toInt = (x_12 : Int32).toInt + (1 : Int32).toInt := by rw [ex_57]; exact add_toInt (by omega) (by omega)
      have hcl : (x_57 : Int32).toNatClampNeg = (x_57 : Int32).toInt.toNat := rfl
      omega
    have pf_64 : RulP (Mf 2) g_62 (Mf 5) (Mv 5) (((Mf 3) (Mv 5).toNatClampNeg).toInt) := RulP.cl pf_18 eg_62 h_t.1 hr_65
    have ar_pf_64 := pf_64.2.1
    have hr_67 : ¬ (x_57 : Int32).toInt = (A0 : Int) + (0 : Nat) := by omega
    have pf_66 : ClV g_62 A0 0 x_14 := ClV.keep pf_20 eg_62 hr_67 (by omega)
    have hr_69 : 48 * (Mv 5).toInt + 4 * ((Mf 5) (Mv 5).toInt.toNat).toInt ≤ (((x_57 : Int32).toNatClampNeg : Nat) : Int) := by
      have z_1 : ¬ (r_42 : Int32).toInt = (0 : Int32).toInt := fun z => c_51 (Int32.toInt_inj.mp z)
      have y_0 : (0 : Int32).toInt = 0 := by decide
      have y_1 : (1 : Int32).toInt = 1 := by decide
      have y_4 : (4 : Int32).toInt = 4 := by decide
      have y_48 : (48 : Int32).toInt = 48 := by decide
      have t_x_8 : x_8.toInt = (48 : Int32).toInt * ((Mv 5) : Int32).toInt := by rw [ex_8]; exact mul_toInt (by first | omega | (rw [y_48]; omega)) (by first | omega | (rw [y_48]; omega))
      rw [y_48] at t_x_8
      have t_x_11 : x_11.toInt = (4 : Int32).toInt * (x_10 : Int32).toInt := by rw [ex_11]; exact mul_toInt (by first | omega | (rw [y_4]; omega)) (by first | omega | (rw [y_4]; omega))
      rw [y_4] at t_x_11
      have t_x_12 : x_12.toInt = (x_8 : Int32).toInt + (x_11 : Int32).toInt := by rw [ex_12]; exact add_toInt (by omega) (by omega)
      have t_x_57 : x_57.toInt = (x_12 : Int32).toInt + (1 : Int32).toInt := by rw [ex_57]; exact add_toInt (by omega) (by omega)
      have hcl : (x_57 : Int32).toNatClampNeg = (x_57 : Int32).toInt.toNat := rfl
      omega
    have pf_68 : RulP sv_37 g_62 (Mf 5) (Mv 5) (((Mf 3) (Mv 5).toNatClampNeg).toInt) := RulP.cl pf_49 eg_62 h_t.1 hr_69
    have ar_pf_68 := pf_68.2.1
    have pf_70 : ClV g_62 A0 1 x_59 := ClV.put eg_62 hi_63
    have hr_71 : (48 * ((Mv 5) : Int32).toInt) ≤ (((x_57 : Int32).toNatClampNeg : Nat) : Int) := by
      have z_1 : ¬ (r_42 : Int32).toInt = (0 : Int32).toInt := fun z => c_51 (Int32.toInt_inj.mp z)
      have y_0 : (0 : Int32).toInt = 0 := by decide
      have y_1 : (1 : Int32).toInt = 1 := by decide
      have y_4 : (4 : Int32).toInt = 4 := by decide
      have y_48 : (48 : Int32).toInt = 48 := by decide
      have t_x_8 : x_8.toInt = (48 : Int32).toInt * ((Mv 5) : Int32).toInt := by rw [ex_8]; exact mul_toInt (by first | omega | (rw [y_48]; omega)) (by first | omega | (rw [y_48]; omega))
      rw [y_48] at t_x_8
      have t_x_11 : x_11.toInt = (4 : Int32).toInt * (x_10 : Int32).toInt := by rw [ex_11]; exact mul_toInt (by first | omega | (rw [y_4]; omega)) (by first | omega | (rw [y_4]; omega))
      rw [y_4] at t_x_11
      have t_x_12 : x_12.toInt = (x_8 : Int32).toInt + (x_11 : Int32).toInt := by rw [ex_12]; exact add_toInt (by omega) (by omega)
      have t_x_57 : x_57.toInt = (x_12 : Int32).toInt + (1 : Int32).toInt := by rw [ex_57]; exact add_toInt (by omega) (by omega)
      have hcl : (x_57 : Int32).toNatClampNeg = (x_57 : Int32).toInt.toNat := rfl
      omega
    have pf_72 : Agr g_16 g_62 (48 * ((Mv 5) : Int32).toInt) := Agr.up eg_62 hr_71
    have hr_73 : 48 * (Mv 5).toInt.toNat + 4 * List.length Rs ≤ (x_57 : Int32).toNatClampNeg := by
      have z_1 : ¬ (r_42 : Int32).toInt = (0 : Int32).toInt := fun z => c_51 (Int32.toInt_inj.mp z)
      have y_0 : (0 : Int32).toInt = 0 := by decide
      have y_1 : (1 : Int32).toInt = 1 := by decide
      have y_4 : (4 : Int32).toInt = 4 := by decide
      have y_48 : (48 : Int32).toInt = 48 := by decide
      have t_x_8 : x_8.toInt = (48 : Int32).toInt * ((Mv 5) : Int32).toInt := by rw [ex_8]; exact mul_toInt (by first | omega | (rw [y_48]; omega)) (by first | omega | (rw [y_48]; omega))
      rw [y_48] at t_x_8
      have t_x_11 : x_11.toInt = (4 : Int32).toInt * (x_10 : Int32).toInt := by rw [ex_11]; exact mul_toInt (by first | omega | (rw [y_4]; omega)) (by first | omega | (rw [y_4]; omega))
      rw [y_4] at t_x_11
      have t_x_12 : x_12.toInt = (x_8 : Int32).toInt + (x_11 : Int32).toInt := by rw [ex_12]; exact add_toInt (by omega) (by omega)
      have t_x_57 : x_57.toInt = (x_12 : Int32).toInt + (1 : Int32).toInt := by rw [ex_57]; exact add_toInt (by omega) (by omega)
      have hcl : (x_57 : Int32).toNatClampNeg = (x_57 : Int32).toInt.toNat := rfl
      have hrw1 := h_rw.1
      omega
    have pf_74 : RwL g_62 (Mf 5) (Mv 5) ll Rs := RwL.cl pf_27 eg_62 hr_73
    refine lv_aload_n hx hb dX12_isBuyHere_65 rfl (lv_at hl 1 rfl) ?_
    refine gf_X12_20 hx hb hts hown hK hP 3 rfl rfl dX12_isBuyHere_66 ?_
    refine lv_iload_n hx hb dX12_isBuyHere_69 rfl (lv_at hl 0 rfl) ?_
    refine lv_iconst (v := 2) hx hb dX12_isBuyHere_70 (by decide) ?_
    refine lv_iadd hx hb dX12_isBuyHere_71 ?_
    refine lv_topi (fun x_75 ex_75 => ?_)
    refine lv_iconst (v := (-1)) hx hb dX12_isBuyHere_72 (by decide) ?_
    have hi_76 : vp_in x_75 288 := by
      have z_1 : ¬ (r_42 : Int32).toInt = (0 : Int32).toInt := fun z => c_51 (Int32.toInt_inj.mp z)
      have y_0 : (0 : Int32).toInt = 0 := by decide
      have y_2 : (2 : Int32).toInt = 2 := by decide
      have y_4 : (4 : Int32).toInt = 4 := by decide
      have y_48 : (48 : Int32).toInt = 48 := by decide
      have t_x_8 : x_8.toInt = (48 : Int32).toInt * ((Mv 5) : Int32).toInt := by rw [ex_8]; exact mul_toInt (by first | omega | (rw [y_48]; omega)) (by first | omega | (rw [y_48]; omega))
      rw [y_48] at t_x_8
      have t_x_11 : x_11.toInt = (4 : Int32).toInt * (x_10 : Int32).toInt := by rw [ex_11]; exact mul_toInt (by first | omega | (rw [y_4]; omega)) (by first | omega | (rw [y_4]; omega))
      rw [y_4] at t_x_11
      have t_x_12 : x_12.toInt = (x_8 : Int32).toInt + (x_11 : Int32).toInt := by rw [ex_12]; exact add_toInt (by omega) (by omega)
      have t_x_75 : x_75.toInt = (x_12 : Int32).toInt + (2 : Int32).toInt := by rw [ex_75]; exact add_toInt (by omega) (by omega)
      refine vp_in_iff.mpr ⟨?_, ?_⟩ <;> omega
    refine st_int hx hb hK hP hD hS 0 0 rfl rfl hi_76 dX12_isBuyHere_73 (fun g_77 H locs eg_77 hP₀ hD₀ hS₀ => ?_)
    replace hP : va_P D classes [((Ma 4), .inl (tc 0, 288, .inl g_77)), ((Ma 5), .inl (tc 0, 6, .inl (Mf 5))), ((Ma 7), .inl (tc 0, 400, .inl (Mf 7))), ((Ma 0), .inr (12, [.ref (Ma 1), .int (Mv 0), .int (Mv 1), .ref (Ma 2), .ref (Ma 3), .ref (Ma 4), .ref (Ma 5), .ref (Ma 6), .int sv_33, .int sv_34, .int sv_35, .int (Mv 5), .int sv_36, .int (Mv 7), .int (Mv 8), .ref (Ma 7), .int (Mv 9), .ref (Ma 8), .int (Mv 10), .ref (Ma 9), .ref (Ma 10), .int (Mv 11), .int (Mv 12), .int (Mv 13), .ref (Ma 11), .int (Mv 14), .ref (Ma 12), .ref (Ma 13), .ref (Ma 14), .ref (Ma 15), .ref (Ma 16), .long (Mj 0), .ref (Ma 17), .ref (Ma 18), .ref (Ma 19), .ref (Ma 20)])), ((Ma 1), .inl (tc 2, 400, .inl (Mf 1))), ((Ma 2), .inl (tc 0, 2400, .inl sv_37)), ((Ma 3), .inl (tc 0, 7, .inl sv_38))] H := hP₀
    replace hD : va_D A [((Ma 4), .inl (tc 0, 288, .inl g_77)), ((Ma 5), .inl (tc 0, 6, .inl (Mf 5))), ((Ma 7), .inl (tc 0, 400, .inl (Mf 7))), ((Ma 0), .inr (12, [.ref (Ma 1), .int (Mv 0), .int (Mv 1), .ref (Ma 2), .ref (Ma 3), .ref (Ma 4), .ref (Ma 5), .ref (Ma 6), .int sv_33, .int sv_34, .int sv_35, .int (Mv 5), .int sv_36, .int (Mv 7), .int (Mv 8), .ref (Ma 7), .int (Mv 9), .ref (Ma 8), .int (Mv 10), .ref (Ma 9), .ref (Ma 10), .int (Mv 11), .int (Mv 12), .int (Mv 13), .ref (Ma 11), .int (Mv 14), .ref (Ma 12), .ref (Ma 13), .ref (Ma 14), .ref (Ma 15), .ref (Ma 16), .long (Mj 0), .ref (Ma 17), .ref (Ma 18), .ref (Ma 19), .ref (Ma 20)])), ((Ma 1), .inl (tc 2, 400, .inl (Mf 1))), ((Ma 2), .inl (tc 0, 2400, .inl sv_37)), ((Ma 3), .inl (tc 0, 7, .inl sv_38))] := hD₀
    replace hS := hS₀
    clear hP₀ hD₀ hS₀
    have hi_78 : (x_75 : Int32).toInt = (A0 : Int) + (2 : Nat) := by
      have z_1 : ¬ (r_42 : Int32).toInt = (0 : Int32).toInt := fun z => c_51 (Int32.toInt_inj.mp z)
      have y_0 : (0 : Int32).toInt = 0 := by decide
      have y_2 : (2 : Int32).toInt = 2 := by decide
      have y_4 : (4 : Int32).toInt = 4 := by decide
      have y_48 : (48 : Int32).toInt = 48 := by decide
      have t_x_8 : x_8.toInt = (48 : Int32).toInt * ((Mv 5) : Int32).toInt := by rw [ex_8]; exact mul_toInt (by first | omega | (rw [y_48]; omega)) (by first | omega | (rw [y_48]; omega))
      rw [y_48] at t_x_8
      have t_x_11 : x_11.toInt = (4 : Int32).toInt * (x_10 : Int32).toInt := by rw [ex_11]; exact mul_toInt (by first | omega | (rw [y_4]; omega)) (by first | omega | (rw [y_4]; omega))
      rw [y_4] at t_x_11
      have t_x_12 : x_12.toInt = (x_8 : Int32).toInt + (x_11 : Int32).toInt := by rw [ex_12]; exact add_toInt (by omega) (by omega)
      have t_x_75 : x_75.toInt = (x_12 : Int32).toInt + (2 : Int32).toInt := by rw [ex_75]; exact add_toInt (by omega) (by omega)
      omega
    have hr_80 : 48 * (Mv 5).toInt + 4 * ((Mf 5) (Mv 5).toInt.toNat).toInt ≤ (((x_75 : Int32).toNatClampNeg : Nat) : Int) := by
      have z_1 : ¬ (r_42 : Int32).toInt = (0 : Int32).toInt := fun z => c_51 (Int32.toInt_inj.mp z)
      have y_0 : (0 : Int32).toInt = 0 := by decide
      have y_2 : (2 : Int32).toInt = 2 := by decide
      have y_4 : (4 : Int32).toInt = 4 := by decide
      have y_48 : (48 : Int32).toInt = 48 := by decide
      have t_x_8 : x_8.toInt = (48 : Int32).toInt * ((Mv 5) : Int32).toInt := by rw [ex_8]; exact mul_toInt (by first | omega | (rw [y_48]; omega)) (by first | omega | (rw [y_48]; omega))
      rw [y_48] at t_x_8
      have t_x_11 : x_11.toInt = (4 : Int32).toInt * (x_10 : Int32).toInt := by rw [ex_11]; exact mul_toInt (by first | omega | (rw [y_4]; omega)) (by first | omega | (rw [y_4]; omega))
      rw [y_4] at t_x_11
      have t_x_12 : x_12.toInt = (x_8 : Int32).toInt + (x_11 : Int32).toInt := by rw [ex_12]; exact add_toInt (by omega) (by omega)
      have t_x_75 : x_75.toInt = (x_12 : Int32).toInt + (2 : Int32).toInt := by rw [ex_75]; exact add_toInt (by omega) (by omega)
      have hcl : (x_75 : Int32).toNatClampNeg = (x_75 : Int32).toInt.toNat := rfl
      omega
    have pf_79 : RulP (Mf 2) g_77 (Mf 5) (Mv 5) (((Mf 3) (Mv 5).toNatClampNeg).toInt) := RulP.cl pf_64 eg_77 h_t.1 hr_80
    have ar_pf_79 := pf_79.2.1
    have hr_82 : ¬ (x_75 : Int32).toInt = (A0 : Int) + (0 : Nat) := by omega
    have pf_81 : ClV g_77 A0 0 x_14 := ClV.keep pf_66 eg_77 hr_82 (by omega)
    have hr_84 : 48 * (Mv 5).toInt + 4 * ((Mf 5) (Mv 5).toInt.toNat).toInt ≤ (((x_75 : Int32).toNatClampNeg : Nat) : Int) := by
      have z_1 : ¬ (r_42 : Int32).toInt = (0 : Int32).toInt := fun z => c_51 (Int32.toInt_inj.mp z)
      have y_0 : (0 : Int32).toInt = 0 := by decide
      have y_2 : (2 : Int32).toInt = 2 := by decide
      have y_4 : (4 : Int32).toInt = 4 := by decide
      have y_48 : (48 : Int32).toInt = 48 := by decide
      have t_x_8 : x_8.toInt = (48 : Int32).toInt * ((Mv 5) : Int32).toInt := by rw [ex_8]; exact mul_toInt (by first | omega | (rw [y_48]; omega)) (by first | omega | (rw [y_48]; omega))
      rw [y_48] at t_x_8
      have t_x_11 : x_11.toInt = (4 : Int32).toInt * (x_10 : Int32).toInt := by rw [ex_11]; exact mul_toInt (by first | omega | (rw [y_4]; omega)) (by first | omega | (rw [y_4]; omega))
      rw [y_4] at t_x_11
      have t_x_12 : x_12.toInt = (x_8 : Int32).toInt + (x_11 : Int32).toInt := by rw [ex_12]; exact add_toInt (by omega) (by omega)
      have t_x_75 : x_75.toInt = (x_12 : Int32).toInt + (2 : Int32).toInt := by rw [ex_75]; exact add_toInt (by omega) (by omega)
      have hcl : (x_75 : Int32).toNatClampNeg = (x_75 : Int32).toInt.toNat := rfl
      omega
    have pf_83 : RulP sv_37 g_77 (Mf 5) (Mv 5) (((Mf 3) (Mv 5).toNatClampNeg).toInt) := RulP.cl pf_68 eg_77 h_t.1 hr_84
    have ar_pf_83 := pf_83.2.1
    have hr_86 : ¬ (x_75 : Int32).toInt = (A0 : Int) + (1 : Nat) := by omega
    have pf_85 : ClV g_77 A0 1 x_59 := ClV.keep pf_70 eg_77 hr_86 (by omega)
    have pf_87 : ClV g_77 A0 2 (-1) := ClV.put eg_77 hi_78
    have hr_88 : (48 * ((Mv 5) : Int32).toInt) ≤ (((x_75 : Int32).toNatClampNeg : Nat) : Int) := by
      have z_1 : ¬ (r_42 : Int32).toInt = (0 : Int32).toInt := fun z => c_51 (Int32.toInt_inj.mp z)
      have y_0 : (0 : Int32).toInt = 0 := by decide
      have y_2 : (2 : Int32).toInt = 2 := by decide
      have y_4 : (4 : Int32).toInt = 4 := by decide
      have y_48 : (48 : Int32).toInt = 48 := by decide
      have t_x_8 : x_8.toInt = (48 : Int32).toInt * ((Mv 5) : Int32).toInt := by rw [ex_8]; exact mul_toInt (by first | omega | (rw [y_48]; omega)) (by first | omega | (rw [y_48]; omega))
      rw [y_48] at t_x_8
      have t_x_11 : x_11.toInt = (4 : Int32).toInt * (x_10 : Int32).toInt := by rw [ex_11]; exact mul_toInt (by first | omega | (rw [y_4]; omega)) (by first | omega | (rw [y_4]; omega))
      rw [y_4] at t_x_11
      have t_x_12 : x_12.toInt = (x_8 : Int32).toInt + (x_11 : Int32).toInt := by rw [ex_12]; exact add_toInt (by omega) (by omega)
      have t_x_75 : x_75.toInt = (x_12 : Int32).toInt + (2 : Int32).toInt := by rw [ex_75]; exact add_toInt (by omega) (by omega)
      have hcl : (x_75 : Int32).toNatClampNeg = (x_75 : Int32).toInt.toNat := rfl
      omega
    have pf_89 : Agr g_62 g_77 (48 * ((Mv 5) : Int32).toInt) := Agr.up eg_77 hr_88
    have hr_90 : 48 * (Mv 5).toInt.toNat + 4 * List.length Rs ≤ (x_75 : Int32).toNatClampNeg := by
      have z_1 : ¬ (r_42 : Int32).toInt = (0 : Int32).toInt := fun z => c_51 (Int32.toInt_inj.mp z)
      have y_0 : (0 : Int32).toInt = 0 := by decide
      have y_2 : (2 : Int32).toInt = 2 := by decide
      have y_4 : (4 : Int32).toInt = 4 := by decide
      have y_48 : (48 : Int32).toInt = 48 := by decide
      have t_x_8 : x_8.toInt = (48 : Int32).toInt * ((Mv 5) : Int32).toInt := by rw [ex_8]; exact mul_toInt (by first | omega | (rw [y_48]; omega)) (by first | omega | (rw [y_48]; omega))
      rw [y_48] at t_x_8
      have t_x_11 : x_11.toInt = (4 : Int32).toInt * (x_10 : Int32).toInt := by rw [ex_11]; exact mul_toInt (by first | omega | (rw [y_4]; omega)) (by first | omega | (rw [y_4]; omega))
      rw [y_4] at t_x_11
      have t_x_12 : x_12.toInt = (x_8 : Int32).toInt + (x_11 : Int32).toInt := by rw [ex_12]; exact add_toInt (by omega) (by omega)
      have t_x_75 : x_75.toInt = (x_12 : Int32).toInt + (2 : Int32).toInt := by rw [ex_75]; exact add_toInt (by omega) (by omega)
      have hcl : (x_75 : Int32).toNatClampNeg = (x_75 : Int32).toInt.toNat := rfl
      have hrw1 := h_rw.1
      omega
    have pf_91 : RwL g_77 (Mf 5) (Mv 5) ll Rs := RwL.cl pf_74 eg_77 hr_90
    refine lv_aload_n hx hb dX12_isBuyHere_74 rfl (lv_at hl 1 rfl) ?_
    refine lv_ldc2 hx hb hown (hts _ k_1313) dX12_isBuyHere_75 ?_
    have ha_92 : 0 ≤ (sv_33 : Int32).toInt ∧ (sv_33 : Int32).toInt ≤ ((Mv 0) : Int32).toInt ∧ ((Mv 0) : Int32).toInt ≤ 400 := by
      have z_1 : ¬ (r_42 : Int32).toInt = (0 : Int32).toInt := fun z => c_51 (Int32.toInt_inj.mp z)
      have y_0 : (0 : Int32).toInt = 0 := by decide
      omega
    refine cV (a := (Ma 0)) (As := [.long 26982]) (rest := []) (wr := [((Ma 4), .inl (tc 0, 288, .inl g_77)), ((Ma 5), .inl (tc 0, 6, .inl (Mf 5))), ((Ma 7), .inl (tc 0, 400, .inl (Mf 7))), ((Ma 2), .inl (tc 0, 2400, .inl sv_37)), ((Ma 3), .inl (tc 0, 7, .inl sv_38))]) ⟨hx, hb, hml, hown, hts⟩ hK hX hA (cu_fX12_takesWord l D tc sk (Ma 0) (Ma 1) (Ma 2) (Ma 3) (Ma 4) (Ma 5) (Ma 6) (Ma 7) (Ma 8) (Ma 9) (Ma 10) (Ma 11) (Ma 12) (Ma 13) (Ma 14) (Ma 15) (Ma 16) (Ma 17) (Ma 18) (Ma 19) (Ma 20) (Mv 0) (Mv 1) sv_33 sv_34 sv_35 (Mv 5) sv_36 (Mv 7) (Mv 8) (Mv 9) (Mv 10) (Mv 11) (Mv 12) (Mv 13) (Mv 14) (Mf 1) (Mj 0) 26982 ha_92 h_bs) k_1317 k_1314 k_1316 k_48 k_106 pl_X12_takesWord ⟨Nat.le_of_ble_eq_true rfl, Nat.le_of_ble_eq_true rfl⟩ rfl rfl (va_recv hK hP (ci := 12) (q0 := 3) rfl rfl) hP hD hS [3, 4] [0, 1, 2, 5, 6] rfl rfl rfl rfl rfl (by decide) rfl hl.1 rfl (Nat.le_of_ble_eq_true rfl) dX12_isBuyHere_78 ⟨Nat.le_of_ble_eq_true rfl, Nat.le_of_ble_eq_true rfl⟩ (fun v_93 u_94 H locs hv_95 hP₀ hD₀ hS₀ => ?_)
    obtain ⟨sv_96, rfl⟩ : ∃ z, z = u_94 := ⟨_, rfl⟩
    obtain ⟨r_98, rfl, he_99, pf_97, hm_101, hm_102⟩ := hv_95
    have he_99 : (r_98.toInt = 0 ∨ r_98.toInt = 1) := he_99
    have pf_97 : (sv_33 : Int32).toInt ≤ (sv_96 : Int32).toInt ∧ (sv_96 : Int32).toInt ≤ ((Mv 0) : Int32).toInt := pf_97
    refine W.eq (g2 := F0 m 81 ls [.int r_98]) rfl ?_
    replace hP : va_P D classes [((Ma 4), .inl (tc 0, 288, .inl g_77)), ((Ma 5), .inl (tc 0, 6, .inl (Mf 5))), ((Ma 7), .inl (tc 0, 400, .inl (Mf 7))), ((Ma 2), .inl (tc 0, 2400, .inl sv_37)), ((Ma 3), .inl (tc 0, 7, .inl sv_38)), ((Ma 0), .inr (12, [.ref (Ma 1), .int (Mv 0), .int (Mv 1), .ref (Ma 2), .ref (Ma 3), .ref (Ma 4), .ref (Ma 5), .ref (Ma 6), .int sv_96, .int sv_34, .int sv_35, .int (Mv 5), .int sv_36, .int (Mv 7), .int (Mv 8), .ref (Ma 7), .int (Mv 9), .ref (Ma 8), .int (Mv 10), .ref (Ma 9), .ref (Ma 10), .int (Mv 11), .int (Mv 12), .int (Mv 13), .ref (Ma 11), .int (Mv 14), .ref (Ma 12), .ref (Ma 13), .ref (Ma 14), .ref (Ma 15), .ref (Ma 16), .long (Mj 0), .ref (Ma 17), .ref (Ma 18), .ref (Ma 19), .ref (Ma 20)])), ((Ma 1), .inl (tc 2, 400, .inl (Mf 1)))] H := hP₀
    replace hD : va_D A [((Ma 4), .inl (tc 0, 288, .inl g_77)), ((Ma 5), .inl (tc 0, 6, .inl (Mf 5))), ((Ma 7), .inl (tc 0, 400, .inl (Mf 7))), ((Ma 2), .inl (tc 0, 2400, .inl sv_37)), ((Ma 3), .inl (tc 0, 7, .inl sv_38)), ((Ma 0), .inr (12, [.ref (Ma 1), .int (Mv 0), .int (Mv 1), .ref (Ma 2), .ref (Ma 3), .ref (Ma 4), .ref (Ma 5), .ref (Ma 6), .int sv_96, .int sv_34, .int sv_35, .int (Mv 5), .int sv_36, .int (Mv 7), .int (Mv 8), .ref (Ma 7), .int (Mv 9), .ref (Ma 8), .int (Mv 10), .ref (Ma 9), .ref (Ma 10), .int (Mv 11), .int (Mv 12), .int (Mv 13), .ref (Ma 11), .int (Mv 14), .ref (Ma 12), .ref (Ma 13), .ref (Ma 14), .ref (Ma 15), .ref (Ma 16), .long (Mj 0), .ref (Ma 17), .ref (Ma 18), .ref (Ma 19), .ref (Ma 20)])), ((Ma 1), .inl (tc 2, 400, .inl (Mf 1)))] := hD₀
    replace hS := hS₀
    clear hP₀ hD₀ hS₀
    refine lv_if_eq (tgt := 110) hx hb dX12_isBuyHere_81 (by decide) (fun c_103 => ?_) (fun c_103 => ?_)
    · skip
      have hz_105 : (r_98 : Int32).toInt = 0 := by
        have z_1 : ¬ (r_42 : Int32).toInt = (0 : Int32).toInt := fun z => c_51 (Int32.toInt_inj.mp z)
        have z_2 := congrArg Int32.toInt c_103
        have y_0 : (0 : Int32).toInt = 0 := by decide
        omega
      obtain pf_104 := hm_102 hz_105
      have pf_104 : NtW (rB (Mf 1) (Mv 0)) (26982 : Int64).toInt sv_33 sv_96 := pf_104
      refine lv_aload_n hx hb dX12_isBuyHere_110 rfl (lv_at hl 1 rfl) ?_
      refine gf_X12_20 hx hb hts hown hK hP 5 rfl rfl dX12_isBuyHere_111 ?_
      refine lv_iload_n hx hb dX12_isBuyHere_114 rfl (lv_at hl 0 rfl) ?_
      refine lv_iconst (v := 3) hx hb dX12_isBuyHere_115 (by decide) ?_
      refine lv_iadd hx hb dX12_isBuyHere_116 ?_
      refine lv_topi (fun x_106 ex_106 => ?_)
      refine lv_aload_n hx hb dX12_isBuyHere_117 rfl (lv_at hl 1 rfl) ?_
      refine gf_X12_17 hx hb hts hown hK hP 5 rfl rfl dX12_isBuyHere_118 ?_
      refine lv_aload_n hx hb dX12_isBuyHere_121 rfl (lv_at hl 1 rfl) ?_
      refine gf_X12_145 hx hb hts hown hK hP 5 rfl rfl dX12_isBuyHere_122 ?_
      have hi_107 : vp_in (Mv 5) 7 := by
        have z_1 : ¬ (r_42 : Int32).toInt = (0 : Int32).toInt := fun z => c_51 (Int32.toInt_inj.mp z)
        have z_2 := congrArg Int32.toInt c_103
        have y_0 : (0 : Int32).toInt = 0 := by decide
        refine vp_in_iff.mpr ⟨?_, ?_⟩ <;> omega
      refine va_iald hx hb hK hP 4 0 rfl rfl hi_107 dX12_isBuyHere_125 ?_
      refine lv_topi (fun x_108 ex_108 => ?_)
      have kx_108 : x_108.toInt = (sv_38 ((Mv 5) : Int32).toNatClampNeg).toInt := congrArg Int32.toInt ex_108
      have pf_109 : WFc sv_37 (Mv 5) x_14 x_108 := Cd.wf pf_52 ex_108
      have ar_pf_109 := WFc.ar pf_109
      have hi_110 : vp_in x_106 288 := by
        have z_1 : ¬ (r_42 : Int32).toInt = (0 : Int32).toInt := fun z => c_51 (Int32.toInt_inj.mp z)
        have z_2 := congrArg Int32.toInt c_103
        have y_0 : (0 : Int32).toInt = 0 := by decide
        have y_3 : (3 : Int32).toInt = 3 := by decide
        have y_4 : (4 : Int32).toInt = 4 := by decide
        have y_48 : (48 : Int32).toInt = 48 := by decide
        have t_x_8 : x_8.toInt = (48 : Int32).toInt * ((Mv 5) : Int32).toInt := by rw [ex_8]; exact mul_toInt (by first | omega | (rw [y_48]; omega)) (by first | omega | (rw [y_48]; omega))
        rw [y_48] at t_x_8
        have t_x_11 : x_11.toInt = (4 : Int32).toInt * (x_10 : Int32).toInt := by rw [ex_11]; exact mul_toInt (by first | omega | (rw [y_4]; omega)) (by first | omega | (rw [y_4]; omega))
        rw [y_4] at t_x_11
        have t_x_12 : x_12.toInt = (x_8 : Int32).toInt + (x_11 : Int32).toInt := by rw [ex_12]; exact add_toInt (by omega) (by omega)
        have t_x_106 : x_106.toInt = (x_12 : Int32).toInt + (3 : Int32).toInt := by rw [ex_106]; exact add_toInt (by omega) (by omega)
        refine vp_in_iff.mpr ⟨?_, ?_⟩ <;> omega
      refine st_int hx hb hK hP hD hS 0 0 rfl rfl hi_110 dX12_isBuyHere_126 (fun g_111 H locs eg_111 hP₀ hD₀ hS₀ => ?_)
      replace hP : va_P D classes [((Ma 4), .inl (tc 0, 288, .inl g_111)), ((Ma 5), .inl (tc 0, 6, .inl (Mf 5))), ((Ma 7), .inl (tc 0, 400, .inl (Mf 7))), ((Ma 2), .inl (tc 0, 2400, .inl sv_37)), ((Ma 3), .inl (tc 0, 7, .inl sv_38)), ((Ma 0), .inr (12, [.ref (Ma 1), .int (Mv 0), .int (Mv 1), .ref (Ma 2), .ref (Ma 3), .ref (Ma 4), .ref (Ma 5), .ref (Ma 6), .int sv_96, .int sv_34, .int sv_35, .int (Mv 5), .int sv_36, .int (Mv 7), .int (Mv 8), .ref (Ma 7), .int (Mv 9), .ref (Ma 8), .int (Mv 10), .ref (Ma 9), .ref (Ma 10), .int (Mv 11), .int (Mv 12), .int (Mv 13), .ref (Ma 11), .int (Mv 14), .ref (Ma 12), .ref (Ma 13), .ref (Ma 14), .ref (Ma 15), .ref (Ma 16), .long (Mj 0), .ref (Ma 17), .ref (Ma 18), .ref (Ma 19), .ref (Ma 20)])), ((Ma 1), .inl (tc 2, 400, .inl (Mf 1)))] H := hP₀
      replace hD : va_D A [((Ma 4), .inl (tc 0, 288, .inl g_111)), ((Ma 5), .inl (tc 0, 6, .inl (Mf 5))), ((Ma 7), .inl (tc 0, 400, .inl (Mf 7))), ((Ma 2), .inl (tc 0, 2400, .inl sv_37)), ((Ma 3), .inl (tc 0, 7, .inl sv_38)), ((Ma 0), .inr (12, [.ref (Ma 1), .int (Mv 0), .int (Mv 1), .ref (Ma 2), .ref (Ma 3), .ref (Ma 4), .ref (Ma 5), .ref (Ma 6), .int sv_96, .int sv_34, .int sv_35, .int (Mv 5), .int sv_36, .int (Mv 7), .int (Mv 8), .ref (Ma 7), .int (Mv 9), .ref (Ma 8), .int (Mv 10), .ref (Ma 9), .ref (Ma 10), .int (Mv 11), .int (Mv 12), .int (Mv 13), .ref (Ma 11), .int (Mv 14), .ref (Ma 12), .ref (Ma 13), .ref (Ma 14), .ref (Ma 15), .ref (Ma 16), .long (Mj 0), .ref (Ma 17), .ref (Ma 18), .ref (Ma 19), .ref (Ma 20)])), ((Ma 1), .inl (tc 2, 400, .inl (Mf 1)))] := hD₀
      replace hS := hS₀
      clear hP₀ hD₀ hS₀
      have hi_112 : (x_106 : Int32).toInt = (A0 : Int) + (3 : Nat) := by
        have z_1 : ¬ (r_42 : Int32).toInt = (0 : Int32).toInt := fun z => c_51 (Int32.toInt_inj.mp z)
        have z_2 := congrArg Int32.toInt c_103
        have y_0 : (0 : Int32).toInt = 0 := by decide
        have y_3 : (3 : Int32).toInt = 3 := by decide
        have y_4 : (4 : Int32).toInt = 4 := by decide
        have y_48 : (48 : Int32).toInt = 48 := by decide
        have t_x_8 : x_8.toInt = (48 : Int32).toInt * ((Mv 5) : Int32).toInt := by rw [ex_8]; exact mul_toInt (by first | omega | (rw [y_48]; omega)) (by first | omega | (rw [y_48]; omega))
        rw [y_48] at t_x_8
        have t_x_11 : x_11.toInt = (4 : Int32).toInt * (x_10 : Int32).toInt := by rw [ex_11]; exact mul_toInt (by first | omega | (rw [y_4]; omega)) (by first | omega | (rw [y_4]; omega))
        rw [y_4] at t_x_11
        have t_x_12 : x_12.toInt = (x_8 : Int32).toInt + (x_11 : Int32).toInt := by rw [ex_12]; exact add_toInt (by omega) (by omega)
        have t_x_106 : x_106.toInt = (x_12 : Int32).toInt + (3 : Int32).toInt := by rw [ex_106]; exact add_toInt (by omega) (by omega)
        omega
      have hr_114 : 48 * (Mv 5).toInt + 4 * ((Mf 5) (Mv 5).toInt.toNat).toInt ≤ (((x_106 : Int32).toNatClampNeg : Nat) : Int) := by
        have z_1 : ¬ (r_42 : Int32).toInt = (0 : Int32).toInt := fun z => c_51 (Int32.toInt_inj.mp z)
        have z_2 := congrArg Int32.toInt c_103
        have y_0 : (0 : Int32).toInt = 0 := by decide
        have y_3 : (3 : Int32).toInt = 3 := by decide
        have y_4 : (4 : Int32).toInt = 4 := by decide
        have y_48 : (48 : Int32).toInt = 48 := by decide
        have t_x_8 : x_8.toInt = (48 : Int32).toInt * ((Mv 5) : Int32).toInt := by rw [ex_8]; exact mul_toInt (by first | omega | (rw [y_48]; omega)) (by first | omega | (rw [y_48]; omega))
        rw [y_48] at t_x_8
        have t_x_11 : x_11.toInt = (4 : Int32).toInt * (x_10 : Int32).toInt := by rw [ex_11]; exact mul_toInt (by first | omega | (rw [y_4]; omega)) (by first | omega | (rw [y_4]; omega))
        rw [y_4] at t_x_11
        have t_x_12 : x_12.toInt = (x_8 : Int32).toInt + (x_11 : Int32).toInt := by rw [ex_12]; exact add_toInt (by omega) (by omega)
        have t_x_106 : x_106.toInt = (x_12 : Int32).toInt + (3 : Int32).toInt := by rw [ex_106]; exact add_toInt (by omega) (by omega)
        have hcl : (x_106 : Int32).toNatClampNeg = (x_106 : Int32).toInt.toNat := rfl
        omega
      have pf_113 : RulP (Mf 2) g_111 (Mf 5) (Mv 5) (((Mf 3) (Mv 5).toNatClampNeg).toInt) := RulP.cl pf_79 eg_111 h_t.1 hr_114
      have ar_pf_113 := pf_113.2.1
      have hr_116 : ¬ (x_106 : Int32).toInt = (A0 : Int) + (0 : Nat) := by omega
      have pf_115 : ClV g_111 A0 0 x_14 := ClV.keep pf_81 eg_111 hr_116 (by omega)
      have hr_118 : 48 * (Mv 5).toInt + 4 * ((Mf 5) (Mv 5).toInt.toNat).toInt ≤ (((x_106 : Int32).toNatClampNeg : Nat) : Int) := by
        have z_1 : ¬ (r_42 : Int32).toInt = (0 : Int32).toInt := fun z => c_51 (Int32.toInt_inj.mp z)
        have z_2 := congrArg Int32.toInt c_103
        have y_0 : (0 : Int32).toInt = 0 := by decide
        have y_3 : (3 : Int32).toInt = 3 := by decide
        have y_4 : (4 : Int32).toInt = 4 := by decide
        have y_48 : (48 : Int32).toInt = 48 := by decide
        have t_x_8 : x_8.toInt = (48 : Int32).toInt * ((Mv 5) : Int32).toInt := by rw [ex_8]; exact mul_toInt (by first | omega | (rw [y_48]; omega)) (by first | omega | (rw [y_48]; omega))
        rw [y_48] at t_x_8
        have t_x_11 : x_11.toInt = (4 : Int32).toInt * (x_10 : Int32).toInt := by rw [ex_11]; exact mul_toInt (by first | omega | (rw [y_4]; omega)) (by first | omega | (rw [y_4]; omega))
        rw [y_4] at t_x_11
        have t_x_12 : x_12.toInt = (x_8 : Int32).toInt + (x_11 : Int32).toInt := by rw [ex_12]; exact add_toInt (by omega) (by omega)
        have t_x_106 : x_106.toInt = (x_12 : Int32).toInt + (3 : Int32).toInt := by rw [ex_106]; exact add_toInt (by omega) (by omega)
        have hcl : (x_106 : Int32).toNatClampNeg = (x_106 : Int32).toInt.toNat := rfl
        omega
      have pf_117 : RulP sv_37 g_111 (Mf 5) (Mv 5) (((Mf 3) (Mv 5).toNatClampNeg).toInt) := RulP.cl pf_83 eg_111 h_t.1 hr_118
      have ar_pf_117 := pf_117.2.1
      have hr_120 : ¬ (x_106 : Int32).toInt = (A0 : Int) + (1 : Nat) := by omega
      have pf_119 : ClV g_111 A0 1 x_59 := ClV.keep pf_85 eg_111 hr_120 (by omega)
      have hr_122 : ¬ (x_106 : Int32).toInt = (A0 : Int) + (2 : Nat) := by omega
      have pf_121 : ClV g_111 A0 2 (-1) := ClV.keep pf_87 eg_111 hr_122 (by omega)
      have pf_123 : ClV g_111 A0 3 x_108 := ClV.put eg_111 hi_112
      have hr_124 : (48 * ((Mv 5) : Int32).toInt) ≤ (((x_106 : Int32).toNatClampNeg : Nat) : Int) := by
        have z_1 : ¬ (r_42 : Int32).toInt = (0 : Int32).toInt := fun z => c_51 (Int32.toInt_inj.mp z)
        have z_2 := congrArg Int32.toInt c_103
        have y_0 : (0 : Int32).toInt = 0 := by decide
        have y_3 : (3 : Int32).toInt = 3 := by decide
        have y_4 : (4 : Int32).toInt = 4 := by decide
        have y_48 : (48 : Int32).toInt = 48 := by decide
        have t_x_8 : x_8.toInt = (48 : Int32).toInt * ((Mv 5) : Int32).toInt := by rw [ex_8]; exact mul_toInt (by first | omega | (rw [y_48]; omega)) (by first | omega | (rw [y_48]; omega))
        rw [y_48] at t_x_8
        have t_x_11 : x_11.toInt = (4 : Int32).toInt * (x_10 : Int32).toInt := by rw [ex_11]; exact mul_toInt (by first | omega | (rw [y_4]; omega)) (by first | omega | (rw [y_4]; omega))
        rw [y_4] at t_x_11
        have t_x_12 : x_12.toInt = (x_8 : Int32).toInt + (x_11 : Int32).toInt := by rw [ex_12]; exact add_toInt (by omega) (by omega)
        have t_x_106 : x_106.toInt = (x_12 : Int32).toInt + (3 : Int32).toInt := by rw [ex_106]; exact add_toInt (by omega) (by omega)
        have hcl : (x_106 : Int32).toNatClampNeg = (x_106 : Int32).toInt.toNat := rfl
        omega
      have pf_125 : Agr g_77 g_111 (48 * ((Mv 5) : Int32).toInt) := Agr.up eg_111 hr_124
      have hr_126 : 48 * (Mv 5).toInt.toNat + 4 * List.length Rs ≤ (x_106 : Int32).toNatClampNeg := by
        have z_1 : ¬ (r_42 : Int32).toInt = (0 : Int32).toInt := fun z => c_51 (Int32.toInt_inj.mp z)
        have z_2 := congrArg Int32.toInt c_103
        have y_0 : (0 : Int32).toInt = 0 := by decide
        have y_3 : (3 : Int32).toInt = 3 := by decide
        have y_4 : (4 : Int32).toInt = 4 := by decide
        have y_48 : (48 : Int32).toInt = 48 := by decide
        have t_x_8 : x_8.toInt = (48 : Int32).toInt * ((Mv 5) : Int32).toInt := by rw [ex_8]; exact mul_toInt (by first | omega | (rw [y_48]; omega)) (by first | omega | (rw [y_48]; omega))
        rw [y_48] at t_x_8
        have t_x_11 : x_11.toInt = (4 : Int32).toInt * (x_10 : Int32).toInt := by rw [ex_11]; exact mul_toInt (by first | omega | (rw [y_4]; omega)) (by first | omega | (rw [y_4]; omega))
        rw [y_4] at t_x_11
        have t_x_12 : x_12.toInt = (x_8 : Int32).toInt + (x_11 : Int32).toInt := by rw [ex_12]; exact add_toInt (by omega) (by omega)
        have t_x_106 : x_106.toInt = (x_12 : Int32).toInt + (3 : Int32).toInt := by rw [ex_106]; exact add_toInt (by omega) (by omega)
        have hcl : (x_106 : Int32).toNatClampNeg = (x_106 : Int32).toInt.toNat := rfl
        have hrw1 := h_rw.1
        omega
      have pf_127 : RwL g_111 (Mf 5) (Mv 5) ll Rs := RwL.cl pf_91 eg_111 hr_126
      refine lv_aload_n hx hb dX12_isBuyHere_127 rfl (lv_at hl 1 rfl) ?_
      refine gf_X12_23 hx hb hts hown hK hP 5 rfl rfl dX12_isBuyHere_128 ?_
      refine lv_aload_n hx hb dX12_isBuyHere_131 rfl (lv_at hl 1 rfl) ?_
      refine gf_X12_145 hx hb hts hown hK hP 5 rfl rfl dX12_isBuyHere_132 ?_
      refine lv_dup2_11 hx hb dX12_isBuyHere_135 rfl rfl ?_
      have hi_128 : vp_in (Mv 5) 6 := by
        have z_1 : ¬ (r_42 : Int32).toInt = (0 : Int32).toInt := fun z => c_51 (Int32.toInt_inj.mp z)
        have z_2 := congrArg Int32.toInt c_103
        have y_0 : (0 : Int32).toInt = 0 := by decide
        refine vp_in_iff.mpr ⟨?_, ?_⟩ <;> omega
      refine va_iald hx hb hK hP 1 0 rfl rfl hi_128 dX12_isBuyHere_136 ?_
      refine lv_topi (fun x_129 ex_129 => ?_)
      have kx_129 : x_129.toInt = ((Mf 5) ((Mv 5) : Int32).toInt.toNat).toInt := congrArg Int32.toInt ex_129
      refine lv_iconst (v := 1) hx hb dX12_isBuyHere_137 (by decide) ?_
      refine lv_iadd hx hb dX12_isBuyHere_138 ?_
      refine lv_topi (fun x_130 ex_130 => ?_)
      have hi_131 : vp_in (Mv 5) 6 := by
        have z_1 : ¬ (r_42 : Int32).toInt = (0 : Int32).toInt := fun z => c_51 (Int32.toInt_inj.mp z)
        have z_2 := congrArg Int32.toInt c_103
        have y_0 : (0 : Int32).toInt = 0 := by decide
        refine vp_in_iff.mpr ⟨?_, ?_⟩ <;> omega
      refine st_int hx hb hK hP hD hS 1 0 rfl rfl hi_131 dX12_isBuyHere_139 (fun g_132 H locs eg_132 hP₀ hD₀ hS₀ => ?_)
      replace hP : va_P D classes [((Ma 4), .inl (tc 0, 288, .inl g_111)), ((Ma 5), .inl (tc 0, 6, .inl g_132)), ((Ma 7), .inl (tc 0, 400, .inl (Mf 7))), ((Ma 2), .inl (tc 0, 2400, .inl sv_37)), ((Ma 3), .inl (tc 0, 7, .inl sv_38)), ((Ma 0), .inr (12, [.ref (Ma 1), .int (Mv 0), .int (Mv 1), .ref (Ma 2), .ref (Ma 3), .ref (Ma 4), .ref (Ma 5), .ref (Ma 6), .int sv_96, .int sv_34, .int sv_35, .int (Mv 5), .int sv_36, .int (Mv 7), .int (Mv 8), .ref (Ma 7), .int (Mv 9), .ref (Ma 8), .int (Mv 10), .ref (Ma 9), .ref (Ma 10), .int (Mv 11), .int (Mv 12), .int (Mv 13), .ref (Ma 11), .int (Mv 14), .ref (Ma 12), .ref (Ma 13), .ref (Ma 14), .ref (Ma 15), .ref (Ma 16), .long (Mj 0), .ref (Ma 17), .ref (Ma 18), .ref (Ma 19), .ref (Ma 20)])), ((Ma 1), .inl (tc 2, 400, .inl (Mf 1)))] H := hP₀
      replace hD : va_D A [((Ma 4), .inl (tc 0, 288, .inl g_111)), ((Ma 5), .inl (tc 0, 6, .inl g_132)), ((Ma 7), .inl (tc 0, 400, .inl (Mf 7))), ((Ma 2), .inl (tc 0, 2400, .inl sv_37)), ((Ma 3), .inl (tc 0, 7, .inl sv_38)), ((Ma 0), .inr (12, [.ref (Ma 1), .int (Mv 0), .int (Mv 1), .ref (Ma 2), .ref (Ma 3), .ref (Ma 4), .ref (Ma 5), .ref (Ma 6), .int sv_96, .int sv_34, .int sv_35, .int (Mv 5), .int sv_36, .int (Mv 7), .int (Mv 8), .ref (Ma 7), .int (Mv 9), .ref (Ma 8), .int (Mv 10), .ref (Ma 9), .ref (Ma 10), .int (Mv 11), .int (Mv 12), .int (Mv 13), .ref (Ma 11), .int (Mv 14), .ref (Ma 12), .ref (Ma 13), .ref (Ma 14), .ref (Ma 15), .ref (Ma 16), .long (Mj 0), .ref (Ma 17), .ref (Ma 18), .ref (Ma 19), .ref (Ma 20)])), ((Ma 1), .inl (tc 2, 400, .inl (Mf 1)))] := hD₀
      replace hS := hS₀
      clear hP₀ hD₀ hS₀
      have hr_133 : (((Mf 3) (Mv 5).toNatClampNeg).toInt) ≤ ((sv_38 (Mv 5).toNatClampNeg).toInt) := by
        have z_1 : ¬ (r_42 : Int32).toInt = (0 : Int32).toInt := fun z => c_51 (Int32.toInt_inj.mp z)
        have z_2 := congrArg Int32.toInt c_103
        have y_0 : (0 : Int32).toInt = 0 := by decide
        omega
      have hy_134 : (x_130 : Int32).toInt = ((Mf 5) (Mv 5).toInt.toNat).toInt + 1 := by
        have z_1 : ¬ (r_42 : Int32).toInt = (0 : Int32).toInt := fun z => c_51 (Int32.toInt_inj.mp z)
        have z_2 := congrArg Int32.toInt c_103
        have y_0 : (0 : Int32).toInt = 0 := by decide
        have y_1 : (1 : Int32).toInt = 1 := by decide
        have t_x_130 : x_130.toInt = (x_129 : Int32).toInt + (1 : Int32).toInt := by rw [ex_130]; exact add_toInt (by omega) (by omega)
        omega
      have hw_135 : WFc sv_37 (Mv 5) (g_111 A0) (g_111 (A0 + 1)) := by
        have z0 : g_111 A0 = x_14 := pf_115
        have z1 : g_111 (A0 + 1) = x_59 := pf_119
        rw [z0, z1]
        exact pf_60
      have hb_136 : (g_111 (A0 + 1)).toInt ≤ ((sv_38 (Mv 5).toNatClampNeg).toInt) := by
        have z1 : g_111 (A0 + 1) = x_59 := pf_119
        rw [z1]
        have z_1 : ¬ (r_42 : Int32).toInt = (0 : Int32).toInt := fun z => c_51 (Int32.toInt_inj.mp z)
        have z_2 := congrArg Int32.toInt c_103
        have y_0 : (0 : Int32).toInt = 0 := by decide
        omega
      have hw_137 : 0 ≤ (g_111 (A0 + 2)).toInt → WFc sv_37 (Mv 5) (g_111 (A0 + 2)) (g_111 (A0 + 3)) ∧ (g_111 (A0 + 3)).toInt ≤ ((sv_38 (Mv 5).toNatClampNeg).toInt) := by
        have z2 : g_111 (A0 + 2) = (-1) := pf_121
        have z3 : g_111 (A0 + 3) = x_108 := pf_123
        rw [z2, z3]
        intro hz
        exact absurd hz (by decide)
      have pf_138 : RulP sv_37 g_111 g_132 (Mv 5) ((sv_38 (Mv 5).toNatClampNeg).toInt) := by
        subst hA0
        exact RulP.snoc (RulP.mono pf_117 hr_133) h_t.1 eg_132 hy_134 hw_135 hb_136 hw_137
      have ar_pf_138 := pf_138.2.1
      have kc_g_132 : (g_132 (Mv 5).toInt.toNat).toInt = (x_130 : Int32).toInt := upd_toInt_at eg_132
      have hr_139 : ((Mv 5) : Int32).toInt ≤ ((((Mv 5) : Int32).toNatClampNeg : Nat) : Int) := by
        have z_1 : ¬ (r_42 : Int32).toInt = (0 : Int32).toInt := fun z => c_51 (Int32.toInt_inj.mp z)
        have z_2 := congrArg Int32.toInt c_103
        have y_0 : (0 : Int32).toInt = 0 := by decide
        have hcl : ((Mv 5) : Int32).toNatClampNeg = ((Mv 5) : Int32).toInt.toNat := rfl
        omega
      have pf_140 : Agr (Mf 5) g_132 ((Mv 5) : Int32).toInt := Agr.up eg_132 hr_139
      have hA_141 : A0 = 48 * (Mv 5).toInt.toNat + 4 * List.length Rs := by
        have hrw1 := h_rw.1
        omega
      have hc_142 : g_111 (A0) = x_14 := pf_115
      have hc_143 : g_111 (A0 + 1) = x_59 := pf_119
      have hc_144 : g_111 (A0 + 2) = (-1) := pf_121
      have hc_145 : g_111 (A0 + 3) = x_108 := pf_123
      have hl_146 : (x_14 : Int32).toInt = ((List.length (ll) : Nat) : Int) := by
        have hq := (h_sg).1
        omega
      have hl_147 : (x_59 : Int32).toInt = ((List.length (ll) : Nat) : Int) + ((List.length (lsum (rB (Mf 1) (Mv 0)) (St0 (rB (Mf 1) (Mv 0)) sv_4 (Mv 6))) : Nat) : Int) := by
        have hq := (pf_54).1
        rw [elo_56, List.length_append] at hq
        omega
      have hy_148 : (x_130 : Int32).toInt = ((Mf 5) (Mv 5).toInt.toNat).toInt + 1 := by
        have z_1 : ¬ (r_42 : Int32).toInt = (0 : Int32).toInt := fun z => c_51 (Int32.toInt_inj.mp z)
        have z_2 := congrArg Int32.toInt c_103
        have y_0 : (0 : Int32).toInt = 0 := by decide
        have y_1 : (1 : Int32).toInt = 1 := by decide
        have t_x_130 : x_130.toInt = (x_129 : Int32).toInt + (1 : Int32).toInt := by rw [ex_130]; exact add_toInt (by omega) (by omega)
        omega
      have hu_150 : SgC sv_37 sv_38 (Mv 5) (ll ++ lsum (rB (Mf 1) (Mv 0)) (St0 (rB (Mf 1) (Mv 0)) sv_4 (Mv 6))) := by
        rw [← elo_56]
        exact pf_54
      have pf_149 : RwK sv_37 sv_38 g_111 g_132 (Mv 5) (Rs ++ [ru_cl (rB (Mf 1) (Mv 0)) (St0 (rB (Mf 1) (Mv 0)) (Mv 2) (Mv 6))]) := by
        rw [cl_none (by decide) h_nx.1 h_bw pf_7 pf_53 pf_104]
        exact ⟨_, hu_150, RwL.snoc pf_127 eg_132 hy_148 (RoL.none hA_141 hc_142 hc_143 hc_144 hl_146 hl_147 (by decide))⟩
      refine lv_iconst (v := 1) hx hb dX12_isBuyHere_140 (by decide) ?_
      have ha_151 : ((Mv 2) : Int32).toInt ≤ (sv_96 : Int32).toInt ∧ (sv_96 : Int32).toInt ≤ ((Mv 0) : Int32).toInt := by
        have z_1 : ¬ (r_42 : Int32).toInt = (0 : Int32).toInt := fun z => c_51 (Int32.toInt_inj.mp z)
        have z_2 := congrArg Int32.toInt c_103
        have y_0 : (0 : Int32).toInt = 0 := by decide
        omega
      have hr_152 : (400 * ((Mv 5) : Int32).toInt) ≤ (400 * ((Mv 5) : Int32).toInt + ((Mf 3) (Mv 5).toNatClampNeg).toInt) := by
        have z_1 : ¬ (r_42 : Int32).toInt = (0 : Int32).toInt := fun z => c_51 (Int32.toInt_inj.mp z)
        have z_2 := congrArg Int32.toInt c_103
        have y_0 : (0 : Int32).toInt = 0 := by decide
        omega
      have hr_153 : (48 * ((Mv 5) : Int32).toInt) ≤ (48 * ((Mv 5) : Int32).toInt) := by
        have z_1 : ¬ (r_42 : Int32).toInt = (0 : Int32).toInt := fun z => c_51 (Int32.toInt_inj.mp z)
        have z_2 := congrArg Int32.toInt c_103
        have y_0 : (0 : Int32).toInt = 0 := by decide
        omega
      have hr_154 : (48 * ((Mv 5) : Int32).toInt) ≤ (48 * ((Mv 5) : Int32).toInt) := by
        have z_1 : ¬ (r_42 : Int32).toInt = (0 : Int32).toInt := fun z => c_51 (Int32.toInt_inj.mp z)
        have z_2 := congrArg Int32.toInt c_103
        have y_0 : (0 : Int32).toInt = 0 := by decide
        omega
      have hr_155 : (48 * ((Mv 5) : Int32).toInt) ≤ (48 * ((Mv 5) : Int32).toInt) := by
        have z_1 : ¬ (r_42 : Int32).toInt = (0 : Int32).toInt := fun z => c_51 (Int32.toInt_inj.mp z)
        have z_2 := congrArg Int32.toInt c_103
        have y_0 : (0 : Int32).toInt = 0 := by decide
        omega
      have hr_156 : (48 * ((Mv 5) : Int32).toInt) ≤ (48 * ((Mv 5) : Int32).toInt) := by
        have z_1 : ¬ (r_42 : Int32).toInt = (0 : Int32).toInt := fun z => c_51 (Int32.toInt_inj.mp z)
        have z_2 := congrArg Int32.toInt c_103
        have y_0 : (0 : Int32).toInt = 0 := by decide
        omega
      have hp_157 : (((1 : Int32).toInt = 0 ∧ ¬ (sv_34 : Int32).toInt = 0) ∨ ((1 : Int32).toInt = 1 ∧ 0 ≤ (sv_38 (Mv 5).toNatClampNeg).toInt ∧ (sv_38 (Mv 5).toNatClampNeg).toInt ≤ (sv_96 : Int32).toInt ∧ (g_132 (Mv 5).toInt.toNat).toInt = ((Mf 5) (Mv 5).toInt.toNat).toInt + 1 ∧ (sv_34 : Int32).toInt = 0)) := by
        have z_1 : ¬ (r_42 : Int32).toInt = (0 : Int32).toInt := fun z => c_51 (Int32.toInt_inj.mp z)
        have z_2 := congrArg Int32.toInt c_103
        have y_0 : (0 : Int32).toInt = 0 := by decide
        have y_1 : (1 : Int32).toInt = 1 := by decide
        have yr : (1 : Int32).toInt = 1 := by decide
        omega
      have hm_158 : (1 : Int32).toInt = 1 → (RulP sv_37 g_111 g_132 (Mv 5) ((sv_38 (Mv 5).toNatClampNeg).toInt)) ∧ (RfO (BuR (rB (Mf 1) (Mv 0)) (Mv 2) (Mv 6)) (rB (Mf 1) (Mv 0)) sv_34 sv_96 sv_36) ∧ (RwK sv_37 sv_38 g_111 g_132 (Mv 5) (Rs ++ [ru_cl (rB (Mf 1) (Mv 0)) (St0 (rB (Mf 1) (Mv 0)) (Mv 2) (Mv 6))])) := by
        intro h1r
        have hr_159 : 0 ≤ (sv_36 : Int32).toInt := by
          have z_1 : ¬ (r_42 : Int32).toInt = (0 : Int32).toInt := fun z => c_51 (Int32.toInt_inj.mp z)
          have z_2 := congrArg Int32.toInt c_103
          have y_0 : (0 : Int32).toInt = 0 := by decide
          omega
        exact ⟨pf_138, (BuR.no (by decide) h_nx.1 h_bw pf_7 pf_53 pf_104 hr_159), pf_149⟩
      exact retI (v := 1) hx hb hr hlk (rfl) hP hD hS (sv_96, sv_34, sv_35, sv_36, (Mv 7), (Mv 9), sv_37, sv_38, g_111, g_132, (Mf 7)) ⟨_, rfl, hp_157, ha_151, pf_40, pf_138.1, (Agr.mono pf_41 hr_152), (Agr.trans (k' := (48 * ((Mv 5) : Int32).toInt)) (Agr.trans (k' := (48 * ((Mv 5) : Int32).toInt)) (Agr.trans (k' := (48 * ((Mv 5) : Int32).toInt)) (Agr.mono pf_25 hr_153) pf_72 ⟨Int.le_refl _, hr_154⟩) pf_89 ⟨Int.le_refl _, hr_155⟩) pf_125 ⟨Int.le_refl _, hr_156⟩), pf_140, hm_158, (fun h => absurd h (by decide))⟩ [5, 6, 3, 4, 0, 1, 2] rfl rfl dX12_isBuyHere_141 (Nat.le_of_ble_eq_true rfl) (Nat.le_of_ble_eq_true rfl) rfl
    · skip
      have hz_161 : (r_98 : Int32).toInt = 1 := by
        have z_1 : ¬ (r_42 : Int32).toInt = (0 : Int32).toInt := fun z => c_51 (Int32.toInt_inj.mp z)
        have z_2 : ¬ (r_98 : Int32).toInt = (0 : Int32).toInt := fun z => c_103 (Int32.toInt_inj.mp z)
        have y_0 : (0 : Int32).toInt = 0 := by decide
        omega
      obtain pf_160 := hm_101 hz_161
      have pf_160 : TkW (rB (Mf 1) (Mv 0)) (26982 : Int64).toInt sv_33 sv_96 := pf_160
      refine lv_aload_n hx hb dX12_isBuyHere_84 rfl (lv_at hl 1 rfl) ?_
      refine gf_X12_20 hx hb hts hown hK hP 5 rfl rfl dX12_isBuyHere_85 ?_
      refine lv_iload_n hx hb dX12_isBuyHere_88 rfl (lv_at hl 0 rfl) ?_
      refine lv_iconst (v := 2) hx hb dX12_isBuyHere_89 (by decide) ?_
      refine lv_iadd hx hb dX12_isBuyHere_90 ?_
      refine lv_topi (fun x_162 ex_162 => ?_)
      refine lv_aload_n hx hb dX12_isBuyHere_91 rfl (lv_at hl 1 rfl) ?_
      refine gf_X12_17 hx hb hts hown hK hP 5 rfl rfl dX12_isBuyHere_92 ?_
      refine lv_aload_n hx hb dX12_isBuyHere_95 rfl (lv_at hl 1 rfl) ?_
      refine gf_X12_145 hx hb hts hown hK hP 5 rfl rfl dX12_isBuyHere_96 ?_
      have hi_163 : vp_in (Mv 5) 7 := by
        have z_1 : ¬ (r_42 : Int32).toInt = (0 : Int32).toInt := fun z => c_51 (Int32.toInt_inj.mp z)
        have z_2 : ¬ (r_98 : Int32).toInt = (0 : Int32).toInt := fun z => c_103 (Int32.toInt_inj.mp z)
        have y_0 : (0 : Int32).toInt = 0 := by decide
        refine vp_in_iff.mpr ⟨?_, ?_⟩ <;> omega
      refine va_iald hx hb hK hP 4 0 rfl rfl hi_163 dX12_isBuyHere_99 ?_
      refine lv_topi (fun x_164 ex_164 => ?_)
      have kx_164 : x_164.toInt = (sv_38 ((Mv 5) : Int32).toNatClampNeg).toInt := congrArg Int32.toInt ex_164
      have pf_165 : WFc sv_37 (Mv 5) x_14 x_164 := Cd.wf pf_52 ex_164
      have ar_pf_165 := WFc.ar pf_165
      have hi_166 : vp_in x_162 288 := by
        have z_1 : ¬ (r_42 : Int32).toInt = (0 : Int32).toInt := fun z => c_51 (Int32.toInt_inj.mp z)
        have z_2 : ¬ (r_98 : Int32).toInt = (0 : Int32).toInt := fun z => c_103 (Int32.toInt_inj.mp z)
        have y_0 : (0 : Int32).toInt = 0 := by decide
        have y_2 : (2 : Int32).toInt = 2 := by decide
        have y_4 : (4 : Int32).toInt = 4 := by decide
        have y_48 : (48 : Int32).toInt = 48 := by decide
        have t_x_8 : x_8.toInt = (48 : Int32).toInt * ((Mv 5) : Int32).toInt := by rw [ex_8]; exact mul_toInt (by first | omega | (rw [y_48]; omega)) (by first | omega | (rw [y_48]; omega))
        rw [y_48] at t_x_8
        have t_x_11 : x_11.toInt = (4 : Int32).toInt * (x_10 : Int32).toInt := by rw [ex_11]; exact mul_toInt (by first | omega | (rw [y_4]; omega)) (by first | omega | (rw [y_4]; omega))
        rw [y_4] at t_x_11
        have t_x_12 : x_12.toInt = (x_8 : Int32).toInt + (x_11 : Int32).toInt := by rw [ex_12]; exact add_toInt (by omega) (by omega)
        have t_x_162 : x_162.toInt = (x_12 : Int32).toInt + (2 : Int32).toInt := by rw [ex_162]; exact add_toInt (by omega) (by omega)
        refine vp_in_iff.mpr ⟨?_, ?_⟩ <;> omega
      refine st_int hx hb hK hP hD hS 0 0 rfl rfl hi_166 dX12_isBuyHere_100 (fun g_167 H locs eg_167 hP₀ hD₀ hS₀ => ?_)
      replace hP : va_P D classes [((Ma 4), .inl (tc 0, 288, .inl g_167)), ((Ma 5), .inl (tc 0, 6, .inl (Mf 5))), ((Ma 7), .inl (tc 0, 400, .inl (Mf 7))), ((Ma 2), .inl (tc 0, 2400, .inl sv_37)), ((Ma 3), .inl (tc 0, 7, .inl sv_38)), ((Ma 0), .inr (12, [.ref (Ma 1), .int (Mv 0), .int (Mv 1), .ref (Ma 2), .ref (Ma 3), .ref (Ma 4), .ref (Ma 5), .ref (Ma 6), .int sv_96, .int sv_34, .int sv_35, .int (Mv 5), .int sv_36, .int (Mv 7), .int (Mv 8), .ref (Ma 7), .int (Mv 9), .ref (Ma 8), .int (Mv 10), .ref (Ma 9), .ref (Ma 10), .int (Mv 11), .int (Mv 12), .int (Mv 13), .ref (Ma 11), .int (Mv 14), .ref (Ma 12), .ref (Ma 13), .ref (Ma 14), .ref (Ma 15), .ref (Ma 16), .long (Mj 0), .ref (Ma 17), .ref (Ma 18), .ref (Ma 19), .ref (Ma 20)])), ((Ma 1), .inl (tc 2, 400, .inl (Mf 1)))] H := hP₀
      replace hD : va_D A [((Ma 4), .inl (tc 0, 288, .inl g_167)), ((Ma 5), .inl (tc 0, 6, .inl (Mf 5))), ((Ma 7), .inl (tc 0, 400, .inl (Mf 7))), ((Ma 2), .inl (tc 0, 2400, .inl sv_37)), ((Ma 3), .inl (tc 0, 7, .inl sv_38)), ((Ma 0), .inr (12, [.ref (Ma 1), .int (Mv 0), .int (Mv 1), .ref (Ma 2), .ref (Ma 3), .ref (Ma 4), .ref (Ma 5), .ref (Ma 6), .int sv_96, .int sv_34, .int sv_35, .int (Mv 5), .int sv_36, .int (Mv 7), .int (Mv 8), .ref (Ma 7), .int (Mv 9), .ref (Ma 8), .int (Mv 10), .ref (Ma 9), .ref (Ma 10), .int (Mv 11), .int (Mv 12), .int (Mv 13), .ref (Ma 11), .int (Mv 14), .ref (Ma 12), .ref (Ma 13), .ref (Ma 14), .ref (Ma 15), .ref (Ma 16), .long (Mj 0), .ref (Ma 17), .ref (Ma 18), .ref (Ma 19), .ref (Ma 20)])), ((Ma 1), .inl (tc 2, 400, .inl (Mf 1)))] := hD₀
      replace hS := hS₀
      clear hP₀ hD₀ hS₀
      have hi_168 : (x_162 : Int32).toInt = (A0 : Int) + (2 : Nat) := by
        have z_1 : ¬ (r_42 : Int32).toInt = (0 : Int32).toInt := fun z => c_51 (Int32.toInt_inj.mp z)
        have z_2 : ¬ (r_98 : Int32).toInt = (0 : Int32).toInt := fun z => c_103 (Int32.toInt_inj.mp z)
        have y_0 : (0 : Int32).toInt = 0 := by decide
        have y_2 : (2 : Int32).toInt = 2 := by decide
        have y_4 : (4 : Int32).toInt = 4 := by decide
        have y_48 : (48 : Int32).toInt = 48 := by decide
        have t_x_8 : x_8.toInt = (48 : Int32).toInt * ((Mv 5) : Int32).toInt := by rw [ex_8]; exact mul_toInt (by first | omega | (rw [y_48]; omega)) (by first | omega | (rw [y_48]; omega))
        rw [y_48] at t_x_8
        have t_x_11 : x_11.toInt = (4 : Int32).toInt * (x_10 : Int32).toInt := by rw [ex_11]; exact mul_toInt (by first | omega | (rw [y_4]; omega)) (by first | omega | (rw [y_4]; omega))
        rw [y_4] at t_x_11
        have t_x_12 : x_12.toInt = (x_8 : Int32).toInt + (x_11 : Int32).toInt := by rw [ex_12]; exact add_toInt (by omega) (by omega)
        have t_x_162 : x_162.toInt = (x_12 : Int32).toInt + (2 : Int32).toInt := by rw [ex_162]; exact add_toInt (by omega) (by omega)
        omega
      have hr_170 : 48 * (Mv 5).toInt + 4 * ((Mf 5) (Mv 5).toInt.toNat).toInt ≤ (((x_162 : Int32).toNatClampNeg : Nat) : Int) := by
        have z_1 : ¬ (r_42 : Int32).toInt = (0 : Int32).toInt := fun z => c_51 (Int32.toInt_inj.mp z)
        have z_2 : ¬ (r_98 : Int32).toInt = (0 : Int32).toInt := fun z => c_103 (Int32.toInt_inj.mp z)
        have y_0 : (0 : Int32).toInt = 0 := by decide
        have y_2 : (2 : Int32).toInt = 2 := by decide
        have y_4 : (4 : Int32).toInt = 4 := by decide
        have y_48 : (48 : Int32).toInt = 48 := by decide
        have t_x_8 : x_8.toInt = (48 : Int32).toInt * ((Mv 5) : Int32).toInt := by rw [ex_8]; exact mul_toInt (by first | omega | (rw [y_48]; omega)) (by first | omega | (rw [y_48]; omega))
        rw [y_48] at t_x_8
        have t_x_11 : x_11.toInt = (4 : Int32).toInt * (x_10 : Int32).toInt := by rw [ex_11]; exact mul_toInt (by first | omega | (rw [y_4]; omega)) (by first | omega | (rw [y_4]; omega))
        rw [y_4] at t_x_11
        have t_x_12 : x_12.toInt = (x_8 : Int32).toInt + (x_11 : Int32).toInt := by rw [ex_12]; exact add_toInt (by omega) (by omega)
        have t_x_162 : x_162.toInt = (x_12 : Int32).toInt + (2 : Int32).toInt := by rw [ex_162]; exact add_toInt (by omega) (by omega)
        have hcl : (x_162 : Int32).toNatClampNeg = (x_162 : Int32).toInt.toNat := rfl
        omega
      have pf_169 : RulP (Mf 2) g_167 (Mf 5) (Mv 5) (((Mf 3) (Mv 5).toNatClampNeg).toInt) := RulP.cl pf_79 eg_167 h_t.1 hr_170
      have ar_pf_169 := pf_169.2.1
      have hr_172 : ¬ (x_162 : Int32).toInt = (A0 : Int) + (0 : Nat) := by omega
      have pf_171 : ClV g_167 A0 0 x_14 := ClV.keep pf_81 eg_167 hr_172 (by omega)
      have hr_174 : 48 * (Mv 5).toInt + 4 * ((Mf 5) (Mv 5).toInt.toNat).toInt ≤ (((x_162 : Int32).toNatClampNeg : Nat) : Int) := by
        have z_1 : ¬ (r_42 : Int32).toInt = (0 : Int32).toInt := fun z => c_51 (Int32.toInt_inj.mp z)
        have z_2 : ¬ (r_98 : Int32).toInt = (0 : Int32).toInt := fun z => c_103 (Int32.toInt_inj.mp z)
        have y_0 : (0 : Int32).toInt = 0 := by decide
        have y_2 : (2 : Int32).toInt = 2 := by decide
        have y_4 : (4 : Int32).toInt = 4 := by decide
        have y_48 : (48 : Int32).toInt = 48 := by decide
        have t_x_8 : x_8.toInt = (48 : Int32).toInt * ((Mv 5) : Int32).toInt := by rw [ex_8]; exact mul_toInt (by first | omega | (rw [y_48]; omega)) (by first | omega | (rw [y_48]; omega))
        rw [y_48] at t_x_8
        have t_x_11 : x_11.toInt = (4 : Int32).toInt * (x_10 : Int32).toInt := by rw [ex_11]; exact mul_toInt (by first | omega | (rw [y_4]; omega)) (by first | omega | (rw [y_4]; omega))
        rw [y_4] at t_x_11
        have t_x_12 : x_12.toInt = (x_8 : Int32).toInt + (x_11 : Int32).toInt := by rw [ex_12]; exact add_toInt (by omega) (by omega)
        have t_x_162 : x_162.toInt = (x_12 : Int32).toInt + (2 : Int32).toInt := by rw [ex_162]; exact add_toInt (by omega) (by omega)
        have hcl : (x_162 : Int32).toNatClampNeg = (x_162 : Int32).toInt.toNat := rfl
        omega
      have pf_173 : RulP sv_37 g_167 (Mf 5) (Mv 5) (((Mf 3) (Mv 5).toNatClampNeg).toInt) := RulP.cl pf_83 eg_167 h_t.1 hr_174
      have ar_pf_173 := pf_173.2.1
      have hr_176 : ¬ (x_162 : Int32).toInt = (A0 : Int) + (1 : Nat) := by omega
      have pf_175 : ClV g_167 A0 1 x_59 := ClV.keep pf_85 eg_167 hr_176 (by omega)
      have pf_177 : ClV g_167 A0 2 x_164 := ClV.put eg_167 hi_168
      have hr_179 : 0 ≤ (x_164 : Int32).toInt ∧ (x_164 : Int32).toInt ≤ 400 := by
        have z_1 : ¬ (r_42 : Int32).toInt = (0 : Int32).toInt := fun z => c_51 (Int32.toInt_inj.mp z)
        have z_2 : ¬ (r_98 : Int32).toInt = (0 : Int32).toInt := fun z => c_103 (Int32.toInt_inj.mp z)
        have y_0 : (0 : Int32).toInt = 0 := by decide
        omega
      have hr_180 : 0 ≤ (sv_36 : Int32).toInt ∧ (sv_36 : Int32).toInt ≤ 60 := by
        have z_1 : ¬ (r_42 : Int32).toInt = (0 : Int32).toInt := fun z => c_51 (Int32.toInt_inj.mp z)
        have z_2 : ¬ (r_98 : Int32).toInt = (0 : Int32).toInt := fun z => c_103 (Int32.toInt_inj.mp z)
        have y_0 : (0 : Int32).toInt = 0 := by decide
        omega
      have pf_178 : Cd sv_37 sv_38 (Mv 5) x_164 sv_36 0 := Cd.nil h_t ex_164 hr_179 hr_180
      have ar_pf_178 := Cd.ar pf_178
      have hr_181 : (48 * ((Mv 5) : Int32).toInt) ≤ (((x_162 : Int32).toNatClampNeg : Nat) : Int) := by
        have z_1 : ¬ (r_42 : Int32).toInt = (0 : Int32).toInt := fun z => c_51 (Int32.toInt_inj.mp z)
        have z_2 : ¬ (r_98 : Int32).toInt = (0 : Int32).toInt := fun z => c_103 (Int32.toInt_inj.mp z)
        have y_0 : (0 : Int32).toInt = 0 := by decide
        have y_2 : (2 : Int32).toInt = 2 := by decide
        have y_4 : (4 : Int32).toInt = 4 := by decide
        have y_48 : (48 : Int32).toInt = 48 := by decide
        have t_x_8 : x_8.toInt = (48 : Int32).toInt * ((Mv 5) : Int32).toInt := by rw [ex_8]; exact mul_toInt (by first | omega | (rw [y_48]; omega)) (by first | omega | (rw [y_48]; omega))
        rw [y_48] at t_x_8
        have t_x_11 : x_11.toInt = (4 : Int32).toInt * (x_10 : Int32).toInt := by rw [ex_11]; exact mul_toInt (by first | omega | (rw [y_4]; omega)) (by first | omega | (rw [y_4]; omega))
        rw [y_4] at t_x_11
        have t_x_12 : x_12.toInt = (x_8 : Int32).toInt + (x_11 : Int32).toInt := by rw [ex_12]; exact add_toInt (by omega) (by omega)
        have t_x_162 : x_162.toInt = (x_12 : Int32).toInt + (2 : Int32).toInt := by rw [ex_162]; exact add_toInt (by omega) (by omega)
        have hcl : (x_162 : Int32).toNatClampNeg = (x_162 : Int32).toInt.toNat := rfl
        omega
      have pf_182 : Agr g_77 g_167 (48 * ((Mv 5) : Int32).toInt) := Agr.up eg_167 hr_181
      have hr_183 : 48 * (Mv 5).toInt.toNat + 4 * List.length Rs ≤ (x_162 : Int32).toNatClampNeg := by
        have z_1 : ¬ (r_42 : Int32).toInt = (0 : Int32).toInt := fun z => c_51 (Int32.toInt_inj.mp z)
        have z_2 : ¬ (r_98 : Int32).toInt = (0 : Int32).toInt := fun z => c_103 (Int32.toInt_inj.mp z)
        have y_0 : (0 : Int32).toInt = 0 := by decide
        have y_2 : (2 : Int32).toInt = 2 := by decide
        have y_4 : (4 : Int32).toInt = 4 := by decide
        have y_48 : (48 : Int32).toInt = 48 := by decide
        have t_x_8 : x_8.toInt = (48 : Int32).toInt * ((Mv 5) : Int32).toInt := by rw [ex_8]; exact mul_toInt (by first | omega | (rw [y_48]; omega)) (by first | omega | (rw [y_48]; omega))
        rw [y_48] at t_x_8
        have t_x_11 : x_11.toInt = (4 : Int32).toInt * (x_10 : Int32).toInt := by rw [ex_11]; exact mul_toInt (by first | omega | (rw [y_4]; omega)) (by first | omega | (rw [y_4]; omega))
        rw [y_4] at t_x_11
        have t_x_12 : x_12.toInt = (x_8 : Int32).toInt + (x_11 : Int32).toInt := by rw [ex_12]; exact add_toInt (by omega) (by omega)
        have t_x_162 : x_162.toInt = (x_12 : Int32).toInt + (2 : Int32).toInt := by rw [ex_162]; exact add_toInt (by omega) (by omega)
        have hcl : (x_162 : Int32).toNatClampNeg = (x_162 : Int32).toInt.toNat := rfl
        have hrw1 := h_rw.1
        omega
      have pf_184 : RwL g_167 (Mf 5) (Mv 5) ll Rs := RwL.cl pf_91 eg_167 hr_183
      refine lv_aload_n hx hb dX12_isBuyHere_101 rfl (lv_at hl 1 rfl) ?_
      have ha_185 : 0 ≤ (sv_96 : Int32).toInt ∧ (sv_96 : Int32).toInt ≤ ((Mv 0) : Int32).toInt ∧ ((Mv 0) : Int32).toInt ≤ 400 := by
        have z_1 : ¬ (r_42 : Int32).toInt = (0 : Int32).toInt := fun z => c_51 (Int32.toInt_inj.mp z)
        have z_2 : ¬ (r_98 : Int32).toInt = (0 : Int32).toInt := fun z => c_103 (Int32.toInt_inj.mp z)
        have y_0 : (0 : Int32).toInt = 0 := by decide
        omega
      have ha_186 : (sv_38 (Mv 5).toNatClampNeg).toInt ≤ (sv_96 : Int32).toInt := by
        have z_1 : ¬ (r_42 : Int32).toInt = (0 : Int32).toInt := fun z => c_51 (Int32.toInt_inj.mp z)
        have z_2 : ¬ (r_98 : Int32).toInt = (0 : Int32).toInt := fun z => c_103 (Int32.toInt_inj.mp z)
        have y_0 : (0 : Int32).toInt = 0 := by decide
        omega
      have ha_187 : 0 ≤ (sv_36 : Int32).toInt ∧ (sv_36 : Int32).toInt ≤ 60 := by
        have z_1 : ¬ (r_42 : Int32).toInt = (0 : Int32).toInt := fun z => c_51 (Int32.toInt_inj.mp z)
        have z_2 : ¬ (r_98 : Int32).toInt = (0 : Int32).toInt := fun z => c_103 (Int32.toInt_inj.mp z)
        have y_0 : (0 : Int32).toInt = 0 := by decide
        omega
      have ha_188 : (sv_34 : Int32).toInt = 0 := by
        have z_1 : ¬ (r_42 : Int32).toInt = (0 : Int32).toInt := fun z => c_51 (Int32.toInt_inj.mp z)
        have z_2 : ¬ (r_98 : Int32).toInt = (0 : Int32).toInt := fun z => c_103 (Int32.toInt_inj.mp z)
        have y_0 : (0 : Int32).toInt = 0 := by decide
        omega
      have ha_189 : 0 ≤ (Mv 5).toInt := by
        have z_1 : ¬ (r_42 : Int32).toInt = (0 : Int32).toInt := fun z => c_51 (Int32.toInt_inj.mp z)
        have z_2 : ¬ (r_98 : Int32).toInt = (0 : Int32).toInt := fun z => c_103 (Int32.toInt_inj.mp z)
        have y_0 : (0 : Int32).toInt = 0 := by decide
        omega
      refine cV (a := (Ma 0)) (As := []) (rest := []) (wr := [((Ma 4), .inl (tc 0, 288, .inl g_167)), ((Ma 5), .inl (tc 0, 6, .inl (Mf 5)))]) ⟨hx, hb, hml, hown, hts⟩ hK hX hA (cu_kX12_tested l D tc sk (Ma 0) (Ma 1) (Ma 2) (Ma 3) (Ma 4) (Ma 5) (Ma 6) (Ma 7) (Ma 8) (Ma 9) (Ma 10) (Ma 11) (Ma 12) (Ma 13) (Ma 14) (Ma 15) (Ma 16) (Ma 17) (Ma 18) (Ma 19) (Ma 20) (Mv 0) (Mv 1) sv_96 sv_34 sv_35 (Mv 5) sv_36 (Mv 7) (Mv 8) (Mv 9) (Mv 10) (Mv 11) (Mv 12) (Mv 13) (Mv 14) (Mf 1) sv_37 sv_38 (Mf 7) (Mj 0) x_164 lo_56 ha_185 pf_178 ha_186 ha_187 h_bs ha_188 pf_54 ha_189) k_1321 k_1318 k_1320 k_49 k_106 pl_X12_tested ⟨Nat.le_of_ble_eq_true rfl, Nat.le_of_ble_eq_true rfl⟩ rfl rfl (va_recv hK hP (ci := 12) (q0 := 5) rfl rfl) hP hD hS [5, 6, 3, 4, 2] [0, 1] rfl rfl rfl rfl rfl (by decide) rfl hl.1 rfl (Nat.le_of_ble_eq_true rfl) dX12_isBuyHere_102 ⟨Nat.le_of_ble_eq_true rfl, Nat.le_of_ble_eq_true rfl⟩ (fun v_190 u_191 H locs hv_192 hP₀ hD₀ hS₀ => ?_)
      obtain ⟨sv_193, sv_194, sv_195, sv_196, sv_197, sv_198, sv_199, sv_200, sv_201⟩ := u_191
      obtain ⟨r_205, rfl, he_206, pf_202, pf_203, pf_204, hm_208, hm_209⟩ := hv_192
      have he_206 : ((r_205.toInt = 0 ∧ ¬ (sv_194 : Int32).toInt = 0) ∨ (r_205.toInt = 1 ∧ (sv_38 (Mv 5).toNatClampNeg).toInt ≤ (sv_200 (Mv 5).toNatClampNeg).toInt ∧ (sv_200 (Mv 5).toNatClampNeg).toInt ≤ (sv_193 : Int32).toInt)) := he_206
      have pf_202 : (sv_96 : Int32).toInt ≤ (sv_193 : Int32).toInt ∧ (sv_193 : Int32).toInt ≤ ((Mv 0) : Int32).toInt := pf_202
      have pf_203 : (sv_36 : Int32).toInt ≤ (sv_196 : Int32).toInt ∧ (sv_196 : Int32).toInt ≤ 60 := pf_203
      have pf_204 : Agr sv_37 sv_199 (400 * ((Mv 5) : Int32).toInt + (sv_38 (Mv 5).toNatClampNeg).toInt) := pf_204
      have hr_211 : 400 * ((Mv 5) : Int32).toInt + (((Mf 3) (Mv 5).toNatClampNeg).toInt) ≤ (400 * ((Mv 5) : Int32).toInt + (sv_38 (Mv 5).toNatClampNeg).toInt) ∧ 0 ≤ ((Mv 5) : Int32).toInt ∧ 0 ≤ (((Mf 3) (Mv 5).toNatClampNeg).toInt) := by
        have z_1 : ¬ (r_42 : Int32).toInt = (0 : Int32).toInt := fun z => c_51 (Int32.toInt_inj.mp z)
        have z_2 : ¬ (r_98 : Int32).toInt = (0 : Int32).toInt := fun z => c_103 (Int32.toInt_inj.mp z)
        have y_0 : (0 : Int32).toInt = 0 := by decide
        omega
      have pf_210 : RulP sv_199 (Mf 4) (Mf 5) (Mv 5) (((Mf 3) (Mv 5).toNatClampNeg).toInt) := RulP.agr pf_47 pf_204 hr_211.2.1 hr_211.1 hr_211.2.2
      have ar_pf_210 := pf_210.2.1
      have hr_213 : 400 * ((Mv 5) : Int32).toInt + (((Mf 3) (Mv 5).toNatClampNeg).toInt) ≤ (400 * ((Mv 5) : Int32).toInt + (sv_38 (Mv 5).toNatClampNeg).toInt) ∧ 0 ≤ ((Mv 5) : Int32).toInt ∧ 0 ≤ (((Mf 3) (Mv 5).toNatClampNeg).toInt) := by
        have z_1 : ¬ (r_42 : Int32).toInt = (0 : Int32).toInt := fun z => c_51 (Int32.toInt_inj.mp z)
        have z_2 : ¬ (r_98 : Int32).toInt = (0 : Int32).toInt := fun z => c_103 (Int32.toInt_inj.mp z)
        have y_0 : (0 : Int32).toInt = 0 := by decide
        omega
      have pf_212 : RulP sv_199 g_16 (Mf 5) (Mv 5) (((Mf 3) (Mv 5).toNatClampNeg).toInt) := RulP.agr pf_49 pf_204 hr_213.2.1 hr_213.1 hr_213.2.2
      have ar_pf_212 := pf_212.2.1
      have hr_215 : 400 * ((Mv 5) : Int32).toInt + (x_59 : Int32).toInt ≤ (400 * ((Mv 5) : Int32).toInt + (sv_38 (Mv 5).toNatClampNeg).toInt) ∧ 0 ≤ ((Mv 5) : Int32).toInt := by
        have z_1 : ¬ (r_42 : Int32).toInt = (0 : Int32).toInt := fun z => c_51 (Int32.toInt_inj.mp z)
        have z_2 : ¬ (r_98 : Int32).toInt = (0 : Int32).toInt := fun z => c_103 (Int32.toInt_inj.mp z)
        have y_0 : (0 : Int32).toInt = 0 := by decide
        omega
      have pf_214 : WFc sv_199 (Mv 5) x_14 x_59 := WFc.agr pf_60 pf_204 hr_215.2 hr_215.1
      have hr_217 : 400 * ((Mv 5) : Int32).toInt + (((Mf 3) (Mv 5).toNatClampNeg).toInt) ≤ (400 * ((Mv 5) : Int32).toInt + (sv_38 (Mv 5).toNatClampNeg).toInt) ∧ 0 ≤ ((Mv 5) : Int32).toInt ∧ 0 ≤ (((Mf 3) (Mv 5).toNatClampNeg).toInt) := by
        have z_1 : ¬ (r_42 : Int32).toInt = (0 : Int32).toInt := fun z => c_51 (Int32.toInt_inj.mp z)
        have z_2 : ¬ (r_98 : Int32).toInt = (0 : Int32).toInt := fun z => c_103 (Int32.toInt_inj.mp z)
        have y_0 : (0 : Int32).toInt = 0 := by decide
        omega
      have pf_216 : RulP sv_199 g_62 (Mf 5) (Mv 5) (((Mf 3) (Mv 5).toNatClampNeg).toInt) := RulP.agr pf_68 pf_204 hr_217.2.1 hr_217.1 hr_217.2.2
      have ar_pf_216 := pf_216.2.1
      have hr_219 : 400 * ((Mv 5) : Int32).toInt + (((Mf 3) (Mv 5).toNatClampNeg).toInt) ≤ (400 * ((Mv 5) : Int32).toInt + (sv_38 (Mv 5).toNatClampNeg).toInt) ∧ 0 ≤ ((Mv 5) : Int32).toInt ∧ 0 ≤ (((Mf 3) (Mv 5).toNatClampNeg).toInt) := by
        have z_1 : ¬ (r_42 : Int32).toInt = (0 : Int32).toInt := fun z => c_51 (Int32.toInt_inj.mp z)
        have z_2 : ¬ (r_98 : Int32).toInt = (0 : Int32).toInt := fun z => c_103 (Int32.toInt_inj.mp z)
        have y_0 : (0 : Int32).toInt = 0 := by decide
        omega
      have pf_218 : RulP sv_199 g_77 (Mf 5) (Mv 5) (((Mf 3) (Mv 5).toNatClampNeg).toInt) := RulP.agr pf_83 pf_204 hr_219.2.1 hr_219.1 hr_219.2.2
      have ar_pf_218 := pf_218.2.1
      have hr_221 : 400 * ((Mv 5) : Int32).toInt + (x_164 : Int32).toInt ≤ (400 * ((Mv 5) : Int32).toInt + (sv_38 (Mv 5).toNatClampNeg).toInt) ∧ 0 ≤ ((Mv 5) : Int32).toInt := by
        have z_1 : ¬ (r_42 : Int32).toInt = (0 : Int32).toInt := fun z => c_51 (Int32.toInt_inj.mp z)
        have z_2 : ¬ (r_98 : Int32).toInt = (0 : Int32).toInt := fun z => c_103 (Int32.toInt_inj.mp z)
        have y_0 : (0 : Int32).toInt = 0 := by decide
        omega
      have pf_220 : WFc sv_199 (Mv 5) x_14 x_164 := WFc.agr pf_165 pf_204 hr_221.2 hr_221.1
      have hr_223 : 400 * ((Mv 5) : Int32).toInt + (((Mf 3) (Mv 5).toNatClampNeg).toInt) ≤ (400 * ((Mv 5) : Int32).toInt + (sv_38 (Mv 5).toNatClampNeg).toInt) ∧ 0 ≤ ((Mv 5) : Int32).toInt ∧ 0 ≤ (((Mf 3) (Mv 5).toNatClampNeg).toInt) := by
        have z_1 : ¬ (r_42 : Int32).toInt = (0 : Int32).toInt := fun z => c_51 (Int32.toInt_inj.mp z)
        have z_2 : ¬ (r_98 : Int32).toInt = (0 : Int32).toInt := fun z => c_103 (Int32.toInt_inj.mp z)
        have y_0 : (0 : Int32).toInt = 0 := by decide
        omega
      have pf_222 : RulP sv_199 g_167 (Mf 5) (Mv 5) (((Mf 3) (Mv 5).toNatClampNeg).toInt) := RulP.agr pf_173 pf_204 hr_223.2.1 hr_223.1 hr_223.2.2
      have ar_pf_222 := pf_222.2.1
      refine W.eq (g2 := F0 m 105 ls [.int r_205]) rfl ?_
      replace hP : va_P D classes [((Ma 4), .inl (tc 0, 288, .inl g_167)), ((Ma 5), .inl (tc 0, 6, .inl (Mf 5))), ((Ma 0), .inr (12, [.ref (Ma 1), .int (Mv 0), .int (Mv 1), .ref (Ma 2), .ref (Ma 3), .ref (Ma 4), .ref (Ma 5), .ref (Ma 6), .int sv_193, .int sv_194, .int sv_195, .int (Mv 5), .int sv_196, .int sv_197, .int (Mv 8), .ref (Ma 7), .int sv_198, .ref (Ma 8), .int (Mv 10), .ref (Ma 9), .ref (Ma 10), .int (Mv 11), .int (Mv 12), .int (Mv 13), .ref (Ma 11), .int (Mv 14), .ref (Ma 12), .ref (Ma 13), .ref (Ma 14), .ref (Ma 15), .ref (Ma 16), .long (Mj 0), .ref (Ma 17), .ref (Ma 18), .ref (Ma 19), .ref (Ma 20)])), ((Ma 1), .inl (tc 2, 400, .inl (Mf 1))), ((Ma 2), .inl (tc 0, 2400, .inl sv_199)), ((Ma 3), .inl (tc 0, 7, .inl sv_200)), ((Ma 7), .inl (tc 0, 400, .inl sv_201))] H := hP₀
      replace hD : va_D A [((Ma 4), .inl (tc 0, 288, .inl g_167)), ((Ma 5), .inl (tc 0, 6, .inl (Mf 5))), ((Ma 0), .inr (12, [.ref (Ma 1), .int (Mv 0), .int (Mv 1), .ref (Ma 2), .ref (Ma 3), .ref (Ma 4), .ref (Ma 5), .ref (Ma 6), .int sv_193, .int sv_194, .int sv_195, .int (Mv 5), .int sv_196, .int sv_197, .int (Mv 8), .ref (Ma 7), .int sv_198, .ref (Ma 8), .int (Mv 10), .ref (Ma 9), .ref (Ma 10), .int (Mv 11), .int (Mv 12), .int (Mv 13), .ref (Ma 11), .int (Mv 14), .ref (Ma 12), .ref (Ma 13), .ref (Ma 14), .ref (Ma 15), .ref (Ma 16), .long (Mj 0), .ref (Ma 17), .ref (Ma 18), .ref (Ma 19), .ref (Ma 20)])), ((Ma 1), .inl (tc 2, 400, .inl (Mf 1))), ((Ma 2), .inl (tc 0, 2400, .inl sv_199)), ((Ma 3), .inl (tc 0, 7, .inl sv_200)), ((Ma 7), .inl (tc 0, 400, .inl sv_201))] := hD₀
      replace hS := hS₀
      clear hP₀ hD₀ hS₀
      refine lv_if_ne (tgt := 110) hx hb dX12_isBuyHere_105 (by decide) (fun c_224 => ?_) (fun c_224 => ?_)
      · skip
        have hz_228 : (r_205 : Int32).toInt = 1 := by
          have z_1 : ¬ (r_42 : Int32).toInt = (0 : Int32).toInt := fun z => c_51 (Int32.toInt_inj.mp z)
          have z_2 : ¬ (r_98 : Int32).toInt = (0 : Int32).toInt := fun z => c_103 (Int32.toInt_inj.mp z)
          have z_3 : ¬ (r_205 : Int32).toInt = (0 : Int32).toInt := fun z => c_224 (Int32.toInt_inj.mp z)
          have y_0 : (0 : Int32).toInt = 0 := by decide
          omega
        obtain ⟨pf_225, pf_226, pf_227⟩ := hm_208 hz_228
        have pf_225 : Cd sv_199 sv_200 (Mv 5) x_164 sv_196 1 := pf_225
        have ar_pf_225 := Cd.ar pf_225
        have pf_226 : RfO (pz_tst (rB (Mf 1) (Mv 0)) (pz_fact (rB (Mf 1) (Mv 0)) 10) (St0 (rB (Mf 1) (Mv 0)) sv_96 sv_36)) (rB (Mf 1) (Mv 0)) sv_194 sv_193 sv_196 := pf_226
        have ar_pf_226 := RfO.wr pf_226
        have pf_227 : SgC sv_199 sv_200 (Mv 5) (lo_56 ++ ltst (rB (Mf 1) (Mv 0)) 10 (St0 (rB (Mf 1) (Mv 0)) sv_96 sv_36)) := pf_227
        obtain ⟨lo_229, elo_229⟩ : ∃ z : List Int, z = (lo_56 ++ ltst (rB (Mf 1) (Mv 0)) 10 (St0 (rB (Mf 1) (Mv 0)) sv_96 sv_36)) := ⟨_, rfl⟩
        rw [← elo_229] at pf_227
        refine lv_aload_n hx hb dX12_isBuyHere_110 rfl (lv_at hl 1 rfl) ?_
        refine gf_X12_20 hx hb hts hown hK hP 2 rfl rfl dX12_isBuyHere_111 ?_
        refine lv_iload_n hx hb dX12_isBuyHere_114 rfl (lv_at hl 0 rfl) ?_
        refine lv_iconst (v := 3) hx hb dX12_isBuyHere_115 (by decide) ?_
        refine lv_iadd hx hb dX12_isBuyHere_116 ?_
        refine lv_topi (fun x_230 ex_230 => ?_)
        refine lv_aload_n hx hb dX12_isBuyHere_117 rfl (lv_at hl 1 rfl) ?_
        refine gf_X12_17 hx hb hts hown hK hP 2 rfl rfl dX12_isBuyHere_118 ?_
        refine lv_aload_n hx hb dX12_isBuyHere_121 rfl (lv_at hl 1 rfl) ?_
        refine gf_X12_145 hx hb hts hown hK hP 2 rfl rfl dX12_isBuyHere_122 ?_
        have hi_231 : vp_in (Mv 5) 7 := by
          have z_1 : ¬ (r_42 : Int32).toInt = (0 : Int32).toInt := fun z => c_51 (Int32.toInt_inj.mp z)
          have z_2 : ¬ (r_98 : Int32).toInt = (0 : Int32).toInt := fun z => c_103 (Int32.toInt_inj.mp z)
          have z_3 : ¬ (r_205 : Int32).toInt = (0 : Int32).toInt := fun z => c_224 (Int32.toInt_inj.mp z)
          have y_0 : (0 : Int32).toInt = 0 := by decide
          refine vp_in_iff.mpr ⟨?_, ?_⟩ <;> omega
        refine va_iald hx hb hK hP 5 0 rfl rfl hi_231 dX12_isBuyHere_125 ?_
        refine lv_topi (fun x_232 ex_232 => ?_)
        have kx_232 : x_232.toInt = (sv_200 ((Mv 5) : Int32).toNatClampNeg).toInt := congrArg Int32.toInt ex_232
        have pf_233 : WFc sv_199 (Mv 5) x_164 x_232 := Cd.wf pf_225 ex_232
        have ar_pf_233 := WFc.ar pf_233
        have hi_234 : vp_in x_230 288 := by
          have z_1 : ¬ (r_42 : Int32).toInt = (0 : Int32).toInt := fun z => c_51 (Int32.toInt_inj.mp z)
          have z_2 : ¬ (r_98 : Int32).toInt = (0 : Int32).toInt := fun z => c_103 (Int32.toInt_inj.mp z)
          have z_3 : ¬ (r_205 : Int32).toInt = (0 : Int32).toInt := fun z => c_224 (Int32.toInt_inj.mp z)
          have y_0 : (0 : Int32).toInt = 0 := by decide
          have y_3 : (3 : Int32).toInt = 3 := by decide
          have y_4 : (4 : Int32).toInt = 4 := by decide
          have y_48 : (48 : Int32).toInt = 48 := by decide
          have t_x_8 : x_8.toInt = (48 : Int32).toInt * ((Mv 5) : Int32).toInt := by rw [ex_8]; exact mul_toInt (by first | omega | (rw [y_48]; omega)) (by first | omega | (rw [y_48]; omega))
          rw [y_48] at t_x_8
          have t_x_11 : x_11.toInt = (4 : Int32).toInt * (x_10 : Int32).toInt := by rw [ex_11]; exact mul_toInt (by first | omega | (rw [y_4]; omega)) (by first | omega | (rw [y_4]; omega))
          rw [y_4] at t_x_11
          have t_x_12 : x_12.toInt = (x_8 : Int32).toInt + (x_11 : Int32).toInt := by rw [ex_12]; exact add_toInt (by omega) (by omega)
          have t_x_230 : x_230.toInt = (x_12 : Int32).toInt + (3 : Int32).toInt := by rw [ex_230]; exact add_toInt (by omega) (by omega)
          refine vp_in_iff.mpr ⟨?_, ?_⟩ <;> omega
        refine st_int hx hb hK hP hD hS 0 0 rfl rfl hi_234 dX12_isBuyHere_126 (fun g_235 H locs eg_235 hP₀ hD₀ hS₀ => ?_)
        replace hP : va_P D classes [((Ma 4), .inl (tc 0, 288, .inl g_235)), ((Ma 5), .inl (tc 0, 6, .inl (Mf 5))), ((Ma 0), .inr (12, [.ref (Ma 1), .int (Mv 0), .int (Mv 1), .ref (Ma 2), .ref (Ma 3), .ref (Ma 4), .ref (Ma 5), .ref (Ma 6), .int sv_193, .int sv_194, .int sv_195, .int (Mv 5), .int sv_196, .int sv_197, .int (Mv 8), .ref (Ma 7), .int sv_198, .ref (Ma 8), .int (Mv 10), .ref (Ma 9), .ref (Ma 10), .int (Mv 11), .int (Mv 12), .int (Mv 13), .ref (Ma 11), .int (Mv 14), .ref (Ma 12), .ref (Ma 13), .ref (Ma 14), .ref (Ma 15), .ref (Ma 16), .long (Mj 0), .ref (Ma 17), .ref (Ma 18), .ref (Ma 19), .ref (Ma 20)])), ((Ma 1), .inl (tc 2, 400, .inl (Mf 1))), ((Ma 2), .inl (tc 0, 2400, .inl sv_199)), ((Ma 3), .inl (tc 0, 7, .inl sv_200)), ((Ma 7), .inl (tc 0, 400, .inl sv_201))] H := hP₀
        replace hD : va_D A [((Ma 4), .inl (tc 0, 288, .inl g_235)), ((Ma 5), .inl (tc 0, 6, .inl (Mf 5))), ((Ma 0), .inr (12, [.ref (Ma 1), .int (Mv 0), .int (Mv 1), .ref (Ma 2), .ref (Ma 3), .ref (Ma 4), .ref (Ma 5), .ref (Ma 6), .int sv_193, .int sv_194, .int sv_195, .int (Mv 5), .int sv_196, .int sv_197, .int (Mv 8), .ref (Ma 7), .int sv_198, .ref (Ma 8), .int (Mv 10), .ref (Ma 9), .ref (Ma 10), .int (Mv 11), .int (Mv 12), .int (Mv 13), .ref (Ma 11), .int (Mv 14), .ref (Ma 12), .ref (Ma 13), .ref (Ma 14), .ref (Ma 15), .ref (Ma 16), .long (Mj 0), .ref (Ma 17), .ref (Ma 18), .ref (Ma 19), .ref (Ma 20)])), ((Ma 1), .inl (tc 2, 400, .inl (Mf 1))), ((Ma 2), .inl (tc 0, 2400, .inl sv_199)), ((Ma 3), .inl (tc 0, 7, .inl sv_200)), ((Ma 7), .inl (tc 0, 400, .inl sv_201))] := hD₀
        replace hS := hS₀
        clear hP₀ hD₀ hS₀
        have hi_236 : (x_230 : Int32).toInt = (A0 : Int) + (3 : Nat) := by
          have z_1 : ¬ (r_42 : Int32).toInt = (0 : Int32).toInt := fun z => c_51 (Int32.toInt_inj.mp z)
          have z_2 : ¬ (r_98 : Int32).toInt = (0 : Int32).toInt := fun z => c_103 (Int32.toInt_inj.mp z)
          have z_3 : ¬ (r_205 : Int32).toInt = (0 : Int32).toInt := fun z => c_224 (Int32.toInt_inj.mp z)
          have y_0 : (0 : Int32).toInt = 0 := by decide
          have y_3 : (3 : Int32).toInt = 3 := by decide
          have y_4 : (4 : Int32).toInt = 4 := by decide
          have y_48 : (48 : Int32).toInt = 48 := by decide
          have t_x_8 : x_8.toInt = (48 : Int32).toInt * ((Mv 5) : Int32).toInt := by rw [ex_8]; exact mul_toInt (by first | omega | (rw [y_48]; omega)) (by first | omega | (rw [y_48]; omega))
          rw [y_48] at t_x_8
          have t_x_11 : x_11.toInt = (4 : Int32).toInt * (x_10 : Int32).toInt := by rw [ex_11]; exact mul_toInt (by first | omega | (rw [y_4]; omega)) (by first | omega | (rw [y_4]; omega))
          rw [y_4] at t_x_11
          have t_x_12 : x_12.toInt = (x_8 : Int32).toInt + (x_11 : Int32).toInt := by rw [ex_12]; exact add_toInt (by omega) (by omega)
          have t_x_230 : x_230.toInt = (x_12 : Int32).toInt + (3 : Int32).toInt := by rw [ex_230]; exact add_toInt (by omega) (by omega)
          omega
        have hr_238 : 48 * (Mv 5).toInt + 4 * ((Mf 5) (Mv 5).toInt.toNat).toInt ≤ (((x_230 : Int32).toNatClampNeg : Nat) : Int) := by
          have z_1 : ¬ (r_42 : Int32).toInt = (0 : Int32).toInt := fun z => c_51 (Int32.toInt_inj.mp z)
          have z_2 : ¬ (r_98 : Int32).toInt = (0 : Int32).toInt := fun z => c_103 (Int32.toInt_inj.mp z)
          have z_3 : ¬ (r_205 : Int32).toInt = (0 : Int32).toInt := fun z => c_224 (Int32.toInt_inj.mp z)
          have y_0 : (0 : Int32).toInt = 0 := by decide
          have y_3 : (3 : Int32).toInt = 3 := by decide
          have y_4 : (4 : Int32).toInt = 4 := by decide
          have y_48 : (48 : Int32).toInt = 48 := by decide
          have t_x_8 : x_8.toInt = (48 : Int32).toInt * ((Mv 5) : Int32).toInt := by rw [ex_8]; exact mul_toInt (by first | omega | (rw [y_48]; omega)) (by first | omega | (rw [y_48]; omega))
          rw [y_48] at t_x_8
          have t_x_11 : x_11.toInt = (4 : Int32).toInt * (x_10 : Int32).toInt := by rw [ex_11]; exact mul_toInt (by first | omega | (rw [y_4]; omega)) (by first | omega | (rw [y_4]; omega))
          rw [y_4] at t_x_11
          have t_x_12 : x_12.toInt = (x_8 : Int32).toInt + (x_11 : Int32).toInt := by rw [ex_12]; exact add_toInt (by omega) (by omega)
          have t_x_230 : x_230.toInt = (x_12 : Int32).toInt + (3 : Int32).toInt := by rw [ex_230]; exact add_toInt (by omega) (by omega)
          have hcl : (x_230 : Int32).toNatClampNeg = (x_230 : Int32).toInt.toNat := rfl
          omega
        have pf_237 : RulP (Mf 2) g_235 (Mf 5) (Mv 5) (((Mf 3) (Mv 5).toNatClampNeg).toInt) := RulP.cl pf_169 eg_235 h_t.1 hr_238
        have ar_pf_237 := pf_237.2.1
        have hr_240 : ¬ (x_230 : Int32).toInt = (A0 : Int) + (0 : Nat) := by omega
        have pf_239 : ClV g_235 A0 0 x_14 := ClV.keep pf_171 eg_235 hr_240 (by omega)
        have hr_242 : 48 * (Mv 5).toInt + 4 * ((Mf 5) (Mv 5).toInt.toNat).toInt ≤ (((x_230 : Int32).toNatClampNeg : Nat) : Int) := by
          have z_1 : ¬ (r_42 : Int32).toInt = (0 : Int32).toInt := fun z => c_51 (Int32.toInt_inj.mp z)
          have z_2 : ¬ (r_98 : Int32).toInt = (0 : Int32).toInt := fun z => c_103 (Int32.toInt_inj.mp z)
          have z_3 : ¬ (r_205 : Int32).toInt = (0 : Int32).toInt := fun z => c_224 (Int32.toInt_inj.mp z)
          have y_0 : (0 : Int32).toInt = 0 := by decide
          have y_3 : (3 : Int32).toInt = 3 := by decide
          have y_4 : (4 : Int32).toInt = 4 := by decide
          have y_48 : (48 : Int32).toInt = 48 := by decide
          have t_x_8 : x_8.toInt = (48 : Int32).toInt * ((Mv 5) : Int32).toInt := by rw [ex_8]; exact mul_toInt (by first | omega | (rw [y_48]; omega)) (by first | omega | (rw [y_48]; omega))
          rw [y_48] at t_x_8
          have t_x_11 : x_11.toInt = (4 : Int32).toInt * (x_10 : Int32).toInt := by rw [ex_11]; exact mul_toInt (by first | omega | (rw [y_4]; omega)) (by first | omega | (rw [y_4]; omega))
          rw [y_4] at t_x_11
          have t_x_12 : x_12.toInt = (x_8 : Int32).toInt + (x_11 : Int32).toInt := by rw [ex_12]; exact add_toInt (by omega) (by omega)
          have t_x_230 : x_230.toInt = (x_12 : Int32).toInt + (3 : Int32).toInt := by rw [ex_230]; exact add_toInt (by omega) (by omega)
          have hcl : (x_230 : Int32).toNatClampNeg = (x_230 : Int32).toInt.toNat := rfl
          omega
        have pf_241 : RulP sv_37 g_235 (Mf 5) (Mv 5) (((Mf 3) (Mv 5).toNatClampNeg).toInt) := RulP.cl pf_173 eg_235 h_t.1 hr_242
        have ar_pf_241 := pf_241.2.1
        have hr_244 : ¬ (x_230 : Int32).toInt = (A0 : Int) + (1 : Nat) := by omega
        have pf_243 : ClV g_235 A0 1 x_59 := ClV.keep pf_175 eg_235 hr_244 (by omega)
        have hr_246 : ¬ (x_230 : Int32).toInt = (A0 : Int) + (2 : Nat) := by omega
        have pf_245 : ClV g_235 A0 2 x_164 := ClV.keep pf_177 eg_235 hr_246 (by omega)
        have hr_248 : 48 * (Mv 5).toInt + 4 * ((Mf 5) (Mv 5).toInt.toNat).toInt ≤ (((x_230 : Int32).toNatClampNeg : Nat) : Int) := by
          have z_1 : ¬ (r_42 : Int32).toInt = (0 : Int32).toInt := fun z => c_51 (Int32.toInt_inj.mp z)
          have z_2 : ¬ (r_98 : Int32).toInt = (0 : Int32).toInt := fun z => c_103 (Int32.toInt_inj.mp z)
          have z_3 : ¬ (r_205 : Int32).toInt = (0 : Int32).toInt := fun z => c_224 (Int32.toInt_inj.mp z)
          have y_0 : (0 : Int32).toInt = 0 := by decide
          have y_3 : (3 : Int32).toInt = 3 := by decide
          have y_4 : (4 : Int32).toInt = 4 := by decide
          have y_48 : (48 : Int32).toInt = 48 := by decide
          have t_x_8 : x_8.toInt = (48 : Int32).toInt * ((Mv 5) : Int32).toInt := by rw [ex_8]; exact mul_toInt (by first | omega | (rw [y_48]; omega)) (by first | omega | (rw [y_48]; omega))
          rw [y_48] at t_x_8
          have t_x_11 : x_11.toInt = (4 : Int32).toInt * (x_10 : Int32).toInt := by rw [ex_11]; exact mul_toInt (by first | omega | (rw [y_4]; omega)) (by first | omega | (rw [y_4]; omega))
          rw [y_4] at t_x_11
          have t_x_12 : x_12.toInt = (x_8 : Int32).toInt + (x_11 : Int32).toInt := by rw [ex_12]; exact add_toInt (by omega) (by omega)
          have t_x_230 : x_230.toInt = (x_12 : Int32).toInt + (3 : Int32).toInt := by rw [ex_230]; exact add_toInt (by omega) (by omega)
          have hcl : (x_230 : Int32).toNatClampNeg = (x_230 : Int32).toInt.toNat := rfl
          omega
        have pf_247 : RulP sv_199 g_235 (Mf 5) (Mv 5) (((Mf 3) (Mv 5).toNatClampNeg).toInt) := RulP.cl pf_222 eg_235 h_t.1 hr_248
        have ar_pf_247 := pf_247.2.1
        have pf_249 : ClV g_235 A0 3 x_232 := ClV.put eg_235 hi_236
        have hr_250 : (48 * ((Mv 5) : Int32).toInt) ≤ (((x_230 : Int32).toNatClampNeg : Nat) : Int) := by
          have z_1 : ¬ (r_42 : Int32).toInt = (0 : Int32).toInt := fun z => c_51 (Int32.toInt_inj.mp z)
          have z_2 : ¬ (r_98 : Int32).toInt = (0 : Int32).toInt := fun z => c_103 (Int32.toInt_inj.mp z)
          have z_3 : ¬ (r_205 : Int32).toInt = (0 : Int32).toInt := fun z => c_224 (Int32.toInt_inj.mp z)
          have y_0 : (0 : Int32).toInt = 0 := by decide
          have y_3 : (3 : Int32).toInt = 3 := by decide
          have y_4 : (4 : Int32).toInt = 4 := by decide
          have y_48 : (48 : Int32).toInt = 48 := by decide
          have t_x_8 : x_8.toInt = (48 : Int32).toInt * ((Mv 5) : Int32).toInt := by rw [ex_8]; exact mul_toInt (by first | omega | (rw [y_48]; omega)) (by first | omega | (rw [y_48]; omega))
          rw [y_48] at t_x_8
          have t_x_11 : x_11.toInt = (4 : Int32).toInt * (x_10 : Int32).toInt := by rw [ex_11]; exact mul_toInt (by first | omega | (rw [y_4]; omega)) (by first | omega | (rw [y_4]; omega))
          rw [y_4] at t_x_11
          have t_x_12 : x_12.toInt = (x_8 : Int32).toInt + (x_11 : Int32).toInt := by rw [ex_12]; exact add_toInt (by omega) (by omega)
          have t_x_230 : x_230.toInt = (x_12 : Int32).toInt + (3 : Int32).toInt := by rw [ex_230]; exact add_toInt (by omega) (by omega)
          have hcl : (x_230 : Int32).toNatClampNeg = (x_230 : Int32).toInt.toNat := rfl
          omega
        have pf_251 : Agr g_167 g_235 (48 * ((Mv 5) : Int32).toInt) := Agr.up eg_235 hr_250
        have hr_252 : 48 * (Mv 5).toInt.toNat + 4 * List.length Rs ≤ (x_230 : Int32).toNatClampNeg := by
          have z_1 : ¬ (r_42 : Int32).toInt = (0 : Int32).toInt := fun z => c_51 (Int32.toInt_inj.mp z)
          have z_2 : ¬ (r_98 : Int32).toInt = (0 : Int32).toInt := fun z => c_103 (Int32.toInt_inj.mp z)
          have z_3 : ¬ (r_205 : Int32).toInt = (0 : Int32).toInt := fun z => c_224 (Int32.toInt_inj.mp z)
          have y_0 : (0 : Int32).toInt = 0 := by decide
          have y_3 : (3 : Int32).toInt = 3 := by decide
          have y_4 : (4 : Int32).toInt = 4 := by decide
          have y_48 : (48 : Int32).toInt = 48 := by decide
          have t_x_8 : x_8.toInt = (48 : Int32).toInt * ((Mv 5) : Int32).toInt := by rw [ex_8]; exact mul_toInt (by first | omega | (rw [y_48]; omega)) (by first | omega | (rw [y_48]; omega))
          rw [y_48] at t_x_8
          have t_x_11 : x_11.toInt = (4 : Int32).toInt * (x_10 : Int32).toInt := by rw [ex_11]; exact mul_toInt (by first | omega | (rw [y_4]; omega)) (by first | omega | (rw [y_4]; omega))
          rw [y_4] at t_x_11
          have t_x_12 : x_12.toInt = (x_8 : Int32).toInt + (x_11 : Int32).toInt := by rw [ex_12]; exact add_toInt (by omega) (by omega)
          have t_x_230 : x_230.toInt = (x_12 : Int32).toInt + (3 : Int32).toInt := by rw [ex_230]; exact add_toInt (by omega) (by omega)
          have hcl : (x_230 : Int32).toNatClampNeg = (x_230 : Int32).toInt.toNat := rfl
          have hrw1 := h_rw.1
          omega
        have pf_253 : RwL g_235 (Mf 5) (Mv 5) ll Rs := RwL.cl pf_184 eg_235 hr_252
        refine lv_aload_n hx hb dX12_isBuyHere_127 rfl (lv_at hl 1 rfl) ?_
        refine gf_X12_23 hx hb hts hown hK hP 2 rfl rfl dX12_isBuyHere_128 ?_
        refine lv_aload_n hx hb dX12_isBuyHere_131 rfl (lv_at hl 1 rfl) ?_
        refine gf_X12_145 hx hb hts hown hK hP 2 rfl rfl dX12_isBuyHere_132 ?_
        refine lv_dup2_11 hx hb dX12_isBuyHere_135 rfl rfl ?_
        have hi_254 : vp_in (Mv 5) 6 := by
          have z_1 : ¬ (r_42 : Int32).toInt = (0 : Int32).toInt := fun z => c_51 (Int32.toInt_inj.mp z)
          have z_2 : ¬ (r_98 : Int32).toInt = (0 : Int32).toInt := fun z => c_103 (Int32.toInt_inj.mp z)
          have z_3 : ¬ (r_205 : Int32).toInt = (0 : Int32).toInt := fun z => c_224 (Int32.toInt_inj.mp z)
          have y_0 : (0 : Int32).toInt = 0 := by decide
          refine vp_in_iff.mpr ⟨?_, ?_⟩ <;> omega
        refine va_iald hx hb hK hP 1 0 rfl rfl hi_254 dX12_isBuyHere_136 ?_
        refine lv_topi (fun x_255 ex_255 => ?_)
        have kx_255 : x_255.toInt = ((Mf 5) ((Mv 5) : Int32).toInt.toNat).toInt := congrArg Int32.toInt ex_255
        refine lv_iconst (v := 1) hx hb dX12_isBuyHere_137 (by decide) ?_
        refine lv_iadd hx hb dX12_isBuyHere_138 ?_
        refine lv_topi (fun x_256 ex_256 => ?_)
        have hi_257 : vp_in (Mv 5) 6 := by
          have z_1 : ¬ (r_42 : Int32).toInt = (0 : Int32).toInt := fun z => c_51 (Int32.toInt_inj.mp z)
          have z_2 : ¬ (r_98 : Int32).toInt = (0 : Int32).toInt := fun z => c_103 (Int32.toInt_inj.mp z)
          have z_3 : ¬ (r_205 : Int32).toInt = (0 : Int32).toInt := fun z => c_224 (Int32.toInt_inj.mp z)
          have y_0 : (0 : Int32).toInt = 0 := by decide
          refine vp_in_iff.mpr ⟨?_, ?_⟩ <;> omega
        refine st_int hx hb hK hP hD hS 1 0 rfl rfl hi_257 dX12_isBuyHere_139 (fun g_258 H locs eg_258 hP₀ hD₀ hS₀ => ?_)
        replace hP : va_P D classes [((Ma 4), .inl (tc 0, 288, .inl g_235)), ((Ma 5), .inl (tc 0, 6, .inl g_258)), ((Ma 0), .inr (12, [.ref (Ma 1), .int (Mv 0), .int (Mv 1), .ref (Ma 2), .ref (Ma 3), .ref (Ma 4), .ref (Ma 5), .ref (Ma 6), .int sv_193, .int sv_194, .int sv_195, .int (Mv 5), .int sv_196, .int sv_197, .int (Mv 8), .ref (Ma 7), .int sv_198, .ref (Ma 8), .int (Mv 10), .ref (Ma 9), .ref (Ma 10), .int (Mv 11), .int (Mv 12), .int (Mv 13), .ref (Ma 11), .int (Mv 14), .ref (Ma 12), .ref (Ma 13), .ref (Ma 14), .ref (Ma 15), .ref (Ma 16), .long (Mj 0), .ref (Ma 17), .ref (Ma 18), .ref (Ma 19), .ref (Ma 20)])), ((Ma 1), .inl (tc 2, 400, .inl (Mf 1))), ((Ma 2), .inl (tc 0, 2400, .inl sv_199)), ((Ma 3), .inl (tc 0, 7, .inl sv_200)), ((Ma 7), .inl (tc 0, 400, .inl sv_201))] H := hP₀
        replace hD : va_D A [((Ma 4), .inl (tc 0, 288, .inl g_235)), ((Ma 5), .inl (tc 0, 6, .inl g_258)), ((Ma 0), .inr (12, [.ref (Ma 1), .int (Mv 0), .int (Mv 1), .ref (Ma 2), .ref (Ma 3), .ref (Ma 4), .ref (Ma 5), .ref (Ma 6), .int sv_193, .int sv_194, .int sv_195, .int (Mv 5), .int sv_196, .int sv_197, .int (Mv 8), .ref (Ma 7), .int sv_198, .ref (Ma 8), .int (Mv 10), .ref (Ma 9), .ref (Ma 10), .int (Mv 11), .int (Mv 12), .int (Mv 13), .ref (Ma 11), .int (Mv 14), .ref (Ma 12), .ref (Ma 13), .ref (Ma 14), .ref (Ma 15), .ref (Ma 16), .long (Mj 0), .ref (Ma 17), .ref (Ma 18), .ref (Ma 19), .ref (Ma 20)])), ((Ma 1), .inl (tc 2, 400, .inl (Mf 1))), ((Ma 2), .inl (tc 0, 2400, .inl sv_199)), ((Ma 3), .inl (tc 0, 7, .inl sv_200)), ((Ma 7), .inl (tc 0, 400, .inl sv_201))] := hD₀
        replace hS := hS₀
        clear hP₀ hD₀ hS₀
        have hr_259 : (((Mf 3) (Mv 5).toNatClampNeg).toInt) ≤ ((sv_200 (Mv 5).toNatClampNeg).toInt) := by
          have z_1 : ¬ (r_42 : Int32).toInt = (0 : Int32).toInt := fun z => c_51 (Int32.toInt_inj.mp z)
          have z_2 : ¬ (r_98 : Int32).toInt = (0 : Int32).toInt := fun z => c_103 (Int32.toInt_inj.mp z)
          have z_3 : ¬ (r_205 : Int32).toInt = (0 : Int32).toInt := fun z => c_224 (Int32.toInt_inj.mp z)
          have y_0 : (0 : Int32).toInt = 0 := by decide
          omega
        have hy_260 : (x_256 : Int32).toInt = ((Mf 5) (Mv 5).toInt.toNat).toInt + 1 := by
          have z_1 : ¬ (r_42 : Int32).toInt = (0 : Int32).toInt := fun z => c_51 (Int32.toInt_inj.mp z)
          have z_2 : ¬ (r_98 : Int32).toInt = (0 : Int32).toInt := fun z => c_103 (Int32.toInt_inj.mp z)
          have z_3 : ¬ (r_205 : Int32).toInt = (0 : Int32).toInt := fun z => c_224 (Int32.toInt_inj.mp z)
          have y_0 : (0 : Int32).toInt = 0 := by decide
          have y_1 : (1 : Int32).toInt = 1 := by decide
          have t_x_256 : x_256.toInt = (x_255 : Int32).toInt + (1 : Int32).toInt := by rw [ex_256]; exact add_toInt (by omega) (by omega)
          omega
        have hw_261 : WFc sv_199 (Mv 5) (g_235 A0) (g_235 (A0 + 1)) := by
          have z0 : g_235 A0 = x_14 := pf_239
          have z1 : g_235 (A0 + 1) = x_59 := pf_243
          rw [z0, z1]
          exact pf_214
        have hb_262 : (g_235 (A0 + 1)).toInt ≤ ((sv_200 (Mv 5).toNatClampNeg).toInt) := by
          have z1 : g_235 (A0 + 1) = x_59 := pf_243
          rw [z1]
          have z_1 : ¬ (r_42 : Int32).toInt = (0 : Int32).toInt := fun z => c_51 (Int32.toInt_inj.mp z)
          have z_2 : ¬ (r_98 : Int32).toInt = (0 : Int32).toInt := fun z => c_103 (Int32.toInt_inj.mp z)
          have z_3 : ¬ (r_205 : Int32).toInt = (0 : Int32).toInt := fun z => c_224 (Int32.toInt_inj.mp z)
          have y_0 : (0 : Int32).toInt = 0 := by decide
          omega
        have hw_263 : 0 ≤ (g_235 (A0 + 2)).toInt → WFc sv_199 (Mv 5) (g_235 (A0 + 2)) (g_235 (A0 + 3)) ∧ (g_235 (A0 + 3)).toInt ≤ ((sv_200 (Mv 5).toNatClampNeg).toInt) := by
          have z2 : g_235 (A0 + 2) = x_164 := pf_245
          have z3 : g_235 (A0 + 3) = x_232 := pf_249
          rw [z2, z3]
          refine fun _ => ⟨pf_233, ?_⟩
          have z_1 : ¬ (r_42 : Int32).toInt = (0 : Int32).toInt := fun z => c_51 (Int32.toInt_inj.mp z)
          have z_2 : ¬ (r_98 : Int32).toInt = (0 : Int32).toInt := fun z => c_103 (Int32.toInt_inj.mp z)
          have z_3 : ¬ (r_205 : Int32).toInt = (0 : Int32).toInt := fun z => c_224 (Int32.toInt_inj.mp z)
          have y_0 : (0 : Int32).toInt = 0 := by decide
          omega
        have pf_264 : RulP sv_199 g_235 g_258 (Mv 5) ((sv_200 (Mv 5).toNatClampNeg).toInt) := by
          subst hA0
          exact RulP.snoc (RulP.mono pf_247 hr_259) h_t.1 eg_258 hy_260 hw_261 hb_262 hw_263
        have ar_pf_264 := pf_264.2.1
        have kc_g_258 : (g_258 (Mv 5).toInt.toNat).toInt = (x_256 : Int32).toInt := upd_toInt_at eg_258
        have hr_265 : ((Mv 5) : Int32).toInt ≤ ((((Mv 5) : Int32).toNatClampNeg : Nat) : Int) := by
          have z_1 : ¬ (r_42 : Int32).toInt = (0 : Int32).toInt := fun z => c_51 (Int32.toInt_inj.mp z)
          have z_2 : ¬ (r_98 : Int32).toInt = (0 : Int32).toInt := fun z => c_103 (Int32.toInt_inj.mp z)
          have z_3 : ¬ (r_205 : Int32).toInt = (0 : Int32).toInt := fun z => c_224 (Int32.toInt_inj.mp z)
          have y_0 : (0 : Int32).toInt = 0 := by decide
          have hcl : ((Mv 5) : Int32).toNatClampNeg = ((Mv 5) : Int32).toInt.toNat := rfl
          omega
        have pf_266 : Agr (Mf 5) g_258 ((Mv 5) : Int32).toInt := Agr.up eg_258 hr_265
        have hA_267 : A0 = 48 * (Mv 5).toInt.toNat + 4 * List.length Rs := by
          have hrw1 := h_rw.1
          omega
        have hc_268 : g_235 (A0) = x_14 := pf_239
        have hc_269 : g_235 (A0 + 1) = x_59 := pf_243
        have hc_270 : g_235 (A0 + 2) = x_164 := pf_245
        have hc_271 : g_235 (A0 + 3) = x_232 := pf_249
        have hl_272 : (x_14 : Int32).toInt = ((List.length (ll) : Nat) : Int) := by
          have hq := (h_sg).1
          omega
        have hl_273 : (x_59 : Int32).toInt = ((List.length (ll) : Nat) : Int) + ((List.length (lsum (rB (Mf 1) (Mv 0)) (St0 (rB (Mf 1) (Mv 0)) sv_4 (Mv 6))) : Nat) : Int) := by
          have hq := (pf_54).1
          rw [elo_56, List.length_append] at hq
          omega
        have hy_274 : (x_256 : Int32).toInt = ((Mf 5) (Mv 5).toInt.toNat).toInt + 1 := by
          have z_1 : ¬ (r_42 : Int32).toInt = (0 : Int32).toInt := fun z => c_51 (Int32.toInt_inj.mp z)
          have z_2 : ¬ (r_98 : Int32).toInt = (0 : Int32).toInt := fun z => c_103 (Int32.toInt_inj.mp z)
          have z_3 : ¬ (r_205 : Int32).toInt = (0 : Int32).toInt := fun z => c_224 (Int32.toInt_inj.mp z)
          have y_0 : (0 : Int32).toInt = 0 := by decide
          have y_1 : (1 : Int32).toInt = 1 := by decide
          have t_x_256 : x_256.toInt = (x_255 : Int32).toInt + (1 : Int32).toInt := by rw [ex_256]; exact add_toInt (by omega) (by omega)
          omega
        have hu_276 : SgC sv_199 sv_200 (Mv 5) ((ll ++ lsum (rB (Mf 1) (Mv 0)) (St0 (rB (Mf 1) (Mv 0)) sv_4 (Mv 6))) ++ ltst (rB (Mf 1) (Mv 0)) 10 (St0 (rB (Mf 1) (Mv 0)) sv_96 sv_36)) := by
          rw [← elo_56, ← elo_229]
          exact pf_227
        have hl_277 : (x_164 : Int32).toInt = ((List.length (ll) : Nat) : Int) + ((List.length (lsum (rB (Mf 1) (Mv 0)) (St0 (rB (Mf 1) (Mv 0)) sv_4 (Mv 6))) : Nat) : Int) := by
          have hq := (pf_54).1
          rw [elo_56, List.length_append] at hq
          omega
        have hl_278 : (x_232 : Int32).toInt = ((List.length (ll) : Nat) : Int) + ((List.length (lsum (rB (Mf 1) (Mv 0)) (St0 (rB (Mf 1) (Mv 0)) sv_4 (Mv 6))) : Nat) : Int) + ((List.length (ltst (rB (Mf 1) (Mv 0)) 10 (St0 (rB (Mf 1) (Mv 0)) sv_96 sv_36)) : Nat) : Int) := by
          have hq := (pf_227).1
          rw [elo_229, elo_56, List.length_append, List.length_append] at hq
          omega
        have pf_275 : RwK sv_199 sv_200 g_235 g_258 (Mv 5) (Rs ++ [ru_cl (rB (Mf 1) (Mv 0)) (St0 (rB (Mf 1) (Mv 0)) (Mv 2) (Mv 6))]) := by
          have hu := hu_276
          rw [List.append_assoc] at hu
          rw [cl_some (by decide) h_nx.1 h_bw pf_7 pf_53 pf_160]
          exact ⟨_, hu, RwL.snoc pf_253 eg_258 hy_274 (RoL.some hA_267 hc_268 hc_269 hc_270 hc_271 hl_272 hl_273 hl_277 hl_278)⟩
        refine lv_iconst (v := 1) hx hb dX12_isBuyHere_140 (by decide) ?_
        have ha_279 : ((Mv 2) : Int32).toInt ≤ (sv_193 : Int32).toInt ∧ (sv_193 : Int32).toInt ≤ ((Mv 0) : Int32).toInt := by
          have z_1 : ¬ (r_42 : Int32).toInt = (0 : Int32).toInt := fun z => c_51 (Int32.toInt_inj.mp z)
          have z_2 : ¬ (r_98 : Int32).toInt = (0 : Int32).toInt := fun z => c_103 (Int32.toInt_inj.mp z)
          have z_3 : ¬ (r_205 : Int32).toInt = (0 : Int32).toInt := fun z => c_224 (Int32.toInt_inj.mp z)
          have y_0 : (0 : Int32).toInt = 0 := by decide
          omega
        have ha_280 : ((Mv 6) : Int32).toInt ≤ (sv_196 : Int32).toInt ∧ (sv_196 : Int32).toInt ≤ 60 := by
          have z_1 : ¬ (r_42 : Int32).toInt = (0 : Int32).toInt := fun z => c_51 (Int32.toInt_inj.mp z)
          have z_2 : ¬ (r_98 : Int32).toInt = (0 : Int32).toInt := fun z => c_103 (Int32.toInt_inj.mp z)
          have z_3 : ¬ (r_205 : Int32).toInt = (0 : Int32).toInt := fun z => c_224 (Int32.toInt_inj.mp z)
          have y_0 : (0 : Int32).toInt = 0 := by decide
          omega
        have hr_281 : (400 * ((Mv 5) : Int32).toInt) ≤ (400 * ((Mv 5) : Int32).toInt + ((Mf 3) (Mv 5).toNatClampNeg).toInt) := by
          have z_1 : ¬ (r_42 : Int32).toInt = (0 : Int32).toInt := fun z => c_51 (Int32.toInt_inj.mp z)
          have z_2 : ¬ (r_98 : Int32).toInt = (0 : Int32).toInt := fun z => c_103 (Int32.toInt_inj.mp z)
          have z_3 : ¬ (r_205 : Int32).toInt = (0 : Int32).toInt := fun z => c_224 (Int32.toInt_inj.mp z)
          have y_0 : (0 : Int32).toInt = 0 := by decide
          omega
        have hr_282 : (400 * ((Mv 5) : Int32).toInt) ≤ (400 * ((Mv 5) : Int32).toInt + (sv_38 (Mv 5).toNatClampNeg).toInt) := by
          have z_1 : ¬ (r_42 : Int32).toInt = (0 : Int32).toInt := fun z => c_51 (Int32.toInt_inj.mp z)
          have z_2 : ¬ (r_98 : Int32).toInt = (0 : Int32).toInt := fun z => c_103 (Int32.toInt_inj.mp z)
          have z_3 : ¬ (r_205 : Int32).toInt = (0 : Int32).toInt := fun z => c_224 (Int32.toInt_inj.mp z)
          have y_0 : (0 : Int32).toInt = 0 := by decide
          omega
        have hr_283 : (48 * ((Mv 5) : Int32).toInt) ≤ (48 * ((Mv 5) : Int32).toInt) := by
          have z_1 : ¬ (r_42 : Int32).toInt = (0 : Int32).toInt := fun z => c_51 (Int32.toInt_inj.mp z)
          have z_2 : ¬ (r_98 : Int32).toInt = (0 : Int32).toInt := fun z => c_103 (Int32.toInt_inj.mp z)
          have z_3 : ¬ (r_205 : Int32).toInt = (0 : Int32).toInt := fun z => c_224 (Int32.toInt_inj.mp z)
          have y_0 : (0 : Int32).toInt = 0 := by decide
          omega
        have hr_284 : (48 * ((Mv 5) : Int32).toInt) ≤ (48 * ((Mv 5) : Int32).toInt) := by
          have z_1 : ¬ (r_42 : Int32).toInt = (0 : Int32).toInt := fun z => c_51 (Int32.toInt_inj.mp z)
          have z_2 : ¬ (r_98 : Int32).toInt = (0 : Int32).toInt := fun z => c_103 (Int32.toInt_inj.mp z)
          have z_3 : ¬ (r_205 : Int32).toInt = (0 : Int32).toInt := fun z => c_224 (Int32.toInt_inj.mp z)
          have y_0 : (0 : Int32).toInt = 0 := by decide
          omega
        have hr_285 : (48 * ((Mv 5) : Int32).toInt) ≤ (48 * ((Mv 5) : Int32).toInt) := by
          have z_1 : ¬ (r_42 : Int32).toInt = (0 : Int32).toInt := fun z => c_51 (Int32.toInt_inj.mp z)
          have z_2 : ¬ (r_98 : Int32).toInt = (0 : Int32).toInt := fun z => c_103 (Int32.toInt_inj.mp z)
          have z_3 : ¬ (r_205 : Int32).toInt = (0 : Int32).toInt := fun z => c_224 (Int32.toInt_inj.mp z)
          have y_0 : (0 : Int32).toInt = 0 := by decide
          omega
        have hr_286 : (48 * ((Mv 5) : Int32).toInt) ≤ (48 * ((Mv 5) : Int32).toInt) := by
          have z_1 : ¬ (r_42 : Int32).toInt = (0 : Int32).toInt := fun z => c_51 (Int32.toInt_inj.mp z)
          have z_2 : ¬ (r_98 : Int32).toInt = (0 : Int32).toInt := fun z => c_103 (Int32.toInt_inj.mp z)
          have z_3 : ¬ (r_205 : Int32).toInt = (0 : Int32).toInt := fun z => c_224 (Int32.toInt_inj.mp z)
          have y_0 : (0 : Int32).toInt = 0 := by decide
          omega
        have hr_287 : (48 * ((Mv 5) : Int32).toInt) ≤ (48 * ((Mv 5) : Int32).toInt) := by
          have z_1 : ¬ (r_42 : Int32).toInt = (0 : Int32).toInt := fun z => c_51 (Int32.toInt_inj.mp z)
          have z_2 : ¬ (r_98 : Int32).toInt = (0 : Int32).toInt := fun z => c_103 (Int32.toInt_inj.mp z)
          have z_3 : ¬ (r_205 : Int32).toInt = (0 : Int32).toInt := fun z => c_224 (Int32.toInt_inj.mp z)
          have y_0 : (0 : Int32).toInt = 0 := by decide
          omega
        have hp_288 : (((1 : Int32).toInt = 0 ∧ ¬ (sv_194 : Int32).toInt = 0) ∨ ((1 : Int32).toInt = 1 ∧ 0 ≤ (sv_200 (Mv 5).toNatClampNeg).toInt ∧ (sv_200 (Mv 5).toNatClampNeg).toInt ≤ (sv_193 : Int32).toInt ∧ (g_258 (Mv 5).toInt.toNat).toInt = ((Mf 5) (Mv 5).toInt.toNat).toInt + 1 ∧ (sv_194 : Int32).toInt = 0)) := by
          have z_1 : ¬ (r_42 : Int32).toInt = (0 : Int32).toInt := fun z => c_51 (Int32.toInt_inj.mp z)
          have z_2 : ¬ (r_98 : Int32).toInt = (0 : Int32).toInt := fun z => c_103 (Int32.toInt_inj.mp z)
          have z_3 : ¬ (r_205 : Int32).toInt = (0 : Int32).toInt := fun z => c_224 (Int32.toInt_inj.mp z)
          have y_0 : (0 : Int32).toInt = 0 := by decide
          have y_1 : (1 : Int32).toInt = 1 := by decide
          have yr : (1 : Int32).toInt = 1 := by decide
          omega
        have hm_289 : (1 : Int32).toInt = 1 → (RulP sv_199 g_235 g_258 (Mv 5) ((sv_200 (Mv 5).toNatClampNeg).toInt)) ∧ (RfO (BuR (rB (Mf 1) (Mv 0)) (Mv 2) (Mv 6)) (rB (Mf 1) (Mv 0)) sv_194 sv_193 sv_196) ∧ (RwK sv_199 sv_200 g_235 g_258 (Mv 5) (Rs ++ [ru_cl (rB (Mf 1) (Mv 0)) (St0 (rB (Mf 1) (Mv 0)) (Mv 2) (Mv 6))])) := by
          intro h1r
          exact ⟨pf_264, (RfO.eq (BuR.if (by decide) h_nx.1 h_bw pf_7 pf_53 pf_160) pf_226), pf_275⟩
        exact retI (v := 1) hx hb hr hlk (rfl) hP hD hS (sv_193, sv_194, sv_195, sv_196, sv_197, sv_198, sv_199, sv_200, g_235, g_258, sv_201) ⟨_, rfl, hp_288, ha_279, ha_280, pf_264.1, (Agr.trans (k' := (400 * ((Mv 5) : Int32).toInt)) (Agr.mono pf_41 hr_281) pf_204 ⟨Int.le_refl _, hr_282⟩), (Agr.trans (k' := (48 * ((Mv 5) : Int32).toInt)) (Agr.trans (k' := (48 * ((Mv 5) : Int32).toInt)) (Agr.trans (k' := (48 * ((Mv 5) : Int32).toInt)) (Agr.trans (k' := (48 * ((Mv 5) : Int32).toInt)) (Agr.mono pf_25 hr_283) pf_72 ⟨Int.le_refl _, hr_284⟩) pf_89 ⟨Int.le_refl _, hr_285⟩) pf_182 ⟨Int.le_refl _, hr_286⟩) pf_251 ⟨Int.le_refl _, hr_287⟩), pf_266, hm_289, (fun h => absurd h (by decide))⟩ [2, 3, 4, 5, 0, 1, 6] rfl rfl dX12_isBuyHere_141 (Nat.le_of_ble_eq_true rfl) (Nat.le_of_ble_eq_true rfl) rfl
      · skip
        have hz_291 : (r_205 : Int32).toInt = 0 := by
          have z_1 : ¬ (r_42 : Int32).toInt = (0 : Int32).toInt := fun z => c_51 (Int32.toInt_inj.mp z)
          have z_2 : ¬ (r_98 : Int32).toInt = (0 : Int32).toInt := fun z => c_103 (Int32.toInt_inj.mp z)
          have z_3 := congrArg Int32.toInt c_224
          have y_0 : (0 : Int32).toInt = 0 := by decide
          omega
        obtain pf_290 := hm_209 hz_291
        have pf_290 : RfE (pz_tst (rB (Mf 1) (Mv 0)) (pz_fact (rB (Mf 1) (Mv 0)) 10) (St0 (rB (Mf 1) (Mv 0)) sv_96 sv_36)) sv_194 := pf_290
        refine lv_iconst (v := 0) hx hb dX12_isBuyHere_108 (by decide) ?_
        have ha_292 : ((Mv 2) : Int32).toInt ≤ (sv_193 : Int32).toInt ∧ (sv_193 : Int32).toInt ≤ ((Mv 0) : Int32).toInt := by
          have z_1 : ¬ (r_42 : Int32).toInt = (0 : Int32).toInt := fun z => c_51 (Int32.toInt_inj.mp z)
          have z_2 : ¬ (r_98 : Int32).toInt = (0 : Int32).toInt := fun z => c_103 (Int32.toInt_inj.mp z)
          have z_3 := congrArg Int32.toInt c_224
          have y_0 : (0 : Int32).toInt = 0 := by decide
          omega
        have ha_293 : ((Mv 6) : Int32).toInt ≤ (sv_196 : Int32).toInt ∧ (sv_196 : Int32).toInt ≤ 60 := by
          have z_1 : ¬ (r_42 : Int32).toInt = (0 : Int32).toInt := fun z => c_51 (Int32.toInt_inj.mp z)
          have z_2 : ¬ (r_98 : Int32).toInt = (0 : Int32).toInt := fun z => c_103 (Int32.toInt_inj.mp z)
          have z_3 := congrArg Int32.toInt c_224
          have y_0 : (0 : Int32).toInt = 0 := by decide
          omega
        have hr_294 : (400 * ((Mv 5) : Int32).toInt) ≤ (400 * ((Mv 5) : Int32).toInt + ((Mf 3) (Mv 5).toNatClampNeg).toInt) := by
          have z_1 : ¬ (r_42 : Int32).toInt = (0 : Int32).toInt := fun z => c_51 (Int32.toInt_inj.mp z)
          have z_2 : ¬ (r_98 : Int32).toInt = (0 : Int32).toInt := fun z => c_103 (Int32.toInt_inj.mp z)
          have z_3 := congrArg Int32.toInt c_224
          have y_0 : (0 : Int32).toInt = 0 := by decide
          omega
        have hr_295 : (400 * ((Mv 5) : Int32).toInt) ≤ (400 * ((Mv 5) : Int32).toInt + (sv_38 (Mv 5).toNatClampNeg).toInt) := by
          have z_1 : ¬ (r_42 : Int32).toInt = (0 : Int32).toInt := fun z => c_51 (Int32.toInt_inj.mp z)
          have z_2 : ¬ (r_98 : Int32).toInt = (0 : Int32).toInt := fun z => c_103 (Int32.toInt_inj.mp z)
          have z_3 := congrArg Int32.toInt c_224
          have y_0 : (0 : Int32).toInt = 0 := by decide
          omega
        have hr_296 : (48 * ((Mv 5) : Int32).toInt) ≤ (48 * ((Mv 5) : Int32).toInt) := by
          have z_1 : ¬ (r_42 : Int32).toInt = (0 : Int32).toInt := fun z => c_51 (Int32.toInt_inj.mp z)
          have z_2 : ¬ (r_98 : Int32).toInt = (0 : Int32).toInt := fun z => c_103 (Int32.toInt_inj.mp z)
          have z_3 := congrArg Int32.toInt c_224
          have y_0 : (0 : Int32).toInt = 0 := by decide
          omega
        have hr_297 : (48 * ((Mv 5) : Int32).toInt) ≤ (48 * ((Mv 5) : Int32).toInt) := by
          have z_1 : ¬ (r_42 : Int32).toInt = (0 : Int32).toInt := fun z => c_51 (Int32.toInt_inj.mp z)
          have z_2 : ¬ (r_98 : Int32).toInt = (0 : Int32).toInt := fun z => c_103 (Int32.toInt_inj.mp z)
          have z_3 := congrArg Int32.toInt c_224
          have y_0 : (0 : Int32).toInt = 0 := by decide
          omega
        have hr_298 : (48 * ((Mv 5) : Int32).toInt) ≤ (48 * ((Mv 5) : Int32).toInt) := by
          have z_1 : ¬ (r_42 : Int32).toInt = (0 : Int32).toInt := fun z => c_51 (Int32.toInt_inj.mp z)
          have z_2 : ¬ (r_98 : Int32).toInt = (0 : Int32).toInt := fun z => c_103 (Int32.toInt_inj.mp z)
          have z_3 := congrArg Int32.toInt c_224
          have y_0 : (0 : Int32).toInt = 0 := by decide
          omega
        have hr_299 : (48 * ((Mv 5) : Int32).toInt) ≤ (48 * ((Mv 5) : Int32).toInt) := by
          have z_1 : ¬ (r_42 : Int32).toInt = (0 : Int32).toInt := fun z => c_51 (Int32.toInt_inj.mp z)
          have z_2 : ¬ (r_98 : Int32).toInt = (0 : Int32).toInt := fun z => c_103 (Int32.toInt_inj.mp z)
          have z_3 := congrArg Int32.toInt c_224
          have y_0 : (0 : Int32).toInt = 0 := by decide
          omega
        have hp_300 : (((0 : Int32).toInt = 0 ∧ ¬ (sv_194 : Int32).toInt = 0) ∨ ((0 : Int32).toInt = 1 ∧ 0 ≤ (sv_200 (Mv 5).toNatClampNeg).toInt ∧ (sv_200 (Mv 5).toNatClampNeg).toInt ≤ (sv_193 : Int32).toInt ∧ ((Mf 5) (Mv 5).toInt.toNat).toInt = ((Mf 5) (Mv 5).toInt.toNat).toInt + 1 ∧ (sv_194 : Int32).toInt = 0)) := by
          have z_1 : ¬ (r_42 : Int32).toInt = (0 : Int32).toInt := fun z => c_51 (Int32.toInt_inj.mp z)
          have z_2 : ¬ (r_98 : Int32).toInt = (0 : Int32).toInt := fun z => c_103 (Int32.toInt_inj.mp z)
          have z_3 := congrArg Int32.toInt c_224
          have y_0 : (0 : Int32).toInt = 0 := by decide
          omega
        have hm_301 : (0 : Int32).toInt = 0 → (RfE (BuR (rB (Mf 1) (Mv 0)) (Mv 2) (Mv 6)) sv_194) := by
          intro h1r
          exact (RfE.eq (BuR.if (by decide) h_nx.1 h_bw pf_7 pf_53 pf_160) pf_290)
        exact retI (v := 0) hx hb hr hlk (rfl) hP hD hS (sv_193, sv_194, sv_195, sv_196, sv_197, sv_198, sv_199, sv_200, g_167, (Mf 5), sv_201) ⟨_, rfl, hp_300, ha_292, ha_293, pf_222.1, (Agr.trans (k' := (400 * ((Mv 5) : Int32).toInt)) (Agr.mono pf_41 hr_294) pf_204 ⟨Int.le_refl _, hr_295⟩), (Agr.trans (k' := (48 * ((Mv 5) : Int32).toInt)) (Agr.trans (k' := (48 * ((Mv 5) : Int32).toInt)) (Agr.trans (k' := (48 * ((Mv 5) : Int32).toInt)) (Agr.mono pf_25 hr_296) pf_72 ⟨Int.le_refl _, hr_297⟩) pf_89 ⟨Int.le_refl _, hr_298⟩) pf_182 ⟨Int.le_refl _, hr_299⟩), (Agr.rf), (fun h => absurd h (by decide)), hm_301⟩ [2, 3, 4, 5, 0, 1, 6] rfl rfl dX12_isBuyHere_109 (Nat.le_of_ble_eq_true rfl) (Nat.le_of_ble_eq_true rfl) rfl
  · skip
    have hz_303 : (r_42 : Int32).toInt = 0 := by
      have z_1 := congrArg Int32.toInt c_51
      have y_0 : (0 : Int32).toInt = 0 := by decide
      omega
    obtain pf_302 := hm_46 hz_303
    have pf_302 : RfE (pz_sum (rB (Mf 1) (Mv 0)) (St0 (rB (Mf 1) (Mv 0)) sv_4 (Mv 6))) sv_34 := pf_302
    refine lv_iconst (v := 0) hx hb dX12_isBuyHere_46 (by decide) ?_
    have ha_304 : ((Mv 2) : Int32).toInt ≤ (sv_33 : Int32).toInt ∧ (sv_33 : Int32).toInt ≤ ((Mv 0) : Int32).toInt := by
      have z_1 := congrArg Int32.toInt c_51
      have y_0 : (0 : Int32).toInt = 0 := by decide
      omega
    have hr_305 : (400 * ((Mv 5) : Int32).toInt) ≤ (400 * ((Mv 5) : Int32).toInt + ((Mf 3) (Mv 5).toNatClampNeg).toInt) := by
      have z_1 := congrArg Int32.toInt c_51
      have y_0 : (0 : Int32).toInt = 0 := by decide
      omega
    have hp_306 : (((0 : Int32).toInt = 0 ∧ ¬ (sv_34 : Int32).toInt = 0) ∨ ((0 : Int32).toInt = 1 ∧ 0 ≤ (sv_38 (Mv 5).toNatClampNeg).toInt ∧ (sv_38 (Mv 5).toNatClampNeg).toInt ≤ (sv_33 : Int32).toInt ∧ ((Mf 5) (Mv 5).toInt.toNat).toInt = ((Mf 5) (Mv 5).toInt.toNat).toInt + 1 ∧ (sv_34 : Int32).toInt = 0)) := by
      have z_1 := congrArg Int32.toInt c_51
      have y_0 : (0 : Int32).toInt = 0 := by decide
      omega
    have hm_307 : (0 : Int32).toInt = 0 → (RfE (BuR (rB (Mf 1) (Mv 0)) (Mv 2) (Mv 6)) sv_34) := by
      intro h1r
      exact (BuR.er h_nx.1 h_bw pf_7 pf_302)
    exact retI (v := 0) hx hb hr hlk (rfl) hP hD hS (sv_33, sv_34, sv_35, sv_36, (Mv 7), (Mv 9), sv_37, sv_38, g_16, (Mf 5), (Mf 7)) ⟨_, rfl, hp_306, ha_304, pf_40, pf_49.1, (Agr.mono pf_41 hr_305), pf_25, (Agr.rf), (fun h => absurd h (by decide)), hm_307⟩ [3, 4, 5, 6, 0, 1, 2] rfl rfl dX12_isBuyHere_47 (Nat.le_of_ble_eq_true rfl) (Nat.le_of_ble_eq_true rfl) rfl
set_option maxRecDepth 100000 in
theorem cu_kX12_isBuyHere (l : Launch) (D : va_G) (tc : Nat → ClassId) (sk : (Nat → Nat) × (Nat → Nat)) (Ma_0 : Nat) (Ma_1 : Nat) (Ma_2 : Nat) (Ma_3 : Nat) (Ma_4 : Nat) (Ma_5 : Nat) (Ma_6 : Nat) (Ma_7 : Nat) (Ma_8 : Nat) (Ma_9 : Nat) (Ma_10 : Nat) (Ma_11 : Nat) (Ma_12 : Nat) (Ma_13 : Nat) (Ma_14 : Nat) (Ma_15 : Nat) (Ma_16 : Nat) (Ma_17 : Nat) (Ma_18 : Nat) (Ma_19 : Nat) (Ma_20 : Nat) (Mv_0 : Int32) (Mv_1 : Int32) (Mv_2 : Int32) (Mv_3 : Int32) (Mv_4 : Int32) (Mv_5 : Int32) (Mv_6 : Int32) (Mv_7 : Int32) (Mv_8 : Int32) (Mv_9 : Int32) (Mv_10 : Int32) (Mv_11 : Int32) (Mv_12 : Int32) (Mv_13 : Int32) (Mv_14 : Int32) (Mf_1 : Nat → Int32) (Mf_2 : Nat → Int32) (Mf_3 : Nat → Int32) (Mf_4 : Nat → Int32) (Mf_5 : Nat → Int32) (Mf_7 : Nat → Int32) (Mj_0 : Int64) (ll : List Int) (Rs : RuA) (h_nx : 0 ≤ (Mv_2 : Int32).toInt ∧ (Mv_2 : Int32).toInt ≤ (Mv_0 : Int32).toInt ∧ (Mv_0 : Int32).toInt ≤ 400) (h_md : 0 ≤ (Mv_6 : Int32).toInt ∧ (Mv_6 : Int32).toInt ≤ 60) (h_t : 0 ≤ (Mv_5 : Int32).toInt ∧ (Mv_5 : Int32).toInt ≤ 5) (h_L : 0 ≤ (Mf_3 Mv_5.toNatClampNeg).toInt ∧ (Mf_3 Mv_5.toNatClampNeg).toInt ≤ (Mv_2 : Int32).toInt) (h_rp : RulP Mf_2 Mf_4 Mf_5 Mv_5 ((Mf_3 Mv_5.toNatClampNeg).toInt)) (h_c : (Mf_5 Mv_5.toInt.toNat).toInt + 1 = (Mv_8 : Int32).toInt ∧ (Mv_8 : Int32).toInt ≤ 12) (h_bs : ByS Mf_1) (h_w : (Mv_3 : Int32).toInt = 0) (h_bw : BwH (rB Mf_1 Mv_0) Mv_2) (h_sg : SgC Mf_2 Mf_3 Mv_5 ll) (h_rw : RwL Mf_4 Mf_5 Mv_5 ll Rs) : Ct l yX12_isBuyHere cX12_isBuyHere 2 (some .boolean) { frames := 9, cells := 0, slots := 0, locals := 198 } D tc sk [.ref Ma_0] [(Ma_0, .inr (12, [.ref Ma_1, .int Mv_0, .int Mv_1, .ref Ma_2, .ref Ma_3, .ref Ma_4, .ref Ma_5, .ref Ma_6, .int Mv_2, .int Mv_3, .int Mv_4, .int Mv_5, .int Mv_6, .int Mv_7, .int Mv_8, .ref Ma_7, .int Mv_9, .ref Ma_8, .int Mv_10, .ref Ma_9, .ref Ma_10, .int Mv_11, .int Mv_12, .int Mv_13, .ref Ma_11, .int Mv_14, .ref Ma_12, .ref Ma_13, .ref Ma_14, .ref Ma_15, .ref Ma_16, .long Mj_0, .ref Ma_17, .ref Ma_18, .ref Ma_19, .ref Ma_20])), (Ma_1, .inl (tc 2, 400, .inl Mf_1)), (Ma_2, .inl (tc 0, 2400, .inl Mf_2)), (Ma_3, .inl (tc 0, 7, .inl Mf_3)), (Ma_4, .inl (tc 0, 288, .inl Mf_4)), (Ma_5, .inl (tc 0, 6, .inl Mf_5)), (Ma_7, .inl (tc 0, 400, .inl Mf_7))] (fun (v : Option Value) (u : (Int32) × (Int32) × (Int32) × (Int32) × (Int32) × (Int32) × (Nat → Int32) × (Nat → Int32) × (Nat → Int32) × (Nat → Int32) × (Nat → Int32)) => match u with | (oo0x1, oo0x2, oo0x3, oo0x4, oo0x5, oo0x6, oo0x7, oo0x8, oo0x9, oo0x10, oo0x11) => ∃ r : Int32, v = some (.int r) ∧ (((r.toInt = 0 ∧ ¬ (oo0x2 : Int32).toInt = 0) ∨ (r.toInt = 1 ∧ 0 ≤ (oo0x8 Mv_5.toNatClampNeg).toInt ∧ (oo0x8 Mv_5.toNatClampNeg).toInt ≤ (oo0x1 : Int32).toInt ∧ (oo0x10 Mv_5.toInt.toNat).toInt = (Mf_5 Mv_5.toInt.toNat).toInt + 1 ∧ (oo0x2 : Int32).toInt = 0))) ∧ ((Mv_2 : Int32).toInt ≤ (oo0x1 : Int32).toInt ∧ (oo0x1 : Int32).toInt ≤ (Mv_0 : Int32).toInt) ∧ ((Mv_6 : Int32).toInt ≤ (oo0x4 : Int32).toInt ∧ (oo0x4 : Int32).toInt ≤ 60) ∧ (RulD oo0x7 oo0x9 oo0x10 Mv_5) ∧ (Agr Mf_2 oo0x7 (400 * (Mv_5 : Int32).toInt)) ∧ (Agr Mf_4 oo0x9 (48 * (Mv_5 : Int32).toInt)) ∧ (Agr Mf_5 oo0x10 (Mv_5 : Int32).toInt) ∧ (r.toInt = 1 → (RulP oo0x7 oo0x9 oo0x10 Mv_5 ((oo0x8 Mv_5.toNatClampNeg).toInt)) ∧ (RfO (BuR (rB Mf_1 Mv_0) Mv_2 Mv_6) (rB Mf_1 Mv_0) oo0x2 oo0x1 oo0x4) ∧ (RwK oo0x7 oo0x8 oo0x9 oo0x10 Mv_5 (Rs ++ [ru_cl (rB Mf_1 Mv_0) (St0 (rB Mf_1 Mv_0) Mv_2 Mv_6)]))) ∧ (r.toInt = 0 → (RfE (BuR (rB Mf_1 Mv_0) Mv_2 Mv_6) oo0x2))) (fun (u : (Int32) × (Int32) × (Int32) × (Int32) × (Int32) × (Int32) × (Nat → Int32) × (Nat → Int32) × (Nat → Int32) × (Nat → Int32) × (Nat → Int32)) => match u with | (oo0x1, oo0x2, oo0x3, oo0x4, oo0x5, oo0x6, oo0x7, oo0x8, oo0x9, oo0x10, oo0x11) => [(Ma_0, .inr (12, [.ref Ma_1, .int Mv_0, .int Mv_1, .ref Ma_2, .ref Ma_3, .ref Ma_4, .ref Ma_5, .ref Ma_6, .int oo0x1, .int oo0x2, .int oo0x3, .int Mv_5, .int oo0x4, .int oo0x5, .int Mv_8, .ref Ma_7, .int oo0x6, .ref Ma_8, .int Mv_10, .ref Ma_9, .ref Ma_10, .int Mv_11, .int Mv_12, .int Mv_13, .ref Ma_11, .int Mv_14, .ref Ma_12, .ref Ma_13, .ref Ma_14, .ref Ma_15, .ref Ma_16, .long Mj_0, .ref Ma_17, .ref Ma_18, .ref Ma_19, .ref Ma_20])), (Ma_1, .inl (tc 2, 400, .inl Mf_1)), (Ma_2, .inl (tc 0, 2400, .inl oo0x7)), (Ma_3, .inl (tc 0, 7, .inl oo0x8)), (Ma_4, .inl (tc 0, 288, .inl oo0x9)), (Ma_5, .inl (tc 0, 6, .inl oo0x10)), (Ma_7, .inl (tc 0, 400, .inl oo0x11))]) 0 0 :=
  ct_kX12_isBuyHere l D tc sk (fun k => ([Ma_0, Ma_1, Ma_2, Ma_3, Ma_4, Ma_5, Ma_6, Ma_7, Ma_8, Ma_9, Ma_10, Ma_11, Ma_12, Ma_13, Ma_14, Ma_15, Ma_16, Ma_17, Ma_18, Ma_19, Ma_20] : List (Nat)).getD k 0) (fun k => ([Mv_0, Mv_1, Mv_2, Mv_3, Mv_4, Mv_5, Mv_6, Mv_7, Mv_8, Mv_9, Mv_10, Mv_11, Mv_12, Mv_13, Mv_14] : List (Int32)).getD k 0) (fun k => ([(fun _ => 0), Mf_1, Mf_2, Mf_3, Mf_4, Mf_5, (fun _ => 0), Mf_7] : List (Nat → Int32)).getD k (fun _ => 0)) (fun k => ([Mj_0] : List (Int64)).getD k 0) ll Rs h_nx h_md h_t h_L h_rp h_c h_bs h_w h_bw h_sg h_rw
set_option maxHeartbeats 4000000 in
set_option maxRecDepth 100000 in
theorem ct_kX12_clauseHere_r (l : Launch) (D : va_G) (tc : Nat → ClassId) (sk : (Nat → Nat) × (Nat → Nat)) (Ma : Nat → Nat) (Mv : Nat → Int32) (Mf : Nat → Nat → Int32) (Mj : Nat → Int64) (ll : List Int) (Rs : RuA) (h_nx : 0 ≤ ((Mv 2) : Int32).toInt ∧ ((Mv 2) : Int32).toInt ≤ ((Mv 0) : Int32).toInt ∧ ((Mv 0) : Int32).toInt ≤ 400) (h_md : 0 ≤ ((Mv 6) : Int32).toInt ∧ ((Mv 6) : Int32).toInt ≤ 60) (h_t : 0 ≤ ((Mv 5) : Int32).toInt ∧ ((Mv 5) : Int32).toInt ≤ 5) (h_L : 0 ≤ ((Mf 3) (Mv 5).toNatClampNeg).toInt ∧ ((Mf 3) (Mv 5).toNatClampNeg).toInt ≤ ((Mv 2) : Int32).toInt) (h_rp : RulP (Mf 2) (Mf 4) (Mf 5) (Mv 5) (((Mf 3) (Mv 5).toNatClampNeg).toInt)) (h_c : ((Mf 5) (Mv 5).toInt.toNat).toInt = ((Mv 8) : Int32).toInt ∧ 0 ≤ ((Mv 8) : Int32).toInt ∧ ((Mv 8) : Int32).toInt ≤ 12) (h_bs : ByS (Mf 1)) (h_w : ((Mv 3) : Int32).toInt = 0) (h_sg : SgC (Mf 2) (Mf 3) (Mv 5) ll) (h_rw : RwL (Mf 4) (Mf 5) (Mv 5) ll Rs) : Ct l yX12_clauseHere cX12_clauseHere 3 (some .boolean) { frames := 10, cells := 0, slots := 0, locals := 219 } D tc sk [.ref (Ma 0)] [((Ma 0), .inr (12, [.ref (Ma 1), .int (Mv 0), .int (Mv 1), .ref (Ma 2), .ref (Ma 3), .ref (Ma 4), .ref (Ma 5), .ref (Ma 6), .int (Mv 2), .int (Mv 3), .int (Mv 4), .int (Mv 5), .int (Mv 6), .int (Mv 7), .int (Mv 8), .ref (Ma 7), .int (Mv 9), .ref (Ma 8), .int (Mv 10), .ref (Ma 9), .ref (Ma 10), .int (Mv 11), .int (Mv 12), .int (Mv 13), .ref (Ma 11), .int (Mv 14), .ref (Ma 12), .ref (Ma 13), .ref (Ma 14), .ref (Ma 15), .ref (Ma 16), .long (Mj 0), .ref (Ma 17), .ref (Ma 18), .ref (Ma 19), .ref (Ma 20)])), ((Ma 1), .inl (tc 2, 400, .inl (Mf 1))), ((Ma 2), .inl (tc 0, 2400, .inl (Mf 2))), ((Ma 3), .inl (tc 0, 7, .inl (Mf 3))), ((Ma 4), .inl (tc 0, 288, .inl (Mf 4))), ((Ma 5), .inl (tc 0, 6, .inl (Mf 5))), ((Ma 7), .inl (tc 0, 400, .inl (Mf 7)))] (fun (v : Option Value) (u : (Int32) × (Int32) × (Int32) × (Int32) × (Int32) × (Int32) × (Int32) × (Nat → Int32) × (Nat → Int32) × (Nat → Int32) × (Nat → Int32) × (Nat → Int32)) => match u with | (oo0x1, oo0x2, oo0x3, oo0x4, oo0x5, oo0x6, oo0x7, oo0x8, oo0x9, oo0x10, oo0x11, oo0x12) => ∃ r : Int32, v = some (.int r) ∧ (((r.toInt = 0 ∧ ¬ (oo0x2 : Int32).toInt = 0) ∨ (r.toInt = 1 ∧ 0 ≤ (oo0x9 (Mv 5).toNatClampNeg).toInt ∧ (oo0x9 (Mv 5).toNatClampNeg).toInt ≤ (oo0x1 : Int32).toInt ∧ (oo0x11 (Mv 5).toInt.toNat).toInt = (oo0x6 : Int32).toInt ∧ 0 ≤ (oo0x6 : Int32).toInt ∧ (oo0x6 : Int32).toInt ≤ 12 ∧ (oo0x6 : Int32).toInt = (Mv 8).toInt + 1 ∧ (oo0x2 : Int32).toInt = 0))) ∧ (((Mv 2) : Int32).toInt ≤ (oo0x1 : Int32).toInt ∧ (oo0x1 : Int32).toInt ≤ ((Mv 0) : Int32).toInt) ∧ (((Mv 6) : Int32).toInt ≤ (oo0x4 : Int32).toInt ∧ (oo0x4 : Int32).toInt ≤ 60) ∧ (RulD oo0x8 oo0x10 oo0x11 (Mv 5)) ∧ (Agr (Mf 2) oo0x8 (400 * ((Mv 5) : Int32).toInt)) ∧ (Agr (Mf 4) oo0x10 (48 * ((Mv 5) : Int32).toInt)) ∧ (Agr (Mf 5) oo0x11 ((Mv 5) : Int32).toInt) ∧ (r.toInt = 1 → (RulP oo0x8 oo0x10 oo0x11 (Mv 5) ((oo0x9 (Mv 5).toNatClampNeg).toInt)) ∧ (RfO (pz_cla (rB (Mf 1) (Mv 0)) (Mv 8).toInt.toNat (St0 (rB (Mf 1) (Mv 0)) (Mv 2) (Mv 6))) (rB (Mf 1) (Mv 0)) oo0x2 oo0x1 oo0x4) ∧ (RwK oo0x8 oo0x9 oo0x10 oo0x11 (Mv 5) (Rs ++ [ru_cl (rB (Mf 1) (Mv 0)) (St0 (rB (Mf 1) (Mv 0)) (Mv 2) (Mv 6))]))) ∧ (r.toInt = 0 → (RfE (pz_cla (rB (Mf 1) (Mv 0)) (Mv 8).toInt.toNat (St0 (rB (Mf 1) (Mv 0)) (Mv 2) (Mv 6))) oo0x2))) (fun (u : (Int32) × (Int32) × (Int32) × (Int32) × (Int32) × (Int32) × (Int32) × (Nat → Int32) × (Nat → Int32) × (Nat → Int32) × (Nat → Int32) × (Nat → Int32)) => match u with | (oo0x1, oo0x2, oo0x3, oo0x4, oo0x5, oo0x6, oo0x7, oo0x8, oo0x9, oo0x10, oo0x11, oo0x12) => [((Ma 0), .inr (12, [.ref (Ma 1), .int (Mv 0), .int (Mv 1), .ref (Ma 2), .ref (Ma 3), .ref (Ma 4), .ref (Ma 5), .ref (Ma 6), .int oo0x1, .int oo0x2, .int oo0x3, .int (Mv 5), .int oo0x4, .int oo0x5, .int oo0x6, .ref (Ma 7), .int oo0x7, .ref (Ma 8), .int (Mv 10), .ref (Ma 9), .ref (Ma 10), .int (Mv 11), .int (Mv 12), .int (Mv 13), .ref (Ma 11), .int (Mv 14), .ref (Ma 12), .ref (Ma 13), .ref (Ma 14), .ref (Ma 15), .ref (Ma 16), .long (Mj 0), .ref (Ma 17), .ref (Ma 18), .ref (Ma 19), .ref (Ma 20)])), ((Ma 1), .inl (tc 2, 400, .inl (Mf 1))), ((Ma 2), .inl (tc 0, 2400, .inl oo0x8)), ((Ma 3), .inl (tc 0, 7, .inl oo0x9)), ((Ma 4), .inl (tc 0, 288, .inl oo0x10)), ((Ma 5), .inl (tc 0, 6, .inl oo0x11)), ((Ma 7), .inl (tc 0, 400, .inl oo0x12))]) 0 0 := by
  refine Ct.start (by decide) (Nat.le_of_ble_eq_true rfl) (fun p e s m below meth c A ls hx hb hr hlk hin hml hown hts hK hX hP hD hA hl hS => ?_)
  have hl : lv_has ls 3 [(0, .ref (Ma 0))] := hl
  have ar_h_rp := h_rp.2.1
  refine lv_aload_n hx hb dX12_clauseHere_0 rfl (lv_at hl 0 rfl) ?_
  refine cV (a := (Ma 0)) (As := []) (rest := []) (wr := [((Ma 2), .inl (tc 0, 2400, .inl (Mf 2))), ((Ma 3), .inl (tc 0, 7, .inl (Mf 3))), ((Ma 4), .inl (tc 0, 288, .inl (Mf 4))), ((Ma 5), .inl (tc 0, 6, .inl (Mf 5))), ((Ma 7), .inl (tc 0, 400, .inl (Mf 7)))]) ⟨hx, hb, hml, hown, hts⟩ hK hX hA (cu_fX12_see l D tc sk (Ma 0) (Ma 1) (Ma 2) (Ma 3) (Ma 4) (Ma 5) (Ma 6) (Ma 7) (Ma 8) (Ma 9) (Ma 10) (Ma 11) (Ma 12) (Ma 13) (Ma 14) (Ma 15) (Ma 16) (Ma 17) (Ma 18) (Ma 19) (Ma 20) (Mv 0) (Mv 1) (Mv 2) (Mv 3) (Mv 4) (Mv 5) (Mv 6) (Mv 7) (Mv 8) (Mv 9) (Mv 10) (Mv 11) (Mv 12) (Mv 13) (Mv 14) (Mf 1) (Mj 0) h_nx h_bs) k_1211 k_1208 k_1210 k_27 k_106 pl_X12_see ⟨Nat.le_of_ble_eq_true rfl, Nat.le_of_ble_eq_true rfl⟩ rfl rfl (va_recv hK hP (ci := 12) (q0 := 0) rfl rfl) hP hD hS [0, 1] [2, 3, 4, 5, 6] rfl rfl rfl rfl rfl (by decide) rfl hl.1 rfl (Nat.le_of_ble_eq_true rfl) dX12_clauseHere_1 ⟨Nat.le_of_ble_eq_true rfl, Nat.le_of_ble_eq_true rfl⟩ (fun v_1 u_2 H locs hv_3 hP₀ hD₀ hS₀ => ?_)
  obtain ⟨sv_4, rfl⟩ : ∃ z, z = u_2 := ⟨_, rfl⟩
  obtain ⟨r_9, rfl, he_10, pf_5, pf_6, pf_7, pf_8⟩ := hv_3
  have he_10 : (r_9.toInt = rB (Mf 1) (Mv 0) (sv_4 : Int32).toInt.toNat ∧ (r_9.toInt = -1 ∨ (sv_4 : Int32).toInt < (Mv 0).toInt)) := he_10
  have pf_5 : ((Mv 2) : Int32).toInt ≤ (sv_4 : Int32).toInt ∧ (sv_4 : Int32).toInt ≤ ((Mv 0) : Int32).toInt := pf_5
  have pf_6 : NSq (Mf 1) (Mv 0) sv_4 := pf_6
  have pf_7 : Stl (Mf 1) (Mv 0) (Mv 2) sv_4 := pf_7
  have pf_8 : SkR (rB (Mf 1) (Mv 0)) (Mv 2) sv_4 := pf_8
  refine W.eq (g2 := F0 m 4 ls [.int r_9]) rfl ?_
  replace hP : va_P D classes [((Ma 2), .inl (tc 0, 2400, .inl (Mf 2))), ((Ma 3), .inl (tc 0, 7, .inl (Mf 3))), ((Ma 4), .inl (tc 0, 288, .inl (Mf 4))), ((Ma 5), .inl (tc 0, 6, .inl (Mf 5))), ((Ma 7), .inl (tc 0, 400, .inl (Mf 7))), ((Ma 0), .inr (12, [.ref (Ma 1), .int (Mv 0), .int (Mv 1), .ref (Ma 2), .ref (Ma 3), .ref (Ma 4), .ref (Ma 5), .ref (Ma 6), .int sv_4, .int (Mv 3), .int (Mv 4), .int (Mv 5), .int (Mv 6), .int (Mv 7), .int (Mv 8), .ref (Ma 7), .int (Mv 9), .ref (Ma 8), .int (Mv 10), .ref (Ma 9), .ref (Ma 10), .int (Mv 11), .int (Mv 12), .int (Mv 13), .ref (Ma 11), .int (Mv 14), .ref (Ma 12), .ref (Ma 13), .ref (Ma 14), .ref (Ma 15), .ref (Ma 16), .long (Mj 0), .ref (Ma 17), .ref (Ma 18), .ref (Ma 19), .ref (Ma 20)])), ((Ma 1), .inl (tc 2, 400, .inl (Mf 1)))] H := hP₀
  replace hD : va_D A [((Ma 2), .inl (tc 0, 2400, .inl (Mf 2))), ((Ma 3), .inl (tc 0, 7, .inl (Mf 3))), ((Ma 4), .inl (tc 0, 288, .inl (Mf 4))), ((Ma 5), .inl (tc 0, 6, .inl (Mf 5))), ((Ma 7), .inl (tc 0, 400, .inl (Mf 7))), ((Ma 0), .inr (12, [.ref (Ma 1), .int (Mv 0), .int (Mv 1), .ref (Ma 2), .ref (Ma 3), .ref (Ma 4), .ref (Ma 5), .ref (Ma 6), .int sv_4, .int (Mv 3), .int (Mv 4), .int (Mv 5), .int (Mv 6), .int (Mv 7), .int (Mv 8), .ref (Ma 7), .int (Mv 9), .ref (Ma 8), .int (Mv 10), .ref (Ma 9), .ref (Ma 10), .int (Mv 11), .int (Mv 12), .int (Mv 13), .ref (Ma 11), .int (Mv 14), .ref (Ma 12), .ref (Ma 13), .ref (Ma 14), .ref (Ma 15), .ref (Ma 16), .long (Mj 0), .ref (Ma 17), .ref (Ma 18), .ref (Ma 19), .ref (Ma 20)])), ((Ma 1), .inl (tc 2, 400, .inl (Mf 1)))] := hD₀
  replace hS := hS₀
  clear hP₀ hD₀ hS₀
  refine lv_pop hx hb dX12_clauseHere_4 rfl ?_
  refine lv_aload_n hx hb dX12_clauseHere_5 rfl (lv_at hl 0 rfl) ?_
  refine gf_X12_87 hx hb hts hown hK hP 5 rfl rfl dX12_clauseHere_6 ?_
  refine lv_istore_n (lv' := [(1, .int sv_4), (0, .ref (Ma 0))]) hx hb dX12_clauseHere_9 rfl hl (by decide) rfl (fun ls hl₀ => ?_)
  replace hl := hl₀
  clear hl₀
  refine lv_aload_n hx hb dX12_clauseHere_10 rfl (lv_at hl 1 rfl) ?_
  refine gf_X12_145 hx hb hts hown hK hP 5 rfl rfl dX12_clauseHere_11 ?_
  refine lv_bipush (v := 6) hx hb dX12_clauseHere_14 (by decide) ?_
  refine lv_icmp_ne (tgt := 23) hx hb dX12_clauseHere_16 (by decide) (fun c_12 => ?_) (fun c_12 => ?_)
  · skip
    refine lv_iconst (v := 0) hx hb dX12_clauseHere_23 (by decide) ?_
    refine lv_istore_n (lv' := [(2, .int 0), (1, .int sv_4), (0, .ref (Ma 0))]) hx hb dX12_clauseHere_24 rfl hl (by decide) rfl (fun ls hl₀ => ?_)
    replace hl := hl₀
    clear hl₀
    refine lv_iload_n hx hb dX12_clauseHere_25 rfl (lv_at hl 0 rfl) ?_
    refine lv_if_eq (tgt := 39) hx hb dX12_clauseHere_26 (by decide) (fun c_13 => ?_) (fun c_13 => absurd c_13 (by decide))
    refine lv_aload_n hx hb dX12_clauseHere_39 rfl (lv_at hl 2 rfl) ?_
    refine lv_ldc2 hx hb hown (hts _ k_1228) dX12_clauseHere_40 ?_
    have ha_14 : 0 ≤ (sv_4 : Int32).toInt ∧ (sv_4 : Int32).toInt ≤ ((Mv 0) : Int32).toInt ∧ ((Mv 0) : Int32).toInt ≤ 400 := by
      have z_1 : ¬ ((Mv 5) : Int32).toInt = (6 : Int32).toInt := fun z => c_12 (Int32.toInt_inj.mp z)
      have y_6 : (6 : Int32).toInt = 6 := by decide
      omega
    refine cV (a := (Ma 0)) (As := [.long 6452601]) (rest := []) (wr := [((Ma 2), .inl (tc 0, 2400, .inl (Mf 2))), ((Ma 3), .inl (tc 0, 7, .inl (Mf 3))), ((Ma 4), .inl (tc 0, 288, .inl (Mf 4))), ((Ma 5), .inl (tc 0, 6, .inl (Mf 5))), ((Ma 7), .inl (tc 0, 400, .inl (Mf 7)))]) ⟨hx, hb, hml, hown, hts⟩ hK hX hA (cu_fX12_isWord l D tc sk (Ma 0) (Ma 1) (Ma 2) (Ma 3) (Ma 4) (Ma 5) (Ma 6) (Ma 7) (Ma 8) (Ma 9) (Ma 10) (Ma 11) (Ma 12) (Ma 13) (Ma 14) (Ma 15) (Ma 16) (Ma 17) (Ma 18) (Ma 19) (Ma 20) (Mv 0) (Mv 1) sv_4 (Mv 3) (Mv 4) (Mv 5) (Mv 6) (Mv 7) (Mv 8) (Mv 9) (Mv 10) (Mv 11) (Mv 12) (Mv 13) (Mv 14) (Mf 1) (Mj 0) 6452601 ha_14 h_bs) k_1220 k_1217 k_1219 k_29 k_106 pl_X12_isWord ⟨Nat.le_of_ble_eq_true rfl, Nat.le_of_ble_eq_true rfl⟩ rfl rfl (va_recv hK hP (ci := 12) (q0 := 5) rfl rfl) hP hD hS [5, 6] [0, 1, 2, 3, 4] rfl rfl rfl rfl rfl (by decide) rfl hl.1 rfl (Nat.le_of_ble_eq_true rfl) dX12_clauseHere_43 ⟨Nat.le_of_ble_eq_true rfl, Nat.le_of_ble_eq_true rfl⟩ (fun v_15 u_16 H locs hv_17 hP₀ hD₀ hS₀ => ?_)
    obtain ⟨sv_18, rfl⟩ : ∃ z, z = u_16 := ⟨_, rfl⟩
    obtain ⟨r_23, rfl, he_24, pf_19, pf_20, pf_21, pf_22, hm_26, hm_27⟩ := hv_17
    have he_24 : (r_23.toInt = 0 ∨ r_23.toInt = 1) := he_24
    have pf_19 : (sv_4 : Int32).toInt ≤ (sv_18 : Int32).toInt ∧ (sv_18 : Int32).toInt ≤ ((Mv 0) : Int32).toInt := pf_19
    have pf_20 : NSq (Mf 1) (Mv 0) sv_18 := pf_20
    have pf_21 : Stl (Mf 1) (Mv 0) sv_4 sv_18 := pf_21
    have ar_pf_21 := Stl.or pf_21 pf_6
    have pf_22 : SkR (rB (Mf 1) (Mv 0)) sv_4 sv_18 := pf_22
    refine W.eq (g2 := F0 m 46 ls [.int r_23]) rfl ?_
    replace hP : va_P D classes [((Ma 2), .inl (tc 0, 2400, .inl (Mf 2))), ((Ma 3), .inl (tc 0, 7, .inl (Mf 3))), ((Ma 4), .inl (tc 0, 288, .inl (Mf 4))), ((Ma 5), .inl (tc 0, 6, .inl (Mf 5))), ((Ma 7), .inl (tc 0, 400, .inl (Mf 7))), ((Ma 0), .inr (12, [.ref (Ma 1), .int (Mv 0), .int (Mv 1), .ref (Ma 2), .ref (Ma 3), .ref (Ma 4), .ref (Ma 5), .ref (Ma 6), .int sv_18, .int (Mv 3), .int (Mv 4), .int (Mv 5), .int (Mv 6), .int (Mv 7), .int (Mv 8), .ref (Ma 7), .int (Mv 9), .ref (Ma 8), .int (Mv 10), .ref (Ma 9), .ref (Ma 10), .int (Mv 11), .int (Mv 12), .int (Mv 13), .ref (Ma 11), .int (Mv 14), .ref (Ma 12), .ref (Ma 13), .ref (Ma 14), .ref (Ma 15), .ref (Ma 16), .long (Mj 0), .ref (Ma 17), .ref (Ma 18), .ref (Ma 19), .ref (Ma 20)])), ((Ma 1), .inl (tc 2, 400, .inl (Mf 1)))] H := hP₀
    replace hD : va_D A [((Ma 2), .inl (tc 0, 2400, .inl (Mf 2))), ((Ma 3), .inl (tc 0, 7, .inl (Mf 3))), ((Ma 4), .inl (tc 0, 288, .inl (Mf 4))), ((Ma 5), .inl (tc 0, 6, .inl (Mf 5))), ((Ma 7), .inl (tc 0, 400, .inl (Mf 7))), ((Ma 0), .inr (12, [.ref (Ma 1), .int (Mv 0), .int (Mv 1), .ref (Ma 2), .ref (Ma 3), .ref (Ma 4), .ref (Ma 5), .ref (Ma 6), .int sv_18, .int (Mv 3), .int (Mv 4), .int (Mv 5), .int (Mv 6), .int (Mv 7), .int (Mv 8), .ref (Ma 7), .int (Mv 9), .ref (Ma 8), .int (Mv 10), .ref (Ma 9), .ref (Ma 10), .int (Mv 11), .int (Mv 12), .int (Mv 13), .ref (Ma 11), .int (Mv 14), .ref (Ma 12), .ref (Ma 13), .ref (Ma 14), .ref (Ma 15), .ref (Ma 16), .long (Mj 0), .ref (Ma 17), .ref (Ma 18), .ref (Ma 19), .ref (Ma 20)])), ((Ma 1), .inl (tc 2, 400, .inl (Mf 1)))] := hD₀
    replace hS := hS₀
    clear hP₀ hD₀ hS₀
    have hE_28 := SkR.eqB pf_8 pf_22
    refine lv_if_ne (tgt := 56) hx hb dX12_clauseHere_46 (by decide) (fun c_29 => ?_) (fun c_29 => ?_)
    · skip
      have hz_32 : (r_23 : Int32).toInt = 1 := by
        have z_1 : ¬ ((Mv 5) : Int32).toInt = (6 : Int32).toInt := fun z => c_12 (Int32.toInt_inj.mp z)
        have z_2 : ¬ (r_23 : Int32).toInt = (0 : Int32).toInt := fun z => c_29 (Int32.toInt_inj.mp z)
        have y_0 : (0 : Int32).toInt = 0 := by decide
        have y_6 : (6 : Int32).toInt = 6 := by decide
        omega
      obtain ⟨pf_30, pf_31⟩ := hm_26 hz_32
      have pf_30 : Ltr (Mf 1) (Mv 0) sv_18 := pf_30
      have ar_pf_30 := pf_30.1
      have at_pf_30 : 97 ≤ ((Mf 1) (sv_18 : Int32).toInt.toNat).toInt ∧ ((Mf 1) (sv_18 : Int32).toInt.toNat).toInt ≤ 122 := pf_30.2
      have pf_31 : PkW (rB (Mf 1) (Mv 0)) ((sv_18 : Int32).toInt.toNat) (6452601 : Int64).toInt := pf_31
      refine lv_aload_n hx hb dX12_clauseHere_56 rfl (lv_at hl 2 rfl) ?_
      refine gf_X12_244 hx hb hts hown hK hP 5 rfl rfl dX12_clauseHere_57 ?_
      refine lv_iload_n hx hb dX12_clauseHere_60 rfl (lv_at hl 0 rfl) ?_
      refine lv_if_eq (tgt := 69) hx hb dX12_clauseHere_61 (by decide) (fun c_33 => ?_) (fun c_33 => absurd c_33 (by decide))
      refine lv_bipush (v := 12) hx hb dX12_clauseHere_69 (by decide) ?_
      refine lv_icmp_ne (tgt := 81) hx hb dX12_clauseHere_71 (by decide) (fun c_34 => ?_) (fun c_34 => ?_)
      · skip
        refine lv_aload_n hx hb dX12_clauseHere_81 rfl (lv_at hl 2 rfl) ?_
        refine lv_dup hx hb dX12_clauseHere_82 rfl ?_
        refine gf_X12_244 hx hb hts hown hK hP 5 rfl rfl dX12_clauseHere_83 ?_
        refine lv_iconst (v := 1) hx hb dX12_clauseHere_86 (by decide) ?_
        refine lv_iadd hx hb dX12_clauseHere_87 ?_
        refine lv_topi (fun x_35 ex_35 => ?_)
        refine pf_X12_244 hx hb hts hown hK hP hD hS 5 rfl (Nat.le_of_ble_eq_true rfl) rfl rfl dX12_clauseHere_88 (fun H locs hP₀ hD₀ hS₀ => ?_)
        replace hP : va_P D classes [((Ma 2), .inl (tc 0, 2400, .inl (Mf 2))), ((Ma 3), .inl (tc 0, 7, .inl (Mf 3))), ((Ma 4), .inl (tc 0, 288, .inl (Mf 4))), ((Ma 5), .inl (tc 0, 6, .inl (Mf 5))), ((Ma 7), .inl (tc 0, 400, .inl (Mf 7))), ((Ma 0), .inr (12, [.ref (Ma 1), .int (Mv 0), .int (Mv 1), .ref (Ma 2), .ref (Ma 3), .ref (Ma 4), .ref (Ma 5), .ref (Ma 6), .int sv_18, .int (Mv 3), .int (Mv 4), .int (Mv 5), .int (Mv 6), .int (Mv 7), .int x_35, .ref (Ma 7), .int (Mv 9), .ref (Ma 8), .int (Mv 10), .ref (Ma 9), .ref (Ma 10), .int (Mv 11), .int (Mv 12), .int (Mv 13), .ref (Ma 11), .int (Mv 14), .ref (Ma 12), .ref (Ma 13), .ref (Ma 14), .ref (Ma 15), .ref (Ma 16), .long (Mj 0), .ref (Ma 17), .ref (Ma 18), .ref (Ma 19), .ref (Ma 20)])), ((Ma 1), .inl (tc 2, 400, .inl (Mf 1)))] H := hP₀
        replace hD : va_D A [((Ma 2), .inl (tc 0, 2400, .inl (Mf 2))), ((Ma 3), .inl (tc 0, 7, .inl (Mf 3))), ((Ma 4), .inl (tc 0, 288, .inl (Mf 4))), ((Ma 5), .inl (tc 0, 6, .inl (Mf 5))), ((Ma 7), .inl (tc 0, 400, .inl (Mf 7))), ((Ma 0), .inr (12, [.ref (Ma 1), .int (Mv 0), .int (Mv 1), .ref (Ma 2), .ref (Ma 3), .ref (Ma 4), .ref (Ma 5), .ref (Ma 6), .int sv_18, .int (Mv 3), .int (Mv 4), .int (Mv 5), .int (Mv 6), .int (Mv 7), .int x_35, .ref (Ma 7), .int (Mv 9), .ref (Ma 8), .int (Mv 10), .ref (Ma 9), .ref (Ma 10), .int (Mv 11), .int (Mv 12), .int (Mv 13), .ref (Ma 11), .int (Mv 14), .ref (Ma 12), .ref (Ma 13), .ref (Ma 14), .ref (Ma 15), .ref (Ma 16), .long (Mj 0), .ref (Ma 17), .ref (Ma 18), .ref (Ma 19), .ref (Ma 20)])), ((Ma 1), .inl (tc 2, 400, .inl (Mf 1)))] := hD₀
        replace hS := hS₀
        clear hP₀ hD₀ hS₀
        have tp_x_35 : (x_35 : Int32).toInt = ((Mv 8) : Int32).toInt + 1 := by
          have z_1 : ¬ ((Mv 5) : Int32).toInt = (6 : Int32).toInt := fun z => c_12 (Int32.toInt_inj.mp z)
          have z_2 : ¬ (r_23 : Int32).toInt = (0 : Int32).toInt := fun z => c_29 (Int32.toInt_inj.mp z)
          have z_3 : ¬ ((Mv 8) : Int32).toInt = (12 : Int32).toInt := fun z => c_34 (Int32.toInt_inj.mp z)
          have y_0 : (0 : Int32).toInt = 0 := by decide
          have y_6 : (6 : Int32).toInt = 6 := by decide
          have y_12 : (12 : Int32).toInt = 12 := by decide
          have y_1 : (1 : Int32).toInt = 1 := by decide
          have t_x_35 : x_35.toInt = ((Mv 8) : Int32).toInt + (1 : Int32).toInt := by rw [ex_35]; exact add_toInt (by omega) (by omega)
          omega
        refine lv_iload_n hx hb dX12_clauseHere_91 rfl (lv_at hl 0 rfl) ?_
        refine lv_if_eq (tgt := 103) hx hb dX12_clauseHere_92 (by decide) (fun c_36 => ?_) (fun c_36 => absurd c_36 (by decide))
        refine lv_aload_n hx hb dX12_clauseHere_103 rfl (lv_at hl 2 rfl) ?_
        have ha_37 : 0 ≤ (sv_18 : Int32).toInt ∧ (sv_18 : Int32).toInt ≤ ((Mv 0) : Int32).toInt ∧ ((Mv 0) : Int32).toInt ≤ 400 := by
          have z_1 : ¬ ((Mv 5) : Int32).toInt = (6 : Int32).toInt := fun z => c_12 (Int32.toInt_inj.mp z)
          have z_2 : ¬ (r_23 : Int32).toInt = (0 : Int32).toInt := fun z => c_29 (Int32.toInt_inj.mp z)
          have z_3 : ¬ ((Mv 8) : Int32).toInt = (12 : Int32).toInt := fun z => c_34 (Int32.toInt_inj.mp z)
          have y_0 : (0 : Int32).toInt = 0 := by decide
          have y_6 : (6 : Int32).toInt = 6 := by decide
          have y_12 : (12 : Int32).toInt = 12 := by decide
          omega
        have ha_38 : 0 ≤ ((Mf 3) (Mv 5).toNatClampNeg).toInt ∧ ((Mf 3) (Mv 5).toNatClampNeg).toInt ≤ (sv_18 : Int32).toInt := by
          have z_1 : ¬ ((Mv 5) : Int32).toInt = (6 : Int32).toInt := fun z => c_12 (Int32.toInt_inj.mp z)
          have z_2 : ¬ (r_23 : Int32).toInt = (0 : Int32).toInt := fun z => c_29 (Int32.toInt_inj.mp z)
          have z_3 : ¬ ((Mv 8) : Int32).toInt = (12 : Int32).toInt := fun z => c_34 (Int32.toInt_inj.mp z)
          have y_0 : (0 : Int32).toInt = 0 := by decide
          have y_6 : (6 : Int32).toInt = 6 := by decide
          have y_12 : (12 : Int32).toInt = 12 := by decide
          omega
        have ha_39 : ((Mf 5) (Mv 5).toInt.toNat).toInt + 1 = (x_35 : Int32).toInt ∧ (x_35 : Int32).toInt ≤ 12 := by
          have z_1 : ¬ ((Mv 5) : Int32).toInt = (6 : Int32).toInt := fun z => c_12 (Int32.toInt_inj.mp z)
          have z_2 : ¬ (r_23 : Int32).toInt = (0 : Int32).toInt := fun z => c_29 (Int32.toInt_inj.mp z)
          have z_3 : ¬ ((Mv 8) : Int32).toInt = (12 : Int32).toInt := fun z => c_34 (Int32.toInt_inj.mp z)
          have y_0 : (0 : Int32).toInt = 0 := by decide
          have y_6 : (6 : Int32).toInt = 6 := by decide
          have y_12 : (12 : Int32).toInt = 12 := by decide
          have y_1 : (1 : Int32).toInt = 1 := by decide
          have t_x_35 : x_35.toInt = ((Mv 8) : Int32).toInt + (1 : Int32).toInt := by rw [ex_35]; exact add_toInt (by omega) (by omega)
          omega
        refine cV (a := (Ma 0)) (As := []) (rest := []) (wr := []) ⟨hx, hb, hml, hown, hts⟩ hK hX hA (cu_kX12_isBuyHere l D tc sk (Ma 0) (Ma 1) (Ma 2) (Ma 3) (Ma 4) (Ma 5) (Ma 6) (Ma 7) (Ma 8) (Ma 9) (Ma 10) (Ma 11) (Ma 12) (Ma 13) (Ma 14) (Ma 15) (Ma 16) (Ma 17) (Ma 18) (Ma 19) (Ma 20) (Mv 0) (Mv 1) sv_18 (Mv 3) (Mv 4) (Mv 5) (Mv 6) (Mv 7) x_35 (Mv 9) (Mv 10) (Mv 11) (Mv 12) (Mv 13) (Mv 14) (Mf 1) (Mf 2) (Mf 3) (Mf 4) (Mf 5) (Mf 7) (Mj 0) ll Rs ha_37 h_md h_t ha_38 h_rp ha_39 h_bs h_w (BwH.of (by decide) pf_31) h_sg h_rw) k_1275 k_1272 k_1274 k_41 k_106 pl_X12_isBuyHere ⟨Nat.le_of_ble_eq_true rfl, Nat.le_of_ble_eq_true rfl⟩ rfl rfl (va_recv hK hP (ci := 12) (q0 := 5) rfl rfl) hP hD hS [5, 6, 0, 1, 2, 3, 4] [] rfl rfl rfl rfl rfl (by decide) rfl hl.1 rfl (Nat.le_of_ble_eq_true rfl) dX12_clauseHere_104 ⟨Nat.le_of_ble_eq_true rfl, Nat.le_of_ble_eq_true rfl⟩ (fun v_40 u_41 H locs hv_42 hP₀ hD₀ hS₀ => ?_)
        obtain ⟨sv_43, sv_44, sv_45, sv_46, sv_47, sv_48, sv_49, sv_50, sv_51, sv_52, sv_53⟩ := u_41
        obtain ⟨r_60, rfl, he_61, pf_54, pf_55, pf_56, pf_57, pf_58, pf_59, hm_63, hm_64⟩ := hv_42
        have he_61 : ((r_60.toInt = 0 ∧ ¬ (sv_44 : Int32).toInt = 0) ∨ (r_60.toInt = 1 ∧ 0 ≤ (sv_50 (Mv 5).toNatClampNeg).toInt ∧ (sv_50 (Mv 5).toNatClampNeg).toInt ≤ (sv_43 : Int32).toInt ∧ (sv_52 (Mv 5).toInt.toNat).toInt = ((Mf 5) (Mv 5).toInt.toNat).toInt + 1 ∧ (sv_44 : Int32).toInt = 0)) := he_61
        have pf_54 : (sv_18 : Int32).toInt ≤ (sv_43 : Int32).toInt ∧ (sv_43 : Int32).toInt ≤ ((Mv 0) : Int32).toInt := pf_54
        have pf_55 : ((Mv 6) : Int32).toInt ≤ (sv_46 : Int32).toInt ∧ (sv_46 : Int32).toInt ≤ 60 := pf_55
        have pf_56 : RulD sv_49 sv_51 sv_52 (Mv 5) := pf_56
        have pf_57 : Agr (Mf 2) sv_49 (400 * ((Mv 5) : Int32).toInt) := pf_57
        have pf_58 : Agr (Mf 4) sv_51 (48 * ((Mv 5) : Int32).toInt) := pf_58
        have pf_59 : Agr (Mf 5) sv_52 ((Mv 5) : Int32).toInt := pf_59
        refine W.eq (g2 := F0 m 107 ls [.int r_60]) rfl ?_
        replace hP : va_P D classes [((Ma 0), .inr (12, [.ref (Ma 1), .int (Mv 0), .int (Mv 1), .ref (Ma 2), .ref (Ma 3), .ref (Ma 4), .ref (Ma 5), .ref (Ma 6), .int sv_43, .int sv_44, .int sv_45, .int (Mv 5), .int sv_46, .int sv_47, .int x_35, .ref (Ma 7), .int sv_48, .ref (Ma 8), .int (Mv 10), .ref (Ma 9), .ref (Ma 10), .int (Mv 11), .int (Mv 12), .int (Mv 13), .ref (Ma 11), .int (Mv 14), .ref (Ma 12), .ref (Ma 13), .ref (Ma 14), .ref (Ma 15), .ref (Ma 16), .long (Mj 0), .ref (Ma 17), .ref (Ma 18), .ref (Ma 19), .ref (Ma 20)])), ((Ma 1), .inl (tc 2, 400, .inl (Mf 1))), ((Ma 2), .inl (tc 0, 2400, .inl sv_49)), ((Ma 3), .inl (tc 0, 7, .inl sv_50)), ((Ma 4), .inl (tc 0, 288, .inl sv_51)), ((Ma 5), .inl (tc 0, 6, .inl sv_52)), ((Ma 7), .inl (tc 0, 400, .inl sv_53))] H := hP₀
        replace hD : va_D A [((Ma 0), .inr (12, [.ref (Ma 1), .int (Mv 0), .int (Mv 1), .ref (Ma 2), .ref (Ma 3), .ref (Ma 4), .ref (Ma 5), .ref (Ma 6), .int sv_43, .int sv_44, .int sv_45, .int (Mv 5), .int sv_46, .int sv_47, .int x_35, .ref (Ma 7), .int sv_48, .ref (Ma 8), .int (Mv 10), .ref (Ma 9), .ref (Ma 10), .int (Mv 11), .int (Mv 12), .int (Mv 13), .ref (Ma 11), .int (Mv 14), .ref (Ma 12), .ref (Ma 13), .ref (Ma 14), .ref (Ma 15), .ref (Ma 16), .long (Mj 0), .ref (Ma 17), .ref (Ma 18), .ref (Ma 19), .ref (Ma 20)])), ((Ma 1), .inl (tc 2, 400, .inl (Mf 1))), ((Ma 2), .inl (tc 0, 2400, .inl sv_49)), ((Ma 3), .inl (tc 0, 7, .inl sv_50)), ((Ma 4), .inl (tc 0, 288, .inl sv_51)), ((Ma 5), .inl (tc 0, 6, .inl sv_52)), ((Ma 7), .inl (tc 0, 400, .inl sv_53))] := hD₀
        replace hS := hS₀
        clear hP₀ hD₀ hS₀
        have ha_65 : ((Mv 2) : Int32).toInt ≤ (sv_43 : Int32).toInt ∧ (sv_43 : Int32).toInt ≤ ((Mv 0) : Int32).toInt := by
          have z_1 : ¬ ((Mv 5) : Int32).toInt = (6 : Int32).toInt := fun z => c_12 (Int32.toInt_inj.mp z)
          have z_2 : ¬ (r_23 : Int32).toInt = (0 : Int32).toInt := fun z => c_29 (Int32.toInt_inj.mp z)
          have z_3 : ¬ ((Mv 8) : Int32).toInt = (12 : Int32).toInt := fun z => c_34 (Int32.toInt_inj.mp z)
          have y_0 : (0 : Int32).toInt = 0 := by decide
          have y_6 : (6 : Int32).toInt = 6 := by decide
          have y_12 : (12 : Int32).toInt = 12 := by decide
          omega
        have hb_66 : (r_60 : Int32).toInt = 0 ∨ (r_60 : Int32).toInt = 1 := by
          have z_1 : ¬ ((Mv 5) : Int32).toInt = (6 : Int32).toInt := fun z => c_12 (Int32.toInt_inj.mp z)
          have z_2 : ¬ (r_23 : Int32).toInt = (0 : Int32).toInt := fun z => c_29 (Int32.toInt_inj.mp z)
          have z_3 : ¬ ((Mv 8) : Int32).toInt = (12 : Int32).toInt := fun z => c_34 (Int32.toInt_inj.mp z)
          have y_0 : (0 : Int32).toInt = 0 := by decide
          have y_6 : (6 : Int32).toInt = 6 := by decide
          have y_12 : (12 : Int32).toInt = 12 := by decide
          omega
        have hp_67 : (((r_60 : Int32).toInt = 0 ∧ ¬ (sv_44 : Int32).toInt = 0) ∨ ((r_60 : Int32).toInt = 1 ∧ 0 ≤ (sv_50 (Mv 5).toNatClampNeg).toInt ∧ (sv_50 (Mv 5).toNatClampNeg).toInt ≤ (sv_43 : Int32).toInt ∧ (sv_52 (Mv 5).toInt.toNat).toInt = (x_35 : Int32).toInt ∧ 0 ≤ (x_35 : Int32).toInt ∧ (x_35 : Int32).toInt ≤ 12 ∧ (x_35 : Int32).toInt = (Mv 8).toInt + 1 ∧ (sv_44 : Int32).toInt = 0)) := by
          have z_1 : ¬ ((Mv 5) : Int32).toInt = (6 : Int32).toInt := fun z => c_12 (Int32.toInt_inj.mp z)
          have z_2 : ¬ (r_23 : Int32).toInt = (0 : Int32).toInt := fun z => c_29 (Int32.toInt_inj.mp z)
          have z_3 : ¬ ((Mv 8) : Int32).toInt = (12 : Int32).toInt := fun z => c_34 (Int32.toInt_inj.mp z)
          have y_0 : (0 : Int32).toInt = 0 := by decide
          have y_6 : (6 : Int32).toInt = 6 := by decide
          have y_12 : (12 : Int32).toInt = 12 := by decide
          have y_1 : (1 : Int32).toInt = 1 := by decide
          have t_x_35 : x_35.toInt = ((Mv 8) : Int32).toInt + (1 : Int32).toInt := by rw [ex_35]; exact add_toInt (by omega) (by omega)
          omega
        have hm_68 : (r_60 : Int32).toInt = 1 → (RulP sv_49 sv_51 sv_52 (Mv 5) ((sv_50 (Mv 5).toNatClampNeg).toInt)) ∧ (RfO (pz_cla (rB (Mf 1) (Mv 0)) (Mv 8).toInt.toNat (St0 (rB (Mf 1) (Mv 0)) (Mv 2) (Mv 6))) (rB (Mf 1) (Mv 0)) sv_44 sv_43 sv_46) ∧ (RwK sv_49 sv_50 sv_51 sv_52 (Mv 5) (Rs ++ [ru_cl (rB (Mf 1) (Mv 0)) (St0 (rB (Mf 1) (Mv 0)) (Mv 2) (Mv 6))])) := by
          intro h1r
          obtain ⟨pf_69, pf_70, pf_71⟩ := hm_63 h1r
          have pf_69 : RulP sv_49 sv_51 sv_52 (Mv 5) ((sv_50 (Mv 5).toNatClampNeg).toInt) := pf_69
          have ar_pf_69 := pf_69.2.1
          have pf_70 : RfO (BuR (rB (Mf 1) (Mv 0)) sv_18 (Mv 6)) (rB (Mf 1) (Mv 0)) sv_44 sv_43 sv_46 := pf_70
          have ar_pf_70 := RfO.wr pf_70
          have pf_71 : RwK sv_49 sv_50 sv_51 sv_52 (Mv 5) (Rs ++ [ru_cl (rB (Mf 1) (Mv 0)) (St0 (rB (Mf 1) (Mv 0)) sv_18 (Mv 6))]) := pf_71
          have hr_72 : ¬ (Mv 8).toInt.toNat = 12 := by
            have z_1 : ¬ ((Mv 5) : Int32).toInt = (6 : Int32).toInt := fun z => c_12 (Int32.toInt_inj.mp z)
            have z_2 : ¬ (r_23 : Int32).toInt = (0 : Int32).toInt := fun z => c_29 (Int32.toInt_inj.mp z)
            have z_3 : ¬ ((Mv 8) : Int32).toInt = (12 : Int32).toInt := fun z => c_34 (Int32.toInt_inj.mp z)
            have y_0 : (0 : Int32).toInt = 0 := by decide
            have y_6 : (6 : Int32).toInt = 6 := by decide
            have y_12 : (12 : Int32).toInt = 12 := by decide
            omega
          exact ⟨pf_69, (RfO.eq (rcl_go (by decide) (SkR.trans pf_8 pf_22) pf_31 hr_72) pf_70), (RwK.sk pf_71 (SkR.trans pf_8 pf_22))⟩
        have hm_73 : (r_60 : Int32).toInt = 0 → (RfE (pz_cla (rB (Mf 1) (Mv 0)) (Mv 8).toInt.toNat (St0 (rB (Mf 1) (Mv 0)) (Mv 2) (Mv 6))) sv_44) := by
          intro h1r
          obtain pf_74 := hm_64 h1r
          have pf_74 : RfE (BuR (rB (Mf 1) (Mv 0)) sv_18 (Mv 6)) sv_44 := pf_74
          have hr_75 : ¬ (Mv 8).toInt.toNat = 12 := by
            have z_1 : ¬ ((Mv 5) : Int32).toInt = (6 : Int32).toInt := fun z => c_12 (Int32.toInt_inj.mp z)
            have z_2 : ¬ (r_23 : Int32).toInt = (0 : Int32).toInt := fun z => c_29 (Int32.toInt_inj.mp z)
            have z_3 : ¬ ((Mv 8) : Int32).toInt = (12 : Int32).toInt := fun z => c_34 (Int32.toInt_inj.mp z)
            have y_0 : (0 : Int32).toInt = 0 := by decide
            have y_6 : (6 : Int32).toInt = 6 := by decide
            have y_12 : (12 : Int32).toInt = 12 := by decide
            omega
          exact (RfE.eq (rcl_go (by decide) (SkR.trans pf_8 pf_22) pf_31 hr_75) pf_74)
        exact retI (v := r_60) hx hb hr hlk (nar01 hb_66) hP hD hS (sv_43, sv_44, sv_45, sv_46, sv_47, x_35, sv_48, sv_49, sv_50, sv_51, sv_52, sv_53) ⟨_, rfl, hp_67, ha_65, pf_55, pf_56, pf_57, pf_58, pf_59, hm_68, hm_73⟩ [0, 1, 2, 3, 4, 5, 6] rfl rfl dX12_clauseHere_107 (Nat.le_of_ble_eq_true rfl) (Nat.le_of_ble_eq_true rfl) rfl
      · skip
        refine lv_aload_n hx hb dX12_clauseHere_74 rfl (lv_at hl 2 rfl) ?_
        refine lv_iconst (v := 4) hx hb dX12_clauseHere_75 (by decide) ?_
        refine lv_iload_n hx hb dX12_clauseHere_76 rfl (lv_at hl 1 rfl) ?_
        have ha_76 : 0 ≤ (4 : Int32).toInt ∧ (4 : Int32).toInt ≤ 4 := by
          have z_1 : ¬ ((Mv 5) : Int32).toInt = (6 : Int32).toInt := fun z => c_12 (Int32.toInt_inj.mp z)
          have z_2 : ¬ (r_23 : Int32).toInt = (0 : Int32).toInt := fun z => c_29 (Int32.toInt_inj.mp z)
          have z_3 := congrArg Int32.toInt c_34
          have y_0 : (0 : Int32).toInt = 0 := by decide
          have y_6 : (6 : Int32).toInt = 6 := by decide
          have y_12 : (12 : Int32).toInt = 12 := by decide
          have y_4 : (4 : Int32).toInt = 4 := by decide
          omega
        have ha_77 : 0 ≤ sv_4.toInt ∧ sv_4.toInt ≤ 400 := by
          have z_1 : ¬ ((Mv 5) : Int32).toInt = (6 : Int32).toInt := fun z => c_12 (Int32.toInt_inj.mp z)
          have z_2 : ¬ (r_23 : Int32).toInt = (0 : Int32).toInt := fun z => c_29 (Int32.toInt_inj.mp z)
          have z_3 := congrArg Int32.toInt c_34
          have y_0 : (0 : Int32).toInt = 0 := by decide
          have y_6 : (6 : Int32).toInt = 6 := by decide
          have y_12 : (12 : Int32).toInt = 12 := by decide
          omega
        refine cV (a := (Ma 0)) (As := [.int 4, .int sv_4]) (rest := []) (wr := [((Ma 2), .inl (tc 0, 2400, .inl (Mf 2))), ((Ma 3), .inl (tc 0, 7, .inl (Mf 3))), ((Ma 4), .inl (tc 0, 288, .inl (Mf 4))), ((Ma 5), .inl (tc 0, 6, .inl (Mf 5))), ((Ma 7), .inl (tc 0, 400, .inl (Mf 7))), ((Ma 1), .inl (tc 2, 400, .inl (Mf 1)))]) ⟨hx, hb, hml, hown, hts⟩ hK hX hA (cu_fX12_fails l D tc sk (Ma 0) (Ma 1) (Ma 2) (Ma 3) (Ma 4) (Ma 5) (Ma 6) (Ma 7) (Ma 8) (Ma 9) (Ma 10) (Ma 11) (Ma 12) (Ma 13) (Ma 14) (Ma 15) (Ma 16) (Ma 17) (Ma 18) (Ma 19) (Ma 20) (Mv 0) (Mv 1) sv_18 (Mv 3) (Mv 4) (Mv 5) (Mv 6) (Mv 7) (Mv 8) (Mv 9) (Mv 10) (Mv 11) (Mv 12) (Mv 13) (Mv 14) (Mj 0) 4 sv_4 ha_76 ha_77 h_w) k_1232 k_1229 k_1231 k_31 k_106 pl_X12_fails ⟨Nat.le_of_ble_eq_true rfl, Nat.le_of_ble_eq_true rfl⟩ rfl rfl (va_recv hK hP (ci := 12) (q0 := 5) rfl rfl) hP hD hS [5] [0, 1, 2, 3, 4, 6] rfl rfl rfl rfl rfl (by decide) rfl hl.1 rfl (Nat.le_of_ble_eq_true rfl) dX12_clauseHere_77 ⟨Nat.le_of_ble_eq_true rfl, Nat.le_of_ble_eq_true rfl⟩ (fun v_78 u_79 H locs hv_80 hP₀ hD₀ hS₀ => ?_)
        obtain ⟨sv_81, rfl⟩ : ∃ z, z = u_79 := ⟨_, rfl⟩
        obtain ⟨r_84, rfl, he_85, pf_82, pf_83⟩ := hv_80
        have he_85 : r_84.toInt = 0 := he_85
        have pf_82 : ¬ (sv_81 : Int32).toInt = 0 := pf_82
        have pf_83 : (sv_81 : Int32).toInt = 1 + 8 * sv_4.toInt + (4 : Int32).toInt := pf_83
        refine W.eq (g2 := F0 m 80 ls [.int r_84]) rfl ?_
        replace hP : va_P D classes [((Ma 2), .inl (tc 0, 2400, .inl (Mf 2))), ((Ma 3), .inl (tc 0, 7, .inl (Mf 3))), ((Ma 4), .inl (tc 0, 288, .inl (Mf 4))), ((Ma 5), .inl (tc 0, 6, .inl (Mf 5))), ((Ma 7), .inl (tc 0, 400, .inl (Mf 7))), ((Ma 1), .inl (tc 2, 400, .inl (Mf 1))), ((Ma 0), .inr (12, [.ref (Ma 1), .int (Mv 0), .int (Mv 1), .ref (Ma 2), .ref (Ma 3), .ref (Ma 4), .ref (Ma 5), .ref (Ma 6), .int sv_18, .int sv_81, .int (Mv 4), .int (Mv 5), .int (Mv 6), .int (Mv 7), .int (Mv 8), .ref (Ma 7), .int (Mv 9), .ref (Ma 8), .int (Mv 10), .ref (Ma 9), .ref (Ma 10), .int (Mv 11), .int (Mv 12), .int (Mv 13), .ref (Ma 11), .int (Mv 14), .ref (Ma 12), .ref (Ma 13), .ref (Ma 14), .ref (Ma 15), .ref (Ma 16), .long (Mj 0), .ref (Ma 17), .ref (Ma 18), .ref (Ma 19), .ref (Ma 20)]))] H := hP₀
        replace hD : va_D A [((Ma 2), .inl (tc 0, 2400, .inl (Mf 2))), ((Ma 3), .inl (tc 0, 7, .inl (Mf 3))), ((Ma 4), .inl (tc 0, 288, .inl (Mf 4))), ((Ma 5), .inl (tc 0, 6, .inl (Mf 5))), ((Ma 7), .inl (tc 0, 400, .inl (Mf 7))), ((Ma 1), .inl (tc 2, 400, .inl (Mf 1))), ((Ma 0), .inr (12, [.ref (Ma 1), .int (Mv 0), .int (Mv 1), .ref (Ma 2), .ref (Ma 3), .ref (Ma 4), .ref (Ma 5), .ref (Ma 6), .int sv_18, .int sv_81, .int (Mv 4), .int (Mv 5), .int (Mv 6), .int (Mv 7), .int (Mv 8), .ref (Ma 7), .int (Mv 9), .ref (Ma 8), .int (Mv 10), .ref (Ma 9), .ref (Ma 10), .int (Mv 11), .int (Mv 12), .int (Mv 13), .ref (Ma 11), .int (Mv 14), .ref (Ma 12), .ref (Ma 13), .ref (Ma 14), .ref (Ma 15), .ref (Ma 16), .long (Mj 0), .ref (Ma 17), .ref (Ma 18), .ref (Ma 19), .ref (Ma 20)]))] := hD₀
        replace hS := hS₀
        clear hP₀ hD₀ hS₀
        have yf_87 : (4 : Int32).toInt = 4 := by decide
        have ha_88 : ((Mv 2) : Int32).toInt ≤ (sv_18 : Int32).toInt ∧ (sv_18 : Int32).toInt ≤ ((Mv 0) : Int32).toInt := by
          have z_1 : ¬ ((Mv 5) : Int32).toInt = (6 : Int32).toInt := fun z => c_12 (Int32.toInt_inj.mp z)
          have z_2 : ¬ (r_23 : Int32).toInt = (0 : Int32).toInt := fun z => c_29 (Int32.toInt_inj.mp z)
          have z_3 := congrArg Int32.toInt c_34
          have y_0 : (0 : Int32).toInt = 0 := by decide
          have y_6 : (6 : Int32).toInt = 6 := by decide
          have y_12 : (12 : Int32).toInt = 12 := by decide
          omega
        have ha_89 : ((Mv 6) : Int32).toInt ≤ ((Mv 6) : Int32).toInt ∧ ((Mv 6) : Int32).toInt ≤ 60 := by
          have z_1 : ¬ ((Mv 5) : Int32).toInt = (6 : Int32).toInt := fun z => c_12 (Int32.toInt_inj.mp z)
          have z_2 : ¬ (r_23 : Int32).toInt = (0 : Int32).toInt := fun z => c_29 (Int32.toInt_inj.mp z)
          have z_3 := congrArg Int32.toInt c_34
          have y_0 : (0 : Int32).toInt = 0 := by decide
          have y_6 : (6 : Int32).toInt = 6 := by decide
          have y_12 : (12 : Int32).toInt = 12 := by decide
          omega
        have hb_90 : (r_84 : Int32).toInt = 0 ∨ (r_84 : Int32).toInt = 1 := by
          have z_1 : ¬ ((Mv 5) : Int32).toInt = (6 : Int32).toInt := fun z => c_12 (Int32.toInt_inj.mp z)
          have z_2 : ¬ (r_23 : Int32).toInt = (0 : Int32).toInt := fun z => c_29 (Int32.toInt_inj.mp z)
          have z_3 := congrArg Int32.toInt c_34
          have y_0 : (0 : Int32).toInt = 0 := by decide
          have y_6 : (6 : Int32).toInt = 6 := by decide
          have y_12 : (12 : Int32).toInt = 12 := by decide
          omega
        have hp_91 : (((r_84 : Int32).toInt = 0 ∧ ¬ (sv_81 : Int32).toInt = 0) ∨ ((r_84 : Int32).toInt = 1 ∧ 0 ≤ ((Mf 3) (Mv 5).toNatClampNeg).toInt ∧ ((Mf 3) (Mv 5).toNatClampNeg).toInt ≤ (sv_18 : Int32).toInt ∧ ((Mf 5) (Mv 5).toInt.toNat).toInt = ((Mv 8) : Int32).toInt ∧ 0 ≤ ((Mv 8) : Int32).toInt ∧ ((Mv 8) : Int32).toInt ≤ 12 ∧ ((Mv 8) : Int32).toInt = (Mv 8).toInt + 1 ∧ (sv_81 : Int32).toInt = 0)) := by
          have z_1 : ¬ ((Mv 5) : Int32).toInt = (6 : Int32).toInt := fun z => c_12 (Int32.toInt_inj.mp z)
          have z_2 : ¬ (r_23 : Int32).toInt = (0 : Int32).toInt := fun z => c_29 (Int32.toInt_inj.mp z)
          have z_3 := congrArg Int32.toInt c_34
          have y_0 : (0 : Int32).toInt = 0 := by decide
          have y_6 : (6 : Int32).toInt = 6 := by decide
          have y_12 : (12 : Int32).toInt = 12 := by decide
          omega
        have hm_92 : (r_84 : Int32).toInt = 1 → (RulP (Mf 2) (Mf 4) (Mf 5) (Mv 5) (((Mf 3) (Mv 5).toNatClampNeg).toInt)) ∧ (RfO (pz_cla (rB (Mf 1) (Mv 0)) (Mv 8).toInt.toNat (St0 (rB (Mf 1) (Mv 0)) (Mv 2) (Mv 6))) (rB (Mf 1) (Mv 0)) sv_81 sv_18 (Mv 6)) ∧ (RwK (Mf 2) (Mf 3) (Mf 4) (Mf 5) (Mv 5) (Rs ++ [ru_cl (rB (Mf 1) (Mv 0)) (St0 (rB (Mf 1) (Mv 0)) (Mv 2) (Mv 6))])) := by
          intro h1r
          exfalso
          have z_1 : ¬ ((Mv 5) : Int32).toInt = (6 : Int32).toInt := fun z => c_12 (Int32.toInt_inj.mp z)
          have z_2 : ¬ (r_23 : Int32).toInt = (0 : Int32).toInt := fun z => c_29 (Int32.toInt_inj.mp z)
          have z_3 := congrArg Int32.toInt c_34
          have y_0 : (0 : Int32).toInt = 0 := by decide
          have y_6 : (6 : Int32).toInt = 6 := by decide
          have y_12 : (12 : Int32).toInt = 12 := by decide
          omega
        have hm_93 : (r_84 : Int32).toInt = 0 → (RfE (pz_cla (rB (Mf 1) (Mv 0)) (Mv 8).toInt.toNat (St0 (rB (Mf 1) (Mv 0)) (Mv 2) (Mv 6))) sv_81) := by
          intro h1r
          have hr_94 : (Mv 8).toInt.toNat = 12 := by
            have z_1 : ¬ ((Mv 5) : Int32).toInt = (6 : Int32).toInt := fun z => c_12 (Int32.toInt_inj.mp z)
            have z_2 : ¬ (r_23 : Int32).toInt = (0 : Int32).toInt := fun z => c_29 (Int32.toInt_inj.mp z)
            have z_3 := congrArg Int32.toInt c_34
            have y_0 : (0 : Int32).toInt = 0 := by decide
            have y_6 : (6 : Int32).toInt = 6 := by decide
            have y_12 : (12 : Int32).toInt = 12 := by decide
            omega
          have hi_95 : (sv_81 : Int32).toInt = 1 + 8 * (sv_18 : Int32).toInt + 4 := by
            have z_1 : ¬ ((Mv 5) : Int32).toInt = (6 : Int32).toInt := fun z => c_12 (Int32.toInt_inj.mp z)
            have z_2 : ¬ (r_23 : Int32).toInt = (0 : Int32).toInt := fun z => c_29 (Int32.toInt_inj.mp z)
            have z_3 := congrArg Int32.toInt c_34
            have y_0 : (0 : Int32).toInt = 0 := by decide
            have y_6 : (6 : Int32).toInt = 6 := by decide
            have y_12 : (12 : Int32).toInt = 12 := by decide
            omega
          exact (rcl_12 (by decide) (SkR.trans pf_8 pf_22) pf_31 hr_94 hi_95)
        exact retI (v := r_84) hx hb hr hlk (nar01 hb_90) hP hD hS (sv_18, sv_81, (Mv 4), (Mv 6), (Mv 7), (Mv 8), (Mv 9), (Mf 2), (Mf 3), (Mf 4), (Mf 5), (Mf 7)) ⟨_, rfl, hp_91, ha_88, ha_89, h_rp.1, (Agr.rf), (Agr.rf), (Agr.rf), hm_92, hm_93⟩ [6, 5, 0, 1, 2, 3, 4] rfl rfl dX12_clauseHere_80 (Nat.le_of_ble_eq_true rfl) (Nat.le_of_ble_eq_true rfl) rfl
    · skip
      have hz_97 : (r_23 : Int32).toInt = 0 := by
        have z_1 : ¬ ((Mv 5) : Int32).toInt = (6 : Int32).toInt := fun z => c_12 (Int32.toInt_inj.mp z)
        have z_2 := congrArg Int32.toInt c_29
        have y_0 : (0 : Int32).toInt = 0 := by decide
        have y_6 : (6 : Int32).toInt = 6 := by decide
        omega
      obtain pf_96 := hm_27 hz_97
      have pf_96 : NPk (rB (Mf 1) (Mv 0)) ((sv_18 : Int32).toInt.toNat) (6452601 : Int64).toInt := pf_96
      refine lv_aload_n hx hb dX12_clauseHere_49 rfl (lv_at hl 2 rfl) ?_
      refine lv_iconst (v := 0) hx hb dX12_clauseHere_50 (by decide) ?_
      refine lv_iload_n hx hb dX12_clauseHere_51 rfl (lv_at hl 1 rfl) ?_
      have ha_98 : 0 ≤ (0 : Int32).toInt ∧ (0 : Int32).toInt ≤ 4 := by
        have z_1 : ¬ ((Mv 5) : Int32).toInt = (6 : Int32).toInt := fun z => c_12 (Int32.toInt_inj.mp z)
        have z_2 := congrArg Int32.toInt c_29
        have y_0 : (0 : Int32).toInt = 0 := by decide
        have y_6 : (6 : Int32).toInt = 6 := by decide
        omega
      have ha_99 : 0 ≤ sv_4.toInt ∧ sv_4.toInt ≤ 400 := by
        have z_1 : ¬ ((Mv 5) : Int32).toInt = (6 : Int32).toInt := fun z => c_12 (Int32.toInt_inj.mp z)
        have z_2 := congrArg Int32.toInt c_29
        have y_0 : (0 : Int32).toInt = 0 := by decide
        have y_6 : (6 : Int32).toInt = 6 := by decide
        omega
      refine cV (a := (Ma 0)) (As := [.int 0, .int sv_4]) (rest := []) (wr := [((Ma 2), .inl (tc 0, 2400, .inl (Mf 2))), ((Ma 3), .inl (tc 0, 7, .inl (Mf 3))), ((Ma 4), .inl (tc 0, 288, .inl (Mf 4))), ((Ma 5), .inl (tc 0, 6, .inl (Mf 5))), ((Ma 7), .inl (tc 0, 400, .inl (Mf 7))), ((Ma 1), .inl (tc 2, 400, .inl (Mf 1)))]) ⟨hx, hb, hml, hown, hts⟩ hK hX hA (cu_fX12_fails l D tc sk (Ma 0) (Ma 1) (Ma 2) (Ma 3) (Ma 4) (Ma 5) (Ma 6) (Ma 7) (Ma 8) (Ma 9) (Ma 10) (Ma 11) (Ma 12) (Ma 13) (Ma 14) (Ma 15) (Ma 16) (Ma 17) (Ma 18) (Ma 19) (Ma 20) (Mv 0) (Mv 1) sv_18 (Mv 3) (Mv 4) (Mv 5) (Mv 6) (Mv 7) (Mv 8) (Mv 9) (Mv 10) (Mv 11) (Mv 12) (Mv 13) (Mv 14) (Mj 0) 0 sv_4 ha_98 ha_99 h_w) k_1232 k_1229 k_1231 k_31 k_106 pl_X12_fails ⟨Nat.le_of_ble_eq_true rfl, Nat.le_of_ble_eq_true rfl⟩ rfl rfl (va_recv hK hP (ci := 12) (q0 := 5) rfl rfl) hP hD hS [5] [0, 1, 2, 3, 4, 6] rfl rfl rfl rfl rfl (by decide) rfl hl.1 rfl (Nat.le_of_ble_eq_true rfl) dX12_clauseHere_52 ⟨Nat.le_of_ble_eq_true rfl, Nat.le_of_ble_eq_true rfl⟩ (fun v_100 u_101 H locs hv_102 hP₀ hD₀ hS₀ => ?_)
      obtain ⟨sv_103, rfl⟩ : ∃ z, z = u_101 := ⟨_, rfl⟩
      obtain ⟨r_106, rfl, he_107, pf_104, pf_105⟩ := hv_102
      have he_107 : r_106.toInt = 0 := he_107
      have pf_104 : ¬ (sv_103 : Int32).toInt = 0 := pf_104
      have pf_105 : (sv_103 : Int32).toInt = 1 + 8 * sv_4.toInt + (0 : Int32).toInt := pf_105
      refine W.eq (g2 := F0 m 55 ls [.int r_106]) rfl ?_
      replace hP : va_P D classes [((Ma 2), .inl (tc 0, 2400, .inl (Mf 2))), ((Ma 3), .inl (tc 0, 7, .inl (Mf 3))), ((Ma 4), .inl (tc 0, 288, .inl (Mf 4))), ((Ma 5), .inl (tc 0, 6, .inl (Mf 5))), ((Ma 7), .inl (tc 0, 400, .inl (Mf 7))), ((Ma 1), .inl (tc 2, 400, .inl (Mf 1))), ((Ma 0), .inr (12, [.ref (Ma 1), .int (Mv 0), .int (Mv 1), .ref (Ma 2), .ref (Ma 3), .ref (Ma 4), .ref (Ma 5), .ref (Ma 6), .int sv_18, .int sv_103, .int (Mv 4), .int (Mv 5), .int (Mv 6), .int (Mv 7), .int (Mv 8), .ref (Ma 7), .int (Mv 9), .ref (Ma 8), .int (Mv 10), .ref (Ma 9), .ref (Ma 10), .int (Mv 11), .int (Mv 12), .int (Mv 13), .ref (Ma 11), .int (Mv 14), .ref (Ma 12), .ref (Ma 13), .ref (Ma 14), .ref (Ma 15), .ref (Ma 16), .long (Mj 0), .ref (Ma 17), .ref (Ma 18), .ref (Ma 19), .ref (Ma 20)]))] H := hP₀
      replace hD : va_D A [((Ma 2), .inl (tc 0, 2400, .inl (Mf 2))), ((Ma 3), .inl (tc 0, 7, .inl (Mf 3))), ((Ma 4), .inl (tc 0, 288, .inl (Mf 4))), ((Ma 5), .inl (tc 0, 6, .inl (Mf 5))), ((Ma 7), .inl (tc 0, 400, .inl (Mf 7))), ((Ma 1), .inl (tc 2, 400, .inl (Mf 1))), ((Ma 0), .inr (12, [.ref (Ma 1), .int (Mv 0), .int (Mv 1), .ref (Ma 2), .ref (Ma 3), .ref (Ma 4), .ref (Ma 5), .ref (Ma 6), .int sv_18, .int sv_103, .int (Mv 4), .int (Mv 5), .int (Mv 6), .int (Mv 7), .int (Mv 8), .ref (Ma 7), .int (Mv 9), .ref (Ma 8), .int (Mv 10), .ref (Ma 9), .ref (Ma 10), .int (Mv 11), .int (Mv 12), .int (Mv 13), .ref (Ma 11), .int (Mv 14), .ref (Ma 12), .ref (Ma 13), .ref (Ma 14), .ref (Ma 15), .ref (Ma 16), .long (Mj 0), .ref (Ma 17), .ref (Ma 18), .ref (Ma 19), .ref (Ma 20)]))] := hD₀
      replace hS := hS₀
      clear hP₀ hD₀ hS₀
      have yf_109 : (0 : Int32).toInt = 0 := by decide
      have ha_110 : ((Mv 2) : Int32).toInt ≤ (sv_18 : Int32).toInt ∧ (sv_18 : Int32).toInt ≤ ((Mv 0) : Int32).toInt := by
        have z_1 : ¬ ((Mv 5) : Int32).toInt = (6 : Int32).toInt := fun z => c_12 (Int32.toInt_inj.mp z)
        have z_2 := congrArg Int32.toInt c_29
        have y_0 : (0 : Int32).toInt = 0 := by decide
        have y_6 : (6 : Int32).toInt = 6 := by decide
        omega
      have ha_111 : ((Mv 6) : Int32).toInt ≤ ((Mv 6) : Int32).toInt ∧ ((Mv 6) : Int32).toInt ≤ 60 := by
        have z_1 : ¬ ((Mv 5) : Int32).toInt = (6 : Int32).toInt := fun z => c_12 (Int32.toInt_inj.mp z)
        have z_2 := congrArg Int32.toInt c_29
        have y_0 : (0 : Int32).toInt = 0 := by decide
        have y_6 : (6 : Int32).toInt = 6 := by decide
        omega
      have hb_112 : (r_106 : Int32).toInt = 0 ∨ (r_106 : Int32).toInt = 1 := by
        have z_1 : ¬ ((Mv 5) : Int32).toInt = (6 : Int32).toInt := fun z => c_12 (Int32.toInt_inj.mp z)
        have z_2 := congrArg Int32.toInt c_29
        have y_0 : (0 : Int32).toInt = 0 := by decide
        have y_6 : (6 : Int32).toInt = 6 := by decide
        omega
      have hp_113 : (((r_106 : Int32).toInt = 0 ∧ ¬ (sv_103 : Int32).toInt = 0) ∨ ((r_106 : Int32).toInt = 1 ∧ 0 ≤ ((Mf 3) (Mv 5).toNatClampNeg).toInt ∧ ((Mf 3) (Mv 5).toNatClampNeg).toInt ≤ (sv_18 : Int32).toInt ∧ ((Mf 5) (Mv 5).toInt.toNat).toInt = ((Mv 8) : Int32).toInt ∧ 0 ≤ ((Mv 8) : Int32).toInt ∧ ((Mv 8) : Int32).toInt ≤ 12 ∧ ((Mv 8) : Int32).toInt = (Mv 8).toInt + 1 ∧ (sv_103 : Int32).toInt = 0)) := by
        have z_1 : ¬ ((Mv 5) : Int32).toInt = (6 : Int32).toInt := fun z => c_12 (Int32.toInt_inj.mp z)
        have z_2 := congrArg Int32.toInt c_29
        have y_0 : (0 : Int32).toInt = 0 := by decide
        have y_6 : (6 : Int32).toInt = 6 := by decide
        omega
      have hm_114 : (r_106 : Int32).toInt = 1 → (RulP (Mf 2) (Mf 4) (Mf 5) (Mv 5) (((Mf 3) (Mv 5).toNatClampNeg).toInt)) ∧ (RfO (pz_cla (rB (Mf 1) (Mv 0)) (Mv 8).toInt.toNat (St0 (rB (Mf 1) (Mv 0)) (Mv 2) (Mv 6))) (rB (Mf 1) (Mv 0)) sv_103 sv_18 (Mv 6)) ∧ (RwK (Mf 2) (Mf 3) (Mf 4) (Mf 5) (Mv 5) (Rs ++ [ru_cl (rB (Mf 1) (Mv 0)) (St0 (rB (Mf 1) (Mv 0)) (Mv 2) (Mv 6))])) := by
        intro h1r
        exfalso
        have z_1 : ¬ ((Mv 5) : Int32).toInt = (6 : Int32).toInt := fun z => c_12 (Int32.toInt_inj.mp z)
        have z_2 := congrArg Int32.toInt c_29
        have y_0 : (0 : Int32).toInt = 0 := by decide
        have y_6 : (6 : Int32).toInt = 6 := by decide
        omega
      have hm_115 : (r_106 : Int32).toInt = 0 → (RfE (pz_cla (rB (Mf 1) (Mv 0)) (Mv 8).toInt.toNat (St0 (rB (Mf 1) (Mv 0)) (Mv 2) (Mv 6))) sv_103) := by
        intro h1r
        have hi_116 : (sv_103 : Int32).toInt = 1 + 8 * (sv_18 : Int32).toInt := by
          have z_1 : ¬ ((Mv 5) : Int32).toInt = (6 : Int32).toInt := fun z => c_12 (Int32.toInt_inj.mp z)
          have z_2 := congrArg Int32.toInt c_29
          have y_0 : (0 : Int32).toInt = 0 := by decide
          have y_6 : (6 : Int32).toInt = 6 := by decide
          omega
        exact (rcl_no (by decide) (SkR.trans pf_8 pf_22) pf_96 hi_116)
      exact retI (v := r_106) hx hb hr hlk (nar01 hb_112) hP hD hS (sv_18, sv_103, (Mv 4), (Mv 6), (Mv 7), (Mv 8), (Mv 9), (Mf 2), (Mf 3), (Mf 4), (Mf 5), (Mf 7)) ⟨_, rfl, hp_113, ha_110, ha_111, h_rp.1, (Agr.rf), (Agr.rf), (Agr.rf), hm_114, hm_115⟩ [6, 5, 0, 1, 2, 3, 4] rfl rfl dX12_clauseHere_55 (Nat.le_of_ble_eq_true rfl) (Nat.le_of_ble_eq_true rfl) rfl
  · skip
    exfalso
    have z_1 := congrArg Int32.toInt c_12
    have y_6 : (6 : Int32).toInt = 6 := by decide
    omega
set_option maxRecDepth 100000 in
theorem cu_kX12_clauseHere_r (l : Launch) (D : va_G) (tc : Nat → ClassId) (sk : (Nat → Nat) × (Nat → Nat)) (Ma_0 : Nat) (Ma_1 : Nat) (Ma_2 : Nat) (Ma_3 : Nat) (Ma_4 : Nat) (Ma_5 : Nat) (Ma_6 : Nat) (Ma_7 : Nat) (Ma_8 : Nat) (Ma_9 : Nat) (Ma_10 : Nat) (Ma_11 : Nat) (Ma_12 : Nat) (Ma_13 : Nat) (Ma_14 : Nat) (Ma_15 : Nat) (Ma_16 : Nat) (Ma_17 : Nat) (Ma_18 : Nat) (Ma_19 : Nat) (Ma_20 : Nat) (Mv_0 : Int32) (Mv_1 : Int32) (Mv_2 : Int32) (Mv_3 : Int32) (Mv_4 : Int32) (Mv_5 : Int32) (Mv_6 : Int32) (Mv_7 : Int32) (Mv_8 : Int32) (Mv_9 : Int32) (Mv_10 : Int32) (Mv_11 : Int32) (Mv_12 : Int32) (Mv_13 : Int32) (Mv_14 : Int32) (Mf_1 : Nat → Int32) (Mf_2 : Nat → Int32) (Mf_3 : Nat → Int32) (Mf_4 : Nat → Int32) (Mf_5 : Nat → Int32) (Mf_7 : Nat → Int32) (Mj_0 : Int64) (ll : List Int) (Rs : RuA) (h_nx : 0 ≤ (Mv_2 : Int32).toInt ∧ (Mv_2 : Int32).toInt ≤ (Mv_0 : Int32).toInt ∧ (Mv_0 : Int32).toInt ≤ 400) (h_md : 0 ≤ (Mv_6 : Int32).toInt ∧ (Mv_6 : Int32).toInt ≤ 60) (h_t : 0 ≤ (Mv_5 : Int32).toInt ∧ (Mv_5 : Int32).toInt ≤ 5) (h_L : 0 ≤ (Mf_3 Mv_5.toNatClampNeg).toInt ∧ (Mf_3 Mv_5.toNatClampNeg).toInt ≤ (Mv_2 : Int32).toInt) (h_rp : RulP Mf_2 Mf_4 Mf_5 Mv_5 ((Mf_3 Mv_5.toNatClampNeg).toInt)) (h_c : (Mf_5 Mv_5.toInt.toNat).toInt = (Mv_8 : Int32).toInt ∧ 0 ≤ (Mv_8 : Int32).toInt ∧ (Mv_8 : Int32).toInt ≤ 12) (h_bs : ByS Mf_1) (h_w : (Mv_3 : Int32).toInt = 0) (h_sg : SgC Mf_2 Mf_3 Mv_5 ll) (h_rw : RwL Mf_4 Mf_5 Mv_5 ll Rs) : Ct l yX12_clauseHere cX12_clauseHere 3 (some .boolean) { frames := 10, cells := 0, slots := 0, locals := 219 } D tc sk [.ref Ma_0] [(Ma_0, .inr (12, [.ref Ma_1, .int Mv_0, .int Mv_1, .ref Ma_2, .ref Ma_3, .ref Ma_4, .ref Ma_5, .ref Ma_6, .int Mv_2, .int Mv_3, .int Mv_4, .int Mv_5, .int Mv_6, .int Mv_7, .int Mv_8, .ref Ma_7, .int Mv_9, .ref Ma_8, .int Mv_10, .ref Ma_9, .ref Ma_10, .int Mv_11, .int Mv_12, .int Mv_13, .ref Ma_11, .int Mv_14, .ref Ma_12, .ref Ma_13, .ref Ma_14, .ref Ma_15, .ref Ma_16, .long Mj_0, .ref Ma_17, .ref Ma_18, .ref Ma_19, .ref Ma_20])), (Ma_1, .inl (tc 2, 400, .inl Mf_1)), (Ma_2, .inl (tc 0, 2400, .inl Mf_2)), (Ma_3, .inl (tc 0, 7, .inl Mf_3)), (Ma_4, .inl (tc 0, 288, .inl Mf_4)), (Ma_5, .inl (tc 0, 6, .inl Mf_5)), (Ma_7, .inl (tc 0, 400, .inl Mf_7))] (fun (v : Option Value) (u : (Int32) × (Int32) × (Int32) × (Int32) × (Int32) × (Int32) × (Int32) × (Nat → Int32) × (Nat → Int32) × (Nat → Int32) × (Nat → Int32) × (Nat → Int32)) => match u with | (oo0x1, oo0x2, oo0x3, oo0x4, oo0x5, oo0x6, oo0x7, oo0x8, oo0x9, oo0x10, oo0x11, oo0x12) => ∃ r : Int32, v = some (.int r) ∧ (((r.toInt = 0 ∧ ¬ (oo0x2 : Int32).toInt = 0) ∨ (r.toInt = 1 ∧ 0 ≤ (oo0x9 Mv_5.toNatClampNeg).toInt ∧ (oo0x9 Mv_5.toNatClampNeg).toInt ≤ (oo0x1 : Int32).toInt ∧ (oo0x11 Mv_5.toInt.toNat).toInt = (oo0x6 : Int32).toInt ∧ 0 ≤ (oo0x6 : Int32).toInt ∧ (oo0x6 : Int32).toInt ≤ 12 ∧ (oo0x6 : Int32).toInt = Mv_8.toInt + 1 ∧ (oo0x2 : Int32).toInt = 0))) ∧ ((Mv_2 : Int32).toInt ≤ (oo0x1 : Int32).toInt ∧ (oo0x1 : Int32).toInt ≤ (Mv_0 : Int32).toInt) ∧ ((Mv_6 : Int32).toInt ≤ (oo0x4 : Int32).toInt ∧ (oo0x4 : Int32).toInt ≤ 60) ∧ (RulD oo0x8 oo0x10 oo0x11 Mv_5) ∧ (Agr Mf_2 oo0x8 (400 * (Mv_5 : Int32).toInt)) ∧ (Agr Mf_4 oo0x10 (48 * (Mv_5 : Int32).toInt)) ∧ (Agr Mf_5 oo0x11 (Mv_5 : Int32).toInt) ∧ (r.toInt = 1 → (RulP oo0x8 oo0x10 oo0x11 Mv_5 ((oo0x9 Mv_5.toNatClampNeg).toInt)) ∧ (RfO (pz_cla (rB Mf_1 Mv_0) Mv_8.toInt.toNat (St0 (rB Mf_1 Mv_0) Mv_2 Mv_6)) (rB Mf_1 Mv_0) oo0x2 oo0x1 oo0x4) ∧ (RwK oo0x8 oo0x9 oo0x10 oo0x11 Mv_5 (Rs ++ [ru_cl (rB Mf_1 Mv_0) (St0 (rB Mf_1 Mv_0) Mv_2 Mv_6)]))) ∧ (r.toInt = 0 → (RfE (pz_cla (rB Mf_1 Mv_0) Mv_8.toInt.toNat (St0 (rB Mf_1 Mv_0) Mv_2 Mv_6)) oo0x2))) (fun (u : (Int32) × (Int32) × (Int32) × (Int32) × (Int32) × (Int32) × (Int32) × (Nat → Int32) × (Nat → Int32) × (Nat → Int32) × (Nat → Int32) × (Nat → Int32)) => match u with | (oo0x1, oo0x2, oo0x3, oo0x4, oo0x5, oo0x6, oo0x7, oo0x8, oo0x9, oo0x10, oo0x11, oo0x12) => [(Ma_0, .inr (12, [.ref Ma_1, .int Mv_0, .int Mv_1, .ref Ma_2, .ref Ma_3, .ref Ma_4, .ref Ma_5, .ref Ma_6, .int oo0x1, .int oo0x2, .int oo0x3, .int Mv_5, .int oo0x4, .int oo0x5, .int oo0x6, .ref Ma_7, .int oo0x7, .ref Ma_8, .int Mv_10, .ref Ma_9, .ref Ma_10, .int Mv_11, .int Mv_12, .int Mv_13, .ref Ma_11, .int Mv_14, .ref Ma_12, .ref Ma_13, .ref Ma_14, .ref Ma_15, .ref Ma_16, .long Mj_0, .ref Ma_17, .ref Ma_18, .ref Ma_19, .ref Ma_20])), (Ma_1, .inl (tc 2, 400, .inl Mf_1)), (Ma_2, .inl (tc 0, 2400, .inl oo0x8)), (Ma_3, .inl (tc 0, 7, .inl oo0x9)), (Ma_4, .inl (tc 0, 288, .inl oo0x10)), (Ma_5, .inl (tc 0, 6, .inl oo0x11)), (Ma_7, .inl (tc 0, 400, .inl oo0x12))]) 0 0 :=
  ct_kX12_clauseHere_r l D tc sk (fun k => ([Ma_0, Ma_1, Ma_2, Ma_3, Ma_4, Ma_5, Ma_6, Ma_7, Ma_8, Ma_9, Ma_10, Ma_11, Ma_12, Ma_13, Ma_14, Ma_15, Ma_16, Ma_17, Ma_18, Ma_19, Ma_20] : List (Nat)).getD k 0) (fun k => ([Mv_0, Mv_1, Mv_2, Mv_3, Mv_4, Mv_5, Mv_6, Mv_7, Mv_8, Mv_9, Mv_10, Mv_11, Mv_12, Mv_13, Mv_14] : List (Int32)).getD k 0) (fun k => ([(fun _ => 0), Mf_1, Mf_2, Mf_3, Mf_4, Mf_5, (fun _ => 0), Mf_7] : List (Nat → Int32)).getD k (fun _ => 0)) (fun k => ([Mj_0] : List (Int64)).getD k 0) ll Rs h_nx h_md h_t h_L h_rp h_c h_bs h_w h_sg h_rw
