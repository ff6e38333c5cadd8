set_option maxRecDepth 100000 in
theorem cu_kX12_compare (l : Launch) (D : va_G) (tc : Nat → ClassId) (sk : (Nat → Nat) × (Nat → Nat)) (Ma_0 : Nat) (Ma_1 : Nat) (Ma_2 : Nat) (Ma_3 : Nat) (Ma_4 : Nat) (Ma_5 : Nat) (Ma_6 : Nat) (Ma_7 : Nat) (Ma_8 : Nat) (Ma_9 : Nat) (Ma_10 : Nat) (Ma_11 : Nat) (Ma_12 : Nat) (Ma_13 : Nat) (Ma_14 : Nat) (Ma_15 : Nat) (Ma_16 : Nat) (Ma_17 : Nat) (Ma_18 : Nat) (Ma_19 : Nat) (Ma_20 : Nat) (Mv_0 : Int32) (Mv_1 : Int32) (Mv_2 : Int32) (Mv_3 : Int32) (Mv_4 : Int32) (Mv_5 : Int32) (Mv_6 : Int32) (Mv_7 : Int32) (Mv_8 : Int32) (Mv_9 : Int32) (Mv_10 : Int32) (Mv_11 : Int32) (Mv_12 : Int32) (Mv_13 : Int32) (Mv_14 : Int32) (Mf_1 : Nat → Int32) (Mf_2 : Nat → Int32) (Mf_3 : Nat → Int32) (Mj_0 : Int64) (b : Int32) (d : Nat) (ll : List Int) (h_nx : 0 ≤ (Mv_2 : Int32).toInt ∧ (Mv_2 : Int32).toInt ≤ (Mv_0 : Int32).toInt ∧ (Mv_0 : Int32).toInt ≤ 400) (h_cd : Cd Mf_2 Mf_3 Mv_5 b Mv_6 d) (h_L : (Mf_3 Mv_5.toNatClampNeg).toInt ≤ (Mv_2 : Int32).toInt) (h_md : 0 ≤ (Mv_6 : Int32).toInt ∧ (Mv_6 : Int32).toInt ≤ 60) (h_bs : ByS Mf_1) (h_w : (Mv_3 : Int32).toInt = 0) (h_sg : SgC Mf_2 Mf_3 Mv_5 ll) : Ct l yX12_compare cX12_compare 5 (some .boolean) { frames := 6, cells := 0, slots := 0, locals := 130 } D tc sk [.ref Ma_0] [(Ma_0, .inr (12, [.ref Ma_1, .int Mv_0, .int Mv_1, .ref Ma_2, .ref Ma_3, .ref Ma_4, .ref Ma_5, .ref Ma_6, .int Mv_2, .int Mv_3, .int Mv_4, .int Mv_5, .int Mv_6, .int Mv_7, .int Mv_8, .ref Ma_7, .int Mv_9, .ref Ma_8, .int Mv_10, .ref Ma_9, .ref Ma_10, .int Mv_11, .int Mv_12, .int Mv_13, .ref Ma_11, .int Mv_14, .ref Ma_12, .ref Ma_13, .ref Ma_14, .ref Ma_15, .ref Ma_16, .long Mj_0, .ref Ma_17, .ref Ma_18, .ref Ma_19, .ref Ma_20])), (Ma_1, .inl (tc 2, 400, .inl Mf_1)), (Ma_2, .inl (tc 0, 2400, .inl Mf_2)), (Ma_3, .inl (tc 0, 7, .inl Mf_3))] (fun (v : Option Value) (u : (Int32) × (Int32) × (Int32) × (Int32) × (Nat → Int32) × (Nat → Int32)) => match u with | (oo0x1, oo0x2, oo0x3, oo0x4, oo0x5, oo0x6) => ∃ r : Int32, v = some (.int r) ∧ (((r.toInt = 0 ∧ ¬ (oo0x2 : Int32).toInt = 0) ∨ (r.toInt = 1 ∧ (Mf_3 Mv_5.toNatClampNeg).toInt + 1 ≤ (oo0x6 Mv_5.toNatClampNeg).toInt ∧ (oo0x6 Mv_5.toNatClampNeg).toInt + (Mv_2 : Int32).toInt ≤ (Mf_3 Mv_5.toNatClampNeg).toInt + (oo0x1 : Int32).toInt ∧ (Mv_2 : Int32).toInt + 1 ≤ (oo0x1 : Int32).toInt))) ∧ ((Mv_2 : Int32).toInt ≤ (oo0x1 : Int32).toInt ∧ (oo0x1 : Int32).toInt ≤ (Mv_0 : Int32).toInt) ∧ ((Mv_6 : Int32).toInt ≤ (oo0x4 : Int32).toInt ∧ (oo0x4 : Int32).toInt ≤ 60) ∧ (Agr Mf_2 oo0x5 (400 * (Mv_5 : Int32).toInt + (Mf_3 Mv_5.toNatClampNeg).toInt)) ∧ (r.toInt = 1 → (Cd oo0x5 oo0x6 Mv_5 b oo0x4 (d + 1)) ∧ (RfO (pz_com (rB Mf_1 Mv_0) (St0 (rB Mf_1 Mv_0) Mv_2 Mv_6)) (rB Mf_1 Mv_0) oo0x2 oo0x1 oo0x4) ∧ (SgC oo0x5 oo0x6 Mv_5 (ll ++ ec_com (rB Mf_1 Mv_0) (St0 (rB Mf_1 Mv_0) Mv_2 Mv_6)))) ∧ (r.toInt = 0 → (RfE (pz_com (rB Mf_1 Mv_0) (St0 (rB Mf_1 Mv_0) Mv_2 Mv_6)) oo0x2))) (fun (u : (Int32) × (Int32) × (Int32) × (Int32) × (Nat → Int32) × (Nat → Int32)) => match u with | (oo0x1, oo0x2, oo0x3, oo0x4, oo0x5, oo0x6) => [(Ma_0, .inr (12, [.ref Ma_1, .int Mv_0, .int Mv_1, .ref Ma_2, .ref Ma_3, .ref Ma_4, .ref Ma_5, .ref Ma_6, .int oo0x1, .int oo0x2, .int oo0x3, .int Mv_5, .int oo0x4, .int Mv_7, .int Mv_8, .ref Ma_7, .int Mv_9, .ref Ma_8, .int Mv_10, .ref Ma_9, .ref Ma_10, .int Mv_11, .int Mv_12, .int Mv_13, .ref Ma_11, .int Mv_14, .ref Ma_12, .ref Ma_13, .ref Ma_14, .ref Ma_15, .ref Ma_16, .long Mj_0, .ref Ma_17, .ref Ma_18, .ref Ma_19, .ref Ma_20])), (Ma_1, .inl (tc 2, 400, .inl Mf_1)), (Ma_2, .inl (tc 0, 2400, .inl oo0x5)), (Ma_3, .inl (tc 0, 7, .inl oo0x6))]) 0 0 :=
  ct_kX12_compare l D tc sk (fun k => ([Ma_0, Ma_1, Ma_2, Ma_3, Ma_4, Ma_5, Ma_6, Ma_7, Ma_8, Ma_9, Ma_10, Ma_11, Ma_12, Ma_13, Ma_14, Ma_15, Ma_16, Ma_17, Ma_18, Ma_19, Ma_20] : List (Nat)).getD k 0) (fun k => ([Mv_0, Mv_1, Mv_2, Mv_3, Mv_4, Mv_5, Mv_6, Mv_7, Mv_8, Mv_9, Mv_10, Mv_11, Mv_12, Mv_13, Mv_14] : List (Int32)).getD k 0) (fun k => ([(fun _ => 0), Mf_1, Mf_2, Mf_3] : List (Nat → Int32)).getD k (fun _ => 0)) (fun k => ([Mj_0] : List (Int64)).getD k 0) b d ll h_nx h_cd h_L h_md h_bs h_w h_sg
set_option maxHeartbeats 4000000 in
set_option maxRecDepth 100000 in
theorem ct_kX12_opens (l : Launch) (D : va_G) (tc : Nat → ClassId) (sk : (Nat → Nat) × (Nat → Nat)) (Ma : Nat → Nat) (Mv : Nat → Int32) (Mf : Nat → Nat → Int32) (Mj : Nat → Int64) (x1 : Int32) (pq0 : Nat) (h_nx : 0 ≤ ((Mv 2) : Int32).toInt ∧ ((Mv 2) : Int32).toInt ≤ ((Mv 0) : Int32).toInt ∧ ((Mv 0) : Int32).toInt ≤ 400) (h_ops : OpS (Mf 7) (Mv 9) pq0) (h_o : ((Mv 9) : Int32).toInt < 400) (h_wx : x1.toInt = 11 ∨ x1.toInt = 91) (h_os : OsP (Mf 7) (Mv 9) (Mv 7)) (h_w : ((Mv 3) : Int32).toInt = 0) : Ct l yX12_opens cX12_opens 2 (some .boolean) { frames := 1, cells := 0, slots := 0, locals := 22 } D tc sk [.ref (Ma 0), .int x1] [((Ma 0), .inr (12, [.ref (Ma 1), .int (Mv 0), .int (Mv 1), .ref (Ma 2), .ref (Ma 3), .ref (Ma 4), .ref (Ma 5), .ref (Ma 6), .int (Mv 2), .int (Mv 3), .int (Mv 4), .int (Mv 5), .int (Mv 6), .int (Mv 7), .int (Mv 8), .ref (Ma 7), .int (Mv 9), .ref (Ma 8), .int (Mv 10), .ref (Ma 9), .ref (Ma 10), .int (Mv 11), .int (Mv 12), .int (Mv 13), .ref (Ma 11), .int (Mv 14), .ref (Ma 12), .ref (Ma 13), .ref (Ma 14), .ref (Ma 15), .ref (Ma 16), .long (Mj 0), .ref (Ma 17), .ref (Ma 18), .ref (Ma 19), .ref (Ma 20)])), ((Ma 7), .inl (tc 0, 400, .inl (Mf 7)))] (fun (v : Option Value) (u : (Int32) × (Int32) × (Int32) × (Nat → Int32)) => match u with | (oo0x1, oo0x2, oo0x3, oo0x4) => ∃ r : Int32, v = some (.int r) ∧ (((r.toInt = 0 ∧ ¬ (oo0x1 : Int32).toInt = 0 ∧ (Mv 7).toInt = 10 ∧ (oo0x1 : Int32).toInt = 1 + 8 * (Mv 2).toInt + 2) ∨ (r.toInt = 1 ∧ (oo0x3 : Int32).toInt = ((Mv 9) : Int32).toInt + 1 ∧ (oo0x2 : Int32).toInt = (Mv 7).toInt + 1 ∧ (Mv 7).toInt < 10 ∧ (oo0x1 : Int32).toInt = 0))) ∧ (r.toInt = 1 → (OpS oo0x4 oo0x3 pq0) ∧ (OpP (Mf 7) (Mv 9) oo0x4 oo0x3 oo0x2 x1) ∧ (OpX (Mf 7) (Mv 9) oo0x4 oo0x3 x1))) (fun (u : (Int32) × (Int32) × (Int32) × (Nat → Int32)) => match u with | (oo0x1, oo0x2, oo0x3, oo0x4) => [((Ma 0), .inr (12, [.ref (Ma 1), .int (Mv 0), .int (Mv 1), .ref (Ma 2), .ref (Ma 3), .ref (Ma 4), .ref (Ma 5), .ref (Ma 6), .int (Mv 2), .int oo0x1, .int (Mv 4), .int (Mv 5), .int (Mv 6), .int oo0x2, .int (Mv 8), .ref (Ma 7), .int oo0x3, .ref (Ma 8), .int (Mv 10), .ref (Ma 9), .ref (Ma 10), .int (Mv 11), .int (Mv 12), .int (Mv 13), .ref (Ma 11), .int (Mv 14), .ref (Ma 12), .ref (Ma 13), .ref (Ma 14), .ref (Ma 15), .ref (Ma 16), .long (Mj 0), .ref (Ma 17), .ref (Ma 18), .ref (Ma 19), .ref (Ma 20)])), ((Ma 7), .inl (tc 0, 400, .inl oo0x4))]) 0 0 := by
  refine Ct.start (by decide) (Nat.le_of_ble_eq_true rfl) (fun p e s m below meth c A ls hx hb hr hlk hin hml hown hts hK hX hP hD hA hl hS => ?_)
  have hl : lv_has ls 2 [(0, .ref (Ma 0)), (1, .int x1)] := hl
  have ar_h_ops := OpS.ar h_ops
  have ar_h_os := OsP.ar h_os
  refine lv_aload_n hx hb dX12_opens_0 rfl (lv_at hl 0 rfl) ?_
  refine gf_X12_151 hx hb hts hown hK hP 0 rfl rfl dX12_opens_1 ?_
  refine lv_bipush (v := 10) hx hb dX12_opens_4 (by decide) ?_
  refine lv_icmp_ne (tgt := 19) hx hb dX12_opens_6 (by decide) (fun c_1 => ?_) (fun c_1 => ?_)
  · skip
    refine lv_aload_n hx hb dX12_opens_19 rfl (lv_at hl 0 rfl) ?_
    refine lv_dup hx hb dX12_opens_20 rfl ?_
    refine gf_X12_151 hx hb hts hown hK hP 0 rfl rfl dX12_opens_21 ?_
    refine lv_iconst (v := 1) hx hb dX12_opens_24 (by decide) ?_
    refine lv_iadd hx hb dX12_opens_25 ?_
    refine lv_topi (fun x_2 ex_2 => ?_)
    refine pf_X12_151 hx hb hts hown hK hP hD hS 0 rfl (Nat.le_of_ble_eq_true rfl) rfl rfl dX12_opens_26 (fun H locs hP₀ hD₀ hS₀ => ?_)
    replace hP : va_P D classes [((Ma 0), .inr (12, [.ref (Ma 1), .int (Mv 0), .int (Mv 1), .ref (Ma 2), .ref (Ma 3), .ref (Ma 4), .ref (Ma 5), .ref (Ma 6), .int (Mv 2), .int (Mv 3), .int (Mv 4), .int (Mv 5), .int (Mv 6), .int x_2, .int (Mv 8), .ref (Ma 7), .int (Mv 9), .ref (Ma 8), .int (Mv 10), .ref (Ma 9), .ref (Ma 10), .int (Mv 11), .int (Mv 12), .int (Mv 13), .ref (Ma 11), .int (Mv 14), .ref (Ma 12), .ref (Ma 13), .ref (Ma 14), .ref (Ma 15), .ref (Ma 16), .long (Mj 0), .ref (Ma 17), .ref (Ma 18), .ref (Ma 19), .ref (Ma 20)])), ((Ma 7), .inl (tc 0, 400, .inl (Mf 7)))] H := hP₀
    replace hD : va_D A [((Ma 0), .inr (12, [.ref (Ma 1), .int (Mv 0), .int (Mv 1), .ref (Ma 2), .ref (Ma 3), .ref (Ma 4), .ref (Ma 5), .ref (Ma 6), .int (Mv 2), .int (Mv 3), .int (Mv 4), .int (Mv 5), .int (Mv 6), .int x_2, .int (Mv 8), .ref (Ma 7), .int (Mv 9), .ref (Ma 8), .int (Mv 10), .ref (Ma 9), .ref (Ma 10), .int (Mv 11), .int (Mv 12), .int (Mv 13), .ref (Ma 11), .int (Mv 14), .ref (Ma 12), .ref (Ma 13), .ref (Ma 14), .ref (Ma 15), .ref (Ma 16), .long (Mj 0), .ref (Ma 17), .ref (Ma 18), .ref (Ma 19), .ref (Ma 20)])), ((Ma 7), .inl (tc 0, 400, .inl (Mf 7)))] := hD₀
    replace hS := hS₀
    clear hP₀ hD₀ hS₀
    refine lv_aload_n hx hb dX12_opens_29 rfl (lv_at hl 0 rfl) ?_
    refine gf_X12_29 hx hb hts hown hK hP 0 rfl rfl dX12_opens_30 ?_
    refine lv_aload_n hx hb dX12_opens_33 rfl (lv_at hl 0 rfl) ?_
    refine gf_X12_154 hx hb hts hown hK hP 0 rfl rfl dX12_opens_34 ?_
    refine lv_iload_n hx hb dX12_opens_37 rfl (lv_at hl 1 rfl) ?_
    have hi_3 : vp_in (Mv 9) 400 := by
      have z_1 : ¬ ((Mv 7) : Int32).toInt = (10 : Int32).toInt := fun z => c_1 (Int32.toInt_inj.mp z)
      have y_10 : (10 : Int32).toInt = 10 := by decide
      refine vp_in_iff.mpr ⟨?_, ?_⟩ <;> omega
    refine st_int hx hb hK hP hD hS 1 0 rfl rfl hi_3 dX12_opens_38 (fun g_4 H locs eg_4 hP₀ hD₀ hS₀ => ?_)
    replace hP : va_P D classes [((Ma 0), .inr (12, [.ref (Ma 1), .int (Mv 0), .int (Mv 1), .ref (Ma 2), .ref (Ma 3), .ref (Ma 4), .ref (Ma 5), .ref (Ma 6), .int (Mv 2), .int (Mv 3), .int (Mv 4), .int (Mv 5), .int (Mv 6), .int x_2, .int (Mv 8), .ref (Ma 7), .int (Mv 9), .ref (Ma 8), .int (Mv 10), .ref (Ma 9), .ref (Ma 10), .int (Mv 11), .int (Mv 12), .int (Mv 13), .ref (Ma 11), .int (Mv 14), .ref (Ma 12), .ref (Ma 13), .ref (Ma 14), .ref (Ma 15), .ref (Ma 16), .long (Mj 0), .ref (Ma 17), .ref (Ma 18), .ref (Ma 19), .ref (Ma 20)])), ((Ma 7), .inl (tc 0, 400, .inl g_4))] H := hP₀
    replace hD : va_D A [((Ma 0), .inr (12, [.ref (Ma 1), .int (Mv 0), .int (Mv 1), .ref (Ma 2), .ref (Ma 3), .ref (Ma 4), .ref (Ma 5), .ref (Ma 6), .int (Mv 2), .int (Mv 3), .int (Mv 4), .int (Mv 5), .int (Mv 6), .int x_2, .int (Mv 8), .ref (Ma 7), .int (Mv 9), .ref (Ma 8), .int (Mv 10), .ref (Ma 9), .ref (Ma 10), .int (Mv 11), .int (Mv 12), .int (Mv 13), .ref (Ma 11), .int (Mv 14), .ref (Ma 12), .ref (Ma 13), .ref (Ma 14), .ref (Ma 15), .ref (Ma 16), .long (Mj 0), .ref (Ma 17), .ref (Ma 18), .ref (Ma 19), .ref (Ma 20)])), ((Ma 7), .inl (tc 0, 400, .inl g_4))] := hD₀
    replace hS := hS₀
    clear hP₀ hD₀ hS₀
    refine lv_aload_n hx hb dX12_opens_39 rfl (lv_at hl 0 rfl) ?_
    refine lv_dup hx hb dX12_opens_40 rfl ?_
    refine gf_X12_154 hx hb hts hown hK hP 0 rfl rfl dX12_opens_41 ?_
    refine lv_iconst (v := 1) hx hb dX12_opens_44 (by decide) ?_
    refine lv_iadd hx hb dX12_opens_45 ?_
    refine lv_topi (fun x_5 ex_5 => ?_)
    refine pf_X12_154 hx hb hts hown hK hP hD hS 0 rfl (Nat.le_of_ble_eq_true rfl) rfl rfl dX12_opens_46 (fun H locs hP₀ hD₀ hS₀ => ?_)
    replace hP : va_P D classes [((Ma 0), .inr (12, [.ref (Ma 1), .int (Mv 0), .int (Mv 1), .ref (Ma 2), .ref (Ma 3), .ref (Ma 4), .ref (Ma 5), .ref (Ma 6), .int (Mv 2), .int (Mv 3), .int (Mv 4), .int (Mv 5), .int (Mv 6), .int x_2, .int (Mv 8), .ref (Ma 7), .int x_5, .ref (Ma 8), .int (Mv 10), .ref (Ma 9), .ref (Ma 10), .int (Mv 11), .int (Mv 12), .int (Mv 13), .ref (Ma 11), .int (Mv 14), .ref (Ma 12), .ref (Ma 13), .ref (Ma 14), .ref (Ma 15), .ref (Ma 16), .long (Mj 0), .ref (Ma 17), .ref (Ma 18), .ref (Ma 19), .ref (Ma 20)])), ((Ma 7), .inl (tc 0, 400, .inl g_4))] H := hP₀
    replace hD : va_D A [((Ma 0), .inr (12, [.ref (Ma 1), .int (Mv 0), .int (Mv 1), .ref (Ma 2), .ref (Ma 3), .ref (Ma 4), .ref (Ma 5), .ref (Ma 6), .int (Mv 2), .int (Mv 3), .int (Mv 4), .int (Mv 5), .int (Mv 6), .int x_2, .int (Mv 8), .ref (Ma 7), .int x_5, .ref (Ma 8), .int (Mv 10), .ref (Ma 9), .ref (Ma 10), .int (Mv 11), .int (Mv 12), .int (Mv 13), .ref (Ma 11), .int (Mv 14), .ref (Ma 12), .ref (Ma 13), .ref (Ma 14), .ref (Ma 15), .ref (Ma 16), .long (Mj 0), .ref (Ma 17), .ref (Ma 18), .ref (Ma 19), .ref (Ma 20)])), ((Ma 7), .inl (tc 0, 400, .inl g_4))] := hD₀
    replace hS := hS₀
    clear hP₀ hD₀ hS₀
    have tp_x_5 : (x_5 : Int32).toInt = ((Mv 9) : Int32).toInt + 1 := by
      have z_1 : ¬ ((Mv 7) : Int32).toInt = (10 : Int32).toInt := fun z => c_1 (Int32.toInt_inj.mp z)
      have y_10 : (10 : Int32).toInt = 10 := by decide
      have y_1 : (1 : Int32).toInt = 1 := by decide
      have t_x_5 : x_5.toInt = ((Mv 9) : Int32).toInt + (1 : Int32).toInt := by rw [ex_5]; exact add_toInt (by omega) (by omega)
      omega
    refine lv_iconst (v := 1) hx hb dX12_opens_49 (by decide) ?_
    have hp_6 : (((1 : Int32).toInt = 0 ∧ ¬ ((Mv 3) : Int32).toInt = 0 ∧ (Mv 7).toInt = 10 ∧ ((Mv 3) : Int32).toInt = 1 + 8 * (Mv 2).toInt + 2) ∨ ((1 : Int32).toInt = 1 ∧ (x_5 : Int32).toInt = ((Mv 9) : Int32).toInt + 1 ∧ (x_2 : Int32).toInt = (Mv 7).toInt + 1 ∧ (Mv 7).toInt < 10 ∧ ((Mv 3) : Int32).toInt = 0)) := by
      have z_1 : ¬ ((Mv 7) : Int32).toInt = (10 : Int32).toInt := fun z => c_1 (Int32.toInt_inj.mp z)
      have y_10 : (10 : Int32).toInt = 10 := by decide
      have y_1 : (1 : Int32).toInt = 1 := by decide
      have t_x_5 : x_5.toInt = ((Mv 9) : Int32).toInt + (1 : Int32).toInt := by rw [ex_5]; exact add_toInt (by omega) (by omega)
      have t_x_2 : x_2.toInt = ((Mv 7) : Int32).toInt + (1 : Int32).toInt := by rw [ex_2]; exact add_toInt (by omega) (by omega)
      have yr : (1 : Int32).toInt = 1 := by decide
      omega
    have hm_7 : (1 : Int32).toInt = 1 → (OpS g_4 x_5 pq0) ∧ (OpP (Mf 7) (Mv 9) g_4 x_5 x_2 x1) ∧ (OpX (Mf 7) (Mv 9) g_4 x_5 x1) := by
      intro h1r
      have hi_10 : (x_5 : Int32).toInt = ((Mv 9) : Int32).toInt + 1 := by
        have z_1 : ¬ ((Mv 7) : Int32).toInt = (10 : Int32).toInt := fun z => c_1 (Int32.toInt_inj.mp z)
        have y_10 : (10 : Int32).toInt = 10 := by decide
        have y_1 : (1 : Int32).toInt = 1 := by decide
        have t_x_5 : x_5.toInt = ((Mv 9) : Int32).toInt + (1 : Int32).toInt := by rw [ex_5]; exact add_toInt (by omega) (by omega)
        omega
      have hr_11 : ((Mv 9) : Int32).toInt < 400 := by
        have z_1 : ¬ ((Mv 7) : Int32).toInt = (10 : Int32).toInt := fun z => c_1 (Int32.toInt_inj.mp z)
        have y_10 : (10 : Int32).toInt = 10 := by decide
        omega
      have hr_12 : (x1 : Int32).toInt = 11 ∨ (x1 : Int32).toInt = 12 ∨ (x1 : Int32).toInt = 13 ∨ (x1 : Int32).toInt = 91 := by
        have z_1 : ¬ ((Mv 7) : Int32).toInt = (10 : Int32).toInt := fun z => c_1 (Int32.toInt_inj.mp z)
        have y_10 : (10 : Int32).toInt = 10 := by decide
        omega
      have hq_9 := OpS.push h_ops eg_4 hi_10 hr_11 hr_12
      have hr_13 : ¬ ((x1 : Int32).toInt = 12 ∨ (x1 : Int32).toInt = 13) := by
        have z_1 : ¬ ((Mv 7) : Int32).toInt = (10 : Int32).toInt := fun z => c_1 (Int32.toInt_inj.mp z)
        have y_10 : (10 : Int32).toInt = 10 := by decide
        omega
      rw [if_neg hr_13] at hq_9
      have ha_8 : OpS g_4 x_5 pq0 := hq_9
      have hr_14 : ((x1 : Int32).toInt = 11 ∧ (x_2 : Int32).toInt = (Mv 7).toInt + 1 ∧ (Mv 7).toInt < 10) ∨ ((x1 : Int32).toInt = 91 ∧ (x_2 : Int32).toInt = (Mv 7).toInt + 1 ∧ (Mv 7).toInt < 10) ∨ (((x1 : Int32).toInt = 12 ∨ (x1 : Int32).toInt = 13) ∧ False) := by
        have z_1 : ¬ ((Mv 7) : Int32).toInt = (10 : Int32).toInt := fun z => c_1 (Int32.toInt_inj.mp z)
        have y_10 : (10 : Int32).toInt = 10 := by decide
        have y_1 : (1 : Int32).toInt = 1 := by decide
        have t_x_2 : x_2.toInt = ((Mv 7) : Int32).toInt + (1 : Int32).toInt := by rw [ex_2]; exact add_toInt (by omega) (by omega)
        omega
      have hi_16 : (x_5 : Int32).toInt = ((Mv 9) : Int32).toInt + 1 := by
        have z_1 : ¬ ((Mv 7) : Int32).toInt = (10 : Int32).toInt := fun z => c_1 (Int32.toInt_inj.mp z)
        have y_10 : (10 : Int32).toInt = 10 := by decide
        have y_1 : (1 : Int32).toInt = 1 := by decide
        have t_x_5 : x_5.toInt = ((Mv 9) : Int32).toInt + (1 : Int32).toInt := by rw [ex_5]; exact add_toInt (by omega) (by omega)
        omega
      have hp_15 : OpP (Mf 7) (Mv 9) g_4 x_5 x_2 x1 := OsP.push h_os eg_4 hi_16 (by rcases hr_14 with z | z | z; exact Or.inl z; exact Or.inr (Or.inl z); exact absurd z.2 id)
      have hi_17 : (x_5 : Int32).toInt = ((Mv 9) : Int32).toInt + 1 := by
        have z_1 : ¬ ((Mv 7) : Int32).toInt = (10 : Int32).toInt := fun z => c_1 (Int32.toInt_inj.mp z)
        have y_10 : (10 : Int32).toInt = 10 := by decide
        have y_1 : (1 : Int32).toInt = 1 := by decide
        have t_x_5 : x_5.toInt = ((Mv 9) : Int32).toInt + (1 : Int32).toInt := by rw [ex_5]; exact add_toInt (by omega) (by omega)
        omega
      have hr_18 : 0 ≤ ((Mv 9) : Int32).toInt := by
        have z_1 : ¬ ((Mv 7) : Int32).toInt = (10 : Int32).toInt := fun z => c_1 (Int32.toInt_inj.mp z)
        have y_10 : (10 : Int32).toInt = 10 := by decide
        omega
      exact ⟨ha_8, hp_15, (OpX.of eg_4 hi_17 hr_18)⟩
    exact retI (v := 1) hx hb hr hlk (rfl) hP hD hS ((Mv 3), x_2, x_5, g_4) ⟨_, rfl, hp_6, hm_7⟩ [0, 1] rfl rfl dX12_opens_50 (Nat.le_of_ble_eq_true rfl) (Nat.le_of_ble_eq_true rfl) rfl
  · skip
    refine lv_aload_n hx hb dX12_opens_9 rfl (lv_at hl 0 rfl) ?_
    refine lv_iconst (v := 2) hx hb dX12_opens_10 (by decide) ?_
    refine lv_aload_n hx hb dX12_opens_11 rfl (lv_at hl 0 rfl) ?_
    refine gf_X12_87 hx hb hts hown hK hP 0 rfl rfl dX12_opens_12 ?_
    have ha_19 : 0 ≤ (2 : Int32).toInt ∧ (2 : Int32).toInt ≤ 4 := by
      have z_1 := congrArg Int32.toInt c_1
      have y_10 : (10 : Int32).toInt = 10 := by decide
      have y_2 : (2 : Int32).toInt = 2 := by decide
      omega
    have ha_20 : 0 ≤ (Mv 2).toInt ∧ (Mv 2).toInt ≤ 400 := by
      have z_1 := congrArg Int32.toInt c_1
      have y_10 : (10 : Int32).toInt = 10 := by decide
      omega
    refine cV (a := (Ma 0)) (As := [.int 2, .int (Mv 2)]) (rest := []) (wr := [((Ma 7), .inl (tc 0, 400, .inl (Mf 7)))]) ⟨hx, hb, hml, hown, hts⟩ hK hX hA (cu_fX12_fails l D tc sk (Ma 0) (Ma 1) (Ma 2) (Ma 3) (Ma 4) (Ma 5) (Ma 6) (Ma 7) (Ma 8) (Ma 9) (Ma 10) (Ma 11) (Ma 12) (Ma 13) (Ma 14) (Ma 15) (Ma 16) (Ma 17) (Ma 18) (Ma 19) (Ma 20) (Mv 0) (Mv 1) (Mv 2) (Mv 3) (Mv 4) (Mv 5) (Mv 6) (Mv 7) (Mv 8) (Mv 9) (Mv 10) (Mv 11) (Mv 12) (Mv 13) (Mv 14) (Mj 0) 2 (Mv 2) ha_19 ha_20 h_w) k_1232 k_1229 k_1231 k_31 k_106 pl_X12_fails ⟨Nat.le_of_ble_eq_true rfl, Nat.le_of_ble_eq_true rfl⟩ rfl rfl (va_recv hK hP (ci := 12) (q0 := 0) rfl rfl) hP hD hS [0] [1] rfl rfl rfl rfl rfl (by decide) rfl hl.1 rfl (Nat.le_of_ble_eq_true rfl) dX12_opens_15 ⟨Nat.le_of_ble_eq_true rfl, Nat.le_of_ble_eq_true rfl⟩ (fun v_21 u_22 H locs hv_23 hP₀ hD₀ hS₀ => ?_)
    obtain ⟨sv_24, rfl⟩ : ∃ z, z = u_22 := ⟨_, rfl⟩
    obtain ⟨r_27, rfl, he_28, pf_25, pf_26⟩ := hv_23
    have he_28 : r_27.toInt = 0 := he_28
    have pf_25 : ¬ (sv_24 : Int32).toInt = 0 := pf_25
    have pf_26 : (sv_24 : Int32).toInt = 1 + 8 * (Mv 2).toInt + (2 : Int32).toInt := pf_26
    refine W.eq (g2 := F0 m 18 ls [.int r_27]) rfl ?_
    replace hP : va_P D classes [((Ma 7), .inl (tc 0, 400, .inl (Mf 7))), ((Ma 0), .inr (12, [.ref (Ma 1), .int (Mv 0), .int (Mv 1), .ref (Ma 2), .ref (Ma 3), .ref (Ma 4), .ref (Ma 5), .ref (Ma 6), .int (Mv 2), .int sv_24, .int (Mv 4), .int (Mv 5), .int (Mv 6), .int (Mv 7), .int (Mv 8), .ref (Ma 7), .int (Mv 9), .ref (Ma 8), .int (Mv 10), .ref (Ma 9), .ref (Ma 10), .int (Mv 11), .int (Mv 12), .int (Mv 13), .ref (Ma 11), .int (Mv 14), .ref (Ma 12), .ref (Ma 13), .ref (Ma 14), .ref (Ma 15), .ref (Ma 16), .long (Mj 0), .ref (Ma 17), .ref (Ma 18), .ref (Ma 19), .ref (Ma 20)]))] H := hP₀
    replace hD : va_D A [((Ma 7), .inl (tc 0, 400, .inl (Mf 7))), ((Ma 0), .inr (12, [.ref (Ma 1), .int (Mv 0), .int (Mv 1), .ref (Ma 2), .ref (Ma 3), .ref (Ma 4), .ref (Ma 5), .ref (Ma 6), .int (Mv 2), .int sv_24, .int (Mv 4), .int (Mv 5), .int (Mv 6), .int (Mv 7), .int (Mv 8), .ref (Ma 7), .int (Mv 9), .ref (Ma 8), .int (Mv 10), .ref (Ma 9), .ref (Ma 10), .int (Mv 11), .int (Mv 12), .int (Mv 13), .ref (Ma 11), .int (Mv 14), .ref (Ma 12), .ref (Ma 13), .ref (Ma 14), .ref (Ma 15), .ref (Ma 16), .long (Mj 0), .ref (Ma 17), .ref (Ma 18), .ref (Ma 19), .ref (Ma 20)]))] := hD₀
    replace hS := hS₀
    clear hP₀ hD₀ hS₀
    have yf_30 : (2 : Int32).toInt = 2 := by decide
    have hb_31 : (r_27 : Int32).toInt = 0 ∨ (r_27 : Int32).toInt = 1 := by
      have z_1 := congrArg Int32.toInt c_1
      have y_10 : (10 : Int32).toInt = 10 := by decide
      omega
    have hp_32 : (((r_27 : Int32).toInt = 0 ∧ ¬ (sv_24 : Int32).toInt = 0 ∧ (Mv 7).toInt = 10 ∧ (sv_24 : Int32).toInt = 1 + 8 * (Mv 2).toInt + 2) ∨ ((r_27 : Int32).toInt = 1 ∧ ((Mv 9) : Int32).toInt = ((Mv 9) : Int32).toInt + 1 ∧ ((Mv 7) : Int32).toInt = (Mv 7).toInt + 1 ∧ (Mv 7).toInt < 10 ∧ (sv_24 : Int32).toInt = 0)) := by
      have z_1 := congrArg Int32.toInt c_1
      have y_10 : (10 : Int32).toInt = 10 := by decide
      omega
    have hm_33 : (r_27 : Int32).toInt = 1 → (OpS (Mf 7) (Mv 9) pq0) ∧ (OpP (Mf 7) (Mv 9) (Mf 7) (Mv 9) (Mv 7) x1) ∧ (OpX (Mf 7) (Mv 9) (Mf 7) (Mv 9) x1) := by
      intro h1r
      exfalso
      have z_1 := congrArg Int32.toInt c_1
      have y_10 : (10 : Int32).toInt = 10 := by decide
      omega
    exact retI (v := r_27) hx hb hr hlk (nar01 hb_31) hP hD hS (sv_24, (Mv 7), (Mv 9), (Mf 7)) ⟨_, rfl, hp_32, hm_33⟩ [1, 0] rfl rfl dX12_opens_18 (Nat.le_of_ble_eq_true rfl) (Nat.le_of_ble_eq_true rfl) rfl
set_option maxRecDepth 100000 in
theorem cu_kX12_opens (l : Launch) (D : va_G) (tc : Nat → ClassId) (sk : (Nat → Nat) × (Nat → Nat)) (Ma_0 : Nat) (Ma_1 : Nat) (Ma_2 : Nat) (Ma_3 : Nat) (Ma_4 : Nat) (Ma_5 : Nat) (Ma_6 : Nat) (Ma_7 : Nat) (Ma_8 : Nat) (Ma_9 : Nat) (Ma_10 : Nat) (Ma_11 : Nat) (Ma_12 : Nat) (Ma_13 : Nat) (Ma_14 : Nat) (Ma_15 : Nat) (Ma_16 : Nat) (Ma_17 : Nat) (Ma_18 : Nat) (Ma_19 : Nat) (Ma_20 : Nat) (Mv_0 : Int32) (Mv_1 : Int32) (Mv_2 : Int32) (Mv_3 : Int32) (Mv_4 : Int32) (Mv_5 : Int32) (Mv_6 : Int32) (Mv_7 : Int32) (Mv_8 : Int32) (Mv_9 : Int32) (Mv_10 : Int32) (Mv_11 : Int32) (Mv_12 : Int32) (Mv_13 : Int32) (Mv_14 : Int32) (Mf_7 : Nat → Int32) (Mj_0 : Int64) (x1 : Int32) (pq0 : Nat) (h_nx : 0 ≤ (Mv_2 : Int32).toInt ∧ (Mv_2 : Int32).toInt ≤ (Mv_0 : Int32).toInt ∧ (Mv_0 : Int32).toInt ≤ 400) (h_ops : OpS Mf_7 Mv_9 pq0) (h_o : (Mv_9 : Int32).toInt < 400) (h_wx : x1.toInt = 11 ∨ x1.toInt = 91) (h_os : OsP Mf_7 Mv_9 Mv_7) (h_w : (Mv_3 : Int32).toInt = 0) : Ct l yX12_opens cX12_opens 2 (some .boolean) { frames := 1, cells := 0, slots := 0, locals := 22 } D tc sk [.ref Ma_0, .int x1] [(Ma_0, .inr (12, [.ref Ma_1, .int Mv_0, .int Mv_1, .ref Ma_2, .ref Ma_3, .ref Ma_4, .ref Ma_5, .ref Ma_6, .int Mv_2, .int Mv_3, .int Mv_4, .int Mv_5, .int Mv_6, .int Mv_7, .int Mv_8, .ref Ma_7, .int Mv_9, .ref Ma_8, .int Mv_10, .ref Ma_9, .ref Ma_10, .int Mv_11, .int Mv_12, .int Mv_13, .ref Ma_11, .int Mv_14, .ref Ma_12, .ref Ma_13, .ref Ma_14, .ref Ma_15, .ref Ma_16, .long Mj_0, .ref Ma_17, .ref Ma_18, .ref Ma_19, .ref Ma_20])), (Ma_7, .inl (tc 0, 400, .inl Mf_7))] (fun (v : Option Value) (u : (Int32) × (Int32) × (Int32) × (Nat → Int32)) => match u with | (oo0x1, oo0x2, oo0x3, oo0x4) => ∃ r : Int32, v = some (.int r) ∧ (((r.toInt = 0 ∧ ¬ (oo0x1 : Int32).toInt = 0 ∧ Mv_7.toInt = 10 ∧ (oo0x1 : Int32).toInt = 1 + 8 * Mv_2.toInt + 2) ∨ (r.toInt = 1 ∧ (oo0x3 : Int32).toInt = (Mv_9 : Int32).toInt + 1 ∧ (oo0x2 : Int32).toInt = Mv_7.toInt + 1 ∧ Mv_7.toInt < 10 ∧ (oo0x1 : Int32).toInt = 0))) ∧ (r.toInt = 1 → (OpS oo0x4 oo0x3 pq0) ∧ (OpP Mf_7 Mv_9 oo0x4 oo0x3 oo0x2 x1) ∧ (OpX Mf_7 Mv_9 oo0x4 oo0x3 x1))) (fun (u : (Int32) × (Int32) × (Int32) × (Nat → Int32)) => match u with | (oo0x1, oo0x2, oo0x3, oo0x4) => [(Ma_0, .inr (12, [.ref Ma_1, .int Mv_0, .int Mv_1, .ref Ma_2, .ref Ma_3, .ref Ma_4, .ref Ma_5, .ref Ma_6, .int Mv_2, .int oo0x1, .int Mv_4, .int Mv_5, .int Mv_6, .int oo0x2, .int Mv_8, .ref Ma_7, .int oo0x3, .ref Ma_8, .int Mv_10, .ref Ma_9, .ref Ma_10, .int Mv_11, .int Mv_12, .int Mv_13, .ref Ma_11, .int Mv_14, .ref Ma_12, .ref Ma_13, .ref Ma_14, .ref Ma_15, .ref Ma_16, .long Mj_0, .ref Ma_17, .ref Ma_18, .ref Ma_19, .ref Ma_20])), (Ma_7, .inl (tc 0, 400, .inl oo0x4))]) 0 0 :=
  ct_kX12_opens l D tc sk (fun k => ([Ma_0, Ma_1, Ma_2, Ma_3, Ma_4, Ma_5, Ma_6, Ma_7, Ma_8, Ma_9, Ma_10, Ma_11, Ma_12, Ma_13, Ma_14, Ma_15, Ma_16, Ma_17, Ma_18, Ma_19, Ma_20] : List (Nat)).getD k 0) (fun k => ([Mv_0, Mv_1, Mv_2, Mv_3, Mv_4, Mv_5, Mv_6, Mv_7, Mv_8, Mv_9, Mv_10, Mv_11, Mv_12, Mv_13, Mv_14] : List (Int32)).getD k 0) (fun k => ([(fun _ => 0), (fun _ => 0), (fun _ => 0), (fun _ => 0), (fun _ => 0), (fun _ => 0), (fun _ => 0), Mf_7] : List (Nat → Int32)).getD k (fun _ => 0)) (fun k => ([Mj_0] : List (Int64)).getD k 0) x1 pq0 h_nx h_ops h_o h_wx h_os h_w
set_option maxHeartbeats 4000000 in
set_option maxRecDepth 100000 in
theorem ct_kX12_layDown (l : Launch) (D : va_G) (tc : Nat → ClassId) (sk : (Nat → Nat) × (Nat → Nat)) (Ma : Nat → Nat) (Mv : Nat → Int32) (Mf : Nat → Nat → Int32) (Mj : Nat → Int64) (x1 : Int32) (b : Int32) (ll : List Int) (h_ls : LSR (Mf 7) (Mv 9) (Mf 2) (Mf 3) (Mv 5) b (Mv 6)) (h_x : 1 ≤ x1.toInt ∧ x1.toInt ≤ 3) (h_s : ((Mf 3) (Mv 5).toNatClampNeg).toInt + ((Mv 9) : Int32).toInt ≤ 400) (h_os : OsP (Mf 7) (Mv 9) (Mv 7)) (h_sg : SgC (Mf 2) (Mf 3) (Mv 5) ll) (h_tx : 0 ≤ (Mv 5).toInt) : Ct l yX12_layDown cX12_layDown 2 none { frames := 1, cells := 0, slots := 0, locals := 22 } D tc sk [.ref (Ma 0), .int x1] [((Ma 0), .inr (12, [.ref (Ma 1), .int (Mv 0), .int (Mv 1), .ref (Ma 2), .ref (Ma 3), .ref (Ma 4), .ref (Ma 5), .ref (Ma 6), .int (Mv 2), .int (Mv 3), .int (Mv 4), .int (Mv 5), .int (Mv 6), .int (Mv 7), .int (Mv 8), .ref (Ma 7), .int (Mv 9), .ref (Ma 8), .int (Mv 10), .ref (Ma 9), .ref (Ma 10), .int (Mv 11), .int (Mv 12), .int (Mv 13), .ref (Ma 11), .int (Mv 14), .ref (Ma 12), .ref (Ma 13), .ref (Ma 14), .ref (Ma 15), .ref (Ma 16), .long (Mj 0), .ref (Ma 17), .ref (Ma 18), .ref (Ma 19), .ref (Ma 20)])), ((Ma 2), .inl (tc 0, 2400, .inl (Mf 2))), ((Ma 3), .inl (tc 0, 7, .inl (Mf 3))), ((Ma 7), .inl (tc 0, 400, .inl (Mf 7)))] (fun (v : Option Value) (u : (Int32) × (Int32) × (Nat → Int32) × (Nat → Int32)) => match u with | (oo0x1, oo0x2, oo0x3, oo0x4) => v = none ∧ (LSR (Mf 7) oo0x2 oo0x3 oo0x4 (Mv 5) b (Mv 6)) ∧ ((oo0x4 (Mv 5).toNatClampNeg).toInt + (oo0x2 : Int32).toInt = ((Mf 3) (Mv 5).toNatClampNeg).toInt + ((Mv 9) : Int32).toInt ∧ 0 ≤ (oo0x2 : Int32).toInt ∧ (oo0x2 : Int32).toInt ≤ ((Mv 9) : Int32).toInt) ∧ (Agr (Mf 2) oo0x3 (400 * ((Mv 5) : Int32).toInt + ((Mf 3) (Mv 5).toNatClampNeg).toInt)) ∧ (LdE (Mf 7) oo0x2 x1) ∧ (InK (Mf 7) (Mv 9) oo0x2) ∧ (LdP (Mf 7) (Mv 9) oo0x2 oo0x1) ∧ (T11 (Mf 7) oo0x2) ∧ (LdC (Mf 7) (Mv 9) oo0x2 oo0x3 oo0x4 (Mv 5) ll x1) ∧ (LdS (Mf 7) oo0x2 x1)) (fun (u : (Int32) × (Int32) × (Nat → Int32) × (Nat → Int32)) => match u with | (oo0x1, oo0x2, oo0x3, oo0x4) => [((Ma 0), .inr (12, [.ref (Ma 1), .int (Mv 0), .int (Mv 1), .ref (Ma 2), .ref (Ma 3), .ref (Ma 4), .ref (Ma 5), .ref (Ma 6), .int (Mv 2), .int (Mv 3), .int (Mv 4), .int (Mv 5), .int (Mv 6), .int oo0x1, .int (Mv 8), .ref (Ma 7), .int oo0x2, .ref (Ma 8), .int (Mv 10), .ref (Ma 9), .ref (Ma 10), .int (Mv 11), .int (Mv 12), .int (Mv 13), .ref (Ma 11), .int (Mv 14), .ref (Ma 12), .ref (Ma 13), .ref (Ma 14), .ref (Ma 15), .ref (Ma 16), .long (Mj 0), .ref (Ma 17), .ref (Ma 18), .ref (Ma 19), .ref (Ma 20)])), ((Ma 2), .inl (tc 0, 2400, .inl oo0x3)), ((Ma 3), .inl (tc 0, 7, .inl oo0x4)), ((Ma 7), .inl (tc 0, 400, .inl (Mf 7)))]) 0 0 := by
  refine Ct.start (by decide) (Nat.le_of_ble_eq_true rfl) (fun p e s m below meth c A ls hx hb hr hlk hin hml hown hts hK hX hP hD hA hl hS => ?_)
  have hl : lv_has ls 2 [(0, .ref (Ma 0)), (1, .int x1)] := hl
  obtain ⟨pn_1, pf_2, pf_3⟩ := id h_ls
  have ar_h_ls := LSR.ar h_ls
  have ar_pf_3 := Cd.ar pf_3
  have ar_h_os := OsP.ar h_os
  have loop_14 : ∀ (n_12 : Nat) (vy_8 : Int32) (vy_9 : Nat → Int32) (vy_10 : Nat → Int32) (vy_11 : Int32) (H : Heap) (locs : List Loc) (ls : Array Slot), ((vy_8 : Int32).toInt).toNat < n_12 → (LSR (Mf 7) vy_8 vy_9 vy_10 (Mv 5) b (Mv 6)) → ((vy_10 (Mv 5).toNatClampNeg).toInt + (vy_8 : Int32).toInt = ((Mf 3) (Mv 5).toNatClampNeg).toInt + ((Mv 9) : Int32).toInt ∧ 0 ≤ (vy_8 : Int32).toInt ∧ (vy_8 : Int32).toInt ≤ ((Mv 9) : Int32).toInt) → (Agr (Mf 2) vy_9 (400 * ((Mv 5) : Int32).toInt + ((Mf 3) (Mv 5).toNatClampNeg).toInt)) → (InK (Mf 7) (Mv 9) vy_8) → (LdP (Mf 7) (Mv 9) vy_8 vy_11) → (LdC (Mf 7) (Mv 9) vy_8 vy_9 vy_10 (Mv 5) ll x1) → va_P D classes [((Ma 0), .inr (12, [.ref (Ma 1), .int (Mv 0), .int (Mv 1), .ref (Ma 2), .ref (Ma 3), .ref (Ma 4), .ref (Ma 5), .ref (Ma 6), .int (Mv 2), .int (Mv 3), .int (Mv 4), .int (Mv 5), .int (Mv 6), .int vy_11, .int (Mv 8), .ref (Ma 7), .int vy_8, .ref (Ma 8), .int (Mv 10), .ref (Ma 9), .ref (Ma 10), .int (Mv 11), .int (Mv 12), .int (Mv 13), .ref (Ma 11), .int (Mv 14), .ref (Ma 12), .ref (Ma 13), .ref (Ma 14), .ref (Ma 15), .ref (Ma 16), .long (Mj 0), .ref (Ma 17), .ref (Ma 18), .ref (Ma 19), .ref (Ma 20)])), ((Ma 2), .inl (tc 0, 2400, .inl vy_9)), ((Ma 3), .inl (tc 0, 7, .inl vy_10)), ((Ma 7), .inl (tc 0, 400, .inl (Mf 7)))] H → va_D A [((Ma 0), .inr (12, [.ref (Ma 1), .int (Mv 0), .int (Mv 1), .ref (Ma 2), .ref (Ma 3), .ref (Ma 4), .ref (Ma 5), .ref (Ma 6), .int (Mv 2), .int (Mv 3), .int (Mv 4), .int (Mv 5), .int (Mv 6), .int vy_11, .int (Mv 8), .ref (Ma 7), .int vy_8, .ref (Ma 8), .int (Mv 10), .ref (Ma 9), .ref (Ma 10), .int (Mv 11), .int (Mv 12), .int (Mv 13), .ref (Ma 11), .int (Mv 14), .ref (Ma 12), .ref (Ma 13), .ref (Ma 14), .ref (Ma 15), .ref (Ma 16), .long (Mj 0), .ref (Ma 17), .ref (Ma 18), .ref (Ma 19), .ref (Ma 20)])), ((Ma 2), .inl (tc 0, 2400, .inl vy_9)), ((Ma 3), .inl (tc 0, 7, .inl vy_10)), ((Ma 7), .inl (tc 0, 400, .inl (Mf 7)))] → va_S A s.heap H locs → lv_has ls 2 [(0, .ref (Ma 0)), (1, .int x1)] → W p l e ({ frames := 1, cells := 0, slots := 0, locals := 22 }) s m ([.ref (Ma 0), .int x1].toArray) below meth c H locs 0 0 (MQ below (QW (fun (v : Option Value) (u : (Int32) × (Int32) × (Nat → Int32) × (Nat → Int32)) => match u with | (oo0x1, oo0x2, oo0x3, oo0x4) => v = none ∧ (LSR (Mf 7) oo0x2 oo0x3 oo0x4 (Mv 5) b (Mv 6)) ∧ ((oo0x4 (Mv 5).toNatClampNeg).toInt + (oo0x2 : Int32).toInt = ((Mf 3) (Mv 5).toNatClampNeg).toInt + ((Mv 9) : Int32).toInt ∧ 0 ≤ (oo0x2 : Int32).toInt ∧ (oo0x2 : Int32).toInt ≤ ((Mv 9) : Int32).toInt) ∧ (Agr (Mf 2) oo0x3 (400 * ((Mv 5) : Int32).toInt + ((Mf 3) (Mv 5).toNatClampNeg).toInt)) ∧ (LdE (Mf 7) oo0x2 x1) ∧ (InK (Mf 7) (Mv 9) oo0x2) ∧ (LdP (Mf 7) (Mv 9) oo0x2 oo0x1) ∧ (T11 (Mf 7) oo0x2) ∧ (LdC (Mf 7) (Mv 9) oo0x2 oo0x3 oo0x4 (Mv 5) ll x1) ∧ (LdS (Mf 7) oo0x2 x1)) (BW D (fun (u : (Int32) × (Int32) × (Nat → Int32) × (Nat → Int32)) => match u with | (oo0x1, oo0x2, oo0x3, oo0x4) => [((Ma 0), .inr (12, [.ref (Ma 1), .int (Mv 0), .int (Mv 1), .ref (Ma 2), .ref (Ma 3), .ref (Ma 4), .ref (Ma 5), .ref (Ma 6), .int (Mv 2), .int (Mv 3), .int (Mv 4), .int (Mv 5), .int (Mv 6), .int oo0x1, .int (Mv 8), .ref (Ma 7), .int oo0x2, .ref (Ma 8), .int (Mv 10), .ref (Ma 9), .ref (Ma 10), .int (Mv 11), .int (Mv 12), .int (Mv 13), .ref (Ma 11), .int (Mv 14), .ref (Ma 12), .ref (Ma 13), .ref (Ma 14), .ref (Ma 15), .ref (Ma 16), .long (Mj 0), .ref (Ma 17), .ref (Ma 18), .ref (Ma 19), .ref (Ma 20)])), ((Ma 2), .inl (tc 0, 2400, .inl oo0x3)), ((Ma 3), .inl (tc 0, 7, .inl oo0x4)), ((Ma 7), .inl (tc 0, 400, .inl (Mf 7)))]) A) A) ([.ref (Ma 0), .int x1].toArray) s 0 0 A) (F0 m 0 ls []) := by
    clear hP hD hS hl
    intro n_12
    induction n_12 with
    | zero =>
      intro vy_8 vy_9 vy_10 vy_11 H locs ls h1
      exact absurd h1 (Nat.not_lt_zero _)
    | succ n_12 ih_13 =>
      intro vy_8 vy_9 vy_10 vy_11 H locs ls hn_21 pf_15 pf_16 pf_17 pf_18 pf_19 pf_20 hP hD hS hl
      obtain ⟨pn_22, pf_23, pf_24⟩ := id pf_15
      have ar_pf_15 := LSR.ar pf_15
      have ar_pf_24 := Cd.ar pf_24
      have ar_pf_19 := OsP.ar pf_19.1
      obtain ⟨xq_25, pf_26, pf_27, pf_28⟩ := id pf_20
      obtain ⟨lo_29, elo_29⟩ : ∃ z : List Int, z = (ll ++ xq_25) := ⟨_, rfl⟩
      rw [← elo_29] at pf_26
      refine lv_aload_n hx hb dX12_layDown_0 rfl (lv_at hl 0 rfl) ?_
      refine gf_X12_154 hx hb hts hown hK hP 0 rfl rfl dX12_layDown_1 ?_
      refine lv_if_le (tgt := 76) hx hb dX12_layDown_4 (by decide) (fun c_30 => ?_) (fun c_30 => ?_)
      · skip
        have hr_31 : (vy_8 : Int32).toInt = 0 := by
          have z_1 := Int32.le_iff_toInt_le.mp c_30
          have y_0 : (0 : Int32).toInt = 0 := by decide
          omega
        have hr_32 : (vy_8 : Int32).toInt = 0 := by
          have z_1 := Int32.le_iff_toInt_le.mp c_30
          have y_0 : (0 : Int32).toInt = 0 := by decide
          omega
        have hr_33 : (vy_8 : Int32).toInt = 0 := by
          have z_1 := Int32.le_iff_toInt_le.mp c_30
          have y_0 : (0 : Int32).toInt = 0 := by decide
          omega
        exact retV hx hb hr hlk hP hD hS (vy_11, vy_8, vy_9, vy_10) ⟨rfl, pf_15, pf_16, pf_17, (Or.inl hr_31), pf_18, pf_19, (Or.inl hr_32), pf_20, (Or.inl hr_33)⟩ [0, 1, 2, 3] rfl rfl dX12_layDown_76 (Nat.le_of_ble_eq_true rfl) (Nat.le_of_ble_eq_true rfl) rfl
      · skip
        refine lv_aload_n hx hb dX12_layDown_7 rfl (lv_at hl 0 rfl) ?_
        refine gf_X12_29 hx hb hts hown hK hP 0 rfl rfl dX12_layDown_8 ?_
        refine lv_aload_n hx hb dX12_layDown_11 rfl (lv_at hl 0 rfl) ?_
        refine gf_X12_154 hx hb hts hown hK hP 0 rfl rfl dX12_layDown_12 ?_
        refine lv_iconst (v := 1) hx hb dX12_layDown_15 (by decide) ?_
        refine lv_isub hx hb dX12_layDown_16 ?_
        refine lv_topi (fun x_34 ex_34 => ?_)
        have hi_35 : vp_in x_34 400 := by
          have z_1 := Int32.lt_iff_toInt_lt.mp (Int32.not_le.mp c_30)
          have y_0 : (0 : Int32).toInt = 0 := by decide
          have y_1 : (1 : Int32).toInt = 1 := by decide
          have t_x_34 : x_34.toInt = (vy_8 : Int32).toInt - (1 : Int32).toInt := by rw [ex_34]; exact sub_toInt (by omega) (by omega)
          refine vp_in_iff.mpr ⟨?_, ?_⟩ <;> omega
        refine va_iald hx hb hK hP 3 0 rfl rfl hi_35 dX12_layDown_17 ?_
        refine lv_topi (fun x_36 ex_36 => ?_)
        refine cS (As := [.int x_36]) (rest := []) (wr := [((Ma 0), .inr (12, [.ref (Ma 1), .int (Mv 0), .int (Mv 1), .ref (Ma 2), .ref (Ma 3), .ref (Ma 4), .ref (Ma 5), .ref (Ma 6), .int (Mv 2), .int (Mv 3), .int (Mv 4), .int (Mv 5), .int (Mv 6), .int vy_11, .int (Mv 8), .ref (Ma 7), .int vy_8, .ref (Ma 8), .int (Mv 10), .ref (Ma 9), .ref (Ma 10), .int (Mv 11), .int (Mv 12), .int (Mv 13), .ref (Ma 11), .int (Mv 14), .ref (Ma 12), .ref (Ma 13), .ref (Ma 14), .ref (Ma 15), .ref (Ma 16), .long (Mj 0), .ref (Ma 17), .ref (Ma 18), .ref (Ma 19), .ref (Ma 20)])), ((Ma 2), .inl (tc 0, 2400, .inl vy_9)), ((Ma 3), .inl (tc 0, 7, .inl vy_10)), ((Ma 7), .inl (tc 0, 400, .inl (Mf 7)))]) ⟨hx, hb, hml, hown, hts⟩ hK hX hA (ct_X12_strength l D tc sk x_36) k_1345 k_1343 k_1344 k_106 pl_X12_strength ⟨Nat.le_of_ble_eq_true rfl, Nat.le_of_ble_eq_true rfl⟩ rfl rfl  hP hD hS [] [0, 1, 2, 3] rfl rfl rfl rfl rfl (by decide) rfl hl.1 rfl (Nat.le_of_ble_eq_true rfl) dX12_layDown_18 ⟨Nat.le_of_ble_eq_true rfl, Nat.le_of_ble_eq_true rfl⟩ (fun v_37 u_38 H locs hv_39 hP₀ hD₀ hS₀ => ?_)
        obtain ⟨r_40, rfl, he_41⟩ := hv_39
        have he_41 : ((x_36.toInt = 13 ∧ r_40.toInt = 1) ∨ (x_36.toInt = 12 ∧ r_40.toInt = 2) ∨ (x_36.toInt = 11 ∧ r_40.toInt = 3) ∨ (x_36.toInt ≠ 13 ∧ x_36.toInt ≠ 12 ∧ x_36.toInt ≠ 11 ∧ r_40.toInt = 0)) := he_41
        refine W.eq (g2 := F0 m 21 ls [.int r_40]) rfl ?_
        replace hP : va_P D classes [((Ma 0), .inr (12, [.ref (Ma 1), .int (Mv 0), .int (Mv 1), .ref (Ma 2), .ref (Ma 3), .ref (Ma 4), .ref (Ma 5), .ref (Ma 6), .int (Mv 2), .int (Mv 3), .int (Mv 4), .int (Mv 5), .int (Mv 6), .int vy_11, .int (Mv 8), .ref (Ma 7), .int vy_8, .ref (Ma 8), .int (Mv 10), .ref (Ma 9), .ref (Ma 10), .int (Mv 11), .int (Mv 12), .int (Mv 13), .ref (Ma 11), .int (Mv 14), .ref (Ma 12), .ref (Ma 13), .ref (Ma 14), .ref (Ma 15), .ref (Ma 16), .long (Mj 0), .ref (Ma 17), .ref (Ma 18), .ref (Ma 19), .ref (Ma 20)])), ((Ma 2), .inl (tc 0, 2400, .inl vy_9)), ((Ma 3), .inl (tc 0, 7, .inl vy_10)), ((Ma 7), .inl (tc 0, 400, .inl (Mf 7)))] H := hP₀
        replace hD : va_D A [((Ma 0), .inr (12, [.ref (Ma 1), .int (Mv 0), .int (Mv 1), .ref (Ma 2), .ref (Ma 3), .ref (Ma 4), .ref (Ma 5), .ref (Ma 6), .int (Mv 2), .int (Mv 3), .int (Mv 4), .int (Mv 5), .int (Mv 6), .int vy_11, .int (Mv 8), .ref (Ma 7), .int vy_8, .ref (Ma 8), .int (Mv 10), .ref (Ma 9), .ref (Ma 10), .int (Mv 11), .int (Mv 12), .int (Mv 13), .ref (Ma 11), .int (Mv 14), .ref (Ma 12), .ref (Ma 13), .ref (Ma 14), .ref (Ma 15), .ref (Ma 16), .long (Mj 0), .ref (Ma 17), .ref (Ma 18), .ref (Ma 19), .ref (Ma 20)])), ((Ma 2), .inl (tc 0, 2400, .inl vy_9)), ((Ma 3), .inl (tc 0, 7, .inl vy_10)), ((Ma 7), .inl (tc 0, 400, .inl (Mf 7)))] := hD₀
        replace hS := hS₀
        clear hP₀ hD₀ hS₀
        refine lv_iload_n hx hb dX12_layDown_21 rfl (lv_at hl 1 rfl) ?_
        refine lv_icmp_lt (tgt := 76) hx hb dX12_layDown_22 (by decide) (fun c_43 => ?_) (fun c_43 => ?_)
        · skip
          have hi_44 : (x_34 : Int32).toInt = (vy_8 : Int32).toInt - 1 := by
            have z_1 := Int32.lt_iff_toInt_lt.mp (Int32.not_le.mp c_30)
            have z_2 := Int32.lt_iff_toInt_lt.mp c_43
            have y_0 : (0 : Int32).toInt = 0 := by decide
            have y_1 : (1 : Int32).toInt = 1 := by decide
            have t_x_34 : x_34.toInt = (vy_8 : Int32).toInt - (1 : Int32).toInt := by rw [ex_34]; exact sub_toInt (by omega) (by omega)
            omega
          have hr_45 : 1 ≤ (vy_8 : Int32).toInt := by
            have z_1 := Int32.lt_iff_toInt_lt.mp (Int32.not_le.mp c_30)
            have z_2 := Int32.lt_iff_toInt_lt.mp c_43
            have y_0 : (0 : Int32).toInt = 0 := by decide
            omega
          have hr_46 : ((x_36 : Int32).toInt ≠ 13 ∧ (x_36 : Int32).toInt ≠ 12 ∧ (x_36 : Int32).toInt ≠ 11) ∨ 1 < (x1 : Int32).toInt := by
            have z_1 := Int32.lt_iff_toInt_lt.mp (Int32.not_le.mp c_30)
            have z_2 := Int32.lt_iff_toInt_lt.mp c_43
            have y_0 : (0 : Int32).toInt = 0 := by decide
            omega
          have hi_47 : (x_34 : Int32).toInt = (vy_8 : Int32).toInt - 1 := by
            have z_1 := Int32.lt_iff_toInt_lt.mp (Int32.not_le.mp c_30)
            have z_2 := Int32.lt_iff_toInt_lt.mp c_43
            have y_0 : (0 : Int32).toInt = 0 := by decide
            have y_1 : (1 : Int32).toInt = 1 := by decide
            have t_x_34 : x_34.toInt = (vy_8 : Int32).toInt - (1 : Int32).toInt := by rw [ex_34]; exact sub_toInt (by omega) (by omega)
            omega
          have hr_48 : 1 ≤ (vy_8 : Int32).toInt := by
            have z_1 := Int32.lt_iff_toInt_lt.mp (Int32.not_le.mp c_30)
            have z_2 := Int32.lt_iff_toInt_lt.mp c_43
            have y_0 : (0 : Int32).toInt = 0 := by decide
            omega
          have hr_49 : ¬ (x_36 : Int32).toInt = 11 := by
            have z_1 := Int32.lt_iff_toInt_lt.mp (Int32.not_le.mp c_30)
            have z_2 := Int32.lt_iff_toInt_lt.mp c_43
            have y_0 : (0 : Int32).toInt = 0 := by decide
            omega
          have hi_50 : (x_34 : Int32).toInt = (vy_8 : Int32).toInt - 1 := by
            have z_1 := Int32.lt_iff_toInt_lt.mp (Int32.not_le.mp c_30)
            have z_2 := Int32.lt_iff_toInt_lt.mp c_43
            have y_0 : (0 : Int32).toInt = 0 := by decide
            have y_1 : (1 : Int32).toInt = 1 := by decide
            have t_x_34 : x_34.toInt = (vy_8 : Int32).toInt - (1 : Int32).toInt := by rw [ex_34]; exact sub_toInt (by omega) (by omega)
            omega
          have hr_51 : 1 ≤ (vy_8 : Int32).toInt := by
            have z_1 := Int32.lt_iff_toInt_lt.mp (Int32.not_le.mp c_30)
            have z_2 := Int32.lt_iff_toInt_lt.mp c_43
            have y_0 : (0 : Int32).toInt = 0 := by decide
            omega
          have hr_52 : ((x_36 : Int32).toInt = 13 → 1 < (x1 : Int32).toInt) ∧ ((x_36 : Int32).toInt = 12 → 2 < (x1 : Int32).toInt) ∧ ((x_36 : Int32).toInt = 11 → 3 < (x1 : Int32).toInt) := by
            have z_1 := Int32.lt_iff_toInt_lt.mp (Int32.not_le.mp c_30)
            have z_2 := Int32.lt_iff_toInt_lt.mp c_43
            have y_0 : (0 : Int32).toInt = 0 := by decide
            omega
          exact retV hx hb hr hlk hP hD hS (vy_11, vy_8, vy_9, vy_10) ⟨rfl, pf_15, pf_16, pf_17, (LdE.of (least := x1) ex_36 hi_44 hr_45 hr_46), pf_18, pf_19, (T11.of ex_36 hi_47 hr_48 hr_49), pf_20, (LdS.of ex_36 hi_50 hr_51 hr_52)⟩ [0, 1, 2, 3] rfl rfl dX12_layDown_76 (Nat.le_of_ble_eq_true rfl) (Nat.le_of_ble_eq_true rfl) rfl
        · skip
          refine lv_aload_n hx hb dX12_layDown_25 rfl (lv_at hl 0 rfl) ?_
          refine lv_dup hx hb dX12_layDown_26 rfl ?_
          refine gf_X12_154 hx hb hts hown hK hP 0 rfl rfl dX12_layDown_27 ?_
          refine lv_iconst (v := 1) hx hb dX12_layDown_30 (by decide) ?_
          refine lv_isub hx hb dX12_layDown_31 ?_
          refine lv_topi (fun x_53 ex_53 => ?_)
          refine pf_X12_154 hx hb hts hown hK hP hD hS 0 rfl (Nat.le_of_ble_eq_true rfl) rfl rfl dX12_layDown_32 (fun H locs hP₀ hD₀ hS₀ => ?_)
          replace hP : va_P D classes [((Ma 0), .inr (12, [.ref (Ma 1), .int (Mv 0), .int (Mv 1), .ref (Ma 2), .ref (Ma 3), .ref (Ma 4), .ref (Ma 5), .ref (Ma 6), .int (Mv 2), .int (Mv 3), .int (Mv 4), .int (Mv 5), .int (Mv 6), .int vy_11, .int (Mv 8), .ref (Ma 7), .int x_53, .ref (Ma 8), .int (Mv 10), .ref (Ma 9), .ref (Ma 10), .int (Mv 11), .int (Mv 12), .int (Mv 13), .ref (Ma 11), .int (Mv 14), .ref (Ma 12), .ref (Ma 13), .ref (Ma 14), .ref (Ma 15), .ref (Ma 16), .long (Mj 0), .ref (Ma 17), .ref (Ma 18), .ref (Ma 19), .ref (Ma 20)])), ((Ma 2), .inl (tc 0, 2400, .inl vy_9)), ((Ma 3), .inl (tc 0, 7, .inl vy_10)), ((Ma 7), .inl (tc 0, 400, .inl (Mf 7)))] H := hP₀
          replace hD : va_D A [((Ma 0), .inr (12, [.ref (Ma 1), .int (Mv 0), .int (Mv 1), .ref (Ma 2), .ref (Ma 3), .ref (Ma 4), .ref (Ma 5), .ref (Ma 6), .int (Mv 2), .int (Mv 3), .int (Mv 4), .int (Mv 5), .int (Mv 6), .int vy_11, .int (Mv 8), .ref (Ma 7), .int x_53, .ref (Ma 8), .int (Mv 10), .ref (Ma 9), .ref (Ma 10), .int (Mv 11), .int (Mv 12), .int (Mv 13), .ref (Ma 11), .int (Mv 14), .ref (Ma 12), .ref (Ma 13), .ref (Ma 14), .ref (Ma 15), .ref (Ma 16), .long (Mj 0), .ref (Ma 17), .ref (Ma 18), .ref (Ma 19), .ref (Ma 20)])), ((Ma 2), .inl (tc 0, 2400, .inl vy_9)), ((Ma 3), .inl (tc 0, 7, .inl vy_10)), ((Ma 7), .inl (tc 0, 400, .inl (Mf 7)))] := hD₀
          replace hS := hS₀
          clear hP₀ hD₀ hS₀
          have tp_x_53 : (x_53 : Int32).toInt = (vy_8 : Int32).toInt - 1 := by
            have z_1 := Int32.lt_iff_toInt_lt.mp (Int32.not_le.mp c_30)
            have z_2 := Int32.le_iff_toInt_le.mp (Int32.not_lt.mp c_43)
            have y_0 : (0 : Int32).toInt = 0 := by decide
            have y_1 : (1 : Int32).toInt = 1 := by decide
            have t_x_53 : x_53.toInt = (vy_8 : Int32).toInt - (1 : Int32).toInt := by rw [ex_53]; exact sub_toInt (by omega) (by omega)
            omega
          refine lv_aload_n hx hb dX12_layDown_35 rfl (lv_at hl 0 rfl) ?_
          refine lv_aload_n hx hb dX12_layDown_36 rfl (lv_at hl 0 rfl) ?_
          refine gf_X12_29 hx hb hts hown hK hP 0 rfl rfl dX12_layDown_37 ?_
          refine lv_aload_n hx hb dX12_layDown_40 rfl (lv_at hl 0 rfl) ?_
          refine gf_X12_154 hx hb hts hown hK hP 0 rfl rfl dX12_layDown_41 ?_
          have hi_54 : vp_in x_53 400 := by
            have z_1 := Int32.lt_iff_toInt_lt.mp (Int32.not_le.mp c_30)
            have z_2 := Int32.le_iff_toInt_le.mp (Int32.not_lt.mp c_43)
            have y_0 : (0 : Int32).toInt = 0 := by decide
            have y_1 : (1 : Int32).toInt = 1 := by decide
            have t_x_53 : x_53.toInt = (vy_8 : Int32).toInt - (1 : Int32).toInt := by rw [ex_53]; exact sub_toInt (by omega) (by omega)
            refine vp_in_iff.mpr ⟨?_, ?_⟩ <;> omega
          refine va_iald hx hb hK hP 3 0 rfl rfl hi_54 dX12_layDown_44 ?_
          refine lv_topi (fun x_55 ex_55 => ?_)
          have qx_55 : x_55 = x_36 := by rw [ex_55, ex_36, ex_34, ex_53]
          have hx_56 : (x_55 : Int32).toInt = 11 ∨ (x_55 : Int32).toInt = 12 ∨ (x_55 : Int32).toInt = 13 := by
            rw [qx_55]
            have z_1 := Int32.lt_iff_toInt_lt.mp (Int32.not_le.mp c_30)
            have z_2 := Int32.le_iff_toInt_le.mp (Int32.not_lt.mp c_43)
            have y_0 : (0 : Int32).toInt = 0 := by decide
            omega
          have hi_57 : (x_53 : Int32).toInt = (vy_8 : Int32).toInt - 1 := by
            have z_1 := Int32.lt_iff_toInt_lt.mp (Int32.not_le.mp c_30)
            have z_2 := Int32.le_iff_toInt_le.mp (Int32.not_lt.mp c_43)
            have y_0 : (0 : Int32).toInt = 0 := by decide
            have y_1 : (1 : Int32).toInt = 1 := by decide
            have t_x_53 : x_53.toInt = (vy_8 : Int32).toInt - (1 : Int32).toInt := by rw [ex_53]; exact sub_toInt (by omega) (by omega)
            omega
          have hr_58 : 1 ≤ (vy_8 : Int32).toInt := by
            have z_1 := Int32.lt_iff_toInt_lt.mp (Int32.not_le.mp c_30)
            have z_2 := Int32.le_iff_toInt_le.mp (Int32.not_lt.mp c_43)
            have y_0 : (0 : Int32).toInt = 0 := by decide
            omega
          obtain ⟨dn_59, en_60, pf_61, pf_62, pf_63, pf_64⟩ := LSR.pop pf_15 hi_57 hr_58 ex_55 hx_56
          have ar_pf_61 := Cd.ar pf_61
          have qax_55 : (x_55 : Int32).toInt = (x_36 : Int32).toInt := congrArg Int32.toInt qx_55
          refine lv_iconst (v := 0) hx hb dX12_layDown_45 (by decide) ?_
          have ha_65 : (en_60 : Int) ≤ (Mv 6).toInt := by
            have z_1 := Int32.lt_iff_toInt_lt.mp (Int32.not_le.mp c_30)
            have z_2 := Int32.le_iff_toInt_le.mp (Int32.not_lt.mp c_43)
            have y_0 : (0 : Int32).toInt = 0 := by decide
            omega
          have ha_66 : (vy_10 (Mv 5).toNatClampNeg).toInt < 400 := by
            have z_1 := Int32.lt_iff_toInt_lt.mp (Int32.not_le.mp c_30)
            have z_2 := Int32.le_iff_toInt_le.mp (Int32.not_lt.mp c_43)
            have y_0 : (0 : Int32).toInt = 0 := by decide
            omega
          have ha_67 : 0 ≤ x_55.toInt ∧ x_55.toInt ≤ 15 := by
            have z_1 := Int32.lt_iff_toInt_lt.mp (Int32.not_le.mp c_30)
            have z_2 := Int32.le_iff_toInt_le.mp (Int32.not_lt.mp c_43)
            have y_0 : (0 : Int32).toInt = 0 := by decide
            omega
          have ha_68 : 0 ≤ (0 : Int32).toInt ∧ (0 : Int32).toInt ≤ 100000 := by
            have z_1 := Int32.lt_iff_toInt_lt.mp (Int32.not_le.mp c_30)
            have z_2 := Int32.le_iff_toInt_le.mp (Int32.not_lt.mp c_43)
            have y_0 : (0 : Int32).toInt = 0 := by decide
            omega
          refine cV (a := (Ma 0)) (As := [.int x_55, .int 0]) (rest := []) (wr := [((Ma 7), .inl (tc 0, 400, .inl (Mf 7)))]) ⟨hx, hb, hml, hown, hts⟩ hK hX hA (cu_kX12_puts l D tc sk (Ma 0) (Ma 1) (Ma 2) (Ma 3) (Ma 4) (Ma 5) (Ma 6) (Ma 7) (Ma 8) (Ma 9) (Ma 10) (Ma 11) (Ma 12) (Ma 13) (Ma 14) (Ma 15) (Ma 16) (Ma 17) (Ma 18) (Ma 19) (Ma 20) (Mv 0) (Mv 1) (Mv 2) (Mv 3) (Mv 4) (Mv 5) (Mv 6) vy_11 (Mv 8) x_53 (Mv 10) (Mv 11) (Mv 12) (Mv 13) (Mv 14) vy_9 vy_10 (Mj 0) x_55 0 b (Mv 6) dn_59 en_60 lo_29 (opI (x_55 : Int32).toInt) pf_61 pf_62 ha_65 ha_66 pf_26 (rE_opx hx_56 (by decide)) ha_67 ha_68 h_tx) k_1296 k_1293 k_1295 k_46 k_106 pl_X12_puts ⟨Nat.le_of_ble_eq_true rfl, Nat.le_of_ble_eq_true rfl⟩ rfl rfl (va_recv hK hP (ci := 12) (q0 := 0) rfl rfl) hP hD hS [0, 1, 2] [3] rfl rfl rfl rfl rfl (by decide) rfl hl.1 rfl (Nat.le_of_ble_eq_true rfl) dX12_layDown_46 ⟨Nat.le_of_ble_eq_true rfl, Nat.le_of_ble_eq_true rfl⟩ (fun v_69 u_70 H locs hv_71 hP₀ hD₀ hS₀ => ?_)
          obtain ⟨sv_72, sv_73⟩ := u_70
          obtain ⟨rfl, pf_74, pf_75, pf_76, pf_77⟩ := hv_71
          have pf_74 : Cd sv_72 sv_73 (Mv 5) b (Mv 6) en_60 := pf_74
          have ar_pf_74 := Cd.ar pf_74
          have pf_75 : Agr vy_9 sv_72 (400 * ((Mv 5) : Int32).toInt + (vy_10 (Mv 5).toNatClampNeg).toInt) := pf_75
          have pf_76 : (sv_73 (Mv 5).toNatClampNeg).toInt = (vy_10 (Mv 5).toNatClampNeg).toInt + 1 := pf_76
          have pf_77 : SgC sv_72 sv_73 (Mv 5) (lo_29 ++ [(opI (x_55 : Int32).toInt)]) := pf_77
          obtain ⟨lo_78, elo_78⟩ : ∃ z : List Int, z = (lo_29 ++ [(opI (x_55 : Int32).toInt)]) := ⟨_, rfl⟩
          rw [← elo_78] at pf_77
          refine W.eq (g2 := F0 m 49 ls []) rfl ?_
          replace hP : va_P D classes [((Ma 7), .inl (tc 0, 400, .inl (Mf 7))), ((Ma 0), .inr (12, [.ref (Ma 1), .int (Mv 0), .int (Mv 1), .ref (Ma 2), .ref (Ma 3), .ref (Ma 4), .ref (Ma 5), .ref (Ma 6), .int (Mv 2), .int (Mv 3), .int (Mv 4), .int (Mv 5), .int (Mv 6), .int vy_11, .int (Mv 8), .ref (Ma 7), .int x_53, .ref (Ma 8), .int (Mv 10), .ref (Ma 9), .ref (Ma 10), .int (Mv 11), .int (Mv 12), .int (Mv 13), .ref (Ma 11), .int (Mv 14), .ref (Ma 12), .ref (Ma 13), .ref (Ma 14), .ref (Ma 15), .ref (Ma 16), .long (Mj 0), .ref (Ma 17), .ref (Ma 18), .ref (Ma 19), .ref (Ma 20)])), ((Ma 2), .inl (tc 0, 2400, .inl sv_72)), ((Ma 3), .inl (tc 0, 7, .inl sv_73))] H := hP₀
          replace hD : va_D A [((Ma 7), .inl (tc 0, 400, .inl (Mf 7))), ((Ma 0), .inr (12, [.ref (Ma 1), .int (Mv 0), .int (Mv 1), .ref (Ma 2), .ref (Ma 3), .ref (Ma 4), .ref (Ma 5), .ref (Ma 6), .int (Mv 2), .int (Mv 3), .int (Mv 4), .int (Mv 5), .int (Mv 6), .int vy_11, .int (Mv 8), .ref (Ma 7), .int x_53, .ref (Ma 8), .int (Mv 10), .ref (Ma 9), .ref (Ma 10), .int (Mv 11), .int (Mv 12), .int (Mv 13), .ref (Ma 11), .int (Mv 14), .ref (Ma 12), .ref (Ma 13), .ref (Ma 14), .ref (Ma 15), .ref (Ma 16), .long (Mj 0), .ref (Ma 17), .ref (Ma 18), .ref (Ma 19), .ref (Ma 20)])), ((Ma 2), .inl (tc 0, 2400, .inl sv_72)), ((Ma 3), .inl (tc 0, 7, .inl sv_73))] := hD₀
          replace hS := hS₀
          clear hP₀ hD₀ hS₀
          refine lv_aload_n hx hb dX12_layDown_49 rfl (lv_at hl 0 rfl) ?_
          refine gf_X12_29 hx hb hts hown hK hP 1 rfl rfl dX12_layDown_50 ?_
          refine lv_aload_n hx hb dX12_layDown_53 rfl (lv_at hl 0 rfl) ?_
          refine gf_X12_154 hx hb hts hown hK hP 1 rfl rfl dX12_layDown_54 ?_
          have hi_79 : vp_in x_53 400 := by
            have z_1 := Int32.lt_iff_toInt_lt.mp (Int32.not_le.mp c_30)
            have z_2 := Int32.le_iff_toInt_le.mp (Int32.not_lt.mp c_43)
            have y_0 : (0 : Int32).toInt = 0 := by decide
            have y_1 : (1 : Int32).toInt = 1 := by decide
            have t_x_53 : x_53.toInt = (vy_8 : Int32).toInt - (1 : Int32).toInt := by rw [ex_53]; exact sub_toInt (by omega) (by omega)
            refine vp_in_iff.mpr ⟨?_, ?_⟩ <;> omega
          refine va_iald hx hb hK hP 0 0 rfl rfl hi_79 dX12_layDown_57 ?_
          refine lv_topi (fun x_80 ex_80 => ?_)
          have qx_80 : x_80 = x_55 := by rw [ex_80, ex_55]
          have qtx_80 : (x_80 : Int32).toInt = (x_55 : Int32).toInt := congrArg Int32.toInt qx_80
          refine lv_bipush (v := 11) hx hb dX12_layDown_58 (by decide) ?_
          refine lv_icmp_ne (tgt := 0) hx hb dX12_layDown_60 (by decide) (fun c_81 => ?_) (fun c_81 => ?_)
          · skip
            have hb_82 : (x_53 : Int32).toInt < (vy_8 : Int32).toInt ∧ 1 ≤ (vy_8 : Int32).toInt := by
              have z_1 := Int32.lt_iff_toInt_lt.mp (Int32.not_le.mp c_30)
              have z_2 := Int32.le_iff_toInt_le.mp (Int32.not_lt.mp c_43)
              have z_3 : ¬ (x_80 : Int32).toInt = (11 : Int32).toInt := fun z => c_81 (Int32.toInt_inj.mp z)
              have y_0 : (0 : Int32).toInt = 0 := by decide
              have y_11 : (11 : Int32).toInt = 11 := by decide
              have y_1 : (1 : Int32).toInt = 1 := by decide
              have t_x_53 : x_53.toInt = (vy_8 : Int32).toInt - (1 : Int32).toInt := by rw [ex_53]; exact sub_toInt (by omega) (by omega)
              omega
            have ha_83 : (sv_73 (Mv 5).toNatClampNeg).toInt + (x_53 : Int32).toInt = ((Mf 3) (Mv 5).toNatClampNeg).toInt + ((Mv 9) : Int32).toInt ∧ 0 ≤ (x_53 : Int32).toInt ∧ (x_53 : Int32).toInt ≤ ((Mv 9) : Int32).toInt := by
              have z_1 := Int32.lt_iff_toInt_lt.mp (Int32.not_le.mp c_30)
              have z_2 := Int32.le_iff_toInt_le.mp (Int32.not_lt.mp c_43)
              have z_3 : ¬ (x_80 : Int32).toInt = (11 : Int32).toInt := fun z => c_81 (Int32.toInt_inj.mp z)
              have y_0 : (0 : Int32).toInt = 0 := by decide
              have y_11 : (11 : Int32).toInt = 11 := by decide
              have y_1 : (1 : Int32).toInt = 1 := by decide
              have t_x_53 : x_53.toInt = (vy_8 : Int32).toInt - (1 : Int32).toInt := by rw [ex_53]; exact sub_toInt (by omega) (by omega)
              omega
            have hr_84 : (400 * ((Mv 5) : Int32).toInt + ((Mf 3) (Mv 5).toNatClampNeg).toInt) ≤ (400 * ((Mv 5) : Int32).toInt + ((Mf 3) (Mv 5).toNatClampNeg).toInt) := by
              have z_1 := Int32.lt_iff_toInt_lt.mp (Int32.not_le.mp c_30)
              have z_2 := Int32.le_iff_toInt_le.mp (Int32.not_lt.mp c_43)
              have z_3 : ¬ (x_80 : Int32).toInt = (11 : Int32).toInt := fun z => c_81 (Int32.toInt_inj.mp z)
              have y_0 : (0 : Int32).toInt = 0 := by decide
              have y_11 : (11 : Int32).toInt = 11 := by decide
              omega
            have hr_85 : (400 * ((Mv 5) : Int32).toInt + ((Mf 3) (Mv 5).toNatClampNeg).toInt) ≤ (400 * ((Mv 5) : Int32).toInt + (vy_10 (Mv 5).toNatClampNeg).toInt) := by
              have z_1 := Int32.lt_iff_toInt_lt.mp (Int32.not_le.mp c_30)
              have z_2 := Int32.le_iff_toInt_le.mp (Int32.not_lt.mp c_43)
              have z_3 : ¬ (x_80 : Int32).toInt = (11 : Int32).toInt := fun z => c_81 (Int32.toInt_inj.mp z)
              have y_0 : (0 : Int32).toInt = 0 := by decide
              have y_11 : (11 : Int32).toInt = 11 := by decide
              omega
            have hr_86 : (x_55 : Int32).toInt ≠ 91 := by
              have z_1 := Int32.lt_iff_toInt_lt.mp (Int32.not_le.mp c_30)
              have z_2 := Int32.le_iff_toInt_le.mp (Int32.not_lt.mp c_43)
              have z_3 : ¬ (x_80 : Int32).toInt = (11 : Int32).toInt := fun z => c_81 (Int32.toInt_inj.mp z)
              have y_0 : (0 : Int32).toInt = 0 := by decide
              have y_11 : (11 : Int32).toInt = 11 := by decide
              omega
            have hi_87 : (x_53 : Int32).toInt = (vy_8 : Int32).toInt - 1 := by
              have z_1 := Int32.lt_iff_toInt_lt.mp (Int32.not_le.mp c_30)
              have z_2 := Int32.le_iff_toInt_le.mp (Int32.not_lt.mp c_43)
              have z_3 : ¬ (x_80 : Int32).toInt = (11 : Int32).toInt := fun z => c_81 (Int32.toInt_inj.mp z)
              have y_0 : (0 : Int32).toInt = 0 := by decide
              have y_11 : (11 : Int32).toInt = 11 := by decide
              have y_1 : (1 : Int32).toInt = 1 := by decide
              have t_x_53 : x_53.toInt = (vy_8 : Int32).toInt - (1 : Int32).toInt := by rw [ex_53]; exact sub_toInt (by omega) (by omega)
              omega
            have hr_88 : 0 ≤ (x_53 : Int32).toInt := by
              have z_1 := Int32.lt_iff_toInt_lt.mp (Int32.not_le.mp c_30)
              have z_2 := Int32.le_iff_toInt_le.mp (Int32.not_lt.mp c_43)
              have z_3 : ¬ (x_80 : Int32).toInt = (11 : Int32).toInt := fun z => c_81 (Int32.toInt_inj.mp z)
              have y_0 : (0 : Int32).toInt = 0 := by decide
              have y_11 : (11 : Int32).toInt = 11 := by decide
              have y_1 : (1 : Int32).toInt = 1 := by decide
              have t_x_53 : x_53.toInt = (vy_8 : Int32).toInt - (1 : Int32).toInt := by rw [ex_53]; exact sub_toInt (by omega) (by omega)
              omega
            have hr_89 : ((x_55 : Int32).toInt = 11 ∧ (vy_11 : Int32).toInt = (vy_11 : Int32).toInt - 1) ∨ (((x_55 : Int32).toInt = 12 ∨ (x_55 : Int32).toInt = 13) ∧ (vy_11 : Int32).toInt = (vy_11 : Int32).toInt) := by
              have z_1 := Int32.lt_iff_toInt_lt.mp (Int32.not_le.mp c_30)
              have z_2 := Int32.le_iff_toInt_le.mp (Int32.not_lt.mp c_43)
              have z_3 : ¬ (x_80 : Int32).toInt = (11 : Int32).toInt := fun z => c_81 (Int32.toInt_inj.mp z)
              have y_0 : (0 : Int32).toInt = 0 := by decide
              have y_11 : (11 : Int32).toInt = 11 := by decide
              omega
            have hi_90 : (x_53 : Int32).toInt = (vy_8 : Int32).toInt - 1 := by
              have z_1 := Int32.lt_iff_toInt_lt.mp (Int32.not_le.mp c_30)
              have z_2 := Int32.le_iff_toInt_le.mp (Int32.not_lt.mp c_43)
              have z_3 : ¬ (x_80 : Int32).toInt = (11 : Int32).toInt := fun z => c_81 (Int32.toInt_inj.mp z)
              have y_0 : (0 : Int32).toInt = 0 := by decide
              have y_11 : (11 : Int32).toInt = 11 := by decide
              have y_1 : (1 : Int32).toInt = 1 := by decide
              have t_x_53 : x_53.toInt = (vy_8 : Int32).toInt - (1 : Int32).toInt := by rw [ex_53]; exact sub_toInt (by omega) (by omega)
              omega
            have hr_91 : 1 ≤ (vy_8 : Int32).toInt := by
              have z_1 := Int32.lt_iff_toInt_lt.mp (Int32.not_le.mp c_30)
              have z_2 := Int32.le_iff_toInt_le.mp (Int32.not_lt.mp c_43)
              have z_3 : ¬ (x_80 : Int32).toInt = (11 : Int32).toInt := fun z => c_81 (Int32.toInt_inj.mp z)
              have y_0 : (0 : Int32).toInt = 0 := by decide
              have y_11 : (11 : Int32).toInt = 11 := by decide
              omega
            have hr_92 : ((x_55 : Int32).toInt = 13 → x1.toInt ≤ 1) ∧ ((x_55 : Int32).toInt = 12 → x1.toInt ≤ 2) ∧ ((x_55 : Int32).toInt = 11 → x1.toInt ≤ 3) := by
              have z_1 := Int32.lt_iff_toInt_lt.mp (Int32.not_le.mp c_30)
              have z_2 := Int32.le_iff_toInt_le.mp (Int32.not_lt.mp c_43)
              have z_3 : ¬ (x_80 : Int32).toInt = (11 : Int32).toInt := fun z => c_81 (Int32.toInt_inj.mp z)
              have y_0 : (0 : Int32).toInt = 0 := by decide
              have y_11 : (11 : Int32).toInt = 11 := by decide
              omega
            have hi_93 : (x_53 : Int32).toInt = (vy_8 : Int32).toInt - 1 := by
              have z_1 := Int32.lt_iff_toInt_lt.mp (Int32.not_le.mp c_30)
              have z_2 := Int32.le_iff_toInt_le.mp (Int32.not_lt.mp c_43)
              have z_3 : ¬ (x_80 : Int32).toInt = (11 : Int32).toInt := fun z => c_81 (Int32.toInt_inj.mp z)
              have y_0 : (0 : Int32).toInt = 0 := by decide
              have y_11 : (11 : Int32).toInt = 11 := by decide
              have y_1 : (1 : Int32).toInt = 1 := by decide
              have t_x_53 : x_53.toInt = (vy_8 : Int32).toInt - (1 : Int32).toInt := by rw [ex_53]; exact sub_toInt (by omega) (by omega)
              omega
            have hi_94 : (x_53 : Int32).toInt = (vy_8 : Int32).toInt - 1 := by
              have z_1 := Int32.lt_iff_toInt_lt.mp (Int32.not_le.mp c_30)
              have z_2 := Int32.le_iff_toInt_le.mp (Int32.not_lt.mp c_43)
              have z_3 : ¬ (x_80 : Int32).toInt = (11 : Int32).toInt := fun z => c_81 (Int32.toInt_inj.mp z)
              have y_0 : (0 : Int32).toInt = 0 := by decide
              have y_11 : (11 : Int32).toInt = 11 := by decide
              have y_1 : (1 : Int32).toInt = 1 := by decide
              have t_x_53 : x_53.toInt = (vy_8 : Int32).toInt - (1 : Int32).toInt := by rw [ex_53]; exact sub_toInt (by omega) (by omega)
              omega
            have hr_95 : 1 ≤ (vy_8 : Int32).toInt := by
              have z_1 := Int32.lt_iff_toInt_lt.mp (Int32.not_le.mp c_30)
              have z_2 := Int32.le_iff_toInt_le.mp (Int32.not_lt.mp c_43)
              have z_3 : ¬ (x_80 : Int32).toInt = (11 : Int32).toInt := fun z => c_81 (Int32.toInt_inj.mp z)
              have y_0 : (0 : Int32).toInt = 0 := by decide
              have y_11 : (11 : Int32).toInt = 11 := by decide
              omega
            have hu_96 : SgC sv_72 sv_73 (Mv 5) ((ll ++ xq_25) ++ [(opI (x_55 : Int32).toInt)]) := by
              rw [← elo_29, ← elo_78]
              exact pf_77
            exact ih_13 x_53 sv_72 sv_73 vy_11 _ _ _ (by omega) (pf_64 _ _ pf_74) ha_83 (Agr.trans (k' := (400 * ((Mv 5) : Int32).toInt + ((Mf 3) (Mv 5).toNatClampNeg).toInt)) (Agr.mono pf_17 hr_84) pf_75 ⟨Int.le_refl _, hr_85⟩) (InK.step pf_18 ex_55 hr_86 hi_87 hr_88) (LdP.step pf_19 ex_55 hi_90 hr_91 hr_89) (LdC.step pf_27 pf_28 ex_55 hi_93 hi_94 hr_95 hx_56 hr_92 hu_96) (hP.sub [1, 2, 3, 0] rfl) (hD.sub [1, 2, 3, 0] rfl rfl) hS (lv_sub hl [0, 1] rfl)
          · skip
            refine lv_aload_n hx hb dX12_layDown_63 rfl (lv_at hl 0 rfl) ?_
            refine lv_dup hx hb dX12_layDown_64 rfl ?_
            refine gf_X12_151 hx hb hts hown hK hP 1 rfl rfl dX12_layDown_65 ?_
            refine lv_iconst (v := 1) hx hb dX12_layDown_68 (by decide) ?_
            refine lv_isub hx hb dX12_layDown_69 ?_
            refine lv_topi (fun x_97 ex_97 => ?_)
            refine pf_X12_151 hx hb hts hown hK hP hD hS 1 rfl (Nat.le_of_ble_eq_true rfl) rfl rfl dX12_layDown_70 (fun H locs hP₀ hD₀ hS₀ => ?_)
            replace hP : va_P D classes [((Ma 7), .inl (tc 0, 400, .inl (Mf 7))), ((Ma 0), .inr (12, [.ref (Ma 1), .int (Mv 0), .int (Mv 1), .ref (Ma 2), .ref (Ma 3), .ref (Ma 4), .ref (Ma 5), .ref (Ma 6), .int (Mv 2), .int (Mv 3), .int (Mv 4), .int (Mv 5), .int (Mv 6), .int x_97, .int (Mv 8), .ref (Ma 7), .int x_53, .ref (Ma 8), .int (Mv 10), .ref (Ma 9), .ref (Ma 10), .int (Mv 11), .int (Mv 12), .int (Mv 13), .ref (Ma 11), .int (Mv 14), .ref (Ma 12), .ref (Ma 13), .ref (Ma 14), .ref (Ma 15), .ref (Ma 16), .long (Mj 0), .ref (Ma 17), .ref (Ma 18), .ref (Ma 19), .ref (Ma 20)])), ((Ma 2), .inl (tc 0, 2400, .inl sv_72)), ((Ma 3), .inl (tc 0, 7, .inl sv_73))] H := hP₀
            replace hD : va_D A [((Ma 7), .inl (tc 0, 400, .inl (Mf 7))), ((Ma 0), .inr (12, [.ref (Ma 1), .int (Mv 0), .int (Mv 1), .ref (Ma 2), .ref (Ma 3), .ref (Ma 4), .ref (Ma 5), .ref (Ma 6), .int (Mv 2), .int (Mv 3), .int (Mv 4), .int (Mv 5), .int (Mv 6), .int x_97, .int (Mv 8), .ref (Ma 7), .int x_53, .ref (Ma 8), .int (Mv 10), .ref (Ma 9), .ref (Ma 10), .int (Mv 11), .int (Mv 12), .int (Mv 13), .ref (Ma 11), .int (Mv 14), .ref (Ma 12), .ref (Ma 13), .ref (Ma 14), .ref (Ma 15), .ref (Ma 16), .long (Mj 0), .ref (Ma 17), .ref (Ma 18), .ref (Ma 19), .ref (Ma 20)])), ((Ma 2), .inl (tc 0, 2400, .inl sv_72)), ((Ma 3), .inl (tc 0, 7, .inl sv_73))] := hD₀
            replace hS := hS₀
            clear hP₀ hD₀ hS₀
            refine lv_goto (tgt := 0) hx hb dX12_layDown_73 (by decide) ?_
            have hb_98 : (x_53 : Int32).toInt < (vy_8 : Int32).toInt ∧ 1 ≤ (vy_8 : Int32).toInt := by
              have z_1 := Int32.lt_iff_toInt_lt.mp (Int32.not_le.mp c_30)
              have z_2 := Int32.le_iff_toInt_le.mp (Int32.not_lt.mp c_43)
              have z_3 := congrArg Int32.toInt c_81
              have y_0 : (0 : Int32).toInt = 0 := by decide
              have y_11 : (11 : Int32).toInt = 11 := by decide
              have y_1 : (1 : Int32).toInt = 1 := by decide
              have t_x_53 : x_53.toInt = (vy_8 : Int32).toInt - (1 : Int32).toInt := by rw [ex_53]; exact sub_toInt (by omega) (by omega)
              omega
            have ha_99 : (sv_73 (Mv 5).toNatClampNeg).toInt + (x_53 : Int32).toInt = ((Mf 3) (Mv 5).toNatClampNeg).toInt + ((Mv 9) : Int32).toInt ∧ 0 ≤ (x_53 : Int32).toInt ∧ (x_53 : Int32).toInt ≤ ((Mv 9) : Int32).toInt := by
              have z_1 := Int32.lt_iff_toInt_lt.mp (Int32.not_le.mp c_30)
              have z_2 := Int32.le_iff_toInt_le.mp (Int32.not_lt.mp c_43)
              have z_3 := congrArg Int32.toInt c_81
              have y_0 : (0 : Int32).toInt = 0 := by decide
              have y_11 : (11 : Int32).toInt = 11 := by decide
              have y_1 : (1 : Int32).toInt = 1 := by decide
              have t_x_53 : x_53.toInt = (vy_8 : Int32).toInt - (1 : Int32).toInt := by rw [ex_53]; exact sub_toInt (by omega) (by omega)
              omega
            have hr_100 : (400 * ((Mv 5) : Int32).toInt + ((Mf 3) (Mv 5).toNatClampNeg).toInt) ≤ (400 * ((Mv 5) : Int32).toInt + ((Mf 3) (Mv 5).toNatClampNeg).toInt) := by
              have z_1 := Int32.lt_iff_toInt_lt.mp (Int32.not_le.mp c_30)
              have z_2 := Int32.le_iff_toInt_le.mp (Int32.not_lt.mp c_43)
              have z_3 := congrArg Int32.toInt c_81
              have y_0 : (0 : Int32).toInt = 0 := by decide
              have y_11 : (11 : Int32).toInt = 11 := by decide
              omega
            have hr_101 : (400 * ((Mv 5) : Int32).toInt + ((Mf 3) (Mv 5).toNatClampNeg).toInt) ≤ (400 * ((Mv 5) : Int32).toInt + (vy_10 (Mv 5).toNatClampNeg).toInt) := by
              have z_1 := Int32.lt_iff_toInt_lt.mp (Int32.not_le.mp c_30)
              have z_2 := Int32.le_iff_toInt_le.mp (Int32.not_lt.mp c_43)
              have z_3 := congrArg Int32.toInt c_81
              have y_0 : (0 : Int32).toInt = 0 := by decide
              have y_11 : (11 : Int32).toInt = 11 := by decide
              omega
            have hr_102 : (x_55 : Int32).toInt ≠ 91 := by
              have z_1 := Int32.lt_iff_toInt_lt.mp (Int32.not_le.mp c_30)
              have z_2 := Int32.le_iff_toInt_le.mp (Int32.not_lt.mp c_43)
              have z_3 := congrArg Int32.toInt c_81
              have y_0 : (0 : Int32).toInt = 0 := by decide
              have y_11 : (11 : Int32).toInt = 11 := by decide
              omega
            have hi_103 : (x_53 : Int32).toInt = (vy_8 : Int32).toInt - 1 := by
              have z_1 := Int32.lt_iff_toInt_lt.mp (Int32.not_le.mp c_30)
              have z_2 := Int32.le_iff_toInt_le.mp (Int32.not_lt.mp c_43)
              have z_3 := congrArg Int32.toInt c_81
              have y_0 : (0 : Int32).toInt = 0 := by decide
              have y_11 : (11 : Int32).toInt = 11 := by decide
              have y_1 : (1 : Int32).toInt = 1 := by decide
              have t_x_53 : x_53.toInt = (vy_8 : Int32).toInt - (1 : Int32).toInt := by rw [ex_53]; exact sub_toInt (by omega) (by omega)
              omega
            have hr_104 : 0 ≤ (x_53 : Int32).toInt := by
              have z_1 := Int32.lt_iff_toInt_lt.mp (Int32.not_le.mp c_30)
              have z_2 := Int32.le_iff_toInt_le.mp (Int32.not_lt.mp c_43)
              have z_3 := congrArg Int32.toInt c_81
              have y_0 : (0 : Int32).toInt = 0 := by decide
              have y_11 : (11 : Int32).toInt = 11 := by decide
              have y_1 : (1 : Int32).toInt = 1 := by decide
              have t_x_53 : x_53.toInt = (vy_8 : Int32).toInt - (1 : Int32).toInt := by rw [ex_53]; exact sub_toInt (by omega) (by omega)
              omega
            have hr_105 : ((x_55 : Int32).toInt = 11 ∧ (x_97 : Int32).toInt = (vy_11 : Int32).toInt - 1) ∨ (((x_55 : Int32).toInt = 12 ∨ (x_55 : Int32).toInt = 13) ∧ (x_97 : Int32).toInt = (vy_11 : Int32).toInt) := by
              have z_1 := Int32.lt_iff_toInt_lt.mp (Int32.not_le.mp c_30)
              have z_2 := Int32.le_iff_toInt_le.mp (Int32.not_lt.mp c_43)
              have z_3 := congrArg Int32.toInt c_81
              have y_0 : (0 : Int32).toInt = 0 := by decide
              have y_11 : (11 : Int32).toInt = 11 := by decide
              have y_1 : (1 : Int32).toInt = 1 := by decide
              have t_x_97 : x_97.toInt = (vy_11 : Int32).toInt - (1 : Int32).toInt := by rw [ex_97]; exact sub_toInt (by omega) (by omega)
              omega
            have hi_106 : (x_53 : Int32).toInt = (vy_8 : Int32).toInt - 1 := by
              have z_1 := Int32.lt_iff_toInt_lt.mp (Int32.not_le.mp c_30)
              have z_2 := Int32.le_iff_toInt_le.mp (Int32.not_lt.mp c_43)
              have z_3 := congrArg Int32.toInt c_81
              have y_0 : (0 : Int32).toInt = 0 := by decide
              have y_11 : (11 : Int32).toInt = 11 := by decide
              have y_1 : (1 : Int32).toInt = 1 := by decide
              have t_x_53 : x_53.toInt = (vy_8 : Int32).toInt - (1 : Int32).toInt := by rw [ex_53]; exact sub_toInt (by omega) (by omega)
              omega
            have hr_107 : 1 ≤ (vy_8 : Int32).toInt := by
              have z_1 := Int32.lt_iff_toInt_lt.mp (Int32.not_le.mp c_30)
              have z_2 := Int32.le_iff_toInt_le.mp (Int32.not_lt.mp c_43)
              have z_3 := congrArg Int32.toInt c_81
              have y_0 : (0 : Int32).toInt = 0 := by decide
              have y_11 : (11 : Int32).toInt = 11 := by decide
              omega
            have hr_108 : ((x_55 : Int32).toInt = 13 → x1.toInt ≤ 1) ∧ ((x_55 : Int32).toInt = 12 → x1.toInt ≤ 2) ∧ ((x_55 : Int32).toInt = 11 → x1.toInt ≤ 3) := by
              have z_1 := Int32.lt_iff_toInt_lt.mp (Int32.not_le.mp c_30)
              have z_2 := Int32.le_iff_toInt_le.mp (Int32.not_lt.mp c_43)
              have z_3 := congrArg Int32.toInt c_81
              have y_0 : (0 : Int32).toInt = 0 := by decide
              have y_11 : (11 : Int32).toInt = 11 := by decide
              omega
            have hi_109 : (x_53 : Int32).toInt = (vy_8 : Int32).toInt - 1 := by
              have z_1 := Int32.lt_iff_toInt_lt.mp (Int32.not_le.mp c_30)
              have z_2 := Int32.le_iff_toInt_le.mp (Int32.not_lt.mp c_43)
              have z_3 := congrArg Int32.toInt c_81
              have y_0 : (0 : Int32).toInt = 0 := by decide
              have y_11 : (11 : Int32).toInt = 11 := by decide
              have y_1 : (1 : Int32).toInt = 1 := by decide
              have t_x_53 : x_53.toInt = (vy_8 : Int32).toInt - (1 : Int32).toInt := by rw [ex_53]; exact sub_toInt (by omega) (by omega)
              omega
            have hi_110 : (x_53 : Int32).toInt = (vy_8 : Int32).toInt - 1 := by
              have z_1 := Int32.lt_iff_toInt_lt.mp (Int32.not_le.mp c_30)
              have z_2 := Int32.le_iff_toInt_le.mp (Int32.not_lt.mp c_43)
              have z_3 := congrArg Int32.toInt c_81
              have y_0 : (0 : Int32).toInt = 0 := by decide
              have y_11 : (11 : Int32).toInt = 11 := by decide
              have y_1 : (1 : Int32).toInt = 1 := by decide
              have t_x_53 : x_53.toInt = (vy_8 : Int32).toInt - (1 : Int32).toInt := by rw [ex_53]; exact sub_toInt (by omega) (by omega)
              omega
            have hr_111 : 1 ≤ (vy_8 : Int32).toInt := by
              have z_1 := Int32.lt_iff_toInt_lt.mp (Int32.not_le.mp c_30)
              have z_2 := Int32.le_iff_toInt_le.mp (Int32.not_lt.mp c_43)
              have z_3 := congrArg Int32.toInt c_81
              have y_0 : (0 : Int32).toInt = 0 := by decide
              have y_11 : (11 : Int32).toInt = 11 := by decide
              omega
            have hu_112 : SgC sv_72 sv_73 (Mv 5) ((ll ++ xq_25) ++ [(opI (x_55 : Int32).toInt)]) := by
              rw [← elo_29, ← elo_78]
              exact pf_77
            exact ih_13 x_53 sv_72 sv_73 x_97 _ _ _ (by omega) (pf_64 _ _ pf_74) ha_99 (Agr.trans (k' := (400 * ((Mv 5) : Int32).toInt + ((Mf 3) (Mv 5).toNatClampNeg).toInt)) (Agr.mono pf_17 hr_100) pf_75 ⟨Int.le_refl _, hr_101⟩) (InK.step pf_18 ex_55 hr_102 hi_103 hr_104) (LdP.step pf_19 ex_55 hi_106 hr_107 hr_105) (LdC.step pf_27 pf_28 ex_55 hi_109 hi_110 hr_111 hx_56 hr_108 hu_112) (hP.sub [1, 2, 3, 0] rfl) (hD.sub [1, 2, 3, 0] rfl rfl) hS (lv_sub hl [0, 1] rfl)
  have ha_113 : ((Mf 3) (Mv 5).toNatClampNeg).toInt + ((Mv 9) : Int32).toInt = ((Mf 3) (Mv 5).toNatClampNeg).toInt + ((Mv 9) : Int32).toInt ∧ 0 ≤ ((Mv 9) : Int32).toInt ∧ ((Mv 9) : Int32).toInt ≤ ((Mv 9) : Int32).toInt := by
    omega
  exact loop_14 _ (Mv 9) (Mf 2) (Mf 3) (Mv 7) _ _ _ (Nat.lt_succ_self _) h_ls ha_113 (Agr.rf) (InK.rf) (LdP.rf h_os) (LdC.rf h_sg) hP hD hS hl
set_option maxRecDepth 100000 in
theorem cu_kX12_layDown (l : Launch) (D : va_G) (tc : Nat → ClassId) (sk : (Nat → Nat) × (Nat → Nat)) (Ma_0 : Nat) (Ma_1 : Nat) (Ma_2 : Nat) (Ma_3 : Nat) (Ma_4 : Nat) (Ma_5 : Nat) (Ma_6 : Nat) (Ma_7 : Nat) (Ma_8 : Nat) (Ma_9 : Nat) (Ma_10 : Nat) (Ma_11 : Nat) (Ma_12 : Nat) (Ma_13 : Nat) (Ma_14 : Nat) (Ma_15 : Nat) (Ma_16 : Nat) (Ma_17 : Nat) (Ma_18 : Nat) (Ma_19 : Nat) (Ma_20 : Nat) (Mv_0 : Int32) (Mv_1 : Int32) (Mv_2 : Int32) (Mv_3 : Int32) (Mv_4 : Int32) (Mv_5 : Int32) (Mv_6 : Int32) (Mv_7 : Int32) (Mv_8 : Int32) (Mv_9 : Int32) (Mv_10 : Int32) (Mv_11 : Int32) (Mv_12 : Int32) (Mv_13 : Int32) (Mv_14 : Int32) (Mf_2 : Nat → Int32) (Mf_3 : Nat → Int32) (Mf_7 : Nat → Int32) (Mj_0 : Int64) (x1 : Int32) (b : Int32) (ll : List Int) (h_ls : LSR Mf_7 Mv_9 Mf_2 Mf_3 Mv_5 b Mv_6) (h_x : 1 ≤ x1.toInt ∧ x1.toInt ≤ 3) (h_s : (Mf_3 Mv_5.toNatClampNeg).toInt + (Mv_9 : Int32).toInt ≤ 400) (h_os : OsP Mf_7 Mv_9 Mv_7) (h_sg : SgC Mf_2 Mf_3 Mv_5 ll) (h_tx : 0 ≤ Mv_5.toInt) : Ct l yX12_layDown cX12_layDown 2 none { frames := 1, cells := 0, slots := 0, locals := 22 } D tc sk [.ref Ma_0, .int x1] [(Ma_0, .inr (12, [.ref Ma_1, .int Mv_0, .int Mv_1, .ref Ma_2, .ref Ma_3, .ref Ma_4, .ref Ma_5, .ref Ma_6, .int Mv_2, .int Mv_3, .int Mv_4, .int Mv_5, .int Mv_6, .int Mv_7, .int Mv_8, .ref Ma_7, .int Mv_9, .ref Ma_8, .int Mv_10, .ref Ma_9, .ref Ma_10, .int Mv_11, .int Mv_12, .int Mv_13, .ref Ma_11, .int Mv_14, .ref Ma_12, .ref Ma_13, .ref Ma_14, .ref Ma_15, .ref Ma_16, .long Mj_0, .ref Ma_17, .ref Ma_18, .ref Ma_19, .ref Ma_20])), (Ma_2, .inl (tc 0, 2400, .inl Mf_2)), (Ma_3, .inl (tc 0, 7, .inl Mf_3)), (Ma_7, .inl (tc 0, 400, .inl Mf_7))] (fun (v : Option Value) (u : (Int32) × (Int32) × (Nat → Int32) × (Nat → Int32)) => match u with | (oo0x1, oo0x2, oo0x3, oo0x4) => v = none ∧ (LSR Mf_7 oo0x2 oo0x3 oo0x4 Mv_5 b Mv_6) ∧ ((oo0x4 Mv_5.toNatClampNeg).toInt + (oo0x2 : Int32).toInt = (Mf_3 Mv_5.toNatClampNeg).toInt + (Mv_9 : Int32).toInt ∧ 0 ≤ (oo0x2 : Int32).toInt ∧ (oo0x2 : Int32).toInt ≤ (Mv_9 : Int32).toInt) ∧ (Agr Mf_2 oo0x3 (400 * (Mv_5 : Int32).toInt + (Mf_3 Mv_5.toNatClampNeg).toInt)) ∧ (LdE Mf_7 oo0x2 x1) ∧ (InK Mf_7 Mv_9 oo0x2) ∧ (LdP Mf_7 Mv_9 oo0x2 oo0x1) ∧ (T11 Mf_7 oo0x2) ∧ (LdC Mf_7 Mv_9 oo0x2 oo0x3 oo0x4 Mv_5 ll x1) ∧ (LdS Mf_7 oo0x2 x1)) (fun (u : (Int32) × (Int32) × (Nat → Int32) × (Nat → Int32)) => match u with | (oo0x1, oo0x2, oo0x3, oo0x4) => [(Ma_0, .inr (12, [.ref Ma_1, .int Mv_0, .int Mv_1, .ref Ma_2, .ref Ma_3, .ref Ma_4, .ref Ma_5, .ref Ma_6, .int Mv_2, .int Mv_3, .int Mv_4, .int Mv_5, .int Mv_6, .int oo0x1, .int Mv_8, .ref Ma_7, .int oo0x2, .ref Ma_8, .int Mv_10, .ref Ma_9, .ref Ma_10, .int Mv_11, .int Mv_12, .int Mv_13, .ref Ma_11, .int Mv_14, .ref Ma_12, .ref Ma_13, .ref Ma_14, .ref Ma_15, .ref Ma_16, .long Mj_0, .ref Ma_17, .ref Ma_18, .ref Ma_19, .ref Ma_20])), (Ma_2, .inl (tc 0, 2400, .inl oo0x3)), (Ma_3, .inl (tc 0, 7, .inl oo0x4)), (Ma_7, .inl (tc 0, 400, .inl Mf_7))]) 0 0 :=
  ct_kX12_layDown l D tc sk (fun k => ([Ma_0, Ma_1, Ma_2, Ma_3, Ma_4, Ma_5, Ma_6, Ma_7, Ma_8, Ma_9, Ma_10, Ma_11, Ma_12, Ma_13, Ma_14, Ma_15, Ma_16, Ma_17, Ma_18, Ma_19, Ma_20] : List (Nat)).getD k 0) (fun k => ([Mv_0, Mv_1, Mv_2, Mv_3, Mv_4, Mv_5, Mv_6, Mv_7, Mv_8, Mv_9, Mv_10, Mv_11, Mv_12, Mv_13, Mv_14] : List (Int32)).getD k 0) (fun k => ([(fun _ => 0), (fun _ => 0), Mf_2, Mf_3, (fun _ => 0), (fun _ => 0), (fun _ => 0), Mf_7] : List (Nat → Int32)).getD k (fun _ => 0)) (fun k => ([Mj_0] : List (Int64)).getD k 0) x1 b ll h_ls h_x h_s h_os h_sg h_tx
set_option maxHeartbeats 4000000 in
set_option maxRecDepth 100000 in
theorem ct_kX12_fact (l : Launch) (D : va_G) (tc : Nat → ClassId) (sk : (Nat → Nat) × (Nat → Nat)) (Ma : Nat → Nat) (Mv : Nat → Int32) (Mf : Nat → Nat → Int32) (Mj : Nat → Int64) (b : Int32) (R : Except Int (Nat × Nat)) (TC : List Int) (h_nx : 0 ≤ ((Mv 2) : Int32).toInt ∧ ((Mv 2) : Int32).toInt ≤ ((Mv 0) : Int32).toInt ∧ ((Mv 0) : Int32).toInt ≤ 400) (h_lb : LBR (Mf 7) (Mv 9) (Mf 2) (Mf 3) (Mv 5) b (Mv 6)) (h_s : ((Mf 3) (Mv 5).toNatClampNeg).toInt + ((Mv 9) : Int32).toInt ≤ ((Mv 2) : Int32).toInt) (h_md : 0 ≤ ((Mv 6) : Int32).toInt ∧ ((Mv 6) : Int32).toInt ≤ 60) (h_bs : ByS (Mf 1)) (h_fc : FcI R (rB (Mf 1) (Mv 0)) (Mf 7) (Mv 9) (Mv 7) (Mv 2) (Mv 6) (Mv 3)) (h_fa : FcA TC R (rB (Mf 1) (Mv 0)) (Mf 7) (Mv 9) (Mv 7) (Mv 2) (Mv 6) (Mf 2) (Mf 3) (Mv 5)) : Ct l yX12_fact cX12_fact 3 (some .boolean) { frames := 7, cells := 0, slots := 0, locals := 154 } D tc sk [.ref (Ma 0)] [((Ma 0), .inr (12, [.ref (Ma 1), .int (Mv 0), .int (Mv 1), .ref (Ma 2), .ref (Ma 3), .ref (Ma 4), .ref (Ma 5), .ref (Ma 6), .int (Mv 2), .int (Mv 3), .int (Mv 4), .int (Mv 5), .int (Mv 6), .int (Mv 7), .int (Mv 8), .ref (Ma 7), .int (Mv 9), .ref (Ma 8), .int (Mv 10), .ref (Ma 9), .ref (Ma 10), .int (Mv 11), .int (Mv 12), .int (Mv 13), .ref (Ma 11), .int (Mv 14), .ref (Ma 12), .ref (Ma 13), .ref (Ma 14), .ref (Ma 15), .ref (Ma 16), .long (Mj 0), .ref (Ma 17), .ref (Ma 18), .ref (Ma 19), .ref (Ma 20)])), ((Ma 1), .inl (tc 2, 400, .inl (Mf 1))), ((Ma 2), .inl (tc 0, 2400, .inl (Mf 2))), ((Ma 3), .inl (tc 0, 7, .inl (Mf 3))), ((Ma 7), .inl (tc 0, 400, .inl (Mf 7)))] (fun (v : Option Value) (u : (Int32) × (Int32) × (Int32) × (Int32) × (Int32) × (Int32) × (Nat → Int32) × (Nat → Int32) × (Nat → Int32)) => match u with | (oo0x1, oo0x2, oo0x3, oo0x4, oo0x5, oo0x6, oo0x7, oo0x8, oo0x9) => ∃ r : Int32, v = some (.int r) ∧ (((r.toInt = 0 ∧ ¬ (oo0x2 : Int32).toInt = 0) ∨ (r.toInt = 1 ∧ (oo0x8 (Mv 5).toNatClampNeg).toInt + (oo0x6 : Int32).toInt + ((Mv 2) : Int32).toInt ≤ ((Mf 3) (Mv 5).toNatClampNeg).toInt + ((Mv 9) : Int32).toInt + (oo0x1 : Int32).toInt ∧ ((Mv 2) : Int32).toInt + 1 ≤ (oo0x1 : Int32).toInt ∧ ((Mf 3) (Mv 5).toNatClampNeg).toInt ≤ (oo0x8 (Mv 5).toNatClampNeg).toInt))) ∧ (((Mv 2) : Int32).toInt ≤ (oo0x1 : Int32).toInt ∧ (oo0x1 : Int32).toInt ≤ ((Mv 0) : Int32).toInt) ∧ (((Mv 6) : Int32).toInt ≤ (oo0x4 : Int32).toInt ∧ (oo0x4 : Int32).toInt ≤ 60) ∧ (Agr (Mf 2) oo0x7 (400 * ((Mv 5) : Int32).toInt + ((Mf 3) (Mv 5).toNatClampNeg).toInt)) ∧ (r.toInt = 1 → (LSR oo0x9 oo0x6 oo0x7 oo0x8 (Mv 5) b oo0x4) ∧ (FcO R (rB (Mf 1) (Mv 0)) oo0x9 oo0x6 oo0x5 oo0x1 oo0x4 oo0x2) ∧ (FcB TC R (rB (Mf 1) (Mv 0)) oo0x9 oo0x6 oo0x1 oo0x4 oo0x7 oo0x8 (Mv 5))) ∧ (r.toInt = 0 → (RfE R oo0x2))) (fun (u : (Int32) × (Int32) × (Int32) × (Int32) × (Int32) × (Int32) × (Nat → Int32) × (Nat → Int32) × (Nat → Int32)) => match u with | (oo0x1, oo0x2, oo0x3, oo0x4, oo0x5, oo0x6, oo0x7, oo0x8, oo0x9) => [((Ma 0), .inr (12, [.ref (Ma 1), .int (Mv 0), .int (Mv 1), .ref (Ma 2), .ref (Ma 3), .ref (Ma 4), .ref (Ma 5), .ref (Ma 6), .int oo0x1, .int oo0x2, .int oo0x3, .int (Mv 5), .int oo0x4, .int oo0x5, .int (Mv 8), .ref (Ma 7), .int oo0x6, .ref (Ma 8), .int (Mv 10), .ref (Ma 9), .ref (Ma 10), .int (Mv 11), .int (Mv 12), .int (Mv 13), .ref (Ma 11), .int (Mv 14), .ref (Ma 12), .ref (Ma 13), .ref (Ma 14), .ref (Ma 15), .ref (Ma 16), .long (Mj 0), .ref (Ma 17), .ref (Ma 18), .ref (Ma 19), .ref (Ma 20)])), ((Ma 1), .inl (tc 2, 400, .inl (Mf 1))), ((Ma 2), .inl (tc 0, 2400, .inl oo0x7)), ((Ma 3), .inl (tc 0, 7, .inl oo0x8)), ((Ma 7), .inl (tc 0, 400, .inl oo0x9))]) 0 0 := by
  refine Ct.start (by decide) (Nat.le_of_ble_eq_true rfl) (fun p e s m below meth c A ls hx hb hr hlk hin hml hown hts hK hX hP hD hA hl hS => ?_)
  have hl : lv_has ls 3 [(0, .ref (Ma 0))] := hl
  obtain ⟨pn_1, pf_2, pf_3⟩ := id h_lb
  have ar_h_lb := LBR.ar h_lb
  have ar_pf_3 := Cd.ar pf_3
  have ar_h_fc := OsP.ar h_fc.1
  have aw_h_fc := h_fc.2.1
  refine lv_iconst (v := 1) hx hb dX12_fact_0 (by decide) ?_
  refine lv_istore_n (lv' := [(1, .int 1), (0, .ref (Ma 0))]) hx hb dX12_fact_1 rfl hl (by decide) rfl (fun ls hl₀ => ?_)
  replace hl := hl₀
  clear hl₀
  have loop_18 : ∀ (n_16 : Nat) (vy_10 : Int32) (vy_11 : Int32) (vy_12 : Int32) (vy_13 : Int32) (vy_14 : Int32) (vy_15 : Nat → Int32) (H : Heap) (locs : List Loc) (ls : Array Slot), (2 * (400 - (vy_11 : Int32).toInt) + (vy_10 : Int32).toInt).toNat < n_16 → (0 ≤ (vy_11 : Int32).toInt ∧ (vy_11 : Int32).toInt ≤ ((Mv 0) : Int32).toInt ∧ ((Mv 0) : Int32).toInt ≤ 400) → ((Mv 2).toInt ≤ (vy_11 : Int32).toInt) → (0 ≤ (vy_10 : Int32).toInt ∧ (vy_10 : Int32).toInt ≤ 1) → (LBR vy_15 vy_14 (Mf 2) (Mf 3) (Mv 5) b (Mv 6)) → ((vy_14 : Int32).toInt + ((Mv 2) : Int32).toInt ≤ ((Mv 9) : Int32).toInt + (vy_11 : Int32).toInt ∧ 0 ≤ (vy_14 : Int32).toInt) → (FcL R (rB (Mf 1) (Mv 0)) vy_15 vy_14 vy_13 vy_11 (Mv 6) vy_12 vy_10) → (FcD TC R (rB (Mf 1) (Mv 0)) vy_15 vy_14 vy_13 vy_11 (Mv 6) (Mf 2) (Mf 3) (Mv 5) vy_10) → va_P D classes [((Ma 0), .inr (12, [.ref (Ma 1), .int (Mv 0), .int (Mv 1), .ref (Ma 2), .ref (Ma 3), .ref (Ma 4), .ref (Ma 5), .ref (Ma 6), .int vy_11, .int vy_12, .int (Mv 4), .int (Mv 5), .int (Mv 6), .int vy_13, .int (Mv 8), .ref (Ma 7), .int vy_14, .ref (Ma 8), .int (Mv 10), .ref (Ma 9), .ref (Ma 10), .int (Mv 11), .int (Mv 12), .int (Mv 13), .ref (Ma 11), .int (Mv 14), .ref (Ma 12), .ref (Ma 13), .ref (Ma 14), .ref (Ma 15), .ref (Ma 16), .long (Mj 0), .ref (Ma 17), .ref (Ma 18), .ref (Ma 19), .ref (Ma 20)])), ((Ma 1), .inl (tc 2, 400, .inl (Mf 1))), ((Ma 2), .inl (tc 0, 2400, .inl (Mf 2))), ((Ma 3), .inl (tc 0, 7, .inl (Mf 3))), ((Ma 7), .inl (tc 0, 400, .inl vy_15))] H → va_D A [((Ma 0), .inr (12, [.ref (Ma 1), .int (Mv 0), .int (Mv 1), .ref (Ma 2), .ref (Ma 3), .ref (Ma 4), .ref (Ma 5), .ref (Ma 6), .int vy_11, .int vy_12, .int (Mv 4), .int (Mv 5), .int (Mv 6), .int vy_13, .int (Mv 8), .ref (Ma 7), .int vy_14, .ref (Ma 8), .int (Mv 10), .ref (Ma 9), .ref (Ma 10), .int (Mv 11), .int (Mv 12), .int (Mv 13), .ref (Ma 11), .int (Mv 14), .ref (Ma 12), .ref (Ma 13), .ref (Ma 14), .ref (Ma 15), .ref (Ma 16), .long (Mj 0), .ref (Ma 17), .ref (Ma 18), .ref (Ma 19), .ref (Ma 20)])), ((Ma 1), .inl (tc 2, 400, .inl (Mf 1))), ((Ma 2), .inl (tc 0, 2400, .inl (Mf 2))), ((Ma 3), .inl (tc 0, 7, .inl (Mf 3))), ((Ma 7), .inl (tc 0, 400, .inl vy_15))] → va_S A s.heap H locs → lv_has ls 3 [(1, .int vy_10), (0, .ref (Ma 0))] → W p l e ({ frames := 7, cells := 0, slots := 0, locals := 154 }) s m ([.ref (Ma 0)].toArray) below meth c H locs 0 0 (MQ below (QW (fun (v : Option Value) (u : (Int32) × (Int32) × (Int32) × (Int32) × (Int32) × (Int32) × (Nat → Int32) × (Nat → Int32) × (Nat → Int32)) => match u with | (oo0x1, oo0x2, oo0x3, oo0x4, oo0x5, oo0x6, oo0x7, oo0x8, oo0x9) => ∃ r : Int32, v = some (.int r) ∧ (((r.toInt = 0 ∧ ¬ (oo0x2 : Int32).toInt = 0) ∨ (r.toInt = 1 ∧ (oo0x8 (Mv 5).toNatClampNeg).toInt + (oo0x6 : Int32).toInt + ((Mv 2) : Int32).toInt ≤ ((Mf 3) (Mv 5).toNatClampNeg).toInt + ((Mv 9) : Int32).toInt + (oo0x1 : Int32).toInt ∧ ((Mv 2) : Int32).toInt + 1 ≤ (oo0x1 : Int32).toInt ∧ ((Mf 3) (Mv 5).toNatClampNeg).toInt ≤ (oo0x8 (Mv 5).toNatClampNeg).toInt))) ∧ (((Mv 2) : Int32).toInt ≤ (oo0x1 : Int32).toInt ∧ (oo0x1 : Int32).toInt ≤ ((Mv 0) : Int32).toInt) ∧ (((Mv 6) : Int32).toInt ≤ (oo0x4 : Int32).toInt ∧ (oo0x4 : Int32).toInt ≤ 60) ∧ (Agr (Mf 2) oo0x7 (400 * ((Mv 5) : Int32).toInt + ((Mf 3) (Mv 5).toNatClampNeg).toInt)) ∧ (r.toInt = 1 → (LSR oo0x9 oo0x6 oo0x7 oo0x8 (Mv 5) b oo0x4) ∧ (FcO R (rB (Mf 1) (Mv 0)) oo0x9 oo0x6 oo0x5 oo0x1 oo0x4 oo0x2) ∧ (FcB TC R (rB (Mf 1) (Mv 0)) oo0x9 oo0x6 oo0x1 oo0x4 oo0x7 oo0x8 (Mv 5))) ∧ (r.toInt = 0 → (RfE R oo0x2))) (BW D (fun (u : (Int32) × (Int32) × (Int32) × (Int32) × (Int32) × (Int32) × (Nat → Int32) × (Nat → Int32) × (Nat → Int32)) => match u with | (oo0x1, oo0x2, oo0x3, oo0x4, oo0x5, oo0x6, oo0x7, oo0x8, oo0x9) => [((Ma 0), .inr (12, [.ref (Ma 1), .int (Mv 0), .int (Mv 1), .ref (Ma 2), .ref (Ma 3), .ref (Ma 4), .ref (Ma 5), .ref (Ma 6), .int oo0x1, .int oo0x2, .int oo0x3, .int (Mv 5), .int oo0x4, .int oo0x5, .int (Mv 8), .ref (Ma 7), .int oo0x6, .ref (Ma 8), .int (Mv 10), .ref (Ma 9), .ref (Ma 10), .int (Mv 11), .int (Mv 12), .int (Mv 13), .ref (Ma 11), .int (Mv 14), .ref (Ma 12), .ref (Ma 13), .ref (Ma 14), .ref (Ma 15), .ref (Ma 16), .long (Mj 0), .ref (Ma 17), .ref (Ma 18), .ref (Ma 19), .ref (Ma 20)])), ((Ma 1), .inl (tc 2, 400, .inl (Mf 1))), ((Ma 2), .inl (tc 0, 2400, .inl oo0x7)), ((Ma 3), .inl (tc 0, 7, .inl oo0x8)), ((Ma 7), .inl (tc 0, 400, .inl oo0x9))]) A) A) ([.ref (Ma 0)].toArray) s 0 0 A) (F0 m 2 ls []) := by
    clear hP hD hS hl
    intro n_16
    induction n_16 with
    | zero =>
      intro vy_10 vy_11 vy_12 vy_13 vy_14 vy_15 H locs ls h1
      exact absurd h1 (Nat.not_lt_zero _)
    | succ n_16 ih_17 =>
      intro vy_10 vy_11 vy_12 vy_13 vy_14 vy_15 H locs ls hn_26 pf_19 pf_20 pf_21 pf_22 pf_23 pf_24 pf_25 hP hD hS hl
      obtain ⟨pn_27, pf_28, pf_29⟩ := id pf_22
      have ar_pf_22 := LBR.ar pf_22
      have ar_pf_29 := Cd.ar pf_29
      have ar_pf_24 := OsP.ar pf_24.1.1
      have aw_pf_24 := pf_24.1.2
      refine lv_iload_n hx hb dX12_fact_2 rfl (lv_at hl 0 rfl) ?_
      refine lv_if_eq (tgt := 75) hx hb dX12_fact_3 (by decide) (fun c_30 => ?_) (fun c_30 => ?_)
      · skip
        refine lv_aload_n hx hb dX12_fact_75 rfl (lv_at hl 1 rfl) ?_
        have hr_35 : (vy_10 : Int32).toInt = 0 := by
          have z_1 := congrArg Int32.toInt c_30
          have y_0 : (0 : Int32).toInt = 0 := by decide
          omega
        obtain ⟨lq_31, pf_32, pf_33, pf_34⟩ := pf_25.2 hr_35
        have ha_36 : ((Mf 3) (Mv 5).toNatClampNeg).toInt ≤ (vy_11 : Int32).toInt := by
          have z_1 := congrArg Int32.toInt c_30
          have y_0 : (0 : Int32).toInt = 0 := by decide
          omega
        have ha_37 : (vy_12 : Int32).toInt = 0 := by
          have z_1 := congrArg Int32.toInt c_30
          have y_0 : (0 : Int32).toInt = 0 := by decide
          omega
        refine cV (a := (Ma 0)) (As := []) (rest := []) (wr := [((Ma 7), .inl (tc 0, 400, .inl vy_15))]) ⟨hx, hb, hml, hown, hts⟩ hK hX hA (cu_kX12_compare l D tc sk (Ma 0) (Ma 1) (Ma 2) (Ma 3) (Ma 4) (Ma 5) (Ma 6) (Ma 7) (Ma 8) (Ma 9) (Ma 10) (Ma 11) (Ma 12) (Ma 13) (Ma 14) (Ma 15) (Ma 16) (Ma 17) (Ma 18) (Ma 19) (Ma 20) (Mv 0) (Mv 1) vy_11 vy_12 (Mv 4) (Mv 5) (Mv 6) vy_13 (Mv 8) vy_14 (Mv 10) (Mv 11) (Mv 12) (Mv 13) (Mv 14) (Mf 1) (Mf 2) (Mf 3) (Mj 0) b pn_27 lq_31 pf_19 pf_29 ha_36 h_md h_bs ha_37 pf_32) k_1334 k_1331 k_1333 k_52 k_106 pl_X12_compare ⟨Nat.le_of_ble_eq_true rfl, Nat.le_of_ble_eq_true rfl⟩ rfl rfl (va_recv hK hP (ci := 12) (q0 := 0) rfl rfl) hP hD hS [0, 1, 2, 3] [4] rfl rfl rfl rfl rfl (by decide) rfl hl.1 rfl (Nat.le_of_ble_eq_true rfl) dX12_fact_76 ⟨Nat.le_of_ble_eq_true rfl, Nat.le_of_ble_eq_true rfl⟩ (fun v_38 u_39 H locs hv_40 hP₀ hD₀ hS₀ => ?_)
        obtain ⟨sv_41, sv_42, sv_43, sv_44, sv_45, sv_46⟩ := u_39
        obtain ⟨r_50, rfl, he_51, pf_47, pf_48, pf_49, hm_53, hm_54⟩ := hv_40
        have he_51 : ((r_50.toInt = 0 ∧ ¬ (sv_42 : Int32).toInt = 0) ∨ (r_50.toInt = 1 ∧ ((Mf 3) (Mv 5).toNatClampNeg).toInt + 1 ≤ (sv_46 (Mv 5).toNatClampNeg).toInt ∧ (sv_46 (Mv 5).toNatClampNeg).toInt + (vy_11 : Int32).toInt ≤ ((Mf 3) (Mv 5).toNatClampNeg).toInt + (sv_41 : Int32).toInt ∧ (vy_11 : Int32).toInt + 1 ≤ (sv_41 : Int32).toInt)) := he_51
        have pf_47 : (vy_11 : Int32).toInt ≤ (sv_41 : Int32).toInt ∧ (sv_41 : Int32).toInt ≤ ((Mv 0) : Int32).toInt := pf_47
        have pf_48 : ((Mv 6) : Int32).toInt ≤ (sv_44 : Int32).toInt ∧ (sv_44 : Int32).toInt ≤ 60 := pf_48
        have pf_49 : Agr (Mf 2) sv_45 (400 * ((Mv 5) : Int32).toInt + ((Mf 3) (Mv 5).toNatClampNeg).toInt) := pf_49
        refine W.eq (g2 := F0 m 79 ls [.int r_50]) rfl ?_
        replace hP : va_P D classes [((Ma 7), .inl (tc 0, 400, .inl vy_15)), ((Ma 0), .inr (12, [.ref (Ma 1), .int (Mv 0), .int (Mv 1), .ref (Ma 2), .ref (Ma 3), .ref (Ma 4), .ref (Ma 5), .ref (Ma 6), .int sv_41, .int sv_42, .int sv_43, .int (Mv 5), .int sv_44, .int vy_13, .int (Mv 8), .ref (Ma 7), .int vy_14, .ref (Ma 8), .int (Mv 10), .ref (Ma 9), .ref (Ma 10), .int (Mv 11), .int (Mv 12), .int (Mv 13), .ref (Ma 11), .int (Mv 14), .ref (Ma 12), .ref (Ma 13), .ref (Ma 14), .ref (Ma 15), .ref (Ma 16), .long (Mj 0), .ref (Ma 17), .ref (Ma 18), .ref (Ma 19), .ref (Ma 20)])), ((Ma 1), .inl (tc 2, 400, .inl (Mf 1))), ((Ma 2), .inl (tc 0, 2400, .inl sv_45)), ((Ma 3), .inl (tc 0, 7, .inl sv_46))] H := hP₀
        replace hD : va_D A [((Ma 7), .inl (tc 0, 400, .inl vy_15)), ((Ma 0), .inr (12, [.ref (Ma 1), .int (Mv 0), .int (Mv 1), .ref (Ma 2), .ref (Ma 3), .ref (Ma 4), .ref (Ma 5), .ref (Ma 6), .int sv_41, .int sv_42, .int sv_43, .int (Mv 5), .int sv_44, .int vy_13, .int (Mv 8), .ref (Ma 7), .int vy_14, .ref (Ma 8), .int (Mv 10), .ref (Ma 9), .ref (Ma 10), .int (Mv 11), .int (Mv 12), .int (Mv 13), .ref (Ma 11), .int (Mv 14), .ref (Ma 12), .ref (Ma 13), .ref (Ma 14), .ref (Ma 15), .ref (Ma 16), .long (Mj 0), .ref (Ma 17), .ref (Ma 18), .ref (Ma 19), .ref (Ma 20)])), ((Ma 1), .inl (tc 2, 400, .inl (Mf 1))), ((Ma 2), .inl (tc 0, 2400, .inl sv_45)), ((Ma 3), .inl (tc 0, 7, .inl sv_46))] := hD₀
        replace hS := hS₀
        clear hP₀ hD₀ hS₀
        have ha_55 : ((Mv 2) : Int32).toInt ≤ (sv_41 : Int32).toInt ∧ (sv_41 : Int32).toInt ≤ ((Mv 0) : Int32).toInt := by
          have z_1 := congrArg Int32.toInt c_30
          have y_0 : (0 : Int32).toInt = 0 := by decide
          omega
        have hb_56 : (r_50 : Int32).toInt = 0 ∨ (r_50 : Int32).toInt = 1 := by
          have z_1 := congrArg Int32.toInt c_30
          have y_0 : (0 : Int32).toInt = 0 := by decide
          omega
        have hp_57 : (((r_50 : Int32).toInt = 0 ∧ ¬ (sv_42 : Int32).toInt = 0) ∨ ((r_50 : Int32).toInt = 1 ∧ (sv_46 (Mv 5).toNatClampNeg).toInt + (vy_14 : Int32).toInt + ((Mv 2) : Int32).toInt ≤ ((Mf 3) (Mv 5).toNatClampNeg).toInt + ((Mv 9) : Int32).toInt + (sv_41 : Int32).toInt ∧ ((Mv 2) : Int32).toInt + 1 ≤ (sv_41 : Int32).toInt ∧ ((Mf 3) (Mv 5).toNatClampNeg).toInt ≤ (sv_46 (Mv 5).toNatClampNeg).toInt)) := by
          have z_1 := congrArg Int32.toInt c_30
          have y_0 : (0 : Int32).toInt = 0 := by decide
          omega
        have hm_58 : (r_50 : Int32).toInt = 1 → (LSR vy_15 vy_14 sv_45 sv_46 (Mv 5) b sv_44) ∧ (FcO R (rB (Mf 1) (Mv 0)) vy_15 vy_14 vy_13 sv_41 sv_44 sv_42) ∧ (FcB TC R (rB (Mf 1) (Mv 0)) vy_15 vy_14 sv_41 sv_44 sv_45 sv_46 (Mv 5)) := by
          intro h1r
          obtain ⟨pf_59, pf_60, pf_61⟩ := hm_53 h1r
          have pf_59 : Cd sv_45 sv_46 (Mv 5) b sv_44 (pn_27 + 1) := pf_59
          have ar_pf_59 := Cd.ar pf_59
          have pf_60 : RfO (pz_com (rB (Mf 1) (Mv 0)) (St0 (rB (Mf 1) (Mv 0)) vy_11 (Mv 6))) (rB (Mf 1) (Mv 0)) sv_42 sv_41 sv_44 := pf_60
          have ar_pf_60 := RfO.wr pf_60
          have pf_61 : SgC sv_45 sv_46 (Mv 5) (lq_31 ++ ec_com (rB (Mf 1) (Mv 0)) (St0 (rB (Mf 1) (Mv 0)) vy_11 (Mv 6))) := pf_61
          obtain ⟨lo_62, elo_62⟩ : ∃ z : List Int, z = (lq_31 ++ ec_com (rB (Mf 1) (Mv 0)) (St0 (rB (Mf 1) (Mv 0)) vy_11 (Mv 6))) := ⟨_, rfl⟩
          rw [← elo_62] at pf_61
          have hr_63 : (vy_10 : Int32).toInt = 0 := by
            have z_1 := congrArg Int32.toInt c_30
            have y_0 : (0 : Int32).toInt = 0 := by decide
            omega
          have hu_64 : SgC sv_45 sv_46 (Mv 5) (lq_31 ++ ec_com (rB (Mf 1) (Mv 0)) (St0 (rB (Mf 1) (Mv 0)) vy_11 (Mv 6))) := by
            rw [← elo_62]
            exact pf_61
          exact ⟨⟨pn_27, pf_28, pf_59⟩, (FcL.out pf_24 hr_63 pf_60), (FcG.out pf_33 pf_34 pf_60 hu_64)⟩
        have hm_65 : (r_50 : Int32).toInt = 0 → (RfE R sv_42) := by
          intro h1r
          obtain pf_66 := hm_54 h1r
          have pf_66 : RfE (pz_com (rB (Mf 1) (Mv 0)) (St0 (rB (Mf 1) (Mv 0)) vy_11 (Mv 6))) sv_42 := pf_66
          have hr_67 : (vy_10 : Int32).toInt = 0 := by
            have z_1 := congrArg Int32.toInt c_30
            have y_0 : (0 : Int32).toInt = 0 := by decide
            omega
          exact (FcL.er pf_24 hr_67 pf_66)
        exact retI (v := r_50) hx hb hr hlk (nar01 hb_56) hP hD hS (sv_41, sv_42, sv_43, sv_44, vy_13, vy_14, sv_45, sv_46, vy_15) ⟨_, rfl, hp_57, ha_55, pf_48, pf_49, hm_58, hm_65⟩ [1, 2, 3, 4, 0] rfl rfl dX12_fact_79 (Nat.le_of_ble_eq_true rfl) (Nat.le_of_ble_eq_true rfl) rfl
      · skip
        refine lv_iconst (v := 0) hx hb dX12_fact_6 (by decide) ?_
        refine lv_istore_n (lv' := [(1, .int 0), (0, .ref (Ma 0))]) hx hb dX12_fact_7 rfl hl (by decide) rfl (fun ls hl₀ => ?_)
        replace hl := hl₀
        clear hl₀
        refine lv_aload_n hx hb dX12_fact_8 rfl (lv_at hl 1 rfl) ?_
        refine cV (a := (Ma 0)) (As := []) (rest := []) (wr := [((Ma 2), .inl (tc 0, 2400, .inl (Mf 2))), ((Ma 3), .inl (tc 0, 7, .inl (Mf 3))), ((Ma 7), .inl (tc 0, 400, .inl vy_15))]) ⟨hx, hb, hml, hown, hts⟩ hK hX hA (cu_fX12_see l D tc sk (Ma 0) (Ma 1) (Ma 2) (Ma 3) (Ma 4) (Ma 5) (Ma 6) (Ma 7) (Ma 8) (Ma 9) (Ma 10) (Ma 11) (Ma 12) (Ma 13) (Ma 14) (Ma 15) (Ma 16) (Ma 17) (Ma 18) (Ma 19) (Ma 20) (Mv 0) (Mv 1) vy_11 vy_12 (Mv 4) (Mv 5) (Mv 6) vy_13 (Mv 8) vy_14 (Mv 10) (Mv 11) (Mv 12) (Mv 13) (Mv 14) (Mf 1) (Mj 0) pf_19 h_bs) k_1211 k_1208 k_1210 k_27 k_106 pl_X12_see ⟨Nat.le_of_ble_eq_true rfl, Nat.le_of_ble_eq_true rfl⟩ rfl rfl (va_recv hK hP (ci := 12) (q0 := 0) rfl rfl) hP hD hS [0, 1] [2, 3, 4] rfl rfl rfl rfl rfl (by decide) rfl hl.1 rfl (Nat.le_of_ble_eq_true rfl) dX12_fact_9 ⟨Nat.le_of_ble_eq_true rfl, Nat.le_of_ble_eq_true rfl⟩ (fun v_68 u_69 H locs hv_70 hP₀ hD₀ hS₀ => ?_)
        obtain ⟨sv_71, rfl⟩ : ∃ z, z = u_69 := ⟨_, rfl⟩
        obtain ⟨r_76, rfl, he_77, pf_72, pf_73, pf_74, pf_75⟩ := hv_70
        have he_77 : (r_76.toInt = rB (Mf 1) (Mv 0) (sv_71 : Int32).toInt.toNat ∧ (r_76.toInt = -1 ∨ (sv_71 : Int32).toInt < (Mv 0).toInt)) := he_77
        have pf_72 : (vy_11 : Int32).toInt ≤ (sv_71 : Int32).toInt ∧ (sv_71 : Int32).toInt ≤ ((Mv 0) : Int32).toInt := pf_72
        have pf_73 : NSq (Mf 1) (Mv 0) sv_71 := pf_73
        have pf_74 : Stl (Mf 1) (Mv 0) vy_11 sv_71 := pf_74
        have pf_75 : SkR (rB (Mf 1) (Mv 0)) vy_11 sv_71 := pf_75
        refine W.eq (g2 := F0 m 12 ls [.int r_76]) rfl ?_
        replace hP : va_P D classes [((Ma 2), .inl (tc 0, 2400, .inl (Mf 2))), ((Ma 3), .inl (tc 0, 7, .inl (Mf 3))), ((Ma 7), .inl (tc 0, 400, .inl vy_15)), ((Ma 0), .inr (12, [.ref (Ma 1), .int (Mv 0), .int (Mv 1), .ref (Ma 2), .ref (Ma 3), .ref (Ma 4), .ref (Ma 5), .ref (Ma 6), .int sv_71, .int vy_12, .int (Mv 4), .int (Mv 5), .int (Mv 6), .int vy_13, .int (Mv 8), .ref (Ma 7), .int vy_14, .ref (Ma 8), .int (Mv 10), .ref (Ma 9), .ref (Ma 10), .int (Mv 11), .int (Mv 12), .int (Mv 13), .ref (Ma 11), .int (Mv 14), .ref (Ma 12), .ref (Ma 13), .ref (Ma 14), .ref (Ma 15), .ref (Ma 16), .long (Mj 0), .ref (Ma 17), .ref (Ma 18), .ref (Ma 19), .ref (Ma 20)])), ((Ma 1), .inl (tc 2, 400, .inl (Mf 1)))] H := hP₀
        replace hD : va_D A [((Ma 2), .inl (tc 0, 2400, .inl (Mf 2))), ((Ma 3), .inl (tc 0, 7, .inl (Mf 3))), ((Ma 7), .inl (tc 0, 400, .inl vy_15)), ((Ma 0), .inr (12, [.ref (Ma 1), .int (Mv 0), .int (Mv 1), .ref (Ma 2), .ref (Ma 3), .ref (Ma 4), .ref (Ma 5), .ref (Ma 6), .int sv_71, .int vy_12, .int (Mv 4), .int (Mv 5), .int (Mv 6), .int vy_13, .int (Mv 8), .ref (Ma 7), .int vy_14, .ref (Ma 8), .int (Mv 10), .ref (Ma 9), .ref (Ma 10), .int (Mv 11), .int (Mv 12), .int (Mv 13), .ref (Ma 11), .int (Mv 14), .ref (Ma 12), .ref (Ma 13), .ref (Ma 14), .ref (Ma 15), .ref (Ma 16), .long (Mj 0), .ref (Ma 17), .ref (Ma 18), .ref (Ma 19), .ref (Ma 20)])), ((Ma 1), .inl (tc 2, 400, .inl (Mf 1)))] := hD₀
        replace hS := hS₀
        clear hP₀ hD₀ hS₀
        refine lv_istore_n (lv' := [(2, .int r_76), (1, .int 0), (0, .ref (Ma 0))]) hx hb dX12_fact_12 rfl hl (by decide) rfl (fun ls hl₀ => ?_)
        replace hl := hl₀
        clear hl₀
        refine lv_aload_n hx hb dX12_fact_13 rfl (lv_at hl 2 rfl) ?_
        refine lv_ldc2 hx hb hown (hts _ k_1326) dX12_fact_14 ?_
        have ha_79 : 0 ≤ (sv_71 : Int32).toInt ∧ (sv_71 : Int32).toInt ≤ ((Mv 0) : Int32).toInt ∧ ((Mv 0) : Int32).toInt ≤ 400 := by
          have z_1 : ¬ (vy_10 : Int32).toInt = (0 : Int32).toInt := fun z => c_30 (Int32.toInt_inj.mp z)
          have y_0 : (0 : Int32).toInt = 0 := by decide
          omega
        refine cV (a := (Ma 0)) (As := [.long 7237492]) (rest := []) (wr := [((Ma 2), .inl (tc 0, 2400, .inl (Mf 2))), ((Ma 3), .inl (tc 0, 7, .inl (Mf 3))), ((Ma 7), .inl (tc 0, 400, .inl vy_15))]) ⟨hx, hb, hml, hown, hts⟩ hK hX hA (cu_fX12_isWord l D tc sk (Ma 0) (Ma 1) (Ma 2) (Ma 3) (Ma 4) (Ma 5) (Ma 6) (Ma 7) (Ma 8) (Ma 9) (Ma 10) (Ma 11) (Ma 12) (Ma 13) (Ma 14) (Ma 15) (Ma 16) (Ma 17) (Ma 18) (Ma 19) (Ma 20) (Mv 0) (Mv 1) sv_71 vy_12 (Mv 4) (Mv 5) (Mv 6) vy_13 (Mv 8) vy_14 (Mv 10) (Mv 11) (Mv 12) (Mv 13) (Mv 14) (Mf 1) (Mj 0) 7237492 ha_79 h_bs) k_1220 k_1217 k_1219 k_29 k_106 pl_X12_isWord ⟨Nat.le_of_ble_eq_true rfl, Nat.le_of_ble_eq_true rfl⟩ rfl rfl (va_recv hK hP (ci := 12) (q0 := 3) rfl rfl) hP hD hS [3, 4] [0, 1, 2] rfl rfl rfl rfl rfl (by decide) rfl hl.1 rfl (Nat.le_of_ble_eq_true rfl) dX12_fact_17 ⟨Nat.le_of_ble_eq_true rfl, Nat.le_of_ble_eq_true rfl⟩ (fun v_80 u_81 H locs hv_82 hP₀ hD₀ hS₀ => ?_)
        obtain ⟨sv_83, rfl⟩ : ∃ z, z = u_81 := ⟨_, rfl⟩
        obtain ⟨r_88, rfl, he_89, pf_84, pf_85, pf_86, pf_87, hm_91, hm_92⟩ := hv_82
        have he_89 : (r_88.toInt = 0 ∨ r_88.toInt = 1) := he_89
        have pf_84 : (sv_71 : Int32).toInt ≤ (sv_83 : Int32).toInt ∧ (sv_83 : Int32).toInt ≤ ((Mv 0) : Int32).toInt := pf_84
        have pf_85 : NSq (Mf 1) (Mv 0) sv_83 := pf_85
        have pf_86 : Stl (Mf 1) (Mv 0) sv_71 sv_83 := pf_86
        have ar_pf_86 := Stl.or pf_86 pf_73
        have pf_87 : SkR (rB (Mf 1) (Mv 0)) sv_71 sv_83 := pf_87
        refine W.eq (g2 := F0 m 20 ls [.int r_88]) rfl ?_
        replace hP : va_P D classes [((Ma 2), .inl (tc 0, 2400, .inl (Mf 2))), ((Ma 3), .inl (tc 0, 7, .inl (Mf 3))), ((Ma 7), .inl (tc 0, 400, .inl vy_15)), ((Ma 0), .inr (12, [.ref (Ma 1), .int (Mv 0), .int (Mv 1), .ref (Ma 2), .ref (Ma 3), .ref (Ma 4), .ref (Ma 5), .ref (Ma 6), .int sv_83, .int vy_12, .int (Mv 4), .int (Mv 5), .int (Mv 6), .int vy_13, .int (Mv 8), .ref (Ma 7), .int vy_14, .ref (Ma 8), .int (Mv 10), .ref (Ma 9), .ref (Ma 10), .int (Mv 11), .int (Mv 12), .int (Mv 13), .ref (Ma 11), .int (Mv 14), .ref (Ma 12), .ref (Ma 13), .ref (Ma 14), .ref (Ma 15), .ref (Ma 16), .long (Mj 0), .ref (Ma 17), .ref (Ma 18), .ref (Ma 19), .ref (Ma 20)])), ((Ma 1), .inl (tc 2, 400, .inl (Mf 1)))] H := hP₀
        replace hD : va_D A [((Ma 2), .inl (tc 0, 2400, .inl (Mf 2))), ((Ma 3), .inl (tc 0, 7, .inl (Mf 3))), ((Ma 7), .inl (tc 0, 400, .inl vy_15)), ((Ma 0), .inr (12, [.ref (Ma 1), .int (Mv 0), .int (Mv 1), .ref (Ma 2), .ref (Ma 3), .ref (Ma 4), .ref (Ma 5), .ref (Ma 6), .int sv_83, .int vy_12, .int (Mv 4), .int (Mv 5), .int (Mv 6), .int vy_13, .int (Mv 8), .ref (Ma 7), .int vy_14, .ref (Ma 8), .int (Mv 10), .ref (Ma 9), .ref (Ma 10), .int (Mv 11), .int (Mv 12), .int (Mv 13), .ref (Ma 11), .int (Mv 14), .ref (Ma 12), .ref (Ma 13), .ref (Ma 14), .ref (Ma 15), .ref (Ma 16), .long (Mj 0), .ref (Ma 17), .ref (Ma 18), .ref (Ma 19), .ref (Ma 20)])), ((Ma 1), .inl (tc 2, 400, .inl (Mf 1)))] := hD₀
        replace hS := hS₀
        clear hP₀ hD₀ hS₀
        have hE_93 := SkR.eqB pf_75 pf_87
        refine lv_if_eq (tgt := 43) hx hb dX12_fact_20 (by decide) (fun c_94 => ?_) (fun c_94 => ?_)
        · skip
          have hz_96 : (r_88 : Int32).toInt = 0 := by
            have z_1 : ¬ (vy_10 : Int32).toInt = (0 : Int32).toInt := fun z => c_30 (Int32.toInt_inj.mp z)
            have z_2 := congrArg Int32.toInt c_94
            have y_0 : (0 : Int32).toInt = 0 := by decide
            omega
          obtain pf_95 := hm_92 hz_96
          have pf_95 : NPk (rB (Mf 1) (Mv 0)) ((sv_83 : Int32).toInt.toNat) (7237492 : Int64).toInt := pf_95
          refine lv_iload_n hx hb dX12_fact_43 rfl (lv_at hl 0 rfl) ?_
          refine lv_bipush (v := 91) hx hb dX12_fact_44 (by decide) ?_
          refine lv_icmp_ne (tgt := 72) hx hb dX12_fact_46 (by decide) (fun c_97 => ?_) (fun c_97 => ?_)
          · skip
            refine lv_goto (tgt := 2) hx hb dX12_fact_72 (by decide) ?_
            have hb_98 : 2 * (400 - (sv_83 : Int32).toInt) + (0 : Int32).toInt < 2 * (400 - (vy_11 : Int32).toInt) + (vy_10 : Int32).toInt ∧ 1 ≤ 2 * (400 - (vy_11 : Int32).toInt) + (vy_10 : Int32).toInt := by
              have z_1 : ¬ (vy_10 : Int32).toInt = (0 : Int32).toInt := fun z => c_30 (Int32.toInt_inj.mp z)
              have z_2 := congrArg Int32.toInt c_94
              have z_3 : ¬ (r_76 : Int32).toInt = (91 : Int32).toInt := fun z => c_97 (Int32.toInt_inj.mp z)
              have y_0 : (0 : Int32).toInt = 0 := by decide
              have y_91 : (91 : Int32).toInt = 91 := by decide
              omega
            have ha_99 : 0 ≤ (sv_83 : Int32).toInt ∧ (sv_83 : Int32).toInt ≤ ((Mv 0) : Int32).toInt ∧ ((Mv 0) : Int32).toInt ≤ 400 := by
              have z_1 : ¬ (vy_10 : Int32).toInt = (0 : Int32).toInt := fun z => c_30 (Int32.toInt_inj.mp z)
              have z_2 := congrArg Int32.toInt c_94
              have z_3 : ¬ (r_76 : Int32).toInt = (91 : Int32).toInt := fun z => c_97 (Int32.toInt_inj.mp z)
              have y_0 : (0 : Int32).toInt = 0 := by decide
              have y_91 : (91 : Int32).toInt = 91 := by decide
              omega
            have ha_100 : (Mv 2).toInt ≤ (sv_83 : Int32).toInt := by
              have z_1 : ¬ (vy_10 : Int32).toInt = (0 : Int32).toInt := fun z => c_30 (Int32.toInt_inj.mp z)
              have z_2 := congrArg Int32.toInt c_94
              have z_3 : ¬ (r_76 : Int32).toInt = (91 : Int32).toInt := fun z => c_97 (Int32.toInt_inj.mp z)
              have y_0 : (0 : Int32).toInt = 0 := by decide
              have y_91 : (91 : Int32).toInt = 91 := by decide
              omega
            have ha_101 : 0 ≤ (0 : Int32).toInt ∧ (0 : Int32).toInt ≤ 1 := by
              have z_1 : ¬ (vy_10 : Int32).toInt = (0 : Int32).toInt := fun z => c_30 (Int32.toInt_inj.mp z)
              have z_2 := congrArg Int32.toInt c_94
              have z_3 : ¬ (r_76 : Int32).toInt = (91 : Int32).toInt := fun z => c_97 (Int32.toInt_inj.mp z)
              have y_0 : (0 : Int32).toInt = 0 := by decide
              have y_91 : (91 : Int32).toInt = 91 := by decide
              omega
            have ha_102 : (vy_14 : Int32).toInt + ((Mv 2) : Int32).toInt ≤ ((Mv 9) : Int32).toInt + (sv_83 : Int32).toInt ∧ 0 ≤ (vy_14 : Int32).toInt := by
              have z_1 : ¬ (vy_10 : Int32).toInt = (0 : Int32).toInt := fun z => c_30 (Int32.toInt_inj.mp z)
              have z_2 := congrArg Int32.toInt c_94
              have z_3 : ¬ (r_76 : Int32).toInt = (91 : Int32).toInt := fun z => c_97 (Int32.toInt_inj.mp z)
              have y_0 : (0 : Int32).toInt = 0 := by decide
              have y_91 : (91 : Int32).toInt = 91 := by decide
              omega
            have hr_103 : (vy_10 : Int32).toInt = 1 := by
              have z_1 : ¬ (vy_10 : Int32).toInt = (0 : Int32).toInt := fun z => c_30 (Int32.toInt_inj.mp z)
              have z_2 := congrArg Int32.toInt c_94
              have z_3 : ¬ (r_76 : Int32).toInt = (91 : Int32).toInt := fun z => c_97 (Int32.toInt_inj.mp z)
              have y_0 : (0 : Int32).toInt = 0 := by decide
              have y_91 : (91 : Int32).toInt = 91 := by decide
              omega
            have hw_104 : ¬ pz_wd (rB (Mf 1) (Mv 0)) (sv_83 : Int32).toInt.toNat pz_not = true := by
              have hq := pf_95
              rw [show (7237492 : Int64).toInt = pz_pl pz_not by decide] at hq
              exact fun z => hq ((PkW.wd (by decide) (by decide) (by decide)).mpr z)
            have hr_105 : ¬ (rB (Mf 1) (Mv 0) (sv_83 : Int32).toInt.toNat = 91) := by
              have z_1 : ¬ (vy_10 : Int32).toInt = (0 : Int32).toInt := fun z => c_30 (Int32.toInt_inj.mp z)
              have z_2 := congrArg Int32.toInt c_94
              have z_3 : ¬ (r_76 : Int32).toInt = (91 : Int32).toInt := fun z => c_97 (Int32.toInt_inj.mp z)
              have y_0 : (0 : Int32).toInt = 0 := by decide
              have y_91 : (91 : Int32).toInt = 91 := by decide
              omega
            have hr_106 : (0 : Int32).toInt = 0 := by
              have z_1 : ¬ (vy_10 : Int32).toInt = (0 : Int32).toInt := fun z => c_30 (Int32.toInt_inj.mp z)
              have z_2 := congrArg Int32.toInt c_94
              have z_3 : ¬ (r_76 : Int32).toInt = (91 : Int32).toInt := fun z => c_97 (Int32.toInt_inj.mp z)
              have y_0 : (0 : Int32).toInt = 0 := by decide
              have y_91 : (91 : Int32).toInt = 91 := by decide
              omega
            have hr_107 : (vy_10 : Int32).toInt = 1 := by
              have z_1 : ¬ (vy_10 : Int32).toInt = (0 : Int32).toInt := fun z => c_30 (Int32.toInt_inj.mp z)
              have z_2 := congrArg Int32.toInt c_94
              have z_3 : ¬ (r_76 : Int32).toInt = (91 : Int32).toInt := fun z => c_97 (Int32.toInt_inj.mp z)
              have y_0 : (0 : Int32).toInt = 0 := by decide
              have y_91 : (91 : Int32).toInt = 91 := by decide
              omega
            have hw_108 : ¬ pz_wd (rB (Mf 1) (Mv 0)) (sv_83 : Int32).toInt.toNat pz_not = true := by
              have hq := pf_95
              rw [show (7237492 : Int64).toInt = pz_pl pz_not by decide] at hq
              exact fun z => hq ((PkW.wd (by decide) (by decide) (by decide)).mpr z)
            have hr_109 : ¬ (rB (Mf 1) (Mv 0) (sv_83 : Int32).toInt.toNat = 91) := by
              have z_1 : ¬ (vy_10 : Int32).toInt = (0 : Int32).toInt := fun z => c_30 (Int32.toInt_inj.mp z)
              have z_2 := congrArg Int32.toInt c_94
              have z_3 : ¬ (r_76 : Int32).toInt = (91 : Int32).toInt := fun z => c_97 (Int32.toInt_inj.mp z)
              have y_0 : (0 : Int32).toInt = 0 := by decide
              have y_91 : (91 : Int32).toInt = 91 := by decide
              omega
            have hr_110 : (0 : Int32).toInt = 0 := by
              have z_1 : ¬ (vy_10 : Int32).toInt = (0 : Int32).toInt := fun z => c_30 (Int32.toInt_inj.mp z)
              have z_2 := congrArg Int32.toInt c_94
              have z_3 : ¬ (r_76 : Int32).toInt = (91 : Int32).toInt := fun z => c_97 (Int32.toInt_inj.mp z)
              have y_0 : (0 : Int32).toInt = 0 := by decide
              have y_91 : (91 : Int32).toInt = 91 := by decide
              omega
            exact ih_17 0 sv_83 vy_12 vy_13 vy_14 vy_15 _ _ _ (by omega) ha_99 ha_100 ha_101 pf_22 ha_102 (FcL.com pf_24 hr_103 (SkR.trans pf_75 pf_87) hw_104 hr_105 hr_106) (FcD.com (pf_24.2.1 hr_107) pf_25 hr_107 (SkR.trans pf_75 pf_87) hw_108 hr_109 hr_110) (hP.sub [3, 4, 0, 1, 2] rfl) (hD.sub [3, 4, 0, 1, 2] rfl rfl) hS (lv_sub hl [1, 2] rfl)
          · skip
            refine lv_aload_n hx hb dX12_fact_49 rfl (lv_at hl 2 rfl) ?_
            refine lv_bipush (v := 91) hx hb dX12_fact_50 (by decide) ?_
            have ha_111 : 0 ≤ (sv_83 : Int32).toInt ∧ (sv_83 : Int32).toInt ≤ ((Mv 0) : Int32).toInt ∧ ((Mv 0) : Int32).toInt ≤ 400 := by
              have z_1 : ¬ (vy_10 : Int32).toInt = (0 : Int32).toInt := fun z => c_30 (Int32.toInt_inj.mp z)
              have z_2 := congrArg Int32.toInt c_94
              have z_3 := congrArg Int32.toInt c_97
              have y_0 : (0 : Int32).toInt = 0 := by decide
              have y_91 : (91 : Int32).toInt = 91 := by decide
              omega
            have ha_112 : (vy_14 : Int32).toInt < 400 := by
              have z_1 : ¬ (vy_10 : Int32).toInt = (0 : Int32).toInt := fun z => c_30 (Int32.toInt_inj.mp z)
              have z_2 := congrArg Int32.toInt c_94
              have z_3 := congrArg Int32.toInt c_97
              have y_0 : (0 : Int32).toInt = 0 := by decide
              have y_91 : (91 : Int32).toInt = 91 := by decide
              omega
            have ha_113 : (91 : Int32).toInt = 11 ∨ (91 : Int32).toInt = 91 := by
              have z_1 : ¬ (vy_10 : Int32).toInt = (0 : Int32).toInt := fun z => c_30 (Int32.toInt_inj.mp z)
              have z_2 := congrArg Int32.toInt c_94
              have z_3 := congrArg Int32.toInt c_97
              have y_0 : (0 : Int32).toInt = 0 := by decide
              have y_91 : (91 : Int32).toInt = 91 := by decide
              omega
            have ha_114 : (vy_12 : Int32).toInt = 0 := by
              have z_1 : ¬ (vy_10 : Int32).toInt = (0 : Int32).toInt := fun z => c_30 (Int32.toInt_inj.mp z)
              have z_2 := congrArg Int32.toInt c_94
              have z_3 := congrArg Int32.toInt c_97
              have y_0 : (0 : Int32).toInt = 0 := by decide
              have y_91 : (91 : Int32).toInt = 91 := by decide
              omega
            refine cV (a := (Ma 0)) (As := [.int 91]) (rest := []) (wr := [((Ma 2), .inl (tc 0, 2400, .inl (Mf 2))), ((Ma 3), .inl (tc 0, 7, .inl (Mf 3))), ((Ma 1), .inl (tc 2, 400, .inl (Mf 1)))]) ⟨hx, hb, hml, hown, hts⟩ hK hX hA (cu_kX12_opens l D tc sk (Ma 0) (Ma 1) (Ma 2) (Ma 3) (Ma 4) (Ma 5) (Ma 6) (Ma 7) (Ma 8) (Ma 9) (Ma 10) (Ma 11) (Ma 12) (Ma 13) (Ma 14) (Ma 15) (Ma 16) (Ma 17) (Ma 18) (Ma 19) (Ma 20) (Mv 0) (Mv 1) sv_83 vy_12 (Mv 4) (Mv 5) (Mv 6) vy_13 (Mv 8) vy_14 (Mv 10) (Mv 11) (Mv 12) (Mv 13) (Mv 14) vy_15 (Mj 0) 91 pn_27 ha_111 pf_28 ha_112 ha_113 pf_24.1.1 ha_114) k_1330 k_1327 k_1329 k_51 k_106 pl_X12_opens ⟨Nat.le_of_ble_eq_true rfl, Nat.le_of_ble_eq_true rfl⟩ rfl rfl (va_recv hK hP (ci := 12) (q0 := 3) rfl rfl) hP hD hS [3, 2] [0, 1, 4] rfl rfl rfl rfl rfl (by decide) rfl hl.1 rfl (Nat.le_of_ble_eq_true rfl) dX12_fact_52 ⟨Nat.le_of_ble_eq_true rfl, Nat.le_of_ble_eq_true rfl⟩ (fun v_115 u_116 H locs hv_117 hP₀ hD₀ hS₀ => ?_)
            obtain ⟨sv_118, sv_119, sv_120, sv_121⟩ := u_116
            obtain ⟨r_122, rfl, he_123, hm_125⟩ := hv_117
            have he_123 : ((r_122.toInt = 0 ∧ ¬ (sv_118 : Int32).toInt = 0 ∧ vy_13.toInt = 10 ∧ (sv_118 : Int32).toInt = 1 + 8 * sv_83.toInt + 2) ∨ (r_122.toInt = 1 ∧ (sv_120 : Int32).toInt = (vy_14 : Int32).toInt + 1 ∧ (sv_119 : Int32).toInt = vy_13.toInt + 1 ∧ vy_13.toInt < 10 ∧ (sv_118 : Int32).toInt = 0)) := he_123
            refine W.eq (g2 := F0 m 55 ls [.int r_122]) rfl ?_
            replace hP : va_P D classes [((Ma 2), .inl (tc 0, 2400, .inl (Mf 2))), ((Ma 3), .inl (tc 0, 7, .inl (Mf 3))), ((Ma 1), .inl (tc 2, 400, .inl (Mf 1))), ((Ma 0), .inr (12, [.ref (Ma 1), .int (Mv 0), .int (Mv 1), .ref (Ma 2), .ref (Ma 3), .ref (Ma 4), .ref (Ma 5), .ref (Ma 6), .int sv_83, .int sv_118, .int (Mv 4), .int (Mv 5), .int (Mv 6), .int sv_119, .int (Mv 8), .ref (Ma 7), .int sv_120, .ref (Ma 8), .int (Mv 10), .ref (Ma 9), .ref (Ma 10), .int (Mv 11), .int (Mv 12), .int (Mv 13), .ref (Ma 11), .int (Mv 14), .ref (Ma 12), .ref (Ma 13), .ref (Ma 14), .ref (Ma 15), .ref (Ma 16), .long (Mj 0), .ref (Ma 17), .ref (Ma 18), .ref (Ma 19), .ref (Ma 20)])), ((Ma 7), .inl (tc 0, 400, .inl sv_121))] H := hP₀
            replace hD : va_D A [((Ma 2), .inl (tc 0, 2400, .inl (Mf 2))), ((Ma 3), .inl (tc 0, 7, .inl (Mf 3))), ((Ma 1), .inl (tc 2, 400, .inl (Mf 1))), ((Ma 0), .inr (12, [.ref (Ma 1), .int (Mv 0), .int (Mv 1), .ref (Ma 2), .ref (Ma 3), .ref (Ma 4), .ref (Ma 5), .ref (Ma 6), .int sv_83, .int sv_118, .int (Mv 4), .int (Mv 5), .int (Mv 6), .int sv_119, .int (Mv 8), .ref (Ma 7), .int sv_120, .ref (Ma 8), .int (Mv 10), .ref (Ma 9), .ref (Ma 10), .int (Mv 11), .int (Mv 12), .int (Mv 13), .ref (Ma 11), .int (Mv 14), .ref (Ma 12), .ref (Ma 13), .ref (Ma 14), .ref (Ma 15), .ref (Ma 16), .long (Mj 0), .ref (Ma 17), .ref (Ma 18), .ref (Ma 19), .ref (Ma 20)])), ((Ma 7), .inl (tc 0, 400, .inl sv_121))] := hD₀
            replace hS := hS₀
            clear hP₀ hD₀ hS₀
            refine lv_if_ne (tgt := 60) hx hb dX12_fact_55 (by decide) (fun c_126 => ?_) (fun c_126 => ?_)
            · skip
              have hz_130 : (r_122 : Int32).toInt = 1 := by
                have z_1 : ¬ (vy_10 : Int32).toInt = (0 : Int32).toInt := fun z => c_30 (Int32.toInt_inj.mp z)
                have z_2 := congrArg Int32.toInt c_94
                have z_3 := congrArg Int32.toInt c_97
                have z_4 : ¬ (r_122 : Int32).toInt = (0 : Int32).toInt := fun z => c_126 (Int32.toInt_inj.mp z)
                have y_0 : (0 : Int32).toInt = 0 := by decide
                have y_91 : (91 : Int32).toInt = 91 := by decide
                omega
              obtain ⟨pf_127, pf_128, pf_129⟩ := hm_125 hz_130
              have pf_127 : OpS sv_121 sv_120 pn_27 := pf_127
              have ar_pf_127 := OpS.ar pf_127
              have pf_128 : OpP vy_15 vy_14 sv_121 sv_120 sv_119 (91 : Int32) := pf_128
              have ar_pf_128 := OsP.ar pf_128.1
              have pf_129 : OpX vy_15 vy_14 sv_121 sv_120 (91 : Int32) := pf_129
              refine lv_aload_n hx hb dX12_fact_60 rfl (lv_at hl 2 rfl) ?_
              refine lv_dup hx hb dX12_fact_61 rfl ?_
              refine gf_X12_87 hx hb hts hown hK hP 3 rfl rfl dX12_fact_62 ?_
              refine lv_iconst (v := 1) hx hb dX12_fact_65 (by decide) ?_
              refine lv_iadd hx hb dX12_fact_66 ?_
              refine lv_topi (fun x_131 ex_131 => ?_)
              refine pf_X12_87 hx hb hts hown hK hP hD hS 3 rfl (Nat.le_of_ble_eq_true rfl) rfl rfl dX12_fact_67 (fun H locs hP₀ hD₀ hS₀ => ?_)
              replace hP : va_P D classes [((Ma 2), .inl (tc 0, 2400, .inl (Mf 2))), ((Ma 3), .inl (tc 0, 7, .inl (Mf 3))), ((Ma 1), .inl (tc 2, 400, .inl (Mf 1))), ((Ma 0), .inr (12, [.ref (Ma 1), .int (Mv 0), .int (Mv 1), .ref (Ma 2), .ref (Ma 3), .ref (Ma 4), .ref (Ma 5), .ref (Ma 6), .int x_131, .int sv_118, .int (Mv 4), .int (Mv 5), .int (Mv 6), .int sv_119, .int (Mv 8), .ref (Ma 7), .int sv_120, .ref (Ma 8), .int (Mv 10), .ref (Ma 9), .ref (Ma 10), .int (Mv 11), .int (Mv 12), .int (Mv 13), .ref (Ma 11), .int (Mv 14), .ref (Ma 12), .ref (Ma 13), .ref (Ma 14), .ref (Ma 15), .ref (Ma 16), .long (Mj 0), .ref (Ma 17), .ref (Ma 18), .ref (Ma 19), .ref (Ma 20)])), ((Ma 7), .inl (tc 0, 400, .inl sv_121))] H := hP₀
              replace hD : va_D A [((Ma 2), .inl (tc 0, 2400, .inl (Mf 2))), ((Ma 3), .inl (tc 0, 7, .inl (Mf 3))), ((Ma 1), .inl (tc 2, 400, .inl (Mf 1))), ((Ma 0), .inr (12, [.ref (Ma 1), .int (Mv 0), .int (Mv 1), .ref (Ma 2), .ref (Ma 3), .ref (Ma 4), .ref (Ma 5), .ref (Ma 6), .int x_131, .int sv_118, .int (Mv 4), .int (Mv 5), .int (Mv 6), .int sv_119, .int (Mv 8), .ref (Ma 7), .int sv_120, .ref (Ma 8), .int (Mv 10), .ref (Ma 9), .ref (Ma 10), .int (Mv 11), .int (Mv 12), .int (Mv 13), .ref (Ma 11), .int (Mv 14), .ref (Ma 12), .ref (Ma 13), .ref (Ma 14), .ref (Ma 15), .ref (Ma 16), .long (Mj 0), .ref (Ma 17), .ref (Ma 18), .ref (Ma 19), .ref (Ma 20)])), ((Ma 7), .inl (tc 0, 400, .inl sv_121))] := hD₀
              replace hS := hS₀
              clear hP₀ hD₀ hS₀
              have tp_x_131 : (x_131 : Int32).toInt = (sv_83 : Int32).toInt + 1 := by
                have z_1 : ¬ (vy_10 : Int32).toInt = (0 : Int32).toInt := fun z => c_30 (Int32.toInt_inj.mp z)
                have z_2 := congrArg Int32.toInt c_94
                have z_3 := congrArg Int32.toInt c_97
                have z_4 : ¬ (r_122 : Int32).toInt = (0 : Int32).toInt := fun z => c_126 (Int32.toInt_inj.mp z)
                have y_0 : (0 : Int32).toInt = 0 := by decide
                have y_91 : (91 : Int32).toInt = 91 := by decide
                have y_1 : (1 : Int32).toInt = 1 := by decide
                have t_x_131 : x_131.toInt = (sv_83 : Int32).toInt + (1 : Int32).toInt := by rw [ex_131]; exact add_toInt (by omega) (by omega)
                omega
              refine lv_iconst (v := 1) hx hb dX12_fact_70 (by decide) ?_
              refine lv_istore_n (lv' := [(1, .int 1), (2, .int r_76), (0, .ref (Ma 0))]) hx hb dX12_fact_71 rfl hl (by decide) rfl (fun ls hl₀ => ?_)
              replace hl := hl₀
              clear hl₀
              refine lv_goto (tgt := 2) hx hb dX12_fact_72 (by decide) ?_
              have hb_132 : 2 * (400 - (x_131 : Int32).toInt) + (1 : Int32).toInt < 2 * (400 - (vy_11 : Int32).toInt) + (vy_10 : Int32).toInt ∧ 1 ≤ 2 * (400 - (vy_11 : Int32).toInt) + (vy_10 : Int32).toInt := by
                have z_1 : ¬ (vy_10 : Int32).toInt = (0 : Int32).toInt := fun z => c_30 (Int32.toInt_inj.mp z)
                have z_2 := congrArg Int32.toInt c_94
                have z_3 := congrArg Int32.toInt c_97
                have z_4 : ¬ (r_122 : Int32).toInt = (0 : Int32).toInt := fun z => c_126 (Int32.toInt_inj.mp z)
                have y_0 : (0 : Int32).toInt = 0 := by decide
                have y_91 : (91 : Int32).toInt = 91 := by decide
                have y_1 : (1 : Int32).toInt = 1 := by decide
                have t_x_131 : x_131.toInt = (sv_83 : Int32).toInt + (1 : Int32).toInt := by rw [ex_131]; exact add_toInt (by omega) (by omega)
                omega
              have ha_133 : 0 ≤ (x_131 : Int32).toInt ∧ (x_131 : Int32).toInt ≤ ((Mv 0) : Int32).toInt ∧ ((Mv 0) : Int32).toInt ≤ 400 := by
                have z_1 : ¬ (vy_10 : Int32).toInt = (0 : Int32).toInt := fun z => c_30 (Int32.toInt_inj.mp z)
                have z_2 := congrArg Int32.toInt c_94
                have z_3 := congrArg Int32.toInt c_97
                have z_4 : ¬ (r_122 : Int32).toInt = (0 : Int32).toInt := fun z => c_126 (Int32.toInt_inj.mp z)
                have y_0 : (0 : Int32).toInt = 0 := by decide
                have y_91 : (91 : Int32).toInt = 91 := by decide
                have y_1 : (1 : Int32).toInt = 1 := by decide
                have t_x_131 : x_131.toInt = (sv_83 : Int32).toInt + (1 : Int32).toInt := by rw [ex_131]; exact add_toInt (by omega) (by omega)
                omega
              have ha_134 : (Mv 2).toInt ≤ (x_131 : Int32).toInt := by
                have z_1 : ¬ (vy_10 : Int32).toInt = (0 : Int32).toInt := fun z => c_30 (Int32.toInt_inj.mp z)
                have z_2 := congrArg Int32.toInt c_94
                have z_3 := congrArg Int32.toInt c_97
                have z_4 : ¬ (r_122 : Int32).toInt = (0 : Int32).toInt := fun z => c_126 (Int32.toInt_inj.mp z)
                have y_0 : (0 : Int32).toInt = 0 := by decide
                have y_91 : (91 : Int32).toInt = 91 := by decide
                have y_1 : (1 : Int32).toInt = 1 := by decide
                have t_x_131 : x_131.toInt = (sv_83 : Int32).toInt + (1 : Int32).toInt := by rw [ex_131]; exact add_toInt (by omega) (by omega)
                omega
              have ha_135 : 0 ≤ (1 : Int32).toInt ∧ (1 : Int32).toInt ≤ 1 := by
                have z_1 : ¬ (vy_10 : Int32).toInt = (0 : Int32).toInt := fun z => c_30 (Int32.toInt_inj.mp z)
                have z_2 := congrArg Int32.toInt c_94
                have z_3 := congrArg Int32.toInt c_97
                have z_4 : ¬ (r_122 : Int32).toInt = (0 : Int32).toInt := fun z => c_126 (Int32.toInt_inj.mp z)
                have y_0 : (0 : Int32).toInt = 0 := by decide
                have y_91 : (91 : Int32).toInt = 91 := by decide
                have y_1 : (1 : Int32).toInt = 1 := by decide
                omega
              have ha_136 : (sv_120 : Int32).toInt + ((Mv 2) : Int32).toInt ≤ ((Mv 9) : Int32).toInt + (x_131 : Int32).toInt ∧ 0 ≤ (sv_120 : Int32).toInt := by
                have z_1 : ¬ (vy_10 : Int32).toInt = (0 : Int32).toInt := fun z => c_30 (Int32.toInt_inj.mp z)
                have z_2 := congrArg Int32.toInt c_94
                have z_3 := congrArg Int32.toInt c_97
                have z_4 : ¬ (r_122 : Int32).toInt = (0 : Int32).toInt := fun z => c_126 (Int32.toInt_inj.mp z)
                have y_0 : (0 : Int32).toInt = 0 := by decide
                have y_91 : (91 : Int32).toInt = 91 := by decide
                have y_1 : (1 : Int32).toInt = 1 := by decide
                have t_x_131 : x_131.toInt = (sv_83 : Int32).toInt + (1 : Int32).toInt := by rw [ex_131]; exact add_toInt (by omega) (by omega)
                omega
              have hr_137 : (vy_10 : Int32).toInt = 1 := by
                have z_1 : ¬ (vy_10 : Int32).toInt = (0 : Int32).toInt := fun z => c_30 (Int32.toInt_inj.mp z)
                have z_2 := congrArg Int32.toInt c_94
                have z_3 := congrArg Int32.toInt c_97
                have z_4 : ¬ (r_122 : Int32).toInt = (0 : Int32).toInt := fun z => c_126 (Int32.toInt_inj.mp z)
                have y_0 : (0 : Int32).toInt = 0 := by decide
                have y_91 : (91 : Int32).toInt = 91 := by decide
                omega
              have hw_138 : ¬ pz_wd (rB (Mf 1) (Mv 0)) (sv_83 : Int32).toInt.toNat pz_not = true := by
                have hq := pf_95
                rw [show (7237492 : Int64).toInt = pz_pl pz_not by decide] at hq
                exact fun z => hq ((PkW.wd (by decide) (by decide) (by decide)).mpr z)
              have hr_139 : ((91 : Int32) : Int32).toInt = 91 := by
                have z_1 : ¬ (vy_10 : Int32).toInt = (0 : Int32).toInt := fun z => c_30 (Int32.toInt_inj.mp z)
                have z_2 := congrArg Int32.toInt c_94
                have z_3 := congrArg Int32.toInt c_97
                have z_4 : ¬ (r_122 : Int32).toInt = (0 : Int32).toInt := fun z => c_126 (Int32.toInt_inj.mp z)
                have y_0 : (0 : Int32).toInt = 0 := by decide
                have y_91 : (91 : Int32).toInt = 91 := by decide
                omega
              have hr_140 : (sv_119 : Int32).toInt = (vy_13 : Int32).toInt + 1 := by
                have z_1 : ¬ (vy_10 : Int32).toInt = (0 : Int32).toInt := fun z => c_30 (Int32.toInt_inj.mp z)
                have z_2 := congrArg Int32.toInt c_94
                have z_3 := congrArg Int32.toInt c_97
                have z_4 : ¬ (r_122 : Int32).toInt = (0 : Int32).toInt := fun z => c_126 (Int32.toInt_inj.mp z)
                have y_0 : (0 : Int32).toInt = 0 := by decide
                have y_91 : (91 : Int32).toInt = 91 := by decide
                omega
              have hr_141 : (sv_118 : Int32).toInt = 0 := by
                have z_1 : ¬ (vy_10 : Int32).toInt = (0 : Int32).toInt := fun z => c_30 (Int32.toInt_inj.mp z)
                have z_2 := congrArg Int32.toInt c_94
                have z_3 := congrArg Int32.toInt c_97
                have z_4 : ¬ (r_122 : Int32).toInt = (0 : Int32).toInt := fun z => c_126 (Int32.toInt_inj.mp z)
                have y_0 : (0 : Int32).toInt = 0 := by decide
                have y_91 : (91 : Int32).toInt = 91 := by decide
                omega
              have hr_142 : (1 : Int32).toInt = 1 := by
                have z_1 : ¬ (vy_10 : Int32).toInt = (0 : Int32).toInt := fun z => c_30 (Int32.toInt_inj.mp z)
                have z_2 := congrArg Int32.toInt c_94
                have z_3 := congrArg Int32.toInt c_97
                have z_4 : ¬ (r_122 : Int32).toInt = (0 : Int32).toInt := fun z => c_126 (Int32.toInt_inj.mp z)
                have y_0 : (0 : Int32).toInt = 0 := by decide
                have y_91 : (91 : Int32).toInt = 91 := by decide
                have y_1 : (1 : Int32).toInt = 1 := by decide
                omega
              have hr_143 : (rB (Mf 1) (Mv 0) (sv_83 : Int32).toInt.toNat = 91) := by
                have z_1 : ¬ (vy_10 : Int32).toInt = (0 : Int32).toInt := fun z => c_30 (Int32.toInt_inj.mp z)
                have z_2 := congrArg Int32.toInt c_94
                have z_3 := congrArg Int32.toInt c_97
                have z_4 : ¬ (r_122 : Int32).toInt = (0 : Int32).toInt := fun z => c_126 (Int32.toInt_inj.mp z)
                have y_0 : (0 : Int32).toInt = 0 := by decide
                have y_91 : (91 : Int32).toInt = 91 := by decide
                omega
              have hi_144 : (x_131 : Int32).toInt = (sv_83 : Int32).toInt + 1 := by
                have z_1 : ¬ (vy_10 : Int32).toInt = (0 : Int32).toInt := fun z => c_30 (Int32.toInt_inj.mp z)
                have z_2 := congrArg Int32.toInt c_94
                have z_3 := congrArg Int32.toInt c_97
                have z_4 : ¬ (r_122 : Int32).toInt = (0 : Int32).toInt := fun z => c_126 (Int32.toInt_inj.mp z)
                have y_0 : (0 : Int32).toInt = 0 := by decide
                have y_91 : (91 : Int32).toInt = 91 := by decide
                have y_1 : (1 : Int32).toInt = 1 := by decide
                have t_x_131 : x_131.toInt = (sv_83 : Int32).toInt + (1 : Int32).toInt := by rw [ex_131]; exact add_toInt (by omega) (by omega)
                omega
              have hr_145 : (vy_10 : Int32).toInt = 1 := by
                have z_1 : ¬ (vy_10 : Int32).toInt = (0 : Int32).toInt := fun z => c_30 (Int32.toInt_inj.mp z)
                have z_2 := congrArg Int32.toInt c_94
                have z_3 := congrArg Int32.toInt c_97
                have z_4 : ¬ (r_122 : Int32).toInt = (0 : Int32).toInt := fun z => c_126 (Int32.toInt_inj.mp z)
                have y_0 : (0 : Int32).toInt = 0 := by decide
                have y_91 : (91 : Int32).toInt = 91 := by decide
                omega
              have hw_146 : ¬ pz_wd (rB (Mf 1) (Mv 0)) (sv_83 : Int32).toInt.toNat pz_not = true := by
                have hq := pf_95
                rw [show (7237492 : Int64).toInt = pz_pl pz_not by decide] at hq
                exact fun z => hq ((PkW.wd (by decide) (by decide) (by decide)).mpr z)
              have hr_147 : ((91 : Int32) : Int32).toInt = 91 := by
                have z_1 : ¬ (vy_10 : Int32).toInt = (0 : Int32).toInt := fun z => c_30 (Int32.toInt_inj.mp z)
                have z_2 := congrArg Int32.toInt c_94
                have z_3 := congrArg Int32.toInt c_97
                have z_4 : ¬ (r_122 : Int32).toInt = (0 : Int32).toInt := fun z => c_126 (Int32.toInt_inj.mp z)
                have y_0 : (0 : Int32).toInt = 0 := by decide
                have y_91 : (91 : Int32).toInt = 91 := by decide
                omega
              have hr_148 : (sv_119 : Int32).toInt = (vy_13 : Int32).toInt + 1 := by
                have z_1 : ¬ (vy_10 : Int32).toInt = (0 : Int32).toInt := fun z => c_30 (Int32.toInt_inj.mp z)
                have z_2 := congrArg Int32.toInt c_94
                have z_3 := congrArg Int32.toInt c_97
                have z_4 : ¬ (r_122 : Int32).toInt = (0 : Int32).toInt := fun z => c_126 (Int32.toInt_inj.mp z)
                have y_0 : (0 : Int32).toInt = 0 := by decide
                have y_91 : (91 : Int32).toInt = 91 := by decide
                omega
              have hr_149 : (sv_119 : Int32).toInt ≤ 10 := by
                have z_1 : ¬ (vy_10 : Int32).toInt = (0 : Int32).toInt := fun z => c_30 (Int32.toInt_inj.mp z)
                have z_2 := congrArg Int32.toInt c_94
                have z_3 := congrArg Int32.toInt c_97
                have z_4 : ¬ (r_122 : Int32).toInt = (0 : Int32).toInt := fun z => c_126 (Int32.toInt_inj.mp z)
                have y_0 : (0 : Int32).toInt = 0 := by decide
                have y_91 : (91 : Int32).toInt = 91 := by decide
                omega
              have hr_150 : (1 : Int32).toInt = 1 := by
                have z_1 : ¬ (vy_10 : Int32).toInt = (0 : Int32).toInt := fun z => c_30 (Int32.toInt_inj.mp z)
                have z_2 := congrArg Int32.toInt c_94
                have z_3 := congrArg Int32.toInt c_97
                have z_4 : ¬ (r_122 : Int32).toInt = (0 : Int32).toInt := fun z => c_126 (Int32.toInt_inj.mp z)
                have y_0 : (0 : Int32).toInt = 0 := by decide
                have y_91 : (91 : Int32).toInt = 91 := by decide
                have y_1 : (1 : Int32).toInt = 1 := by decide
                omega
              have hr_151 : (rB (Mf 1) (Mv 0) (sv_83 : Int32).toInt.toNat = 91) := by
                have z_1 : ¬ (vy_10 : Int32).toInt = (0 : Int32).toInt := fun z => c_30 (Int32.toInt_inj.mp z)
                have z_2 := congrArg Int32.toInt c_94
                have z_3 := congrArg Int32.toInt c_97
                have z_4 : ¬ (r_122 : Int32).toInt = (0 : Int32).toInt := fun z => c_126 (Int32.toInt_inj.mp z)
                have y_0 : (0 : Int32).toInt = 0 := by decide
                have y_91 : (91 : Int32).toInt = 91 := by decide
                omega
              have hi_152 : (x_131 : Int32).toInt = (sv_83 : Int32).toInt + 1 := by
                have z_1 : ¬ (vy_10 : Int32).toInt = (0 : Int32).toInt := fun z => c_30 (Int32.toInt_inj.mp z)
                have z_2 := congrArg Int32.toInt c_94
                have z_3 := congrArg Int32.toInt c_97
                have z_4 : ¬ (r_122 : Int32).toInt = (0 : Int32).toInt := fun z => c_126 (Int32.toInt_inj.mp z)
                have y_0 : (0 : Int32).toInt = 0 := by decide
                have y_91 : (91 : Int32).toInt = 91 := by decide
                have y_1 : (1 : Int32).toInt = 1 := by decide
                have t_x_131 : x_131.toInt = (sv_83 : Int32).toInt + (1 : Int32).toInt := by rw [ex_131]; exact add_toInt (by omega) (by omega)
                omega
              exact ih_17 1 x_131 sv_118 sv_119 sv_120 sv_121 _ _ _ (by omega) ha_133 ha_134 ha_135 ⟨pn_27, pf_127, pf_29⟩ ha_136 (FcL.br pf_24 hr_137 (SkR.trans pf_75 pf_87) hw_138 hr_143 pf_128 hr_139 hr_140 hi_144 hr_141 hr_142) (FcD.br (pf_24.2.1 hr_145) pf_25 hr_145 (SkR.trans pf_75 pf_87) hw_146 hr_151 pf_129 hr_147 hr_148 hr_149 hi_152 hr_150) (hP.sub [3, 2, 0, 1, 4] rfl) (hD.sub [3, 2, 0, 1, 4] rfl rfl) hS (lv_sub hl [0, 2] rfl)
            · skip
              refine lv_iconst (v := 0) hx hb dX12_fact_58 (by decide) ?_
              have ha_153 : ((Mv 2) : Int32).toInt ≤ (sv_83 : Int32).toInt ∧ (sv_83 : Int32).toInt ≤ ((Mv 0) : Int32).toInt := by
                have z_1 : ¬ (vy_10 : Int32).toInt = (0 : Int32).toInt := fun z => c_30 (Int32.toInt_inj.mp z)
                have z_2 := congrArg Int32.toInt c_94
                have z_3 := congrArg Int32.toInt c_97
                have z_4 := congrArg Int32.toInt c_126
                have y_0 : (0 : Int32).toInt = 0 := by decide
                have y_91 : (91 : Int32).toInt = 91 := by decide
                omega
              have ha_154 : ((Mv 6) : Int32).toInt ≤ ((Mv 6) : Int32).toInt ∧ ((Mv 6) : Int32).toInt ≤ 60 := by
                have z_1 : ¬ (vy_10 : Int32).toInt = (0 : Int32).toInt := fun z => c_30 (Int32.toInt_inj.mp z)
                have z_2 := congrArg Int32.toInt c_94
                have z_3 := congrArg Int32.toInt c_97
                have z_4 := congrArg Int32.toInt c_126
                have y_0 : (0 : Int32).toInt = 0 := by decide
                have y_91 : (91 : Int32).toInt = 91 := by decide
                omega
              have hp_155 : (((0 : Int32).toInt = 0 ∧ ¬ (sv_118 : Int32).toInt = 0) ∨ ((0 : Int32).toInt = 1 ∧ ((Mf 3) (Mv 5).toNatClampNeg).toInt + (sv_120 : Int32).toInt + ((Mv 2) : Int32).toInt ≤ ((Mf 3) (Mv 5).toNatClampNeg).toInt + ((Mv 9) : Int32).toInt + (sv_83 : Int32).toInt ∧ ((Mv 2) : Int32).toInt + 1 ≤ (sv_83 : Int32).toInt ∧ ((Mf 3) (Mv 5).toNatClampNeg).toInt ≤ ((Mf 3) (Mv 5).toNatClampNeg).toInt)) := by
                have z_1 : ¬ (vy_10 : Int32).toInt = (0 : Int32).toInt := fun z => c_30 (Int32.toInt_inj.mp z)
                have z_2 := congrArg Int32.toInt c_94
                have z_3 := congrArg Int32.toInt c_97
                have z_4 := congrArg Int32.toInt c_126
                have y_0 : (0 : Int32).toInt = 0 := by decide
                have y_91 : (91 : Int32).toInt = 91 := by decide
                omega
              have hm_156 : (0 : Int32).toInt = 0 → (RfE R sv_118) := by
                intro h1r
                have hr_157 : (vy_10 : Int32).toInt = 1 := by
                  have z_1 : ¬ (vy_10 : Int32).toInt = (0 : Int32).toInt := fun z => c_30 (Int32.toInt_inj.mp z)
                  have z_2 := congrArg Int32.toInt c_94
                  have z_3 := congrArg Int32.toInt c_97
                  have z_4 := congrArg Int32.toInt c_126
                  have y_0 : (0 : Int32).toInt = 0 := by decide
                  have y_91 : (91 : Int32).toInt = 91 := by decide
                  omega
                have hw_158 : ¬ pz_wd (rB (Mf 1) (Mv 0)) (sv_83 : Int32).toInt.toNat pz_not = true := by
                  have hq := pf_95
                  rw [show (7237492 : Int64).toInt = pz_pl pz_not by decide] at hq
                  exact fun z => hq ((PkW.wd (by decide) (by decide) (by decide)).mpr z)
                have hr_159 : (rB (Mf 1) (Mv 0) (sv_83 : Int32).toInt.toNat = 91) := by
                  have z_1 : ¬ (vy_10 : Int32).toInt = (0 : Int32).toInt := fun z => c_30 (Int32.toInt_inj.mp z)
                  have z_2 := congrArg Int32.toInt c_94
                  have z_3 := congrArg Int32.toInt c_97
                  have z_4 := congrArg Int32.toInt c_126
                  have y_0 : (0 : Int32).toInt = 0 := by decide
                  have y_91 : (91 : Int32).toInt = 91 := by decide
                  omega
                have hr_160 : (vy_13 : Int32).toInt = 10 := by
                  have z_1 : ¬ (vy_10 : Int32).toInt = (0 : Int32).toInt := fun z => c_30 (Int32.toInt_inj.mp z)
                  have z_2 := congrArg Int32.toInt c_94
                  have z_3 := congrArg Int32.toInt c_97
                  have z_4 := congrArg Int32.toInt c_126
                  have y_0 : (0 : Int32).toInt = 0 := by decide
                  have y_91 : (91 : Int32).toInt = 91 := by decide
                  omega
                have hi_161 : (sv_118 : Int32).toInt = 1 + 8 * (sv_83 : Int32).toInt + 2 := by
                  have z_1 : ¬ (vy_10 : Int32).toInt = (0 : Int32).toInt := fun z => c_30 (Int32.toInt_inj.mp z)
                  have z_2 := congrArg Int32.toInt c_94
                  have z_3 := congrArg Int32.toInt c_97
                  have z_4 := congrArg Int32.toInt c_126
                  have y_0 : (0 : Int32).toInt = 0 := by decide
                  have y_91 : (91 : Int32).toInt = 91 := by decide
                  omega
                exact (FcL.deep pf_24 hr_157 (SkR.trans pf_75 pf_87) (Or.inr hr_159) hr_160 hi_161)
              exact retI (v := 0) hx hb hr hlk (rfl) hP hD hS (sv_83, sv_118, (Mv 4), (Mv 6), sv_119, sv_120, (Mf 2), (Mf 3), sv_121) ⟨_, rfl, hp_155, ha_153, ha_154, (Agr.rf), (fun h => absurd h (by decide)), hm_156⟩ [3, 2, 0, 1, 4] rfl rfl dX12_fact_59 (Nat.le_of_ble_eq_true rfl) (Nat.le_of_ble_eq_true rfl) rfl
        · skip
          have hz_164 : (r_88 : Int32).toInt = 1 := by
            have z_1 : ¬ (vy_10 : Int32).toInt = (0 : Int32).toInt := fun z => c_30 (Int32.toInt_inj.mp z)
            have z_2 : ¬ (r_88 : Int32).toInt = (0 : Int32).toInt := fun z => c_94 (Int32.toInt_inj.mp z)
            have y_0 : (0 : Int32).toInt = 0 := by decide
            omega
          obtain ⟨pf_162, pf_163⟩ := hm_91 hz_164
          have pf_162 : Ltr (Mf 1) (Mv 0) sv_83 := pf_162
          have ar_pf_162 := pf_162.1
          have at_pf_162 : 97 ≤ ((Mf 1) (sv_83 : Int32).toInt.toNat).toInt ∧ ((Mf 1) (sv_83 : Int32).toInt.toNat).toInt ≤ 122 := pf_162.2
          have pf_163 : PkW (rB (Mf 1) (Mv 0)) ((sv_83 : Int32).toInt.toNat) (7237492 : Int64).toInt := pf_163
          refine lv_aload_n hx hb dX12_fact_23 rfl (lv_at hl 2 rfl) ?_
          refine lv_bipush (v := 11) hx hb dX12_fact_24 (by decide) ?_
          have ha_165 : 0 ≤ (sv_83 : Int32).toInt ∧ (sv_83 : Int32).toInt ≤ ((Mv 0) : Int32).toInt ∧ ((Mv 0) : Int32).toInt ≤ 400 := by
            have z_1 : ¬ (vy_10 : Int32).toInt = (0 : Int32).toInt := fun z => c_30 (Int32.toInt_inj.mp z)
            have z_2 : ¬ (r_88 : Int32).toInt = (0 : Int32).toInt := fun z => c_94 (Int32.toInt_inj.mp z)
            have y_0 : (0 : Int32).toInt = 0 := by decide
            omega
          have ha_166 : (vy_14 : Int32).toInt < 400 := by
            have z_1 : ¬ (vy_10 : Int32).toInt = (0 : Int32).toInt := fun z => c_30 (Int32.toInt_inj.mp z)
            have z_2 : ¬ (r_88 : Int32).toInt = (0 : Int32).toInt := fun z => c_94 (Int32.toInt_inj.mp z)
            have y_0 : (0 : Int32).toInt = 0 := by decide
            omega
          have ha_167 : (11 : Int32).toInt = 11 ∨ (11 : Int32).toInt = 91 := by
            have z_1 : ¬ (vy_10 : Int32).toInt = (0 : Int32).toInt := fun z => c_30 (Int32.toInt_inj.mp z)
            have z_2 : ¬ (r_88 : Int32).toInt = (0 : Int32).toInt := fun z => c_94 (Int32.toInt_inj.mp z)
            have y_0 : (0 : Int32).toInt = 0 := by decide
            have y_11 : (11 : Int32).toInt = 11 := by decide
            omega
          have ha_168 : (vy_12 : Int32).toInt = 0 := by
            have z_1 : ¬ (vy_10 : Int32).toInt = (0 : Int32).toInt := fun z => c_30 (Int32.toInt_inj.mp z)
            have z_2 : ¬ (r_88 : Int32).toInt = (0 : Int32).toInt := fun z => c_94 (Int32.toInt_inj.mp z)
            have y_0 : (0 : Int32).toInt = 0 := by decide
            omega
          refine cV (a := (Ma 0)) (As := [.int 11]) (rest := []) (wr := [((Ma 2), .inl (tc 0, 2400, .inl (Mf 2))), ((Ma 3), .inl (tc 0, 7, .inl (Mf 3))), ((Ma 1), .inl (tc 2, 400, .inl (Mf 1)))]) ⟨hx, hb, hml, hown, hts⟩ hK hX hA (cu_kX12_opens l D tc sk (Ma 0) (Ma 1) (Ma 2) (Ma 3) (Ma 4) (Ma 5) (Ma 6) (Ma 7) (Ma 8) (Ma 9) (Ma 10) (Ma 11) (Ma 12) (Ma 13) (Ma 14) (Ma 15) (Ma 16) (Ma 17) (Ma 18) (Ma 19) (Ma 20) (Mv 0) (Mv 1) sv_83 vy_12 (Mv 4) (Mv 5) (Mv 6) vy_13 (Mv 8) vy_14 (Mv 10) (Mv 11) (Mv 12) (Mv 13) (Mv 14) vy_15 (Mj 0) 11 pn_27 ha_165 pf_28 ha_166 ha_167 pf_24.1.1 ha_168) k_1330 k_1327 k_1329 k_51 k_106 pl_X12_opens ⟨Nat.le_of_ble_eq_true rfl, Nat.le_of_ble_eq_true rfl⟩ rfl rfl (va_recv hK hP (ci := 12) (q0 := 3) rfl rfl) hP hD hS [3, 2] [0, 1, 4] rfl rfl rfl rfl rfl (by decide) rfl hl.1 rfl (Nat.le_of_ble_eq_true rfl) dX12_fact_26 ⟨Nat.le_of_ble_eq_true rfl, Nat.le_of_ble_eq_true rfl⟩ (fun v_169 u_170 H locs hv_171 hP₀ hD₀ hS₀ => ?_)
          obtain ⟨sv_172, sv_173, sv_174, sv_175⟩ := u_170
          obtain ⟨r_176, rfl, he_177, hm_179⟩ := hv_171
          have he_177 : ((r_176.toInt = 0 ∧ ¬ (sv_172 : Int32).toInt = 0 ∧ vy_13.toInt = 10 ∧ (sv_172 : Int32).toInt = 1 + 8 * sv_83.toInt + 2) ∨ (r_176.toInt = 1 ∧ (sv_174 : Int32).toInt = (vy_14 : Int32).toInt + 1 ∧ (sv_173 : Int32).toInt = vy_13.toInt + 1 ∧ vy_13.toInt < 10 ∧ (sv_172 : Int32).toInt = 0)) := he_177
          refine W.eq (g2 := F0 m 29 ls [.int r_176]) rfl ?_
          replace hP : va_P D classes [((Ma 2), .inl (tc 0, 2400, .inl (Mf 2))), ((Ma 3), .inl (tc 0, 7, .inl (Mf 3))), ((Ma 1), .inl (tc 2, 400, .inl (Mf 1))), ((Ma 0), .inr (12, [.ref (Ma 1), .int (Mv 0), .int (Mv 1), .ref (Ma 2), .ref (Ma 3), .ref (Ma 4), .ref (Ma 5), .ref (Ma 6), .int sv_83, .int sv_172, .int (Mv 4), .int (Mv 5), .int (Mv 6), .int sv_173, .int (Mv 8), .ref (Ma 7), .int sv_174, .ref (Ma 8), .int (Mv 10), .ref (Ma 9), .ref (Ma 10), .int (Mv 11), .int (Mv 12), .int (Mv 13), .ref (Ma 11), .int (Mv 14), .ref (Ma 12), .ref (Ma 13), .ref (Ma 14), .ref (Ma 15), .ref (Ma 16), .long (Mj 0), .ref (Ma 17), .ref (Ma 18), .ref (Ma 19), .ref (Ma 20)])), ((Ma 7), .inl (tc 0, 400, .inl sv_175))] H := hP₀
          replace hD : va_D A [((Ma 2), .inl (tc 0, 2400, .inl (Mf 2))), ((Ma 3), .inl (tc 0, 7, .inl (Mf 3))), ((Ma 1), .inl (tc 2, 400, .inl (Mf 1))), ((Ma 0), .inr (12, [.ref (Ma 1), .int (Mv 0), .int (Mv 1), .ref (Ma 2), .ref (Ma 3), .ref (Ma 4), .ref (Ma 5), .ref (Ma 6), .int sv_83, .int sv_172, .int (Mv 4), .int (Mv 5), .int (Mv 6), .int sv_173, .int (Mv 8), .ref (Ma 7), .int sv_174, .ref (Ma 8), .int (Mv 10), .ref (Ma 9), .ref (Ma 10), .int (Mv 11), .int (Mv 12), .int (Mv 13), .ref (Ma 11), .int (Mv 14), .ref (Ma 12), .ref (Ma 13), .ref (Ma 14), .ref (Ma 15), .ref (Ma 16), .long (Mj 0), .ref (Ma 17), .ref (Ma 18), .ref (Ma 19), .ref (Ma 20)])), ((Ma 7), .inl (tc 0, 400, .inl sv_175))] := hD₀
          replace hS := hS₀
          clear hP₀ hD₀ hS₀
          refine lv_if_ne (tgt := 34) hx hb dX12_fact_29 (by decide) (fun c_180 => ?_) (fun c_180 => ?_)
          · skip
            have hz_184 : (r_176 : Int32).toInt = 1 := by
              have z_1 : ¬ (vy_10 : Int32).toInt = (0 : Int32).toInt := fun z => c_30 (Int32.toInt_inj.mp z)
              have z_2 : ¬ (r_88 : Int32).toInt = (0 : Int32).toInt := fun z => c_94 (Int32.toInt_inj.mp z)
              have z_3 : ¬ (r_176 : Int32).toInt = (0 : Int32).toInt := fun z => c_180 (Int32.toInt_inj.mp z)
              have y_0 : (0 : Int32).toInt = 0 := by decide
              omega
            obtain ⟨pf_181, pf_182, pf_183⟩ := hm_179 hz_184
            have pf_181 : OpS sv_175 sv_174 pn_27 := pf_181
            have ar_pf_181 := OpS.ar pf_181
            have pf_182 : OpP vy_15 vy_14 sv_175 sv_174 sv_173 (11 : Int32) := pf_182
            have ar_pf_182 := OsP.ar pf_182.1
            have pf_183 : OpX vy_15 vy_14 sv_175 sv_174 (11 : Int32) := pf_183
            refine lv_aload_n hx hb dX12_fact_34 rfl (lv_at hl 2 rfl) ?_
            have ha_185 : 0 ≤ (sv_83 : Int32).toInt ∧ (sv_83 : Int32).toInt ≤ ((Mv 0) : Int32).toInt ∧ ((Mv 0) : Int32).toInt ≤ 400 := by
              have z_1 : ¬ (vy_10 : Int32).toInt = (0 : Int32).toInt := fun z => c_30 (Int32.toInt_inj.mp z)
              have z_2 : ¬ (r_88 : Int32).toInt = (0 : Int32).toInt := fun z => c_94 (Int32.toInt_inj.mp z)
              have z_3 : ¬ (r_176 : Int32).toInt = (0 : Int32).toInt := fun z => c_180 (Int32.toInt_inj.mp z)
              have y_0 : (0 : Int32).toInt = 0 := by decide
              omega
            refine cV (a := (Ma 0)) (As := []) (rest := []) (wr := [((Ma 2), .inl (tc 0, 2400, .inl (Mf 2))), ((Ma 3), .inl (tc 0, 7, .inl (Mf 3))), ((Ma 7), .inl (tc 0, 400, .inl sv_175))]) ⟨hx, hb, hml, hown, hts⟩ hK hX hA (cu_fX12_passWord l D tc sk (Ma 0) (Ma 1) (Ma 2) (Ma 3) (Ma 4) (Ma 5) (Ma 6) (Ma 7) (Ma 8) (Ma 9) (Ma 10) (Ma 11) (Ma 12) (Ma 13) (Ma 14) (Ma 15) (Ma 16) (Ma 17) (Ma 18) (Ma 19) (Ma 20) (Mv 0) (Mv 1) sv_83 sv_172 (Mv 4) (Mv 5) (Mv 6) sv_173 (Mv 8) sv_174 (Mv 10) (Mv 11) (Mv 12) (Mv 13) (Mv 14) (Mf 1) (Mj 0) ha_185 h_bs) k_1244 k_1241 k_1243 k_34 k_106 pl_X12_passWord ⟨Nat.le_of_ble_eq_true rfl, Nat.le_of_ble_eq_true rfl⟩ rfl rfl (va_recv hK hP (ci := 12) (q0 := 3) rfl rfl) hP hD hS [3, 2] [0, 1, 4] rfl rfl rfl rfl rfl (by decide) rfl hl.1 rfl (Nat.le_of_ble_eq_true rfl) dX12_fact_35 ⟨Nat.le_of_ble_eq_true rfl, Nat.le_of_ble_eq_true rfl⟩ (fun v_186 u_187 H locs hv_188 hP₀ hD₀ hS₀ => ?_)
            obtain ⟨sv_189, rfl⟩ : ∃ z, z = u_187 := ⟨_, rfl⟩
            obtain ⟨rfl, pf_190, pf_191, pf_192⟩ := hv_188
            have pf_190 : (sv_83 : Int32).toInt ≤ (sv_189 : Int32).toInt ∧ (sv_189 : Int32).toInt ≤ ((Mv 0) : Int32).toInt := pf_190
            have pf_191 : Pw (Mf 1) (Mv 0) sv_83 sv_189 := pf_191
            have ar_pf_191 := pf_191 pf_162
            have pf_192 : PsR (rB (Mf 1) (Mv 0)) sv_83 sv_189 := pf_192
            refine W.eq (g2 := F0 m 38 ls []) rfl ?_
            replace hP : va_P D classes [((Ma 2), .inl (tc 0, 2400, .inl (Mf 2))), ((Ma 3), .inl (tc 0, 7, .inl (Mf 3))), ((Ma 7), .inl (tc 0, 400, .inl sv_175)), ((Ma 0), .inr (12, [.ref (Ma 1), .int (Mv 0), .int (Mv 1), .ref (Ma 2), .ref (Ma 3), .ref (Ma 4), .ref (Ma 5), .ref (Ma 6), .int sv_189, .int sv_172, .int (Mv 4), .int (Mv 5), .int (Mv 6), .int sv_173, .int (Mv 8), .ref (Ma 7), .int sv_174, .ref (Ma 8), .int (Mv 10), .ref (Ma 9), .ref (Ma 10), .int (Mv 11), .int (Mv 12), .int (Mv 13), .ref (Ma 11), .int (Mv 14), .ref (Ma 12), .ref (Ma 13), .ref (Ma 14), .ref (Ma 15), .ref (Ma 16), .long (Mj 0), .ref (Ma 17), .ref (Ma 18), .ref (Ma 19), .ref (Ma 20)])), ((Ma 1), .inl (tc 2, 400, .inl (Mf 1)))] H := hP₀
            replace hD : va_D A [((Ma 2), .inl (tc 0, 2400, .inl (Mf 2))), ((Ma 3), .inl (tc 0, 7, .inl (Mf 3))), ((Ma 7), .inl (tc 0, 400, .inl sv_175)), ((Ma 0), .inr (12, [.ref (Ma 1), .int (Mv 0), .int (Mv 1), .ref (Ma 2), .ref (Ma 3), .ref (Ma 4), .ref (Ma 5), .ref (Ma 6), .int sv_189, .int sv_172, .int (Mv 4), .int (Mv 5), .int (Mv 6), .int sv_173, .int (Mv 8), .ref (Ma 7), .int sv_174, .ref (Ma 8), .int (Mv 10), .ref (Ma 9), .ref (Ma 10), .int (Mv 11), .int (Mv 12), .int (Mv 13), .ref (Ma 11), .int (Mv 14), .ref (Ma 12), .ref (Ma 13), .ref (Ma 14), .ref (Ma 15), .ref (Ma 16), .long (Mj 0), .ref (Ma 17), .ref (Ma 18), .ref (Ma 19), .ref (Ma 20)])), ((Ma 1), .inl (tc 2, 400, .inl (Mf 1)))] := hD₀
            replace hS := hS₀
            clear hP₀ hD₀ hS₀
            refine lv_iconst (v := 1) hx hb dX12_fact_38 (by decide) ?_
            refine lv_istore_n (lv' := [(1, .int 1), (2, .int r_76), (0, .ref (Ma 0))]) hx hb dX12_fact_39 rfl hl (by decide) rfl (fun ls hl₀ => ?_)
            replace hl := hl₀
            clear hl₀
            refine lv_goto (tgt := 72) hx hb dX12_fact_40 (by decide) ?_
            refine lv_goto (tgt := 2) hx hb dX12_fact_72 (by decide) ?_
            have hb_193 : 2 * (400 - (sv_189 : Int32).toInt) + (1 : Int32).toInt < 2 * (400 - (vy_11 : Int32).toInt) + (vy_10 : Int32).toInt ∧ 1 ≤ 2 * (400 - (vy_11 : Int32).toInt) + (vy_10 : Int32).toInt := by
              have z_1 : ¬ (vy_10 : Int32).toInt = (0 : Int32).toInt := fun z => c_30 (Int32.toInt_inj.mp z)
              have z_2 : ¬ (r_88 : Int32).toInt = (0 : Int32).toInt := fun z => c_94 (Int32.toInt_inj.mp z)
              have z_3 : ¬ (r_176 : Int32).toInt = (0 : Int32).toInt := fun z => c_180 (Int32.toInt_inj.mp z)
              have y_0 : (0 : Int32).toInt = 0 := by decide
              have y_1 : (1 : Int32).toInt = 1 := by decide
              omega
            have ha_194 : 0 ≤ (sv_189 : Int32).toInt ∧ (sv_189 : Int32).toInt ≤ ((Mv 0) : Int32).toInt ∧ ((Mv 0) : Int32).toInt ≤ 400 := by
              have z_1 : ¬ (vy_10 : Int32).toInt = (0 : Int32).toInt := fun z => c_30 (Int32.toInt_inj.mp z)
              have z_2 : ¬ (r_88 : Int32).toInt = (0 : Int32).toInt := fun z => c_94 (Int32.toInt_inj.mp z)
              have z_3 : ¬ (r_176 : Int32).toInt = (0 : Int32).toInt := fun z => c_180 (Int32.toInt_inj.mp z)
              have y_0 : (0 : Int32).toInt = 0 := by decide
              omega
            have ha_195 : (Mv 2).toInt ≤ (sv_189 : Int32).toInt := by
              have z_1 : ¬ (vy_10 : Int32).toInt = (0 : Int32).toInt := fun z => c_30 (Int32.toInt_inj.mp z)
              have z_2 : ¬ (r_88 : Int32).toInt = (0 : Int32).toInt := fun z => c_94 (Int32.toInt_inj.mp z)
              have z_3 : ¬ (r_176 : Int32).toInt = (0 : Int32).toInt := fun z => c_180 (Int32.toInt_inj.mp z)
              have y_0 : (0 : Int32).toInt = 0 := by decide
              omega
            have ha_196 : 0 ≤ (1 : Int32).toInt ∧ (1 : Int32).toInt ≤ 1 := by
              have z_1 : ¬ (vy_10 : Int32).toInt = (0 : Int32).toInt := fun z => c_30 (Int32.toInt_inj.mp z)
              have z_2 : ¬ (r_88 : Int32).toInt = (0 : Int32).toInt := fun z => c_94 (Int32.toInt_inj.mp z)
              have z_3 : ¬ (r_176 : Int32).toInt = (0 : Int32).toInt := fun z => c_180 (Int32.toInt_inj.mp z)
              have y_0 : (0 : Int32).toInt = 0 := by decide
              have y_1 : (1 : Int32).toInt = 1 := by decide
              omega
            have ha_197 : (sv_174 : Int32).toInt + ((Mv 2) : Int32).toInt ≤ ((Mv 9) : Int32).toInt + (sv_189 : Int32).toInt ∧ 0 ≤ (sv_174 : Int32).toInt := by
              have z_1 : ¬ (vy_10 : Int32).toInt = (0 : Int32).toInt := fun z => c_30 (Int32.toInt_inj.mp z)
              have z_2 : ¬ (r_88 : Int32).toInt = (0 : Int32).toInt := fun z => c_94 (Int32.toInt_inj.mp z)
              have z_3 : ¬ (r_176 : Int32).toInt = (0 : Int32).toInt := fun z => c_180 (Int32.toInt_inj.mp z)
              have y_0 : (0 : Int32).toInt = 0 := by decide
              omega
            have hr_198 : (vy_10 : Int32).toInt = 1 := by
              have z_1 : ¬ (vy_10 : Int32).toInt = (0 : Int32).toInt := fun z => c_30 (Int32.toInt_inj.mp z)
              have z_2 : ¬ (r_88 : Int32).toInt = (0 : Int32).toInt := fun z => c_94 (Int32.toInt_inj.mp z)
              have z_3 : ¬ (r_176 : Int32).toInt = (0 : Int32).toInt := fun z => c_180 (Int32.toInt_inj.mp z)
              have y_0 : (0 : Int32).toInt = 0 := by decide
              omega
            have hw_199 : pz_wd (rB (Mf 1) (Mv 0)) (sv_83 : Int32).toInt.toNat pz_not = true := by
              have hq := pf_163
              rw [show (7237492 : Int64).toInt = pz_pl pz_not by decide] at hq
              exact (PkW.wd (by decide) (by decide) (by decide)).mp hq
            have hr_200 : ((11 : Int32) : Int32).toInt = 11 := by
              have z_1 : ¬ (vy_10 : Int32).toInt = (0 : Int32).toInt := fun z => c_30 (Int32.toInt_inj.mp z)
              have z_2 : ¬ (r_88 : Int32).toInt = (0 : Int32).toInt := fun z => c_94 (Int32.toInt_inj.mp z)
              have z_3 : ¬ (r_176 : Int32).toInt = (0 : Int32).toInt := fun z => c_180 (Int32.toInt_inj.mp z)
              have y_0 : (0 : Int32).toInt = 0 := by decide
              have y_11 : (11 : Int32).toInt = 11 := by decide
              omega
            have hr_201 : (sv_173 : Int32).toInt = (vy_13 : Int32).toInt + 1 := by
              have z_1 : ¬ (vy_10 : Int32).toInt = (0 : Int32).toInt := fun z => c_30 (Int32.toInt_inj.mp z)
              have z_2 : ¬ (r_88 : Int32).toInt = (0 : Int32).toInt := fun z => c_94 (Int32.toInt_inj.mp z)
              have z_3 : ¬ (r_176 : Int32).toInt = (0 : Int32).toInt := fun z => c_180 (Int32.toInt_inj.mp z)
              have y_0 : (0 : Int32).toInt = 0 := by decide
              omega
            have hr_202 : (sv_172 : Int32).toInt = 0 := by
              have z_1 : ¬ (vy_10 : Int32).toInt = (0 : Int32).toInt := fun z => c_30 (Int32.toInt_inj.mp z)
              have z_2 : ¬ (r_88 : Int32).toInt = (0 : Int32).toInt := fun z => c_94 (Int32.toInt_inj.mp z)
              have z_3 : ¬ (r_176 : Int32).toInt = (0 : Int32).toInt := fun z => c_180 (Int32.toInt_inj.mp z)
              have y_0 : (0 : Int32).toInt = 0 := by decide
              omega
            have hr_203 : (1 : Int32).toInt = 1 := by
              have z_1 : ¬ (vy_10 : Int32).toInt = (0 : Int32).toInt := fun z => c_30 (Int32.toInt_inj.mp z)
              have z_2 : ¬ (r_88 : Int32).toInt = (0 : Int32).toInt := fun z => c_94 (Int32.toInt_inj.mp z)
              have z_3 : ¬ (r_176 : Int32).toInt = (0 : Int32).toInt := fun z => c_180 (Int32.toInt_inj.mp z)
              have y_0 : (0 : Int32).toInt = 0 := by decide
              have y_1 : (1 : Int32).toInt = 1 := by decide
              omega
            have hr_204 : (vy_10 : Int32).toInt = 1 := by
              have z_1 : ¬ (vy_10 : Int32).toInt = (0 : Int32).toInt := fun z => c_30 (Int32.toInt_inj.mp z)
              have z_2 : ¬ (r_88 : Int32).toInt = (0 : Int32).toInt := fun z => c_94 (Int32.toInt_inj.mp z)
              have z_3 : ¬ (r_176 : Int32).toInt = (0 : Int32).toInt := fun z => c_180 (Int32.toInt_inj.mp z)
              have y_0 : (0 : Int32).toInt = 0 := by decide
              omega
            have hw_205 : pz_wd (rB (Mf 1) (Mv 0)) (sv_83 : Int32).toInt.toNat pz_not = true := by
              have hq := pf_163
              rw [show (7237492 : Int64).toInt = pz_pl pz_not by decide] at hq
              exact (PkW.wd (by decide) (by decide) (by decide)).mp hq
            have hr_206 : ((11 : Int32) : Int32).toInt = 11 := by
              have z_1 : ¬ (vy_10 : Int32).toInt = (0 : Int32).toInt := fun z => c_30 (Int32.toInt_inj.mp z)
              have z_2 : ¬ (r_88 : Int32).toInt = (0 : Int32).toInt := fun z => c_94 (Int32.toInt_inj.mp z)
              have z_3 : ¬ (r_176 : Int32).toInt = (0 : Int32).toInt := fun z => c_180 (Int32.toInt_inj.mp z)
              have y_0 : (0 : Int32).toInt = 0 := by decide
              have y_11 : (11 : Int32).toInt = 11 := by decide
              omega
            have hr_207 : (sv_173 : Int32).toInt = (vy_13 : Int32).toInt + 1 := by
              have z_1 : ¬ (vy_10 : Int32).toInt = (0 : Int32).toInt := fun z => c_30 (Int32.toInt_inj.mp z)
              have z_2 : ¬ (r_88 : Int32).toInt = (0 : Int32).toInt := fun z => c_94 (Int32.toInt_inj.mp z)
              have z_3 : ¬ (r_176 : Int32).toInt = (0 : Int32).toInt := fun z => c_180 (Int32.toInt_inj.mp z)
              have y_0 : (0 : Int32).toInt = 0 := by decide
              omega
            have hr_208 : (sv_173 : Int32).toInt ≤ 10 := by
              have z_1 : ¬ (vy_10 : Int32).toInt = (0 : Int32).toInt := fun z => c_30 (Int32.toInt_inj.mp z)
              have z_2 : ¬ (r_88 : Int32).toInt = (0 : Int32).toInt := fun z => c_94 (Int32.toInt_inj.mp z)
              have z_3 : ¬ (r_176 : Int32).toInt = (0 : Int32).toInt := fun z => c_180 (Int32.toInt_inj.mp z)
              have y_0 : (0 : Int32).toInt = 0 := by decide
              omega
            have hr_209 : (1 : Int32).toInt = 1 := by
              have z_1 : ¬ (vy_10 : Int32).toInt = (0 : Int32).toInt := fun z => c_30 (Int32.toInt_inj.mp z)
              have z_2 : ¬ (r_88 : Int32).toInt = (0 : Int32).toInt := fun z => c_94 (Int32.toInt_inj.mp z)
              have z_3 : ¬ (r_176 : Int32).toInt = (0 : Int32).toInt := fun z => c_180 (Int32.toInt_inj.mp z)
              have y_0 : (0 : Int32).toInt = 0 := by decide
              have y_1 : (1 : Int32).toInt = 1 := by decide
              omega
            exact ih_17 1 sv_189 sv_172 sv_173 sv_174 sv_175 _ _ _ (by omega) ha_194 ha_195 ha_196 ⟨pn_27, pf_181, pf_29⟩ ha_197 (FcL.not pf_24 hr_198 (SkR.trans pf_75 pf_87) hw_199 pf_182 hr_200 hr_201 pf_192 hr_202 hr_203) (FcD.not (pf_24.2.1 hr_204) pf_25 hr_204 (SkR.trans pf_75 pf_87) hw_205 pf_183 hr_206 hr_207 hr_208 pf_192 hr_209) (hP.sub [3, 4, 0, 1, 2] rfl) (hD.sub [3, 4, 0, 1, 2] rfl rfl) hS (lv_sub hl [0, 2] rfl)
          · skip
            refine lv_iconst (v := 0) hx hb dX12_fact_32 (by decide) ?_
            have ha_210 : ((Mv 2) : Int32).toInt ≤ (sv_83 : Int32).toInt ∧ (sv_83 : Int32).toInt ≤ ((Mv 0) : Int32).toInt := by
              have z_1 : ¬ (vy_10 : Int32).toInt = (0 : Int32).toInt := fun z => c_30 (Int32.toInt_inj.mp z)
              have z_2 : ¬ (r_88 : Int32).toInt = (0 : Int32).toInt := fun z => c_94 (Int32.toInt_inj.mp z)
              have z_3 := congrArg Int32.toInt c_180
              have y_0 : (0 : Int32).toInt = 0 := by decide
              omega
            have ha_211 : ((Mv 6) : Int32).toInt ≤ ((Mv 6) : Int32).toInt ∧ ((Mv 6) : Int32).toInt ≤ 60 := by
              have z_1 : ¬ (vy_10 : Int32).toInt = (0 : Int32).toInt := fun z => c_30 (Int32.toInt_inj.mp z)
              have z_2 : ¬ (r_88 : Int32).toInt = (0 : Int32).toInt := fun z => c_94 (Int32.toInt_inj.mp z)
              have z_3 := congrArg Int32.toInt c_180
              have y_0 : (0 : Int32).toInt = 0 := by decide
              omega
            have hp_212 : (((0 : Int32).toInt = 0 ∧ ¬ (sv_172 : Int32).toInt = 0) ∨ ((0 : Int32).toInt = 1 ∧ ((Mf 3) (Mv 5).toNatClampNeg).toInt + (sv_174 : Int32).toInt + ((Mv 2) : Int32).toInt ≤ ((Mf 3) (Mv 5).toNatClampNeg).toInt + ((Mv 9) : Int32).toInt + (sv_83 : Int32).toInt ∧ ((Mv 2) : Int32).toInt + 1 ≤ (sv_83 : Int32).toInt ∧ ((Mf 3) (Mv 5).toNatClampNeg).toInt ≤ ((Mf 3) (Mv 5).toNatClampNeg).toInt)) := by
              have z_1 : ¬ (vy_10 : Int32).toInt = (0 : Int32).toInt := fun z => c_30 (Int32.toInt_inj.mp z)
              have z_2 : ¬ (r_88 : Int32).toInt = (0 : Int32).toInt := fun z => c_94 (Int32.toInt_inj.mp z)
              have z_3 := congrArg Int32.toInt c_180
              have y_0 : (0 : Int32).toInt = 0 := by decide
              omega
            have hm_213 : (0 : Int32).toInt = 0 → (RfE R sv_172) := by
              intro h1r
              have hr_214 : (vy_10 : Int32).toInt = 1 := by
                have z_1 : ¬ (vy_10 : Int32).toInt = (0 : Int32).toInt := fun z => c_30 (Int32.toInt_inj.mp z)
                have z_2 : ¬ (r_88 : Int32).toInt = (0 : Int32).toInt := fun z => c_94 (Int32.toInt_inj.mp z)
                have z_3 := congrArg Int32.toInt c_180
                have y_0 : (0 : Int32).toInt = 0 := by decide
                omega
              have hw_215 : pz_wd (rB (Mf 1) (Mv 0)) (sv_83 : Int32).toInt.toNat pz_not = true := by
                have hq := pf_163
                rw [show (7237492 : Int64).toInt = pz_pl pz_not by decide] at hq
                exact (PkW.wd (by decide) (by decide) (by decide)).mp hq
              have hr_216 : (vy_13 : Int32).toInt = 10 := by
                have z_1 : ¬ (vy_10 : Int32).toInt = (0 : Int32).toInt := fun z => c_30 (Int32.toInt_inj.mp z)
                have z_2 : ¬ (r_88 : Int32).toInt = (0 : Int32).toInt := fun z => c_94 (Int32.toInt_inj.mp z)
                have z_3 := congrArg Int32.toInt c_180
                have y_0 : (0 : Int32).toInt = 0 := by decide
                omega
              have hi_217 : (sv_172 : Int32).toInt = 1 + 8 * (sv_83 : Int32).toInt + 2 := by
                have z_1 : ¬ (vy_10 : Int32).toInt = (0 : Int32).toInt := fun z => c_30 (Int32.toInt_inj.mp z)
                have z_2 : ¬ (r_88 : Int32).toInt = (0 : Int32).toInt := fun z => c_94 (Int32.toInt_inj.mp z)
                have z_3 := congrArg Int32.toInt c_180
                have y_0 : (0 : Int32).toInt = 0 := by decide
                omega
              exact (FcL.deep pf_24 hr_214 (SkR.trans pf_75 pf_87) (Or.inl hw_215) hr_216 hi_217)
            exact retI (v := 0) hx hb hr hlk (rfl) hP hD hS (sv_83, sv_172, (Mv 4), (Mv 6), sv_173, sv_174, (Mf 2), (Mf 3), sv_175) ⟨_, rfl, hp_212, ha_210, ha_211, (Agr.rf), (fun h => absurd h (by decide)), hm_213⟩ [3, 2, 0, 1, 4] rfl rfl dX12_fact_33 (Nat.le_of_ble_eq_true rfl) (Nat.le_of_ble_eq_true rfl) rfl
  have ha_218 : (Mv 2).toInt ≤ ((Mv 2) : Int32).toInt := by
    omega
  have ha_219 : 0 ≤ (1 : Int32).toInt ∧ (1 : Int32).toInt ≤ 1 := by
    have y_1 : (1 : Int32).toInt = 1 := by decide
    omega
  have ha_220 : ((Mv 9) : Int32).toInt + ((Mv 2) : Int32).toInt ≤ ((Mv 9) : Int32).toInt + ((Mv 2) : Int32).toInt ∧ 0 ≤ ((Mv 9) : Int32).toInt := by
    omega
  have hr_221 : (1 : Int32).toInt = 1 := by
    have y_1 : (1 : Int32).toInt = 1 := by decide
    omega
  have hr_222 : (1 : Int32).toInt = 1 := by
    have y_1 : (1 : Int32).toInt = 1 := by decide
    omega
  exact loop_18 _ 1 (Mv 2) (Mv 3) (Mv 7) (Mv 9) (Mf 7) _ _ _ (Nat.lt_succ_self _) h_nx ha_218 ha_219 h_lb ha_220 (FcL.first h_fc hr_221) (FcD.first h_fa hr_222) hP hD hS hl
set_option maxRecDepth 100000 in
theorem cu_kX12_fact (l : Launch) (D : va_G) (tc : Nat → ClassId) (sk : (Nat → Nat) × (Nat → Nat)) (Ma_0 : Nat) (Ma_1 : Nat) (Ma_2 : Nat) (Ma_3 : Nat) (Ma_4 : Nat) (Ma_5 : Nat) (Ma_6 : Nat) (Ma_7 : Nat) (Ma_8 : Nat) (Ma_9 : Nat) (Ma_10 : Nat) (Ma_11 : Nat) (Ma_12 : Nat) (Ma_13 : Nat) (Ma_14 : Nat) (Ma_15 : Nat) (Ma_16 : Nat) (Ma_17 : Nat) (Ma_18 : Nat) (Ma_19 : Nat) (Ma_20 : Nat) (Mv_0 : Int32) (Mv_1 : Int32) (Mv_2 : Int32) (Mv_3 : Int32) (Mv_4 : Int32) (Mv_5 : Int32) (Mv_6 : Int32) (Mv_7 : Int32) (Mv_8 : Int32) (Mv_9 : Int32) (Mv_10 : Int32) (Mv_11 : Int32) (Mv_12 : Int32) (Mv_13 : Int32) (Mv_14 : Int32) (Mf_1 : Nat → Int32) (Mf_2 : Nat → Int32) (Mf_3 : Nat → Int32) (Mf_7 : Nat → Int32) (Mj_0 : Int64) (b : Int32) (R : Except Int (Nat × Nat)) (TC : List Int) (h_nx : 0 ≤ (Mv_2 : Int32).toInt ∧ (Mv_2 : Int32).toInt ≤ (Mv_0 : Int32).toInt ∧ (Mv_0 : Int32).toInt ≤ 400) (h_lb : LBR Mf_7 Mv_9 Mf_2 Mf_3 Mv_5 b Mv_6) (h_s : (Mf_3 Mv_5.toNatClampNeg).toInt + (Mv_9 : Int32).toInt ≤ (Mv_2 : Int32).toInt) (h_md : 0 ≤ (Mv_6 : Int32).toInt ∧ (Mv_6 : Int32).toInt ≤ 60) (h_bs : ByS Mf_1) (h_fc : FcI R (rB Mf_1 Mv_0) Mf_7 Mv_9 Mv_7 Mv_2 Mv_6 Mv_3) (h_fa : FcA TC R (rB Mf_1 Mv_0) Mf_7 Mv_9 Mv_7 Mv_2 Mv_6 Mf_2 Mf_3 Mv_5) : Ct l yX12_fact cX12_fact 3 (some .boolean) { frames := 7, cells := 0, slots := 0, locals := 154 } D tc sk [.ref Ma_0] [(Ma_0, .inr (12, [.ref Ma_1, .int Mv_0, .int Mv_1, .ref Ma_2, .ref Ma_3, .ref Ma_4, .ref Ma_5, .ref Ma_6, .int Mv_2, .int Mv_3, .int Mv_4, .int Mv_5, .int Mv_6, .int Mv_7, .int Mv_8, .ref Ma_7, .int Mv_9, .ref Ma_8, .int Mv_10, .ref Ma_9, .ref Ma_10, .int Mv_11, .int Mv_12, .int Mv_13, .ref Ma_11, .int Mv_14, .ref Ma_12, .ref Ma_13, .ref Ma_14, .ref Ma_15, .ref Ma_16, .long Mj_0, .ref Ma_17, .ref Ma_18, .ref Ma_19, .ref Ma_20])), (Ma_1, .inl (tc 2, 400, .inl Mf_1)), (Ma_2, .inl (tc 0, 2400, .inl Mf_2)), (Ma_3, .inl (tc 0, 7, .inl Mf_3)), (Ma_7, .inl (tc 0, 400, .inl Mf_7))] (fun (v : Option Value) (u : (Int32) × (Int32) × (Int32) × (Int32) × (Int32) × (Int32) × (Nat → Int32) × (Nat → Int32) × (Nat → Int32)) => match u with | (oo0x1, oo0x2, oo0x3, oo0x4, oo0x5, oo0x6, oo0x7, oo0x8, oo0x9) => ∃ r : Int32, v = some (.int r) ∧ (((r.toInt = 0 ∧ ¬ (oo0x2 : Int32).toInt = 0) ∨ (r.toInt = 1 ∧ (oo0x8 Mv_5.toNatClampNeg).toInt + (oo0x6 : Int32).toInt + (Mv_2 : Int32).toInt ≤ (Mf_3 Mv_5.toNatClampNeg).toInt + (Mv_9 : Int32).toInt + (oo0x1 : Int32).toInt ∧ (Mv_2 : Int32).toInt + 1 ≤ (oo0x1 : Int32).toInt ∧ (Mf_3 Mv_5.toNatClampNeg).toInt ≤ (oo0x8 Mv_5.toNatClampNeg).toInt))) ∧ ((Mv_2 : Int32).toInt ≤ (oo0x1 : Int32).toInt ∧ (oo0x1 : Int32).toInt ≤ (Mv_0 : Int32).toInt) ∧ ((Mv_6 : Int32).toInt ≤ (oo0x4 : Int32).toInt ∧ (oo0x4 : Int32).toInt ≤ 60) ∧ (Agr Mf_2 oo0x7 (400 * (Mv_5 : Int32).toInt + (Mf_3 Mv_5.toNatClampNeg).toInt)) ∧ (r.toInt = 1 → (LSR oo0x9 oo0x6 oo0x7 oo0x8 Mv_5 b oo0x4) ∧ (FcO R (rB Mf_1 Mv_0) oo0x9 oo0x6 oo0x5 oo0x1 oo0x4 oo0x2) ∧ (FcB TC R (rB Mf_1 Mv_0) oo0x9 oo0x6 oo0x1 oo0x4 oo0x7 oo0x8 Mv_5)) ∧ (r.toInt = 0 → (RfE R oo0x2))) (fun (u : (Int32) × (Int32) × (Int32) × (Int32) × (Int32) × (Int32) × (Nat → Int32) × (Nat → Int32) × (Nat → Int32)) => match u with | (oo0x1, oo0x2, oo0x3, oo0x4, oo0x5, oo0x6, oo0x7, oo0x8, oo0x9) => [(Ma_0, .inr (12, [.ref Ma_1, .int Mv_0, .int Mv_1, .ref Ma_2, .ref Ma_3, .ref Ma_4, .ref Ma_5, .ref Ma_6, .int oo0x1, .int oo0x2, .int oo0x3, .int Mv_5, .int oo0x4, .int oo0x5, .int Mv_8, .ref Ma_7, .int oo0x6, .ref Ma_8, .int Mv_10, .ref Ma_9, .ref Ma_10, .int Mv_11, .int Mv_12, .int Mv_13, .ref Ma_11, .int Mv_14, .ref Ma_12, .ref Ma_13, .ref Ma_14, .ref Ma_15, .ref Ma_16, .long Mj_0, .ref Ma_17, .ref Ma_18, .ref Ma_19, .ref Ma_20])), (Ma_1, .inl (tc 2, 400, .inl Mf_1)), (Ma_2, .inl (tc 0, 2400, .inl oo0x7)), (Ma_3, .inl (tc 0, 7, .inl oo0x8)), (Ma_7, .inl (tc 0, 400, .inl oo0x9))]) 0 0 :=
  ct_kX12_fact l D tc sk (fun k => ([Ma_0, Ma_1, Ma_2, Ma_3, Ma_4, Ma_5, Ma_6, Ma_7, Ma_8, Ma_9, Ma_10, Ma_11, Ma_12, Ma_13, Ma_14, Ma_15, Ma_16, Ma_17, Ma_18, Ma_19, Ma_20] : List (Nat)).getD k 0) (fun k => ([Mv_0, Mv_1, Mv_2, Mv_3, Mv_4, Mv_5, Mv_6, Mv_7, Mv_8, Mv_9, Mv_10, Mv_11, Mv_12, Mv_13, Mv_14] : List (Int32)).getD k 0) (fun k => ([(fun _ => 0), Mf_1, Mf_2, Mf_3, (fun _ => 0), (fun _ => 0), (fun _ => 0), Mf_7] : List (Nat → Int32)).getD k (fun _ => 0)) (fun k => ([Mj_0] : List (Int64)).getD k 0) b R TC h_nx h_lb h_s h_md h_bs h_fc h_fa
