set_option maxHeartbeats 4000000 in
set_option maxRecDepth 100000 in
theorem ct_fX0_readBook (l : Launch) (D : va_G) (tc : Nat → ClassId) (sk : (Nat → Nat) × (Nat → Nat)) (Wa : Nat → Nat) (Aa : Nat → Nat) (Av : Nat → Int32) (Af : Nat → Nat → Int32) (Ta : Nat → Nat) (Tv : Nat → Int32) (Tf : Nat → Nat → Int32) (rr : Except Int (Nat × Nat)) (h_tape : 0 ≤ ((Tv 0) : Int32).toInt ∧ ((Tv 0) : Int32).toInt ≤ 400 ∧ 0 ≤ ((Tv 1) : Int32).toInt ∧ ((Tv 1) : Int32).toInt ≤ 400 ∧ 0 ≤ ((Tv 2) : Int32).toInt ∧ ((Tv 2) : Int32).toInt ≤ 400) (h_by : Byt (Tf 1)) (h_r : TpR (Tf 1) (Tv 0) rr (Tv 1) (Tv 2) (Tv 3) (Tv 4)) (h_bu : 0 ≤ ((Av 3) : Int32).toInt ∧ ((Av 3) : Int32).toInt ≤ 6) : Ct l yX0_readBook cX0_readBook 2 none { frames := 3, cells := 0, slots := 0, locals := 68 } D tc sk [.ref (Wa 0), .ref (Ta 0)] [((Wa 0), .inr (0, [.ref (Aa 0)])), ((Aa 0), .inr (9, [.int (Av 0), .int (Av 1), .int (Av 2), .int (Av 3), .int (Av 4), .int (Av 5), .ref (Aa 1), .ref (Aa 2), .ref (Aa 3), .ref (Aa 4), .ref (Aa 5), .ref (Aa 6), .ref (Aa 7), .ref (Aa 8)])), ((Aa 1), .inl (tc 0, 10, .inl (Af 1))), ((Aa 2), .inl (tc 0, 10, .inl (Af 2))), ((Aa 3), .inl (tc 0, 6, .inl (Af 3))), ((Aa 4), .inl (tc 0, 6, .inl (Af 4))), ((Aa 5), .inl (tc 0, 6, .inl (Af 5))), ((Aa 6), .inl (tc 0, 6, .inl (Af 6))), ((Aa 7), .inl (tc 0, 6, .inl (Af 7))), ((Aa 8), .inl (tc 0, 6, .inl (Af 8))), ((Ta 0), .inr (10, [.ref (Ta 1), .int (Tv 0), .int (Tv 1), .int (Tv 2), .int (Tv 3), .int (Tv 4)])), ((Ta 1), .inl (tc 0, 400, .inl (Tf 1)))] (fun (v : Option Value) (u : (Int32) × (Int32) × (Int32) × (Int32) × (Int32) × (Int32) × (Int32)) => match u with | (oo0x1, oo0x2, oo0x3, oo0x4, oo0x5, oo0x6, oo0x7) => v = none ∧ (0 ≤ ((Tv 0) : Int32).toInt ∧ ((Tv 0) : Int32).toInt ≤ 400 ∧ 0 ≤ (oo0x4 : Int32).toInt ∧ (oo0x4 : Int32).toInt ≤ 400 ∧ 0 ≤ (oo0x5 : Int32).toInt ∧ (oo0x5 : Int32).toInt ≤ 400) ∧ (0 ≤ ((Av 3) : Int32).toInt ∧ ((Av 3) : Int32).toInt ≤ 6) ∧ (TpR (Tf 1) (Tv 0) (rN1 (cB (Tf 1) (Tv 0)) 1 10 (rN1 (cB (Tf 1) (Tv 0)) 0 9 (rN1 (cB (Tf 1) (Tv 0)) 0 99 rr))) oo0x4 oo0x5 oo0x6 oo0x7) ∧ (NuV (cB (Tf 1) (Tv 0)) 1 10 (rN1 (cB (Tf 1) (Tv 0)) 0 9 (rN1 (cB (Tf 1) (Tv 0)) 0 99 rr)) oo0x3)) (fun (u : (Int32) × (Int32) × (Int32) × (Int32) × (Int32) × (Int32) × (Int32)) => match u with | (oo0x1, oo0x2, oo0x3, oo0x4, oo0x5, oo0x6, oo0x7) => [((Wa 0), .inr (0, [.ref (Aa 0)])), ((Aa 0), .inr (9, [.int oo0x1, .int oo0x2, .int oo0x3, .int (Av 3), .int (Av 4), .int (Av 5), .ref (Aa 1), .ref (Aa 2), .ref (Aa 3), .ref (Aa 4), .ref (Aa 5), .ref (Aa 6), .ref (Aa 7), .ref (Aa 8)])), ((Aa 1), .inl (tc 0, 10, .inl (Af 1))), ((Aa 2), .inl (tc 0, 10, .inl (Af 2))), ((Aa 3), .inl (tc 0, 6, .inl (Af 3))), ((Aa 4), .inl (tc 0, 6, .inl (Af 4))), ((Aa 5), .inl (tc 0, 6, .inl (Af 5))), ((Aa 6), .inl (tc 0, 6, .inl (Af 6))), ((Aa 7), .inl (tc 0, 6, .inl (Af 7))), ((Aa 8), .inl (tc 0, 6, .inl (Af 8))), ((Ta 0), .inr (10, [.ref (Ta 1), .int (Tv 0), .int oo0x4, .int oo0x5, .int oo0x6, .int oo0x7])), ((Ta 1), .inl (tc 0, 400, .inl (Tf 1)))]) 0 0 := by
  refine Ct.start (by decide) (Nat.le_of_ble_eq_true rfl) (fun p e s m below meth c A ls hx hb hr hlk hin hml hown hts hK hX hP hD hA hl hS => ?_)
  have hl : lv_has ls 2 [(0, .ref (Wa 0)), (1, .ref (Ta 0))] := hl
  have tb_1 : TpB (rTE (cB (Tf 1) (Tv 0)) rr) (Tv 2) (Tv 4) := TpR.tb h_r
  refine lv_aload_n hx hb dX0_readBook_0 rfl (lv_at hl 0 rfl) ?_
  refine gf_X0_12 hx hb hts hown hK hP 0 rfl rfl dX0_readBook_1 ?_
  refine lv_aload_n hx hb dX0_readBook_4 rfl (lv_at hl 1 rfl) ?_
  refine lv_iconst (v := 0) hx hb dX0_readBook_5 (by decide) ?_
  refine lv_bipush (v := 99) hx hb dX0_readBook_6 (by decide) ?_
  have ha_2 : (0 : Int32).toInt = (0 : Int) := by
    have y_0 : (0 : Int32).toInt = 0 := by decide
    omega
  have ha_3 : (99 : Int32).toInt = (99 : Int) := by
    have y_99 : (99 : Int32).toInt = 99 := by decide
    omega
  refine cV (a := (Ta 0)) (As := [.int 0, .int 99]) (rest := [.ref (Aa 0)]) (wr := [((Wa 0), .inr (0, [.ref (Aa 0)])), ((Aa 0), .inr (9, [.int (Av 0), .int (Av 1), .int (Av 2), .int (Av 3), .int (Av 4), .int (Av 5), .ref (Aa 1), .ref (Aa 2), .ref (Aa 3), .ref (Aa 4), .ref (Aa 5), .ref (Aa 6), .ref (Aa 7), .ref (Aa 8)])), ((Aa 1), .inl (tc 0, 10, .inl (Af 1))), ((Aa 2), .inl (tc 0, 10, .inl (Af 2))), ((Aa 3), .inl (tc 0, 6, .inl (Af 3))), ((Aa 4), .inl (tc 0, 6, .inl (Af 4))), ((Aa 5), .inl (tc 0, 6, .inl (Af 5))), ((Aa 6), .inl (tc 0, 6, .inl (Af 6))), ((Aa 7), .inl (tc 0, 6, .inl (Af 7))), ((Aa 8), .inl (tc 0, 6, .inl (Af 8)))]) ⟨hx, hb, hml, hown, hts⟩ hK hX hA (cu_fX10_takeNumber l D tc sk (Ta 0) (Ta 1) (Tv 0) (Tv 1) (Tv 2) (Tv 3) (Tv 4) (Tf 1) 0 99 rr 0 99 h_tape h_by h_r ha_2 ha_3) k_566 k_563 k_564 k_565 k_96 pl_X10_takeNumber ⟨Nat.le_of_ble_eq_true rfl, Nat.le_of_ble_eq_true rfl⟩ rfl rfl (va_recv hK hP (ci := 10) (q0 := 10) rfl rfl) hP hD hS [10, 11] [0, 1, 2, 3, 4, 5, 6, 7, 8, 9] rfl rfl rfl rfl rfl (by decide) rfl hl.1 rfl (Nat.le_of_ble_eq_true rfl) dX0_readBook_8 ⟨Nat.le_of_ble_eq_true rfl, Nat.le_of_ble_eq_true rfl⟩ (fun v_4 u_5 H locs hv_6 hP₀ hD₀ hS₀ => ?_)
  obtain ⟨sv_7, sv_8, sv_9, sv_10⟩ := u_5
  obtain ⟨r_13, rfl, he_14, pf_11, pf_12⟩ := hv_6
  have he_14 : NuV (cB (Tf 1) (Tv 0)) (0 : Int) (99 : Int) rr r_13 := he_14
  have pf_11 : 0 ≤ ((Tv 0) : Int32).toInt ∧ ((Tv 0) : Int32).toInt ≤ 400 ∧ 0 ≤ (sv_7 : Int32).toInt ∧ (sv_7 : Int32).toInt ≤ 400 ∧ 0 ≤ (sv_8 : Int32).toInt ∧ (sv_8 : Int32).toInt ≤ 400 := pf_11
  have pf_12 : TpR (Tf 1) (Tv 0) (rNX (cB (Tf 1) (Tv 0)) (rNU (cB (Tf 1) (Tv 0)) (0 : Int) (99 : Int) rr)) sv_7 sv_8 sv_9 sv_10 := pf_12
  obtain ⟨ro_16, ero_16⟩ : ∃ z : Except Int (Nat × Nat), z = (rNX (cB (Tf 1) (Tv 0)) (rNU (cB (Tf 1) (Tv 0)) 0 99 rr)) := ⟨_, rfl⟩
  rw [← ero_16] at pf_12
  have tb_17 : TpB (rTE (cB (Tf 1) (Tv 0)) ro_16) sv_8 sv_10 := TpR.tb pf_12
  refine W.eq (g2 := F0 m 11 ls [.int r_13, .ref (Aa 0)]) rfl ?_
  replace hP : va_P D classes [((Wa 0), .inr (0, [.ref (Aa 0)])), ((Aa 0), .inr (9, [.int (Av 0), .int (Av 1), .int (Av 2), .int (Av 3), .int (Av 4), .int (Av 5), .ref (Aa 1), .ref (Aa 2), .ref (Aa 3), .ref (Aa 4), .ref (Aa 5), .ref (Aa 6), .ref (Aa 7), .ref (Aa 8)])), ((Aa 1), .inl (tc 0, 10, .inl (Af 1))), ((Aa 2), .inl (tc 0, 10, .inl (Af 2))), ((Aa 3), .inl (tc 0, 6, .inl (Af 3))), ((Aa 4), .inl (tc 0, 6, .inl (Af 4))), ((Aa 5), .inl (tc 0, 6, .inl (Af 5))), ((Aa 6), .inl (tc 0, 6, .inl (Af 6))), ((Aa 7), .inl (tc 0, 6, .inl (Af 7))), ((Aa 8), .inl (tc 0, 6, .inl (Af 8))), ((Ta 0), .inr (10, [.ref (Ta 1), .int (Tv 0), .int sv_7, .int sv_8, .int sv_9, .int sv_10])), ((Ta 1), .inl (tc 0, 400, .inl (Tf 1)))] H := hP₀
  replace hD : va_D A [((Wa 0), .inr (0, [.ref (Aa 0)])), ((Aa 0), .inr (9, [.int (Av 0), .int (Av 1), .int (Av 2), .int (Av 3), .int (Av 4), .int (Av 5), .ref (Aa 1), .ref (Aa 2), .ref (Aa 3), .ref (Aa 4), .ref (Aa 5), .ref (Aa 6), .ref (Aa 7), .ref (Aa 8)])), ((Aa 1), .inl (tc 0, 10, .inl (Af 1))), ((Aa 2), .inl (tc 0, 10, .inl (Af 2))), ((Aa 3), .inl (tc 0, 6, .inl (Af 3))), ((Aa 4), .inl (tc 0, 6, .inl (Af 4))), ((Aa 5), .inl (tc 0, 6, .inl (Af 5))), ((Aa 6), .inl (tc 0, 6, .inl (Af 6))), ((Aa 7), .inl (tc 0, 6, .inl (Af 7))), ((Aa 8), .inl (tc 0, 6, .inl (Af 8))), ((Ta 0), .inr (10, [.ref (Ta 1), .int (Tv 0), .int sv_7, .int sv_8, .int sv_9, .int sv_10])), ((Ta 1), .inl (tc 0, 400, .inl (Tf 1)))] := hD₀
  replace hS := hS₀
  clear hP₀ hD₀ hS₀
  refine pf_X0_74 hx hb hts hown hK hP hD hS 1 rfl (Nat.le_of_ble_eq_true rfl) rfl rfl dX0_readBook_11 (fun H locs hP₀ hD₀ hS₀ => ?_)
  replace hP : va_P D classes [((Wa 0), .inr (0, [.ref (Aa 0)])), ((Aa 0), .inr (9, [.int r_13, .int (Av 1), .int (Av 2), .int (Av 3), .int (Av 4), .int (Av 5), .ref (Aa 1), .ref (Aa 2), .ref (Aa 3), .ref (Aa 4), .ref (Aa 5), .ref (Aa 6), .ref (Aa 7), .ref (Aa 8)])), ((Aa 1), .inl (tc 0, 10, .inl (Af 1))), ((Aa 2), .inl (tc 0, 10, .inl (Af 2))), ((Aa 3), .inl (tc 0, 6, .inl (Af 3))), ((Aa 4), .inl (tc 0, 6, .inl (Af 4))), ((Aa 5), .inl (tc 0, 6, .inl (Af 5))), ((Aa 6), .inl (tc 0, 6, .inl (Af 6))), ((Aa 7), .inl (tc 0, 6, .inl (Af 7))), ((Aa 8), .inl (tc 0, 6, .inl (Af 8))), ((Ta 0), .inr (10, [.ref (Ta 1), .int (Tv 0), .int sv_7, .int sv_8, .int sv_9, .int sv_10])), ((Ta 1), .inl (tc 0, 400, .inl (Tf 1)))] H := hP₀
  replace hD : va_D A [((Wa 0), .inr (0, [.ref (Aa 0)])), ((Aa 0), .inr (9, [.int r_13, .int (Av 1), .int (Av 2), .int (Av 3), .int (Av 4), .int (Av 5), .ref (Aa 1), .ref (Aa 2), .ref (Aa 3), .ref (Aa 4), .ref (Aa 5), .ref (Aa 6), .ref (Aa 7), .ref (Aa 8)])), ((Aa 1), .inl (tc 0, 10, .inl (Af 1))), ((Aa 2), .inl (tc 0, 10, .inl (Af 2))), ((Aa 3), .inl (tc 0, 6, .inl (Af 3))), ((Aa 4), .inl (tc 0, 6, .inl (Af 4))), ((Aa 5), .inl (tc 0, 6, .inl (Af 5))), ((Aa 6), .inl (tc 0, 6, .inl (Af 6))), ((Aa 7), .inl (tc 0, 6, .inl (Af 7))), ((Aa 8), .inl (tc 0, 6, .inl (Af 8))), ((Ta 0), .inr (10, [.ref (Ta 1), .int (Tv 0), .int sv_7, .int sv_8, .int sv_9, .int sv_10])), ((Ta 1), .inl (tc 0, 400, .inl (Tf 1)))] := hD₀
  replace hS := hS₀
  clear hP₀ hD₀ hS₀
  refine lv_aload_n hx hb dX0_readBook_14 rfl (lv_at hl 0 rfl) ?_
  refine gf_X0_12 hx hb hts hown hK hP 0 rfl rfl dX0_readBook_15 ?_
  refine lv_aload_n hx hb dX0_readBook_18 rfl (lv_at hl 1 rfl) ?_
  refine lv_iconst (v := 0) hx hb dX0_readBook_19 (by decide) ?_
  refine lv_bipush (v := 9) hx hb dX0_readBook_20 (by decide) ?_
  have ha_18 : (0 : Int32).toInt = (0 : Int) := by
    have y_0 : (0 : Int32).toInt = 0 := by decide
    omega
  have ha_19 : (9 : Int32).toInt = (9 : Int) := by
    have y_9 : (9 : Int32).toInt = 9 := by decide
    omega
  refine cV (a := (Ta 0)) (As := [.int 0, .int 9]) (rest := [.ref (Aa 0)]) (wr := [((Wa 0), .inr (0, [.ref (Aa 0)])), ((Aa 0), .inr (9, [.int r_13, .int (Av 1), .int (Av 2), .int (Av 3), .int (Av 4), .int (Av 5), .ref (Aa 1), .ref (Aa 2), .ref (Aa 3), .ref (Aa 4), .ref (Aa 5), .ref (Aa 6), .ref (Aa 7), .ref (Aa 8)])), ((Aa 1), .inl (tc 0, 10, .inl (Af 1))), ((Aa 2), .inl (tc 0, 10, .inl (Af 2))), ((Aa 3), .inl (tc 0, 6, .inl (Af 3))), ((Aa 4), .inl (tc 0, 6, .inl (Af 4))), ((Aa 5), .inl (tc 0, 6, .inl (Af 5))), ((Aa 6), .inl (tc 0, 6, .inl (Af 6))), ((Aa 7), .inl (tc 0, 6, .inl (Af 7))), ((Aa 8), .inl (tc 0, 6, .inl (Af 8)))]) ⟨hx, hb, hml, hown, hts⟩ hK hX hA (cu_fX10_takeNumber l D tc sk (Ta 0) (Ta 1) (Tv 0) sv_7 sv_8 sv_9 sv_10 (Tf 1) 0 9 ro_16 0 9 pf_11 h_by pf_12 ha_18 ha_19) k_566 k_563 k_564 k_565 k_96 pl_X10_takeNumber ⟨Nat.le_of_ble_eq_true rfl, Nat.le_of_ble_eq_true rfl⟩ rfl rfl (va_recv hK hP (ci := 10) (q0 := 10) rfl rfl) hP hD hS [10, 11] [0, 1, 2, 3, 4, 5, 6, 7, 8, 9] rfl rfl rfl rfl rfl (by decide) rfl hl.1 rfl (Nat.le_of_ble_eq_true rfl) dX0_readBook_22 ⟨Nat.le_of_ble_eq_true rfl, Nat.le_of_ble_eq_true rfl⟩ (fun v_20 u_21 H locs hv_22 hP₀ hD₀ hS₀ => ?_)
  obtain ⟨sv_23, sv_24, sv_25, sv_26⟩ := u_21
  obtain ⟨r_29, rfl, he_30, pf_27, pf_28⟩ := hv_22
  have he_30 : NuV (cB (Tf 1) (Tv 0)) (0 : Int) (9 : Int) ro_16 r_29 := he_30
  have pf_27 : 0 ≤ ((Tv 0) : Int32).toInt ∧ ((Tv 0) : Int32).toInt ≤ 400 ∧ 0 ≤ (sv_23 : Int32).toInt ∧ (sv_23 : Int32).toInt ≤ 400 ∧ 0 ≤ (sv_24 : Int32).toInt ∧ (sv_24 : Int32).toInt ≤ 400 := pf_27
  have pf_28 : TpR (Tf 1) (Tv 0) (rNX (cB (Tf 1) (Tv 0)) (rNU (cB (Tf 1) (Tv 0)) (0 : Int) (9 : Int) ro_16)) sv_23 sv_24 sv_25 sv_26 := pf_28
  obtain ⟨ro_32, ero_32⟩ : ∃ z : Except Int (Nat × Nat), z = (rNX (cB (Tf 1) (Tv 0)) (rNU (cB (Tf 1) (Tv 0)) 0 9 ro_16)) := ⟨_, rfl⟩
  rw [← ero_32] at pf_28
  have tb_33 : TpB (rTE (cB (Tf 1) (Tv 0)) ro_32) sv_24 sv_26 := TpR.tb pf_28
  refine W.eq (g2 := F0 m 25 ls [.int r_29, .ref (Aa 0)]) rfl ?_
  replace hP : va_P D classes [((Wa 0), .inr (0, [.ref (Aa 0)])), ((Aa 0), .inr (9, [.int r_13, .int (Av 1), .int (Av 2), .int (Av 3), .int (Av 4), .int (Av 5), .ref (Aa 1), .ref (Aa 2), .ref (Aa 3), .ref (Aa 4), .ref (Aa 5), .ref (Aa 6), .ref (Aa 7), .ref (Aa 8)])), ((Aa 1), .inl (tc 0, 10, .inl (Af 1))), ((Aa 2), .inl (tc 0, 10, .inl (Af 2))), ((Aa 3), .inl (tc 0, 6, .inl (Af 3))), ((Aa 4), .inl (tc 0, 6, .inl (Af 4))), ((Aa 5), .inl (tc 0, 6, .inl (Af 5))), ((Aa 6), .inl (tc 0, 6, .inl (Af 6))), ((Aa 7), .inl (tc 0, 6, .inl (Af 7))), ((Aa 8), .inl (tc 0, 6, .inl (Af 8))), ((Ta 0), .inr (10, [.ref (Ta 1), .int (Tv 0), .int sv_23, .int sv_24, .int sv_25, .int sv_26])), ((Ta 1), .inl (tc 0, 400, .inl (Tf 1)))] H := hP₀
  replace hD : va_D A [((Wa 0), .inr (0, [.ref (Aa 0)])), ((Aa 0), .inr (9, [.int r_13, .int (Av 1), .int (Av 2), .int (Av 3), .int (Av 4), .int (Av 5), .ref (Aa 1), .ref (Aa 2), .ref (Aa 3), .ref (Aa 4), .ref (Aa 5), .ref (Aa 6), .ref (Aa 7), .ref (Aa 8)])), ((Aa 1), .inl (tc 0, 10, .inl (Af 1))), ((Aa 2), .inl (tc 0, 10, .inl (Af 2))), ((Aa 3), .inl (tc 0, 6, .inl (Af 3))), ((Aa 4), .inl (tc 0, 6, .inl (Af 4))), ((Aa 5), .inl (tc 0, 6, .inl (Af 5))), ((Aa 6), .inl (tc 0, 6, .inl (Af 6))), ((Aa 7), .inl (tc 0, 6, .inl (Af 7))), ((Aa 8), .inl (tc 0, 6, .inl (Af 8))), ((Ta 0), .inr (10, [.ref (Ta 1), .int (Tv 0), .int sv_23, .int sv_24, .int sv_25, .int sv_26])), ((Ta 1), .inl (tc 0, 400, .inl (Tf 1)))] := hD₀
  replace hS := hS₀
  clear hP₀ hD₀ hS₀
  refine pf_X0_77 hx hb hts hown hK hP hD hS 1 rfl (Nat.le_of_ble_eq_true rfl) rfl rfl dX0_readBook_25 (fun H locs hP₀ hD₀ hS₀ => ?_)
  replace hP : va_P D classes [((Wa 0), .inr (0, [.ref (Aa 0)])), ((Aa 0), .inr (9, [.int r_13, .int r_29, .int (Av 2), .int (Av 3), .int (Av 4), .int (Av 5), .ref (Aa 1), .ref (Aa 2), .ref (Aa 3), .ref (Aa 4), .ref (Aa 5), .ref (Aa 6), .ref (Aa 7), .ref (Aa 8)])), ((Aa 1), .inl (tc 0, 10, .inl (Af 1))), ((Aa 2), .inl (tc 0, 10, .inl (Af 2))), ((Aa 3), .inl (tc 0, 6, .inl (Af 3))), ((Aa 4), .inl (tc 0, 6, .inl (Af 4))), ((Aa 5), .inl (tc 0, 6, .inl (Af 5))), ((Aa 6), .inl (tc 0, 6, .inl (Af 6))), ((Aa 7), .inl (tc 0, 6, .inl (Af 7))), ((Aa 8), .inl (tc 0, 6, .inl (Af 8))), ((Ta 0), .inr (10, [.ref (Ta 1), .int (Tv 0), .int sv_23, .int sv_24, .int sv_25, .int sv_26])), ((Ta 1), .inl (tc 0, 400, .inl (Tf 1)))] H := hP₀
  replace hD : va_D A [((Wa 0), .inr (0, [.ref (Aa 0)])), ((Aa 0), .inr (9, [.int r_13, .int r_29, .int (Av 2), .int (Av 3), .int (Av 4), .int (Av 5), .ref (Aa 1), .ref (Aa 2), .ref (Aa 3), .ref (Aa 4), .ref (Aa 5), .ref (Aa 6), .ref (Aa 7), .ref (Aa 8)])), ((Aa 1), .inl (tc 0, 10, .inl (Af 1))), ((Aa 2), .inl (tc 0, 10, .inl (Af 2))), ((Aa 3), .inl (tc 0, 6, .inl (Af 3))), ((Aa 4), .inl (tc 0, 6, .inl (Af 4))), ((Aa 5), .inl (tc 0, 6, .inl (Af 5))), ((Aa 6), .inl (tc 0, 6, .inl (Af 6))), ((Aa 7), .inl (tc 0, 6, .inl (Af 7))), ((Aa 8), .inl (tc 0, 6, .inl (Af 8))), ((Ta 0), .inr (10, [.ref (Ta 1), .int (Tv 0), .int sv_23, .int sv_24, .int sv_25, .int sv_26])), ((Ta 1), .inl (tc 0, 400, .inl (Tf 1)))] := hD₀
  replace hS := hS₀
  clear hP₀ hD₀ hS₀
  refine lv_aload_n hx hb dX0_readBook_28 rfl (lv_at hl 0 rfl) ?_
  refine gf_X0_12 hx hb hts hown hK hP 0 rfl rfl dX0_readBook_29 ?_
  refine lv_aload_n hx hb dX0_readBook_32 rfl (lv_at hl 1 rfl) ?_
  refine lv_iconst (v := 1) hx hb dX0_readBook_33 (by decide) ?_
  refine lv_bipush (v := 10) hx hb dX0_readBook_34 (by decide) ?_
  have ha_34 : (1 : Int32).toInt = (1 : Int) := by
    have y_1 : (1 : Int32).toInt = 1 := by decide
    omega
  have ha_35 : (10 : Int32).toInt = (10 : Int) := by
    have y_10 : (10 : Int32).toInt = 10 := by decide
    omega
  refine cV (a := (Ta 0)) (As := [.int 1, .int 10]) (rest := [.ref (Aa 0)]) (wr := [((Wa 0), .inr (0, [.ref (Aa 0)])), ((Aa 0), .inr (9, [.int r_13, .int r_29, .int (Av 2), .int (Av 3), .int (Av 4), .int (Av 5), .ref (Aa 1), .ref (Aa 2), .ref (Aa 3), .ref (Aa 4), .ref (Aa 5), .ref (Aa 6), .ref (Aa 7), .ref (Aa 8)])), ((Aa 1), .inl (tc 0, 10, .inl (Af 1))), ((Aa 2), .inl (tc 0, 10, .inl (Af 2))), ((Aa 3), .inl (tc 0, 6, .inl (Af 3))), ((Aa 4), .inl (tc 0, 6, .inl (Af 4))), ((Aa 5), .inl (tc 0, 6, .inl (Af 5))), ((Aa 6), .inl (tc 0, 6, .inl (Af 6))), ((Aa 7), .inl (tc 0, 6, .inl (Af 7))), ((Aa 8), .inl (tc 0, 6, .inl (Af 8)))]) ⟨hx, hb, hml, hown, hts⟩ hK hX hA (cu_fX10_takeNumber l D tc sk (Ta 0) (Ta 1) (Tv 0) sv_23 sv_24 sv_25 sv_26 (Tf 1) 1 10 ro_32 1 10 pf_27 h_by pf_28 ha_34 ha_35) k_566 k_563 k_564 k_565 k_96 pl_X10_takeNumber ⟨Nat.le_of_ble_eq_true rfl, Nat.le_of_ble_eq_true rfl⟩ rfl rfl (va_recv hK hP (ci := 10) (q0 := 10) rfl rfl) hP hD hS [10, 11] [0, 1, 2, 3, 4, 5, 6, 7, 8, 9] rfl rfl rfl rfl rfl (by decide) rfl hl.1 rfl (Nat.le_of_ble_eq_true rfl) dX0_readBook_36 ⟨Nat.le_of_ble_eq_true rfl, Nat.le_of_ble_eq_true rfl⟩ (fun v_36 u_37 H locs hv_38 hP₀ hD₀ hS₀ => ?_)
  obtain ⟨sv_39, sv_40, sv_41, sv_42⟩ := u_37
  obtain ⟨r_45, rfl, he_46, pf_43, pf_44⟩ := hv_38
  have he_46 : NuV (cB (Tf 1) (Tv 0)) (1 : Int) (10 : Int) ro_32 r_45 := he_46
  have pf_43 : 0 ≤ ((Tv 0) : Int32).toInt ∧ ((Tv 0) : Int32).toInt ≤ 400 ∧ 0 ≤ (sv_39 : Int32).toInt ∧ (sv_39 : Int32).toInt ≤ 400 ∧ 0 ≤ (sv_40 : Int32).toInt ∧ (sv_40 : Int32).toInt ≤ 400 := pf_43
  have pf_44 : TpR (Tf 1) (Tv 0) (rNX (cB (Tf 1) (Tv 0)) (rNU (cB (Tf 1) (Tv 0)) (1 : Int) (10 : Int) ro_32)) sv_39 sv_40 sv_41 sv_42 := pf_44
  obtain ⟨ro_48, ero_48⟩ : ∃ z : Except Int (Nat × Nat), z = (rNX (cB (Tf 1) (Tv 0)) (rNU (cB (Tf 1) (Tv 0)) 1 10 ro_32)) := ⟨_, rfl⟩
  rw [← ero_48] at pf_44
  have tb_49 : TpB (rTE (cB (Tf 1) (Tv 0)) ro_48) sv_40 sv_42 := TpR.tb pf_44
  refine W.eq (g2 := F0 m 39 ls [.int r_45, .ref (Aa 0)]) rfl ?_
  replace hP : va_P D classes [((Wa 0), .inr (0, [.ref (Aa 0)])), ((Aa 0), .inr (9, [.int r_13, .int r_29, .int (Av 2), .int (Av 3), .int (Av 4), .int (Av 5), .ref (Aa 1), .ref (Aa 2), .ref (Aa 3), .ref (Aa 4), .ref (Aa 5), .ref (Aa 6), .ref (Aa 7), .ref (Aa 8)])), ((Aa 1), .inl (tc 0, 10, .inl (Af 1))), ((Aa 2), .inl (tc 0, 10, .inl (Af 2))), ((Aa 3), .inl (tc 0, 6, .inl (Af 3))), ((Aa 4), .inl (tc 0, 6, .inl (Af 4))), ((Aa 5), .inl (tc 0, 6, .inl (Af 5))), ((Aa 6), .inl (tc 0, 6, .inl (Af 6))), ((Aa 7), .inl (tc 0, 6, .inl (Af 7))), ((Aa 8), .inl (tc 0, 6, .inl (Af 8))), ((Ta 0), .inr (10, [.ref (Ta 1), .int (Tv 0), .int sv_39, .int sv_40, .int sv_41, .int sv_42])), ((Ta 1), .inl (tc 0, 400, .inl (Tf 1)))] H := hP₀
  replace hD : va_D A [((Wa 0), .inr (0, [.ref (Aa 0)])), ((Aa 0), .inr (9, [.int r_13, .int r_29, .int (Av 2), .int (Av 3), .int (Av 4), .int (Av 5), .ref (Aa 1), .ref (Aa 2), .ref (Aa 3), .ref (Aa 4), .ref (Aa 5), .ref (Aa 6), .ref (Aa 7), .ref (Aa 8)])), ((Aa 1), .inl (tc 0, 10, .inl (Af 1))), ((Aa 2), .inl (tc 0, 10, .inl (Af 2))), ((Aa 3), .inl (tc 0, 6, .inl (Af 3))), ((Aa 4), .inl (tc 0, 6, .inl (Af 4))), ((Aa 5), .inl (tc 0, 6, .inl (Af 5))), ((Aa 6), .inl (tc 0, 6, .inl (Af 6))), ((Aa 7), .inl (tc 0, 6, .inl (Af 7))), ((Aa 8), .inl (tc 0, 6, .inl (Af 8))), ((Ta 0), .inr (10, [.ref (Ta 1), .int (Tv 0), .int sv_39, .int sv_40, .int sv_41, .int sv_42])), ((Ta 1), .inl (tc 0, 400, .inl (Tf 1)))] := hD₀
  replace hS := hS₀
  clear hP₀ hD₀ hS₀
  refine pf_X0_80 hx hb hts hown hK hP hD hS 1 rfl (Nat.le_of_ble_eq_true rfl) rfl rfl dX0_readBook_39 (fun H locs hP₀ hD₀ hS₀ => ?_)
  replace hP : va_P D classes [((Wa 0), .inr (0, [.ref (Aa 0)])), ((Aa 0), .inr (9, [.int r_13, .int r_29, .int r_45, .int (Av 3), .int (Av 4), .int (Av 5), .ref (Aa 1), .ref (Aa 2), .ref (Aa 3), .ref (Aa 4), .ref (Aa 5), .ref (Aa 6), .ref (Aa 7), .ref (Aa 8)])), ((Aa 1), .inl (tc 0, 10, .inl (Af 1))), ((Aa 2), .inl (tc 0, 10, .inl (Af 2))), ((Aa 3), .inl (tc 0, 6, .inl (Af 3))), ((Aa 4), .inl (tc 0, 6, .inl (Af 4))), ((Aa 5), .inl (tc 0, 6, .inl (Af 5))), ((Aa 6), .inl (tc 0, 6, .inl (Af 6))), ((Aa 7), .inl (tc 0, 6, .inl (Af 7))), ((Aa 8), .inl (tc 0, 6, .inl (Af 8))), ((Ta 0), .inr (10, [.ref (Ta 1), .int (Tv 0), .int sv_39, .int sv_40, .int sv_41, .int sv_42])), ((Ta 1), .inl (tc 0, 400, .inl (Tf 1)))] H := hP₀
  replace hD : va_D A [((Wa 0), .inr (0, [.ref (Aa 0)])), ((Aa 0), .inr (9, [.int r_13, .int r_29, .int r_45, .int (Av 3), .int (Av 4), .int (Av 5), .ref (Aa 1), .ref (Aa 2), .ref (Aa 3), .ref (Aa 4), .ref (Aa 5), .ref (Aa 6), .ref (Aa 7), .ref (Aa 8)])), ((Aa 1), .inl (tc 0, 10, .inl (Af 1))), ((Aa 2), .inl (tc 0, 10, .inl (Af 2))), ((Aa 3), .inl (tc 0, 6, .inl (Af 3))), ((Aa 4), .inl (tc 0, 6, .inl (Af 4))), ((Aa 5), .inl (tc 0, 6, .inl (Af 5))), ((Aa 6), .inl (tc 0, 6, .inl (Af 6))), ((Aa 7), .inl (tc 0, 6, .inl (Af 7))), ((Aa 8), .inl (tc 0, 6, .inl (Af 8))), ((Ta 0), .inr (10, [.ref (Ta 1), .int (Tv 0), .int sv_39, .int sv_40, .int sv_41, .int sv_42])), ((Ta 1), .inl (tc 0, 400, .inl (Tf 1)))] := hD₀
  replace hS := hS₀
  clear hP₀ hD₀ hS₀
  have hu_50 : TpR (Tf 1) (Tv 0) (rNX (cB (Tf 1) (Tv 0)) (rNU (cB (Tf 1) (Tv 0)) 1 10 (rNX (cB (Tf 1) (Tv 0)) (rNU (cB (Tf 1) (Tv 0)) 0 9 (rNX (cB (Tf 1) (Tv 0)) (rNU (cB (Tf 1) (Tv 0)) 0 99 rr)))))) sv_39 sv_40 sv_41 sv_42 := by
    rw [← ero_16, ← ero_32, ← ero_48]
    exact pf_44
  have hf_51 : TpR (Tf 1) (Tv 0) (rN1 (cB (Tf 1) (Tv 0)) 1 10 (rN1 (cB (Tf 1) (Tv 0)) 0 9 (rN1 (cB (Tf 1) (Tv 0)) 0 99 rr))) sv_39 sv_40 sv_41 sv_42 := hu_50
  have hv_52 : NuV (cB (Tf 1) (Tv 0)) 1 10 (rN1 (cB (Tf 1) (Tv 0)) 0 9 (rN1 (cB (Tf 1) (Tv 0)) 0 99 rr)) r_45 := by
    have hq := he_46
    rw [ero_32, ero_16] at hq
    exact hq
  exact retV hx hb hr hlk hP hD hS (r_13, r_29, r_45, sv_39, sv_40, sv_41, sv_42) ⟨rfl, pf_43, h_bu, hf_51, hv_52⟩ [0, 1, 2, 3, 4, 5, 6, 7, 8, 9, 10, 11] rfl rfl dX0_readBook_42 (Nat.le_of_ble_eq_true rfl) (Nat.le_of_ble_eq_true rfl) rfl
set_option maxRecDepth 100000 in
theorem cu_fX0_readBook (l : Launch) (D : va_G) (tc : Nat → ClassId) (sk : (Nat → Nat) × (Nat → Nat)) (Wa_0 : Nat) (Aa_0 : Nat) (Aa_1 : Nat) (Aa_2 : Nat) (Aa_3 : Nat) (Aa_4 : Nat) (Aa_5 : Nat) (Aa_6 : Nat) (Aa_7 : Nat) (Aa_8 : Nat) (Av_0 : Int32) (Av_1 : Int32) (Av_2 : Int32) (Av_3 : Int32) (Av_4 : Int32) (Av_5 : Int32) (Af_1 : Nat → Int32) (Af_2 : Nat → Int32) (Af_3 : Nat → Int32) (Af_4 : Nat → Int32) (Af_5 : Nat → Int32) (Af_6 : Nat → Int32) (Af_7 : Nat → Int32) (Af_8 : Nat → Int32) (Ta_0 : Nat) (Ta_1 : Nat) (Tv_0 : Int32) (Tv_1 : Int32) (Tv_2 : Int32) (Tv_3 : Int32) (Tv_4 : Int32) (Tf_1 : Nat → Int32) (rr : Except Int (Nat × Nat)) (h_tape : 0 ≤ (Tv_0 : Int32).toInt ∧ (Tv_0 : Int32).toInt ≤ 400 ∧ 0 ≤ (Tv_1 : Int32).toInt ∧ (Tv_1 : Int32).toInt ≤ 400 ∧ 0 ≤ (Tv_2 : Int32).toInt ∧ (Tv_2 : Int32).toInt ≤ 400) (h_by : Byt Tf_1) (h_r : TpR Tf_1 Tv_0 rr Tv_1 Tv_2 Tv_3 Tv_4) (h_bu : 0 ≤ (Av_3 : Int32).toInt ∧ (Av_3 : Int32).toInt ≤ 6) : Ct l yX0_readBook cX0_readBook 2 none { frames := 3, cells := 0, slots := 0, locals := 68 } D tc sk [.ref Wa_0, .ref Ta_0] [(Wa_0, .inr (0, [.ref Aa_0])), (Aa_0, .inr (9, [.int Av_0, .int Av_1, .int Av_2, .int Av_3, .int Av_4, .int Av_5, .ref Aa_1, .ref Aa_2, .ref Aa_3, .ref Aa_4, .ref Aa_5, .ref Aa_6, .ref Aa_7, .ref Aa_8])), (Aa_1, .inl (tc 0, 10, .inl Af_1)), (Aa_2, .inl (tc 0, 10, .inl Af_2)), (Aa_3, .inl (tc 0, 6, .inl Af_3)), (Aa_4, .inl (tc 0, 6, .inl Af_4)), (Aa_5, .inl (tc 0, 6, .inl Af_5)), (Aa_6, .inl (tc 0, 6, .inl Af_6)), (Aa_7, .inl (tc 0, 6, .inl Af_7)), (Aa_8, .inl (tc 0, 6, .inl Af_8)), (Ta_0, .inr (10, [.ref Ta_1, .int Tv_0, .int Tv_1, .int Tv_2, .int Tv_3, .int Tv_4])), (Ta_1, .inl (tc 0, 400, .inl Tf_1))] (fun (v : Option Value) (u : (Int32) × (Int32) × (Int32) × (Int32) × (Int32) × (Int32) × (Int32)) => match u with | (oo0x1, oo0x2, oo0x3, oo0x4, oo0x5, oo0x6, oo0x7) => v = none ∧ (0 ≤ (Tv_0 : Int32).toInt ∧ (Tv_0 : Int32).toInt ≤ 400 ∧ 0 ≤ (oo0x4 : Int32).toInt ∧ (oo0x4 : Int32).toInt ≤ 400 ∧ 0 ≤ (oo0x5 : Int32).toInt ∧ (oo0x5 : Int32).toInt ≤ 400) ∧ (0 ≤ (Av_3 : Int32).toInt ∧ (Av_3 : Int32).toInt ≤ 6) ∧ (TpR Tf_1 Tv_0 (rN1 (cB Tf_1 Tv_0) 1 10 (rN1 (cB Tf_1 Tv_0) 0 9 (rN1 (cB Tf_1 Tv_0) 0 99 rr))) oo0x4 oo0x5 oo0x6 oo0x7) ∧ (NuV (cB Tf_1 Tv_0) 1 10 (rN1 (cB Tf_1 Tv_0) 0 9 (rN1 (cB Tf_1 Tv_0) 0 99 rr)) oo0x3)) (fun (u : (Int32) × (Int32) × (Int32) × (Int32) × (Int32) × (Int32) × (Int32)) => match u with | (oo0x1, oo0x2, oo0x3, oo0x4, oo0x5, oo0x6, oo0x7) => [(Wa_0, .inr (0, [.ref Aa_0])), (Aa_0, .inr (9, [.int oo0x1, .int oo0x2, .int oo0x3, .int Av_3, .int Av_4, .int Av_5, .ref Aa_1, .ref Aa_2, .ref Aa_3, .ref Aa_4, .ref Aa_5, .ref Aa_6, .ref Aa_7, .ref Aa_8])), (Aa_1, .inl (tc 0, 10, .inl Af_1)), (Aa_2, .inl (tc 0, 10, .inl Af_2)), (Aa_3, .inl (tc 0, 6, .inl Af_3)), (Aa_4, .inl (tc 0, 6, .inl Af_4)), (Aa_5, .inl (tc 0, 6, .inl Af_5)), (Aa_6, .inl (tc 0, 6, .inl Af_6)), (Aa_7, .inl (tc 0, 6, .inl Af_7)), (Aa_8, .inl (tc 0, 6, .inl Af_8)), (Ta_0, .inr (10, [.ref Ta_1, .int Tv_0, .int oo0x4, .int oo0x5, .int oo0x6, .int oo0x7])), (Ta_1, .inl (tc 0, 400, .inl Tf_1))]) 0 0 :=
  ct_fX0_readBook l D tc sk (fun k => ([Wa_0] : List (Nat)).getD k 0) (fun k => ([Aa_0, Aa_1, Aa_2, Aa_3, Aa_4, Aa_5, Aa_6, Aa_7, Aa_8] : List (Nat)).getD k 0) (fun k => ([Av_0, Av_1, Av_2, Av_3, Av_4, Av_5] : List (Int32)).getD k 0) (fun k => ([(fun _ => 0), Af_1, Af_2, Af_3, Af_4, Af_5, Af_6, Af_7, Af_8] : List (Nat → Int32)).getD k (fun _ => 0)) (fun k => ([Ta_0, Ta_1] : List (Nat)).getD k 0) (fun k => ([Tv_0, Tv_1, Tv_2, Tv_3, Tv_4] : List (Int32)).getD k 0) (fun k => ([(fun _ => 0), Tf_1] : List (Nat → Int32)).getD k (fun _ => 0)) rr h_tape h_by h_r h_bu
set_option maxHeartbeats 4000000 in
set_option maxRecDepth 100000 in
theorem ct_fX0_readSky (l : Launch) (D : va_G) (tc : Nat → ClassId) (sk : (Nat → Nat) × (Nat → Nat)) (Wa : Nat → Nat) (Aa : Nat → Nat) (Av : Nat → Int32) (Af : Nat → Nat → Int32) (Ta : Nat → Nat) (Tv : Nat → Int32) (Tf : Nat → Nat → Int32) (rr : Except Int (Nat × Nat)) (h_tape : 0 ≤ ((Tv 0) : Int32).toInt ∧ ((Tv 0) : Int32).toInt ≤ 400 ∧ 0 ≤ ((Tv 1) : Int32).toInt ∧ ((Tv 1) : Int32).toInt ≤ 400 ∧ 0 ≤ ((Tv 2) : Int32).toInt ∧ ((Tv 2) : Int32).toInt ≤ 400) (h_by : Byt (Tf 1)) (h_r : TpR (Tf 1) (Tv 0) rr (Tv 1) (Tv 2) (Tv 3) (Tv 4)) (h_bu : 0 ≤ ((Av 3) : Int32).toInt ∧ ((Av 3) : Int32).toInt ≤ 6) : Ct l yX0_readSky cX0_readSky 4 none { frames := 3, cells := 0, slots := 0, locals := 68 } D tc sk [.ref (Wa 0), .ref (Ta 0)] [((Wa 0), .inr (0, [.ref (Aa 0)])), ((Aa 0), .inr (9, [.int (Av 0), .int (Av 1), .int (Av 2), .int (Av 3), .int (Av 4), .int (Av 5), .ref (Aa 1), .ref (Aa 2), .ref (Aa 3), .ref (Aa 4), .ref (Aa 5), .ref (Aa 6), .ref (Aa 7), .ref (Aa 8)])), ((Aa 1), .inl (tc 0, 10, .inl (Af 1))), ((Aa 2), .inl (tc 0, 10, .inl (Af 2))), ((Aa 3), .inl (tc 0, 6, .inl (Af 3))), ((Aa 4), .inl (tc 0, 6, .inl (Af 4))), ((Aa 5), .inl (tc 0, 6, .inl (Af 5))), ((Aa 6), .inl (tc 0, 6, .inl (Af 6))), ((Aa 7), .inl (tc 0, 6, .inl (Af 7))), ((Aa 8), .inl (tc 0, 6, .inl (Af 8))), ((Ta 0), .inr (10, [.ref (Ta 1), .int (Tv 0), .int (Tv 1), .int (Tv 2), .int (Tv 3), .int (Tv 4)])), ((Ta 1), .inl (tc 0, 400, .inl (Tf 1)))] (fun (v : Option Value) (u : (Nat → Int32) × (Int32) × (Int32) × (Int32) × (Int32)) => match u with | (oo0x1, oo0x2, oo0x3, oo0x4, oo0x5) => v = none ∧ (0 ≤ ((Tv 0) : Int32).toInt ∧ ((Tv 0) : Int32).toInt ≤ 400 ∧ 0 ≤ (oo0x2 : Int32).toInt ∧ (oo0x2 : Int32).toInt ≤ 400 ∧ 0 ≤ (oo0x3 : Int32).toInt ∧ (oo0x3 : Int32).toInt ≤ 400) ∧ (0 ≤ ((Av 3) : Int32).toInt ∧ ((Av 3) : Int32).toInt ≤ 6) ∧ (TpR (Tf 1) (Tv 0) (rN1 (cB (Tf 1) (Tv 0)) 0 9 (rN1 (cB (Tf 1) (Tv 0)) 0 ((Av 2) - 1 : Int32).toInt rr)) oo0x2 oo0x3 oo0x4 oo0x5)) (fun (u : (Nat → Int32) × (Int32) × (Int32) × (Int32) × (Int32)) => match u with | (oo0x1, oo0x2, oo0x3, oo0x4, oo0x5) => [((Wa 0), .inr (0, [.ref (Aa 0)])), ((Aa 0), .inr (9, [.int (Av 0), .int (Av 1), .int (Av 2), .int (Av 3), .int (Av 4), .int (Av 5), .ref (Aa 1), .ref (Aa 2), .ref (Aa 3), .ref (Aa 4), .ref (Aa 5), .ref (Aa 6), .ref (Aa 7), .ref (Aa 8)])), ((Aa 1), .inl (tc 0, 10, .inl oo0x1)), ((Aa 2), .inl (tc 0, 10, .inl (Af 2))), ((Aa 3), .inl (tc 0, 6, .inl (Af 3))), ((Aa 4), .inl (tc 0, 6, .inl (Af 4))), ((Aa 5), .inl (tc 0, 6, .inl (Af 5))), ((Aa 6), .inl (tc 0, 6, .inl (Af 6))), ((Aa 7), .inl (tc 0, 6, .inl (Af 7))), ((Aa 8), .inl (tc 0, 6, .inl (Af 8))), ((Ta 0), .inr (10, [.ref (Ta 1), .int (Tv 0), .int oo0x2, .int oo0x3, .int oo0x4, .int oo0x5])), ((Ta 1), .inl (tc 0, 400, .inl (Tf 1)))]) 0 0 := by
  refine Ct.start (by decide) (Nat.le_of_ble_eq_true rfl) (fun p e s m below meth c A ls hx hb hr hlk hin hml hown hts hK hX hP hD hA hl hS => ?_)
  have hl : lv_has ls 4 [(0, .ref (Wa 0)), (1, .ref (Ta 0))] := hl
  have tb_1 : TpB (rTE (cB (Tf 1) (Tv 0)) rr) (Tv 2) (Tv 4) := TpR.tb h_r
  refine lv_aload_n hx hb dX0_readSky_0 rfl (lv_at hl 1 rfl) ?_
  refine lv_iconst (v := 0) hx hb dX0_readSky_1 (by decide) ?_
  refine lv_aload_n hx hb dX0_readSky_2 rfl (lv_at hl 0 rfl) ?_
  refine gf_X0_12 hx hb hts hown hK hP 0 rfl rfl dX0_readSky_3 ?_
  refine gf_X0_80 hx hb hts hown hK hP 1 rfl rfl dX0_readSky_6 ?_
  refine lv_iconst (v := 1) hx hb dX0_readSky_9 (by decide) ?_
  refine lv_isub hx hb dX0_readSky_10 ?_
  refine lv_topi (fun x_2 ex_2 => ?_)
  have ha_3 : (0 : Int32).toInt = (0 : Int) := by
    have y_0 : (0 : Int32).toInt = 0 := by decide
    omega
  refine cV (a := (Ta 0)) (As := [.int 0, .int x_2]) (rest := []) (wr := [((Wa 0), .inr (0, [.ref (Aa 0)])), ((Aa 0), .inr (9, [.int (Av 0), .int (Av 1), .int (Av 2), .int (Av 3), .int (Av 4), .int (Av 5), .ref (Aa 1), .ref (Aa 2), .ref (Aa 3), .ref (Aa 4), .ref (Aa 5), .ref (Aa 6), .ref (Aa 7), .ref (Aa 8)])), ((Aa 1), .inl (tc 0, 10, .inl (Af 1))), ((Aa 2), .inl (tc 0, 10, .inl (Af 2))), ((Aa 3), .inl (tc 0, 6, .inl (Af 3))), ((Aa 4), .inl (tc 0, 6, .inl (Af 4))), ((Aa 5), .inl (tc 0, 6, .inl (Af 5))), ((Aa 6), .inl (tc 0, 6, .inl (Af 6))), ((Aa 7), .inl (tc 0, 6, .inl (Af 7))), ((Aa 8), .inl (tc 0, 6, .inl (Af 8)))]) ⟨hx, hb, hml, hown, hts⟩ hK hX hA (cu_fX10_takeNumber l D tc sk (Ta 0) (Ta 1) (Tv 0) (Tv 1) (Tv 2) (Tv 3) (Tv 4) (Tf 1) 0 x_2 rr 0 (((Av 2) - 1 : Int32).toInt) h_tape h_by h_r ha_3 (congrArg Int32.toInt ex_2)) k_566 k_563 k_564 k_565 k_96 pl_X10_takeNumber ⟨Nat.le_of_ble_eq_true rfl, Nat.le_of_ble_eq_true rfl⟩ rfl rfl (va_recv hK hP (ci := 10) (q0 := 10) rfl rfl) hP hD hS [10, 11] [0, 1, 2, 3, 4, 5, 6, 7, 8, 9] rfl rfl rfl rfl rfl (by decide) rfl hl.1 rfl (Nat.le_of_ble_eq_true rfl) dX0_readSky_11 ⟨Nat.le_of_ble_eq_true rfl, Nat.le_of_ble_eq_true rfl⟩ (fun v_4 u_5 H locs hv_6 hP₀ hD₀ hS₀ => ?_)
  obtain ⟨sv_7, sv_8, sv_9, sv_10⟩ := u_5
  obtain ⟨r_13, rfl, he_14, pf_11, pf_12⟩ := hv_6
  have he_14 : NuV (cB (Tf 1) (Tv 0)) (0 : Int) ((Av 2) - 1 : Int32).toInt rr r_13 := he_14
  have pf_11 : 0 ≤ ((Tv 0) : Int32).toInt ∧ ((Tv 0) : Int32).toInt ≤ 400 ∧ 0 ≤ (sv_7 : Int32).toInt ∧ (sv_7 : Int32).toInt ≤ 400 ∧ 0 ≤ (sv_8 : Int32).toInt ∧ (sv_8 : Int32).toInt ≤ 400 := pf_11
  have pf_12 : TpR (Tf 1) (Tv 0) (rNX (cB (Tf 1) (Tv 0)) (rNU (cB (Tf 1) (Tv 0)) (0 : Int) ((Av 2) - 1 : Int32).toInt rr)) sv_7 sv_8 sv_9 sv_10 := pf_12
  obtain ⟨ro_16, ero_16⟩ : ∃ z : Except Int (Nat × Nat), z = (rNX (cB (Tf 1) (Tv 0)) (rNU (cB (Tf 1) (Tv 0)) 0 ((Av 2) - 1 : Int32).toInt rr)) := ⟨_, rfl⟩
  rw [← ero_16] at pf_12
  have tb_17 : TpB (rTE (cB (Tf 1) (Tv 0)) ro_16) sv_8 sv_10 := TpR.tb pf_12
  refine W.eq (g2 := F0 m 14 ls [.int r_13]) rfl ?_
  replace hP : va_P D classes [((Wa 0), .inr (0, [.ref (Aa 0)])), ((Aa 0), .inr (9, [.int (Av 0), .int (Av 1), .int (Av 2), .int (Av 3), .int (Av 4), .int (Av 5), .ref (Aa 1), .ref (Aa 2), .ref (Aa 3), .ref (Aa 4), .ref (Aa 5), .ref (Aa 6), .ref (Aa 7), .ref (Aa 8)])), ((Aa 1), .inl (tc 0, 10, .inl (Af 1))), ((Aa 2), .inl (tc 0, 10, .inl (Af 2))), ((Aa 3), .inl (tc 0, 6, .inl (Af 3))), ((Aa 4), .inl (tc 0, 6, .inl (Af 4))), ((Aa 5), .inl (tc 0, 6, .inl (Af 5))), ((Aa 6), .inl (tc 0, 6, .inl (Af 6))), ((Aa 7), .inl (tc 0, 6, .inl (Af 7))), ((Aa 8), .inl (tc 0, 6, .inl (Af 8))), ((Ta 0), .inr (10, [.ref (Ta 1), .int (Tv 0), .int sv_7, .int sv_8, .int sv_9, .int sv_10])), ((Ta 1), .inl (tc 0, 400, .inl (Tf 1)))] H := hP₀
  replace hD : va_D A [((Wa 0), .inr (0, [.ref (Aa 0)])), ((Aa 0), .inr (9, [.int (Av 0), .int (Av 1), .int (Av 2), .int (Av 3), .int (Av 4), .int (Av 5), .ref (Aa 1), .ref (Aa 2), .ref (Aa 3), .ref (Aa 4), .ref (Aa 5), .ref (Aa 6), .ref (Aa 7), .ref (Aa 8)])), ((Aa 1), .inl (tc 0, 10, .inl (Af 1))), ((Aa 2), .inl (tc 0, 10, .inl (Af 2))), ((Aa 3), .inl (tc 0, 6, .inl (Af 3))), ((Aa 4), .inl (tc 0, 6, .inl (Af 4))), ((Aa 5), .inl (tc 0, 6, .inl (Af 5))), ((Aa 6), .inl (tc 0, 6, .inl (Af 6))), ((Aa 7), .inl (tc 0, 6, .inl (Af 7))), ((Aa 8), .inl (tc 0, 6, .inl (Af 8))), ((Ta 0), .inr (10, [.ref (Ta 1), .int (Tv 0), .int sv_7, .int sv_8, .int sv_9, .int sv_10])), ((Ta 1), .inl (tc 0, 400, .inl (Tf 1)))] := hD₀
  replace hS := hS₀
  clear hP₀ hD₀ hS₀
  refine lv_istore_n (lv' := [(2, .int r_13), (0, .ref (Wa 0)), (1, .ref (Ta 0))]) hx hb dX0_readSky_14 rfl hl (by decide) rfl (fun ls hl₀ => ?_)
  replace hl := hl₀
  clear hl₀
  refine lv_aload_n hx hb dX0_readSky_15 rfl (lv_at hl 2 rfl) ?_
  refine lv_iconst (v := 0) hx hb dX0_readSky_16 (by decide) ?_
  refine lv_bipush (v := 9) hx hb dX0_readSky_17 (by decide) ?_
  have ha_18 : (0 : Int32).toInt = (0 : Int) := by
    have y_0 : (0 : Int32).toInt = 0 := by decide
    omega
  have ha_19 : (9 : Int32).toInt = (9 : Int) := by
    have y_9 : (9 : Int32).toInt = 9 := by decide
    omega
  refine cV (a := (Ta 0)) (As := [.int 0, .int 9]) (rest := []) (wr := [((Wa 0), .inr (0, [.ref (Aa 0)])), ((Aa 0), .inr (9, [.int (Av 0), .int (Av 1), .int (Av 2), .int (Av 3), .int (Av 4), .int (Av 5), .ref (Aa 1), .ref (Aa 2), .ref (Aa 3), .ref (Aa 4), .ref (Aa 5), .ref (Aa 6), .ref (Aa 7), .ref (Aa 8)])), ((Aa 1), .inl (tc 0, 10, .inl (Af 1))), ((Aa 2), .inl (tc 0, 10, .inl (Af 2))), ((Aa 3), .inl (tc 0, 6, .inl (Af 3))), ((Aa 4), .inl (tc 0, 6, .inl (Af 4))), ((Aa 5), .inl (tc 0, 6, .inl (Af 5))), ((Aa 6), .inl (tc 0, 6, .inl (Af 6))), ((Aa 7), .inl (tc 0, 6, .inl (Af 7))), ((Aa 8), .inl (tc 0, 6, .inl (Af 8)))]) ⟨hx, hb, hml, hown, hts⟩ hK hX hA (cu_fX10_takeNumber l D tc sk (Ta 0) (Ta 1) (Tv 0) sv_7 sv_8 sv_9 sv_10 (Tf 1) 0 9 ro_16 0 9 pf_11 h_by pf_12 ha_18 ha_19) k_566 k_563 k_564 k_565 k_96 pl_X10_takeNumber ⟨Nat.le_of_ble_eq_true rfl, Nat.le_of_ble_eq_true rfl⟩ rfl rfl (va_recv hK hP (ci := 10) (q0 := 10) rfl rfl) hP hD hS [10, 11] [0, 1, 2, 3, 4, 5, 6, 7, 8, 9] rfl rfl rfl rfl rfl (by decide) rfl hl.1 rfl (Nat.le_of_ble_eq_true rfl) dX0_readSky_19 ⟨Nat.le_of_ble_eq_true rfl, Nat.le_of_ble_eq_true rfl⟩ (fun v_20 u_21 H locs hv_22 hP₀ hD₀ hS₀ => ?_)
  obtain ⟨sv_23, sv_24, sv_25, sv_26⟩ := u_21
  obtain ⟨r_29, rfl, he_30, pf_27, pf_28⟩ := hv_22
  have he_30 : NuV (cB (Tf 1) (Tv 0)) (0 : Int) (9 : Int) ro_16 r_29 := he_30
  have pf_27 : 0 ≤ ((Tv 0) : Int32).toInt ∧ ((Tv 0) : Int32).toInt ≤ 400 ∧ 0 ≤ (sv_23 : Int32).toInt ∧ (sv_23 : Int32).toInt ≤ 400 ∧ 0 ≤ (sv_24 : Int32).toInt ∧ (sv_24 : Int32).toInt ≤ 400 := pf_27
  have pf_28 : TpR (Tf 1) (Tv 0) (rNX (cB (Tf 1) (Tv 0)) (rNU (cB (Tf 1) (Tv 0)) (0 : Int) (9 : Int) ro_16)) sv_23 sv_24 sv_25 sv_26 := pf_28
  obtain ⟨ro_32, ero_32⟩ : ∃ z : Except Int (Nat × Nat), z = (rNX (cB (Tf 1) (Tv 0)) (rNU (cB (Tf 1) (Tv 0)) 0 9 ro_16)) := ⟨_, rfl⟩
  rw [← ero_32] at pf_28
  have tb_33 : TpB (rTE (cB (Tf 1) (Tv 0)) ro_32) sv_24 sv_26 := TpR.tb pf_28
  refine W.eq (g2 := F0 m 22 ls [.int r_29]) rfl ?_
  replace hP : va_P D classes [((Wa 0), .inr (0, [.ref (Aa 0)])), ((Aa 0), .inr (9, [.int (Av 0), .int (Av 1), .int (Av 2), .int (Av 3), .int (Av 4), .int (Av 5), .ref (Aa 1), .ref (Aa 2), .ref (Aa 3), .ref (Aa 4), .ref (Aa 5), .ref (Aa 6), .ref (Aa 7), .ref (Aa 8)])), ((Aa 1), .inl (tc 0, 10, .inl (Af 1))), ((Aa 2), .inl (tc 0, 10, .inl (Af 2))), ((Aa 3), .inl (tc 0, 6, .inl (Af 3))), ((Aa 4), .inl (tc 0, 6, .inl (Af 4))), ((Aa 5), .inl (tc 0, 6, .inl (Af 5))), ((Aa 6), .inl (tc 0, 6, .inl (Af 6))), ((Aa 7), .inl (tc 0, 6, .inl (Af 7))), ((Aa 8), .inl (tc 0, 6, .inl (Af 8))), ((Ta 0), .inr (10, [.ref (Ta 1), .int (Tv 0), .int sv_23, .int sv_24, .int sv_25, .int sv_26])), ((Ta 1), .inl (tc 0, 400, .inl (Tf 1)))] H := hP₀
  replace hD : va_D A [((Wa 0), .inr (0, [.ref (Aa 0)])), ((Aa 0), .inr (9, [.int (Av 0), .int (Av 1), .int (Av 2), .int (Av 3), .int (Av 4), .int (Av 5), .ref (Aa 1), .ref (Aa 2), .ref (Aa 3), .ref (Aa 4), .ref (Aa 5), .ref (Aa 6), .ref (Aa 7), .ref (Aa 8)])), ((Aa 1), .inl (tc 0, 10, .inl (Af 1))), ((Aa 2), .inl (tc 0, 10, .inl (Af 2))), ((Aa 3), .inl (tc 0, 6, .inl (Af 3))), ((Aa 4), .inl (tc 0, 6, .inl (Af 4))), ((Aa 5), .inl (tc 0, 6, .inl (Af 5))), ((Aa 6), .inl (tc 0, 6, .inl (Af 6))), ((Aa 7), .inl (tc 0, 6, .inl (Af 7))), ((Aa 8), .inl (tc 0, 6, .inl (Af 8))), ((Ta 0), .inr (10, [.ref (Ta 1), .int (Tv 0), .int sv_23, .int sv_24, .int sv_25, .int sv_26])), ((Ta 1), .inl (tc 0, 400, .inl (Tf 1)))] := hD₀
  replace hS := hS₀
  clear hP₀ hD₀ hS₀
  refine lv_istore_n (lv' := [(3, .int r_29), (2, .int r_13), (0, .ref (Wa 0)), (1, .ref (Ta 0))]) hx hb dX0_readSky_22 rfl hl (by decide) rfl (fun ls hl₀ => ?_)
  replace hl := hl₀
  clear hl₀
  refine lv_aload_n hx hb dX0_readSky_23 rfl (lv_at hl 2 rfl) ?_
  refine gf_X0_12 hx hb hts hown hK hP 0 rfl rfl dX0_readSky_24 ?_
  refine lv_iload_n hx hb dX0_readSky_27 rfl (lv_at hl 1 rfl) ?_
  refine cV (a := (Aa 0)) (As := [.int r_13]) (rest := []) (wr := [((Wa 0), .inr (0, [.ref (Aa 0)])), ((Ta 0), .inr (10, [.ref (Ta 1), .int (Tv 0), .int sv_23, .int sv_24, .int sv_25, .int sv_26])), ((Ta 1), .inl (tc 0, 400, .inl (Tf 1)))]) ⟨hx, hb, hml, hown, hts⟩ hK hX hA (cu_X9_hasClock l D tc sk (Aa 0) (Aa 1) (Aa 2) (Aa 3) (Aa 4) (Aa 5) (Aa 6) (Aa 7) (Aa 8) (Av 0) (Av 1) (Av 2) (Av 3) (Av 4) (Av 5) (Af 1) (Af 2) (Af 3) (Af 4) (Af 5) (Af 6) (Af 7) (Af 8) r_13) k_579 k_576 k_577 k_578 k_98 pl_X9_hasClock ⟨Nat.le_of_ble_eq_true rfl, Nat.le_of_ble_eq_true rfl⟩ rfl rfl (va_recv hK hP (ci := 9) (q0 := 1) rfl rfl) hP hD hS [1, 2, 3, 4, 5, 6, 7, 8, 9] [0, 10, 11] rfl rfl rfl rfl rfl (by decide) rfl hl.1 rfl (Nat.le_of_ble_eq_true rfl) dX0_readSky_28 ⟨Nat.le_of_ble_eq_true rfl, Nat.le_of_ble_eq_true rfl⟩ (fun v_34 u_35 H locs hv_36 hP₀ hD₀ hS₀ => ?_)
  obtain ⟨r_37, rfl, he_38⟩ := hv_36
  have he_38 : ((r_37.toInt = 0 ∨ (r_37.toInt = 1 ∧ 0 ≤ r_13.toInt ∧ r_13.toInt < 10))) := he_38
  refine W.eq (g2 := F0 m 31 ls [.int r_37]) rfl ?_
  replace hP : va_P D classes [((Wa 0), .inr (0, [.ref (Aa 0)])), ((Ta 0), .inr (10, [.ref (Ta 1), .int (Tv 0), .int sv_23, .int sv_24, .int sv_25, .int sv_26])), ((Ta 1), .inl (tc 0, 400, .inl (Tf 1))), ((Aa 0), .inr (9, [.int (Av 0), .int (Av 1), .int (Av 2), .int (Av 3), .int (Av 4), .int (Av 5), .ref (Aa 1), .ref (Aa 2), .ref (Aa 3), .ref (Aa 4), .ref (Aa 5), .ref (Aa 6), .ref (Aa 7), .ref (Aa 8)])), ((Aa 1), .inl (tc 0, 10, .inl (Af 1))), ((Aa 2), .inl (tc 0, 10, .inl (Af 2))), ((Aa 3), .inl (tc 0, 6, .inl (Af 3))), ((Aa 4), .inl (tc 0, 6, .inl (Af 4))), ((Aa 5), .inl (tc 0, 6, .inl (Af 5))), ((Aa 6), .inl (tc 0, 6, .inl (Af 6))), ((Aa 7), .inl (tc 0, 6, .inl (Af 7))), ((Aa 8), .inl (tc 0, 6, .inl (Af 8)))] H := hP₀
  replace hD : va_D A [((Wa 0), .inr (0, [.ref (Aa 0)])), ((Ta 0), .inr (10, [.ref (Ta 1), .int (Tv 0), .int sv_23, .int sv_24, .int sv_25, .int sv_26])), ((Ta 1), .inl (tc 0, 400, .inl (Tf 1))), ((Aa 0), .inr (9, [.int (Av 0), .int (Av 1), .int (Av 2), .int (Av 3), .int (Av 4), .int (Av 5), .ref (Aa 1), .ref (Aa 2), .ref (Aa 3), .ref (Aa 4), .ref (Aa 5), .ref (Aa 6), .ref (Aa 7), .ref (Aa 8)])), ((Aa 1), .inl (tc 0, 10, .inl (Af 1))), ((Aa 2), .inl (tc 0, 10, .inl (Af 2))), ((Aa 3), .inl (tc 0, 6, .inl (Af 3))), ((Aa 4), .inl (tc 0, 6, .inl (Af 4))), ((Aa 5), .inl (tc 0, 6, .inl (Af 5))), ((Aa 6), .inl (tc 0, 6, .inl (Af 6))), ((Aa 7), .inl (tc 0, 6, .inl (Af 7))), ((Aa 8), .inl (tc 0, 6, .inl (Af 8)))] := hD₀
  replace hS := hS₀
  clear hP₀ hD₀ hS₀
  refine lv_if_eq (tgt := 44) hx hb dX0_readSky_31 (by decide) (fun c_39 => ?_) (fun c_39 => ?_)
  · skip
    have hu_40 : TpR (Tf 1) (Tv 0) (rNX (cB (Tf 1) (Tv 0)) (rNU (cB (Tf 1) (Tv 0)) 0 9 (rNX (cB (Tf 1) (Tv 0)) (rNU (cB (Tf 1) (Tv 0)) 0 ((Av 2) - 1 : Int32).toInt rr)))) sv_23 sv_24 sv_25 sv_26 := by
      rw [← ero_16, ← ero_32]
      exact pf_28
    have hf_41 : TpR (Tf 1) (Tv 0) (rN1 (cB (Tf 1) (Tv 0)) 0 9 (rN1 (cB (Tf 1) (Tv 0)) 0 ((Av 2) - 1 : Int32).toInt rr)) sv_23 sv_24 sv_25 sv_26 := hu_40
    exact retV hx hb hr hlk hP hD hS ((Af 1), sv_23, sv_24, sv_25, sv_26) ⟨rfl, pf_27, h_bu, hf_41⟩ [0, 3, 4, 5, 6, 7, 8, 9, 10, 11, 1, 2] rfl rfl dX0_readSky_44 (Nat.le_of_ble_eq_true rfl) (Nat.le_of_ble_eq_true rfl) rfl
  · skip
    refine lv_aload_n hx hb dX0_readSky_34 rfl (lv_at hl 2 rfl) ?_
    refine gf_X0_12 hx hb hts hown hK hP 0 rfl rfl dX0_readSky_35 ?_
    refine gf_X0_87 hx hb hts hown hK hP 3 rfl rfl dX0_readSky_38 ?_
    refine lv_iload_n hx hb dX0_readSky_41 rfl (lv_at hl 1 rfl) ?_
    refine lv_iload_n hx hb dX0_readSky_42 rfl (lv_at hl 0 rfl) ?_
    have hi_42 : vp_in r_13 10 := by
      have z_1 : ¬ (r_37 : Int32).toInt = (0 : Int32).toInt := fun z => c_39 (Int32.toInt_inj.mp z)
      have y_0 : (0 : Int32).toInt = 0 := by decide
      refine vp_in_iff.mpr ⟨?_, ?_⟩ <;> omega
    refine st_int hx hb hK hP hD hS 4 0 rfl rfl hi_42 dX0_readSky_43 (fun g_43 H locs eg_43 hP₀ hD₀ hS₀ => ?_)
    replace hP : va_P D classes [((Wa 0), .inr (0, [.ref (Aa 0)])), ((Ta 0), .inr (10, [.ref (Ta 1), .int (Tv 0), .int sv_23, .int sv_24, .int sv_25, .int sv_26])), ((Ta 1), .inl (tc 0, 400, .inl (Tf 1))), ((Aa 0), .inr (9, [.int (Av 0), .int (Av 1), .int (Av 2), .int (Av 3), .int (Av 4), .int (Av 5), .ref (Aa 1), .ref (Aa 2), .ref (Aa 3), .ref (Aa 4), .ref (Aa 5), .ref (Aa 6), .ref (Aa 7), .ref (Aa 8)])), ((Aa 1), .inl (tc 0, 10, .inl g_43)), ((Aa 2), .inl (tc 0, 10, .inl (Af 2))), ((Aa 3), .inl (tc 0, 6, .inl (Af 3))), ((Aa 4), .inl (tc 0, 6, .inl (Af 4))), ((Aa 5), .inl (tc 0, 6, .inl (Af 5))), ((Aa 6), .inl (tc 0, 6, .inl (Af 6))), ((Aa 7), .inl (tc 0, 6, .inl (Af 7))), ((Aa 8), .inl (tc 0, 6, .inl (Af 8)))] H := hP₀
    replace hD : va_D A [((Wa 0), .inr (0, [.ref (Aa 0)])), ((Ta 0), .inr (10, [.ref (Ta 1), .int (Tv 0), .int sv_23, .int sv_24, .int sv_25, .int sv_26])), ((Ta 1), .inl (tc 0, 400, .inl (Tf 1))), ((Aa 0), .inr (9, [.int (Av 0), .int (Av 1), .int (Av 2), .int (Av 3), .int (Av 4), .int (Av 5), .ref (Aa 1), .ref (Aa 2), .ref (Aa 3), .ref (Aa 4), .ref (Aa 5), .ref (Aa 6), .ref (Aa 7), .ref (Aa 8)])), ((Aa 1), .inl (tc 0, 10, .inl g_43)), ((Aa 2), .inl (tc 0, 10, .inl (Af 2))), ((Aa 3), .inl (tc 0, 6, .inl (Af 3))), ((Aa 4), .inl (tc 0, 6, .inl (Af 4))), ((Aa 5), .inl (tc 0, 6, .inl (Af 5))), ((Aa 6), .inl (tc 0, 6, .inl (Af 6))), ((Aa 7), .inl (tc 0, 6, .inl (Af 7))), ((Aa 8), .inl (tc 0, 6, .inl (Af 8)))] := hD₀
    replace hS := hS₀
    clear hP₀ hD₀ hS₀
    have hu_44 : TpR (Tf 1) (Tv 0) (rNX (cB (Tf 1) (Tv 0)) (rNU (cB (Tf 1) (Tv 0)) 0 9 (rNX (cB (Tf 1) (Tv 0)) (rNU (cB (Tf 1) (Tv 0)) 0 ((Av 2) - 1 : Int32).toInt rr)))) sv_23 sv_24 sv_25 sv_26 := by
      rw [← ero_16, ← ero_32]
      exact pf_28
    have hf_45 : TpR (Tf 1) (Tv 0) (rN1 (cB (Tf 1) (Tv 0)) 0 9 (rN1 (cB (Tf 1) (Tv 0)) 0 ((Av 2) - 1 : Int32).toInt rr)) sv_23 sv_24 sv_25 sv_26 := hu_44
    exact retV hx hb hr hlk hP hD hS (g_43, sv_23, sv_24, sv_25, sv_26) ⟨rfl, pf_27, h_bu, hf_45⟩ [0, 3, 4, 5, 6, 7, 8, 9, 10, 11, 1, 2] rfl rfl dX0_readSky_44 (Nat.le_of_ble_eq_true rfl) (Nat.le_of_ble_eq_true rfl) rfl
set_option maxRecDepth 100000 in
theorem cu_fX0_readSky (l : Launch) (D : va_G) (tc : Nat → ClassId) (sk : (Nat → Nat) × (Nat → Nat)) (Wa_0 : Nat) (Aa_0 : Nat) (Aa_1 : Nat) (Aa_2 : Nat) (Aa_3 : Nat) (Aa_4 : Nat) (Aa_5 : Nat) (Aa_6 : Nat) (Aa_7 : Nat) (Aa_8 : Nat) (Av_0 : Int32) (Av_1 : Int32) (Av_2 : Int32) (Av_3 : Int32) (Av_4 : Int32) (Av_5 : Int32) (Af_1 : Nat → Int32) (Af_2 : Nat → Int32) (Af_3 : Nat → Int32) (Af_4 : Nat → Int32) (Af_5 : Nat → Int32) (Af_6 : Nat → Int32) (Af_7 : Nat → Int32) (Af_8 : Nat → Int32) (Ta_0 : Nat) (Ta_1 : Nat) (Tv_0 : Int32) (Tv_1 : Int32) (Tv_2 : Int32) (Tv_3 : Int32) (Tv_4 : Int32) (Tf_1 : Nat → Int32) (rr : Except Int (Nat × Nat)) (h_tape : 0 ≤ (Tv_0 : Int32).toInt ∧ (Tv_0 : Int32).toInt ≤ 400 ∧ 0 ≤ (Tv_1 : Int32).toInt ∧ (Tv_1 : Int32).toInt ≤ 400 ∧ 0 ≤ (Tv_2 : Int32).toInt ∧ (Tv_2 : Int32).toInt ≤ 400) (h_by : Byt Tf_1) (h_r : TpR Tf_1 Tv_0 rr Tv_1 Tv_2 Tv_3 Tv_4) (h_bu : 0 ≤ (Av_3 : Int32).toInt ∧ (Av_3 : Int32).toInt ≤ 6) : Ct l yX0_readSky cX0_readSky 4 none { frames := 3, cells := 0, slots := 0, locals := 68 } D tc sk [.ref Wa_0, .ref Ta_0] [(Wa_0, .inr (0, [.ref Aa_0])), (Aa_0, .inr (9, [.int Av_0, .int Av_1, .int Av_2, .int Av_3, .int Av_4, .int Av_5, .ref Aa_1, .ref Aa_2, .ref Aa_3, .ref Aa_4, .ref Aa_5, .ref Aa_6, .ref Aa_7, .ref Aa_8])), (Aa_1, .inl (tc 0, 10, .inl Af_1)), (Aa_2, .inl (tc 0, 10, .inl Af_2)), (Aa_3, .inl (tc 0, 6, .inl Af_3)), (Aa_4, .inl (tc 0, 6, .inl Af_4)), (Aa_5, .inl (tc 0, 6, .inl Af_5)), (Aa_6, .inl (tc 0, 6, .inl Af_6)), (Aa_7, .inl (tc 0, 6, .inl Af_7)), (Aa_8, .inl (tc 0, 6, .inl Af_8)), (Ta_0, .inr (10, [.ref Ta_1, .int Tv_0, .int Tv_1, .int Tv_2, .int Tv_3, .int Tv_4])), (Ta_1, .inl (tc 0, 400, .inl Tf_1))] (fun (v : Option Value) (u : (Nat → Int32) × (Int32) × (Int32) × (Int32) × (Int32)) => match u with | (oo0x1, oo0x2, oo0x3, oo0x4, oo0x5) => v = none ∧ (0 ≤ (Tv_0 : Int32).toInt ∧ (Tv_0 : Int32).toInt ≤ 400 ∧ 0 ≤ (oo0x2 : Int32).toInt ∧ (oo0x2 : Int32).toInt ≤ 400 ∧ 0 ≤ (oo0x3 : Int32).toInt ∧ (oo0x3 : Int32).toInt ≤ 400) ∧ (0 ≤ (Av_3 : Int32).toInt ∧ (Av_3 : Int32).toInt ≤ 6) ∧ (TpR Tf_1 Tv_0 (rN1 (cB Tf_1 Tv_0) 0 9 (rN1 (cB Tf_1 Tv_0) 0 (Av_2 - 1 : Int32).toInt rr)) oo0x2 oo0x3 oo0x4 oo0x5)) (fun (u : (Nat → Int32) × (Int32) × (Int32) × (Int32) × (Int32)) => match u with | (oo0x1, oo0x2, oo0x3, oo0x4, oo0x5) => [(Wa_0, .inr (0, [.ref Aa_0])), (Aa_0, .inr (9, [.int Av_0, .int Av_1, .int Av_2, .int Av_3, .int Av_4, .int Av_5, .ref Aa_1, .ref Aa_2, .ref Aa_3, .ref Aa_4, .ref Aa_5, .ref Aa_6, .ref Aa_7, .ref Aa_8])), (Aa_1, .inl (tc 0, 10, .inl oo0x1)), (Aa_2, .inl (tc 0, 10, .inl Af_2)), (Aa_3, .inl (tc 0, 6, .inl Af_3)), (Aa_4, .inl (tc 0, 6, .inl Af_4)), (Aa_5, .inl (tc 0, 6, .inl Af_5)), (Aa_6, .inl (tc 0, 6, .inl Af_6)), (Aa_7, .inl (tc 0, 6, .inl Af_7)), (Aa_8, .inl (tc 0, 6, .inl Af_8)), (Ta_0, .inr (10, [.ref Ta_1, .int Tv_0, .int oo0x2, .int oo0x3, .int oo0x4, .int oo0x5])), (Ta_1, .inl (tc 0, 400, .inl Tf_1))]) 0 0 :=
  ct_fX0_readSky l D tc sk (fun k => ([Wa_0] : List (Nat)).getD k 0) (fun k => ([Aa_0, Aa_1, Aa_2, Aa_3, Aa_4, Aa_5, Aa_6, Aa_7, Aa_8] : List (Nat)).getD k 0) (fun k => ([Av_0, Av_1, Av_2, Av_3, Av_4, Av_5] : List (Int32)).getD k 0) (fun k => ([(fun _ => 0), Af_1, Af_2, Af_3, Af_4, Af_5, Af_6, Af_7, Af_8] : List (Nat → Int32)).getD k (fun _ => 0)) (fun k => ([Ta_0, Ta_1] : List (Nat)).getD k 0) (fun k => ([Tv_0, Tv_1, Tv_2, Tv_3, Tv_4] : List (Int32)).getD k 0) (fun k => ([(fun _ => 0), Tf_1] : List (Nat → Int32)).getD k (fun _ => 0)) rr h_tape h_by h_r h_bu
set_option maxHeartbeats 4000000 in
set_option maxRecDepth 100000 in
theorem ct_fX0_readBuyer (l : Launch) (D : va_G) (tc : Nat → ClassId) (sk : (Nat → Nat) × (Nat → Nat)) (Wa : Nat → Nat) (Aa : Nat → Nat) (Av : Nat → Int32) (Af : Nat → Nat → Int32) (Ta : Nat → Nat) (Tv : Nat → Int32) (Tf : Nat → Nat → Int32) (rr : Except Int (Nat × Nat)) (h_tape : 0 ≤ ((Tv 0) : Int32).toInt ∧ ((Tv 0) : Int32).toInt ≤ 400 ∧ 0 ≤ ((Tv 1) : Int32).toInt ∧ ((Tv 1) : Int32).toInt ≤ 400 ∧ 0 ≤ ((Tv 2) : Int32).toInt ∧ ((Tv 2) : Int32).toInt ≤ 400) (h_by : Byt (Tf 1)) (h_r : TpR (Tf 1) (Tv 0) rr (Tv 1) (Tv 2) (Tv 3) (Tv 4)) (h_b6 : 0 ≤ (Av 3).toInt ∧ (Av 3).toInt < 6) : Ct l yX0_readBuyer cX0_readBuyer 3 none { frames := 3, cells := 0, slots := 0, locals := 68 } D tc sk [.ref (Wa 0), .ref (Ta 0)] [((Wa 0), .inr (0, [.ref (Aa 0)])), ((Aa 0), .inr (9, [.int (Av 0), .int (Av 1), .int (Av 2), .int (Av 3), .int (Av 4), .int (Av 5), .ref (Aa 1), .ref (Aa 2), .ref (Aa 3), .ref (Aa 4), .ref (Aa 5), .ref (Aa 6), .ref (Aa 7), .ref (Aa 8)])), ((Aa 1), .inl (tc 0, 10, .inl (Af 1))), ((Aa 2), .inl (tc 0, 10, .inl (Af 2))), ((Aa 3), .inl (tc 0, 6, .inl (Af 3))), ((Aa 4), .inl (tc 0, 6, .inl (Af 4))), ((Aa 5), .inl (tc 0, 6, .inl (Af 5))), ((Aa 6), .inl (tc 0, 6, .inl (Af 6))), ((Aa 7), .inl (tc 0, 6, .inl (Af 7))), ((Aa 8), .inl (tc 0, 6, .inl (Af 8))), ((Ta 0), .inr (10, [.ref (Ta 1), .int (Tv 0), .int (Tv 1), .int (Tv 2), .int (Tv 3), .int (Tv 4)])), ((Ta 1), .inl (tc 0, 400, .inl (Tf 1)))] (fun (v : Option Value) (u : (Int32) × (Nat → Int32) × (Nat → Int32) × (Nat → Int32) × (Int32) × (Int32) × (Int32) × (Int32)) => match u with | (oo0x1, oo0x2, oo0x3, oo0x4, oo0x5, oo0x6, oo0x7, oo0x8) => v = none ∧ (0 ≤ ((Tv 0) : Int32).toInt ∧ ((Tv 0) : Int32).toInt ≤ 400 ∧ 0 ≤ (oo0x5 : Int32).toInt ∧ (oo0x5 : Int32).toInt ≤ 400 ∧ 0 ≤ (oo0x6 : Int32).toInt ∧ (oo0x6 : Int32).toInt ≤ 400) ∧ (0 ≤ (oo0x1 : Int32).toInt ∧ (oo0x1 : Int32).toInt ≤ 6) ∧ ((oo0x1 : Int32).toInt = (Av 3).toInt + 1) ∧ (TpR (Tf 1) (Tv 0) (rN1 (cB (Tf 1) (Tv 0)) 0 9 (rN1 (cB (Tf 1) (Tv 0)) 1 9 (rN1 (cB (Tf 1) (Tv 0)) 0 20 rr))) oo0x5 oo0x6 oo0x7 oo0x8)) (fun (u : (Int32) × (Nat → Int32) × (Nat → Int32) × (Nat → Int32) × (Int32) × (Int32) × (Int32) × (Int32)) => match u with | (oo0x1, oo0x2, oo0x3, oo0x4, oo0x5, oo0x6, oo0x7, oo0x8) => [((Wa 0), .inr (0, [.ref (Aa 0)])), ((Aa 0), .inr (9, [.int (Av 0), .int (Av 1), .int (Av 2), .int oo0x1, .int (Av 4), .int (Av 5), .ref (Aa 1), .ref (Aa 2), .ref (Aa 3), .ref (Aa 4), .ref (Aa 5), .ref (Aa 6), .ref (Aa 7), .ref (Aa 8)])), ((Aa 1), .inl (tc 0, 10, .inl (Af 1))), ((Aa 2), .inl (tc 0, 10, .inl (Af 2))), ((Aa 3), .inl (tc 0, 6, .inl oo0x2)), ((Aa 4), .inl (tc 0, 6, .inl oo0x3)), ((Aa 5), .inl (tc 0, 6, .inl oo0x4)), ((Aa 6), .inl (tc 0, 6, .inl (Af 6))), ((Aa 7), .inl (tc 0, 6, .inl (Af 7))), ((Aa 8), .inl (tc 0, 6, .inl (Af 8))), ((Ta 0), .inr (10, [.ref (Ta 1), .int (Tv 0), .int oo0x5, .int oo0x6, .int oo0x7, .int oo0x8])), ((Ta 1), .inl (tc 0, 400, .inl (Tf 1)))]) 0 0 := by
  refine Ct.start (by decide) (Nat.le_of_ble_eq_true rfl) (fun p e s m below meth c A ls hx hb hr hlk hin hml hown hts hK hX hP hD hA hl hS => ?_)
  have hl : lv_has ls 3 [(0, .ref (Wa 0)), (1, .ref (Ta 0))] := hl
  have tb_1 : TpB (rTE (cB (Tf 1) (Tv 0)) rr) (Tv 2) (Tv 4) := TpR.tb h_r
  refine lv_aload_n hx hb dX0_readBuyer_0 rfl (lv_at hl 0 rfl) ?_
  refine gf_X0_12 hx hb hts hown hK hP 0 rfl rfl dX0_readBuyer_1 ?_
  refine gf_X0_51 hx hb hts hown hK hP 1 rfl rfl dX0_readBuyer_4 ?_
  refine lv_istore_n (lv' := [(2, .int (Av 3)), (0, .ref (Wa 0)), (1, .ref (Ta 0))]) hx hb dX0_readBuyer_7 rfl hl (by decide) rfl (fun ls hl₀ => ?_)
  replace hl := hl₀
  clear hl₀
  refine lv_iload_n hx hb dX0_readBuyer_8 rfl (lv_at hl 0 rfl) ?_
  refine lv_if_lt (tgt := 18) hx hb dX0_readBuyer_9 (by decide) (fun c_2 => ?_) (fun c_2 => ?_)
  · skip
    exfalso
    have z_1 := Int32.lt_iff_toInt_lt.mp c_2
    have y_0 : (0 : Int32).toInt = 0 := by decide
    omega
  · skip
    refine lv_iload_n hx hb dX0_readBuyer_12 rfl (lv_at hl 0 rfl) ?_
    refine lv_bipush (v := 6) hx hb dX0_readBuyer_13 (by decide) ?_
    refine lv_icmp_lt (tgt := 19) hx hb dX0_readBuyer_15 (by decide) (fun c_3 => ?_) (fun c_3 => ?_)
    · skip
      refine lv_aload_n hx hb dX0_readBuyer_19 rfl (lv_at hl 1 rfl) ?_
      refine gf_X0_12 hx hb hts hown hK hP 0 rfl rfl dX0_readBuyer_20 ?_
      refine gf_X0_91 hx hb hts hown hK hP 1 rfl rfl dX0_readBuyer_23 ?_
      refine lv_iload_n hx hb dX0_readBuyer_26 rfl (lv_at hl 0 rfl) ?_
      refine lv_aload_n hx hb dX0_readBuyer_27 rfl (lv_at hl 2 rfl) ?_
      refine lv_iconst (v := 0) hx hb dX0_readBuyer_28 (by decide) ?_
      refine lv_bipush (v := 20) hx hb dX0_readBuyer_29 (by decide) ?_
      have ha_4 : (0 : Int32).toInt = (0 : Int) := by
        have z_1 := Int32.le_iff_toInt_le.mp (Int32.not_lt.mp c_2)
        have z_2 := Int32.lt_iff_toInt_lt.mp c_3
        have y_0 : (0 : Int32).toInt = 0 := by decide
        have y_6 : (6 : Int32).toInt = 6 := by decide
        omega
      have ha_5 : (20 : Int32).toInt = (20 : Int) := by
        have z_1 := Int32.le_iff_toInt_le.mp (Int32.not_lt.mp c_2)
        have z_2 := Int32.lt_iff_toInt_lt.mp c_3
        have y_0 : (0 : Int32).toInt = 0 := by decide
        have y_6 : (6 : Int32).toInt = 6 := by decide
        have y_20 : (20 : Int32).toInt = 20 := by decide
        omega
      refine cV (a := (Ta 0)) (As := [.int 0, .int 20]) (rest := [.int (Av 3), .ref (Aa 3)]) (wr := [((Wa 0), .inr (0, [.ref (Aa 0)])), ((Aa 0), .inr (9, [.int (Av 0), .int (Av 1), .int (Av 2), .int (Av 3), .int (Av 4), .int (Av 5), .ref (Aa 1), .ref (Aa 2), .ref (Aa 3), .ref (Aa 4), .ref (Aa 5), .ref (Aa 6), .ref (Aa 7), .ref (Aa 8)])), ((Aa 1), .inl (tc 0, 10, .inl (Af 1))), ((Aa 2), .inl (tc 0, 10, .inl (Af 2))), ((Aa 3), .inl (tc 0, 6, .inl (Af 3))), ((Aa 4), .inl (tc 0, 6, .inl (Af 4))), ((Aa 5), .inl (tc 0, 6, .inl (Af 5))), ((Aa 6), .inl (tc 0, 6, .inl (Af 6))), ((Aa 7), .inl (tc 0, 6, .inl (Af 7))), ((Aa 8), .inl (tc 0, 6, .inl (Af 8)))]) ⟨hx, hb, hml, hown, hts⟩ hK hX hA (cu_fX10_takeNumber l D tc sk (Ta 0) (Ta 1) (Tv 0) (Tv 1) (Tv 2) (Tv 3) (Tv 4) (Tf 1) 0 20 rr 0 20 h_tape h_by h_r ha_4 ha_5) k_566 k_563 k_564 k_565 k_96 pl_X10_takeNumber ⟨Nat.le_of_ble_eq_true rfl, Nat.le_of_ble_eq_true rfl⟩ rfl rfl (va_recv hK hP (ci := 10) (q0 := 10) rfl rfl) hP hD hS [10, 11] [0, 1, 2, 3, 4, 5, 6, 7, 8, 9] rfl rfl rfl rfl rfl (by decide) rfl hl.1 rfl (Nat.le_of_ble_eq_true rfl) dX0_readBuyer_31 ⟨Nat.le_of_ble_eq_true rfl, Nat.le_of_ble_eq_true rfl⟩ (fun v_6 u_7 H locs hv_8 hP₀ hD₀ hS₀ => ?_)
      obtain ⟨sv_9, sv_10, sv_11, sv_12⟩ := u_7
      obtain ⟨r_15, rfl, he_16, pf_13, pf_14⟩ := hv_8
      have he_16 : NuV (cB (Tf 1) (Tv 0)) (0 : Int) (20 : Int) rr r_15 := he_16
      have pf_13 : 0 ≤ ((Tv 0) : Int32).toInt ∧ ((Tv 0) : Int32).toInt ≤ 400 ∧ 0 ≤ (sv_9 : Int32).toInt ∧ (sv_9 : Int32).toInt ≤ 400 ∧ 0 ≤ (sv_10 : Int32).toInt ∧ (sv_10 : Int32).toInt ≤ 400 := pf_13
      have pf_14 : TpR (Tf 1) (Tv 0) (rNX (cB (Tf 1) (Tv 0)) (rNU (cB (Tf 1) (Tv 0)) (0 : Int) (20 : Int) rr)) sv_9 sv_10 sv_11 sv_12 := pf_14
      obtain ⟨ro_18, ero_18⟩ : ∃ z : Except Int (Nat × Nat), z = (rNX (cB (Tf 1) (Tv 0)) (rNU (cB (Tf 1) (Tv 0)) 0 20 rr)) := ⟨_, rfl⟩
      rw [← ero_18] at pf_14
      have tb_19 : TpB (rTE (cB (Tf 1) (Tv 0)) ro_18) sv_10 sv_12 := TpR.tb pf_14
      refine W.eq (g2 := F0 m 34 ls [.int r_15, .int (Av 3), .ref (Aa 3)]) rfl ?_
      replace hP : va_P D classes [((Wa 0), .inr (0, [.ref (Aa 0)])), ((Aa 0), .inr (9, [.int (Av 0), .int (Av 1), .int (Av 2), .int (Av 3), .int (Av 4), .int (Av 5), .ref (Aa 1), .ref (Aa 2), .ref (Aa 3), .ref (Aa 4), .ref (Aa 5), .ref (Aa 6), .ref (Aa 7), .ref (Aa 8)])), ((Aa 1), .inl (tc 0, 10, .inl (Af 1))), ((Aa 2), .inl (tc 0, 10, .inl (Af 2))), ((Aa 3), .inl (tc 0, 6, .inl (Af 3))), ((Aa 4), .inl (tc 0, 6, .inl (Af 4))), ((Aa 5), .inl (tc 0, 6, .inl (Af 5))), ((Aa 6), .inl (tc 0, 6, .inl (Af 6))), ((Aa 7), .inl (tc 0, 6, .inl (Af 7))), ((Aa 8), .inl (tc 0, 6, .inl (Af 8))), ((Ta 0), .inr (10, [.ref (Ta 1), .int (Tv 0), .int sv_9, .int sv_10, .int sv_11, .int sv_12])), ((Ta 1), .inl (tc 0, 400, .inl (Tf 1)))] H := hP₀
      replace hD : va_D A [((Wa 0), .inr (0, [.ref (Aa 0)])), ((Aa 0), .inr (9, [.int (Av 0), .int (Av 1), .int (Av 2), .int (Av 3), .int (Av 4), .int (Av 5), .ref (Aa 1), .ref (Aa 2), .ref (Aa 3), .ref (Aa 4), .ref (Aa 5), .ref (Aa 6), .ref (Aa 7), .ref (Aa 8)])), ((Aa 1), .inl (tc 0, 10, .inl (Af 1))), ((Aa 2), .inl (tc 0, 10, .inl (Af 2))), ((Aa 3), .inl (tc 0, 6, .inl (Af 3))), ((Aa 4), .inl (tc 0, 6, .inl (Af 4))), ((Aa 5), .inl (tc 0, 6, .inl (Af 5))), ((Aa 6), .inl (tc 0, 6, .inl (Af 6))), ((Aa 7), .inl (tc 0, 6, .inl (Af 7))), ((Aa 8), .inl (tc 0, 6, .inl (Af 8))), ((Ta 0), .inr (10, [.ref (Ta 1), .int (Tv 0), .int sv_9, .int sv_10, .int sv_11, .int sv_12])), ((Ta 1), .inl (tc 0, 400, .inl (Tf 1)))] := hD₀
      replace hS := hS₀
      clear hP₀ hD₀ hS₀
      have hi_20 : vp_in (Av 3) 6 := by
        have z_1 := Int32.le_iff_toInt_le.mp (Int32.not_lt.mp c_2)
        have z_2 := Int32.lt_iff_toInt_lt.mp c_3
        have y_0 : (0 : Int32).toInt = 0 := by decide
        have y_6 : (6 : Int32).toInt = 6 := by decide
        refine vp_in_iff.mpr ⟨?_, ?_⟩ <;> omega
      refine st_int hx hb hK hP hD hS 4 0 rfl rfl hi_20 dX0_readBuyer_34 (fun g_21 H locs eg_21 hP₀ hD₀ hS₀ => ?_)
      replace hP : va_P D classes [((Wa 0), .inr (0, [.ref (Aa 0)])), ((Aa 0), .inr (9, [.int (Av 0), .int (Av 1), .int (Av 2), .int (Av 3), .int (Av 4), .int (Av 5), .ref (Aa 1), .ref (Aa 2), .ref (Aa 3), .ref (Aa 4), .ref (Aa 5), .ref (Aa 6), .ref (Aa 7), .ref (Aa 8)])), ((Aa 1), .inl (tc 0, 10, .inl (Af 1))), ((Aa 2), .inl (tc 0, 10, .inl (Af 2))), ((Aa 3), .inl (tc 0, 6, .inl g_21)), ((Aa 4), .inl (tc 0, 6, .inl (Af 4))), ((Aa 5), .inl (tc 0, 6, .inl (Af 5))), ((Aa 6), .inl (tc 0, 6, .inl (Af 6))), ((Aa 7), .inl (tc 0, 6, .inl (Af 7))), ((Aa 8), .inl (tc 0, 6, .inl (Af 8))), ((Ta 0), .inr (10, [.ref (Ta 1), .int (Tv 0), .int sv_9, .int sv_10, .int sv_11, .int sv_12])), ((Ta 1), .inl (tc 0, 400, .inl (Tf 1)))] H := hP₀
      replace hD : va_D A [((Wa 0), .inr (0, [.ref (Aa 0)])), ((Aa 0), .inr (9, [.int (Av 0), .int (Av 1), .int (Av 2), .int (Av 3), .int (Av 4), .int (Av 5), .ref (Aa 1), .ref (Aa 2), .ref (Aa 3), .ref (Aa 4), .ref (Aa 5), .ref (Aa 6), .ref (Aa 7), .ref (Aa 8)])), ((Aa 1), .inl (tc 0, 10, .inl (Af 1))), ((Aa 2), .inl (tc 0, 10, .inl (Af 2))), ((Aa 3), .inl (tc 0, 6, .inl g_21)), ((Aa 4), .inl (tc 0, 6, .inl (Af 4))), ((Aa 5), .inl (tc 0, 6, .inl (Af 5))), ((Aa 6), .inl (tc 0, 6, .inl (Af 6))), ((Aa 7), .inl (tc 0, 6, .inl (Af 7))), ((Aa 8), .inl (tc 0, 6, .inl (Af 8))), ((Ta 0), .inr (10, [.ref (Ta 1), .int (Tv 0), .int sv_9, .int sv_10, .int sv_11, .int sv_12])), ((Ta 1), .inl (tc 0, 400, .inl (Tf 1)))] := hD₀
      replace hS := hS₀
      clear hP₀ hD₀ hS₀
      refine lv_aload_n hx hb dX0_readBuyer_35 rfl (lv_at hl 1 rfl) ?_
      refine gf_X0_12 hx hb hts hown hK hP 0 rfl rfl dX0_readBuyer_36 ?_
      refine gf_X0_94 hx hb hts hown hK hP 1 rfl rfl dX0_readBuyer_39 ?_
      refine lv_iload_n hx hb dX0_readBuyer_42 rfl (lv_at hl 0 rfl) ?_
      refine lv_aload_n hx hb dX0_readBuyer_43 rfl (lv_at hl 2 rfl) ?_
      refine lv_iconst (v := 1) hx hb dX0_readBuyer_44 (by decide) ?_
      refine lv_bipush (v := 9) hx hb dX0_readBuyer_45 (by decide) ?_
      have ha_22 : (1 : Int32).toInt = (1 : Int) := by
        have z_1 := Int32.le_iff_toInt_le.mp (Int32.not_lt.mp c_2)
        have z_2 := Int32.lt_iff_toInt_lt.mp c_3
        have y_0 : (0 : Int32).toInt = 0 := by decide
        have y_6 : (6 : Int32).toInt = 6 := by decide
        have y_1 : (1 : Int32).toInt = 1 := by decide
        omega
      have ha_23 : (9 : Int32).toInt = (9 : Int) := by
        have z_1 := Int32.le_iff_toInt_le.mp (Int32.not_lt.mp c_2)
        have z_2 := Int32.lt_iff_toInt_lt.mp c_3
        have y_0 : (0 : Int32).toInt = 0 := by decide
        have y_6 : (6 : Int32).toInt = 6 := by decide
        have y_9 : (9 : Int32).toInt = 9 := by decide
        omega
      refine cV (a := (Ta 0)) (As := [.int 1, .int 9]) (rest := [.int (Av 3), .ref (Aa 4)]) (wr := [((Wa 0), .inr (0, [.ref (Aa 0)])), ((Aa 0), .inr (9, [.int (Av 0), .int (Av 1), .int (Av 2), .int (Av 3), .int (Av 4), .int (Av 5), .ref (Aa 1), .ref (Aa 2), .ref (Aa 3), .ref (Aa 4), .ref (Aa 5), .ref (Aa 6), .ref (Aa 7), .ref (Aa 8)])), ((Aa 1), .inl (tc 0, 10, .inl (Af 1))), ((Aa 2), .inl (tc 0, 10, .inl (Af 2))), ((Aa 3), .inl (tc 0, 6, .inl g_21)), ((Aa 4), .inl (tc 0, 6, .inl (Af 4))), ((Aa 5), .inl (tc 0, 6, .inl (Af 5))), ((Aa 6), .inl (tc 0, 6, .inl (Af 6))), ((Aa 7), .inl (tc 0, 6, .inl (Af 7))), ((Aa 8), .inl (tc 0, 6, .inl (Af 8)))]) ⟨hx, hb, hml, hown, hts⟩ hK hX hA (cu_fX10_takeNumber l D tc sk (Ta 0) (Ta 1) (Tv 0) sv_9 sv_10 sv_11 sv_12 (Tf 1) 1 9 ro_18 1 9 pf_13 h_by pf_14 ha_22 ha_23) k_566 k_563 k_564 k_565 k_96 pl_X10_takeNumber ⟨Nat.le_of_ble_eq_true rfl, Nat.le_of_ble_eq_true rfl⟩ rfl rfl (va_recv hK hP (ci := 10) (q0 := 10) rfl rfl) hP hD hS [10, 11] [0, 1, 2, 3, 4, 5, 6, 7, 8, 9] rfl rfl rfl rfl rfl (by decide) rfl hl.1 rfl (Nat.le_of_ble_eq_true rfl) dX0_readBuyer_47 ⟨Nat.le_of_ble_eq_true rfl, Nat.le_of_ble_eq_true rfl⟩ (fun v_24 u_25 H locs hv_26 hP₀ hD₀ hS₀ => ?_)
      obtain ⟨sv_27, sv_28, sv_29, sv_30⟩ := u_25
      obtain ⟨r_33, rfl, he_34, pf_31, pf_32⟩ := hv_26
      have he_34 : NuV (cB (Tf 1) (Tv 0)) (1 : Int) (9 : Int) ro_18 r_33 := he_34
      have pf_31 : 0 ≤ ((Tv 0) : Int32).toInt ∧ ((Tv 0) : Int32).toInt ≤ 400 ∧ 0 ≤ (sv_27 : Int32).toInt ∧ (sv_27 : Int32).toInt ≤ 400 ∧ 0 ≤ (sv_28 : Int32).toInt ∧ (sv_28 : Int32).toInt ≤ 400 := pf_31
      have pf_32 : TpR (Tf 1) (Tv 0) (rNX (cB (Tf 1) (Tv 0)) (rNU (cB (Tf 1) (Tv 0)) (1 : Int) (9 : Int) ro_18)) sv_27 sv_28 sv_29 sv_30 := pf_32
      obtain ⟨ro_36, ero_36⟩ : ∃ z : Except Int (Nat × Nat), z = (rNX (cB (Tf 1) (Tv 0)) (rNU (cB (Tf 1) (Tv 0)) 1 9 ro_18)) := ⟨_, rfl⟩
      rw [← ero_36] at pf_32
      have tb_37 : TpB (rTE (cB (Tf 1) (Tv 0)) ro_36) sv_28 sv_30 := TpR.tb pf_32
      refine W.eq (g2 := F0 m 50 ls [.int r_33, .int (Av 3), .ref (Aa 4)]) rfl ?_
      replace hP : va_P D classes [((Wa 0), .inr (0, [.ref (Aa 0)])), ((Aa 0), .inr (9, [.int (Av 0), .int (Av 1), .int (Av 2), .int (Av 3), .int (Av 4), .int (Av 5), .ref (Aa 1), .ref (Aa 2), .ref (Aa 3), .ref (Aa 4), .ref (Aa 5), .ref (Aa 6), .ref (Aa 7), .ref (Aa 8)])), ((Aa 1), .inl (tc 0, 10, .inl (Af 1))), ((Aa 2), .inl (tc 0, 10, .inl (Af 2))), ((Aa 3), .inl (tc 0, 6, .inl g_21)), ((Aa 4), .inl (tc 0, 6, .inl (Af 4))), ((Aa 5), .inl (tc 0, 6, .inl (Af 5))), ((Aa 6), .inl (tc 0, 6, .inl (Af 6))), ((Aa 7), .inl (tc 0, 6, .inl (Af 7))), ((Aa 8), .inl (tc 0, 6, .inl (Af 8))), ((Ta 0), .inr (10, [.ref (Ta 1), .int (Tv 0), .int sv_27, .int sv_28, .int sv_29, .int sv_30])), ((Ta 1), .inl (tc 0, 400, .inl (Tf 1)))] H := hP₀
      replace hD : va_D A [((Wa 0), .inr (0, [.ref (Aa 0)])), ((Aa 0), .inr (9, [.int (Av 0), .int (Av 1), .int (Av 2), .int (Av 3), .int (Av 4), .int (Av 5), .ref (Aa 1), .ref (Aa 2), .ref (Aa 3), .ref (Aa 4), .ref (Aa 5), .ref (Aa 6), .ref (Aa 7), .ref (Aa 8)])), ((Aa 1), .inl (tc 0, 10, .inl (Af 1))), ((Aa 2), .inl (tc 0, 10, .inl (Af 2))), ((Aa 3), .inl (tc 0, 6, .inl g_21)), ((Aa 4), .inl (tc 0, 6, .inl (Af 4))), ((Aa 5), .inl (tc 0, 6, .inl (Af 5))), ((Aa 6), .inl (tc 0, 6, .inl (Af 6))), ((Aa 7), .inl (tc 0, 6, .inl (Af 7))), ((Aa 8), .inl (tc 0, 6, .inl (Af 8))), ((Ta 0), .inr (10, [.ref (Ta 1), .int (Tv 0), .int sv_27, .int sv_28, .int sv_29, .int sv_30])), ((Ta 1), .inl (tc 0, 400, .inl (Tf 1)))] := hD₀
      replace hS := hS₀
      clear hP₀ hD₀ hS₀
      have hi_38 : vp_in (Av 3) 6 := by
        have z_1 := Int32.le_iff_toInt_le.mp (Int32.not_lt.mp c_2)
        have z_2 := Int32.lt_iff_toInt_lt.mp c_3
        have y_0 : (0 : Int32).toInt = 0 := by decide
        have y_6 : (6 : Int32).toInt = 6 := by decide
        refine vp_in_iff.mpr ⟨?_, ?_⟩ <;> omega
      refine st_int hx hb hK hP hD hS 5 0 rfl rfl hi_38 dX0_readBuyer_50 (fun g_39 H locs eg_39 hP₀ hD₀ hS₀ => ?_)
      replace hP : va_P D classes [((Wa 0), .inr (0, [.ref (Aa 0)])), ((Aa 0), .inr (9, [.int (Av 0), .int (Av 1), .int (Av 2), .int (Av 3), .int (Av 4), .int (Av 5), .ref (Aa 1), .ref (Aa 2), .ref (Aa 3), .ref (Aa 4), .ref (Aa 5), .ref (Aa 6), .ref (Aa 7), .ref (Aa 8)])), ((Aa 1), .inl (tc 0, 10, .inl (Af 1))), ((Aa 2), .inl (tc 0, 10, .inl (Af 2))), ((Aa 3), .inl (tc 0, 6, .inl g_21)), ((Aa 4), .inl (tc 0, 6, .inl g_39)), ((Aa 5), .inl (tc 0, 6, .inl (Af 5))), ((Aa 6), .inl (tc 0, 6, .inl (Af 6))), ((Aa 7), .inl (tc 0, 6, .inl (Af 7))), ((Aa 8), .inl (tc 0, 6, .inl (Af 8))), ((Ta 0), .inr (10, [.ref (Ta 1), .int (Tv 0), .int sv_27, .int sv_28, .int sv_29, .int sv_30])), ((Ta 1), .inl (tc 0, 400, .inl (Tf 1)))] H := hP₀
      replace hD : va_D A [((Wa 0), .inr (0, [.ref (Aa 0)])), ((Aa 0), .inr (9, [.int (Av 0), .int (Av 1), .int (Av 2), .int (Av 3), .int (Av 4), .int (Av 5), .ref (Aa 1), .ref (Aa 2), .ref (Aa 3), .ref (Aa 4), .ref (Aa 5), .ref (Aa 6), .ref (Aa 7), .ref (Aa 8)])), ((Aa 1), .inl (tc 0, 10, .inl (Af 1))), ((Aa 2), .inl (tc 0, 10, .inl (Af 2))), ((Aa 3), .inl (tc 0, 6, .inl g_21)), ((Aa 4), .inl (tc 0, 6, .inl g_39)), ((Aa 5), .inl (tc 0, 6, .inl (Af 5))), ((Aa 6), .inl (tc 0, 6, .inl (Af 6))), ((Aa 7), .inl (tc 0, 6, .inl (Af 7))), ((Aa 8), .inl (tc 0, 6, .inl (Af 8))), ((Ta 0), .inr (10, [.ref (Ta 1), .int (Tv 0), .int sv_27, .int sv_28, .int sv_29, .int sv_30])), ((Ta 1), .inl (tc 0, 400, .inl (Tf 1)))] := hD₀
      replace hS := hS₀
      clear hP₀ hD₀ hS₀
      refine lv_aload_n hx hb dX0_readBuyer_51 rfl (lv_at hl 1 rfl) ?_
      refine gf_X0_12 hx hb hts hown hK hP 0 rfl rfl dX0_readBuyer_52 ?_
      refine gf_X0_97 hx hb hts hown hK hP 1 rfl rfl dX0_readBuyer_55 ?_
      refine lv_iload_n hx hb dX0_readBuyer_58 rfl (lv_at hl 0 rfl) ?_
      refine lv_aload_n hx hb dX0_readBuyer_59 rfl (lv_at hl 2 rfl) ?_
      refine lv_iconst (v := 0) hx hb dX0_readBuyer_60 (by decide) ?_
      refine lv_bipush (v := 9) hx hb dX0_readBuyer_61 (by decide) ?_
      have ha_40 : (0 : Int32).toInt = (0 : Int) := by
        have z_1 := Int32.le_iff_toInt_le.mp (Int32.not_lt.mp c_2)
        have z_2 := Int32.lt_iff_toInt_lt.mp c_3
        have y_0 : (0 : Int32).toInt = 0 := by decide
        have y_6 : (6 : Int32).toInt = 6 := by decide
        omega
      have ha_41 : (9 : Int32).toInt = (9 : Int) := by
        have z_1 := Int32.le_iff_toInt_le.mp (Int32.not_lt.mp c_2)
        have z_2 := Int32.lt_iff_toInt_lt.mp c_3
        have y_0 : (0 : Int32).toInt = 0 := by decide
        have y_6 : (6 : Int32).toInt = 6 := by decide
        have y_9 : (9 : Int32).toInt = 9 := by decide
        omega
      refine cV (a := (Ta 0)) (As := [.int 0, .int 9]) (rest := [.int (Av 3), .ref (Aa 5)]) (wr := [((Wa 0), .inr (0, [.ref (Aa 0)])), ((Aa 0), .inr (9, [.int (Av 0), .int (Av 1), .int (Av 2), .int (Av 3), .int (Av 4), .int (Av 5), .ref (Aa 1), .ref (Aa 2), .ref (Aa 3), .ref (Aa 4), .ref (Aa 5), .ref (Aa 6), .ref (Aa 7), .ref (Aa 8)])), ((Aa 1), .inl (tc 0, 10, .inl (Af 1))), ((Aa 2), .inl (tc 0, 10, .inl (Af 2))), ((Aa 3), .inl (tc 0, 6, .inl g_21)), ((Aa 4), .inl (tc 0, 6, .inl g_39)), ((Aa 5), .inl (tc 0, 6, .inl (Af 5))), ((Aa 6), .inl (tc 0, 6, .inl (Af 6))), ((Aa 7), .inl (tc 0, 6, .inl (Af 7))), ((Aa 8), .inl (tc 0, 6, .inl (Af 8)))]) ⟨hx, hb, hml, hown, hts⟩ hK hX hA (cu_fX10_takeNumber l D tc sk (Ta 0) (Ta 1) (Tv 0) sv_27 sv_28 sv_29 sv_30 (Tf 1) 0 9 ro_36 0 9 pf_31 h_by pf_32 ha_40 ha_41) k_566 k_563 k_564 k_565 k_96 pl_X10_takeNumber ⟨Nat.le_of_ble_eq_true rfl, Nat.le_of_ble_eq_true rfl⟩ rfl rfl (va_recv hK hP (ci := 10) (q0 := 10) rfl rfl) hP hD hS [10, 11] [0, 1, 2, 3, 4, 5, 6, 7, 8, 9] rfl rfl rfl rfl rfl (by decide) rfl hl.1 rfl (Nat.le_of_ble_eq_true rfl) dX0_readBuyer_63 ⟨Nat.le_of_ble_eq_true rfl, Nat.le_of_ble_eq_true rfl⟩ (fun v_42 u_43 H locs hv_44 hP₀ hD₀ hS₀ => ?_)
      obtain ⟨sv_45, sv_46, sv_47, sv_48⟩ := u_43
      obtain ⟨r_51, rfl, he_52, pf_49, pf_50⟩ := hv_44
      have he_52 : NuV (cB (Tf 1) (Tv 0)) (0 : Int) (9 : Int) ro_36 r_51 := he_52
      have pf_49 : 0 ≤ ((Tv 0) : Int32).toInt ∧ ((Tv 0) : Int32).toInt ≤ 400 ∧ 0 ≤ (sv_45 : Int32).toInt ∧ (sv_45 : Int32).toInt ≤ 400 ∧ 0 ≤ (sv_46 : Int32).toInt ∧ (sv_46 : Int32).toInt ≤ 400 := pf_49
      have pf_50 : TpR (Tf 1) (Tv 0) (rNX (cB (Tf 1) (Tv 0)) (rNU (cB (Tf 1) (Tv 0)) (0 : Int) (9 : Int) ro_36)) sv_45 sv_46 sv_47 sv_48 := pf_50
      obtain ⟨ro_54, ero_54⟩ : ∃ z : Except Int (Nat × Nat), z = (rNX (cB (Tf 1) (Tv 0)) (rNU (cB (Tf 1) (Tv 0)) 0 9 ro_36)) := ⟨_, rfl⟩
      rw [← ero_54] at pf_50
      have tb_55 : TpB (rTE (cB (Tf 1) (Tv 0)) ro_54) sv_46 sv_48 := TpR.tb pf_50
      refine W.eq (g2 := F0 m 66 ls [.int r_51, .int (Av 3), .ref (Aa 5)]) rfl ?_
      replace hP : va_P D classes [((Wa 0), .inr (0, [.ref (Aa 0)])), ((Aa 0), .inr (9, [.int (Av 0), .int (Av 1), .int (Av 2), .int (Av 3), .int (Av 4), .int (Av 5), .ref (Aa 1), .ref (Aa 2), .ref (Aa 3), .ref (Aa 4), .ref (Aa 5), .ref (Aa 6), .ref (Aa 7), .ref (Aa 8)])), ((Aa 1), .inl (tc 0, 10, .inl (Af 1))), ((Aa 2), .inl (tc 0, 10, .inl (Af 2))), ((Aa 3), .inl (tc 0, 6, .inl g_21)), ((Aa 4), .inl (tc 0, 6, .inl g_39)), ((Aa 5), .inl (tc 0, 6, .inl (Af 5))), ((Aa 6), .inl (tc 0, 6, .inl (Af 6))), ((Aa 7), .inl (tc 0, 6, .inl (Af 7))), ((Aa 8), .inl (tc 0, 6, .inl (Af 8))), ((Ta 0), .inr (10, [.ref (Ta 1), .int (Tv 0), .int sv_45, .int sv_46, .int sv_47, .int sv_48])), ((Ta 1), .inl (tc 0, 400, .inl (Tf 1)))] H := hP₀
      replace hD : va_D A [((Wa 0), .inr (0, [.ref (Aa 0)])), ((Aa 0), .inr (9, [.int (Av 0), .int (Av 1), .int (Av 2), .int (Av 3), .int (Av 4), .int (Av 5), .ref (Aa 1), .ref (Aa 2), .ref (Aa 3), .ref (Aa 4), .ref (Aa 5), .ref (Aa 6), .ref (Aa 7), .ref (Aa 8)])), ((Aa 1), .inl (tc 0, 10, .inl (Af 1))), ((Aa 2), .inl (tc 0, 10, .inl (Af 2))), ((Aa 3), .inl (tc 0, 6, .inl g_21)), ((Aa 4), .inl (tc 0, 6, .inl g_39)), ((Aa 5), .inl (tc 0, 6, .inl (Af 5))), ((Aa 6), .inl (tc 0, 6, .inl (Af 6))), ((Aa 7), .inl (tc 0, 6, .inl (Af 7))), ((Aa 8), .inl (tc 0, 6, .inl (Af 8))), ((Ta 0), .inr (10, [.ref (Ta 1), .int (Tv 0), .int sv_45, .int sv_46, .int sv_47, .int sv_48])), ((Ta 1), .inl (tc 0, 400, .inl (Tf 1)))] := hD₀
      replace hS := hS₀
      clear hP₀ hD₀ hS₀
      have hi_56 : vp_in (Av 3) 6 := by
        have z_1 := Int32.le_iff_toInt_le.mp (Int32.not_lt.mp c_2)
        have z_2 := Int32.lt_iff_toInt_lt.mp c_3
        have y_0 : (0 : Int32).toInt = 0 := by decide
        have y_6 : (6 : Int32).toInt = 6 := by decide
        refine vp_in_iff.mpr ⟨?_, ?_⟩ <;> omega
      refine st_int hx hb hK hP hD hS 6 0 rfl rfl hi_56 dX0_readBuyer_66 (fun g_57 H locs eg_57 hP₀ hD₀ hS₀ => ?_)
      replace hP : va_P D classes [((Wa 0), .inr (0, [.ref (Aa 0)])), ((Aa 0), .inr (9, [.int (Av 0), .int (Av 1), .int (Av 2), .int (Av 3), .int (Av 4), .int (Av 5), .ref (Aa 1), .ref (Aa 2), .ref (Aa 3), .ref (Aa 4), .ref (Aa 5), .ref (Aa 6), .ref (Aa 7), .ref (Aa 8)])), ((Aa 1), .inl (tc 0, 10, .inl (Af 1))), ((Aa 2), .inl (tc 0, 10, .inl (Af 2))), ((Aa 3), .inl (tc 0, 6, .inl g_21)), ((Aa 4), .inl (tc 0, 6, .inl g_39)), ((Aa 5), .inl (tc 0, 6, .inl g_57)), ((Aa 6), .inl (tc 0, 6, .inl (Af 6))), ((Aa 7), .inl (tc 0, 6, .inl (Af 7))), ((Aa 8), .inl (tc 0, 6, .inl (Af 8))), ((Ta 0), .inr (10, [.ref (Ta 1), .int (Tv 0), .int sv_45, .int sv_46, .int sv_47, .int sv_48])), ((Ta 1), .inl (tc 0, 400, .inl (Tf 1)))] H := hP₀
      replace hD : va_D A [((Wa 0), .inr (0, [.ref (Aa 0)])), ((Aa 0), .inr (9, [.int (Av 0), .int (Av 1), .int (Av 2), .int (Av 3), .int (Av 4), .int (Av 5), .ref (Aa 1), .ref (Aa 2), .ref (Aa 3), .ref (Aa 4), .ref (Aa 5), .ref (Aa 6), .ref (Aa 7), .ref (Aa 8)])), ((Aa 1), .inl (tc 0, 10, .inl (Af 1))), ((Aa 2), .inl (tc 0, 10, .inl (Af 2))), ((Aa 3), .inl (tc 0, 6, .inl g_21)), ((Aa 4), .inl (tc 0, 6, .inl g_39)), ((Aa 5), .inl (tc 0, 6, .inl g_57)), ((Aa 6), .inl (tc 0, 6, .inl (Af 6))), ((Aa 7), .inl (tc 0, 6, .inl (Af 7))), ((Aa 8), .inl (tc 0, 6, .inl (Af 8))), ((Ta 0), .inr (10, [.ref (Ta 1), .int (Tv 0), .int sv_45, .int sv_46, .int sv_47, .int sv_48])), ((Ta 1), .inl (tc 0, 400, .inl (Tf 1)))] := hD₀
      replace hS := hS₀
      clear hP₀ hD₀ hS₀
      refine lv_aload_n hx hb dX0_readBuyer_67 rfl (lv_at hl 1 rfl) ?_
      refine gf_X0_12 hx hb hts hown hK hP 0 rfl rfl dX0_readBuyer_68 ?_
      refine lv_dup hx hb dX0_readBuyer_71 rfl ?_
      refine gf_X0_51 hx hb hts hown hK hP 1 rfl rfl dX0_readBuyer_72 ?_
      refine lv_iconst (v := 1) hx hb dX0_readBuyer_75 (by decide) ?_
      refine lv_iadd hx hb dX0_readBuyer_76 ?_
      refine lv_topi (fun x_58 ex_58 => ?_)
      refine pf_X0_51 hx hb hts hown hK hP hD hS 1 rfl (Nat.le_of_ble_eq_true rfl) rfl rfl dX0_readBuyer_77 (fun H locs hP₀ hD₀ hS₀ => ?_)
      replace hP : va_P D classes [((Wa 0), .inr (0, [.ref (Aa 0)])), ((Aa 0), .inr (9, [.int (Av 0), .int (Av 1), .int (Av 2), .int x_58, .int (Av 4), .int (Av 5), .ref (Aa 1), .ref (Aa 2), .ref (Aa 3), .ref (Aa 4), .ref (Aa 5), .ref (Aa 6), .ref (Aa 7), .ref (Aa 8)])), ((Aa 1), .inl (tc 0, 10, .inl (Af 1))), ((Aa 2), .inl (tc 0, 10, .inl (Af 2))), ((Aa 3), .inl (tc 0, 6, .inl g_21)), ((Aa 4), .inl (tc 0, 6, .inl g_39)), ((Aa 5), .inl (tc 0, 6, .inl g_57)), ((Aa 6), .inl (tc 0, 6, .inl (Af 6))), ((Aa 7), .inl (tc 0, 6, .inl (Af 7))), ((Aa 8), .inl (tc 0, 6, .inl (Af 8))), ((Ta 0), .inr (10, [.ref (Ta 1), .int (Tv 0), .int sv_45, .int sv_46, .int sv_47, .int sv_48])), ((Ta 1), .inl (tc 0, 400, .inl (Tf 1)))] H := hP₀
      replace hD : va_D A [((Wa 0), .inr (0, [.ref (Aa 0)])), ((Aa 0), .inr (9, [.int (Av 0), .int (Av 1), .int (Av 2), .int x_58, .int (Av 4), .int (Av 5), .ref (Aa 1), .ref (Aa 2), .ref (Aa 3), .ref (Aa 4), .ref (Aa 5), .ref (Aa 6), .ref (Aa 7), .ref (Aa 8)])), ((Aa 1), .inl (tc 0, 10, .inl (Af 1))), ((Aa 2), .inl (tc 0, 10, .inl (Af 2))), ((Aa 3), .inl (tc 0, 6, .inl g_21)), ((Aa 4), .inl (tc 0, 6, .inl g_39)), ((Aa 5), .inl (tc 0, 6, .inl g_57)), ((Aa 6), .inl (tc 0, 6, .inl (Af 6))), ((Aa 7), .inl (tc 0, 6, .inl (Af 7))), ((Aa 8), .inl (tc 0, 6, .inl (Af 8))), ((Ta 0), .inr (10, [.ref (Ta 1), .int (Tv 0), .int sv_45, .int sv_46, .int sv_47, .int sv_48])), ((Ta 1), .inl (tc 0, 400, .inl (Tf 1)))] := hD₀
      replace hS := hS₀
      clear hP₀ hD₀ hS₀
      have ha_59 : 0 ≤ (x_58 : Int32).toInt ∧ (x_58 : Int32).toInt ≤ 6 := by
        have z_1 := Int32.le_iff_toInt_le.mp (Int32.not_lt.mp c_2)
        have z_2 := Int32.lt_iff_toInt_lt.mp c_3
        have y_0 : (0 : Int32).toInt = 0 := by decide
        have y_6 : (6 : Int32).toInt = 6 := by decide
        have y_1 : (1 : Int32).toInt = 1 := by decide
        have t_x_58 : x_58.toInt = ((Av 3) : Int32).toInt + (1 : Int32).toInt := by rw [ex_58]; exact add_toInt (by omega) (by omega)
        omega
      have ha_60 : (x_58 : Int32).toInt = (Av 3).toInt + 1 := by
        have z_1 := Int32.le_iff_toInt_le.mp (Int32.not_lt.mp c_2)
        have z_2 := Int32.lt_iff_toInt_lt.mp c_3
        have y_0 : (0 : Int32).toInt = 0 := by decide
        have y_6 : (6 : Int32).toInt = 6 := by decide
        have y_1 : (1 : Int32).toInt = 1 := by decide
        have t_x_58 : x_58.toInt = ((Av 3) : Int32).toInt + (1 : Int32).toInt := by rw [ex_58]; exact add_toInt (by omega) (by omega)
        omega
      have hu_61 : TpR (Tf 1) (Tv 0) (rNX (cB (Tf 1) (Tv 0)) (rNU (cB (Tf 1) (Tv 0)) 0 9 (rNX (cB (Tf 1) (Tv 0)) (rNU (cB (Tf 1) (Tv 0)) 1 9 (rNX (cB (Tf 1) (Tv 0)) (rNU (cB (Tf 1) (Tv 0)) 0 20 rr)))))) sv_45 sv_46 sv_47 sv_48 := by
        rw [← ero_18, ← ero_36, ← ero_54]
        exact pf_50
      have hf_62 : TpR (Tf 1) (Tv 0) (rN1 (cB (Tf 1) (Tv 0)) 0 9 (rN1 (cB (Tf 1) (Tv 0)) 1 9 (rN1 (cB (Tf 1) (Tv 0)) 0 20 rr))) sv_45 sv_46 sv_47 sv_48 := hu_61
      exact retV hx hb hr hlk hP hD hS (x_58, g_21, g_39, g_57, sv_45, sv_46, sv_47, sv_48) ⟨rfl, pf_49, ha_59, ha_60, hf_62⟩ [0, 1, 2, 3, 4, 5, 6, 7, 8, 9, 10, 11] rfl rfl dX0_readBuyer_80 (Nat.le_of_ble_eq_true rfl) (Nat.le_of_ble_eq_true rfl) rfl
    · skip
      exfalso
      have z_1 := Int32.le_iff_toInt_le.mp (Int32.not_lt.mp c_2)
      have z_2 := Int32.le_iff_toInt_le.mp (Int32.not_lt.mp c_3)
      have y_0 : (0 : Int32).toInt = 0 := by decide
      have y_6 : (6 : Int32).toInt = 6 := by decide
      omega
set_option maxRecDepth 100000 in
theorem cu_fX0_readBuyer (l : Launch) (D : va_G) (tc : Nat → ClassId) (sk : (Nat → Nat) × (Nat → Nat)) (Wa_0 : Nat) (Aa_0 : Nat) (Aa_1 : Nat) (Aa_2 : Nat) (Aa_3 : Nat) (Aa_4 : Nat) (Aa_5 : Nat) (Aa_6 : Nat) (Aa_7 : Nat) (Aa_8 : Nat) (Av_0 : Int32) (Av_1 : Int32) (Av_2 : Int32) (Av_3 : Int32) (Av_4 : Int32) (Av_5 : Int32) (Af_1 : Nat → Int32) (Af_2 : Nat → Int32) (Af_3 : Nat → Int32) (Af_4 : Nat → Int32) (Af_5 : Nat → Int32) (Af_6 : Nat → Int32) (Af_7 : Nat → Int32) (Af_8 : Nat → Int32) (Ta_0 : Nat) (Ta_1 : Nat) (Tv_0 : Int32) (Tv_1 : Int32) (Tv_2 : Int32) (Tv_3 : Int32) (Tv_4 : Int32) (Tf_1 : Nat → Int32) (rr : Except Int (Nat × Nat)) (h_tape : 0 ≤ (Tv_0 : Int32).toInt ∧ (Tv_0 : Int32).toInt ≤ 400 ∧ 0 ≤ (Tv_1 : Int32).toInt ∧ (Tv_1 : Int32).toInt ≤ 400 ∧ 0 ≤ (Tv_2 : Int32).toInt ∧ (Tv_2 : Int32).toInt ≤ 400) (h_by : Byt Tf_1) (h_r : TpR Tf_1 Tv_0 rr Tv_1 Tv_2 Tv_3 Tv_4) (h_b6 : 0 ≤ Av_3.toInt ∧ Av_3.toInt < 6) : Ct l yX0_readBuyer cX0_readBuyer 3 none { frames := 3, cells := 0, slots := 0, locals := 68 } D tc sk [.ref Wa_0, .ref Ta_0] [(Wa_0, .inr (0, [.ref Aa_0])), (Aa_0, .inr (9, [.int Av_0, .int Av_1, .int Av_2, .int Av_3, .int Av_4, .int Av_5, .ref Aa_1, .ref Aa_2, .ref Aa_3, .ref Aa_4, .ref Aa_5, .ref Aa_6, .ref Aa_7, .ref Aa_8])), (Aa_1, .inl (tc 0, 10, .inl Af_1)), (Aa_2, .inl (tc 0, 10, .inl Af_2)), (Aa_3, .inl (tc 0, 6, .inl Af_3)), (Aa_4, .inl (tc 0, 6, .inl Af_4)), (Aa_5, .inl (tc 0, 6, .inl Af_5)), (Aa_6, .inl (tc 0, 6, .inl Af_6)), (Aa_7, .inl (tc 0, 6, .inl Af_7)), (Aa_8, .inl (tc 0, 6, .inl Af_8)), (Ta_0, .inr (10, [.ref Ta_1, .int Tv_0, .int Tv_1, .int Tv_2, .int Tv_3, .int Tv_4])), (Ta_1, .inl (tc 0, 400, .inl Tf_1))] (fun (v : Option Value) (u : (Int32) × (Nat → Int32) × (Nat → Int32) × (Nat → Int32) × (Int32) × (Int32) × (Int32) × (Int32)) => match u with | (oo0x1, oo0x2, oo0x3, oo0x4, oo0x5, oo0x6, oo0x7, oo0x8) => v = none ∧ (0 ≤ (Tv_0 : Int32).toInt ∧ (Tv_0 : Int32).toInt ≤ 400 ∧ 0 ≤ (oo0x5 : Int32).toInt ∧ (oo0x5 : Int32).toInt ≤ 400 ∧ 0 ≤ (oo0x6 : Int32).toInt ∧ (oo0x6 : Int32).toInt ≤ 400) ∧ (0 ≤ (oo0x1 : Int32).toInt ∧ (oo0x1 : Int32).toInt ≤ 6) ∧ ((oo0x1 : Int32).toInt = Av_3.toInt + 1) ∧ (TpR Tf_1 Tv_0 (rN1 (cB Tf_1 Tv_0) 0 9 (rN1 (cB Tf_1 Tv_0) 1 9 (rN1 (cB Tf_1 Tv_0) 0 20 rr))) oo0x5 oo0x6 oo0x7 oo0x8)) (fun (u : (Int32) × (Nat → Int32) × (Nat → Int32) × (Nat → Int32) × (Int32) × (Int32) × (Int32) × (Int32)) => match u with | (oo0x1, oo0x2, oo0x3, oo0x4, oo0x5, oo0x6, oo0x7, oo0x8) => [(Wa_0, .inr (0, [.ref Aa_0])), (Aa_0, .inr (9, [.int Av_0, .int Av_1, .int Av_2, .int oo0x1, .int Av_4, .int Av_5, .ref Aa_1, .ref Aa_2, .ref Aa_3, .ref Aa_4, .ref Aa_5, .ref Aa_6, .ref Aa_7, .ref Aa_8])), (Aa_1, .inl (tc 0, 10, .inl Af_1)), (Aa_2, .inl (tc 0, 10, .inl Af_2)), (Aa_3, .inl (tc 0, 6, .inl oo0x2)), (Aa_4, .inl (tc 0, 6, .inl oo0x3)), (Aa_5, .inl (tc 0, 6, .inl oo0x4)), (Aa_6, .inl (tc 0, 6, .inl Af_6)), (Aa_7, .inl (tc 0, 6, .inl Af_7)), (Aa_8, .inl (tc 0, 6, .inl Af_8)), (Ta_0, .inr (10, [.ref Ta_1, .int Tv_0, .int oo0x5, .int oo0x6, .int oo0x7, .int oo0x8])), (Ta_1, .inl (tc 0, 400, .inl Tf_1))]) 0 0 :=
  ct_fX0_readBuyer l D tc sk (fun k => ([Wa_0] : List (Nat)).getD k 0) (fun k => ([Aa_0, Aa_1, Aa_2, Aa_3, Aa_4, Aa_5, Aa_6, Aa_7, Aa_8] : List (Nat)).getD k 0) (fun k => ([Av_0, Av_1, Av_2, Av_3, Av_4, Av_5] : List (Int32)).getD k 0) (fun k => ([(fun _ => 0), Af_1, Af_2, Af_3, Af_4, Af_5, Af_6, Af_7, Af_8] : List (Nat → Int32)).getD k (fun _ => 0)) (fun k => ([Ta_0, Ta_1] : List (Nat)).getD k 0) (fun k => ([Tv_0, Tv_1, Tv_2, Tv_3, Tv_4] : List (Int32)).getD k 0) (fun k => ([(fun _ => 0), Tf_1] : List (Nat → Int32)).getD k (fun _ => 0)) rr h_tape h_by h_r h_b6
set_option maxHeartbeats 4000000 in
set_option maxRecDepth 100000 in
theorem ct_fX0_readWatch (l : Launch) (D : va_G) (tc : Nat → ClassId) (sk : (Nat → Nat) × (Nat → Nat)) (Wa : Nat → Nat) (Aa : Nat → Nat) (Av : Nat → Int32) (Af : Nat → Nat → Int32) (Ta : Nat → Nat) (Tv : Nat → Int32) (Tf : Nat → Nat → Int32) (rr : Except Int (Nat × Nat)) (h_tape : 0 ≤ ((Tv 0) : Int32).toInt ∧ ((Tv 0) : Int32).toInt ≤ 400 ∧ 0 ≤ ((Tv 1) : Int32).toInt ∧ ((Tv 1) : Int32).toInt ≤ 400 ∧ 0 ≤ ((Tv 2) : Int32).toInt ∧ ((Tv 2) : Int32).toInt ≤ 400) (h_by : Byt (Tf 1)) (h_r : TpR (Tf 1) (Tv 0) rr (Tv 1) (Tv 2) (Tv 3) (Tv 4)) (h_bu : 0 ≤ ((Av 3) : Int32).toInt ∧ ((Av 3) : Int32).toInt ≤ 6) : Ct l yX0_readWatch cX0_readWatch 4 none { frames := 3, cells := 0, slots := 0, locals := 68 } D tc sk [.ref (Wa 0), .ref (Ta 0)] [((Wa 0), .inr (0, [.ref (Aa 0)])), ((Aa 0), .inr (9, [.int (Av 0), .int (Av 1), .int (Av 2), .int (Av 3), .int (Av 4), .int (Av 5), .ref (Aa 1), .ref (Aa 2), .ref (Aa 3), .ref (Aa 4), .ref (Aa 5), .ref (Aa 6), .ref (Aa 7), .ref (Aa 8)])), ((Aa 1), .inl (tc 0, 10, .inl (Af 1))), ((Aa 2), .inl (tc 0, 10, .inl (Af 2))), ((Aa 3), .inl (tc 0, 6, .inl (Af 3))), ((Aa 4), .inl (tc 0, 6, .inl (Af 4))), ((Aa 5), .inl (tc 0, 6, .inl (Af 5))), ((Aa 6), .inl (tc 0, 6, .inl (Af 6))), ((Aa 7), .inl (tc 0, 6, .inl (Af 7))), ((Aa 8), .inl (tc 0, 6, .inl (Af 8))), ((Ta 0), .inr (10, [.ref (Ta 1), .int (Tv 0), .int (Tv 1), .int (Tv 2), .int (Tv 3), .int (Tv 4)])), ((Ta 1), .inl (tc 0, 400, .inl (Tf 1)))] (fun (v : Option Value) (u : (Nat → Int32) × (Int32) × (Int32) × (Int32) × (Int32)) => match u with | (oo0x1, oo0x2, oo0x3, oo0x4, oo0x5) => v = none ∧ (0 ≤ ((Tv 0) : Int32).toInt ∧ ((Tv 0) : Int32).toInt ≤ 400 ∧ 0 ≤ (oo0x2 : Int32).toInt ∧ (oo0x2 : Int32).toInt ≤ 400 ∧ 0 ≤ (oo0x3 : Int32).toInt ∧ (oo0x3 : Int32).toInt ≤ 400) ∧ (0 ≤ ((Av 3) : Int32).toInt ∧ ((Av 3) : Int32).toInt ≤ 6) ∧ (TpR (Tf 1) (Tv 0) (rN1 (cB (Tf 1) (Tv 0)) 0 ((Av 3).toInt - 1) (rN1 (cB (Tf 1) (Tv 0)) 0 ((Av 2) - 1 : Int32).toInt rr)) oo0x2 oo0x3 oo0x4 oo0x5)) (fun (u : (Nat → Int32) × (Int32) × (Int32) × (Int32) × (Int32)) => match u with | (oo0x1, oo0x2, oo0x3, oo0x4, oo0x5) => [((Wa 0), .inr (0, [.ref (Aa 0)])), ((Aa 0), .inr (9, [.int (Av 0), .int (Av 1), .int (Av 2), .int (Av 3), .int (Av 4), .int (Av 5), .ref (Aa 1), .ref (Aa 2), .ref (Aa 3), .ref (Aa 4), .ref (Aa 5), .ref (Aa 6), .ref (Aa 7), .ref (Aa 8)])), ((Aa 1), .inl (tc 0, 10, .inl (Af 1))), ((Aa 2), .inl (tc 0, 10, .inl oo0x1)), ((Aa 3), .inl (tc 0, 6, .inl (Af 3))), ((Aa 4), .inl (tc 0, 6, .inl (Af 4))), ((Aa 5), .inl (tc 0, 6, .inl (Af 5))), ((Aa 6), .inl (tc 0, 6, .inl (Af 6))), ((Aa 7), .inl (tc 0, 6, .inl (Af 7))), ((Aa 8), .inl (tc 0, 6, .inl (Af 8))), ((Ta 0), .inr (10, [.ref (Ta 1), .int (Tv 0), .int oo0x2, .int oo0x3, .int oo0x4, .int oo0x5])), ((Ta 1), .inl (tc 0, 400, .inl (Tf 1)))]) 0 0 := by
  refine Ct.start (by decide) (Nat.le_of_ble_eq_true rfl) (fun p e s m below meth c A ls hx hb hr hlk hin hml hown hts hK hX hP hD hA hl hS => ?_)
  have hl : lv_has ls 4 [(0, .ref (Wa 0)), (1, .ref (Ta 0))] := hl
  have tb_1 : TpB (rTE (cB (Tf 1) (Tv 0)) rr) (Tv 2) (Tv 4) := TpR.tb h_r
  refine lv_aload_n hx hb dX0_readWatch_0 rfl (lv_at hl 1 rfl) ?_
  refine lv_iconst (v := 0) hx hb dX0_readWatch_1 (by decide) ?_
  refine lv_aload_n hx hb dX0_readWatch_2 rfl (lv_at hl 0 rfl) ?_
  refine gf_X0_12 hx hb hts hown hK hP 0 rfl rfl dX0_readWatch_3 ?_
  refine gf_X0_80 hx hb hts hown hK hP 1 rfl rfl dX0_readWatch_6 ?_
  refine lv_iconst (v := 1) hx hb dX0_readWatch_9 (by decide) ?_
  refine lv_isub hx hb dX0_readWatch_10 ?_
  refine lv_topi (fun x_2 ex_2 => ?_)
  have ha_3 : (0 : Int32).toInt = (0 : Int) := by
    have y_0 : (0 : Int32).toInt = 0 := by decide
    omega
  refine cV (a := (Ta 0)) (As := [.int 0, .int x_2]) (rest := []) (wr := [((Wa 0), .inr (0, [.ref (Aa 0)])), ((Aa 0), .inr (9, [.int (Av 0), .int (Av 1), .int (Av 2), .int (Av 3), .int (Av 4), .int (Av 5), .ref (Aa 1), .ref (Aa 2), .ref (Aa 3), .ref (Aa 4), .ref (Aa 5), .ref (Aa 6), .ref (Aa 7), .ref (Aa 8)])), ((Aa 1), .inl (tc 0, 10, .inl (Af 1))), ((Aa 2), .inl (tc 0, 10, .inl (Af 2))), ((Aa 3), .inl (tc 0, 6, .inl (Af 3))), ((Aa 4), .inl (tc 0, 6, .inl (Af 4))), ((Aa 5), .inl (tc 0, 6, .inl (Af 5))), ((Aa 6), .inl (tc 0, 6, .inl (Af 6))), ((Aa 7), .inl (tc 0, 6, .inl (Af 7))), ((Aa 8), .inl (tc 0, 6, .inl (Af 8)))]) ⟨hx, hb, hml, hown, hts⟩ hK hX hA (cu_fX10_takeNumber l D tc sk (Ta 0) (Ta 1) (Tv 0) (Tv 1) (Tv 2) (Tv 3) (Tv 4) (Tf 1) 0 x_2 rr 0 (((Av 2) - 1 : Int32).toInt) h_tape h_by h_r ha_3 (congrArg Int32.toInt ex_2)) k_566 k_563 k_564 k_565 k_96 pl_X10_takeNumber ⟨Nat.le_of_ble_eq_true rfl, Nat.le_of_ble_eq_true rfl⟩ rfl rfl (va_recv hK hP (ci := 10) (q0 := 10) rfl rfl) hP hD hS [10, 11] [0, 1, 2, 3, 4, 5, 6, 7, 8, 9] rfl rfl rfl rfl rfl (by decide) rfl hl.1 rfl (Nat.le_of_ble_eq_true rfl) dX0_readWatch_11 ⟨Nat.le_of_ble_eq_true rfl, Nat.le_of_ble_eq_true rfl⟩ (fun v_4 u_5 H locs hv_6 hP₀ hD₀ hS₀ => ?_)
  obtain ⟨sv_7, sv_8, sv_9, sv_10⟩ := u_5
  obtain ⟨r_13, rfl, he_14, pf_11, pf_12⟩ := hv_6
  have he_14 : NuV (cB (Tf 1) (Tv 0)) (0 : Int) ((Av 2) - 1 : Int32).toInt rr r_13 := he_14
  have pf_11 : 0 ≤ ((Tv 0) : Int32).toInt ∧ ((Tv 0) : Int32).toInt ≤ 400 ∧ 0 ≤ (sv_7 : Int32).toInt ∧ (sv_7 : Int32).toInt ≤ 400 ∧ 0 ≤ (sv_8 : Int32).toInt ∧ (sv_8 : Int32).toInt ≤ 400 := pf_11
  have pf_12 : TpR (Tf 1) (Tv 0) (rNX (cB (Tf 1) (Tv 0)) (rNU (cB (Tf 1) (Tv 0)) (0 : Int) ((Av 2) - 1 : Int32).toInt rr)) sv_7 sv_8 sv_9 sv_10 := pf_12
  obtain ⟨ro_16, ero_16⟩ : ∃ z : Except Int (Nat × Nat), z = (rNX (cB (Tf 1) (Tv 0)) (rNU (cB (Tf 1) (Tv 0)) 0 ((Av 2) - 1 : Int32).toInt rr)) := ⟨_, rfl⟩
  rw [← ero_16] at pf_12
  have tb_17 : TpB (rTE (cB (Tf 1) (Tv 0)) ro_16) sv_8 sv_10 := TpR.tb pf_12
  refine W.eq (g2 := F0 m 14 ls [.int r_13]) rfl ?_
  replace hP : va_P D classes [((Wa 0), .inr (0, [.ref (Aa 0)])), ((Aa 0), .inr (9, [.int (Av 0), .int (Av 1), .int (Av 2), .int (Av 3), .int (Av 4), .int (Av 5), .ref (Aa 1), .ref (Aa 2), .ref (Aa 3), .ref (Aa 4), .ref (Aa 5), .ref (Aa 6), .ref (Aa 7), .ref (Aa 8)])), ((Aa 1), .inl (tc 0, 10, .inl (Af 1))), ((Aa 2), .inl (tc 0, 10, .inl (Af 2))), ((Aa 3), .inl (tc 0, 6, .inl (Af 3))), ((Aa 4), .inl (tc 0, 6, .inl (Af 4))), ((Aa 5), .inl (tc 0, 6, .inl (Af 5))), ((Aa 6), .inl (tc 0, 6, .inl (Af 6))), ((Aa 7), .inl (tc 0, 6, .inl (Af 7))), ((Aa 8), .inl (tc 0, 6, .inl (Af 8))), ((Ta 0), .inr (10, [.ref (Ta 1), .int (Tv 0), .int sv_7, .int sv_8, .int sv_9, .int sv_10])), ((Ta 1), .inl (tc 0, 400, .inl (Tf 1)))] H := hP₀
  replace hD : va_D A [((Wa 0), .inr (0, [.ref (Aa 0)])), ((Aa 0), .inr (9, [.int (Av 0), .int (Av 1), .int (Av 2), .int (Av 3), .int (Av 4), .int (Av 5), .ref (Aa 1), .ref (Aa 2), .ref (Aa 3), .ref (Aa 4), .ref (Aa 5), .ref (Aa 6), .ref (Aa 7), .ref (Aa 8)])), ((Aa 1), .inl (tc 0, 10, .inl (Af 1))), ((Aa 2), .inl (tc 0, 10, .inl (Af 2))), ((Aa 3), .inl (tc 0, 6, .inl (Af 3))), ((Aa 4), .inl (tc 0, 6, .inl (Af 4))), ((Aa 5), .inl (tc 0, 6, .inl (Af 5))), ((Aa 6), .inl (tc 0, 6, .inl (Af 6))), ((Aa 7), .inl (tc 0, 6, .inl (Af 7))), ((Aa 8), .inl (tc 0, 6, .inl (Af 8))), ((Ta 0), .inr (10, [.ref (Ta 1), .int (Tv 0), .int sv_7, .int sv_8, .int sv_9, .int sv_10])), ((Ta 1), .inl (tc 0, 400, .inl (Tf 1)))] := hD₀
  replace hS := hS₀
  clear hP₀ hD₀ hS₀
  refine lv_istore_n (lv' := [(2, .int r_13), (0, .ref (Wa 0)), (1, .ref (Ta 0))]) hx hb dX0_readWatch_14 rfl hl (by decide) rfl (fun ls hl₀ => ?_)
  replace hl := hl₀
  clear hl₀
  refine lv_aload_n hx hb dX0_readWatch_15 rfl (lv_at hl 2 rfl) ?_
  refine lv_iconst (v := 0) hx hb dX0_readWatch_16 (by decide) ?_
  refine lv_aload_n hx hb dX0_readWatch_17 rfl (lv_at hl 1 rfl) ?_
  refine gf_X0_12 hx hb hts hown hK hP 0 rfl rfl dX0_readWatch_18 ?_
  refine gf_X0_51 hx hb hts hown hK hP 1 rfl rfl dX0_readWatch_21 ?_
  refine lv_iconst (v := 1) hx hb dX0_readWatch_24 (by decide) ?_
  refine lv_isub hx hb dX0_readWatch_25 ?_
  refine lv_topi (fun x_18 ex_18 => ?_)
  have ha_19 : (0 : Int32).toInt = (0 : Int) := by
    have y_0 : (0 : Int32).toInt = 0 := by decide
    omega
  have ha_20 : x_18.toInt = ((Av 3).toInt - 1) := by
    have y_1 : (1 : Int32).toInt = 1 := by decide
    have t_x_18 : x_18.toInt = ((Av 3) : Int32).toInt - (1 : Int32).toInt := by rw [ex_18]; exact sub_toInt (by omega) (by omega)
    omega
  refine cV (a := (Ta 0)) (As := [.int 0, .int x_18]) (rest := []) (wr := [((Wa 0), .inr (0, [.ref (Aa 0)])), ((Aa 0), .inr (9, [.int (Av 0), .int (Av 1), .int (Av 2), .int (Av 3), .int (Av 4), .int (Av 5), .ref (Aa 1), .ref (Aa 2), .ref (Aa 3), .ref (Aa 4), .ref (Aa 5), .ref (Aa 6), .ref (Aa 7), .ref (Aa 8)])), ((Aa 1), .inl (tc 0, 10, .inl (Af 1))), ((Aa 2), .inl (tc 0, 10, .inl (Af 2))), ((Aa 3), .inl (tc 0, 6, .inl (Af 3))), ((Aa 4), .inl (tc 0, 6, .inl (Af 4))), ((Aa 5), .inl (tc 0, 6, .inl (Af 5))), ((Aa 6), .inl (tc 0, 6, .inl (Af 6))), ((Aa 7), .inl (tc 0, 6, .inl (Af 7))), ((Aa 8), .inl (tc 0, 6, .inl (Af 8)))]) ⟨hx, hb, hml, hown, hts⟩ hK hX hA (cu_fX10_takeNumber l D tc sk (Ta 0) (Ta 1) (Tv 0) sv_7 sv_8 sv_9 sv_10 (Tf 1) 0 x_18 ro_16 0 ((Av 3).toInt - 1) pf_11 h_by pf_12 ha_19 ha_20) k_566 k_563 k_564 k_565 k_96 pl_X10_takeNumber ⟨Nat.le_of_ble_eq_true rfl, Nat.le_of_ble_eq_true rfl⟩ rfl rfl (va_recv hK hP (ci := 10) (q0 := 10) rfl rfl) hP hD hS [10, 11] [0, 1, 2, 3, 4, 5, 6, 7, 8, 9] rfl rfl rfl rfl rfl (by decide) rfl hl.1 rfl (Nat.le_of_ble_eq_true rfl) dX0_readWatch_26 ⟨Nat.le_of_ble_eq_true rfl, Nat.le_of_ble_eq_true rfl⟩ (fun v_21 u_22 H locs hv_23 hP₀ hD₀ hS₀ => ?_)
  obtain ⟨sv_24, sv_25, sv_26, sv_27⟩ := u_22
  obtain ⟨r_30, rfl, he_31, pf_28, pf_29⟩ := hv_23
  have he_31 : NuV (cB (Tf 1) (Tv 0)) (0 : Int) ((Av 3).toInt - 1) ro_16 r_30 := he_31
  have pf_28 : 0 ≤ ((Tv 0) : Int32).toInt ∧ ((Tv 0) : Int32).toInt ≤ 400 ∧ 0 ≤ (sv_24 : Int32).toInt ∧ (sv_24 : Int32).toInt ≤ 400 ∧ 0 ≤ (sv_25 : Int32).toInt ∧ (sv_25 : Int32).toInt ≤ 400 := pf_28
  have pf_29 : TpR (Tf 1) (Tv 0) (rNX (cB (Tf 1) (Tv 0)) (rNU (cB (Tf 1) (Tv 0)) (0 : Int) ((Av 3).toInt - 1) ro_16)) sv_24 sv_25 sv_26 sv_27 := pf_29
  obtain ⟨ro_33, ero_33⟩ : ∃ z : Except Int (Nat × Nat), z = (rNX (cB (Tf 1) (Tv 0)) (rNU (cB (Tf 1) (Tv 0)) 0 ((Av 3).toInt - 1) ro_16)) := ⟨_, rfl⟩
  rw [← ero_33] at pf_29
  have tb_34 : TpB (rTE (cB (Tf 1) (Tv 0)) ro_33) sv_25 sv_27 := TpR.tb pf_29
  refine W.eq (g2 := F0 m 29 ls [.int r_30]) rfl ?_
  replace hP : va_P D classes [((Wa 0), .inr (0, [.ref (Aa 0)])), ((Aa 0), .inr (9, [.int (Av 0), .int (Av 1), .int (Av 2), .int (Av 3), .int (Av 4), .int (Av 5), .ref (Aa 1), .ref (Aa 2), .ref (Aa 3), .ref (Aa 4), .ref (Aa 5), .ref (Aa 6), .ref (Aa 7), .ref (Aa 8)])), ((Aa 1), .inl (tc 0, 10, .inl (Af 1))), ((Aa 2), .inl (tc 0, 10, .inl (Af 2))), ((Aa 3), .inl (tc 0, 6, .inl (Af 3))), ((Aa 4), .inl (tc 0, 6, .inl (Af 4))), ((Aa 5), .inl (tc 0, 6, .inl (Af 5))), ((Aa 6), .inl (tc 0, 6, .inl (Af 6))), ((Aa 7), .inl (tc 0, 6, .inl (Af 7))), ((Aa 8), .inl (tc 0, 6, .inl (Af 8))), ((Ta 0), .inr (10, [.ref (Ta 1), .int (Tv 0), .int sv_24, .int sv_25, .int sv_26, .int sv_27])), ((Ta 1), .inl (tc 0, 400, .inl (Tf 1)))] H := hP₀
  replace hD : va_D A [((Wa 0), .inr (0, [.ref (Aa 0)])), ((Aa 0), .inr (9, [.int (Av 0), .int (Av 1), .int (Av 2), .int (Av 3), .int (Av 4), .int (Av 5), .ref (Aa 1), .ref (Aa 2), .ref (Aa 3), .ref (Aa 4), .ref (Aa 5), .ref (Aa 6), .ref (Aa 7), .ref (Aa 8)])), ((Aa 1), .inl (tc 0, 10, .inl (Af 1))), ((Aa 2), .inl (tc 0, 10, .inl (Af 2))), ((Aa 3), .inl (tc 0, 6, .inl (Af 3))), ((Aa 4), .inl (tc 0, 6, .inl (Af 4))), ((Aa 5), .inl (tc 0, 6, .inl (Af 5))), ((Aa 6), .inl (tc 0, 6, .inl (Af 6))), ((Aa 7), .inl (tc 0, 6, .inl (Af 7))), ((Aa 8), .inl (tc 0, 6, .inl (Af 8))), ((Ta 0), .inr (10, [.ref (Ta 1), .int (Tv 0), .int sv_24, .int sv_25, .int sv_26, .int sv_27])), ((Ta 1), .inl (tc 0, 400, .inl (Tf 1)))] := hD₀
  replace hS := hS₀
  clear hP₀ hD₀ hS₀
  refine lv_istore_n (lv' := [(3, .int r_30), (2, .int r_13), (0, .ref (Wa 0)), (1, .ref (Ta 0))]) hx hb dX0_readWatch_29 rfl hl (by decide) rfl (fun ls hl₀ => ?_)
  replace hl := hl₀
  clear hl₀
  refine lv_aload_n hx hb dX0_readWatch_30 rfl (lv_at hl 2 rfl) ?_
  refine gf_X0_12 hx hb hts hown hK hP 0 rfl rfl dX0_readWatch_31 ?_
  refine lv_iload_n hx hb dX0_readWatch_34 rfl (lv_at hl 1 rfl) ?_
  refine cV (a := (Aa 0)) (As := [.int r_13]) (rest := []) (wr := [((Wa 0), .inr (0, [.ref (Aa 0)])), ((Ta 0), .inr (10, [.ref (Ta 1), .int (Tv 0), .int sv_24, .int sv_25, .int sv_26, .int sv_27])), ((Ta 1), .inl (tc 0, 400, .inl (Tf 1)))]) ⟨hx, hb, hml, hown, hts⟩ hK hX hA (cu_X9_hasClock l D tc sk (Aa 0) (Aa 1) (Aa 2) (Aa 3) (Aa 4) (Aa 5) (Aa 6) (Aa 7) (Aa 8) (Av 0) (Av 1) (Av 2) (Av 3) (Av 4) (Av 5) (Af 1) (Af 2) (Af 3) (Af 4) (Af 5) (Af 6) (Af 7) (Af 8) r_13) k_579 k_576 k_577 k_578 k_98 pl_X9_hasClock ⟨Nat.le_of_ble_eq_true rfl, Nat.le_of_ble_eq_true rfl⟩ rfl rfl (va_recv hK hP (ci := 9) (q0 := 1) rfl rfl) hP hD hS [1, 2, 3, 4, 5, 6, 7, 8, 9] [0, 10, 11] rfl rfl rfl rfl rfl (by decide) rfl hl.1 rfl (Nat.le_of_ble_eq_true rfl) dX0_readWatch_35 ⟨Nat.le_of_ble_eq_true rfl, Nat.le_of_ble_eq_true rfl⟩ (fun v_35 u_36 H locs hv_37 hP₀ hD₀ hS₀ => ?_)
  obtain ⟨r_38, rfl, he_39⟩ := hv_37
  have he_39 : ((r_38.toInt = 0 ∨ (r_38.toInt = 1 ∧ 0 ≤ r_13.toInt ∧ r_13.toInt < 10))) := he_39
  refine W.eq (g2 := F0 m 38 ls [.int r_38]) rfl ?_
  replace hP : va_P D classes [((Wa 0), .inr (0, [.ref (Aa 0)])), ((Ta 0), .inr (10, [.ref (Ta 1), .int (Tv 0), .int sv_24, .int sv_25, .int sv_26, .int sv_27])), ((Ta 1), .inl (tc 0, 400, .inl (Tf 1))), ((Aa 0), .inr (9, [.int (Av 0), .int (Av 1), .int (Av 2), .int (Av 3), .int (Av 4), .int (Av 5), .ref (Aa 1), .ref (Aa 2), .ref (Aa 3), .ref (Aa 4), .ref (Aa 5), .ref (Aa 6), .ref (Aa 7), .ref (Aa 8)])), ((Aa 1), .inl (tc 0, 10, .inl (Af 1))), ((Aa 2), .inl (tc 0, 10, .inl (Af 2))), ((Aa 3), .inl (tc 0, 6, .inl (Af 3))), ((Aa 4), .inl (tc 0, 6, .inl (Af 4))), ((Aa 5), .inl (tc 0, 6, .inl (Af 5))), ((Aa 6), .inl (tc 0, 6, .inl (Af 6))), ((Aa 7), .inl (tc 0, 6, .inl (Af 7))), ((Aa 8), .inl (tc 0, 6, .inl (Af 8)))] H := hP₀
  replace hD : va_D A [((Wa 0), .inr (0, [.ref (Aa 0)])), ((Ta 0), .inr (10, [.ref (Ta 1), .int (Tv 0), .int sv_24, .int sv_25, .int sv_26, .int sv_27])), ((Ta 1), .inl (tc 0, 400, .inl (Tf 1))), ((Aa 0), .inr (9, [.int (Av 0), .int (Av 1), .int (Av 2), .int (Av 3), .int (Av 4), .int (Av 5), .ref (Aa 1), .ref (Aa 2), .ref (Aa 3), .ref (Aa 4), .ref (Aa 5), .ref (Aa 6), .ref (Aa 7), .ref (Aa 8)])), ((Aa 1), .inl (tc 0, 10, .inl (Af 1))), ((Aa 2), .inl (tc 0, 10, .inl (Af 2))), ((Aa 3), .inl (tc 0, 6, .inl (Af 3))), ((Aa 4), .inl (tc 0, 6, .inl (Af 4))), ((Aa 5), .inl (tc 0, 6, .inl (Af 5))), ((Aa 6), .inl (tc 0, 6, .inl (Af 6))), ((Aa 7), .inl (tc 0, 6, .inl (Af 7))), ((Aa 8), .inl (tc 0, 6, .inl (Af 8)))] := hD₀
  replace hS := hS₀
  clear hP₀ hD₀ hS₀
  refine lv_if_eq (tgt := 67) hx hb dX0_readWatch_38 (by decide) (fun c_40 => ?_) (fun c_40 => ?_)
  · skip
    have hu_41 : TpR (Tf 1) (Tv 0) (rNX (cB (Tf 1) (Tv 0)) (rNU (cB (Tf 1) (Tv 0)) 0 ((Av 3).toInt - 1) (rNX (cB (Tf 1) (Tv 0)) (rNU (cB (Tf 1) (Tv 0)) 0 ((Av 2) - 1 : Int32).toInt rr)))) sv_24 sv_25 sv_26 sv_27 := by
      rw [← ero_16, ← ero_33]
      exact pf_29
    have hf_42 : TpR (Tf 1) (Tv 0) (rN1 (cB (Tf 1) (Tv 0)) 0 ((Av 3).toInt - 1) (rN1 (cB (Tf 1) (Tv 0)) 0 ((Av 2) - 1 : Int32).toInt rr)) sv_24 sv_25 sv_26 sv_27 := hu_41
    exact retV hx hb hr hlk hP hD hS ((Af 2), sv_24, sv_25, sv_26, sv_27) ⟨rfl, pf_28, h_bu, hf_42⟩ [0, 3, 4, 5, 6, 7, 8, 9, 10, 11, 1, 2] rfl rfl dX0_readWatch_67 (Nat.le_of_ble_eq_true rfl) (Nat.le_of_ble_eq_true rfl) rfl
  · skip
    refine lv_aload_n hx hb dX0_readWatch_41 rfl (lv_at hl 2 rfl) ?_
    refine gf_X0_12 hx hb hts hown hK hP 0 rfl rfl dX0_readWatch_42 ?_
    refine lv_iload_n hx hb dX0_readWatch_45 rfl (lv_at hl 0 rfl) ?_
    refine cV (a := (Aa 0)) (As := [.int r_30]) (rest := []) (wr := [((Wa 0), .inr (0, [.ref (Aa 0)])), ((Ta 0), .inr (10, [.ref (Ta 1), .int (Tv 0), .int sv_24, .int sv_25, .int sv_26, .int sv_27])), ((Ta 1), .inl (tc 0, 400, .inl (Tf 1)))]) ⟨hx, hb, hml, hown, hts⟩ hK hX hA (cu_X9_hasBuyer l D tc sk (Aa 0) (Aa 1) (Aa 2) (Aa 3) (Aa 4) (Aa 5) (Aa 6) (Aa 7) (Aa 8) (Av 0) (Av 1) (Av 2) (Av 3) (Av 4) (Av 5) (Af 1) (Af 2) (Af 3) (Af 4) (Af 5) (Af 6) (Af 7) (Af 8) r_30) k_591 k_588 k_589 k_590 k_98 pl_X9_hasBuyer ⟨Nat.le_of_ble_eq_true rfl, Nat.le_of_ble_eq_true rfl⟩ rfl rfl (va_recv hK hP (ci := 9) (q0 := 3) rfl rfl) hP hD hS [3, 4, 5, 6, 7, 8, 9, 10, 11] [0, 1, 2] rfl rfl rfl rfl rfl (by decide) rfl hl.1 rfl (Nat.le_of_ble_eq_true rfl) dX0_readWatch_46 ⟨Nat.le_of_ble_eq_true rfl, Nat.le_of_ble_eq_true rfl⟩ (fun v_43 u_44 H locs hv_45 hP₀ hD₀ hS₀ => ?_)
    obtain ⟨r_46, rfl, he_47⟩ := hv_45
    have he_47 : ((r_46.toInt = 0 ∨ (r_46.toInt = 1 ∧ 0 ≤ r_30.toInt ∧ r_30.toInt < 6 ∧ r_30.toInt < (Av 3).toInt))) := he_47
    refine W.eq (g2 := F0 m 49 ls [.int r_46]) rfl ?_
    replace hP : va_P D classes [((Wa 0), .inr (0, [.ref (Aa 0)])), ((Ta 0), .inr (10, [.ref (Ta 1), .int (Tv 0), .int sv_24, .int sv_25, .int sv_26, .int sv_27])), ((Ta 1), .inl (tc 0, 400, .inl (Tf 1))), ((Aa 0), .inr (9, [.int (Av 0), .int (Av 1), .int (Av 2), .int (Av 3), .int (Av 4), .int (Av 5), .ref (Aa 1), .ref (Aa 2), .ref (Aa 3), .ref (Aa 4), .ref (Aa 5), .ref (Aa 6), .ref (Aa 7), .ref (Aa 8)])), ((Aa 1), .inl (tc 0, 10, .inl (Af 1))), ((Aa 2), .inl (tc 0, 10, .inl (Af 2))), ((Aa 3), .inl (tc 0, 6, .inl (Af 3))), ((Aa 4), .inl (tc 0, 6, .inl (Af 4))), ((Aa 5), .inl (tc 0, 6, .inl (Af 5))), ((Aa 6), .inl (tc 0, 6, .inl (Af 6))), ((Aa 7), .inl (tc 0, 6, .inl (Af 7))), ((Aa 8), .inl (tc 0, 6, .inl (Af 8)))] H := hP₀
    replace hD : va_D A [((Wa 0), .inr (0, [.ref (Aa 0)])), ((Ta 0), .inr (10, [.ref (Ta 1), .int (Tv 0), .int sv_24, .int sv_25, .int sv_26, .int sv_27])), ((Ta 1), .inl (tc 0, 400, .inl (Tf 1))), ((Aa 0), .inr (9, [.int (Av 0), .int (Av 1), .int (Av 2), .int (Av 3), .int (Av 4), .int (Av 5), .ref (Aa 1), .ref (Aa 2), .ref (Aa 3), .ref (Aa 4), .ref (Aa 5), .ref (Aa 6), .ref (Aa 7), .ref (Aa 8)])), ((Aa 1), .inl (tc 0, 10, .inl (Af 1))), ((Aa 2), .inl (tc 0, 10, .inl (Af 2))), ((Aa 3), .inl (tc 0, 6, .inl (Af 3))), ((Aa 4), .inl (tc 0, 6, .inl (Af 4))), ((Aa 5), .inl (tc 0, 6, .inl (Af 5))), ((Aa 6), .inl (tc 0, 6, .inl (Af 6))), ((Aa 7), .inl (tc 0, 6, .inl (Af 7))), ((Aa 8), .inl (tc 0, 6, .inl (Af 8)))] := hD₀
    replace hS := hS₀
    clear hP₀ hD₀ hS₀
    refine lv_if_eq (tgt := 67) hx hb dX0_readWatch_49 (by decide) (fun c_48 => ?_) (fun c_48 => ?_)
    · skip
      have hu_49 : TpR (Tf 1) (Tv 0) (rNX (cB (Tf 1) (Tv 0)) (rNU (cB (Tf 1) (Tv 0)) 0 ((Av 3).toInt - 1) (rNX (cB (Tf 1) (Tv 0)) (rNU (cB (Tf 1) (Tv 0)) 0 ((Av 2) - 1 : Int32).toInt rr)))) sv_24 sv_25 sv_26 sv_27 := by
        rw [← ero_16, ← ero_33]
        exact pf_29
      have hf_50 : TpR (Tf 1) (Tv 0) (rN1 (cB (Tf 1) (Tv 0)) 0 ((Av 3).toInt - 1) (rN1 (cB (Tf 1) (Tv 0)) 0 ((Av 2) - 1 : Int32).toInt rr)) sv_24 sv_25 sv_26 sv_27 := hu_49
      exact retV hx hb hr hlk hP hD hS ((Af 2), sv_24, sv_25, sv_26, sv_27) ⟨rfl, pf_28, h_bu, hf_50⟩ [0, 3, 4, 5, 6, 7, 8, 9, 10, 11, 1, 2] rfl rfl dX0_readWatch_67 (Nat.le_of_ble_eq_true rfl) (Nat.le_of_ble_eq_true rfl) rfl
    · skip
      refine lv_aload_n hx hb dX0_readWatch_52 rfl (lv_at hl 2 rfl) ?_
      refine gf_X0_12 hx hb hts hown hK hP 0 rfl rfl dX0_readWatch_53 ?_
      refine gf_X0_103 hx hb hts hown hK hP 3 rfl rfl dX0_readWatch_56 ?_
      refine lv_iload_n hx hb dX0_readWatch_59 rfl (lv_at hl 1 rfl) ?_
      refine lv_dup2_11 hx hb dX0_readWatch_60 rfl rfl ?_
      have hi_51 : vp_in r_13 10 := by
        have z_1 : ¬ (r_38 : Int32).toInt = (0 : Int32).toInt := fun z => c_40 (Int32.toInt_inj.mp z)
        have z_2 : ¬ (r_46 : Int32).toInt = (0 : Int32).toInt := fun z => c_48 (Int32.toInt_inj.mp z)
        have y_0 : (0 : Int32).toInt = 0 := by decide
        refine vp_in_iff.mpr ⟨?_, ?_⟩ <;> omega
      refine va_iald hx hb hK hP 5 0 rfl rfl hi_51 dX0_readWatch_61 ?_
      refine lv_topi (fun x_52 ex_52 => ?_)
      refine lv_iconst (v := 1) hx hb dX0_readWatch_62 (by decide) ?_
      refine lv_iload_n hx hb dX0_readWatch_63 rfl (lv_at hl 0 rfl) ?_
      refine lv_ishl hx hb dX0_readWatch_64 ?_
      refine lv_topi (fun x_53 ex_53 => ?_)
      refine lv_ior hx hb dX0_readWatch_65 ?_
      refine lv_topi (fun x_54 ex_54 => ?_)
      have hi_55 : vp_in r_13 10 := by
        have z_1 : ¬ (r_38 : Int32).toInt = (0 : Int32).toInt := fun z => c_40 (Int32.toInt_inj.mp z)
        have z_2 : ¬ (r_46 : Int32).toInt = (0 : Int32).toInt := fun z => c_48 (Int32.toInt_inj.mp z)
        have y_0 : (0 : Int32).toInt = 0 := by decide
        refine vp_in_iff.mpr ⟨?_, ?_⟩ <;> omega
      refine st_int hx hb hK hP hD hS 5 0 rfl rfl hi_55 dX0_readWatch_66 (fun g_56 H locs eg_56 hP₀ hD₀ hS₀ => ?_)
      replace hP : va_P D classes [((Wa 0), .inr (0, [.ref (Aa 0)])), ((Ta 0), .inr (10, [.ref (Ta 1), .int (Tv 0), .int sv_24, .int sv_25, .int sv_26, .int sv_27])), ((Ta 1), .inl (tc 0, 400, .inl (Tf 1))), ((Aa 0), .inr (9, [.int (Av 0), .int (Av 1), .int (Av 2), .int (Av 3), .int (Av 4), .int (Av 5), .ref (Aa 1), .ref (Aa 2), .ref (Aa 3), .ref (Aa 4), .ref (Aa 5), .ref (Aa 6), .ref (Aa 7), .ref (Aa 8)])), ((Aa 1), .inl (tc 0, 10, .inl (Af 1))), ((Aa 2), .inl (tc 0, 10, .inl g_56)), ((Aa 3), .inl (tc 0, 6, .inl (Af 3))), ((Aa 4), .inl (tc 0, 6, .inl (Af 4))), ((Aa 5), .inl (tc 0, 6, .inl (Af 5))), ((Aa 6), .inl (tc 0, 6, .inl (Af 6))), ((Aa 7), .inl (tc 0, 6, .inl (Af 7))), ((Aa 8), .inl (tc 0, 6, .inl (Af 8)))] H := hP₀
      replace hD : va_D A [((Wa 0), .inr (0, [.ref (Aa 0)])), ((Ta 0), .inr (10, [.ref (Ta 1), .int (Tv 0), .int sv_24, .int sv_25, .int sv_26, .int sv_27])), ((Ta 1), .inl (tc 0, 400, .inl (Tf 1))), ((Aa 0), .inr (9, [.int (Av 0), .int (Av 1), .int (Av 2), .int (Av 3), .int (Av 4), .int (Av 5), .ref (Aa 1), .ref (Aa 2), .ref (Aa 3), .ref (Aa 4), .ref (Aa 5), .ref (Aa 6), .ref (Aa 7), .ref (Aa 8)])), ((Aa 1), .inl (tc 0, 10, .inl (Af 1))), ((Aa 2), .inl (tc 0, 10, .inl g_56)), ((Aa 3), .inl (tc 0, 6, .inl (Af 3))), ((Aa 4), .inl (tc 0, 6, .inl (Af 4))), ((Aa 5), .inl (tc 0, 6, .inl (Af 5))), ((Aa 6), .inl (tc 0, 6, .inl (Af 6))), ((Aa 7), .inl (tc 0, 6, .inl (Af 7))), ((Aa 8), .inl (tc 0, 6, .inl (Af 8)))] := hD₀
      replace hS := hS₀
      clear hP₀ hD₀ hS₀
      have hu_57 : TpR (Tf 1) (Tv 0) (rNX (cB (Tf 1) (Tv 0)) (rNU (cB (Tf 1) (Tv 0)) 0 ((Av 3).toInt - 1) (rNX (cB (Tf 1) (Tv 0)) (rNU (cB (Tf 1) (Tv 0)) 0 ((Av 2) - 1 : Int32).toInt rr)))) sv_24 sv_25 sv_26 sv_27 := by
        rw [← ero_16, ← ero_33]
        exact pf_29
      have hf_58 : TpR (Tf 1) (Tv 0) (rN1 (cB (Tf 1) (Tv 0)) 0 ((Av 3).toInt - 1) (rN1 (cB (Tf 1) (Tv 0)) 0 ((Av 2) - 1 : Int32).toInt rr)) sv_24 sv_25 sv_26 sv_27 := hu_57
      exact retV hx hb hr hlk hP hD hS (g_56, sv_24, sv_25, sv_26, sv_27) ⟨rfl, pf_28, h_bu, hf_58⟩ [0, 3, 4, 5, 6, 7, 8, 9, 10, 11, 1, 2] rfl rfl dX0_readWatch_67 (Nat.le_of_ble_eq_true rfl) (Nat.le_of_ble_eq_true rfl) rfl
set_option maxRecDepth 100000 in
theorem cu_fX0_readWatch (l : Launch) (D : va_G) (tc : Nat → ClassId) (sk : (Nat → Nat) × (Nat → Nat)) (Wa_0 : Nat) (Aa_0 : Nat) (Aa_1 : Nat) (Aa_2 : Nat) (Aa_3 : Nat) (Aa_4 : Nat) (Aa_5 : Nat) (Aa_6 : Nat) (Aa_7 : Nat) (Aa_8 : Nat) (Av_0 : Int32) (Av_1 : Int32) (Av_2 : Int32) (Av_3 : Int32) (Av_4 : Int32) (Av_5 : Int32) (Af_1 : Nat → Int32) (Af_2 : Nat → Int32) (Af_3 : Nat → Int32) (Af_4 : Nat → Int32) (Af_5 : Nat → Int32) (Af_6 : Nat → Int32) (Af_7 : Nat → Int32) (Af_8 : Nat → Int32) (Ta_0 : Nat) (Ta_1 : Nat) (Tv_0 : Int32) (Tv_1 : Int32) (Tv_2 : Int32) (Tv_3 : Int32) (Tv_4 : Int32) (Tf_1 : Nat → Int32) (rr : Except Int (Nat × Nat)) (h_tape : 0 ≤ (Tv_0 : Int32).toInt ∧ (Tv_0 : Int32).toInt ≤ 400 ∧ 0 ≤ (Tv_1 : Int32).toInt ∧ (Tv_1 : Int32).toInt ≤ 400 ∧ 0 ≤ (Tv_2 : Int32).toInt ∧ (Tv_2 : Int32).toInt ≤ 400) (h_by : Byt Tf_1) (h_r : TpR Tf_1 Tv_0 rr Tv_1 Tv_2 Tv_3 Tv_4) (h_bu : 0 ≤ (Av_3 : Int32).toInt ∧ (Av_3 : Int32).toInt ≤ 6) : Ct l yX0_readWatch cX0_readWatch 4 none { frames := 3, cells := 0, slots := 0, locals := 68 } D tc sk [.ref Wa_0, .ref Ta_0] [(Wa_0, .inr (0, [.ref Aa_0])), (Aa_0, .inr (9, [.int Av_0, .int Av_1, .int Av_2, .int Av_3, .int Av_4, .int Av_5, .ref Aa_1, .ref Aa_2, .ref Aa_3, .ref Aa_4, .ref Aa_5, .ref Aa_6, .ref Aa_7, .ref Aa_8])), (Aa_1, .inl (tc 0, 10, .inl Af_1)), (Aa_2, .inl (tc 0, 10, .inl Af_2)), (Aa_3, .inl (tc 0, 6, .inl Af_3)), (Aa_4, .inl (tc 0, 6, .inl Af_4)), (Aa_5, .inl (tc 0, 6, .inl Af_5)), (Aa_6, .inl (tc 0, 6, .inl Af_6)), (Aa_7, .inl (tc 0, 6, .inl Af_7)), (Aa_8, .inl (tc 0, 6, .inl Af_8)), (Ta_0, .inr (10, [.ref Ta_1, .int Tv_0, .int Tv_1, .int Tv_2, .int Tv_3, .int Tv_4])), (Ta_1, .inl (tc 0, 400, .inl Tf_1))] (fun (v : Option Value) (u : (Nat → Int32) × (Int32) × (Int32) × (Int32) × (Int32)) => match u with | (oo0x1, oo0x2, oo0x3, oo0x4, oo0x5) => v = none ∧ (0 ≤ (Tv_0 : Int32).toInt ∧ (Tv_0 : Int32).toInt ≤ 400 ∧ 0 ≤ (oo0x2 : Int32).toInt ∧ (oo0x2 : Int32).toInt ≤ 400 ∧ 0 ≤ (oo0x3 : Int32).toInt ∧ (oo0x3 : Int32).toInt ≤ 400) ∧ (0 ≤ (Av_3 : Int32).toInt ∧ (Av_3 : Int32).toInt ≤ 6) ∧ (TpR Tf_1 Tv_0 (rN1 (cB Tf_1 Tv_0) 0 (Av_3.toInt - 1) (rN1 (cB Tf_1 Tv_0) 0 (Av_2 - 1 : Int32).toInt rr)) oo0x2 oo0x3 oo0x4 oo0x5)) (fun (u : (Nat → Int32) × (Int32) × (Int32) × (Int32) × (Int32)) => match u with | (oo0x1, oo0x2, oo0x3, oo0x4, oo0x5) => [(Wa_0, .inr (0, [.ref Aa_0])), (Aa_0, .inr (9, [.int Av_0, .int Av_1, .int Av_2, .int Av_3, .int Av_4, .int Av_5, .ref Aa_1, .ref Aa_2, .ref Aa_3, .ref Aa_4, .ref Aa_5, .ref Aa_6, .ref Aa_7, .ref Aa_8])), (Aa_1, .inl (tc 0, 10, .inl Af_1)), (Aa_2, .inl (tc 0, 10, .inl oo0x1)), (Aa_3, .inl (tc 0, 6, .inl Af_3)), (Aa_4, .inl (tc 0, 6, .inl Af_4)), (Aa_5, .inl (tc 0, 6, .inl Af_5)), (Aa_6, .inl (tc 0, 6, .inl Af_6)), (Aa_7, .inl (tc 0, 6, .inl Af_7)), (Aa_8, .inl (tc 0, 6, .inl Af_8)), (Ta_0, .inr (10, [.ref Ta_1, .int Tv_0, .int oo0x2, .int oo0x3, .int oo0x4, .int oo0x5])), (Ta_1, .inl (tc 0, 400, .inl Tf_1))]) 0 0 :=
  ct_fX0_readWatch l D tc sk (fun k => ([Wa_0] : List (Nat)).getD k 0) (fun k => ([Aa_0, Aa_1, Aa_2, Aa_3, Aa_4, Aa_5, Aa_6, Aa_7, Aa_8] : List (Nat)).getD k 0) (fun k => ([Av_0, Av_1, Av_2, Av_3, Av_4, Av_5] : List (Int32)).getD k 0) (fun k => ([(fun _ => 0), Af_1, Af_2, Af_3, Af_4, Af_5, Af_6, Af_7, Af_8] : List (Nat → Int32)).getD k (fun _ => 0)) (fun k => ([Ta_0, Ta_1] : List (Nat)).getD k 0) (fun k => ([Tv_0, Tv_1, Tv_2, Tv_3, Tv_4] : List (Int32)).getD k 0) (fun k => ([(fun _ => 0), Tf_1] : List (Nat → Int32)).getD k (fun _ => 0)) rr h_tape h_by h_r h_bu
set_option maxHeartbeats 4000000 in
set_option maxRecDepth 100000 in
theorem ct_fX0_readClause (l : Launch) (D : va_G) (tc : Nat → ClassId) (sk : (Nat → Nat) × (Nat → Nat)) (Wa : Nat → Nat) (Aa : Nat → Nat) (Av : Nat → Int32) (Af : Nat → Nat → Int32) (Ta : Nat → Nat) (Tv : Nat → Int32) (Tf : Nat → Nat → Int32) (x1 : Int32) (rr : Except Int (Nat × Nat)) (q : Except Int BkU) (h_tape : 0 ≤ ((Tv 0) : Int32).toInt ∧ ((Tv 0) : Int32).toInt ≤ 400 ∧ 0 ≤ ((Tv 1) : Int32).toInt ∧ ((Tv 1) : Int32).toInt ≤ 400 ∧ 0 ≤ ((Tv 2) : Int32).toInt ∧ ((Tv 2) : Int32).toInt ≤ 400) (h_by : Byt (Tf 1)) (h_r : TpR (Tf 1) (Tv 0) rr (Tv 1) (Tv 2) (Tv 3) (Tv 4)) (h_bu : 0 ≤ ((Av 3) : Int32).toInt ∧ ((Av 3) : Int32).toInt ≤ 6) (h_x : 0 ≤ x1.toInt ∧ x1.toInt ≤ 40) (h_fq : FsQ q rr) (h_bq : BkQ q (Av 2) (Av 3)) : Ct l yX0_readClause cX0_readClause 4 none { frames := 6, cells := 0, slots := 0, locals := 133 } D tc sk [.ref (Wa 0), .ref (Ta 0), .int x1] [((Wa 0), .inr (0, [.ref (Aa 0)])), ((Aa 0), .inr (9, [.int (Av 0), .int (Av 1), .int (Av 2), .int (Av 3), .int (Av 4), .int (Av 5), .ref (Aa 1), .ref (Aa 2), .ref (Aa 3), .ref (Aa 4), .ref (Aa 5), .ref (Aa 6), .ref (Aa 7), .ref (Aa 8)])), ((Aa 1), .inl (tc 0, 10, .inl (Af 1))), ((Aa 2), .inl (tc 0, 10, .inl (Af 2))), ((Aa 3), .inl (tc 0, 6, .inl (Af 3))), ((Aa 4), .inl (tc 0, 6, .inl (Af 4))), ((Aa 5), .inl (tc 0, 6, .inl (Af 5))), ((Aa 6), .inl (tc 0, 6, .inl (Af 6))), ((Aa 7), .inl (tc 0, 6, .inl (Af 7))), ((Aa 8), .inl (tc 0, 6, .inl (Af 8))), ((Ta 0), .inr (10, [.ref (Ta 1), .int (Tv 0), .int (Tv 1), .int (Tv 2), .int (Tv 3), .int (Tv 4)])), ((Ta 1), .inl (tc 0, 400, .inl (Tf 1)))] (fun (v : Option Value) (u : (Int32) × (Int32) × (Int32) × (Int32) × (Nat → Int32) × (Nat → Int32) × (Nat → Int32) × (Nat → Int32) × (Nat → Int32) × (Int32) × (Int32) × (Int32) × (Int32)) => match u with | (oo0x1, oo0x2, oo0x3, oo0x4, oo0x5, oo0x6, oo0x7, oo0x8, oo0x9, oo0x10, oo0x11, oo0x12, oo0x13) => v = none ∧ (0 ≤ ((Tv 0) : Int32).toInt ∧ ((Tv 0) : Int32).toInt ≤ 400 ∧ 0 ≤ (oo0x10 : Int32).toInt ∧ (oo0x10 : Int32).toInt ≤ 400 ∧ 0 ≤ (oo0x11 : Int32).toInt ∧ (oo0x11 : Int32).toInt ≤ 400) ∧ (0 ≤ (oo0x4 : Int32).toInt ∧ (oo0x4 : Int32).toInt ≤ 6) ∧ (TpR (Tf 1) (Tv 0) (fstQ (pz_b q (pz_bcl (cB (Tf 1) (Tv 0)) x1.toInt.toNat))) oo0x10 oo0x11 oo0x12 oo0x13) ∧ (BkQ (pz_b q (pz_bcl (cB (Tf 1) (Tv 0)) x1.toInt.toNat)) oo0x3 oo0x4)) (fun (u : (Int32) × (Int32) × (Int32) × (Int32) × (Nat → Int32) × (Nat → Int32) × (Nat → Int32) × (Nat → Int32) × (Nat → Int32) × (Int32) × (Int32) × (Int32) × (Int32)) => match u with | (oo0x1, oo0x2, oo0x3, oo0x4, oo0x5, oo0x6, oo0x7, oo0x8, oo0x9, oo0x10, oo0x11, oo0x12, oo0x13) => [((Wa 0), .inr (0, [.ref (Aa 0)])), ((Aa 0), .inr (9, [.int oo0x1, .int oo0x2, .int oo0x3, .int oo0x4, .int (Av 4), .int (Av 5), .ref (Aa 1), .ref (Aa 2), .ref (Aa 3), .ref (Aa 4), .ref (Aa 5), .ref (Aa 6), .ref (Aa 7), .ref (Aa 8)])), ((Aa 1), .inl (tc 0, 10, .inl oo0x5)), ((Aa 2), .inl (tc 0, 10, .inl oo0x6)), ((Aa 3), .inl (tc 0, 6, .inl oo0x7)), ((Aa 4), .inl (tc 0, 6, .inl oo0x8)), ((Aa 5), .inl (tc 0, 6, .inl oo0x9)), ((Aa 6), .inl (tc 0, 6, .inl (Af 6))), ((Aa 7), .inl (tc 0, 6, .inl (Af 7))), ((Aa 8), .inl (tc 0, 6, .inl (Af 8))), ((Ta 0), .inr (10, [.ref (Ta 1), .int (Tv 0), .int oo0x10, .int oo0x11, .int oo0x12, .int oo0x13])), ((Ta 1), .inl (tc 0, 400, .inl (Tf 1)))]) 0 0 := by
  refine Ct.start (by decide) (Nat.le_of_ble_eq_true rfl) (fun p e s m below meth c A ls hx hb hr hlk hin hml hown hts hK hX hP hD hA hl hS => ?_)
  have hl : lv_has ls 4 [(0, .ref (Wa 0)), (1, .ref (Ta 0)), (2, .int x1)] := hl
  have tb_1 : TpB (rTE (cB (Tf 1) (Tv 0)) rr) (Tv 2) (Tv 4) := TpR.tb h_r
  refine lv_aload_n hx hb dX0_readClause_0 rfl (lv_at hl 1 rfl) ?_
  refine va_ldcS hx hb hown (sx_0 hX) dX0_readClause_1 ?_
  have ha_2 : (0 : Nat) < 7 := by
    have y_0 : (0 : Int32).toInt = 0 := by decide
    omega
  refine cV (a := (Ta 0)) (As := [.ref (sk.1 0)]) (rest := []) (wr := [((Wa 0), .inr (0, [.ref (Aa 0)])), ((Aa 0), .inr (9, [.int (Av 0), .int (Av 1), .int (Av 2), .int (Av 3), .int (Av 4), .int (Av 5), .ref (Aa 1), .ref (Aa 2), .ref (Aa 3), .ref (Aa 4), .ref (Aa 5), .ref (Aa 6), .ref (Aa 7), .ref (Aa 8)])), ((Aa 1), .inl (tc 0, 10, .inl (Af 1))), ((Aa 2), .inl (tc 0, 10, .inl (Af 2))), ((Aa 3), .inl (tc 0, 6, .inl (Af 3))), ((Aa 4), .inl (tc 0, 6, .inl (Af 4))), ((Aa 5), .inl (tc 0, 6, .inl (Af 5))), ((Aa 6), .inl (tc 0, 6, .inl (Af 6))), ((Aa 7), .inl (tc 0, 6, .inl (Af 7))), ((Aa 8), .inl (tc 0, 6, .inl (Af 8)))]) ⟨hx, hb, hml, hown, hts⟩ hK hX hA (cu_fX10_wordAmong l D tc sk (Ta 0) (Ta 1) (Tv 0) (Tv 1) (Tv 2) (Tv 3) (Tv 4) (Tf 1) 0 rr ha_2 h_tape h_by h_r) k_501 k_498 k_499 k_500 k_96 pl_X10_wordAmong ⟨Nat.le_of_ble_eq_true rfl, Nat.le_of_ble_eq_true rfl⟩ rfl rfl (va_recv hK hP (ci := 10) (q0 := 10) rfl rfl) hP hD hS [10, 11] [0, 1, 2, 3, 4, 5, 6, 7, 8, 9] rfl rfl rfl rfl rfl (by decide) rfl hl.1 rfl (Nat.le_of_ble_eq_true rfl) dX0_readClause_3 ⟨Nat.le_of_ble_eq_true rfl, Nat.le_of_ble_eq_true rfl⟩ (fun v_3 u_4 H locs hv_5 hP₀ hD₀ hS₀ => ?_)
  obtain ⟨r_6, rfl, he_7⟩ := hv_5
  have he_7 : r_6.toInt = waR (cB (Tf 1) (Tv 0)) (wL (0 : Nat)) 0 rr := he_7
  refine W.eq (g2 := F0 m 6 ls [.int r_6]) rfl ?_
  replace hP : va_P D classes [((Wa 0), .inr (0, [.ref (Aa 0)])), ((Aa 0), .inr (9, [.int (Av 0), .int (Av 1), .int (Av 2), .int (Av 3), .int (Av 4), .int (Av 5), .ref (Aa 1), .ref (Aa 2), .ref (Aa 3), .ref (Aa 4), .ref (Aa 5), .ref (Aa 6), .ref (Aa 7), .ref (Aa 8)])), ((Aa 1), .inl (tc 0, 10, .inl (Af 1))), ((Aa 2), .inl (tc 0, 10, .inl (Af 2))), ((Aa 3), .inl (tc 0, 6, .inl (Af 3))), ((Aa 4), .inl (tc 0, 6, .inl (Af 4))), ((Aa 5), .inl (tc 0, 6, .inl (Af 5))), ((Aa 6), .inl (tc 0, 6, .inl (Af 6))), ((Aa 7), .inl (tc 0, 6, .inl (Af 7))), ((Aa 8), .inl (tc 0, 6, .inl (Af 8))), ((Ta 0), .inr (10, [.ref (Ta 1), .int (Tv 0), .int (Tv 1), .int (Tv 2), .int (Tv 3), .int (Tv 4)])), ((Ta 1), .inl (tc 0, 400, .inl (Tf 1)))] H := hP₀
  replace hD : va_D A [((Wa 0), .inr (0, [.ref (Aa 0)])), ((Aa 0), .inr (9, [.int (Av 0), .int (Av 1), .int (Av 2), .int (Av 3), .int (Av 4), .int (Av 5), .ref (Aa 1), .ref (Aa 2), .ref (Aa 3), .ref (Aa 4), .ref (Aa 5), .ref (Aa 6), .ref (Aa 7), .ref (Aa 8)])), ((Aa 1), .inl (tc 0, 10, .inl (Af 1))), ((Aa 2), .inl (tc 0, 10, .inl (Af 2))), ((Aa 3), .inl (tc 0, 6, .inl (Af 3))), ((Aa 4), .inl (tc 0, 6, .inl (Af 4))), ((Aa 5), .inl (tc 0, 6, .inl (Af 5))), ((Aa 6), .inl (tc 0, 6, .inl (Af 6))), ((Aa 7), .inl (tc 0, 6, .inl (Af 7))), ((Aa 8), .inl (tc 0, 6, .inl (Af 8))), ((Ta 0), .inr (10, [.ref (Ta 1), .int (Tv 0), .int (Tv 1), .int (Tv 2), .int (Tv 3), .int (Tv 4)])), ((Ta 1), .inl (tc 0, 400, .inl (Tf 1)))] := hD₀
  replace hS := hS₀
  clear hP₀ hD₀ hS₀
  have hge : -1 ≤ (r_6 : Int32).toInt := by rw [he_7]; exact waR_ge
  refine lv_istore_n (lv' := [(3, .int r_6), (0, .ref (Wa 0)), (1, .ref (Ta 0)), (2, .int x1)]) hx hb dX0_readClause_6 rfl hl (by decide) rfl (fun ls hl₀ => ?_)
  replace hl := hl₀
  clear hl₀
  refine lv_iload_n hx hb dX0_readClause_7 rfl (lv_at hl 0 rfl) ?_
  refine lv_iconst (v := (-1)) hx hb dX0_readClause_8 (by decide) ?_
  refine lv_icmp_ne (tgt := 20) hx hb dX0_readClause_9 (by decide) (fun c_9 => ?_) (fun c_9 => ?_)
  · skip
    refine lv_iload_n hx hb dX0_readClause_20 rfl (lv_at hl 3 rfl) ?_
    refine lv_bipush (v := 40) hx hb dX0_readClause_21 (by decide) ?_
    refine lv_icmp_ge (tgt := 64) hx hb dX0_readClause_23 (by decide) (fun c_10 => ?_) (fun c_10 => ?_)
    · skip
      refine lv_aload_n hx hb dX0_readClause_64 rfl (lv_at hl 2 rfl) ?_
      refine lv_iconst (v := 4) hx hb dX0_readClause_65 (by decide) ?_
      have ha_11 : 0 ≤ (4 : Int32).toInt ∧ (4 : Int32).toInt ≤ 4 := by
        have z_1 : ¬ (r_6 : Int32).toInt = ((-1) : Int32).toInt := fun z => c_9 (Int32.toInt_inj.mp z)
        have z_2 := Int32.le_iff_toInt_le.mp c_10
        have y_m1 : (-1 : Int32).toInt = -1 := by decide
        have y_40 : (40 : Int32).toInt = 40 := by decide
        have y_4 : (4 : Int32).toInt = 4 := by decide
        omega
      have ha_12 : (4 : Int32).toInt = (4 : Int) := by
        have z_1 : ¬ (r_6 : Int32).toInt = ((-1) : Int32).toInt := fun z => c_9 (Int32.toInt_inj.mp z)
        have z_2 := Int32.le_iff_toInt_le.mp c_10
        have y_m1 : (-1 : Int32).toInt = -1 := by decide
        have y_40 : (40 : Int32).toInt = 40 := by decide
        have y_4 : (4 : Int32).toInt = 4 := by decide
        omega
      refine cV (a := (Ta 0)) (As := [.int 4]) (rest := []) (wr := [((Wa 0), .inr (0, [.ref (Aa 0)])), ((Aa 0), .inr (9, [.int (Av 0), .int (Av 1), .int (Av 2), .int (Av 3), .int (Av 4), .int (Av 5), .ref (Aa 1), .ref (Aa 2), .ref (Aa 3), .ref (Aa 4), .ref (Aa 5), .ref (Aa 6), .ref (Aa 7), .ref (Aa 8)])), ((Aa 1), .inl (tc 0, 10, .inl (Af 1))), ((Aa 2), .inl (tc 0, 10, .inl (Af 2))), ((Aa 3), .inl (tc 0, 6, .inl (Af 3))), ((Aa 4), .inl (tc 0, 6, .inl (Af 4))), ((Aa 5), .inl (tc 0, 6, .inl (Af 5))), ((Aa 6), .inl (tc 0, 6, .inl (Af 6))), ((Aa 7), .inl (tc 0, 6, .inl (Af 7))), ((Aa 8), .inl (tc 0, 6, .inl (Af 8)))]) ⟨hx, hb, hml, hown, hts⟩ hK hX hA (cu_fX10_fail l D tc sk (Ta 0) (Ta 1) (Tv 0) (Tv 1) (Tv 2) (Tv 3) (Tv 4) (Tf 1) 4 rr 4 h_tape h_r ha_11 ha_12) k_557 k_554 k_555 k_556 k_96 pl_X10_fail ⟨Nat.le_of_ble_eq_true rfl, Nat.le_of_ble_eq_true rfl⟩ rfl rfl (va_recv hK hP (ci := 10) (q0 := 10) rfl rfl) hP hD hS [10, 11] [0, 1, 2, 3, 4, 5, 6, 7, 8, 9] rfl rfl rfl rfl rfl (by decide) rfl hl.1 rfl (Nat.le_of_ble_eq_true rfl) dX0_readClause_66 ⟨Nat.le_of_ble_eq_true rfl, Nat.le_of_ble_eq_true rfl⟩ (fun v_13 u_14 H locs hv_15 hP₀ hD₀ hS₀ => ?_)
      obtain ⟨sv_16, sv_17⟩ := u_14
      obtain ⟨rfl, pf_18, pf_19⟩ := hv_15
      have pf_18 : 0 ≤ ((Tv 0) : Int32).toInt ∧ ((Tv 0) : Int32).toInt ≤ 400 ∧ 0 ≤ ((Tv 1) : Int32).toInt ∧ ((Tv 1) : Int32).toInt ≤ 400 ∧ 0 ≤ ((Tv 2) : Int32).toInt ∧ ((Tv 2) : Int32).toInt ≤ 400 := pf_18
      have pf_19 : TpR (Tf 1) (Tv 0) (rER (4 : Int) rr) (Tv 1) (Tv 2) sv_16 sv_17 := pf_19
      obtain ⟨ro_20, ero_20⟩ : ∃ z : Except Int (Nat × Nat), z = (rER 4 rr) := ⟨_, rfl⟩
      rw [← ero_20] at pf_19
      have tb_21 : TpB (rTE (cB (Tf 1) (Tv 0)) ro_20) (Tv 2) sv_17 := TpR.tb pf_19
      refine W.eq (g2 := F0 m 69 ls []) rfl ?_
      replace hP : va_P D classes [((Wa 0), .inr (0, [.ref (Aa 0)])), ((Aa 0), .inr (9, [.int (Av 0), .int (Av 1), .int (Av 2), .int (Av 3), .int (Av 4), .int (Av 5), .ref (Aa 1), .ref (Aa 2), .ref (Aa 3), .ref (Aa 4), .ref (Aa 5), .ref (Aa 6), .ref (Aa 7), .ref (Aa 8)])), ((Aa 1), .inl (tc 0, 10, .inl (Af 1))), ((Aa 2), .inl (tc 0, 10, .inl (Af 2))), ((Aa 3), .inl (tc 0, 6, .inl (Af 3))), ((Aa 4), .inl (tc 0, 6, .inl (Af 4))), ((Aa 5), .inl (tc 0, 6, .inl (Af 5))), ((Aa 6), .inl (tc 0, 6, .inl (Af 6))), ((Aa 7), .inl (tc 0, 6, .inl (Af 7))), ((Aa 8), .inl (tc 0, 6, .inl (Af 8))), ((Ta 0), .inr (10, [.ref (Ta 1), .int (Tv 0), .int (Tv 1), .int (Tv 2), .int sv_16, .int sv_17])), ((Ta 1), .inl (tc 0, 400, .inl (Tf 1)))] H := hP₀
      replace hD : va_D A [((Wa 0), .inr (0, [.ref (Aa 0)])), ((Aa 0), .inr (9, [.int (Av 0), .int (Av 1), .int (Av 2), .int (Av 3), .int (Av 4), .int (Av 5), .ref (Aa 1), .ref (Aa 2), .ref (Aa 3), .ref (Aa 4), .ref (Aa 5), .ref (Aa 6), .ref (Aa 7), .ref (Aa 8)])), ((Aa 1), .inl (tc 0, 10, .inl (Af 1))), ((Aa 2), .inl (tc 0, 10, .inl (Af 2))), ((Aa 3), .inl (tc 0, 6, .inl (Af 3))), ((Aa 4), .inl (tc 0, 6, .inl (Af 4))), ((Aa 5), .inl (tc 0, 6, .inl (Af 5))), ((Aa 6), .inl (tc 0, 6, .inl (Af 6))), ((Aa 7), .inl (tc 0, 6, .inl (Af 7))), ((Aa 8), .inl (tc 0, 6, .inl (Af 8))), ((Ta 0), .inr (10, [.ref (Ta 1), .int (Tv 0), .int (Tv 1), .int (Tv 2), .int sv_16, .int sv_17])), ((Ta 1), .inl (tc 0, 400, .inl (Tf 1)))] := hD₀
      replace hS := hS₀
      clear hP₀ hD₀ hS₀
      refine lv_goto (tgt := 119) hx hb dX0_readClause_69 (by decide) ?_
      have hc_22w : waR (cB (Tf 1) (Tv 0)) (wL 0) 0 (fstQ q) = (r_6 : Int32).toInt := by rw [h_fq]; exact he_7.symm
      have hr_23 : 40 ≤ x1.toInt.toNat ∨ ¬ ((r_6 : Int32).toInt = 0 ↔ x1.toInt.toNat = 0) ∨ ((r_6 : Int32).toInt = 2 ∧ 6 ≤ (Av 3).toInt) := by
        have z_1 : ¬ (r_6 : Int32).toInt = ((-1) : Int32).toInt := fun z => c_9 (Int32.toInt_inj.mp z)
        have z_2 := Int32.le_iff_toInt_le.mp c_10
        have y_m1 : (-1 : Int32).toInt = -1 := by decide
        have y_40 : (40 : Int32).toInt = 40 := by decide
        omega
      have hr_24 : ¬ (r_6 : Int32).toInt = -1 := by
        have z_1 : ¬ (r_6 : Int32).toInt = ((-1) : Int32).toInt := fun z => c_9 (Int32.toInt_inj.mp z)
        have z_2 := Int32.le_iff_toInt_le.mp c_10
        have y_m1 : (-1 : Int32).toInt = -1 := by decide
        have y_40 : (40 : Int32).toInt = 40 := by decide
        omega
      have hc_22 := bc_bad (l := x1.toInt.toNat) hc_22w hr_24 h_bq hr_23
      rw [h_fq] at hc_22
      have hc_22q : BkQ (pz_b q (pz_bcl (cB (Tf 1) (Tv 0)) x1.toInt.toNat)) (Av 2) (Av 3) := BkQ.er (h_fq ▸ hc_22)
      have hu_25 : TpR (Tf 1) (Tv 0) (rER 4 rr) (Tv 1) (Tv 2) sv_16 sv_17 := by
        rw [← ero_20]
        exact pf_19
      have hf_26 : TpR (Tf 1) (Tv 0) (fstQ (pz_b q (pz_bcl (cB (Tf 1) (Tv 0)) x1.toInt.toNat))) (Tv 1) (Tv 2) sv_16 sv_17 := by
        rw [hc_22]
        exact hu_25
      exact retV hx hb hr hlk hP hD hS ((Av 0), (Av 1), (Av 2), (Av 3), (Af 1), (Af 2), (Af 3), (Af 4), (Af 5), (Tv 1), (Tv 2), sv_16, sv_17) ⟨rfl, pf_18, h_bu, hf_26, hc_22q⟩ [0, 1, 2, 3, 4, 5, 6, 7, 8, 9, 10, 11] rfl rfl dX0_readClause_119 (Nat.le_of_ble_eq_true rfl) (Nat.le_of_ble_eq_true rfl) rfl
    · skip
      refine lv_iload_n hx hb dX0_readClause_26 rfl (lv_at hl 0 rfl) ?_
      refine lv_if_ne (tgt := 34) hx hb dX0_readClause_27 (by decide) (fun c_27 => ?_) (fun c_27 => ?_)
      · skip
        refine lv_iconst (v := 0) hx hb dX0_readClause_34 (by decide) ?_
        refine lv_iload_n hx hb dX0_readClause_35 rfl (lv_at hl 3 rfl) ?_
        refine lv_if_ne (tgt := 43) hx hb dX0_readClause_36 (by decide) (fun c_28 => ?_) (fun c_28 => ?_)
        · skip
          refine lv_iconst (v := 0) hx hb dX0_readClause_43 (by decide) ?_
          refine lv_icmp_ne (tgt := 64) hx hb dX0_readClause_44 (by decide) (fun c_29 => absurd c_29 (by decide)) (fun c_29 => ?_)
          refine lv_iload_n hx hb dX0_readClause_47 rfl (lv_at hl 0 rfl) ?_
          refine lv_iconst (v := 2) hx hb dX0_readClause_48 (by decide) ?_
          refine lv_icmp_ne (tgt := 72) hx hb dX0_readClause_49 (by decide) (fun c_30 => ?_) (fun c_30 => ?_)
          · skip
            refine lv_aload_n hx hb dX0_readClause_72 rfl (lv_at hl 2 rfl) ?_
            refine cV (a := (Ta 0)) (As := []) (rest := []) (wr := [((Wa 0), .inr (0, [.ref (Aa 0)])), ((Aa 0), .inr (9, [.int (Av 0), .int (Av 1), .int (Av 2), .int (Av 3), .int (Av 4), .int (Av 5), .ref (Aa 1), .ref (Aa 2), .ref (Aa 3), .ref (Aa 4), .ref (Aa 5), .ref (Aa 6), .ref (Aa 7), .ref (Aa 8)])), ((Aa 1), .inl (tc 0, 10, .inl (Af 1))), ((Aa 2), .inl (tc 0, 10, .inl (Af 2))), ((Aa 3), .inl (tc 0, 6, .inl (Af 3))), ((Aa 4), .inl (tc 0, 6, .inl (Af 4))), ((Aa 5), .inl (tc 0, 6, .inl (Af 5))), ((Aa 6), .inl (tc 0, 6, .inl (Af 6))), ((Aa 7), .inl (tc 0, 6, .inl (Af 7))), ((Aa 8), .inl (tc 0, 6, .inl (Af 8)))]) ⟨hx, hb, hml, hown, hts⟩ hK hX hA (cu_fX10_step l D tc sk (Ta 0) (Ta 1) (Tv 0) (Tv 1) (Tv 2) (Tv 3) (Tv 4) (Tf 1) (rTE (cB (Tf 1) (Tv 0)) rr) h_tape h_by tb_1) k_478 k_558 k_476 k_477 k_96 pl_X10_step ⟨Nat.le_of_ble_eq_true rfl, Nat.le_of_ble_eq_true rfl⟩ rfl rfl (va_recv hK hP (ci := 10) (q0 := 10) rfl rfl) hP hD hS [10, 11] [0, 1, 2, 3, 4, 5, 6, 7, 8, 9] rfl rfl rfl rfl rfl (by decide) rfl hl.1 rfl (Nat.le_of_ble_eq_true rfl) dX0_readClause_73 ⟨Nat.le_of_ble_eq_true rfl, Nat.le_of_ble_eq_true rfl⟩ (fun v_31 u_32 H locs hv_33 hP₀ hD₀ hS₀ => ?_)
            obtain ⟨sv_34, sv_35, sv_36⟩ := u_32
            obtain ⟨rfl, pf_37, pf_38⟩ := hv_33
            have pf_37 : 0 ≤ ((Tv 0) : Int32).toInt ∧ ((Tv 0) : Int32).toInt ≤ 400 ∧ 0 ≤ (sv_34 : Int32).toInt ∧ (sv_34 : Int32).toInt ≤ 400 ∧ 0 ≤ (sv_35 : Int32).toInt ∧ (sv_35 : Int32).toInt ≤ 400 := pf_37
            have pf_38 : TpR (Tf 1) (Tv 0) (rSK (cB (Tf 1) (Tv 0)) (rTE (cB (Tf 1) (Tv 0)) rr)) sv_34 sv_35 sv_36 (Tv 4) := pf_38
            rw [rNX_eq] at pf_38
            obtain ⟨ro_39, ero_39⟩ : ∃ z : Except Int (Nat × Nat), z = (rNX (cB (Tf 1) (Tv 0)) rr) := ⟨_, rfl⟩
            rw [← ero_39] at pf_38
            have tb_40 : TpB (rTE (cB (Tf 1) (Tv 0)) ro_39) sv_35 (Tv 4) := TpR.tb pf_38
            refine W.eq (g2 := F0 m 76 ls []) rfl ?_
            replace hP : va_P D classes [((Wa 0), .inr (0, [.ref (Aa 0)])), ((Aa 0), .inr (9, [.int (Av 0), .int (Av 1), .int (Av 2), .int (Av 3), .int (Av 4), .int (Av 5), .ref (Aa 1), .ref (Aa 2), .ref (Aa 3), .ref (Aa 4), .ref (Aa 5), .ref (Aa 6), .ref (Aa 7), .ref (Aa 8)])), ((Aa 1), .inl (tc 0, 10, .inl (Af 1))), ((Aa 2), .inl (tc 0, 10, .inl (Af 2))), ((Aa 3), .inl (tc 0, 6, .inl (Af 3))), ((Aa 4), .inl (tc 0, 6, .inl (Af 4))), ((Aa 5), .inl (tc 0, 6, .inl (Af 5))), ((Aa 6), .inl (tc 0, 6, .inl (Af 6))), ((Aa 7), .inl (tc 0, 6, .inl (Af 7))), ((Aa 8), .inl (tc 0, 6, .inl (Af 8))), ((Ta 0), .inr (10, [.ref (Ta 1), .int (Tv 0), .int sv_34, .int sv_35, .int sv_36, .int (Tv 4)])), ((Ta 1), .inl (tc 0, 400, .inl (Tf 1)))] H := hP₀
            replace hD : va_D A [((Wa 0), .inr (0, [.ref (Aa 0)])), ((Aa 0), .inr (9, [.int (Av 0), .int (Av 1), .int (Av 2), .int (Av 3), .int (Av 4), .int (Av 5), .ref (Aa 1), .ref (Aa 2), .ref (Aa 3), .ref (Aa 4), .ref (Aa 5), .ref (Aa 6), .ref (Aa 7), .ref (Aa 8)])), ((Aa 1), .inl (tc 0, 10, .inl (Af 1))), ((Aa 2), .inl (tc 0, 10, .inl (Af 2))), ((Aa 3), .inl (tc 0, 6, .inl (Af 3))), ((Aa 4), .inl (tc 0, 6, .inl (Af 4))), ((Aa 5), .inl (tc 0, 6, .inl (Af 5))), ((Aa 6), .inl (tc 0, 6, .inl (Af 6))), ((Aa 7), .inl (tc 0, 6, .inl (Af 7))), ((Aa 8), .inl (tc 0, 6, .inl (Af 8))), ((Ta 0), .inr (10, [.ref (Ta 1), .int (Tv 0), .int sv_34, .int sv_35, .int sv_36, .int (Tv 4)])), ((Ta 1), .inl (tc 0, 400, .inl (Tf 1)))] := hD₀
            replace hS := hS₀
            clear hP₀ hD₀ hS₀
            refine lv_iload_n hx hb dX0_readClause_76 rfl (lv_at hl 0 rfl) ?_
            refine lv_if_ne (tgt := 88) hx hb dX0_readClause_77 (by decide) (fun c_41 => ?_) (fun c_41 => ?_)
            · skip
              refine lv_iload_n hx hb dX0_readClause_88 rfl (lv_at hl 0 rfl) ?_
              refine lv_iconst (v := 1) hx hb dX0_readClause_89 (by decide) ?_
              refine lv_icmp_ne (tgt := 101) hx hb dX0_readClause_90 (by decide) (fun c_42 => ?_) (fun c_42 => ?_)
              · skip
                refine lv_iload_n hx hb dX0_readClause_101 rfl (lv_at hl 0 rfl) ?_
                refine lv_iconst (v := 2) hx hb dX0_readClause_102 (by decide) ?_
                refine lv_icmp_ne (tgt := 114) hx hb dX0_readClause_103 (by decide) (fun c_43 => ?_) (fun c_43 => ?_)
                · skip
                  refine lv_aload_n hx hb dX0_readClause_114 rfl (lv_at hl 1 rfl) ?_
                  refine lv_aload_n hx hb dX0_readClause_115 rfl (lv_at hl 2 rfl) ?_
                  refine cV (a := (Wa 0)) (As := [.ref (Ta 0)]) (rest := []) (wr := []) ⟨hx, hb, hml, hown, hts⟩ hK hX hA (cu_fX0_readWatch l D tc sk (Wa 0) (Aa 0) (Aa 1) (Aa 2) (Aa 3) (Aa 4) (Aa 5) (Aa 6) (Aa 7) (Aa 8) (Av 0) (Av 1) (Av 2) (Av 3) (Av 4) (Av 5) (Af 1) (Af 2) (Af 3) (Af 4) (Af 5) (Af 6) (Af 7) (Af 8) (Ta 0) (Ta 1) (Tv 0) sv_34 sv_35 sv_36 (Tv 4) (Tf 1) ro_39 pf_37 h_by pf_38 h_bu) k_587 k_584 k_586 k_6 k_97 pl_X0_readWatch ⟨Nat.le_of_ble_eq_true rfl, Nat.le_of_ble_eq_true rfl⟩ rfl rfl (va_recv hK hP (ci := 0) (q0 := 0) rfl rfl) hP hD hS [0, 1, 2, 3, 4, 5, 6, 7, 8, 9, 10, 11] [] rfl rfl rfl rfl rfl (by decide) rfl hl.1 rfl (Nat.le_of_ble_eq_true rfl) dX0_readClause_116 ⟨Nat.le_of_ble_eq_true rfl, Nat.le_of_ble_eq_true rfl⟩ (fun v_44 u_45 H locs hv_46 hP₀ hD₀ hS₀ => ?_)
                  obtain ⟨sv_47, sv_48, sv_49, sv_50, sv_51⟩ := u_45
                  obtain ⟨rfl, pf_52, pf_53, pf_54⟩ := hv_46
                  have pf_52 : 0 ≤ ((Tv 0) : Int32).toInt ∧ ((Tv 0) : Int32).toInt ≤ 400 ∧ 0 ≤ (sv_48 : Int32).toInt ∧ (sv_48 : Int32).toInt ≤ 400 ∧ 0 ≤ (sv_49 : Int32).toInt ∧ (sv_49 : Int32).toInt ≤ 400 := pf_52
                  have pf_53 : 0 ≤ ((Av 3) : Int32).toInt ∧ ((Av 3) : Int32).toInt ≤ 6 := pf_53
                  have pf_54 : TpR (Tf 1) (Tv 0) (rN1 (cB (Tf 1) (Tv 0)) 0 ((Av 3).toInt - 1) (rN1 (cB (Tf 1) (Tv 0)) 0 ((Av 2) - 1 : Int32).toInt ro_39)) sv_48 sv_49 sv_50 sv_51 := pf_54
                  obtain ⟨ro_55, ero_55⟩ : ∃ z : Except Int (Nat × Nat), z = (rN1 (cB (Tf 1) (Tv 0)) 0 ((Av 3).toInt - 1) (rN1 (cB (Tf 1) (Tv 0)) 0 ((Av 2) - 1 : Int32).toInt ro_39)) := ⟨_, rfl⟩
                  rw [← ero_55] at pf_54
                  have tb_56 : TpB (rTE (cB (Tf 1) (Tv 0)) ro_55) sv_49 sv_51 := TpR.tb pf_54
                  refine W.eq (g2 := F0 m 119 ls []) rfl ?_
                  replace hP : va_P D classes [((Wa 0), .inr (0, [.ref (Aa 0)])), ((Aa 0), .inr (9, [.int (Av 0), .int (Av 1), .int (Av 2), .int (Av 3), .int (Av 4), .int (Av 5), .ref (Aa 1), .ref (Aa 2), .ref (Aa 3), .ref (Aa 4), .ref (Aa 5), .ref (Aa 6), .ref (Aa 7), .ref (Aa 8)])), ((Aa 1), .inl (tc 0, 10, .inl (Af 1))), ((Aa 2), .inl (tc 0, 10, .inl sv_47)), ((Aa 3), .inl (tc 0, 6, .inl (Af 3))), ((Aa 4), .inl (tc 0, 6, .inl (Af 4))), ((Aa 5), .inl (tc 0, 6, .inl (Af 5))), ((Aa 6), .inl (tc 0, 6, .inl (Af 6))), ((Aa 7), .inl (tc 0, 6, .inl (Af 7))), ((Aa 8), .inl (tc 0, 6, .inl (Af 8))), ((Ta 0), .inr (10, [.ref (Ta 1), .int (Tv 0), .int sv_48, .int sv_49, .int sv_50, .int sv_51])), ((Ta 1), .inl (tc 0, 400, .inl (Tf 1)))] H := hP₀
                  replace hD : va_D A [((Wa 0), .inr (0, [.ref (Aa 0)])), ((Aa 0), .inr (9, [.int (Av 0), .int (Av 1), .int (Av 2), .int (Av 3), .int (Av 4), .int (Av 5), .ref (Aa 1), .ref (Aa 2), .ref (Aa 3), .ref (Aa 4), .ref (Aa 5), .ref (Aa 6), .ref (Aa 7), .ref (Aa 8)])), ((Aa 1), .inl (tc 0, 10, .inl (Af 1))), ((Aa 2), .inl (tc 0, 10, .inl sv_47)), ((Aa 3), .inl (tc 0, 6, .inl (Af 3))), ((Aa 4), .inl (tc 0, 6, .inl (Af 4))), ((Aa 5), .inl (tc 0, 6, .inl (Af 5))), ((Aa 6), .inl (tc 0, 6, .inl (Af 6))), ((Aa 7), .inl (tc 0, 6, .inl (Af 7))), ((Aa 8), .inl (tc 0, 6, .inl (Af 8))), ((Ta 0), .inr (10, [.ref (Ta 1), .int (Tv 0), .int sv_48, .int sv_49, .int sv_50, .int sv_51])), ((Ta 1), .inl (tc 0, 400, .inl (Tf 1)))] := hD₀
                  replace hS := hS₀
                  clear hP₀ hD₀ hS₀
                  have hc_57w : waR (cB (Tf 1) (Tv 0)) (wL 0) 0 (fstQ q) = (r_6 : Int32).toInt := by rw [h_fq]; exact he_7.symm
                  have hr_58 : 3 ≤ (r_6 : Int32).toInt := by
                    have z_1 : ¬ (r_6 : Int32).toInt = ((-1) : Int32).toInt := fun z => c_9 (Int32.toInt_inj.mp z)
                    have z_2 := Int32.lt_iff_toInt_lt.mp (Int32.not_le.mp c_10)
                    have z_3 : ¬ (r_6 : Int32).toInt = (0 : Int32).toInt := fun z => c_27 (Int32.toInt_inj.mp z)
                    have z_4 : ¬ (x1 : Int32).toInt = (0 : Int32).toInt := fun z => c_28 (Int32.toInt_inj.mp z)
                    have z_5 : ¬ (r_6 : Int32).toInt = (2 : Int32).toInt := fun z => c_30 (Int32.toInt_inj.mp z)
                    have z_6 : ¬ (r_6 : Int32).toInt = (0 : Int32).toInt := fun z => c_41 (Int32.toInt_inj.mp z)
                    have z_7 : ¬ (r_6 : Int32).toInt = (1 : Int32).toInt := fun z => c_42 (Int32.toInt_inj.mp z)
                    have z_8 : ¬ (r_6 : Int32).toInt = (2 : Int32).toInt := fun z => c_43 (Int32.toInt_inj.mp z)
                    have y_m1 : (-1 : Int32).toInt = -1 := by decide
                    have y_0 : (0 : Int32).toInt = 0 := by decide
                    have y_1 : (1 : Int32).toInt = 1 := by decide
                    have y_2 : (2 : Int32).toInt = 2 := by decide
                    have y_40 : (40 : Int32).toInt = 40 := by decide
                    omega
                  have hr_59 : 1 ≤ x1.toInt.toNat ∧ x1.toInt.toNat < 40 := by
                    have z_1 : ¬ (r_6 : Int32).toInt = ((-1) : Int32).toInt := fun z => c_9 (Int32.toInt_inj.mp z)
                    have z_2 := Int32.lt_iff_toInt_lt.mp (Int32.not_le.mp c_10)
                    have z_3 : ¬ (r_6 : Int32).toInt = (0 : Int32).toInt := fun z => c_27 (Int32.toInt_inj.mp z)
                    have z_4 : ¬ (x1 : Int32).toInt = (0 : Int32).toInt := fun z => c_28 (Int32.toInt_inj.mp z)
                    have z_5 : ¬ (r_6 : Int32).toInt = (2 : Int32).toInt := fun z => c_30 (Int32.toInt_inj.mp z)
                    have z_6 : ¬ (r_6 : Int32).toInt = (0 : Int32).toInt := fun z => c_41 (Int32.toInt_inj.mp z)
                    have z_7 : ¬ (r_6 : Int32).toInt = (1 : Int32).toInt := fun z => c_42 (Int32.toInt_inj.mp z)
                    have z_8 : ¬ (r_6 : Int32).toInt = (2 : Int32).toInt := fun z => c_43 (Int32.toInt_inj.mp z)
                    have y_m1 : (-1 : Int32).toInt = -1 := by decide
                    have y_0 : (0 : Int32).toInt = 0 := by decide
                    have y_1 : (1 : Int32).toInt = 1 := by decide
                    have y_2 : (2 : Int32).toInt = 2 := by decide
                    have y_40 : (40 : Int32).toInt = 40 := by decide
                    omega
                  have hc_57 := bc_3 (l := x1.toInt.toNat) hc_57w hr_58 h_bq hr_59
                  rw [h_fq] at hc_57
                  have hu_60 : TpR (Tf 1) (Tv 0) (rN1 (cB (Tf 1) (Tv 0)) 0 ((Av 3).toInt - 1) (rN1 (cB (Tf 1) (Tv 0)) 0 ((Av 2) - 1 : Int32).toInt (rNX (cB (Tf 1) (Tv 0)) rr))) sv_48 sv_49 sv_50 sv_51 := by
                    rw [← ero_39, ← ero_55]
                    exact pf_54
                  have hf_61 : TpR (Tf 1) (Tv 0) (fstQ (pz_b q (pz_bcl (cB (Tf 1) (Tv 0)) x1.toInt.toNat))) sv_48 sv_49 sv_50 sv_51 := by
                    rw [hc_57.1]
                    exact hu_60
                  exact retV hx hb hr hlk hP hD hS ((Av 0), (Av 1), (Av 2), (Av 3), (Af 1), sv_47, (Af 3), (Af 4), (Af 5), sv_48, sv_49, sv_50, sv_51) ⟨rfl, pf_52, pf_53, hf_61, hc_57.2⟩ [0, 1, 2, 3, 4, 5, 6, 7, 8, 9, 10, 11] rfl rfl dX0_readClause_119 (Nat.le_of_ble_eq_true rfl) (Nat.le_of_ble_eq_true rfl) rfl
                · skip
                  exfalso
                  have z_1 : ¬ (r_6 : Int32).toInt = ((-1) : Int32).toInt := fun z => c_9 (Int32.toInt_inj.mp z)
                  have z_2 := Int32.lt_iff_toInt_lt.mp (Int32.not_le.mp c_10)
                  have z_3 : ¬ (r_6 : Int32).toInt = (0 : Int32).toInt := fun z => c_27 (Int32.toInt_inj.mp z)
                  have z_4 : ¬ (x1 : Int32).toInt = (0 : Int32).toInt := fun z => c_28 (Int32.toInt_inj.mp z)
                  have z_5 : ¬ (r_6 : Int32).toInt = (2 : Int32).toInt := fun z => c_30 (Int32.toInt_inj.mp z)
                  have z_6 : ¬ (r_6 : Int32).toInt = (0 : Int32).toInt := fun z => c_41 (Int32.toInt_inj.mp z)
                  have z_7 : ¬ (r_6 : Int32).toInt = (1 : Int32).toInt := fun z => c_42 (Int32.toInt_inj.mp z)
                  have z_8 := congrArg Int32.toInt c_43
                  have y_m1 : (-1 : Int32).toInt = -1 := by decide
                  have y_0 : (0 : Int32).toInt = 0 := by decide
                  have y_1 : (1 : Int32).toInt = 1 := by decide
                  have y_2 : (2 : Int32).toInt = 2 := by decide
                  have y_40 : (40 : Int32).toInt = 40 := by decide
                  omega
              · skip
                refine lv_aload_n hx hb dX0_readClause_93 rfl (lv_at hl 1 rfl) ?_
                refine lv_aload_n hx hb dX0_readClause_94 rfl (lv_at hl 2 rfl) ?_
                refine cV (a := (Wa 0)) (As := [.ref (Ta 0)]) (rest := []) (wr := []) ⟨hx, hb, hml, hown, hts⟩ hK hX hA (cu_fX0_readSky l D tc sk (Wa 0) (Aa 0) (Aa 1) (Aa 2) (Aa 3) (Aa 4) (Aa 5) (Aa 6) (Aa 7) (Aa 8) (Av 0) (Av 1) (Av 2) (Av 3) (Av 4) (Av 5) (Af 1) (Af 2) (Af 3) (Af 4) (Af 5) (Af 6) (Af 7) (Af 8) (Ta 0) (Ta 1) (Tv 0) sv_34 sv_35 sv_36 (Tv 4) (Tf 1) ro_39 pf_37 h_by pf_38 h_bu) k_575 k_572 k_574 k_4 k_97 pl_X0_readSky ⟨Nat.le_of_ble_eq_true rfl, Nat.le_of_ble_eq_true rfl⟩ rfl rfl (va_recv hK hP (ci := 0) (q0 := 0) rfl rfl) hP hD hS [0, 1, 2, 3, 4, 5, 6, 7, 8, 9, 10, 11] [] rfl rfl rfl rfl rfl (by decide) rfl hl.1 rfl (Nat.le_of_ble_eq_true rfl) dX0_readClause_95 ⟨Nat.le_of_ble_eq_true rfl, Nat.le_of_ble_eq_true rfl⟩ (fun v_62 u_63 H locs hv_64 hP₀ hD₀ hS₀ => ?_)
                obtain ⟨sv_65, sv_66, sv_67, sv_68, sv_69⟩ := u_63
                obtain ⟨rfl, pf_70, pf_71, pf_72⟩ := hv_64
                have pf_70 : 0 ≤ ((Tv 0) : Int32).toInt ∧ ((Tv 0) : Int32).toInt ≤ 400 ∧ 0 ≤ (sv_66 : Int32).toInt ∧ (sv_66 : Int32).toInt ≤ 400 ∧ 0 ≤ (sv_67 : Int32).toInt ∧ (sv_67 : Int32).toInt ≤ 400 := pf_70
                have pf_71 : 0 ≤ ((Av 3) : Int32).toInt ∧ ((Av 3) : Int32).toInt ≤ 6 := pf_71
                have pf_72 : TpR (Tf 1) (Tv 0) (rN1 (cB (Tf 1) (Tv 0)) 0 9 (rN1 (cB (Tf 1) (Tv 0)) 0 ((Av 2) - 1 : Int32).toInt ro_39)) sv_66 sv_67 sv_68 sv_69 := pf_72
                obtain ⟨ro_73, ero_73⟩ : ∃ z : Except Int (Nat × Nat), z = (rN1 (cB (Tf 1) (Tv 0)) 0 9 (rN1 (cB (Tf 1) (Tv 0)) 0 ((Av 2) - 1 : Int32).toInt ro_39)) := ⟨_, rfl⟩
                rw [← ero_73] at pf_72
                have tb_74 : TpB (rTE (cB (Tf 1) (Tv 0)) ro_73) sv_67 sv_69 := TpR.tb pf_72
                refine W.eq (g2 := F0 m 98 ls []) rfl ?_
                replace hP : va_P D classes [((Wa 0), .inr (0, [.ref (Aa 0)])), ((Aa 0), .inr (9, [.int (Av 0), .int (Av 1), .int (Av 2), .int (Av 3), .int (Av 4), .int (Av 5), .ref (Aa 1), .ref (Aa 2), .ref (Aa 3), .ref (Aa 4), .ref (Aa 5), .ref (Aa 6), .ref (Aa 7), .ref (Aa 8)])), ((Aa 1), .inl (tc 0, 10, .inl sv_65)), ((Aa 2), .inl (tc 0, 10, .inl (Af 2))), ((Aa 3), .inl (tc 0, 6, .inl (Af 3))), ((Aa 4), .inl (tc 0, 6, .inl (Af 4))), ((Aa 5), .inl (tc 0, 6, .inl (Af 5))), ((Aa 6), .inl (tc 0, 6, .inl (Af 6))), ((Aa 7), .inl (tc 0, 6, .inl (Af 7))), ((Aa 8), .inl (tc 0, 6, .inl (Af 8))), ((Ta 0), .inr (10, [.ref (Ta 1), .int (Tv 0), .int sv_66, .int sv_67, .int sv_68, .int sv_69])), ((Ta 1), .inl (tc 0, 400, .inl (Tf 1)))] H := hP₀
                replace hD : va_D A [((Wa 0), .inr (0, [.ref (Aa 0)])), ((Aa 0), .inr (9, [.int (Av 0), .int (Av 1), .int (Av 2), .int (Av 3), .int (Av 4), .int (Av 5), .ref (Aa 1), .ref (Aa 2), .ref (Aa 3), .ref (Aa 4), .ref (Aa 5), .ref (Aa 6), .ref (Aa 7), .ref (Aa 8)])), ((Aa 1), .inl (tc 0, 10, .inl sv_65)), ((Aa 2), .inl (tc 0, 10, .inl (Af 2))), ((Aa 3), .inl (tc 0, 6, .inl (Af 3))), ((Aa 4), .inl (tc 0, 6, .inl (Af 4))), ((Aa 5), .inl (tc 0, 6, .inl (Af 5))), ((Aa 6), .inl (tc 0, 6, .inl (Af 6))), ((Aa 7), .inl (tc 0, 6, .inl (Af 7))), ((Aa 8), .inl (tc 0, 6, .inl (Af 8))), ((Ta 0), .inr (10, [.ref (Ta 1), .int (Tv 0), .int sv_66, .int sv_67, .int sv_68, .int sv_69])), ((Ta 1), .inl (tc 0, 400, .inl (Tf 1)))] := hD₀
                replace hS := hS₀
                clear hP₀ hD₀ hS₀
                refine lv_goto (tgt := 119) hx hb dX0_readClause_98 (by decide) ?_
                have hc_75w : waR (cB (Tf 1) (Tv 0)) (wL 0) 0 (fstQ q) = (r_6 : Int32).toInt := by rw [h_fq]; exact he_7.symm
                have hr_76 : (r_6 : Int32).toInt = 1 := by
                  have z_1 : ¬ (r_6 : Int32).toInt = ((-1) : Int32).toInt := fun z => c_9 (Int32.toInt_inj.mp z)
                  have z_2 := Int32.lt_iff_toInt_lt.mp (Int32.not_le.mp c_10)
                  have z_3 : ¬ (r_6 : Int32).toInt = (0 : Int32).toInt := fun z => c_27 (Int32.toInt_inj.mp z)
                  have z_4 : ¬ (x1 : Int32).toInt = (0 : Int32).toInt := fun z => c_28 (Int32.toInt_inj.mp z)
                  have z_5 : ¬ (r_6 : Int32).toInt = (2 : Int32).toInt := fun z => c_30 (Int32.toInt_inj.mp z)
                  have z_6 : ¬ (r_6 : Int32).toInt = (0 : Int32).toInt := fun z => c_41 (Int32.toInt_inj.mp z)
                  have z_7 := congrArg Int32.toInt c_42
                  have y_m1 : (-1 : Int32).toInt = -1 := by decide
                  have y_0 : (0 : Int32).toInt = 0 := by decide
                  have y_1 : (1 : Int32).toInt = 1 := by decide
                  have y_2 : (2 : Int32).toInt = 2 := by decide
                  have y_40 : (40 : Int32).toInt = 40 := by decide
                  omega
                rw [hr_76] at hc_75w
                have hr_77 : 1 ≤ x1.toInt.toNat ∧ x1.toInt.toNat < 40 := by
                  have z_1 : ¬ (r_6 : Int32).toInt = ((-1) : Int32).toInt := fun z => c_9 (Int32.toInt_inj.mp z)
                  have z_2 := Int32.lt_iff_toInt_lt.mp (Int32.not_le.mp c_10)
                  have z_3 : ¬ (r_6 : Int32).toInt = (0 : Int32).toInt := fun z => c_27 (Int32.toInt_inj.mp z)
                  have z_4 : ¬ (x1 : Int32).toInt = (0 : Int32).toInt := fun z => c_28 (Int32.toInt_inj.mp z)
                  have z_5 : ¬ (r_6 : Int32).toInt = (2 : Int32).toInt := fun z => c_30 (Int32.toInt_inj.mp z)
                  have z_6 : ¬ (r_6 : Int32).toInt = (0 : Int32).toInt := fun z => c_41 (Int32.toInt_inj.mp z)
                  have z_7 := congrArg Int32.toInt c_42
                  have y_m1 : (-1 : Int32).toInt = -1 := by decide
                  have y_0 : (0 : Int32).toInt = 0 := by decide
                  have y_1 : (1 : Int32).toInt = 1 := by decide
                  have y_2 : (2 : Int32).toInt = 2 := by decide
                  have y_40 : (40 : Int32).toInt = 40 := by decide
                  omega
                have hc_75 := bc_1 (l := x1.toInt.toNat) hc_75w h_bq hr_77
                rw [h_fq] at hc_75
                have hu_78 : TpR (Tf 1) (Tv 0) (rN1 (cB (Tf 1) (Tv 0)) 0 9 (rN1 (cB (Tf 1) (Tv 0)) 0 ((Av 2) - 1 : Int32).toInt (rNX (cB (Tf 1) (Tv 0)) rr))) sv_66 sv_67 sv_68 sv_69 := by
                  rw [← ero_39, ← ero_73]
                  exact pf_72
                have hf_79 : TpR (Tf 1) (Tv 0) (fstQ (pz_b q (pz_bcl (cB (Tf 1) (Tv 0)) x1.toInt.toNat))) sv_66 sv_67 sv_68 sv_69 := by
                  rw [hc_75.1]
                  exact hu_78
                exact retV hx hb hr hlk hP hD hS ((Av 0), (Av 1), (Av 2), (Av 3), sv_65, (Af 2), (Af 3), (Af 4), (Af 5), sv_66, sv_67, sv_68, sv_69) ⟨rfl, pf_70, pf_71, hf_79, hc_75.2⟩ [0, 1, 2, 3, 4, 5, 6, 7, 8, 9, 10, 11] rfl rfl dX0_readClause_119 (Nat.le_of_ble_eq_true rfl) (Nat.le_of_ble_eq_true rfl) rfl
            · skip
              exfalso
              have z_1 : ¬ (r_6 : Int32).toInt = ((-1) : Int32).toInt := fun z => c_9 (Int32.toInt_inj.mp z)
              have z_2 := Int32.lt_iff_toInt_lt.mp (Int32.not_le.mp c_10)
              have z_3 : ¬ (r_6 : Int32).toInt = (0 : Int32).toInt := fun z => c_27 (Int32.toInt_inj.mp z)
              have z_4 : ¬ (x1 : Int32).toInt = (0 : Int32).toInt := fun z => c_28 (Int32.toInt_inj.mp z)
              have z_5 : ¬ (r_6 : Int32).toInt = (2 : Int32).toInt := fun z => c_30 (Int32.toInt_inj.mp z)
              have z_6 := congrArg Int32.toInt c_41
              have y_m1 : (-1 : Int32).toInt = -1 := by decide
              have y_0 : (0 : Int32).toInt = 0 := by decide
              have y_2 : (2 : Int32).toInt = 2 := by decide
              have y_40 : (40 : Int32).toInt = 40 := by decide
              omega
          · skip
            refine lv_aload_n hx hb dX0_readClause_52 rfl (lv_at hl 1 rfl) ?_
            refine gf_X0_12 hx hb hts hown hK hP 0 rfl rfl dX0_readClause_53 ?_
            refine gf_X0_51 hx hb hts hown hK hP 1 rfl rfl dX0_readClause_56 ?_
            refine lv_bipush (v := 6) hx hb dX0_readClause_59 (by decide) ?_
            refine lv_icmp_lt (tgt := 72) hx hb dX0_readClause_61 (by decide) (fun c_80 => ?_) (fun c_80 => ?_)
            · skip
              refine lv_aload_n hx hb dX0_readClause_72 rfl (lv_at hl 2 rfl) ?_
              refine cV (a := (Ta 0)) (As := []) (rest := []) (wr := [((Wa 0), .inr (0, [.ref (Aa 0)])), ((Aa 0), .inr (9, [.int (Av 0), .int (Av 1), .int (Av 2), .int (Av 3), .int (Av 4), .int (Av 5), .ref (Aa 1), .ref (Aa 2), .ref (Aa 3), .ref (Aa 4), .ref (Aa 5), .ref (Aa 6), .ref (Aa 7), .ref (Aa 8)])), ((Aa 1), .inl (tc 0, 10, .inl (Af 1))), ((Aa 2), .inl (tc 0, 10, .inl (Af 2))), ((Aa 3), .inl (tc 0, 6, .inl (Af 3))), ((Aa 4), .inl (tc 0, 6, .inl (Af 4))), ((Aa 5), .inl (tc 0, 6, .inl (Af 5))), ((Aa 6), .inl (tc 0, 6, .inl (Af 6))), ((Aa 7), .inl (tc 0, 6, .inl (Af 7))), ((Aa 8), .inl (tc 0, 6, .inl (Af 8)))]) ⟨hx, hb, hml, hown, hts⟩ hK hX hA (cu_fX10_step l D tc sk (Ta 0) (Ta 1) (Tv 0) (Tv 1) (Tv 2) (Tv 3) (Tv 4) (Tf 1) (rTE (cB (Tf 1) (Tv 0)) rr) h_tape h_by tb_1) k_478 k_558 k_476 k_477 k_96 pl_X10_step ⟨Nat.le_of_ble_eq_true rfl, Nat.le_of_ble_eq_true rfl⟩ rfl rfl (va_recv hK hP (ci := 10) (q0 := 10) rfl rfl) hP hD hS [10, 11] [0, 1, 2, 3, 4, 5, 6, 7, 8, 9] rfl rfl rfl rfl rfl (by decide) rfl hl.1 rfl (Nat.le_of_ble_eq_true rfl) dX0_readClause_73 ⟨Nat.le_of_ble_eq_true rfl, Nat.le_of_ble_eq_true rfl⟩ (fun v_81 u_82 H locs hv_83 hP₀ hD₀ hS₀ => ?_)
              obtain ⟨sv_84, sv_85, sv_86⟩ := u_82
              obtain ⟨rfl, pf_87, pf_88⟩ := hv_83
              have pf_87 : 0 ≤ ((Tv 0) : Int32).toInt ∧ ((Tv 0) : Int32).toInt ≤ 400 ∧ 0 ≤ (sv_84 : Int32).toInt ∧ (sv_84 : Int32).toInt ≤ 400 ∧ 0 ≤ (sv_85 : Int32).toInt ∧ (sv_85 : Int32).toInt ≤ 400 := pf_87
              have pf_88 : TpR (Tf 1) (Tv 0) (rSK (cB (Tf 1) (Tv 0)) (rTE (cB (Tf 1) (Tv 0)) rr)) sv_84 sv_85 sv_86 (Tv 4) := pf_88
              rw [rNX_eq] at pf_88
              obtain ⟨ro_89, ero_89⟩ : ∃ z : Except Int (Nat × Nat), z = (rNX (cB (Tf 1) (Tv 0)) rr) := ⟨_, rfl⟩
              rw [← ero_89] at pf_88
              have tb_90 : TpB (rTE (cB (Tf 1) (Tv 0)) ro_89) sv_85 (Tv 4) := TpR.tb pf_88
              refine W.eq (g2 := F0 m 76 ls []) rfl ?_
              replace hP : va_P D classes [((Wa 0), .inr (0, [.ref (Aa 0)])), ((Aa 0), .inr (9, [.int (Av 0), .int (Av 1), .int (Av 2), .int (Av 3), .int (Av 4), .int (Av 5), .ref (Aa 1), .ref (Aa 2), .ref (Aa 3), .ref (Aa 4), .ref (Aa 5), .ref (Aa 6), .ref (Aa 7), .ref (Aa 8)])), ((Aa 1), .inl (tc 0, 10, .inl (Af 1))), ((Aa 2), .inl (tc 0, 10, .inl (Af 2))), ((Aa 3), .inl (tc 0, 6, .inl (Af 3))), ((Aa 4), .inl (tc 0, 6, .inl (Af 4))), ((Aa 5), .inl (tc 0, 6, .inl (Af 5))), ((Aa 6), .inl (tc 0, 6, .inl (Af 6))), ((Aa 7), .inl (tc 0, 6, .inl (Af 7))), ((Aa 8), .inl (tc 0, 6, .inl (Af 8))), ((Ta 0), .inr (10, [.ref (Ta 1), .int (Tv 0), .int sv_84, .int sv_85, .int sv_86, .int (Tv 4)])), ((Ta 1), .inl (tc 0, 400, .inl (Tf 1)))] H := hP₀
              replace hD : va_D A [((Wa 0), .inr (0, [.ref (Aa 0)])), ((Aa 0), .inr (9, [.int (Av 0), .int (Av 1), .int (Av 2), .int (Av 3), .int (Av 4), .int (Av 5), .ref (Aa 1), .ref (Aa 2), .ref (Aa 3), .ref (Aa 4), .ref (Aa 5), .ref (Aa 6), .ref (Aa 7), .ref (Aa 8)])), ((Aa 1), .inl (tc 0, 10, .inl (Af 1))), ((Aa 2), .inl (tc 0, 10, .inl (Af 2))), ((Aa 3), .inl (tc 0, 6, .inl (Af 3))), ((Aa 4), .inl (tc 0, 6, .inl (Af 4))), ((Aa 5), .inl (tc 0, 6, .inl (Af 5))), ((Aa 6), .inl (tc 0, 6, .inl (Af 6))), ((Aa 7), .inl (tc 0, 6, .inl (Af 7))), ((Aa 8), .inl (tc 0, 6, .inl (Af 8))), ((Ta 0), .inr (10, [.ref (Ta 1), .int (Tv 0), .int sv_84, .int sv_85, .int sv_86, .int (Tv 4)])), ((Ta 1), .inl (tc 0, 400, .inl (Tf 1)))] := hD₀
              replace hS := hS₀
              clear hP₀ hD₀ hS₀
              refine lv_iload_n hx hb dX0_readClause_76 rfl (lv_at hl 0 rfl) ?_
              refine lv_if_ne (tgt := 88) hx hb dX0_readClause_77 (by decide) (fun c_91 => ?_) (fun c_91 => ?_)
              · skip
                refine lv_iload_n hx hb dX0_readClause_88 rfl (lv_at hl 0 rfl) ?_
                refine lv_iconst (v := 1) hx hb dX0_readClause_89 (by decide) ?_
                refine lv_icmp_ne (tgt := 101) hx hb dX0_readClause_90 (by decide) (fun c_92 => ?_) (fun c_92 => ?_)
                · skip
                  refine lv_iload_n hx hb dX0_readClause_101 rfl (lv_at hl 0 rfl) ?_
                  refine lv_iconst (v := 2) hx hb dX0_readClause_102 (by decide) ?_
                  refine lv_icmp_ne (tgt := 114) hx hb dX0_readClause_103 (by decide) (fun c_93 => ?_) (fun c_93 => ?_)
                  · skip
                    exfalso
                    have z_1 : ¬ (r_6 : Int32).toInt = ((-1) : Int32).toInt := fun z => c_9 (Int32.toInt_inj.mp z)
                    have z_2 := Int32.lt_iff_toInt_lt.mp (Int32.not_le.mp c_10)
                    have z_3 : ¬ (r_6 : Int32).toInt = (0 : Int32).toInt := fun z => c_27 (Int32.toInt_inj.mp z)
                    have z_4 : ¬ (x1 : Int32).toInt = (0 : Int32).toInt := fun z => c_28 (Int32.toInt_inj.mp z)
                    have z_5 := congrArg Int32.toInt c_30
                    have z_6 := Int32.lt_iff_toInt_lt.mp c_80
                    have z_7 : ¬ (r_6 : Int32).toInt = (0 : Int32).toInt := fun z => c_91 (Int32.toInt_inj.mp z)
                    have z_8 : ¬ (r_6 : Int32).toInt = (1 : Int32).toInt := fun z => c_92 (Int32.toInt_inj.mp z)
                    have z_9 : ¬ (r_6 : Int32).toInt = (2 : Int32).toInt := fun z => c_93 (Int32.toInt_inj.mp z)
                    have y_m1 : (-1 : Int32).toInt = -1 := by decide
                    have y_0 : (0 : Int32).toInt = 0 := by decide
                    have y_1 : (1 : Int32).toInt = 1 := by decide
                    have y_2 : (2 : Int32).toInt = 2 := by decide
                    have y_6 : (6 : Int32).toInt = 6 := by decide
                    have y_40 : (40 : Int32).toInt = 40 := by decide
                    omega
                  · skip
                    refine lv_aload_n hx hb dX0_readClause_106 rfl (lv_at hl 1 rfl) ?_
                    refine lv_aload_n hx hb dX0_readClause_107 rfl (lv_at hl 2 rfl) ?_
                    have ha_94 : 0 ≤ (Av 3).toInt ∧ (Av 3).toInt < 6 := by
                      have z_1 : ¬ (r_6 : Int32).toInt = ((-1) : Int32).toInt := fun z => c_9 (Int32.toInt_inj.mp z)
                      have z_2 := Int32.lt_iff_toInt_lt.mp (Int32.not_le.mp c_10)
                      have z_3 : ¬ (r_6 : Int32).toInt = (0 : Int32).toInt := fun z => c_27 (Int32.toInt_inj.mp z)
                      have z_4 : ¬ (x1 : Int32).toInt = (0 : Int32).toInt := fun z => c_28 (Int32.toInt_inj.mp z)
                      have z_5 := congrArg Int32.toInt c_30
                      have z_6 := Int32.lt_iff_toInt_lt.mp c_80
                      have z_7 : ¬ (r_6 : Int32).toInt = (0 : Int32).toInt := fun z => c_91 (Int32.toInt_inj.mp z)
                      have z_8 : ¬ (r_6 : Int32).toInt = (1 : Int32).toInt := fun z => c_92 (Int32.toInt_inj.mp z)
                      have z_9 := congrArg Int32.toInt c_93
                      have y_m1 : (-1 : Int32).toInt = -1 := by decide
                      have y_0 : (0 : Int32).toInt = 0 := by decide
                      have y_1 : (1 : Int32).toInt = 1 := by decide
                      have y_2 : (2 : Int32).toInt = 2 := by decide
                      have y_6 : (6 : Int32).toInt = 6 := by decide
                      have y_40 : (40 : Int32).toInt = 40 := by decide
                      omega
                    refine cV (a := (Wa 0)) (As := [.ref (Ta 0)]) (rest := []) (wr := []) ⟨hx, hb, hml, hown, hts⟩ hK hX hA (cu_fX0_readBuyer l D tc sk (Wa 0) (Aa 0) (Aa 1) (Aa 2) (Aa 3) (Aa 4) (Aa 5) (Aa 6) (Aa 7) (Aa 8) (Av 0) (Av 1) (Av 2) (Av 3) (Av 4) (Av 5) (Af 1) (Af 2) (Af 3) (Af 4) (Af 5) (Af 6) (Af 7) (Af 8) (Ta 0) (Ta 1) (Tv 0) sv_84 sv_85 sv_86 (Tv 4) (Tf 1) ro_89 pf_87 h_by pf_88 ha_94) k_583 k_580 k_582 k_5 k_97 pl_X0_readBuyer ⟨Nat.le_of_ble_eq_true rfl, Nat.le_of_ble_eq_true rfl⟩ rfl rfl (va_recv hK hP (ci := 0) (q0 := 0) rfl rfl) hP hD hS [0, 1, 2, 3, 4, 5, 6, 7, 8, 9, 10, 11] [] rfl rfl rfl rfl rfl (by decide) rfl hl.1 rfl (Nat.le_of_ble_eq_true rfl) dX0_readClause_108 ⟨Nat.le_of_ble_eq_true rfl, Nat.le_of_ble_eq_true rfl⟩ (fun v_95 u_96 H locs hv_97 hP₀ hD₀ hS₀ => ?_)
                    obtain ⟨sv_98, sv_99, sv_100, sv_101, sv_102, sv_103, sv_104, sv_105⟩ := u_96
                    obtain ⟨rfl, pf_106, pf_107, pf_108, pf_109⟩ := hv_97
                    have pf_106 : 0 ≤ ((Tv 0) : Int32).toInt ∧ ((Tv 0) : Int32).toInt ≤ 400 ∧ 0 ≤ (sv_102 : Int32).toInt ∧ (sv_102 : Int32).toInt ≤ 400 ∧ 0 ≤ (sv_103 : Int32).toInt ∧ (sv_103 : Int32).toInt ≤ 400 := pf_106
                    have pf_107 : 0 ≤ (sv_98 : Int32).toInt ∧ (sv_98 : Int32).toInt ≤ 6 := pf_107
                    have pf_108 : (sv_98 : Int32).toInt = (Av 3).toInt + 1 := pf_108
                    have pf_109 : TpR (Tf 1) (Tv 0) (rN1 (cB (Tf 1) (Tv 0)) 0 9 (rN1 (cB (Tf 1) (Tv 0)) 1 9 (rN1 (cB (Tf 1) (Tv 0)) 0 20 ro_89))) sv_102 sv_103 sv_104 sv_105 := pf_109
                    obtain ⟨ro_110, ero_110⟩ : ∃ z : Except Int (Nat × Nat), z = (rN1 (cB (Tf 1) (Tv 0)) 0 9 (rN1 (cB (Tf 1) (Tv 0)) 1 9 (rN1 (cB (Tf 1) (Tv 0)) 0 20 ro_89))) := ⟨_, rfl⟩
                    rw [← ero_110] at pf_109
                    have tb_111 : TpB (rTE (cB (Tf 1) (Tv 0)) ro_110) sv_103 sv_105 := TpR.tb pf_109
                    refine W.eq (g2 := F0 m 111 ls []) rfl ?_
                    replace hP : va_P D classes [((Wa 0), .inr (0, [.ref (Aa 0)])), ((Aa 0), .inr (9, [.int (Av 0), .int (Av 1), .int (Av 2), .int sv_98, .int (Av 4), .int (Av 5), .ref (Aa 1), .ref (Aa 2), .ref (Aa 3), .ref (Aa 4), .ref (Aa 5), .ref (Aa 6), .ref (Aa 7), .ref (Aa 8)])), ((Aa 1), .inl (tc 0, 10, .inl (Af 1))), ((Aa 2), .inl (tc 0, 10, .inl (Af 2))), ((Aa 3), .inl (tc 0, 6, .inl sv_99)), ((Aa 4), .inl (tc 0, 6, .inl sv_100)), ((Aa 5), .inl (tc 0, 6, .inl sv_101)), ((Aa 6), .inl (tc 0, 6, .inl (Af 6))), ((Aa 7), .inl (tc 0, 6, .inl (Af 7))), ((Aa 8), .inl (tc 0, 6, .inl (Af 8))), ((Ta 0), .inr (10, [.ref (Ta 1), .int (Tv 0), .int sv_102, .int sv_103, .int sv_104, .int sv_105])), ((Ta 1), .inl (tc 0, 400, .inl (Tf 1)))] H := hP₀
                    replace hD : va_D A [((Wa 0), .inr (0, [.ref (Aa 0)])), ((Aa 0), .inr (9, [.int (Av 0), .int (Av 1), .int (Av 2), .int sv_98, .int (Av 4), .int (Av 5), .ref (Aa 1), .ref (Aa 2), .ref (Aa 3), .ref (Aa 4), .ref (Aa 5), .ref (Aa 6), .ref (Aa 7), .ref (Aa 8)])), ((Aa 1), .inl (tc 0, 10, .inl (Af 1))), ((Aa 2), .inl (tc 0, 10, .inl (Af 2))), ((Aa 3), .inl (tc 0, 6, .inl sv_99)), ((Aa 4), .inl (tc 0, 6, .inl sv_100)), ((Aa 5), .inl (tc 0, 6, .inl sv_101)), ((Aa 6), .inl (tc 0, 6, .inl (Af 6))), ((Aa 7), .inl (tc 0, 6, .inl (Af 7))), ((Aa 8), .inl (tc 0, 6, .inl (Af 8))), ((Ta 0), .inr (10, [.ref (Ta 1), .int (Tv 0), .int sv_102, .int sv_103, .int sv_104, .int sv_105])), ((Ta 1), .inl (tc 0, 400, .inl (Tf 1)))] := hD₀
                    replace hS := hS₀
                    clear hP₀ hD₀ hS₀
                    refine lv_goto (tgt := 119) hx hb dX0_readClause_111 (by decide) ?_
                    have hc_112w : waR (cB (Tf 1) (Tv 0)) (wL 0) 0 (fstQ q) = (r_6 : Int32).toInt := by rw [h_fq]; exact he_7.symm
                    have hr_113 : (r_6 : Int32).toInt = 2 := by
                      have z_1 : ¬ (r_6 : Int32).toInt = ((-1) : Int32).toInt := fun z => c_9 (Int32.toInt_inj.mp z)
                      have z_2 := Int32.lt_iff_toInt_lt.mp (Int32.not_le.mp c_10)
                      have z_3 : ¬ (r_6 : Int32).toInt = (0 : Int32).toInt := fun z => c_27 (Int32.toInt_inj.mp z)
                      have z_4 : ¬ (x1 : Int32).toInt = (0 : Int32).toInt := fun z => c_28 (Int32.toInt_inj.mp z)
                      have z_5 := congrArg Int32.toInt c_30
                      have z_6 := Int32.lt_iff_toInt_lt.mp c_80
                      have z_7 : ¬ (r_6 : Int32).toInt = (0 : Int32).toInt := fun z => c_91 (Int32.toInt_inj.mp z)
                      have z_8 : ¬ (r_6 : Int32).toInt = (1 : Int32).toInt := fun z => c_92 (Int32.toInt_inj.mp z)
                      have z_9 := congrArg Int32.toInt c_93
                      have y_m1 : (-1 : Int32).toInt = -1 := by decide
                      have y_0 : (0 : Int32).toInt = 0 := by decide
                      have y_1 : (1 : Int32).toInt = 1 := by decide
                      have y_2 : (2 : Int32).toInt = 2 := by decide
                      have y_6 : (6 : Int32).toInt = 6 := by decide
                      have y_40 : (40 : Int32).toInt = 40 := by decide
                      omega
                    rw [hr_113] at hc_112w
                    have hr_114 : 1 ≤ x1.toInt.toNat ∧ x1.toInt.toNat < 40 := by
                      have z_1 : ¬ (r_6 : Int32).toInt = ((-1) : Int32).toInt := fun z => c_9 (Int32.toInt_inj.mp z)
                      have z_2 := Int32.lt_iff_toInt_lt.mp (Int32.not_le.mp c_10)
                      have z_3 : ¬ (r_6 : Int32).toInt = (0 : Int32).toInt := fun z => c_27 (Int32.toInt_inj.mp z)
                      have z_4 : ¬ (x1 : Int32).toInt = (0 : Int32).toInt := fun z => c_28 (Int32.toInt_inj.mp z)
                      have z_5 := congrArg Int32.toInt c_30
                      have z_6 := Int32.lt_iff_toInt_lt.mp c_80
                      have z_7 : ¬ (r_6 : Int32).toInt = (0 : Int32).toInt := fun z => c_91 (Int32.toInt_inj.mp z)
                      have z_8 : ¬ (r_6 : Int32).toInt = (1 : Int32).toInt := fun z => c_92 (Int32.toInt_inj.mp z)
                      have z_9 := congrArg Int32.toInt c_93
                      have y_m1 : (-1 : Int32).toInt = -1 := by decide
                      have y_0 : (0 : Int32).toInt = 0 := by decide
                      have y_1 : (1 : Int32).toInt = 1 := by decide
                      have y_2 : (2 : Int32).toInt = 2 := by decide
                      have y_6 : (6 : Int32).toInt = 6 := by decide
                      have y_40 : (40 : Int32).toInt = 40 := by decide
                      omega
                    have hr_115 : (Av 3).toInt < 6 := by
                      have z_1 : ¬ (r_6 : Int32).toInt = ((-1) : Int32).toInt := fun z => c_9 (Int32.toInt_inj.mp z)
                      have z_2 := Int32.lt_iff_toInt_lt.mp (Int32.not_le.mp c_10)
                      have z_3 : ¬ (r_6 : Int32).toInt = (0 : Int32).toInt := fun z => c_27 (Int32.toInt_inj.mp z)
                      have z_4 : ¬ (x1 : Int32).toInt = (0 : Int32).toInt := fun z => c_28 (Int32.toInt_inj.mp z)
                      have z_5 := congrArg Int32.toInt c_30
                      have z_6 := Int32.lt_iff_toInt_lt.mp c_80
                      have z_7 : ¬ (r_6 : Int32).toInt = (0 : Int32).toInt := fun z => c_91 (Int32.toInt_inj.mp z)
                      have z_8 : ¬ (r_6 : Int32).toInt = (1 : Int32).toInt := fun z => c_92 (Int32.toInt_inj.mp z)
                      have z_9 := congrArg Int32.toInt c_93
                      have y_m1 : (-1 : Int32).toInt = -1 := by decide
                      have y_0 : (0 : Int32).toInt = 0 := by decide
                      have y_1 : (1 : Int32).toInt = 1 := by decide
                      have y_2 : (2 : Int32).toInt = 2 := by decide
                      have y_6 : (6 : Int32).toInt = 6 := by decide
                      have y_40 : (40 : Int32).toInt = 40 := by decide
                      omega
                    have hi_116 : (sv_98 : Int32).toInt = (Av 3).toInt + 1 := by
                      have z_1 : ¬ (r_6 : Int32).toInt = ((-1) : Int32).toInt := fun z => c_9 (Int32.toInt_inj.mp z)
                      have z_2 := Int32.lt_iff_toInt_lt.mp (Int32.not_le.mp c_10)
                      have z_3 : ¬ (r_6 : Int32).toInt = (0 : Int32).toInt := fun z => c_27 (Int32.toInt_inj.mp z)
                      have z_4 : ¬ (x1 : Int32).toInt = (0 : Int32).toInt := fun z => c_28 (Int32.toInt_inj.mp z)
                      have z_5 := congrArg Int32.toInt c_30
                      have z_6 := Int32.lt_iff_toInt_lt.mp c_80
                      have z_7 : ¬ (r_6 : Int32).toInt = (0 : Int32).toInt := fun z => c_91 (Int32.toInt_inj.mp z)
                      have z_8 : ¬ (r_6 : Int32).toInt = (1 : Int32).toInt := fun z => c_92 (Int32.toInt_inj.mp z)
                      have z_9 := congrArg Int32.toInt c_93
                      have y_m1 : (-1 : Int32).toInt = -1 := by decide
                      have y_0 : (0 : Int32).toInt = 0 := by decide
                      have y_1 : (1 : Int32).toInt = 1 := by decide
                      have y_2 : (2 : Int32).toInt = 2 := by decide
                      have y_6 : (6 : Int32).toInt = 6 := by decide
                      have y_40 : (40 : Int32).toInt = 40 := by decide
                      omega
                    have hc_112 := bc_2 (l := x1.toInt.toNat) (bn' := sv_98) hc_112w h_bq hr_114 hr_115 hi_116
                    rw [h_fq] at hc_112
                    have hu_117 : TpR (Tf 1) (Tv 0) (rN1 (cB (Tf 1) (Tv 0)) 0 9 (rN1 (cB (Tf 1) (Tv 0)) 1 9 (rN1 (cB (Tf 1) (Tv 0)) 0 20 (rNX (cB (Tf 1) (Tv 0)) rr)))) sv_102 sv_103 sv_104 sv_105 := by
                      rw [← ero_89, ← ero_110]
                      exact pf_109
                    have hf_118 : TpR (Tf 1) (Tv 0) (fstQ (pz_b q (pz_bcl (cB (Tf 1) (Tv 0)) x1.toInt.toNat))) sv_102 sv_103 sv_104 sv_105 := by
                      rw [hc_112.1]
                      exact hu_117
                    exact retV hx hb hr hlk hP hD hS ((Av 0), (Av 1), (Av 2), sv_98, (Af 1), (Af 2), sv_99, sv_100, sv_101, sv_102, sv_103, sv_104, sv_105) ⟨rfl, pf_106, pf_107, hf_118, hc_112.2⟩ [0, 1, 2, 3, 4, 5, 6, 7, 8, 9, 10, 11] rfl rfl dX0_readClause_119 (Nat.le_of_ble_eq_true rfl) (Nat.le_of_ble_eq_true rfl) rfl
                · skip
                  refine lv_aload_n hx hb dX0_readClause_93 rfl (lv_at hl 1 rfl) ?_
                  refine lv_aload_n hx hb dX0_readClause_94 rfl (lv_at hl 2 rfl) ?_
                  refine cV (a := (Wa 0)) (As := [.ref (Ta 0)]) (rest := []) (wr := []) ⟨hx, hb, hml, hown, hts⟩ hK hX hA (cu_fX0_readSky l D tc sk (Wa 0) (Aa 0) (Aa 1) (Aa 2) (Aa 3) (Aa 4) (Aa 5) (Aa 6) (Aa 7) (Aa 8) (Av 0) (Av 1) (Av 2) (Av 3) (Av 4) (Av 5) (Af 1) (Af 2) (Af 3) (Af 4) (Af 5) (Af 6) (Af 7) (Af 8) (Ta 0) (Ta 1) (Tv 0) sv_84 sv_85 sv_86 (Tv 4) (Tf 1) ro_89 pf_87 h_by pf_88 h_bu) k_575 k_572 k_574 k_4 k_97 pl_X0_readSky ⟨Nat.le_of_ble_eq_true rfl, Nat.le_of_ble_eq_true rfl⟩ rfl rfl (va_recv hK hP (ci := 0) (q0 := 0) rfl rfl) hP hD hS [0, 1, 2, 3, 4, 5, 6, 7, 8, 9, 10, 11] [] rfl rfl rfl rfl rfl (by decide) rfl hl.1 rfl (Nat.le_of_ble_eq_true rfl) dX0_readClause_95 ⟨Nat.le_of_ble_eq_true rfl, Nat.le_of_ble_eq_true rfl⟩ (fun v_119 u_120 H locs hv_121 hP₀ hD₀ hS₀ => ?_)
                  obtain ⟨sv_122, sv_123, sv_124, sv_125, sv_126⟩ := u_120
                  obtain ⟨rfl, pf_127, pf_128, pf_129⟩ := hv_121
                  have pf_127 : 0 ≤ ((Tv 0) : Int32).toInt ∧ ((Tv 0) : Int32).toInt ≤ 400 ∧ 0 ≤ (sv_123 : Int32).toInt ∧ (sv_123 : Int32).toInt ≤ 400 ∧ 0 ≤ (sv_124 : Int32).toInt ∧ (sv_124 : Int32).toInt ≤ 400 := pf_127
                  have pf_128 : 0 ≤ ((Av 3) : Int32).toInt ∧ ((Av 3) : Int32).toInt ≤ 6 := pf_128
                  have pf_129 : TpR (Tf 1) (Tv 0) (rN1 (cB (Tf 1) (Tv 0)) 0 9 (rN1 (cB (Tf 1) (Tv 0)) 0 ((Av 2) - 1 : Int32).toInt ro_89)) sv_123 sv_124 sv_125 sv_126 := pf_129
                  obtain ⟨ro_130, ero_130⟩ : ∃ z : Except Int (Nat × Nat), z = (rN1 (cB (Tf 1) (Tv 0)) 0 9 (rN1 (cB (Tf 1) (Tv 0)) 0 ((Av 2) - 1 : Int32).toInt ro_89)) := ⟨_, rfl⟩
                  rw [← ero_130] at pf_129
                  have tb_131 : TpB (rTE (cB (Tf 1) (Tv 0)) ro_130) sv_124 sv_126 := TpR.tb pf_129
                  refine W.eq (g2 := F0 m 98 ls []) rfl ?_
                  replace hP : va_P D classes [((Wa 0), .inr (0, [.ref (Aa 0)])), ((Aa 0), .inr (9, [.int (Av 0), .int (Av 1), .int (Av 2), .int (Av 3), .int (Av 4), .int (Av 5), .ref (Aa 1), .ref (Aa 2), .ref (Aa 3), .ref (Aa 4), .ref (Aa 5), .ref (Aa 6), .ref (Aa 7), .ref (Aa 8)])), ((Aa 1), .inl (tc 0, 10, .inl sv_122)), ((Aa 2), .inl (tc 0, 10, .inl (Af 2))), ((Aa 3), .inl (tc 0, 6, .inl (Af 3))), ((Aa 4), .inl (tc 0, 6, .inl (Af 4))), ((Aa 5), .inl (tc 0, 6, .inl (Af 5))), ((Aa 6), .inl (tc 0, 6, .inl (Af 6))), ((Aa 7), .inl (tc 0, 6, .inl (Af 7))), ((Aa 8), .inl (tc 0, 6, .inl (Af 8))), ((Ta 0), .inr (10, [.ref (Ta 1), .int (Tv 0), .int sv_123, .int sv_124, .int sv_125, .int sv_126])), ((Ta 1), .inl (tc 0, 400, .inl (Tf 1)))] H := hP₀
                  replace hD : va_D A [((Wa 0), .inr (0, [.ref (Aa 0)])), ((Aa 0), .inr (9, [.int (Av 0), .int (Av 1), .int (Av 2), .int (Av 3), .int (Av 4), .int (Av 5), .ref (Aa 1), .ref (Aa 2), .ref (Aa 3), .ref (Aa 4), .ref (Aa 5), .ref (Aa 6), .ref (Aa 7), .ref (Aa 8)])), ((Aa 1), .inl (tc 0, 10, .inl sv_122)), ((Aa 2), .inl (tc 0, 10, .inl (Af 2))), ((Aa 3), .inl (tc 0, 6, .inl (Af 3))), ((Aa 4), .inl (tc 0, 6, .inl (Af 4))), ((Aa 5), .inl (tc 0, 6, .inl (Af 5))), ((Aa 6), .inl (tc 0, 6, .inl (Af 6))), ((Aa 7), .inl (tc 0, 6, .inl (Af 7))), ((Aa 8), .inl (tc 0, 6, .inl (Af 8))), ((Ta 0), .inr (10, [.ref (Ta 1), .int (Tv 0), .int sv_123, .int sv_124, .int sv_125, .int sv_126])), ((Ta 1), .inl (tc 0, 400, .inl (Tf 1)))] := hD₀
                  replace hS := hS₀
                  clear hP₀ hD₀ hS₀
                  refine lv_goto (tgt := 119) hx hb dX0_readClause_98 (by decide) ?_
                  have hc_132w : waR (cB (Tf 1) (Tv 0)) (wL 0) 0 (fstQ q) = (r_6 : Int32).toInt := by rw [h_fq]; exact he_7.symm
                  have hr_133 : (r_6 : Int32).toInt = 1 := by
                    have z_1 : ¬ (r_6 : Int32).toInt = ((-1) : Int32).toInt := fun z => c_9 (Int32.toInt_inj.mp z)
                    have z_2 := Int32.lt_iff_toInt_lt.mp (Int32.not_le.mp c_10)
                    have z_3 : ¬ (r_6 : Int32).toInt = (0 : Int32).toInt := fun z => c_27 (Int32.toInt_inj.mp z)
                    have z_4 : ¬ (x1 : Int32).toInt = (0 : Int32).toInt := fun z => c_28 (Int32.toInt_inj.mp z)
                    have z_5 := congrArg Int32.toInt c_30
                    have z_6 := Int32.lt_iff_toInt_lt.mp c_80
                    have z_7 : ¬ (r_6 : Int32).toInt = (0 : Int32).toInt := fun z => c_91 (Int32.toInt_inj.mp z)
                    have z_8 := congrArg Int32.toInt c_92
                    have y_m1 : (-1 : Int32).toInt = -1 := by decide
                    have y_0 : (0 : Int32).toInt = 0 := by decide
                    have y_1 : (1 : Int32).toInt = 1 := by decide
                    have y_2 : (2 : Int32).toInt = 2 := by decide
                    have y_6 : (6 : Int32).toInt = 6 := by decide
                    have y_40 : (40 : Int32).toInt = 40 := by decide
                    omega
                  rw [hr_133] at hc_132w
                  have hr_134 : 1 ≤ x1.toInt.toNat ∧ x1.toInt.toNat < 40 := by
                    have z_1 : ¬ (r_6 : Int32).toInt = ((-1) : Int32).toInt := fun z => c_9 (Int32.toInt_inj.mp z)
                    have z_2 := Int32.lt_iff_toInt_lt.mp (Int32.not_le.mp c_10)
                    have z_3 : ¬ (r_6 : Int32).toInt = (0 : Int32).toInt := fun z => c_27 (Int32.toInt_inj.mp z)
                    have z_4 : ¬ (x1 : Int32).toInt = (0 : Int32).toInt := fun z => c_28 (Int32.toInt_inj.mp z)
                    have z_5 := congrArg Int32.toInt c_30
                    have z_6 := Int32.lt_iff_toInt_lt.mp c_80
                    have z_7 : ¬ (r_6 : Int32).toInt = (0 : Int32).toInt := fun z => c_91 (Int32.toInt_inj.mp z)
                    have z_8 := congrArg Int32.toInt c_92
                    have y_m1 : (-1 : Int32).toInt = -1 := by decide
                    have y_0 : (0 : Int32).toInt = 0 := by decide
                    have y_1 : (1 : Int32).toInt = 1 := by decide
                    have y_2 : (2 : Int32).toInt = 2 := by decide
                    have y_6 : (6 : Int32).toInt = 6 := by decide
                    have y_40 : (40 : Int32).toInt = 40 := by decide
                    omega
                  have hc_132 := bc_1 (l := x1.toInt.toNat) hc_132w h_bq hr_134
                  rw [h_fq] at hc_132
                  have hu_135 : TpR (Tf 1) (Tv 0) (rN1 (cB (Tf 1) (Tv 0)) 0 9 (rN1 (cB (Tf 1) (Tv 0)) 0 ((Av 2) - 1 : Int32).toInt (rNX (cB (Tf 1) (Tv 0)) rr))) sv_123 sv_124 sv_125 sv_126 := by
                    rw [← ero_89, ← ero_130]
                    exact pf_129
                  have hf_136 : TpR (Tf 1) (Tv 0) (fstQ (pz_b q (pz_bcl (cB (Tf 1) (Tv 0)) x1.toInt.toNat))) sv_123 sv_124 sv_125 sv_126 := by
                    rw [hc_132.1]
                    exact hu_135
                  exact retV hx hb hr hlk hP hD hS ((Av 0), (Av 1), (Av 2), (Av 3), sv_122, (Af 2), (Af 3), (Af 4), (Af 5), sv_123, sv_124, sv_125, sv_126) ⟨rfl, pf_127, pf_128, hf_136, hc_132.2⟩ [0, 1, 2, 3, 4, 5, 6, 7, 8, 9, 10, 11] rfl rfl dX0_readClause_119 (Nat.le_of_ble_eq_true rfl) (Nat.le_of_ble_eq_true rfl) rfl
              · skip
                exfalso
                have z_1 : ¬ (r_6 : Int32).toInt = ((-1) : Int32).toInt := fun z => c_9 (Int32.toInt_inj.mp z)
                have z_2 := Int32.lt_iff_toInt_lt.mp (Int32.not_le.mp c_10)
                have z_3 : ¬ (r_6 : Int32).toInt = (0 : Int32).toInt := fun z => c_27 (Int32.toInt_inj.mp z)
                have z_4 : ¬ (x1 : Int32).toInt = (0 : Int32).toInt := fun z => c_28 (Int32.toInt_inj.mp z)
                have z_5 := congrArg Int32.toInt c_30
                have z_6 := Int32.lt_iff_toInt_lt.mp c_80
                have z_7 := congrArg Int32.toInt c_91
                have y_m1 : (-1 : Int32).toInt = -1 := by decide
                have y_0 : (0 : Int32).toInt = 0 := by decide
                have y_2 : (2 : Int32).toInt = 2 := by decide
                have y_6 : (6 : Int32).toInt = 6 := by decide
                have y_40 : (40 : Int32).toInt = 40 := by decide
                omega
            · skip
              refine lv_aload_n hx hb dX0_readClause_64 rfl (lv_at hl 2 rfl) ?_
              refine lv_iconst (v := 4) hx hb dX0_readClause_65 (by decide) ?_
              have ha_137 : 0 ≤ (4 : Int32).toInt ∧ (4 : Int32).toInt ≤ 4 := by
                have z_1 : ¬ (r_6 : Int32).toInt = ((-1) : Int32).toInt := fun z => c_9 (Int32.toInt_inj.mp z)
                have z_2 := Int32.lt_iff_toInt_lt.mp (Int32.not_le.mp c_10)
                have z_3 : ¬ (r_6 : Int32).toInt = (0 : Int32).toInt := fun z => c_27 (Int32.toInt_inj.mp z)
                have z_4 : ¬ (x1 : Int32).toInt = (0 : Int32).toInt := fun z => c_28 (Int32.toInt_inj.mp z)
                have z_5 := congrArg Int32.toInt c_30
                have z_6 := Int32.le_iff_toInt_le.mp (Int32.not_lt.mp c_80)
                have y_m1 : (-1 : Int32).toInt = -1 := by decide
                have y_0 : (0 : Int32).toInt = 0 := by decide
                have y_2 : (2 : Int32).toInt = 2 := by decide
                have y_6 : (6 : Int32).toInt = 6 := by decide
                have y_40 : (40 : Int32).toInt = 40 := by decide
                have y_4 : (4 : Int32).toInt = 4 := by decide
                omega
              have ha_138 : (4 : Int32).toInt = (4 : Int) := by
                have z_1 : ¬ (r_6 : Int32).toInt = ((-1) : Int32).toInt := fun z => c_9 (Int32.toInt_inj.mp z)
                have z_2 := Int32.lt_iff_toInt_lt.mp (Int32.not_le.mp c_10)
                have z_3 : ¬ (r_6 : Int32).toInt = (0 : Int32).toInt := fun z => c_27 (Int32.toInt_inj.mp z)
                have z_4 : ¬ (x1 : Int32).toInt = (0 : Int32).toInt := fun z => c_28 (Int32.toInt_inj.mp z)
                have z_5 := congrArg Int32.toInt c_30
                have z_6 := Int32.le_iff_toInt_le.mp (Int32.not_lt.mp c_80)
                have y_m1 : (-1 : Int32).toInt = -1 := by decide
                have y_0 : (0 : Int32).toInt = 0 := by decide
                have y_2 : (2 : Int32).toInt = 2 := by decide
                have y_6 : (6 : Int32).toInt = 6 := by decide
                have y_40 : (40 : Int32).toInt = 40 := by decide
                have y_4 : (4 : Int32).toInt = 4 := by decide
                omega
              refine cV (a := (Ta 0)) (As := [.int 4]) (rest := []) (wr := [((Wa 0), .inr (0, [.ref (Aa 0)])), ((Aa 0), .inr (9, [.int (Av 0), .int (Av 1), .int (Av 2), .int (Av 3), .int (Av 4), .int (Av 5), .ref (Aa 1), .ref (Aa 2), .ref (Aa 3), .ref (Aa 4), .ref (Aa 5), .ref (Aa 6), .ref (Aa 7), .ref (Aa 8)])), ((Aa 1), .inl (tc 0, 10, .inl (Af 1))), ((Aa 2), .inl (tc 0, 10, .inl (Af 2))), ((Aa 3), .inl (tc 0, 6, .inl (Af 3))), ((Aa 4), .inl (tc 0, 6, .inl (Af 4))), ((Aa 5), .inl (tc 0, 6, .inl (Af 5))), ((Aa 6), .inl (tc 0, 6, .inl (Af 6))), ((Aa 7), .inl (tc 0, 6, .inl (Af 7))), ((Aa 8), .inl (tc 0, 6, .inl (Af 8)))]) ⟨hx, hb, hml, hown, hts⟩ hK hX hA (cu_fX10_fail l D tc sk (Ta 0) (Ta 1) (Tv 0) (Tv 1) (Tv 2) (Tv 3) (Tv 4) (Tf 1) 4 rr 4 h_tape h_r ha_137 ha_138) k_557 k_554 k_555 k_556 k_96 pl_X10_fail ⟨Nat.le_of_ble_eq_true rfl, Nat.le_of_ble_eq_true rfl⟩ rfl rfl (va_recv hK hP (ci := 10) (q0 := 10) rfl rfl) hP hD hS [10, 11] [0, 1, 2, 3, 4, 5, 6, 7, 8, 9] rfl rfl rfl rfl rfl (by decide) rfl hl.1 rfl (Nat.le_of_ble_eq_true rfl) dX0_readClause_66 ⟨Nat.le_of_ble_eq_true rfl, Nat.le_of_ble_eq_true rfl⟩ (fun v_139 u_140 H locs hv_141 hP₀ hD₀ hS₀ => ?_)
              obtain ⟨sv_142, sv_143⟩ := u_140
              obtain ⟨rfl, pf_144, pf_145⟩ := hv_141
              have pf_144 : 0 ≤ ((Tv 0) : Int32).toInt ∧ ((Tv 0) : Int32).toInt ≤ 400 ∧ 0 ≤ ((Tv 1) : Int32).toInt ∧ ((Tv 1) : Int32).toInt ≤ 400 ∧ 0 ≤ ((Tv 2) : Int32).toInt ∧ ((Tv 2) : Int32).toInt ≤ 400 := pf_144
              have pf_145 : TpR (Tf 1) (Tv 0) (rER (4 : Int) rr) (Tv 1) (Tv 2) sv_142 sv_143 := pf_145
              obtain ⟨ro_146, ero_146⟩ : ∃ z : Except Int (Nat × Nat), z = (rER 4 rr) := ⟨_, rfl⟩
              rw [← ero_146] at pf_145
              have tb_147 : TpB (rTE (cB (Tf 1) (Tv 0)) ro_146) (Tv 2) sv_143 := TpR.tb pf_145
              refine W.eq (g2 := F0 m 69 ls []) rfl ?_
              replace hP : va_P D classes [((Wa 0), .inr (0, [.ref (Aa 0)])), ((Aa 0), .inr (9, [.int (Av 0), .int (Av 1), .int (Av 2), .int (Av 3), .int (Av 4), .int (Av 5), .ref (Aa 1), .ref (Aa 2), .ref (Aa 3), .ref (Aa 4), .ref (Aa 5), .ref (Aa 6), .ref (Aa 7), .ref (Aa 8)])), ((Aa 1), .inl (tc 0, 10, .inl (Af 1))), ((Aa 2), .inl (tc 0, 10, .inl (Af 2))), ((Aa 3), .inl (tc 0, 6, .inl (Af 3))), ((Aa 4), .inl (tc 0, 6, .inl (Af 4))), ((Aa 5), .inl (tc 0, 6, .inl (Af 5))), ((Aa 6), .inl (tc 0, 6, .inl (Af 6))), ((Aa 7), .inl (tc 0, 6, .inl (Af 7))), ((Aa 8), .inl (tc 0, 6, .inl (Af 8))), ((Ta 0), .inr (10, [.ref (Ta 1), .int (Tv 0), .int (Tv 1), .int (Tv 2), .int sv_142, .int sv_143])), ((Ta 1), .inl (tc 0, 400, .inl (Tf 1)))] H := hP₀
              replace hD : va_D A [((Wa 0), .inr (0, [.ref (Aa 0)])), ((Aa 0), .inr (9, [.int (Av 0), .int (Av 1), .int (Av 2), .int (Av 3), .int (Av 4), .int (Av 5), .ref (Aa 1), .ref (Aa 2), .ref (Aa 3), .ref (Aa 4), .ref (Aa 5), .ref (Aa 6), .ref (Aa 7), .ref (Aa 8)])), ((Aa 1), .inl (tc 0, 10, .inl (Af 1))), ((Aa 2), .inl (tc 0, 10, .inl (Af 2))), ((Aa 3), .inl (tc 0, 6, .inl (Af 3))), ((Aa 4), .inl (tc 0, 6, .inl (Af 4))), ((Aa 5), .inl (tc 0, 6, .inl (Af 5))), ((Aa 6), .inl (tc 0, 6, .inl (Af 6))), ((Aa 7), .inl (tc 0, 6, .inl (Af 7))), ((Aa 8), .inl (tc 0, 6, .inl (Af 8))), ((Ta 0), .inr (10, [.ref (Ta 1), .int (Tv 0), .int (Tv 1), .int (Tv 2), .int sv_142, .int sv_143])), ((Ta 1), .inl (tc 0, 400, .inl (Tf 1)))] := hD₀
              replace hS := hS₀
              clear hP₀ hD₀ hS₀
              refine lv_goto (tgt := 119) hx hb dX0_readClause_69 (by decide) ?_
              have hc_148w : waR (cB (Tf 1) (Tv 0)) (wL 0) 0 (fstQ q) = (r_6 : Int32).toInt := by rw [h_fq]; exact he_7.symm
              have hr_149 : 40 ≤ x1.toInt.toNat ∨ ¬ ((r_6 : Int32).toInt = 0 ↔ x1.toInt.toNat = 0) ∨ ((r_6 : Int32).toInt = 2 ∧ 6 ≤ (Av 3).toInt) := by
                have z_1 : ¬ (r_6 : Int32).toInt = ((-1) : Int32).toInt := fun z => c_9 (Int32.toInt_inj.mp z)
                have z_2 := Int32.lt_iff_toInt_lt.mp (Int32.not_le.mp c_10)
                have z_3 : ¬ (r_6 : Int32).toInt = (0 : Int32).toInt := fun z => c_27 (Int32.toInt_inj.mp z)
                have z_4 : ¬ (x1 : Int32).toInt = (0 : Int32).toInt := fun z => c_28 (Int32.toInt_inj.mp z)
                have z_5 := congrArg Int32.toInt c_30
                have z_6 := Int32.le_iff_toInt_le.mp (Int32.not_lt.mp c_80)
                have y_m1 : (-1 : Int32).toInt = -1 := by decide
                have y_0 : (0 : Int32).toInt = 0 := by decide
                have y_2 : (2 : Int32).toInt = 2 := by decide
                have y_6 : (6 : Int32).toInt = 6 := by decide
                have y_40 : (40 : Int32).toInt = 40 := by decide
                omega
              have hr_150 : ¬ (r_6 : Int32).toInt = -1 := by
                have z_1 : ¬ (r_6 : Int32).toInt = ((-1) : Int32).toInt := fun z => c_9 (Int32.toInt_inj.mp z)
                have z_2 := Int32.lt_iff_toInt_lt.mp (Int32.not_le.mp c_10)
                have z_3 : ¬ (r_6 : Int32).toInt = (0 : Int32).toInt := fun z => c_27 (Int32.toInt_inj.mp z)
                have z_4 : ¬ (x1 : Int32).toInt = (0 : Int32).toInt := fun z => c_28 (Int32.toInt_inj.mp z)
                have z_5 := congrArg Int32.toInt c_30
                have z_6 := Int32.le_iff_toInt_le.mp (Int32.not_lt.mp c_80)
                have y_m1 : (-1 : Int32).toInt = -1 := by decide
                have y_0 : (0 : Int32).toInt = 0 := by decide
                have y_2 : (2 : Int32).toInt = 2 := by decide
                have y_6 : (6 : Int32).toInt = 6 := by decide
                have y_40 : (40 : Int32).toInt = 40 := by decide
                omega
              have hc_148 := bc_bad (l := x1.toInt.toNat) hc_148w hr_150 h_bq hr_149
              rw [h_fq] at hc_148
              have hc_148q : BkQ (pz_b q (pz_bcl (cB (Tf 1) (Tv 0)) x1.toInt.toNat)) (Av 2) (Av 3) := BkQ.er (h_fq ▸ hc_148)
              have hu_151 : TpR (Tf 1) (Tv 0) (rER 4 rr) (Tv 1) (Tv 2) sv_142 sv_143 := by
                rw [← ero_146]
                exact pf_145
              have hf_152 : TpR (Tf 1) (Tv 0) (fstQ (pz_b q (pz_bcl (cB (Tf 1) (Tv 0)) x1.toInt.toNat))) (Tv 1) (Tv 2) sv_142 sv_143 := by
                rw [hc_148]
                exact hu_151
              exact retV hx hb hr hlk hP hD hS ((Av 0), (Av 1), (Av 2), (Av 3), (Af 1), (Af 2), (Af 3), (Af 4), (Af 5), (Tv 1), (Tv 2), sv_142, sv_143) ⟨rfl, pf_144, h_bu, hf_152, hc_148q⟩ [0, 1, 2, 3, 4, 5, 6, 7, 8, 9, 10, 11] rfl rfl dX0_readClause_119 (Nat.le_of_ble_eq_true rfl) (Nat.le_of_ble_eq_true rfl) rfl
        · skip
          refine lv_iconst (v := 1) hx hb dX0_readClause_39 (by decide) ?_
          refine lv_goto (tgt := 44) hx hb dX0_readClause_40 (by decide) ?_
          refine lv_icmp_ne (tgt := 64) hx hb dX0_readClause_44 (by decide) (fun c_153 => ?_) (fun c_153 => absurd c_153 (by decide))
          refine lv_aload_n hx hb dX0_readClause_64 rfl (lv_at hl 2 rfl) ?_
          refine lv_iconst (v := 4) hx hb dX0_readClause_65 (by decide) ?_
          have ha_154 : 0 ≤ (4 : Int32).toInt ∧ (4 : Int32).toInt ≤ 4 := by
            have z_1 : ¬ (r_6 : Int32).toInt = ((-1) : Int32).toInt := fun z => c_9 (Int32.toInt_inj.mp z)
            have z_2 := Int32.lt_iff_toInt_lt.mp (Int32.not_le.mp c_10)
            have z_3 : ¬ (r_6 : Int32).toInt = (0 : Int32).toInt := fun z => c_27 (Int32.toInt_inj.mp z)
            have z_4 := congrArg Int32.toInt c_28
            have y_m1 : (-1 : Int32).toInt = -1 := by decide
            have y_0 : (0 : Int32).toInt = 0 := by decide
            have y_40 : (40 : Int32).toInt = 40 := by decide
            have y_4 : (4 : Int32).toInt = 4 := by decide
            omega
          have ha_155 : (4 : Int32).toInt = (4 : Int) := by
            have z_1 : ¬ (r_6 : Int32).toInt = ((-1) : Int32).toInt := fun z => c_9 (Int32.toInt_inj.mp z)
            have z_2 := Int32.lt_iff_toInt_lt.mp (Int32.not_le.mp c_10)
            have z_3 : ¬ (r_6 : Int32).toInt = (0 : Int32).toInt := fun z => c_27 (Int32.toInt_inj.mp z)
            have z_4 := congrArg Int32.toInt c_28
            have y_m1 : (-1 : Int32).toInt = -1 := by decide
            have y_0 : (0 : Int32).toInt = 0 := by decide
            have y_40 : (40 : Int32).toInt = 40 := by decide
            have y_4 : (4 : Int32).toInt = 4 := by decide
            omega
          refine cV (a := (Ta 0)) (As := [.int 4]) (rest := []) (wr := [((Wa 0), .inr (0, [.ref (Aa 0)])), ((Aa 0), .inr (9, [.int (Av 0), .int (Av 1), .int (Av 2), .int (Av 3), .int (Av 4), .int (Av 5), .ref (Aa 1), .ref (Aa 2), .ref (Aa 3), .ref (Aa 4), .ref (Aa 5), .ref (Aa 6), .ref (Aa 7), .ref (Aa 8)])), ((Aa 1), .inl (tc 0, 10, .inl (Af 1))), ((Aa 2), .inl (tc 0, 10, .inl (Af 2))), ((Aa 3), .inl (tc 0, 6, .inl (Af 3))), ((Aa 4), .inl (tc 0, 6, .inl (Af 4))), ((Aa 5), .inl (tc 0, 6, .inl (Af 5))), ((Aa 6), .inl (tc 0, 6, .inl (Af 6))), ((Aa 7), .inl (tc 0, 6, .inl (Af 7))), ((Aa 8), .inl (tc 0, 6, .inl (Af 8)))]) ⟨hx, hb, hml, hown, hts⟩ hK hX hA (cu_fX10_fail l D tc sk (Ta 0) (Ta 1) (Tv 0) (Tv 1) (Tv 2) (Tv 3) (Tv 4) (Tf 1) 4 rr 4 h_tape h_r ha_154 ha_155) k_557 k_554 k_555 k_556 k_96 pl_X10_fail ⟨Nat.le_of_ble_eq_true rfl, Nat.le_of_ble_eq_true rfl⟩ rfl rfl (va_recv hK hP (ci := 10) (q0 := 10) rfl rfl) hP hD hS [10, 11] [0, 1, 2, 3, 4, 5, 6, 7, 8, 9] rfl rfl rfl rfl rfl (by decide) rfl hl.1 rfl (Nat.le_of_ble_eq_true rfl) dX0_readClause_66 ⟨Nat.le_of_ble_eq_true rfl, Nat.le_of_ble_eq_true rfl⟩ (fun v_156 u_157 H locs hv_158 hP₀ hD₀ hS₀ => ?_)
          obtain ⟨sv_159, sv_160⟩ := u_157
          obtain ⟨rfl, pf_161, pf_162⟩ := hv_158
          have pf_161 : 0 ≤ ((Tv 0) : Int32).toInt ∧ ((Tv 0) : Int32).toInt ≤ 400 ∧ 0 ≤ ((Tv 1) : Int32).toInt ∧ ((Tv 1) : Int32).toInt ≤ 400 ∧ 0 ≤ ((Tv 2) : Int32).toInt ∧ ((Tv 2) : Int32).toInt ≤ 400 := pf_161
          have pf_162 : TpR (Tf 1) (Tv 0) (rER (4 : Int) rr) (Tv 1) (Tv 2) sv_159 sv_160 := pf_162
          obtain ⟨ro_163, ero_163⟩ : ∃ z : Except Int (Nat × Nat), z = (rER 4 rr) := ⟨_, rfl⟩
          rw [← ero_163] at pf_162
          have tb_164 : TpB (rTE (cB (Tf 1) (Tv 0)) ro_163) (Tv 2) sv_160 := TpR.tb pf_162
          refine W.eq (g2 := F0 m 69 ls []) rfl ?_
          replace hP : va_P D classes [((Wa 0), .inr (0, [.ref (Aa 0)])), ((Aa 0), .inr (9, [.int (Av 0), .int (Av 1), .int (Av 2), .int (Av 3), .int (Av 4), .int (Av 5), .ref (Aa 1), .ref (Aa 2), .ref (Aa 3), .ref (Aa 4), .ref (Aa 5), .ref (Aa 6), .ref (Aa 7), .ref (Aa 8)])), ((Aa 1), .inl (tc 0, 10, .inl (Af 1))), ((Aa 2), .inl (tc 0, 10, .inl (Af 2))), ((Aa 3), .inl (tc 0, 6, .inl (Af 3))), ((Aa 4), .inl (tc 0, 6, .inl (Af 4))), ((Aa 5), .inl (tc 0, 6, .inl (Af 5))), ((Aa 6), .inl (tc 0, 6, .inl (Af 6))), ((Aa 7), .inl (tc 0, 6, .inl (Af 7))), ((Aa 8), .inl (tc 0, 6, .inl (Af 8))), ((Ta 0), .inr (10, [.ref (Ta 1), .int (Tv 0), .int (Tv 1), .int (Tv 2), .int sv_159, .int sv_160])), ((Ta 1), .inl (tc 0, 400, .inl (Tf 1)))] H := hP₀
          replace hD : va_D A [((Wa 0), .inr (0, [.ref (Aa 0)])), ((Aa 0), .inr (9, [.int (Av 0), .int (Av 1), .int (Av 2), .int (Av 3), .int (Av 4), .int (Av 5), .ref (Aa 1), .ref (Aa 2), .ref (Aa 3), .ref (Aa 4), .ref (Aa 5), .ref (Aa 6), .ref (Aa 7), .ref (Aa 8)])), ((Aa 1), .inl (tc 0, 10, .inl (Af 1))), ((Aa 2), .inl (tc 0, 10, .inl (Af 2))), ((Aa 3), .inl (tc 0, 6, .inl (Af 3))), ((Aa 4), .inl (tc 0, 6, .inl (Af 4))), ((Aa 5), .inl (tc 0, 6, .inl (Af 5))), ((Aa 6), .inl (tc 0, 6, .inl (Af 6))), ((Aa 7), .inl (tc 0, 6, .inl (Af 7))), ((Aa 8), .inl (tc 0, 6, .inl (Af 8))), ((Ta 0), .inr (10, [.ref (Ta 1), .int (Tv 0), .int (Tv 1), .int (Tv 2), .int sv_159, .int sv_160])), ((Ta 1), .inl (tc 0, 400, .inl (Tf 1)))] := hD₀
          replace hS := hS₀
          clear hP₀ hD₀ hS₀
          refine lv_goto (tgt := 119) hx hb dX0_readClause_69 (by decide) ?_
          have hc_165w : waR (cB (Tf 1) (Tv 0)) (wL 0) 0 (fstQ q) = (r_6 : Int32).toInt := by rw [h_fq]; exact he_7.symm
          have hr_166 : 40 ≤ x1.toInt.toNat ∨ ¬ ((r_6 : Int32).toInt = 0 ↔ x1.toInt.toNat = 0) ∨ ((r_6 : Int32).toInt = 2 ∧ 6 ≤ (Av 3).toInt) := by
            have z_1 : ¬ (r_6 : Int32).toInt = ((-1) : Int32).toInt := fun z => c_9 (Int32.toInt_inj.mp z)
            have z_2 := Int32.lt_iff_toInt_lt.mp (Int32.not_le.mp c_10)
            have z_3 : ¬ (r_6 : Int32).toInt = (0 : Int32).toInt := fun z => c_27 (Int32.toInt_inj.mp z)
            have z_4 := congrArg Int32.toInt c_28
            have y_m1 : (-1 : Int32).toInt = -1 := by decide
            have y_0 : (0 : Int32).toInt = 0 := by decide
            have y_40 : (40 : Int32).toInt = 40 := by decide
            omega
          have hr_167 : ¬ (r_6 : Int32).toInt = -1 := by
            have z_1 : ¬ (r_6 : Int32).toInt = ((-1) : Int32).toInt := fun z => c_9 (Int32.toInt_inj.mp z)
            have z_2 := Int32.lt_iff_toInt_lt.mp (Int32.not_le.mp c_10)
            have z_3 : ¬ (r_6 : Int32).toInt = (0 : Int32).toInt := fun z => c_27 (Int32.toInt_inj.mp z)
            have z_4 := congrArg Int32.toInt c_28
            have y_m1 : (-1 : Int32).toInt = -1 := by decide
            have y_0 : (0 : Int32).toInt = 0 := by decide
            have y_40 : (40 : Int32).toInt = 40 := by decide
            omega
          have hc_165 := bc_bad (l := x1.toInt.toNat) hc_165w hr_167 h_bq hr_166
          rw [h_fq] at hc_165
          have hc_165q : BkQ (pz_b q (pz_bcl (cB (Tf 1) (Tv 0)) x1.toInt.toNat)) (Av 2) (Av 3) := BkQ.er (h_fq ▸ hc_165)
          have hu_168 : TpR (Tf 1) (Tv 0) (rER 4 rr) (Tv 1) (Tv 2) sv_159 sv_160 := by
            rw [← ero_163]
            exact pf_162
          have hf_169 : TpR (Tf 1) (Tv 0) (fstQ (pz_b q (pz_bcl (cB (Tf 1) (Tv 0)) x1.toInt.toNat))) (Tv 1) (Tv 2) sv_159 sv_160 := by
            rw [hc_165]
            exact hu_168
          exact retV hx hb hr hlk hP hD hS ((Av 0), (Av 1), (Av 2), (Av 3), (Af 1), (Af 2), (Af 3), (Af 4), (Af 5), (Tv 1), (Tv 2), sv_159, sv_160) ⟨rfl, pf_161, h_bu, hf_169, hc_165q⟩ [0, 1, 2, 3, 4, 5, 6, 7, 8, 9, 10, 11] rfl rfl dX0_readClause_119 (Nat.le_of_ble_eq_true rfl) (Nat.le_of_ble_eq_true rfl) rfl
      · skip
        refine lv_iconst (v := 1) hx hb dX0_readClause_30 (by decide) ?_
        refine lv_goto (tgt := 35) hx hb dX0_readClause_31 (by decide) ?_
        refine lv_iload_n hx hb dX0_readClause_35 rfl (lv_at hl 3 rfl) ?_
        refine lv_if_ne (tgt := 43) hx hb dX0_readClause_36 (by decide) (fun c_170 => ?_) (fun c_170 => ?_)
        · skip
          refine lv_iconst (v := 0) hx hb dX0_readClause_43 (by decide) ?_
          refine lv_icmp_ne (tgt := 64) hx hb dX0_readClause_44 (by decide) (fun c_171 => ?_) (fun c_171 => absurd c_171 (by decide))
          refine lv_aload_n hx hb dX0_readClause_64 rfl (lv_at hl 2 rfl) ?_
          refine lv_iconst (v := 4) hx hb dX0_readClause_65 (by decide) ?_
          have ha_172 : 0 ≤ (4 : Int32).toInt ∧ (4 : Int32).toInt ≤ 4 := by
            have z_1 : ¬ (r_6 : Int32).toInt = ((-1) : Int32).toInt := fun z => c_9 (Int32.toInt_inj.mp z)
            have z_2 := Int32.lt_iff_toInt_lt.mp (Int32.not_le.mp c_10)
            have z_3 := congrArg Int32.toInt c_27
            have z_4 : ¬ (x1 : Int32).toInt = (0 : Int32).toInt := fun z => c_170 (Int32.toInt_inj.mp z)
            have y_m1 : (-1 : Int32).toInt = -1 := by decide
            have y_0 : (0 : Int32).toInt = 0 := by decide
            have y_40 : (40 : Int32).toInt = 40 := by decide
            have y_4 : (4 : Int32).toInt = 4 := by decide
            omega
          have ha_173 : (4 : Int32).toInt = (4 : Int) := by
            have z_1 : ¬ (r_6 : Int32).toInt = ((-1) : Int32).toInt := fun z => c_9 (Int32.toInt_inj.mp z)
            have z_2 := Int32.lt_iff_toInt_lt.mp (Int32.not_le.mp c_10)
            have z_3 := congrArg Int32.toInt c_27
            have z_4 : ¬ (x1 : Int32).toInt = (0 : Int32).toInt := fun z => c_170 (Int32.toInt_inj.mp z)
            have y_m1 : (-1 : Int32).toInt = -1 := by decide
            have y_0 : (0 : Int32).toInt = 0 := by decide
            have y_40 : (40 : Int32).toInt = 40 := by decide
            have y_4 : (4 : Int32).toInt = 4 := by decide
            omega
          refine cV (a := (Ta 0)) (As := [.int 4]) (rest := []) (wr := [((Wa 0), .inr (0, [.ref (Aa 0)])), ((Aa 0), .inr (9, [.int (Av 0), .int (Av 1), .int (Av 2), .int (Av 3), .int (Av 4), .int (Av 5), .ref (Aa 1), .ref (Aa 2), .ref (Aa 3), .ref (Aa 4), .ref (Aa 5), .ref (Aa 6), .ref (Aa 7), .ref (Aa 8)])), ((Aa 1), .inl (tc 0, 10, .inl (Af 1))), ((Aa 2), .inl (tc 0, 10, .inl (Af 2))), ((Aa 3), .inl (tc 0, 6, .inl (Af 3))), ((Aa 4), .inl (tc 0, 6, .inl (Af 4))), ((Aa 5), .inl (tc 0, 6, .inl (Af 5))), ((Aa 6), .inl (tc 0, 6, .inl (Af 6))), ((Aa 7), .inl (tc 0, 6, .inl (Af 7))), ((Aa 8), .inl (tc 0, 6, .inl (Af 8)))]) ⟨hx, hb, hml, hown, hts⟩ hK hX hA (cu_fX10_fail l D tc sk (Ta 0) (Ta 1) (Tv 0) (Tv 1) (Tv 2) (Tv 3) (Tv 4) (Tf 1) 4 rr 4 h_tape h_r ha_172 ha_173) k_557 k_554 k_555 k_556 k_96 pl_X10_fail ⟨Nat.le_of_ble_eq_true rfl, Nat.le_of_ble_eq_true rfl⟩ rfl rfl (va_recv hK hP (ci := 10) (q0 := 10) rfl rfl) hP hD hS [10, 11] [0, 1, 2, 3, 4, 5, 6, 7, 8, 9] rfl rfl rfl rfl rfl (by decide) rfl hl.1 rfl (Nat.le_of_ble_eq_true rfl) dX0_readClause_66 ⟨Nat.le_of_ble_eq_true rfl, Nat.le_of_ble_eq_true rfl⟩ (fun v_174 u_175 H locs hv_176 hP₀ hD₀ hS₀ => ?_)
          obtain ⟨sv_177, sv_178⟩ := u_175
          obtain ⟨rfl, pf_179, pf_180⟩ := hv_176
          have pf_179 : 0 ≤ ((Tv 0) : Int32).toInt ∧ ((Tv 0) : Int32).toInt ≤ 400 ∧ 0 ≤ ((Tv 1) : Int32).toInt ∧ ((Tv 1) : Int32).toInt ≤ 400 ∧ 0 ≤ ((Tv 2) : Int32).toInt ∧ ((Tv 2) : Int32).toInt ≤ 400 := pf_179
          have pf_180 : TpR (Tf 1) (Tv 0) (rER (4 : Int) rr) (Tv 1) (Tv 2) sv_177 sv_178 := pf_180
          obtain ⟨ro_181, ero_181⟩ : ∃ z : Except Int (Nat × Nat), z = (rER 4 rr) := ⟨_, rfl⟩
          rw [← ero_181] at pf_180
          have tb_182 : TpB (rTE (cB (Tf 1) (Tv 0)) ro_181) (Tv 2) sv_178 := TpR.tb pf_180
          refine W.eq (g2 := F0 m 69 ls []) rfl ?_
          replace hP : va_P D classes [((Wa 0), .inr (0, [.ref (Aa 0)])), ((Aa 0), .inr (9, [.int (Av 0), .int (Av 1), .int (Av 2), .int (Av 3), .int (Av 4), .int (Av 5), .ref (Aa 1), .ref (Aa 2), .ref (Aa 3), .ref (Aa 4), .ref (Aa 5), .ref (Aa 6), .ref (Aa 7), .ref (Aa 8)])), ((Aa 1), .inl (tc 0, 10, .inl (Af 1))), ((Aa 2), .inl (tc 0, 10, .inl (Af 2))), ((Aa 3), .inl (tc 0, 6, .inl (Af 3))), ((Aa 4), .inl (tc 0, 6, .inl (Af 4))), ((Aa 5), .inl (tc 0, 6, .inl (Af 5))), ((Aa 6), .inl (tc 0, 6, .inl (Af 6))), ((Aa 7), .inl (tc 0, 6, .inl (Af 7))), ((Aa 8), .inl (tc 0, 6, .inl (Af 8))), ((Ta 0), .inr (10, [.ref (Ta 1), .int (Tv 0), .int (Tv 1), .int (Tv 2), .int sv_177, .int sv_178])), ((Ta 1), .inl (tc 0, 400, .inl (Tf 1)))] H := hP₀
          replace hD : va_D A [((Wa 0), .inr (0, [.ref (Aa 0)])), ((Aa 0), .inr (9, [.int (Av 0), .int (Av 1), .int (Av 2), .int (Av 3), .int (Av 4), .int (Av 5), .ref (Aa 1), .ref (Aa 2), .ref (Aa 3), .ref (Aa 4), .ref (Aa 5), .ref (Aa 6), .ref (Aa 7), .ref (Aa 8)])), ((Aa 1), .inl (tc 0, 10, .inl (Af 1))), ((Aa 2), .inl (tc 0, 10, .inl (Af 2))), ((Aa 3), .inl (tc 0, 6, .inl (Af 3))), ((Aa 4), .inl (tc 0, 6, .inl (Af 4))), ((Aa 5), .inl (tc 0, 6, .inl (Af 5))), ((Aa 6), .inl (tc 0, 6, .inl (Af 6))), ((Aa 7), .inl (tc 0, 6, .inl (Af 7))), ((Aa 8), .inl (tc 0, 6, .inl (Af 8))), ((Ta 0), .inr (10, [.ref (Ta 1), .int (Tv 0), .int (Tv 1), .int (Tv 2), .int sv_177, .int sv_178])), ((Ta 1), .inl (tc 0, 400, .inl (Tf 1)))] := hD₀
          replace hS := hS₀
          clear hP₀ hD₀ hS₀
          refine lv_goto (tgt := 119) hx hb dX0_readClause_69 (by decide) ?_
          have hc_183w : waR (cB (Tf 1) (Tv 0)) (wL 0) 0 (fstQ q) = (r_6 : Int32).toInt := by rw [h_fq]; exact he_7.symm
          have hr_184 : 40 ≤ x1.toInt.toNat ∨ ¬ ((r_6 : Int32).toInt = 0 ↔ x1.toInt.toNat = 0) ∨ ((r_6 : Int32).toInt = 2 ∧ 6 ≤ (Av 3).toInt) := by
            have z_1 : ¬ (r_6 : Int32).toInt = ((-1) : Int32).toInt := fun z => c_9 (Int32.toInt_inj.mp z)
            have z_2 := Int32.lt_iff_toInt_lt.mp (Int32.not_le.mp c_10)
            have z_3 := congrArg Int32.toInt c_27
            have z_4 : ¬ (x1 : Int32).toInt = (0 : Int32).toInt := fun z => c_170 (Int32.toInt_inj.mp z)
            have y_m1 : (-1 : Int32).toInt = -1 := by decide
            have y_0 : (0 : Int32).toInt = 0 := by decide
            have y_40 : (40 : Int32).toInt = 40 := by decide
            omega
          have hr_185 : ¬ (r_6 : Int32).toInt = -1 := by
            have z_1 : ¬ (r_6 : Int32).toInt = ((-1) : Int32).toInt := fun z => c_9 (Int32.toInt_inj.mp z)
            have z_2 := Int32.lt_iff_toInt_lt.mp (Int32.not_le.mp c_10)
            have z_3 := congrArg Int32.toInt c_27
            have z_4 : ¬ (x1 : Int32).toInt = (0 : Int32).toInt := fun z => c_170 (Int32.toInt_inj.mp z)
            have y_m1 : (-1 : Int32).toInt = -1 := by decide
            have y_0 : (0 : Int32).toInt = 0 := by decide
            have y_40 : (40 : Int32).toInt = 40 := by decide
            omega
          have hc_183 := bc_bad (l := x1.toInt.toNat) hc_183w hr_185 h_bq hr_184
          rw [h_fq] at hc_183
          have hc_183q : BkQ (pz_b q (pz_bcl (cB (Tf 1) (Tv 0)) x1.toInt.toNat)) (Av 2) (Av 3) := BkQ.er (h_fq ▸ hc_183)
          have hu_186 : TpR (Tf 1) (Tv 0) (rER 4 rr) (Tv 1) (Tv 2) sv_177 sv_178 := by
            rw [← ero_181]
            exact pf_180
          have hf_187 : TpR (Tf 1) (Tv 0) (fstQ (pz_b q (pz_bcl (cB (Tf 1) (Tv 0)) x1.toInt.toNat))) (Tv 1) (Tv 2) sv_177 sv_178 := by
            rw [hc_183]
            exact hu_186
          exact retV hx hb hr hlk hP hD hS ((Av 0), (Av 1), (Av 2), (Av 3), (Af 1), (Af 2), (Af 3), (Af 4), (Af 5), (Tv 1), (Tv 2), sv_177, sv_178) ⟨rfl, pf_179, h_bu, hf_187, hc_183q⟩ [0, 1, 2, 3, 4, 5, 6, 7, 8, 9, 10, 11] rfl rfl dX0_readClause_119 (Nat.le_of_ble_eq_true rfl) (Nat.le_of_ble_eq_true rfl) rfl
        · skip
          refine lv_iconst (v := 1) hx hb dX0_readClause_39 (by decide) ?_
          refine lv_goto (tgt := 44) hx hb dX0_readClause_40 (by decide) ?_
          refine lv_icmp_ne (tgt := 64) hx hb dX0_readClause_44 (by decide) (fun c_188 => absurd c_188 (by decide)) (fun c_188 => ?_)
          refine lv_iload_n hx hb dX0_readClause_47 rfl (lv_at hl 0 rfl) ?_
          refine lv_iconst (v := 2) hx hb dX0_readClause_48 (by decide) ?_
          refine lv_icmp_ne (tgt := 72) hx hb dX0_readClause_49 (by decide) (fun c_189 => ?_) (fun c_189 => ?_)
          · skip
            refine lv_aload_n hx hb dX0_readClause_72 rfl (lv_at hl 2 rfl) ?_
            refine cV (a := (Ta 0)) (As := []) (rest := []) (wr := [((Wa 0), .inr (0, [.ref (Aa 0)])), ((Aa 0), .inr (9, [.int (Av 0), .int (Av 1), .int (Av 2), .int (Av 3), .int (Av 4), .int (Av 5), .ref (Aa 1), .ref (Aa 2), .ref (Aa 3), .ref (Aa 4), .ref (Aa 5), .ref (Aa 6), .ref (Aa 7), .ref (Aa 8)])), ((Aa 1), .inl (tc 0, 10, .inl (Af 1))), ((Aa 2), .inl (tc 0, 10, .inl (Af 2))), ((Aa 3), .inl (tc 0, 6, .inl (Af 3))), ((Aa 4), .inl (tc 0, 6, .inl (Af 4))), ((Aa 5), .inl (tc 0, 6, .inl (Af 5))), ((Aa 6), .inl (tc 0, 6, .inl (Af 6))), ((Aa 7), .inl (tc 0, 6, .inl (Af 7))), ((Aa 8), .inl (tc 0, 6, .inl (Af 8)))]) ⟨hx, hb, hml, hown, hts⟩ hK hX hA (cu_fX10_step l D tc sk (Ta 0) (Ta 1) (Tv 0) (Tv 1) (Tv 2) (Tv 3) (Tv 4) (Tf 1) (rTE (cB (Tf 1) (Tv 0)) rr) h_tape h_by tb_1) k_478 k_558 k_476 k_477 k_96 pl_X10_step ⟨Nat.le_of_ble_eq_true rfl, Nat.le_of_ble_eq_true rfl⟩ rfl rfl (va_recv hK hP (ci := 10) (q0 := 10) rfl rfl) hP hD hS [10, 11] [0, 1, 2, 3, 4, 5, 6, 7, 8, 9] rfl rfl rfl rfl rfl (by decide) rfl hl.1 rfl (Nat.le_of_ble_eq_true rfl) dX0_readClause_73 ⟨Nat.le_of_ble_eq_true rfl, Nat.le_of_ble_eq_true rfl⟩ (fun v_190 u_191 H locs hv_192 hP₀ hD₀ hS₀ => ?_)
            obtain ⟨sv_193, sv_194, sv_195⟩ := u_191
            obtain ⟨rfl, pf_196, pf_197⟩ := hv_192
            have pf_196 : 0 ≤ ((Tv 0) : Int32).toInt ∧ ((Tv 0) : Int32).toInt ≤ 400 ∧ 0 ≤ (sv_193 : Int32).toInt ∧ (sv_193 : Int32).toInt ≤ 400 ∧ 0 ≤ (sv_194 : Int32).toInt ∧ (sv_194 : Int32).toInt ≤ 400 := pf_196
            have pf_197 : TpR (Tf 1) (Tv 0) (rSK (cB (Tf 1) (Tv 0)) (rTE (cB (Tf 1) (Tv 0)) rr)) sv_193 sv_194 sv_195 (Tv 4) := pf_197
            rw [rNX_eq] at pf_197
            obtain ⟨ro_198, ero_198⟩ : ∃ z : Except Int (Nat × Nat), z = (rNX (cB (Tf 1) (Tv 0)) rr) := ⟨_, rfl⟩
            rw [← ero_198] at pf_197
            have tb_199 : TpB (rTE (cB (Tf 1) (Tv 0)) ro_198) sv_194 (Tv 4) := TpR.tb pf_197
            refine W.eq (g2 := F0 m 76 ls []) rfl ?_
            replace hP : va_P D classes [((Wa 0), .inr (0, [.ref (Aa 0)])), ((Aa 0), .inr (9, [.int (Av 0), .int (Av 1), .int (Av 2), .int (Av 3), .int (Av 4), .int (Av 5), .ref (Aa 1), .ref (Aa 2), .ref (Aa 3), .ref (Aa 4), .ref (Aa 5), .ref (Aa 6), .ref (Aa 7), .ref (Aa 8)])), ((Aa 1), .inl (tc 0, 10, .inl (Af 1))), ((Aa 2), .inl (tc 0, 10, .inl (Af 2))), ((Aa 3), .inl (tc 0, 6, .inl (Af 3))), ((Aa 4), .inl (tc 0, 6, .inl (Af 4))), ((Aa 5), .inl (tc 0, 6, .inl (Af 5))), ((Aa 6), .inl (tc 0, 6, .inl (Af 6))), ((Aa 7), .inl (tc 0, 6, .inl (Af 7))), ((Aa 8), .inl (tc 0, 6, .inl (Af 8))), ((Ta 0), .inr (10, [.ref (Ta 1), .int (Tv 0), .int sv_193, .int sv_194, .int sv_195, .int (Tv 4)])), ((Ta 1), .inl (tc 0, 400, .inl (Tf 1)))] H := hP₀
            replace hD : va_D A [((Wa 0), .inr (0, [.ref (Aa 0)])), ((Aa 0), .inr (9, [.int (Av 0), .int (Av 1), .int (Av 2), .int (Av 3), .int (Av 4), .int (Av 5), .ref (Aa 1), .ref (Aa 2), .ref (Aa 3), .ref (Aa 4), .ref (Aa 5), .ref (Aa 6), .ref (Aa 7), .ref (Aa 8)])), ((Aa 1), .inl (tc 0, 10, .inl (Af 1))), ((Aa 2), .inl (tc 0, 10, .inl (Af 2))), ((Aa 3), .inl (tc 0, 6, .inl (Af 3))), ((Aa 4), .inl (tc 0, 6, .inl (Af 4))), ((Aa 5), .inl (tc 0, 6, .inl (Af 5))), ((Aa 6), .inl (tc 0, 6, .inl (Af 6))), ((Aa 7), .inl (tc 0, 6, .inl (Af 7))), ((Aa 8), .inl (tc 0, 6, .inl (Af 8))), ((Ta 0), .inr (10, [.ref (Ta 1), .int (Tv 0), .int sv_193, .int sv_194, .int sv_195, .int (Tv 4)])), ((Ta 1), .inl (tc 0, 400, .inl (Tf 1)))] := hD₀
            replace hS := hS₀
            clear hP₀ hD₀ hS₀
            refine lv_iload_n hx hb dX0_readClause_76 rfl (lv_at hl 0 rfl) ?_
            refine lv_if_ne (tgt := 88) hx hb dX0_readClause_77 (by decide) (fun c_200 => ?_) (fun c_200 => ?_)
            · skip
              exfalso
              have z_1 : ¬ (r_6 : Int32).toInt = ((-1) : Int32).toInt := fun z => c_9 (Int32.toInt_inj.mp z)
              have z_2 := Int32.lt_iff_toInt_lt.mp (Int32.not_le.mp c_10)
              have z_3 := congrArg Int32.toInt c_27
              have z_4 := congrArg Int32.toInt c_170
              have z_5 : ¬ (r_6 : Int32).toInt = (2 : Int32).toInt := fun z => c_189 (Int32.toInt_inj.mp z)
              have z_6 : ¬ (r_6 : Int32).toInt = (0 : Int32).toInt := fun z => c_200 (Int32.toInt_inj.mp z)
              have y_m1 : (-1 : Int32).toInt = -1 := by decide
              have y_0 : (0 : Int32).toInt = 0 := by decide
              have y_2 : (2 : Int32).toInt = 2 := by decide
              have y_40 : (40 : Int32).toInt = 40 := by decide
              omega
            · skip
              refine lv_aload_n hx hb dX0_readClause_80 rfl (lv_at hl 1 rfl) ?_
              refine lv_aload_n hx hb dX0_readClause_81 rfl (lv_at hl 2 rfl) ?_
              refine cV (a := (Wa 0)) (As := [.ref (Ta 0)]) (rest := []) (wr := []) ⟨hx, hb, hml, hown, hts⟩ hK hX hA (cu_fX0_readBook l D tc sk (Wa 0) (Aa 0) (Aa 1) (Aa 2) (Aa 3) (Aa 4) (Aa 5) (Aa 6) (Aa 7) (Aa 8) (Av 0) (Av 1) (Av 2) (Av 3) (Av 4) (Av 5) (Af 1) (Af 2) (Af 3) (Af 4) (Af 5) (Af 6) (Af 7) (Af 8) (Ta 0) (Ta 1) (Tv 0) sv_193 sv_194 sv_195 (Tv 4) (Tf 1) ro_198 pf_196 h_by pf_197 h_bu) k_562 k_559 k_561 k_3 k_97 pl_X0_readBook ⟨Nat.le_of_ble_eq_true rfl, Nat.le_of_ble_eq_true rfl⟩ rfl rfl (va_recv hK hP (ci := 0) (q0 := 0) rfl rfl) hP hD hS [0, 1, 2, 3, 4, 5, 6, 7, 8, 9, 10, 11] [] rfl rfl rfl rfl rfl (by decide) rfl hl.1 rfl (Nat.le_of_ble_eq_true rfl) dX0_readClause_82 ⟨Nat.le_of_ble_eq_true rfl, Nat.le_of_ble_eq_true rfl⟩ (fun v_201 u_202 H locs hv_203 hP₀ hD₀ hS₀ => ?_)
              obtain ⟨sv_204, sv_205, sv_206, sv_207, sv_208, sv_209, sv_210⟩ := u_202
              obtain ⟨rfl, pf_211, pf_212, pf_213, pf_214⟩ := hv_203
              have pf_211 : 0 ≤ ((Tv 0) : Int32).toInt ∧ ((Tv 0) : Int32).toInt ≤ 400 ∧ 0 ≤ (sv_207 : Int32).toInt ∧ (sv_207 : Int32).toInt ≤ 400 ∧ 0 ≤ (sv_208 : Int32).toInt ∧ (sv_208 : Int32).toInt ≤ 400 := pf_211
              have pf_212 : 0 ≤ ((Av 3) : Int32).toInt ∧ ((Av 3) : Int32).toInt ≤ 6 := pf_212
              have pf_213 : TpR (Tf 1) (Tv 0) (rN1 (cB (Tf 1) (Tv 0)) 1 10 (rN1 (cB (Tf 1) (Tv 0)) 0 9 (rN1 (cB (Tf 1) (Tv 0)) 0 99 ro_198))) sv_207 sv_208 sv_209 sv_210 := pf_213
              obtain ⟨ro_215, ero_215⟩ : ∃ z : Except Int (Nat × Nat), z = (rN1 (cB (Tf 1) (Tv 0)) 1 10 (rN1 (cB (Tf 1) (Tv 0)) 0 9 (rN1 (cB (Tf 1) (Tv 0)) 0 99 ro_198))) := ⟨_, rfl⟩
              rw [← ero_215] at pf_213
              have tb_216 : TpB (rTE (cB (Tf 1) (Tv 0)) ro_215) sv_208 sv_210 := TpR.tb pf_213
              have pf_214 : NuV (cB (Tf 1) (Tv 0)) 1 10 (rN1 (cB (Tf 1) (Tv 0)) 0 9 (rN1 (cB (Tf 1) (Tv 0)) 0 99 ro_198)) sv_206 := pf_214
              refine W.eq (g2 := F0 m 85 ls []) rfl ?_
              replace hP : va_P D classes [((Wa 0), .inr (0, [.ref (Aa 0)])), ((Aa 0), .inr (9, [.int sv_204, .int sv_205, .int sv_206, .int (Av 3), .int (Av 4), .int (Av 5), .ref (Aa 1), .ref (Aa 2), .ref (Aa 3), .ref (Aa 4), .ref (Aa 5), .ref (Aa 6), .ref (Aa 7), .ref (Aa 8)])), ((Aa 1), .inl (tc 0, 10, .inl (Af 1))), ((Aa 2), .inl (tc 0, 10, .inl (Af 2))), ((Aa 3), .inl (tc 0, 6, .inl (Af 3))), ((Aa 4), .inl (tc 0, 6, .inl (Af 4))), ((Aa 5), .inl (tc 0, 6, .inl (Af 5))), ((Aa 6), .inl (tc 0, 6, .inl (Af 6))), ((Aa 7), .inl (tc 0, 6, .inl (Af 7))), ((Aa 8), .inl (tc 0, 6, .inl (Af 8))), ((Ta 0), .inr (10, [.ref (Ta 1), .int (Tv 0), .int sv_207, .int sv_208, .int sv_209, .int sv_210])), ((Ta 1), .inl (tc 0, 400, .inl (Tf 1)))] H := hP₀
              replace hD : va_D A [((Wa 0), .inr (0, [.ref (Aa 0)])), ((Aa 0), .inr (9, [.int sv_204, .int sv_205, .int sv_206, .int (Av 3), .int (Av 4), .int (Av 5), .ref (Aa 1), .ref (Aa 2), .ref (Aa 3), .ref (Aa 4), .ref (Aa 5), .ref (Aa 6), .ref (Aa 7), .ref (Aa 8)])), ((Aa 1), .inl (tc 0, 10, .inl (Af 1))), ((Aa 2), .inl (tc 0, 10, .inl (Af 2))), ((Aa 3), .inl (tc 0, 6, .inl (Af 3))), ((Aa 4), .inl (tc 0, 6, .inl (Af 4))), ((Aa 5), .inl (tc 0, 6, .inl (Af 5))), ((Aa 6), .inl (tc 0, 6, .inl (Af 6))), ((Aa 7), .inl (tc 0, 6, .inl (Af 7))), ((Aa 8), .inl (tc 0, 6, .inl (Af 8))), ((Ta 0), .inr (10, [.ref (Ta 1), .int (Tv 0), .int sv_207, .int sv_208, .int sv_209, .int sv_210])), ((Ta 1), .inl (tc 0, 400, .inl (Tf 1)))] := hD₀
              replace hS := hS₀
              clear hP₀ hD₀ hS₀
              refine lv_goto (tgt := 119) hx hb dX0_readClause_85 (by decide) ?_
              have hc_217w : waR (cB (Tf 1) (Tv 0)) (wL 0) 0 (fstQ q) = (r_6 : Int32).toInt := by rw [h_fq]; exact he_7.symm
              have hr_218 : (r_6 : Int32).toInt = 0 := by
                have z_1 : ¬ (r_6 : Int32).toInt = ((-1) : Int32).toInt := fun z => c_9 (Int32.toInt_inj.mp z)
                have z_2 := Int32.lt_iff_toInt_lt.mp (Int32.not_le.mp c_10)
                have z_3 := congrArg Int32.toInt c_27
                have z_4 := congrArg Int32.toInt c_170
                have z_5 : ¬ (r_6 : Int32).toInt = (2 : Int32).toInt := fun z => c_189 (Int32.toInt_inj.mp z)
                have z_6 := congrArg Int32.toInt c_200
                have y_m1 : (-1 : Int32).toInt = -1 := by decide
                have y_0 : (0 : Int32).toInt = 0 := by decide
                have y_2 : (2 : Int32).toInt = 2 := by decide
                have y_40 : (40 : Int32).toInt = 40 := by decide
                omega
              rw [hr_218] at hc_217w
              have hv_219 : NuV (cB (Tf 1) (Tv 0)) 1 10 (rN1 (cB (Tf 1) (Tv 0)) 0 9 (rN1 (cB (Tf 1) (Tv 0)) 0 99 (rNX (cB (Tf 1) (Tv 0)) (fstQ q)))) sv_206 := by
                rw [h_fq]
                have hz := pf_214
                rw [ero_198] at hz
                exact hz
              have hr_220 : x1.toInt.toNat = 0 := by
                have z_1 : ¬ (r_6 : Int32).toInt = ((-1) : Int32).toInt := fun z => c_9 (Int32.toInt_inj.mp z)
                have z_2 := Int32.lt_iff_toInt_lt.mp (Int32.not_le.mp c_10)
                have z_3 := congrArg Int32.toInt c_27
                have z_4 := congrArg Int32.toInt c_170
                have z_5 : ¬ (r_6 : Int32).toInt = (2 : Int32).toInt := fun z => c_189 (Int32.toInt_inj.mp z)
                have z_6 := congrArg Int32.toInt c_200
                have y_m1 : (-1 : Int32).toInt = -1 := by decide
                have y_0 : (0 : Int32).toInt = 0 := by decide
                have y_2 : (2 : Int32).toInt = 2 := by decide
                have y_40 : (40 : Int32).toInt = 40 := by decide
                omega
              have hc_217 := bc_0 (l := x1.toInt.toNat) hc_217w h_bq hr_220 hv_219
              rw [h_fq] at hc_217
              have hu_221 : TpR (Tf 1) (Tv 0) (rN1 (cB (Tf 1) (Tv 0)) 1 10 (rN1 (cB (Tf 1) (Tv 0)) 0 9 (rN1 (cB (Tf 1) (Tv 0)) 0 99 (rNX (cB (Tf 1) (Tv 0)) rr)))) sv_207 sv_208 sv_209 sv_210 := by
                rw [← ero_198, ← ero_215]
                exact pf_213
              have hf_222 : TpR (Tf 1) (Tv 0) (fstQ (pz_b q (pz_bcl (cB (Tf 1) (Tv 0)) x1.toInt.toNat))) sv_207 sv_208 sv_209 sv_210 := by
                rw [hc_217.1]
                exact hu_221
              exact retV hx hb hr hlk hP hD hS (sv_204, sv_205, sv_206, (Av 3), (Af 1), (Af 2), (Af 3), (Af 4), (Af 5), sv_207, sv_208, sv_209, sv_210) ⟨rfl, pf_211, pf_212, hf_222, hc_217.2⟩ [0, 1, 2, 3, 4, 5, 6, 7, 8, 9, 10, 11] rfl rfl dX0_readClause_119 (Nat.le_of_ble_eq_true rfl) (Nat.le_of_ble_eq_true rfl) rfl
          · skip
            refine lv_aload_n hx hb dX0_readClause_52 rfl (lv_at hl 1 rfl) ?_
            refine gf_X0_12 hx hb hts hown hK hP 0 rfl rfl dX0_readClause_53 ?_
            refine gf_X0_51 hx hb hts hown hK hP 1 rfl rfl dX0_readClause_56 ?_
            refine lv_bipush (v := 6) hx hb dX0_readClause_59 (by decide) ?_
            refine lv_icmp_lt (tgt := 72) hx hb dX0_readClause_61 (by decide) (fun c_223 => ?_) (fun c_223 => ?_)
            · skip
              refine lv_aload_n hx hb dX0_readClause_72 rfl (lv_at hl 2 rfl) ?_
              refine cV (a := (Ta 0)) (As := []) (rest := []) (wr := [((Wa 0), .inr (0, [.ref (Aa 0)])), ((Aa 0), .inr (9, [.int (Av 0), .int (Av 1), .int (Av 2), .int (Av 3), .int (Av 4), .int (Av 5), .ref (Aa 1), .ref (Aa 2), .ref (Aa 3), .ref (Aa 4), .ref (Aa 5), .ref (Aa 6), .ref (Aa 7), .ref (Aa 8)])), ((Aa 1), .inl (tc 0, 10, .inl (Af 1))), ((Aa 2), .inl (tc 0, 10, .inl (Af 2))), ((Aa 3), .inl (tc 0, 6, .inl (Af 3))), ((Aa 4), .inl (tc 0, 6, .inl (Af 4))), ((Aa 5), .inl (tc 0, 6, .inl (Af 5))), ((Aa 6), .inl (tc 0, 6, .inl (Af 6))), ((Aa 7), .inl (tc 0, 6, .inl (Af 7))), ((Aa 8), .inl (tc 0, 6, .inl (Af 8)))]) ⟨hx, hb, hml, hown, hts⟩ hK hX hA (cu_fX10_step l D tc sk (Ta 0) (Ta 1) (Tv 0) (Tv 1) (Tv 2) (Tv 3) (Tv 4) (Tf 1) (rTE (cB (Tf 1) (Tv 0)) rr) h_tape h_by tb_1) k_478 k_558 k_476 k_477 k_96 pl_X10_step ⟨Nat.le_of_ble_eq_true rfl, Nat.le_of_ble_eq_true rfl⟩ rfl rfl (va_recv hK hP (ci := 10) (q0 := 10) rfl rfl) hP hD hS [10, 11] [0, 1, 2, 3, 4, 5, 6, 7, 8, 9] rfl rfl rfl rfl rfl (by decide) rfl hl.1 rfl (Nat.le_of_ble_eq_true rfl) dX0_readClause_73 ⟨Nat.le_of_ble_eq_true rfl, Nat.le_of_ble_eq_true rfl⟩ (fun v_224 u_225 H locs hv_226 hP₀ hD₀ hS₀ => ?_)
              obtain ⟨sv_227, sv_228, sv_229⟩ := u_225
              obtain ⟨rfl, pf_230, pf_231⟩ := hv_226
              have pf_230 : 0 ≤ ((Tv 0) : Int32).toInt ∧ ((Tv 0) : Int32).toInt ≤ 400 ∧ 0 ≤ (sv_227 : Int32).toInt ∧ (sv_227 : Int32).toInt ≤ 400 ∧ 0 ≤ (sv_228 : Int32).toInt ∧ (sv_228 : Int32).toInt ≤ 400 := pf_230
              have pf_231 : TpR (Tf 1) (Tv 0) (rSK (cB (Tf 1) (Tv 0)) (rTE (cB (Tf 1) (Tv 0)) rr)) sv_227 sv_228 sv_229 (Tv 4) := pf_231
              rw [rNX_eq] at pf_231
              obtain ⟨ro_232, ero_232⟩ : ∃ z : Except Int (Nat × Nat), z = (rNX (cB (Tf 1) (Tv 0)) rr) := ⟨_, rfl⟩
              rw [← ero_232] at pf_231
              have tb_233 : TpB (rTE (cB (Tf 1) (Tv 0)) ro_232) sv_228 (Tv 4) := TpR.tb pf_231
              refine W.eq (g2 := F0 m 76 ls []) rfl ?_
              replace hP : va_P D classes [((Wa 0), .inr (0, [.ref (Aa 0)])), ((Aa 0), .inr (9, [.int (Av 0), .int (Av 1), .int (Av 2), .int (Av 3), .int (Av 4), .int (Av 5), .ref (Aa 1), .ref (Aa 2), .ref (Aa 3), .ref (Aa 4), .ref (Aa 5), .ref (Aa 6), .ref (Aa 7), .ref (Aa 8)])), ((Aa 1), .inl (tc 0, 10, .inl (Af 1))), ((Aa 2), .inl (tc 0, 10, .inl (Af 2))), ((Aa 3), .inl (tc 0, 6, .inl (Af 3))), ((Aa 4), .inl (tc 0, 6, .inl (Af 4))), ((Aa 5), .inl (tc 0, 6, .inl (Af 5))), ((Aa 6), .inl (tc 0, 6, .inl (Af 6))), ((Aa 7), .inl (tc 0, 6, .inl (Af 7))), ((Aa 8), .inl (tc 0, 6, .inl (Af 8))), ((Ta 0), .inr (10, [.ref (Ta 1), .int (Tv 0), .int sv_227, .int sv_228, .int sv_229, .int (Tv 4)])), ((Ta 1), .inl (tc 0, 400, .inl (Tf 1)))] H := hP₀
              replace hD : va_D A [((Wa 0), .inr (0, [.ref (Aa 0)])), ((Aa 0), .inr (9, [.int (Av 0), .int (Av 1), .int (Av 2), .int (Av 3), .int (Av 4), .int (Av 5), .ref (Aa 1), .ref (Aa 2), .ref (Aa 3), .ref (Aa 4), .ref (Aa 5), .ref (Aa 6), .ref (Aa 7), .ref (Aa 8)])), ((Aa 1), .inl (tc 0, 10, .inl (Af 1))), ((Aa 2), .inl (tc 0, 10, .inl (Af 2))), ((Aa 3), .inl (tc 0, 6, .inl (Af 3))), ((Aa 4), .inl (tc 0, 6, .inl (Af 4))), ((Aa 5), .inl (tc 0, 6, .inl (Af 5))), ((Aa 6), .inl (tc 0, 6, .inl (Af 6))), ((Aa 7), .inl (tc 0, 6, .inl (Af 7))), ((Aa 8), .inl (tc 0, 6, .inl (Af 8))), ((Ta 0), .inr (10, [.ref (Ta 1), .int (Tv 0), .int sv_227, .int sv_228, .int sv_229, .int (Tv 4)])), ((Ta 1), .inl (tc 0, 400, .inl (Tf 1)))] := hD₀
              replace hS := hS₀
              clear hP₀ hD₀ hS₀
              refine lv_iload_n hx hb dX0_readClause_76 rfl (lv_at hl 0 rfl) ?_
              refine lv_if_ne (tgt := 88) hx hb dX0_readClause_77 (by decide) (fun c_234 => ?_) (fun c_234 => ?_)
              · skip
                exfalso
                have z_1 : ¬ (r_6 : Int32).toInt = ((-1) : Int32).toInt := fun z => c_9 (Int32.toInt_inj.mp z)
                have z_2 := Int32.lt_iff_toInt_lt.mp (Int32.not_le.mp c_10)
                have z_3 := congrArg Int32.toInt c_27
                have z_4 := congrArg Int32.toInt c_170
                have z_5 := congrArg Int32.toInt c_189
                have z_6 := Int32.lt_iff_toInt_lt.mp c_223
                have z_7 : ¬ (r_6 : Int32).toInt = (0 : Int32).toInt := fun z => c_234 (Int32.toInt_inj.mp z)
                have y_m1 : (-1 : Int32).toInt = -1 := by decide
                have y_0 : (0 : Int32).toInt = 0 := by decide
                have y_2 : (2 : Int32).toInt = 2 := by decide
                have y_6 : (6 : Int32).toInt = 6 := by decide
                have y_40 : (40 : Int32).toInt = 40 := by decide
                omega
              · skip
                refine lv_aload_n hx hb dX0_readClause_80 rfl (lv_at hl 1 rfl) ?_
                refine lv_aload_n hx hb dX0_readClause_81 rfl (lv_at hl 2 rfl) ?_
                refine cV (a := (Wa 0)) (As := [.ref (Ta 0)]) (rest := []) (wr := []) ⟨hx, hb, hml, hown, hts⟩ hK hX hA (cu_fX0_readBook l D tc sk (Wa 0) (Aa 0) (Aa 1) (Aa 2) (Aa 3) (Aa 4) (Aa 5) (Aa 6) (Aa 7) (Aa 8) (Av 0) (Av 1) (Av 2) (Av 3) (Av 4) (Av 5) (Af 1) (Af 2) (Af 3) (Af 4) (Af 5) (Af 6) (Af 7) (Af 8) (Ta 0) (Ta 1) (Tv 0) sv_227 sv_228 sv_229 (Tv 4) (Tf 1) ro_232 pf_230 h_by pf_231 h_bu) k_562 k_559 k_561 k_3 k_97 pl_X0_readBook ⟨Nat.le_of_ble_eq_true rfl, Nat.le_of_ble_eq_true rfl⟩ rfl rfl (va_recv hK hP (ci := 0) (q0 := 0) rfl rfl) hP hD hS [0, 1, 2, 3, 4, 5, 6, 7, 8, 9, 10, 11] [] rfl rfl rfl rfl rfl (by decide) rfl hl.1 rfl (Nat.le_of_ble_eq_true rfl) dX0_readClause_82 ⟨Nat.le_of_ble_eq_true rfl, Nat.le_of_ble_eq_true rfl⟩ (fun v_235 u_236 H locs hv_237 hP₀ hD₀ hS₀ => ?_)
                obtain ⟨sv_238, sv_239, sv_240, sv_241, sv_242, sv_243, sv_244⟩ := u_236
                obtain ⟨rfl, pf_245, pf_246, pf_247, pf_248⟩ := hv_237
                have pf_245 : 0 ≤ ((Tv 0) : Int32).toInt ∧ ((Tv 0) : Int32).toInt ≤ 400 ∧ 0 ≤ (sv_241 : Int32).toInt ∧ (sv_241 : Int32).toInt ≤ 400 ∧ 0 ≤ (sv_242 : Int32).toInt ∧ (sv_242 : Int32).toInt ≤ 400 := pf_245
                have pf_246 : 0 ≤ ((Av 3) : Int32).toInt ∧ ((Av 3) : Int32).toInt ≤ 6 := pf_246
                have pf_247 : TpR (Tf 1) (Tv 0) (rN1 (cB (Tf 1) (Tv 0)) 1 10 (rN1 (cB (Tf 1) (Tv 0)) 0 9 (rN1 (cB (Tf 1) (Tv 0)) 0 99 ro_232))) sv_241 sv_242 sv_243 sv_244 := pf_247
                obtain ⟨ro_249, ero_249⟩ : ∃ z : Except Int (Nat × Nat), z = (rN1 (cB (Tf 1) (Tv 0)) 1 10 (rN1 (cB (Tf 1) (Tv 0)) 0 9 (rN1 (cB (Tf 1) (Tv 0)) 0 99 ro_232))) := ⟨_, rfl⟩
                rw [← ero_249] at pf_247
                have tb_250 : TpB (rTE (cB (Tf 1) (Tv 0)) ro_249) sv_242 sv_244 := TpR.tb pf_247
                have pf_248 : NuV (cB (Tf 1) (Tv 0)) 1 10 (rN1 (cB (Tf 1) (Tv 0)) 0 9 (rN1 (cB (Tf 1) (Tv 0)) 0 99 ro_232)) sv_240 := pf_248
                refine W.eq (g2 := F0 m 85 ls []) rfl ?_
                replace hP : va_P D classes [((Wa 0), .inr (0, [.ref (Aa 0)])), ((Aa 0), .inr (9, [.int sv_238, .int sv_239, .int sv_240, .int (Av 3), .int (Av 4), .int (Av 5), .ref (Aa 1), .ref (Aa 2), .ref (Aa 3), .ref (Aa 4), .ref (Aa 5), .ref (Aa 6), .ref (Aa 7), .ref (Aa 8)])), ((Aa 1), .inl (tc 0, 10, .inl (Af 1))), ((Aa 2), .inl (tc 0, 10, .inl (Af 2))), ((Aa 3), .inl (tc 0, 6, .inl (Af 3))), ((Aa 4), .inl (tc 0, 6, .inl (Af 4))), ((Aa 5), .inl (tc 0, 6, .inl (Af 5))), ((Aa 6), .inl (tc 0, 6, .inl (Af 6))), ((Aa 7), .inl (tc 0, 6, .inl (Af 7))), ((Aa 8), .inl (tc 0, 6, .inl (Af 8))), ((Ta 0), .inr (10, [.ref (Ta 1), .int (Tv 0), .int sv_241, .int sv_242, .int sv_243, .int sv_244])), ((Ta 1), .inl (tc 0, 400, .inl (Tf 1)))] H := hP₀
                replace hD : va_D A [((Wa 0), .inr (0, [.ref (Aa 0)])), ((Aa 0), .inr (9, [.int sv_238, .int sv_239, .int sv_240, .int (Av 3), .int (Av 4), .int (Av 5), .ref (Aa 1), .ref (Aa 2), .ref (Aa 3), .ref (Aa 4), .ref (Aa 5), .ref (Aa 6), .ref (Aa 7), .ref (Aa 8)])), ((Aa 1), .inl (tc 0, 10, .inl (Af 1))), ((Aa 2), .inl (tc 0, 10, .inl (Af 2))), ((Aa 3), .inl (tc 0, 6, .inl (Af 3))), ((Aa 4), .inl (tc 0, 6, .inl (Af 4))), ((Aa 5), .inl (tc 0, 6, .inl (Af 5))), ((Aa 6), .inl (tc 0, 6, .inl (Af 6))), ((Aa 7), .inl (tc 0, 6, .inl (Af 7))), ((Aa 8), .inl (tc 0, 6, .inl (Af 8))), ((Ta 0), .inr (10, [.ref (Ta 1), .int (Tv 0), .int sv_241, .int sv_242, .int sv_243, .int sv_244])), ((Ta 1), .inl (tc 0, 400, .inl (Tf 1)))] := hD₀
                replace hS := hS₀
                clear hP₀ hD₀ hS₀
                refine lv_goto (tgt := 119) hx hb dX0_readClause_85 (by decide) ?_
                have hc_251w : waR (cB (Tf 1) (Tv 0)) (wL 0) 0 (fstQ q) = (r_6 : Int32).toInt := by rw [h_fq]; exact he_7.symm
                have hr_252 : (r_6 : Int32).toInt = 0 := by
                  have z_1 : ¬ (r_6 : Int32).toInt = ((-1) : Int32).toInt := fun z => c_9 (Int32.toInt_inj.mp z)
                  have z_2 := Int32.lt_iff_toInt_lt.mp (Int32.not_le.mp c_10)
                  have z_3 := congrArg Int32.toInt c_27
                  have z_4 := congrArg Int32.toInt c_170
                  have z_5 := congrArg Int32.toInt c_189
                  have z_6 := Int32.lt_iff_toInt_lt.mp c_223
                  have z_7 := congrArg Int32.toInt c_234
                  have y_m1 : (-1 : Int32).toInt = -1 := by decide
                  have y_0 : (0 : Int32).toInt = 0 := by decide
                  have y_2 : (2 : Int32).toInt = 2 := by decide
                  have y_6 : (6 : Int32).toInt = 6 := by decide
                  have y_40 : (40 : Int32).toInt = 40 := by decide
                  omega
                rw [hr_252] at hc_251w
                have hv_253 : NuV (cB (Tf 1) (Tv 0)) 1 10 (rN1 (cB (Tf 1) (Tv 0)) 0 9 (rN1 (cB (Tf 1) (Tv 0)) 0 99 (rNX (cB (Tf 1) (Tv 0)) (fstQ q)))) sv_240 := by
                  rw [h_fq]
                  have hz := pf_248
                  rw [ero_232] at hz
                  exact hz
                have hr_254 : x1.toInt.toNat = 0 := by
                  have z_1 : ¬ (r_6 : Int32).toInt = ((-1) : Int32).toInt := fun z => c_9 (Int32.toInt_inj.mp z)
                  have z_2 := Int32.lt_iff_toInt_lt.mp (Int32.not_le.mp c_10)
                  have z_3 := congrArg Int32.toInt c_27
                  have z_4 := congrArg Int32.toInt c_170
                  have z_5 := congrArg Int32.toInt c_189
                  have z_6 := Int32.lt_iff_toInt_lt.mp c_223
                  have z_7 := congrArg Int32.toInt c_234
                  have y_m1 : (-1 : Int32).toInt = -1 := by decide
                  have y_0 : (0 : Int32).toInt = 0 := by decide
                  have y_2 : (2 : Int32).toInt = 2 := by decide
                  have y_6 : (6 : Int32).toInt = 6 := by decide
                  have y_40 : (40 : Int32).toInt = 40 := by decide
                  omega
                have hc_251 := bc_0 (l := x1.toInt.toNat) hc_251w h_bq hr_254 hv_253
                rw [h_fq] at hc_251
                have hu_255 : TpR (Tf 1) (Tv 0) (rN1 (cB (Tf 1) (Tv 0)) 1 10 (rN1 (cB (Tf 1) (Tv 0)) 0 9 (rN1 (cB (Tf 1) (Tv 0)) 0 99 (rNX (cB (Tf 1) (Tv 0)) rr)))) sv_241 sv_242 sv_243 sv_244 := by
                  rw [← ero_232, ← ero_249]
                  exact pf_247
                have hf_256 : TpR (Tf 1) (Tv 0) (fstQ (pz_b q (pz_bcl (cB (Tf 1) (Tv 0)) x1.toInt.toNat))) sv_241 sv_242 sv_243 sv_244 := by
                  rw [hc_251.1]
                  exact hu_255
                exact retV hx hb hr hlk hP hD hS (sv_238, sv_239, sv_240, (Av 3), (Af 1), (Af 2), (Af 3), (Af 4), (Af 5), sv_241, sv_242, sv_243, sv_244) ⟨rfl, pf_245, pf_246, hf_256, hc_251.2⟩ [0, 1, 2, 3, 4, 5, 6, 7, 8, 9, 10, 11] rfl rfl dX0_readClause_119 (Nat.le_of_ble_eq_true rfl) (Nat.le_of_ble_eq_true rfl) rfl
            · skip
              refine lv_aload_n hx hb dX0_readClause_64 rfl (lv_at hl 2 rfl) ?_
              refine lv_iconst (v := 4) hx hb dX0_readClause_65 (by decide) ?_
              have ha_257 : 0 ≤ (4 : Int32).toInt ∧ (4 : Int32).toInt ≤ 4 := by
                have z_1 : ¬ (r_6 : Int32).toInt = ((-1) : Int32).toInt := fun z => c_9 (Int32.toInt_inj.mp z)
                have z_2 := Int32.lt_iff_toInt_lt.mp (Int32.not_le.mp c_10)
                have z_3 := congrArg Int32.toInt c_27
                have z_4 := congrArg Int32.toInt c_170
                have z_5 := congrArg Int32.toInt c_189
                have z_6 := Int32.le_iff_toInt_le.mp (Int32.not_lt.mp c_223)
                have y_m1 : (-1 : Int32).toInt = -1 := by decide
                have y_0 : (0 : Int32).toInt = 0 := by decide
                have y_2 : (2 : Int32).toInt = 2 := by decide
                have y_6 : (6 : Int32).toInt = 6 := by decide
                have y_40 : (40 : Int32).toInt = 40 := by decide
                have y_4 : (4 : Int32).toInt = 4 := by decide
                omega
              have ha_258 : (4 : Int32).toInt = (4 : Int) := by
                have z_1 : ¬ (r_6 : Int32).toInt = ((-1) : Int32).toInt := fun z => c_9 (Int32.toInt_inj.mp z)
                have z_2 := Int32.lt_iff_toInt_lt.mp (Int32.not_le.mp c_10)
                have z_3 := congrArg Int32.toInt c_27
                have z_4 := congrArg Int32.toInt c_170
                have z_5 := congrArg Int32.toInt c_189
                have z_6 := Int32.le_iff_toInt_le.mp (Int32.not_lt.mp c_223)
                have y_m1 : (-1 : Int32).toInt = -1 := by decide
                have y_0 : (0 : Int32).toInt = 0 := by decide
                have y_2 : (2 : Int32).toInt = 2 := by decide
                have y_6 : (6 : Int32).toInt = 6 := by decide
                have y_40 : (40 : Int32).toInt = 40 := by decide
                have y_4 : (4 : Int32).toInt = 4 := by decide
                omega
              refine cV (a := (Ta 0)) (As := [.int 4]) (rest := []) (wr := [((Wa 0), .inr (0, [.ref (Aa 0)])), ((Aa 0), .inr (9, [.int (Av 0), .int (Av 1), .int (Av 2), .int (Av 3), .int (Av 4), .int (Av 5), .ref (Aa 1), .ref (Aa 2), .ref (Aa 3), .ref (Aa 4), .ref (Aa 5), .ref (Aa 6), .ref (Aa 7), .ref (Aa 8)])), ((Aa 1), .inl (tc 0, 10, .inl (Af 1))), ((Aa 2), .inl (tc 0, 10, .inl (Af 2))), ((Aa 3), .inl (tc 0, 6, .inl (Af 3))), ((Aa 4), .inl (tc 0, 6, .inl (Af 4))), ((Aa 5), .inl (tc 0, 6, .inl (Af 5))), ((Aa 6), .inl (tc 0, 6, .inl (Af 6))), ((Aa 7), .inl (tc 0, 6, .inl (Af 7))), ((Aa 8), .inl (tc 0, 6, .inl (Af 8)))]) ⟨hx, hb, hml, hown, hts⟩ hK hX hA (cu_fX10_fail l D tc sk (Ta 0) (Ta 1) (Tv 0) (Tv 1) (Tv 2) (Tv 3) (Tv 4) (Tf 1) 4 rr 4 h_tape h_r ha_257 ha_258) k_557 k_554 k_555 k_556 k_96 pl_X10_fail ⟨Nat.le_of_ble_eq_true rfl, Nat.le_of_ble_eq_true rfl⟩ rfl rfl (va_recv hK hP (ci := 10) (q0 := 10) rfl rfl) hP hD hS [10, 11] [0, 1, 2, 3, 4, 5, 6, 7, 8, 9] rfl rfl rfl rfl rfl (by decide) rfl hl.1 rfl (Nat.le_of_ble_eq_true rfl) dX0_readClause_66 ⟨Nat.le_of_ble_eq_true rfl, Nat.le_of_ble_eq_true rfl⟩ (fun v_259 u_260 H locs hv_261 hP₀ hD₀ hS₀ => ?_)
              obtain ⟨sv_262, sv_263⟩ := u_260
              obtain ⟨rfl, pf_264, pf_265⟩ := hv_261
              have pf_264 : 0 ≤ ((Tv 0) : Int32).toInt ∧ ((Tv 0) : Int32).toInt ≤ 400 ∧ 0 ≤ ((Tv 1) : Int32).toInt ∧ ((Tv 1) : Int32).toInt ≤ 400 ∧ 0 ≤ ((Tv 2) : Int32).toInt ∧ ((Tv 2) : Int32).toInt ≤ 400 := pf_264
              have pf_265 : TpR (Tf 1) (Tv 0) (rER (4 : Int) rr) (Tv 1) (Tv 2) sv_262 sv_263 := pf_265
              obtain ⟨ro_266, ero_266⟩ : ∃ z : Except Int (Nat × Nat), z = (rER 4 rr) := ⟨_, rfl⟩
              rw [← ero_266] at pf_265
              have tb_267 : TpB (rTE (cB (Tf 1) (Tv 0)) ro_266) (Tv 2) sv_263 := TpR.tb pf_265
              refine W.eq (g2 := F0 m 69 ls []) rfl ?_
              replace hP : va_P D classes [((Wa 0), .inr (0, [.ref (Aa 0)])), ((Aa 0), .inr (9, [.int (Av 0), .int (Av 1), .int (Av 2), .int (Av 3), .int (Av 4), .int (Av 5), .ref (Aa 1), .ref (Aa 2), .ref (Aa 3), .ref (Aa 4), .ref (Aa 5), .ref (Aa 6), .ref (Aa 7), .ref (Aa 8)])), ((Aa 1), .inl (tc 0, 10, .inl (Af 1))), ((Aa 2), .inl (tc 0, 10, .inl (Af 2))), ((Aa 3), .inl (tc 0, 6, .inl (Af 3))), ((Aa 4), .inl (tc 0, 6, .inl (Af 4))), ((Aa 5), .inl (tc 0, 6, .inl (Af 5))), ((Aa 6), .inl (tc 0, 6, .inl (Af 6))), ((Aa 7), .inl (tc 0, 6, .inl (Af 7))), ((Aa 8), .inl (tc 0, 6, .inl (Af 8))), ((Ta 0), .inr (10, [.ref (Ta 1), .int (Tv 0), .int (Tv 1), .int (Tv 2), .int sv_262, .int sv_263])), ((Ta 1), .inl (tc 0, 400, .inl (Tf 1)))] H := hP₀
              replace hD : va_D A [((Wa 0), .inr (0, [.ref (Aa 0)])), ((Aa 0), .inr (9, [.int (Av 0), .int (Av 1), .int (Av 2), .int (Av 3), .int (Av 4), .int (Av 5), .ref (Aa 1), .ref (Aa 2), .ref (Aa 3), .ref (Aa 4), .ref (Aa 5), .ref (Aa 6), .ref (Aa 7), .ref (Aa 8)])), ((Aa 1), .inl (tc 0, 10, .inl (Af 1))), ((Aa 2), .inl (tc 0, 10, .inl (Af 2))), ((Aa 3), .inl (tc 0, 6, .inl (Af 3))), ((Aa 4), .inl (tc 0, 6, .inl (Af 4))), ((Aa 5), .inl (tc 0, 6, .inl (Af 5))), ((Aa 6), .inl (tc 0, 6, .inl (Af 6))), ((Aa 7), .inl (tc 0, 6, .inl (Af 7))), ((Aa 8), .inl (tc 0, 6, .inl (Af 8))), ((Ta 0), .inr (10, [.ref (Ta 1), .int (Tv 0), .int (Tv 1), .int (Tv 2), .int sv_262, .int sv_263])), ((Ta 1), .inl (tc 0, 400, .inl (Tf 1)))] := hD₀
              replace hS := hS₀
              clear hP₀ hD₀ hS₀
              refine lv_goto (tgt := 119) hx hb dX0_readClause_69 (by decide) ?_
              have hc_268w : waR (cB (Tf 1) (Tv 0)) (wL 0) 0 (fstQ q) = (r_6 : Int32).toInt := by rw [h_fq]; exact he_7.symm
              have hr_269 : 40 ≤ x1.toInt.toNat ∨ ¬ ((r_6 : Int32).toInt = 0 ↔ x1.toInt.toNat = 0) ∨ ((r_6 : Int32).toInt = 2 ∧ 6 ≤ (Av 3).toInt) := by
                have z_1 : ¬ (r_6 : Int32).toInt = ((-1) : Int32).toInt := fun z => c_9 (Int32.toInt_inj.mp z)
                have z_2 := Int32.lt_iff_toInt_lt.mp (Int32.not_le.mp c_10)
                have z_3 := congrArg Int32.toInt c_27
                have z_4 := congrArg Int32.toInt c_170
                have z_5 := congrArg Int32.toInt c_189
                have z_6 := Int32.le_iff_toInt_le.mp (Int32.not_lt.mp c_223)
                have y_m1 : (-1 : Int32).toInt = -1 := by decide
                have y_0 : (0 : Int32).toInt = 0 := by decide
                have y_2 : (2 : Int32).toInt = 2 := by decide
                have y_6 : (6 : Int32).toInt = 6 := by decide
                have y_40 : (40 : Int32).toInt = 40 := by decide
                omega
              have hr_270 : ¬ (r_6 : Int32).toInt = -1 := by
                have z_1 : ¬ (r_6 : Int32).toInt = ((-1) : Int32).toInt := fun z => c_9 (Int32.toInt_inj.mp z)
                have z_2 := Int32.lt_iff_toInt_lt.mp (Int32.not_le.mp c_10)
                have z_3 := congrArg Int32.toInt c_27
                have z_4 := congrArg Int32.toInt c_170
                have z_5 := congrArg Int32.toInt c_189
                have z_6 := Int32.le_iff_toInt_le.mp (Int32.not_lt.mp c_223)
                have y_m1 : (-1 : Int32).toInt = -1 := by decide
                have y_0 : (0 : Int32).toInt = 0 := by decide
                have y_2 : (2 : Int32).toInt = 2 := by decide
                have y_6 : (6 : Int32).toInt = 6 := by decide
                have y_40 : (40 : Int32).toInt = 40 := by decide
                omega
              have hc_268 := bc_bad (l := x1.toInt.toNat) hc_268w hr_270 h_bq hr_269
              rw [h_fq] at hc_268
              have hc_268q : BkQ (pz_b q (pz_bcl (cB (Tf 1) (Tv 0)) x1.toInt.toNat)) (Av 2) (Av 3) := BkQ.er (h_fq ▸ hc_268)
              have hu_271 : TpR (Tf 1) (Tv 0) (rER 4 rr) (Tv 1) (Tv 2) sv_262 sv_263 := by
                rw [← ero_266]
                exact pf_265
              have hf_272 : TpR (Tf 1) (Tv 0) (fstQ (pz_b q (pz_bcl (cB (Tf 1) (Tv 0)) x1.toInt.toNat))) (Tv 1) (Tv 2) sv_262 sv_263 := by
                rw [hc_268]
                exact hu_271
              exact retV hx hb hr hlk hP hD hS ((Av 0), (Av 1), (Av 2), (Av 3), (Af 1), (Af 2), (Af 3), (Af 4), (Af 5), (Tv 1), (Tv 2), sv_262, sv_263) ⟨rfl, pf_264, h_bu, hf_272, hc_268q⟩ [0, 1, 2, 3, 4, 5, 6, 7, 8, 9, 10, 11] rfl rfl dX0_readClause_119 (Nat.le_of_ble_eq_true rfl) (Nat.le_of_ble_eq_true rfl) rfl
  · skip
    refine lv_aload_n hx hb dX0_readClause_12 rfl (lv_at hl 2 rfl) ?_
    refine lv_iconst (v := 0) hx hb dX0_readClause_13 (by decide) ?_
    have ha_273 : 0 ≤ (0 : Int32).toInt ∧ (0 : Int32).toInt ≤ 4 := by
      have z_1 := congrArg Int32.toInt c_9
      have y_m1 : (-1 : Int32).toInt = -1 := by decide
      have y_0 : (0 : Int32).toInt = 0 := by decide
      omega
    have ha_274 : (0 : Int32).toInt = (0 : Int) := by
      have z_1 := congrArg Int32.toInt c_9
      have y_m1 : (-1 : Int32).toInt = -1 := by decide
      have y_0 : (0 : Int32).toInt = 0 := by decide
      omega
    refine cV (a := (Ta 0)) (As := [.int 0]) (rest := []) (wr := [((Wa 0), .inr (0, [.ref (Aa 0)])), ((Aa 0), .inr (9, [.int (Av 0), .int (Av 1), .int (Av 2), .int (Av 3), .int (Av 4), .int (Av 5), .ref (Aa 1), .ref (Aa 2), .ref (Aa 3), .ref (Aa 4), .ref (Aa 5), .ref (Aa 6), .ref (Aa 7), .ref (Aa 8)])), ((Aa 1), .inl (tc 0, 10, .inl (Af 1))), ((Aa 2), .inl (tc 0, 10, .inl (Af 2))), ((Aa 3), .inl (tc 0, 6, .inl (Af 3))), ((Aa 4), .inl (tc 0, 6, .inl (Af 4))), ((Aa 5), .inl (tc 0, 6, .inl (Af 5))), ((Aa 6), .inl (tc 0, 6, .inl (Af 6))), ((Aa 7), .inl (tc 0, 6, .inl (Af 7))), ((Aa 8), .inl (tc 0, 6, .inl (Af 8)))]) ⟨hx, hb, hml, hown, hts⟩ hK hX hA (cu_fX10_fail l D tc sk (Ta 0) (Ta 1) (Tv 0) (Tv 1) (Tv 2) (Tv 3) (Tv 4) (Tf 1) 0 rr 0 h_tape h_r ha_273 ha_274) k_557 k_554 k_555 k_556 k_96 pl_X10_fail ⟨Nat.le_of_ble_eq_true rfl, Nat.le_of_ble_eq_true rfl⟩ rfl rfl (va_recv hK hP (ci := 10) (q0 := 10) rfl rfl) hP hD hS [10, 11] [0, 1, 2, 3, 4, 5, 6, 7, 8, 9] rfl rfl rfl rfl rfl (by decide) rfl hl.1 rfl (Nat.le_of_ble_eq_true rfl) dX0_readClause_14 ⟨Nat.le_of_ble_eq_true rfl, Nat.le_of_ble_eq_true rfl⟩ (fun v_275 u_276 H locs hv_277 hP₀ hD₀ hS₀ => ?_)
    obtain ⟨sv_278, sv_279⟩ := u_276
    obtain ⟨rfl, pf_280, pf_281⟩ := hv_277
    have pf_280 : 0 ≤ ((Tv 0) : Int32).toInt ∧ ((Tv 0) : Int32).toInt ≤ 400 ∧ 0 ≤ ((Tv 1) : Int32).toInt ∧ ((Tv 1) : Int32).toInt ≤ 400 ∧ 0 ≤ ((Tv 2) : Int32).toInt ∧ ((Tv 2) : Int32).toInt ≤ 400 := pf_280
    have pf_281 : TpR (Tf 1) (Tv 0) (rER (0 : Int) rr) (Tv 1) (Tv 2) sv_278 sv_279 := pf_281
    obtain ⟨ro_282, ero_282⟩ : ∃ z : Except Int (Nat × Nat), z = (rER 0 rr) := ⟨_, rfl⟩
    rw [← ero_282] at pf_281
    have tb_283 : TpB (rTE (cB (Tf 1) (Tv 0)) ro_282) (Tv 2) sv_279 := TpR.tb pf_281
    refine W.eq (g2 := F0 m 17 ls []) rfl ?_
    replace hP : va_P D classes [((Wa 0), .inr (0, [.ref (Aa 0)])), ((Aa 0), .inr (9, [.int (Av 0), .int (Av 1), .int (Av 2), .int (Av 3), .int (Av 4), .int (Av 5), .ref (Aa 1), .ref (Aa 2), .ref (Aa 3), .ref (Aa 4), .ref (Aa 5), .ref (Aa 6), .ref (Aa 7), .ref (Aa 8)])), ((Aa 1), .inl (tc 0, 10, .inl (Af 1))), ((Aa 2), .inl (tc 0, 10, .inl (Af 2))), ((Aa 3), .inl (tc 0, 6, .inl (Af 3))), ((Aa 4), .inl (tc 0, 6, .inl (Af 4))), ((Aa 5), .inl (tc 0, 6, .inl (Af 5))), ((Aa 6), .inl (tc 0, 6, .inl (Af 6))), ((Aa 7), .inl (tc 0, 6, .inl (Af 7))), ((Aa 8), .inl (tc 0, 6, .inl (Af 8))), ((Ta 0), .inr (10, [.ref (Ta 1), .int (Tv 0), .int (Tv 1), .int (Tv 2), .int sv_278, .int sv_279])), ((Ta 1), .inl (tc 0, 400, .inl (Tf 1)))] H := hP₀
    replace hD : va_D A [((Wa 0), .inr (0, [.ref (Aa 0)])), ((Aa 0), .inr (9, [.int (Av 0), .int (Av 1), .int (Av 2), .int (Av 3), .int (Av 4), .int (Av 5), .ref (Aa 1), .ref (Aa 2), .ref (Aa 3), .ref (Aa 4), .ref (Aa 5), .ref (Aa 6), .ref (Aa 7), .ref (Aa 8)])), ((Aa 1), .inl (tc 0, 10, .inl (Af 1))), ((Aa 2), .inl (tc 0, 10, .inl (Af 2))), ((Aa 3), .inl (tc 0, 6, .inl (Af 3))), ((Aa 4), .inl (tc 0, 6, .inl (Af 4))), ((Aa 5), .inl (tc 0, 6, .inl (Af 5))), ((Aa 6), .inl (tc 0, 6, .inl (Af 6))), ((Aa 7), .inl (tc 0, 6, .inl (Af 7))), ((Aa 8), .inl (tc 0, 6, .inl (Af 8))), ((Ta 0), .inr (10, [.ref (Ta 1), .int (Tv 0), .int (Tv 1), .int (Tv 2), .int sv_278, .int sv_279])), ((Ta 1), .inl (tc 0, 400, .inl (Tf 1)))] := hD₀
    replace hS := hS₀
    clear hP₀ hD₀ hS₀
    refine lv_goto (tgt := 119) hx hb dX0_readClause_17 (by decide) ?_
    have hr_285 : (r_6 : Int32).toInt = -1 := by
      have z_1 := congrArg Int32.toInt c_9
      have y_m1 : (-1 : Int32).toInt = -1 := by decide
      omega
    have hc_284w : waR (cB (Tf 1) (Tv 0)) (wL 0) 0 (fstQ q) = -1 := by rw [h_fq]; exact ((he_7.symm.trans hr_285))
    have hc_284 := bc_no (l := x1.toInt.toNat) hc_284w
    rw [h_fq] at hc_284
    have hc_284q : BkQ (pz_b q (pz_bcl (cB (Tf 1) (Tv 0)) x1.toInt.toNat)) (Av 2) (Av 3) := BkQ.er (h_fq ▸ hc_284)
    have hu_286 : TpR (Tf 1) (Tv 0) (rER 0 rr) (Tv 1) (Tv 2) sv_278 sv_279 := by
      rw [← ero_282]
      exact pf_281
    have hf_287 : TpR (Tf 1) (Tv 0) (fstQ (pz_b q (pz_bcl (cB (Tf 1) (Tv 0)) x1.toInt.toNat))) (Tv 1) (Tv 2) sv_278 sv_279 := by
      rw [hc_284]
      exact hu_286
    exact retV hx hb hr hlk hP hD hS ((Av 0), (Av 1), (Av 2), (Av 3), (Af 1), (Af 2), (Af 3), (Af 4), (Af 5), (Tv 1), (Tv 2), sv_278, sv_279) ⟨rfl, pf_280, h_bu, hf_287, hc_284q⟩ [0, 1, 2, 3, 4, 5, 6, 7, 8, 9, 10, 11] rfl rfl dX0_readClause_119 (Nat.le_of_ble_eq_true rfl) (Nat.le_of_ble_eq_true rfl) rfl
set_option maxRecDepth 100000 in
theorem cu_fX0_readClause (l : Launch) (D : va_G) (tc : Nat → ClassId) (sk : (Nat → Nat) × (Nat → Nat)) (Wa_0 : Nat) (Aa_0 : Nat) (Aa_1 : Nat) (Aa_2 : Nat) (Aa_3 : Nat) (Aa_4 : Nat) (Aa_5 : Nat) (Aa_6 : Nat) (Aa_7 : Nat) (Aa_8 : Nat) (Av_0 : Int32) (Av_1 : Int32) (Av_2 : Int32) (Av_3 : Int32) (Av_4 : Int32) (Av_5 : Int32) (Af_1 : Nat → Int32) (Af_2 : Nat → Int32) (Af_3 : Nat → Int32) (Af_4 : Nat → Int32) (Af_5 : Nat → Int32) (Af_6 : Nat → Int32) (Af_7 : Nat → Int32) (Af_8 : Nat → Int32) (Ta_0 : Nat) (Ta_1 : Nat) (Tv_0 : Int32) (Tv_1 : Int32) (Tv_2 : Int32) (Tv_3 : Int32) (Tv_4 : Int32) (Tf_1 : Nat → Int32) (x1 : Int32) (rr : Except Int (Nat × Nat)) (q : Except Int BkU) (h_tape : 0 ≤ (Tv_0 : Int32).toInt ∧ (Tv_0 : Int32).toInt ≤ 400 ∧ 0 ≤ (Tv_1 : Int32).toInt ∧ (Tv_1 : Int32).toInt ≤ 400 ∧ 0 ≤ (Tv_2 : Int32).toInt ∧ (Tv_2 : Int32).toInt ≤ 400) (h_by : Byt Tf_1) (h_r : TpR Tf_1 Tv_0 rr Tv_1 Tv_2 Tv_3 Tv_4) (h_bu : 0 ≤ (Av_3 : Int32).toInt ∧ (Av_3 : Int32).toInt ≤ 6) (h_x : 0 ≤ x1.toInt ∧ x1.toInt ≤ 40) (h_fq : FsQ q rr) (h_bq : BkQ q Av_2 Av_3) : Ct l yX0_readClause cX0_readClause 4 none { frames := 6, cells := 0, slots := 0, locals := 133 } D tc sk [.ref Wa_0, .ref Ta_0, .int x1] [(Wa_0, .inr (0, [.ref Aa_0])), (Aa_0, .inr (9, [.int Av_0, .int Av_1, .int Av_2, .int Av_3, .int Av_4, .int Av_5, .ref Aa_1, .ref Aa_2, .ref Aa_3, .ref Aa_4, .ref Aa_5, .ref Aa_6, .ref Aa_7, .ref Aa_8])), (Aa_1, .inl (tc 0, 10, .inl Af_1)), (Aa_2, .inl (tc 0, 10, .inl Af_2)), (Aa_3, .inl (tc 0, 6, .inl Af_3)), (Aa_4, .inl (tc 0, 6, .inl Af_4)), (Aa_5, .inl (tc 0, 6, .inl Af_5)), (Aa_6, .inl (tc 0, 6, .inl Af_6)), (Aa_7, .inl (tc 0, 6, .inl Af_7)), (Aa_8, .inl (tc 0, 6, .inl Af_8)), (Ta_0, .inr (10, [.ref Ta_1, .int Tv_0, .int Tv_1, .int Tv_2, .int Tv_3, .int Tv_4])), (Ta_1, .inl (tc 0, 400, .inl Tf_1))] (fun (v : Option Value) (u : (Int32) × (Int32) × (Int32) × (Int32) × (Nat → Int32) × (Nat → Int32) × (Nat → Int32) × (Nat → Int32) × (Nat → Int32) × (Int32) × (Int32) × (Int32) × (Int32)) => match u with | (oo0x1, oo0x2, oo0x3, oo0x4, oo0x5, oo0x6, oo0x7, oo0x8, oo0x9, oo0x10, oo0x11, oo0x12, oo0x13) => v = none ∧ (0 ≤ (Tv_0 : Int32).toInt ∧ (Tv_0 : Int32).toInt ≤ 400 ∧ 0 ≤ (oo0x10 : Int32).toInt ∧ (oo0x10 : Int32).toInt ≤ 400 ∧ 0 ≤ (oo0x11 : Int32).toInt ∧ (oo0x11 : Int32).toInt ≤ 400) ∧ (0 ≤ (oo0x4 : Int32).toInt ∧ (oo0x4 : Int32).toInt ≤ 6) ∧ (TpR Tf_1 Tv_0 (fstQ (pz_b q (pz_bcl (cB Tf_1 Tv_0) x1.toInt.toNat))) oo0x10 oo0x11 oo0x12 oo0x13) ∧ (BkQ (pz_b q (pz_bcl (cB Tf_1 Tv_0) x1.toInt.toNat)) oo0x3 oo0x4)) (fun (u : (Int32) × (Int32) × (Int32) × (Int32) × (Nat → Int32) × (Nat → Int32) × (Nat → Int32) × (Nat → Int32) × (Nat → Int32) × (Int32) × (Int32) × (Int32) × (Int32)) => match u with | (oo0x1, oo0x2, oo0x3, oo0x4, oo0x5, oo0x6, oo0x7, oo0x8, oo0x9, oo0x10, oo0x11, oo0x12, oo0x13) => [(Wa_0, .inr (0, [.ref Aa_0])), (Aa_0, .inr (9, [.int oo0x1, .int oo0x2, .int oo0x3, .int oo0x4, .int Av_4, .int Av_5, .ref Aa_1, .ref Aa_2, .ref Aa_3, .ref Aa_4, .ref Aa_5, .ref Aa_6, .ref Aa_7, .ref Aa_8])), (Aa_1, .inl (tc 0, 10, .inl oo0x5)), (Aa_2, .inl (tc 0, 10, .inl oo0x6)), (Aa_3, .inl (tc 0, 6, .inl oo0x7)), (Aa_4, .inl (tc 0, 6, .inl oo0x8)), (Aa_5, .inl (tc 0, 6, .inl oo0x9)), (Aa_6, .inl (tc 0, 6, .inl Af_6)), (Aa_7, .inl (tc 0, 6, .inl Af_7)), (Aa_8, .inl (tc 0, 6, .inl Af_8)), (Ta_0, .inr (10, [.ref Ta_1, .int Tv_0, .int oo0x10, .int oo0x11, .int oo0x12, .int oo0x13])), (Ta_1, .inl (tc 0, 400, .inl Tf_1))]) 0 0 :=
  ct_fX0_readClause l D tc sk (fun k => ([Wa_0] : List (Nat)).getD k 0) (fun k => ([Aa_0, Aa_1, Aa_2, Aa_3, Aa_4, Aa_5, Aa_6, Aa_7, Aa_8] : List (Nat)).getD k 0) (fun k => ([Av_0, Av_1, Av_2, Av_3, Av_4, Av_5] : List (Int32)).getD k 0) (fun k => ([(fun _ => 0), Af_1, Af_2, Af_3, Af_4, Af_5, Af_6, Af_7, Af_8] : List (Nat → Int32)).getD k (fun _ => 0)) (fun k => ([Ta_0, Ta_1] : List (Nat)).getD k 0) (fun k => ([Tv_0, Tv_1, Tv_2, Tv_3, Tv_4] : List (Int32)).getD k 0) (fun k => ([(fun _ => 0), Tf_1] : List (Nat → Int32)).getD k (fun _ => 0)) x1 rr q h_tape h_by h_r h_bu h_x h_fq h_bq
set_option maxHeartbeats 4000000 in
set_option maxRecDepth 100000 in
theorem ct_fX0_read (l : Launch) (D : va_G) (tc : Nat → ClassId) (sk : (Nat → Nat) × (Nat → Nat)) (Wa : Nat → Nat) (Aa : Nat → Nat) (Av : Nat → Int32) (Af : Nat → Nat → Int32) (Ta : Nat → Nat) (Tv : Nat → Int32) (Tf : Nat → Nat → Int32) (h_tape : 0 ≤ ((Tv 0) : Int32).toInt ∧ ((Tv 0) : Int32).toInt ≤ 400 ∧ 0 ≤ ((Tv 1) : Int32).toInt ∧ ((Tv 1) : Int32).toInt ≤ 400 ∧ 0 ≤ ((Tv 2) : Int32).toInt ∧ ((Tv 2) : Int32).toInt ≤ 400) (h_by : Byt (Tf 1)) (h_bu : 0 ≤ ((Av 3) : Int32).toInt ∧ ((Av 3) : Int32).toInt ≤ 6) : Ct l yX0_read cX0_read 3 (some .int) { frames := 7, cells := 0, slots := 0, locals := 156 } D tc sk [.ref (Wa 0), .ref (Ta 0)] [((Wa 0), .inr (0, [.ref (Aa 0)])), ((Aa 0), .inr (9, [.int (Av 0), .int (Av 1), .int (Av 2), .int (Av 3), .int (Av 4), .int (Av 5), .ref (Aa 1), .ref (Aa 2), .ref (Aa 3), .ref (Aa 4), .ref (Aa 5), .ref (Aa 6), .ref (Aa 7), .ref (Aa 8)])), ((Aa 1), .inl (tc 0, 10, .inl (Af 1))), ((Aa 2), .inl (tc 0, 10, .inl (Af 2))), ((Aa 3), .inl (tc 0, 6, .inl (Af 3))), ((Aa 4), .inl (tc 0, 6, .inl (Af 4))), ((Aa 5), .inl (tc 0, 6, .inl (Af 5))), ((Aa 6), .inl (tc 0, 6, .inl (Af 6))), ((Aa 7), .inl (tc 0, 6, .inl (Af 7))), ((Aa 8), .inl (tc 0, 6, .inl (Af 8))), ((Ta 0), .inr (10, [.ref (Ta 1), .int (Tv 0), .int (Tv 1), .int (Tv 2), .int (Tv 3), .int (Tv 4)])), ((Ta 1), .inl (tc 0, 400, .inl (Tf 1)))] (fun (v : Option Value) (u : (Int32) × (Int32) × (Int32) × (Int32) × (Nat → Int32) × (Nat → Int32) × (Nat → Int32) × (Nat → Int32) × (Nat → Int32) × (Nat → Int32) × (Nat → Int32) × (Nat → Int32) × (Int32) × (Int32) × (Int32) × (Int32)) => match u with | (oo0x1, oo0x2, oo0x3, oo0x4, oo0x5, oo0x6, oo0x7, oo0x8, oo0x9, oo0x10, oo0x11, oo0x12, oo0x13, oo0x14, oo0x15, oo0x16) => ∃ r : Int32, v = some (.int r) ∧ (BkR (cB (Tf 1) (Tv 0)) r oo0x4) ∧ (0 ≤ ((Tv 0) : Int32).toInt ∧ ((Tv 0) : Int32).toInt ≤ 400 ∧ 0 ≤ (oo0x13 : Int32).toInt ∧ (oo0x13 : Int32).toInt ≤ 400 ∧ 0 ≤ (oo0x14 : Int32).toInt ∧ (oo0x14 : Int32).toInt ≤ 400) ∧ (0 ≤ (oo0x4 : Int32).toInt ∧ (oo0x4 : Int32).toInt ≤ 6)) (fun (u : (Int32) × (Int32) × (Int32) × (Int32) × (Nat → Int32) × (Nat → Int32) × (Nat → Int32) × (Nat → Int32) × (Nat → Int32) × (Nat → Int32) × (Nat → Int32) × (Nat → Int32) × (Int32) × (Int32) × (Int32) × (Int32)) => match u with | (oo0x1, oo0x2, oo0x3, oo0x4, oo0x5, oo0x6, oo0x7, oo0x8, oo0x9, oo0x10, oo0x11, oo0x12, oo0x13, oo0x14, oo0x15, oo0x16) => [((Wa 0), .inr (0, [.ref (Aa 0)])), ((Aa 0), .inr (9, [.int oo0x1, .int oo0x2, .int oo0x3, .int oo0x4, .int 0, .int 0, .ref (Aa 1), .ref (Aa 2), .ref (Aa 3), .ref (Aa 4), .ref (Aa 5), .ref (Aa 6), .ref (Aa 7), .ref (Aa 8)])), ((Aa 1), .inl (tc 0, 10, .inl oo0x5)), ((Aa 2), .inl (tc 0, 10, .inl oo0x6)), ((Aa 3), .inl (tc 0, 6, .inl oo0x7)), ((Aa 4), .inl (tc 0, 6, .inl oo0x8)), ((Aa 5), .inl (tc 0, 6, .inl oo0x9)), ((Aa 6), .inl (tc 0, 6, .inl oo0x10)), ((Aa 7), .inl (tc 0, 6, .inl oo0x11)), ((Aa 8), .inl (tc 0, 6, .inl oo0x12)), ((Ta 0), .inr (10, [.ref (Ta 1), .int (Tv 0), .int oo0x13, .int oo0x14, .int oo0x15, .int oo0x16])), ((Ta 1), .inl (tc 0, 400, .inl (Tf 1)))]) 0 0 := by
  refine Ct.start (by decide) (Nat.le_of_ble_eq_true rfl) (fun p e s m below meth c A ls hx hb hr hlk hin hml hown hts hK hX hP hD hA hl hS => ?_)
  have hl : lv_has ls 3 [(0, .ref (Wa 0)), (1, .ref (Ta 0))] := hl
  refine lv_aload_n hx hb dX0_read_0 rfl (lv_at hl 0 rfl) ?_
  refine gf_X0_12 hx hb hts hown hK hP 0 rfl rfl dX0_read_1 ?_
  refine cV (a := (Aa 0)) (As := []) (rest := []) (wr := [((Wa 0), .inr (0, [.ref (Aa 0)])), ((Ta 0), .inr (10, [.ref (Ta 1), .int (Tv 0), .int (Tv 1), .int (Tv 2), .int (Tv 3), .int (Tv 4)])), ((Ta 1), .inl (tc 0, 400, .inl (Tf 1)))]) ⟨hx, hb, hml, hown, hts⟩ hK hX hA (cu_X9_clear l D tc sk (Aa 0) (Aa 1) (Aa 2) (Aa 3) (Aa 4) (Aa 5) (Aa 6) (Aa 7) (Aa 8) (Av 0) (Av 1) (Av 2) (Av 3) (Av 4) (Av 5) (Af 1) (Af 2) (Af 3) (Af 4) (Af 5) (Af 6) (Af 7) (Af 8)) k_470 k_467 k_468 k_469 k_98 pl_X9_clear ⟨Nat.le_of_ble_eq_true rfl, Nat.le_of_ble_eq_true rfl⟩ rfl rfl (va_recv hK hP (ci := 9) (q0 := 1) rfl rfl) hP hD hS [1, 2, 3, 4, 5, 6, 7, 8, 9] [0, 10, 11] rfl rfl rfl rfl rfl (by decide) rfl hl.1 rfl (Nat.le_of_ble_eq_true rfl) dX0_read_4 ⟨Nat.le_of_ble_eq_true rfl, Nat.le_of_ble_eq_true rfl⟩ (fun v_1 u_2 H locs hv_3 hP₀ hD₀ hS₀ => ?_)
  obtain ⟨sv_4, sv_5, sv_6, sv_7, sv_8, sv_9, sv_10, sv_11⟩ := u_2
  obtain rfl : v_1 = none := hv_3
  refine W.eq (g2 := F0 m 7 ls []) rfl ?_
  replace hP : va_P D classes [((Wa 0), .inr (0, [.ref (Aa 0)])), ((Ta 0), .inr (10, [.ref (Ta 1), .int (Tv 0), .int (Tv 1), .int (Tv 2), .int (Tv 3), .int (Tv 4)])), ((Ta 1), .inl (tc 0, 400, .inl (Tf 1))), ((Aa 0), .inr (9, [.int 0, .int 0, .int 0, .int 0, .int 0, .int 0, .ref (Aa 1), .ref (Aa 2), .ref (Aa 3), .ref (Aa 4), .ref (Aa 5), .ref (Aa 6), .ref (Aa 7), .ref (Aa 8)])), ((Aa 1), .inl (tc 0, 10, .inl sv_4)), ((Aa 2), .inl (tc 0, 10, .inl sv_5)), ((Aa 3), .inl (tc 0, 6, .inl sv_6)), ((Aa 4), .inl (tc 0, 6, .inl sv_7)), ((Aa 5), .inl (tc 0, 6, .inl sv_8)), ((Aa 6), .inl (tc 0, 6, .inl sv_9)), ((Aa 7), .inl (tc 0, 6, .inl sv_10)), ((Aa 8), .inl (tc 0, 6, .inl sv_11))] H := hP₀
  replace hD : va_D A [((Wa 0), .inr (0, [.ref (Aa 0)])), ((Ta 0), .inr (10, [.ref (Ta 1), .int (Tv 0), .int (Tv 1), .int (Tv 2), .int (Tv 3), .int (Tv 4)])), ((Ta 1), .inl (tc 0, 400, .inl (Tf 1))), ((Aa 0), .inr (9, [.int 0, .int 0, .int 0, .int 0, .int 0, .int 0, .ref (Aa 1), .ref (Aa 2), .ref (Aa 3), .ref (Aa 4), .ref (Aa 5), .ref (Aa 6), .ref (Aa 7), .ref (Aa 8)])), ((Aa 1), .inl (tc 0, 10, .inl sv_4)), ((Aa 2), .inl (tc 0, 10, .inl sv_5)), ((Aa 3), .inl (tc 0, 6, .inl sv_6)), ((Aa 4), .inl (tc 0, 6, .inl sv_7)), ((Aa 5), .inl (tc 0, 6, .inl sv_8)), ((Aa 6), .inl (tc 0, 6, .inl sv_9)), ((Aa 7), .inl (tc 0, 6, .inl sv_10)), ((Aa 8), .inl (tc 0, 6, .inl sv_11))] := hD₀
  replace hS := hS₀
  clear hP₀ hD₀ hS₀
  refine lv_aload_n hx hb dX0_read_7 rfl (lv_at hl 1 rfl) ?_
  refine cV (a := (Ta 0)) (As := []) (rest := []) (wr := [((Wa 0), .inr (0, [.ref (Aa 0)])), ((Aa 0), .inr (9, [.int 0, .int 0, .int 0, .int 0, .int 0, .int 0, .ref (Aa 1), .ref (Aa 2), .ref (Aa 3), .ref (Aa 4), .ref (Aa 5), .ref (Aa 6), .ref (Aa 7), .ref (Aa 8)])), ((Aa 1), .inl (tc 0, 10, .inl sv_4)), ((Aa 2), .inl (tc 0, 10, .inl sv_5)), ((Aa 3), .inl (tc 0, 6, .inl sv_6)), ((Aa 4), .inl (tc 0, 6, .inl sv_7)), ((Aa 5), .inl (tc 0, 6, .inl sv_8)), ((Aa 6), .inl (tc 0, 6, .inl sv_9)), ((Aa 7), .inl (tc 0, 6, .inl sv_10)), ((Aa 8), .inl (tc 0, 6, .inl sv_11))]) ⟨hx, hb, hml, hown, hts⟩ hK hX hA (cu_fX10_begin l D tc sk (Ta 0) (Ta 1) (Tv 0) (Tv 1) (Tv 2) (Tv 3) (Tv 4) (Tf 1) h_tape h_by) k_474 k_471 k_472 k_473 k_96 pl_X10_begin ⟨Nat.le_of_ble_eq_true rfl, Nat.le_of_ble_eq_true rfl⟩ rfl rfl (va_recv hK hP (ci := 10) (q0 := 1) rfl rfl) hP hD hS [1, 2] [0, 3, 4, 5, 6, 7, 8, 9, 10, 11] rfl rfl rfl rfl rfl (by decide) rfl hl.1 rfl (Nat.le_of_ble_eq_true rfl) dX0_read_8 ⟨Nat.le_of_ble_eq_true rfl, Nat.le_of_ble_eq_true rfl⟩ (fun v_12 u_13 H locs hv_14 hP₀ hD₀ hS₀ => ?_)
  obtain ⟨sv_15, sv_16, sv_17⟩ := u_13
  obtain ⟨rfl, pf_18, pf_19⟩ := hv_14
  have pf_18 : 0 ≤ ((Tv 0) : Int32).toInt ∧ ((Tv 0) : Int32).toInt ≤ 400 ∧ 0 ≤ (sv_15 : Int32).toInt ∧ (sv_15 : Int32).toInt ≤ 400 ∧ 0 ≤ (sv_16 : Int32).toInt ∧ (sv_16 : Int32).toInt ≤ 400 := pf_18
  have pf_19 : TpR (Tf 1) (Tv 0) (rSK (cB (Tf 1) (Tv 0)) (.ok (0, 0))) sv_15 sv_16 sv_17 0 := pf_19
  obtain ⟨ro_20, ero_20⟩ : ∃ z : Except Int (Nat × Nat), z = (rSK (cB (Tf 1) (Tv 0)) (.ok (0, 0))) := ⟨_, rfl⟩
  rw [← ero_20] at pf_19
  have tb_21 : TpB (rTE (cB (Tf 1) (Tv 0)) ro_20) sv_16 0 := TpR.tb pf_19
  refine W.eq (g2 := F0 m 11 ls []) rfl ?_
  replace hP : va_P D classes [((Wa 0), .inr (0, [.ref (Aa 0)])), ((Aa 0), .inr (9, [.int 0, .int 0, .int 0, .int 0, .int 0, .int 0, .ref (Aa 1), .ref (Aa 2), .ref (Aa 3), .ref (Aa 4), .ref (Aa 5), .ref (Aa 6), .ref (Aa 7), .ref (Aa 8)])), ((Aa 1), .inl (tc 0, 10, .inl sv_4)), ((Aa 2), .inl (tc 0, 10, .inl sv_5)), ((Aa 3), .inl (tc 0, 6, .inl sv_6)), ((Aa 4), .inl (tc 0, 6, .inl sv_7)), ((Aa 5), .inl (tc 0, 6, .inl sv_8)), ((Aa 6), .inl (tc 0, 6, .inl sv_9)), ((Aa 7), .inl (tc 0, 6, .inl sv_10)), ((Aa 8), .inl (tc 0, 6, .inl sv_11)), ((Ta 0), .inr (10, [.ref (Ta 1), .int (Tv 0), .int sv_15, .int sv_16, .int sv_17, .int 0])), ((Ta 1), .inl (tc 0, 400, .inl (Tf 1)))] H := hP₀
  replace hD : va_D A [((Wa 0), .inr (0, [.ref (Aa 0)])), ((Aa 0), .inr (9, [.int 0, .int 0, .int 0, .int 0, .int 0, .int 0, .ref (Aa 1), .ref (Aa 2), .ref (Aa 3), .ref (Aa 4), .ref (Aa 5), .ref (Aa 6), .ref (Aa 7), .ref (Aa 8)])), ((Aa 1), .inl (tc 0, 10, .inl sv_4)), ((Aa 2), .inl (tc 0, 10, .inl sv_5)), ((Aa 3), .inl (tc 0, 6, .inl sv_6)), ((Aa 4), .inl (tc 0, 6, .inl sv_7)), ((Aa 5), .inl (tc 0, 6, .inl sv_8)), ((Aa 6), .inl (tc 0, 6, .inl sv_9)), ((Aa 7), .inl (tc 0, 6, .inl sv_10)), ((Aa 8), .inl (tc 0, 6, .inl sv_11)), ((Ta 0), .inr (10, [.ref (Ta 1), .int (Tv 0), .int sv_15, .int sv_16, .int sv_17, .int 0])), ((Ta 1), .inl (tc 0, 400, .inl (Tf 1)))] := hD₀
  replace hS := hS₀
  clear hP₀ hD₀ hS₀
  refine lv_iconst (v := 0) hx hb dX0_read_11 (by decide) ?_
  refine lv_istore_n (lv' := [(2, .int 0), (0, .ref (Wa 0)), (1, .ref (Ta 0))]) hx hb dX0_read_12 rfl hl (by decide) rfl (fun ls hl₀ => ?_)
  replace hl := hl₀
  clear hl₀
  have loop_52 : ∀ (n_50 : Nat) (vy_36 : Int32) (vy_37 : Int32) (vy_38 : Int32) (vy_39 : Int32) (vy_40 : Int32) (vy_41 : Nat → Int32) (vy_42 : Nat → Int32) (vy_43 : Nat → Int32) (vy_44 : Nat → Int32) (vy_45 : Nat → Int32) (vy_46 : Int32) (vy_47 : Int32) (vy_48 : Int32) (vy_49 : Int32) (H : Heap) (locs : List Loc) (ls : Array Slot), (42 - (vy_36 : Int32).toInt).toNat < n_50 → (0 ≤ (vy_36 : Int32).toInt ∧ (vy_36 : Int32).toInt ≤ 41) → (0 ≤ ((Tv 0) : Int32).toInt ∧ ((Tv 0) : Int32).toInt ≤ 400 ∧ 0 ≤ (vy_46 : Int32).toInt ∧ (vy_46 : Int32).toInt ≤ 400 ∧ 0 ≤ (vy_47 : Int32).toInt ∧ (vy_47 : Int32).toInt ≤ 400) → (0 ≤ (vy_40 : Int32).toInt ∧ (vy_40 : Int32).toInt ≤ 6) → (BcL (Tf 1) (Tv 0) vy_46 vy_47 vy_48 vy_49 vy_39 vy_40 vy_36) → va_P D classes [((Wa 0), .inr (0, [.ref (Aa 0)])), ((Aa 0), .inr (9, [.int vy_37, .int vy_38, .int vy_39, .int vy_40, .int 0, .int 0, .ref (Aa 1), .ref (Aa 2), .ref (Aa 3), .ref (Aa 4), .ref (Aa 5), .ref (Aa 6), .ref (Aa 7), .ref (Aa 8)])), ((Aa 1), .inl (tc 0, 10, .inl vy_41)), ((Aa 2), .inl (tc 0, 10, .inl vy_42)), ((Aa 3), .inl (tc 0, 6, .inl vy_43)), ((Aa 4), .inl (tc 0, 6, .inl vy_44)), ((Aa 5), .inl (tc 0, 6, .inl vy_45)), ((Aa 6), .inl (tc 0, 6, .inl sv_9)), ((Aa 7), .inl (tc 0, 6, .inl sv_10)), ((Aa 8), .inl (tc 0, 6, .inl sv_11)), ((Ta 0), .inr (10, [.ref (Ta 1), .int (Tv 0), .int vy_46, .int vy_47, .int vy_48, .int vy_49])), ((Ta 1), .inl (tc 0, 400, .inl (Tf 1)))] H → va_D A [((Wa 0), .inr (0, [.ref (Aa 0)])), ((Aa 0), .inr (9, [.int vy_37, .int vy_38, .int vy_39, .int vy_40, .int 0, .int 0, .ref (Aa 1), .ref (Aa 2), .ref (Aa 3), .ref (Aa 4), .ref (Aa 5), .ref (Aa 6), .ref (Aa 7), .ref (Aa 8)])), ((Aa 1), .inl (tc 0, 10, .inl vy_41)), ((Aa 2), .inl (tc 0, 10, .inl vy_42)), ((Aa 3), .inl (tc 0, 6, .inl vy_43)), ((Aa 4), .inl (tc 0, 6, .inl vy_44)), ((Aa 5), .inl (tc 0, 6, .inl vy_45)), ((Aa 6), .inl (tc 0, 6, .inl sv_9)), ((Aa 7), .inl (tc 0, 6, .inl sv_10)), ((Aa 8), .inl (tc 0, 6, .inl sv_11)), ((Ta 0), .inr (10, [.ref (Ta 1), .int (Tv 0), .int vy_46, .int vy_47, .int vy_48, .int vy_49])), ((Ta 1), .inl (tc 0, 400, .inl (Tf 1)))] → va_S A s.heap H locs → lv_has ls 3 [(2, .int vy_36), (0, .ref (Wa 0)), (1, .ref (Ta 0))] → W p l e ({ frames := 7, cells := 0, slots := 0, locals := 156 }) s m ([.ref (Wa 0), .ref (Ta 0)].toArray) below meth c H locs 0 0 (MQ below (QW (fun (v : Option Value) (u : (Int32) × (Int32) × (Int32) × (Int32) × (Nat → Int32) × (Nat → Int32) × (Nat → Int32) × (Nat → Int32) × (Nat → Int32) × (Nat → Int32) × (Nat → Int32) × (Nat → Int32) × (Int32) × (Int32) × (Int32) × (Int32)) => match u with | (oo0x1, oo0x2, oo0x3, oo0x4, oo0x5, oo0x6, oo0x7, oo0x8, oo0x9, oo0x10, oo0x11, oo0x12, oo0x13, oo0x14, oo0x15, oo0x16) => ∃ r : Int32, v = some (.int r) ∧ (BkR (cB (Tf 1) (Tv 0)) r oo0x4) ∧ (0 ≤ ((Tv 0) : Int32).toInt ∧ ((Tv 0) : Int32).toInt ≤ 400 ∧ 0 ≤ (oo0x13 : Int32).toInt ∧ (oo0x13 : Int32).toInt ≤ 400 ∧ 0 ≤ (oo0x14 : Int32).toInt ∧ (oo0x14 : Int32).toInt ≤ 400) ∧ (0 ≤ (oo0x4 : Int32).toInt ∧ (oo0x4 : Int32).toInt ≤ 6)) (BW D (fun (u : (Int32) × (Int32) × (Int32) × (Int32) × (Nat → Int32) × (Nat → Int32) × (Nat → Int32) × (Nat → Int32) × (Nat → Int32) × (Nat → Int32) × (Nat → Int32) × (Nat → Int32) × (Int32) × (Int32) × (Int32) × (Int32)) => match u with | (oo0x1, oo0x2, oo0x3, oo0x4, oo0x5, oo0x6, oo0x7, oo0x8, oo0x9, oo0x10, oo0x11, oo0x12, oo0x13, oo0x14, oo0x15, oo0x16) => [((Wa 0), .inr (0, [.ref (Aa 0)])), ((Aa 0), .inr (9, [.int oo0x1, .int oo0x2, .int oo0x3, .int oo0x4, .int 0, .int 0, .ref (Aa 1), .ref (Aa 2), .ref (Aa 3), .ref (Aa 4), .ref (Aa 5), .ref (Aa 6), .ref (Aa 7), .ref (Aa 8)])), ((Aa 1), .inl (tc 0, 10, .inl oo0x5)), ((Aa 2), .inl (tc 0, 10, .inl oo0x6)), ((Aa 3), .inl (tc 0, 6, .inl oo0x7)), ((Aa 4), .inl (tc 0, 6, .inl oo0x8)), ((Aa 5), .inl (tc 0, 6, .inl oo0x9)), ((Aa 6), .inl (tc 0, 6, .inl oo0x10)), ((Aa 7), .inl (tc 0, 6, .inl oo0x11)), ((Aa 8), .inl (tc 0, 6, .inl oo0x12)), ((Ta 0), .inr (10, [.ref (Ta 1), .int (Tv 0), .int oo0x13, .int oo0x14, .int oo0x15, .int oo0x16])), ((Ta 1), .inl (tc 0, 400, .inl (Tf 1)))]) A) A) ([.ref (Wa 0), .ref (Ta 0)].toArray) s 0 0 A) (F0 m 13 ls []) := by
    clear hP hD hS hl
    intro n_50
    induction n_50 with
    | zero =>
      intro vy_36 vy_37 vy_38 vy_39 vy_40 vy_41 vy_42 vy_43 vy_44 vy_45 vy_46 vy_47 vy_48 vy_49 H locs ls h1
      exact absurd h1 (Nat.not_lt_zero _)
    | succ n_50 ih_51 =>
      intro vy_36 vy_37 vy_38 vy_39 vy_40 vy_41 vy_42 vy_43 vy_44 vy_45 vy_46 vy_47 vy_48 vy_49 H locs ls hn_57 pf_53 pf_54 pf_55 pf_56 hP hD hS hl
      obtain ⟨bq_58, pf_59, pf_60, pf_61⟩ := id pf_56
      obtain ⟨ro_62, ero_62⟩ : ∃ z : Except Int (Nat × Nat), z = (fstQ bq_58) := ⟨_, rfl⟩
      rw [← ero_62] at pf_59
      have tb_63 : TpB (rTE (cB (Tf 1) (Tv 0)) ro_62) vy_47 vy_49 := TpR.tb pf_59
      have pf_64 : FsQ bq_58 ro_62 := ero_62.symm
      refine lv_iload_n hx hb dX0_read_13 rfl (lv_at hl 0 rfl) ?_
      refine lv_bipush (v := 40) hx hb dX0_read_14 (by decide) ?_
      refine lv_icmp_gt (tgt := 44) hx hb dX0_read_16 (by decide) (fun c_65 => ?_) (fun c_65 => ?_)
      · skip
        refine lv_aload_n hx hb dX0_read_44 rfl (lv_at hl 2 rfl) ?_
        refine cV (a := (Ta 0)) (As := []) (rest := []) (wr := [((Wa 0), .inr (0, [.ref (Aa 0)])), ((Aa 0), .inr (9, [.int vy_37, .int vy_38, .int vy_39, .int vy_40, .int 0, .int 0, .ref (Aa 1), .ref (Aa 2), .ref (Aa 3), .ref (Aa 4), .ref (Aa 5), .ref (Aa 6), .ref (Aa 7), .ref (Aa 8)])), ((Aa 1), .inl (tc 0, 10, .inl vy_41)), ((Aa 2), .inl (tc 0, 10, .inl vy_42)), ((Aa 3), .inl (tc 0, 6, .inl vy_43)), ((Aa 4), .inl (tc 0, 6, .inl vy_44)), ((Aa 5), .inl (tc 0, 6, .inl vy_45)), ((Aa 6), .inl (tc 0, 6, .inl sv_9)), ((Aa 7), .inl (tc 0, 6, .inl sv_10)), ((Aa 8), .inl (tc 0, 6, .inl sv_11))]) ⟨hx, hb, hml, hown, hts⟩ hK hX hA (cu_fX10_finish l D tc sk (Ta 0) (Ta 1) (Tv 0) vy_46 vy_47 vy_48 vy_49 (Tf 1) ro_62 pf_54 h_by pf_59) k_595 k_592 k_593 k_594 k_96 pl_X10_finish ⟨Nat.le_of_ble_eq_true rfl, Nat.le_of_ble_eq_true rfl⟩ rfl rfl (va_recv hK hP (ci := 10) (q0 := 10) rfl rfl) hP hD hS [10, 11] [0, 1, 2, 3, 4, 5, 6, 7, 8, 9] rfl rfl rfl rfl rfl (by decide) rfl hl.1 rfl (Nat.le_of_ble_eq_true rfl) dX0_read_45 ⟨Nat.le_of_ble_eq_true rfl, Nat.le_of_ble_eq_true rfl⟩ (fun v_66 u_67 H locs hv_68 hP₀ hD₀ hS₀ => ?_)
        obtain ⟨sv_69, sv_70⟩ := u_67
        obtain ⟨rfl, pf_71, pf_72⟩ := hv_68
        have pf_71 : 0 ≤ ((Tv 0) : Int32).toInt ∧ ((Tv 0) : Int32).toInt ≤ 400 ∧ 0 ≤ (vy_46 : Int32).toInt ∧ (vy_46 : Int32).toInt ≤ 400 ∧ 0 ≤ (vy_47 : Int32).toInt ∧ (vy_47 : Int32).toInt ≤ 400 := pf_71
        have pf_72 : TpR (Tf 1) (Tv 0) (rEN (cB (Tf 1) (Tv 0)) ro_62) vy_46 vy_47 sv_69 sv_70 := pf_72
        obtain ⟨ro_73, ero_73⟩ : ∃ z : Except Int (Nat × Nat), z = (rEN (cB (Tf 1) (Tv 0)) ro_62) := ⟨_, rfl⟩
        rw [← ero_73] at pf_72
        have tb_74 : TpB (rTE (cB (Tf 1) (Tv 0)) ro_73) vy_47 sv_70 := TpR.tb pf_72
        refine W.eq (g2 := F0 m 48 ls []) rfl ?_
        replace hP : va_P D classes [((Wa 0), .inr (0, [.ref (Aa 0)])), ((Aa 0), .inr (9, [.int vy_37, .int vy_38, .int vy_39, .int vy_40, .int 0, .int 0, .ref (Aa 1), .ref (Aa 2), .ref (Aa 3), .ref (Aa 4), .ref (Aa 5), .ref (Aa 6), .ref (Aa 7), .ref (Aa 8)])), ((Aa 1), .inl (tc 0, 10, .inl vy_41)), ((Aa 2), .inl (tc 0, 10, .inl vy_42)), ((Aa 3), .inl (tc 0, 6, .inl vy_43)), ((Aa 4), .inl (tc 0, 6, .inl vy_44)), ((Aa 5), .inl (tc 0, 6, .inl vy_45)), ((Aa 6), .inl (tc 0, 6, .inl sv_9)), ((Aa 7), .inl (tc 0, 6, .inl sv_10)), ((Aa 8), .inl (tc 0, 6, .inl sv_11)), ((Ta 0), .inr (10, [.ref (Ta 1), .int (Tv 0), .int vy_46, .int vy_47, .int sv_69, .int sv_70])), ((Ta 1), .inl (tc 0, 400, .inl (Tf 1)))] H := hP₀
        replace hD : va_D A [((Wa 0), .inr (0, [.ref (Aa 0)])), ((Aa 0), .inr (9, [.int vy_37, .int vy_38, .int vy_39, .int vy_40, .int 0, .int 0, .ref (Aa 1), .ref (Aa 2), .ref (Aa 3), .ref (Aa 4), .ref (Aa 5), .ref (Aa 6), .ref (Aa 7), .ref (Aa 8)])), ((Aa 1), .inl (tc 0, 10, .inl vy_41)), ((Aa 2), .inl (tc 0, 10, .inl vy_42)), ((Aa 3), .inl (tc 0, 6, .inl vy_43)), ((Aa 4), .inl (tc 0, 6, .inl vy_44)), ((Aa 5), .inl (tc 0, 6, .inl vy_45)), ((Aa 6), .inl (tc 0, 6, .inl sv_9)), ((Aa 7), .inl (tc 0, 6, .inl sv_10)), ((Aa 8), .inl (tc 0, 6, .inl sv_11)), ((Ta 0), .inr (10, [.ref (Ta 1), .int (Tv 0), .int vy_46, .int vy_47, .int sv_69, .int sv_70])), ((Ta 1), .inl (tc 0, 400, .inl (Tf 1)))] := hD₀
        replace hS := hS₀
        clear hP₀ hD₀ hS₀
        refine lv_aload_n hx hb dX0_read_48 rfl (lv_at hl 2 rfl) ?_
        refine gf_X0_37 hx hb hts hown hK hP 10 rfl rfl dX0_read_49 ?_
        have hr_75 : 40 < (vy_36 : Int32).toInt := by
          have z_1 := Int32.lt_iff_toInt_lt.mp c_65
          have y_40 : (40 : Int32).toInt = 40 := by decide
          omega
        have hu_76 : TpR (Tf 1) (Tv 0) (rEN (cB (Tf 1) (Tv 0)) (fstQ bq_58)) vy_46 vy_47 sv_69 sv_70 := by
          rw [← ero_62, ← ero_73]
          exact pf_72
        have hr_77 : ¬ (vy_36 : Int32).toInt = 0 := by
          have z_1 := Int32.lt_iff_toInt_lt.mp c_65
          have y_40 : (40 : Int32).toInt = 40 := by decide
          omega
        exact retI (v := sv_70) hx hb hr hlk (rfl) hP hD hS (vy_37, vy_38, vy_39, vy_40, vy_41, vy_42, vy_43, vy_44, vy_45, sv_9, sv_10, sv_11, vy_46, vy_47, sv_69, sv_70) ⟨_, rfl, (BkR.of (BcL.fin pf_61 hr_77 (Or.inl hr_75)) hu_76 pf_60), pf_71, pf_55⟩ [0, 1, 2, 3, 4, 5, 6, 7, 8, 9, 10, 11] rfl rfl dX0_read_52 (Nat.le_of_ble_eq_true rfl) (Nat.le_of_ble_eq_true rfl) rfl
      · skip
        refine lv_iload_n hx hb dX0_read_19 rfl (lv_at hl 0 rfl) ?_
        refine lv_if_eq (tgt := 32) hx hb dX0_read_20 (by decide) (fun c_78 => ?_) (fun c_78 => ?_)
        · skip
          refine lv_aload_n hx hb dX0_read_32 rfl (lv_at hl 1 rfl) ?_
          refine lv_aload_n hx hb dX0_read_33 rfl (lv_at hl 2 rfl) ?_
          refine lv_iload_n hx hb dX0_read_34 rfl (lv_at hl 0 rfl) ?_
          have ha_79 : 0 ≤ vy_36.toInt ∧ vy_36.toInt ≤ 40 := by
            have z_1 := Int32.le_iff_toInt_le.mp (Int32.not_lt.mp c_65)
            have z_2 := congrArg Int32.toInt c_78
            have y_0 : (0 : Int32).toInt = 0 := by decide
            have y_40 : (40 : Int32).toInt = 40 := by decide
            omega
          refine cV (a := (Wa 0)) (As := [.ref (Ta 0), .int vy_36]) (rest := []) (wr := []) ⟨hx, hb, hml, hown, hts⟩ hK hX hA (cu_fX0_readClause l D tc sk (Wa 0) (Aa 0) (Aa 1) (Aa 2) (Aa 3) (Aa 4) (Aa 5) (Aa 6) (Aa 7) (Aa 8) vy_37 vy_38 vy_39 vy_40 0 0 vy_41 vy_42 vy_43 vy_44 vy_45 sv_9 sv_10 sv_11 (Ta 0) (Ta 1) (Tv 0) vy_46 vy_47 vy_48 vy_49 (Tf 1) vy_36 ro_62 bq_58 pf_54 h_by pf_59 pf_55 ha_79 pf_64 pf_60) k_496 k_493 k_495 k_1 k_97 pl_X0_readClause ⟨Nat.le_of_ble_eq_true rfl, Nat.le_of_ble_eq_true rfl⟩ rfl rfl (va_recv hK hP (ci := 0) (q0 := 0) rfl rfl) hP hD hS [0, 1, 2, 3, 4, 5, 6, 7, 8, 9, 10, 11] [] rfl rfl rfl rfl rfl (by decide) rfl hl.1 rfl (Nat.le_of_ble_eq_true rfl) dX0_read_35 ⟨Nat.le_of_ble_eq_true rfl, Nat.le_of_ble_eq_true rfl⟩ (fun v_80 u_81 H locs hv_82 hP₀ hD₀ hS₀ => ?_)
          obtain ⟨sv_83, sv_84, sv_85, sv_86, sv_87, sv_88, sv_89, sv_90, sv_91, sv_92, sv_93, sv_94, sv_95⟩ := u_81
          obtain ⟨rfl, pf_96, pf_97, pf_98, pf_99⟩ := hv_82
          have pf_96 : 0 ≤ ((Tv 0) : Int32).toInt ∧ ((Tv 0) : Int32).toInt ≤ 400 ∧ 0 ≤ (sv_92 : Int32).toInt ∧ (sv_92 : Int32).toInt ≤ 400 ∧ 0 ≤ (sv_93 : Int32).toInt ∧ (sv_93 : Int32).toInt ≤ 400 := pf_96
          have pf_97 : 0 ≤ (sv_86 : Int32).toInt ∧ (sv_86 : Int32).toInt ≤ 6 := pf_97
          have pf_98 : TpR (Tf 1) (Tv 0) (fstQ (pz_b bq_58 (pz_bcl (cB (Tf 1) (Tv 0)) vy_36.toInt.toNat))) sv_92 sv_93 sv_94 sv_95 := pf_98
          obtain ⟨ro_100, ero_100⟩ : ∃ z : Except Int (Nat × Nat), z = (fstQ (pz_b bq_58 (pz_bcl (cB (Tf 1) (Tv 0)) vy_36.toInt.toNat))) := ⟨_, rfl⟩
          rw [← ero_100] at pf_98
          have tb_101 : TpB (rTE (cB (Tf 1) (Tv 0)) ro_100) sv_93 sv_95 := TpR.tb pf_98
          have pf_99 : BkQ (pz_b bq_58 (pz_bcl (cB (Tf 1) (Tv 0)) vy_36.toInt.toNat)) sv_85 sv_86 := pf_99
          refine W.eq (g2 := F0 m 38 ls []) rfl ?_
          replace hP : va_P D classes [((Wa 0), .inr (0, [.ref (Aa 0)])), ((Aa 0), .inr (9, [.int sv_83, .int sv_84, .int sv_85, .int sv_86, .int 0, .int 0, .ref (Aa 1), .ref (Aa 2), .ref (Aa 3), .ref (Aa 4), .ref (Aa 5), .ref (Aa 6), .ref (Aa 7), .ref (Aa 8)])), ((Aa 1), .inl (tc 0, 10, .inl sv_87)), ((Aa 2), .inl (tc 0, 10, .inl sv_88)), ((Aa 3), .inl (tc 0, 6, .inl sv_89)), ((Aa 4), .inl (tc 0, 6, .inl sv_90)), ((Aa 5), .inl (tc 0, 6, .inl sv_91)), ((Aa 6), .inl (tc 0, 6, .inl sv_9)), ((Aa 7), .inl (tc 0, 6, .inl sv_10)), ((Aa 8), .inl (tc 0, 6, .inl sv_11)), ((Ta 0), .inr (10, [.ref (Ta 1), .int (Tv 0), .int sv_92, .int sv_93, .int sv_94, .int sv_95])), ((Ta 1), .inl (tc 0, 400, .inl (Tf 1)))] H := hP₀
          replace hD : va_D A [((Wa 0), .inr (0, [.ref (Aa 0)])), ((Aa 0), .inr (9, [.int sv_83, .int sv_84, .int sv_85, .int sv_86, .int 0, .int 0, .ref (Aa 1), .ref (Aa 2), .ref (Aa 3), .ref (Aa 4), .ref (Aa 5), .ref (Aa 6), .ref (Aa 7), .ref (Aa 8)])), ((Aa 1), .inl (tc 0, 10, .inl sv_87)), ((Aa 2), .inl (tc 0, 10, .inl sv_88)), ((Aa 3), .inl (tc 0, 6, .inl sv_89)), ((Aa 4), .inl (tc 0, 6, .inl sv_90)), ((Aa 5), .inl (tc 0, 6, .inl sv_91)), ((Aa 6), .inl (tc 0, 6, .inl sv_9)), ((Aa 7), .inl (tc 0, 6, .inl sv_10)), ((Aa 8), .inl (tc 0, 6, .inl sv_11)), ((Ta 0), .inr (10, [.ref (Ta 1), .int (Tv 0), .int sv_92, .int sv_93, .int sv_94, .int sv_95])), ((Ta 1), .inl (tc 0, 400, .inl (Tf 1)))] := hD₀
          replace hS := hS₀
          clear hP₀ hD₀ hS₀
          obtain ⟨x_102, ex_102⟩ : ∃ y : Int32, y = vy_36 + 1 := ⟨_, rfl⟩
          refine lv_iinc (v := x_102) (lv' := [(2, .int x_102), (0, .ref (Wa 0)), (1, .ref (Ta 0))]) hx hb dX0_read_38 hl (k := 0) rfl (by rw [ex_102]; rfl) (by decide) rfl (fun ls hl₀ => ?_)
          replace hl := hl₀
          clear hl₀
          refine lv_goto (tgt := 13) hx hb dX0_read_41 (by decide) ?_
          have hb_103 : 42 - (x_102 : Int32).toInt < 42 - (vy_36 : Int32).toInt ∧ 1 ≤ 42 - (vy_36 : Int32).toInt := by
            have z_1 := Int32.le_iff_toInt_le.mp (Int32.not_lt.mp c_65)
            have z_2 := congrArg Int32.toInt c_78
            have y_0 : (0 : Int32).toInt = 0 := by decide
            have y_40 : (40 : Int32).toInt = 40 := by decide
            have y_1 : (1 : Int32).toInt = 1 := by decide
            have t_x_102 : x_102.toInt = (vy_36 : Int32).toInt + (1 : Int32).toInt := by rw [ex_102]; exact add_toInt (by omega) (by omega)
            omega
          have ha_104 : 0 ≤ (x_102 : Int32).toInt ∧ (x_102 : Int32).toInt ≤ 41 := by
            have z_1 := Int32.le_iff_toInt_le.mp (Int32.not_lt.mp c_65)
            have z_2 := congrArg Int32.toInt c_78
            have y_0 : (0 : Int32).toInt = 0 := by decide
            have y_40 : (40 : Int32).toInt = 40 := by decide
            have y_1 : (1 : Int32).toInt = 1 := by decide
            have t_x_102 : x_102.toInt = (vy_36 : Int32).toInt + (1 : Int32).toInt := by rw [ex_102]; exact add_toInt (by omega) (by omega)
            omega
          have hu_105 : TpR (Tf 1) (Tv 0) (fstQ (pz_b bq_58 (pz_bcl (cB (Tf 1) (Tv 0)) vy_36.toInt.toNat))) sv_92 sv_93 sv_94 sv_95 := by rw [← ero_100]; exact pf_98
          have hi_106 : (x_102 : Int32).toInt = (vy_36 : Int32).toInt + 1 := by
            have z_1 := Int32.le_iff_toInt_le.mp (Int32.not_lt.mp c_65)
            have z_2 := congrArg Int32.toInt c_78
            have y_0 : (0 : Int32).toInt = 0 := by decide
            have y_40 : (40 : Int32).toInt = 40 := by decide
            have y_1 : (1 : Int32).toInt = 1 := by decide
            have t_x_102 : x_102.toInt = (vy_36 : Int32).toInt + (1 : Int32).toInt := by rw [ex_102]; exact add_toInt (by omega) (by omega)
            omega
          have hr_107 : (vy_36 : Int32).toInt = 0 := by
            have z_1 := Int32.le_iff_toInt_le.mp (Int32.not_lt.mp c_65)
            have z_2 := congrArg Int32.toInt c_78
            have y_0 : (0 : Int32).toInt = 0 := by decide
            have y_40 : (40 : Int32).toInt = 40 := by decide
            omega
          exact ih_51 x_102 sv_83 sv_84 sv_85 sv_86 sv_87 sv_88 sv_89 sv_90 sv_91 sv_92 sv_93 sv_94 sv_95 _ _ _ (by omega) ha_104 pf_96 pf_97 (BcL.next0 hr_107 pf_61 hu_105 pf_99 hi_106) (hP.sub [0, 1, 2, 3, 4, 5, 6, 7, 8, 9, 10, 11] rfl) (hD.sub [0, 1, 2, 3, 4, 5, 6, 7, 8, 9, 10, 11] rfl rfl) hS (lv_sub hl [0, 1, 2] rfl)
        · skip
          refine lv_aload_n hx hb dX0_read_23 rfl (lv_at hl 2 rfl) ?_
          refine lv_bipush (v := 59) hx hb dX0_read_24 (by decide) ?_
          have ha_108 : 0 ≤ (59 : Int32).toInt := by
            have z_1 := Int32.le_iff_toInt_le.mp (Int32.not_lt.mp c_65)
            have z_2 : ¬ (vy_36 : Int32).toInt = (0 : Int32).toInt := fun z => c_78 (Int32.toInt_inj.mp z)
            have y_0 : (0 : Int32).toInt = 0 := by decide
            have y_40 : (40 : Int32).toInt = 40 := by decide
            have y_59 : (59 : Int32).toInt = 59 := by decide
            omega
          have ha_109 : (59 : Int32).toInt = (59 : Int) := by
            have z_1 := Int32.le_iff_toInt_le.mp (Int32.not_lt.mp c_65)
            have z_2 : ¬ (vy_36 : Int32).toInt = (0 : Int32).toInt := fun z => c_78 (Int32.toInt_inj.mp z)
            have y_0 : (0 : Int32).toInt = 0 := by decide
            have y_40 : (40 : Int32).toInt = 40 := by decide
            have y_59 : (59 : Int32).toInt = 59 := by decide
            omega
          refine cV (a := (Ta 0)) (As := [.int 59]) (rest := []) (wr := [((Wa 0), .inr (0, [.ref (Aa 0)])), ((Aa 0), .inr (9, [.int vy_37, .int vy_38, .int vy_39, .int vy_40, .int 0, .int 0, .ref (Aa 1), .ref (Aa 2), .ref (Aa 3), .ref (Aa 4), .ref (Aa 5), .ref (Aa 6), .ref (Aa 7), .ref (Aa 8)])), ((Aa 1), .inl (tc 0, 10, .inl vy_41)), ((Aa 2), .inl (tc 0, 10, .inl vy_42)), ((Aa 3), .inl (tc 0, 6, .inl vy_43)), ((Aa 4), .inl (tc 0, 6, .inl vy_44)), ((Aa 5), .inl (tc 0, 6, .inl vy_45)), ((Aa 6), .inl (tc 0, 6, .inl sv_9)), ((Aa 7), .inl (tc 0, 6, .inl sv_10)), ((Aa 8), .inl (tc 0, 6, .inl sv_11))]) ⟨hx, hb, hml, hown, hts⟩ hK hX hA (cu_fX10_takes l D tc sk (Ta 0) (Ta 1) (Tv 0) vy_46 vy_47 vy_48 vy_49 (Tf 1) 59 ro_62 59 pf_54 h_by pf_59 ha_108 ha_109) k_492 k_489 k_490 k_491 k_96 pl_X10_takes ⟨Nat.le_of_ble_eq_true rfl, Nat.le_of_ble_eq_true rfl⟩ rfl rfl (va_recv hK hP (ci := 10) (q0 := 10) rfl rfl) hP hD hS [10, 11] [0, 1, 2, 3, 4, 5, 6, 7, 8, 9] rfl rfl rfl rfl rfl (by decide) rfl hl.1 rfl (Nat.le_of_ble_eq_true rfl) dX0_read_26 ⟨Nat.le_of_ble_eq_true rfl, Nat.le_of_ble_eq_true rfl⟩ (fun v_110 u_111 H locs hv_112 hP₀ hD₀ hS₀ => ?_)
          obtain ⟨sv_113, sv_114, sv_115⟩ := u_111
          obtain ⟨r_117, rfl, he_118, pf_116, hm_120, hm_121⟩ := hv_112
          have he_118 : (r_117.toInt = 0 ∨ r_117.toInt = 1) := he_118
          have pf_116 : 0 ≤ ((Tv 0) : Int32).toInt ∧ ((Tv 0) : Int32).toInt ≤ 400 ∧ 0 ≤ (sv_113 : Int32).toInt ∧ (sv_113 : Int32).toInt ≤ 400 ∧ 0 ≤ (sv_114 : Int32).toInt ∧ (sv_114 : Int32).toInt ≤ 400 := pf_116
          refine W.eq (g2 := F0 m 29 ls [.int r_117]) rfl ?_
          replace hP : va_P D classes [((Wa 0), .inr (0, [.ref (Aa 0)])), ((Aa 0), .inr (9, [.int vy_37, .int vy_38, .int vy_39, .int vy_40, .int 0, .int 0, .ref (Aa 1), .ref (Aa 2), .ref (Aa 3), .ref (Aa 4), .ref (Aa 5), .ref (Aa 6), .ref (Aa 7), .ref (Aa 8)])), ((Aa 1), .inl (tc 0, 10, .inl vy_41)), ((Aa 2), .inl (tc 0, 10, .inl vy_42)), ((Aa 3), .inl (tc 0, 6, .inl vy_43)), ((Aa 4), .inl (tc 0, 6, .inl vy_44)), ((Aa 5), .inl (tc 0, 6, .inl vy_45)), ((Aa 6), .inl (tc 0, 6, .inl sv_9)), ((Aa 7), .inl (tc 0, 6, .inl sv_10)), ((Aa 8), .inl (tc 0, 6, .inl sv_11)), ((Ta 0), .inr (10, [.ref (Ta 1), .int (Tv 0), .int sv_113, .int sv_114, .int sv_115, .int vy_49])), ((Ta 1), .inl (tc 0, 400, .inl (Tf 1)))] H := hP₀
          replace hD : va_D A [((Wa 0), .inr (0, [.ref (Aa 0)])), ((Aa 0), .inr (9, [.int vy_37, .int vy_38, .int vy_39, .int vy_40, .int 0, .int 0, .ref (Aa 1), .ref (Aa 2), .ref (Aa 3), .ref (Aa 4), .ref (Aa 5), .ref (Aa 6), .ref (Aa 7), .ref (Aa 8)])), ((Aa 1), .inl (tc 0, 10, .inl vy_41)), ((Aa 2), .inl (tc 0, 10, .inl vy_42)), ((Aa 3), .inl (tc 0, 6, .inl vy_43)), ((Aa 4), .inl (tc 0, 6, .inl vy_44)), ((Aa 5), .inl (tc 0, 6, .inl vy_45)), ((Aa 6), .inl (tc 0, 6, .inl sv_9)), ((Aa 7), .inl (tc 0, 6, .inl sv_10)), ((Aa 8), .inl (tc 0, 6, .inl sv_11)), ((Ta 0), .inr (10, [.ref (Ta 1), .int (Tv 0), .int sv_113, .int sv_114, .int sv_115, .int vy_49])), ((Ta 1), .inl (tc 0, 400, .inl (Tf 1)))] := hD₀
          replace hS := hS₀
          clear hP₀ hD₀ hS₀
          refine lv_if_eq (tgt := 44) hx hb dX0_read_29 (by decide) (fun c_122 => ?_) (fun c_122 => ?_)
          · skip
            have hz_125 : (r_117 : Int32).toInt = 0 := by
              have z_1 := Int32.le_iff_toInt_le.mp (Int32.not_lt.mp c_65)
              have z_2 : ¬ (vy_36 : Int32).toInt = (0 : Int32).toInt := fun z => c_78 (Int32.toInt_inj.mp z)
              have z_3 := congrArg Int32.toInt c_122
              have y_0 : (0 : Int32).toInt = 0 := by decide
              have y_40 : (40 : Int32).toInt = 40 := by decide
              omega
            obtain ⟨pf_123, pf_124⟩ := hm_121 hz_125
            have pf_123 : NSg (cB (Tf 1) (Tv 0)) (59 : Int) ro_62 := pf_123
            have pf_124 : TpR (Tf 1) (Tv 0) ro_62 sv_113 sv_114 sv_115 vy_49 := pf_124
            have tb_126 : TpB (rTE (cB (Tf 1) (Tv 0)) ro_62) sv_114 vy_49 := TpR.tb pf_124
            refine lv_aload_n hx hb dX0_read_44 rfl (lv_at hl 2 rfl) ?_
            refine cV (a := (Ta 0)) (As := []) (rest := []) (wr := [((Wa 0), .inr (0, [.ref (Aa 0)])), ((Aa 0), .inr (9, [.int vy_37, .int vy_38, .int vy_39, .int vy_40, .int 0, .int 0, .ref (Aa 1), .ref (Aa 2), .ref (Aa 3), .ref (Aa 4), .ref (Aa 5), .ref (Aa 6), .ref (Aa 7), .ref (Aa 8)])), ((Aa 1), .inl (tc 0, 10, .inl vy_41)), ((Aa 2), .inl (tc 0, 10, .inl vy_42)), ((Aa 3), .inl (tc 0, 6, .inl vy_43)), ((Aa 4), .inl (tc 0, 6, .inl vy_44)), ((Aa 5), .inl (tc 0, 6, .inl vy_45)), ((Aa 6), .inl (tc 0, 6, .inl sv_9)), ((Aa 7), .inl (tc 0, 6, .inl sv_10)), ((Aa 8), .inl (tc 0, 6, .inl sv_11))]) ⟨hx, hb, hml, hown, hts⟩ hK hX hA (cu_fX10_finish l D tc sk (Ta 0) (Ta 1) (Tv 0) sv_113 sv_114 sv_115 vy_49 (Tf 1) ro_62 pf_116 h_by pf_124) k_595 k_592 k_593 k_594 k_96 pl_X10_finish ⟨Nat.le_of_ble_eq_true rfl, Nat.le_of_ble_eq_true rfl⟩ rfl rfl (va_recv hK hP (ci := 10) (q0 := 10) rfl rfl) hP hD hS [10, 11] [0, 1, 2, 3, 4, 5, 6, 7, 8, 9] rfl rfl rfl rfl rfl (by decide) rfl hl.1 rfl (Nat.le_of_ble_eq_true rfl) dX0_read_45 ⟨Nat.le_of_ble_eq_true rfl, Nat.le_of_ble_eq_true rfl⟩ (fun v_127 u_128 H locs hv_129 hP₀ hD₀ hS₀ => ?_)
            obtain ⟨sv_130, sv_131⟩ := u_128
            obtain ⟨rfl, pf_132, pf_133⟩ := hv_129
            have pf_132 : 0 ≤ ((Tv 0) : Int32).toInt ∧ ((Tv 0) : Int32).toInt ≤ 400 ∧ 0 ≤ (sv_113 : Int32).toInt ∧ (sv_113 : Int32).toInt ≤ 400 ∧ 0 ≤ (sv_114 : Int32).toInt ∧ (sv_114 : Int32).toInt ≤ 400 := pf_132
            have pf_133 : TpR (Tf 1) (Tv 0) (rEN (cB (Tf 1) (Tv 0)) ro_62) sv_113 sv_114 sv_130 sv_131 := pf_133
            obtain ⟨ro_134, ero_134⟩ : ∃ z : Except Int (Nat × Nat), z = (rEN (cB (Tf 1) (Tv 0)) ro_62) := ⟨_, rfl⟩
            rw [← ero_134] at pf_133
            have tb_135 : TpB (rTE (cB (Tf 1) (Tv 0)) ro_134) sv_114 sv_131 := TpR.tb pf_133
            refine W.eq (g2 := F0 m 48 ls []) rfl ?_
            replace hP : va_P D classes [((Wa 0), .inr (0, [.ref (Aa 0)])), ((Aa 0), .inr (9, [.int vy_37, .int vy_38, .int vy_39, .int vy_40, .int 0, .int 0, .ref (Aa 1), .ref (Aa 2), .ref (Aa 3), .ref (Aa 4), .ref (Aa 5), .ref (Aa 6), .ref (Aa 7), .ref (Aa 8)])), ((Aa 1), .inl (tc 0, 10, .inl vy_41)), ((Aa 2), .inl (tc 0, 10, .inl vy_42)), ((Aa 3), .inl (tc 0, 6, .inl vy_43)), ((Aa 4), .inl (tc 0, 6, .inl vy_44)), ((Aa 5), .inl (tc 0, 6, .inl vy_45)), ((Aa 6), .inl (tc 0, 6, .inl sv_9)), ((Aa 7), .inl (tc 0, 6, .inl sv_10)), ((Aa 8), .inl (tc 0, 6, .inl sv_11)), ((Ta 0), .inr (10, [.ref (Ta 1), .int (Tv 0), .int sv_113, .int sv_114, .int sv_130, .int sv_131])), ((Ta 1), .inl (tc 0, 400, .inl (Tf 1)))] H := hP₀
            replace hD : va_D A [((Wa 0), .inr (0, [.ref (Aa 0)])), ((Aa 0), .inr (9, [.int vy_37, .int vy_38, .int vy_39, .int vy_40, .int 0, .int 0, .ref (Aa 1), .ref (Aa 2), .ref (Aa 3), .ref (Aa 4), .ref (Aa 5), .ref (Aa 6), .ref (Aa 7), .ref (Aa 8)])), ((Aa 1), .inl (tc 0, 10, .inl vy_41)), ((Aa 2), .inl (tc 0, 10, .inl vy_42)), ((Aa 3), .inl (tc 0, 6, .inl vy_43)), ((Aa 4), .inl (tc 0, 6, .inl vy_44)), ((Aa 5), .inl (tc 0, 6, .inl vy_45)), ((Aa 6), .inl (tc 0, 6, .inl sv_9)), ((Aa 7), .inl (tc 0, 6, .inl sv_10)), ((Aa 8), .inl (tc 0, 6, .inl sv_11)), ((Ta 0), .inr (10, [.ref (Ta 1), .int (Tv 0), .int sv_113, .int sv_114, .int sv_130, .int sv_131])), ((Ta 1), .inl (tc 0, 400, .inl (Tf 1)))] := hD₀
            replace hS := hS₀
            clear hP₀ hD₀ hS₀
            refine lv_aload_n hx hb dX0_read_48 rfl (lv_at hl 2 rfl) ?_
            refine gf_X0_37 hx hb hts hown hK hP 10 rfl rfl dX0_read_49 ?_
            have hu_136 : TpR (Tf 1) (Tv 0) (rEN (cB (Tf 1) (Tv 0)) (fstQ bq_58)) sv_113 sv_114 sv_130 sv_131 := by
              rw [← ero_62, ← ero_134]
              exact pf_133
            have hr_137 : ¬ (vy_36 : Int32).toInt = 0 := by
              have z_1 := Int32.le_iff_toInt_le.mp (Int32.not_lt.mp c_65)
              have z_2 : ¬ (vy_36 : Int32).toInt = (0 : Int32).toInt := fun z => c_78 (Int32.toInt_inj.mp z)
              have z_3 := congrArg Int32.toInt c_122
              have y_0 : (0 : Int32).toInt = 0 := by decide
              have y_40 : (40 : Int32).toInt = 40 := by decide
              omega
            exact retI (v := sv_131) hx hb hr hlk (rfl) hP hD hS (vy_37, vy_38, vy_39, vy_40, vy_41, vy_42, vy_43, vy_44, vy_45, sv_9, sv_10, sv_11, sv_113, sv_114, sv_130, sv_131) ⟨_, rfl, (BkR.of (BcL.fin pf_61 hr_137 (Or.inr (ero_62 ▸ pf_123))) hu_136 pf_60), pf_132, pf_55⟩ [0, 1, 2, 3, 4, 5, 6, 7, 8, 9, 10, 11] rfl rfl dX0_read_52 (Nat.le_of_ble_eq_true rfl) (Nat.le_of_ble_eq_true rfl) rfl
          · skip
            have hz_140 : (r_117 : Int32).toInt = 1 := by
              have z_1 := Int32.le_iff_toInt_le.mp (Int32.not_lt.mp c_65)
              have z_2 : ¬ (vy_36 : Int32).toInt = (0 : Int32).toInt := fun z => c_78 (Int32.toInt_inj.mp z)
              have z_3 : ¬ (r_117 : Int32).toInt = (0 : Int32).toInt := fun z => c_122 (Int32.toInt_inj.mp z)
              have y_0 : (0 : Int32).toInt = 0 := by decide
              have y_40 : (40 : Int32).toInt = 40 := by decide
              omega
            obtain ⟨pf_138, pf_139⟩ := hm_120 hz_140
            have pf_138 : Sg (cB (Tf 1) (Tv 0)) (59 : Int) ro_62 := pf_138
            have pf_139 : TpR (Tf 1) (Tv 0) (rNX (cB (Tf 1) (Tv 0)) ro_62) sv_113 sv_114 sv_115 vy_49 := pf_139
            obtain ⟨ro_141, ero_141⟩ : ∃ z : Except Int (Nat × Nat), z = (rNX (cB (Tf 1) (Tv 0)) ro_62) := ⟨_, rfl⟩
            rw [← ero_141] at pf_139
            have tb_142 : TpB (rTE (cB (Tf 1) (Tv 0)) ro_141) sv_114 vy_49 := TpR.tb pf_139
            have pf_143 : FsQ (bNX (cB (Tf 1) (Tv 0)) bq_58) ro_141 := by
              show fstQ (bNX (cB (Tf 1) (Tv 0)) bq_58) = ro_141
              rw [fstQ_nx, ero_141, ero_62]
            have pf_144 : BkQ (bNX (cB (Tf 1) (Tv 0)) bq_58) vy_39 vy_40 := BkQ.nx pf_60
            refine lv_aload_n hx hb dX0_read_32 rfl (lv_at hl 1 rfl) ?_
            refine lv_aload_n hx hb dX0_read_33 rfl (lv_at hl 2 rfl) ?_
            refine lv_iload_n hx hb dX0_read_34 rfl (lv_at hl 0 rfl) ?_
            have ha_145 : 0 ≤ vy_36.toInt ∧ vy_36.toInt ≤ 40 := by
              have z_1 := Int32.le_iff_toInt_le.mp (Int32.not_lt.mp c_65)
              have z_2 : ¬ (vy_36 : Int32).toInt = (0 : Int32).toInt := fun z => c_78 (Int32.toInt_inj.mp z)
              have z_3 : ¬ (r_117 : Int32).toInt = (0 : Int32).toInt := fun z => c_122 (Int32.toInt_inj.mp z)
              have y_0 : (0 : Int32).toInt = 0 := by decide
              have y_40 : (40 : Int32).toInt = 40 := by decide
              omega
            refine cV (a := (Wa 0)) (As := [.ref (Ta 0), .int vy_36]) (rest := []) (wr := []) ⟨hx, hb, hml, hown, hts⟩ hK hX hA (cu_fX0_readClause l D tc sk (Wa 0) (Aa 0) (Aa 1) (Aa 2) (Aa 3) (Aa 4) (Aa 5) (Aa 6) (Aa 7) (Aa 8) vy_37 vy_38 vy_39 vy_40 0 0 vy_41 vy_42 vy_43 vy_44 vy_45 sv_9 sv_10 sv_11 (Ta 0) (Ta 1) (Tv 0) sv_113 sv_114 sv_115 vy_49 (Tf 1) vy_36 ro_141 (bNX (cB (Tf 1) (Tv 0)) bq_58) pf_116 h_by pf_139 pf_55 ha_145 pf_143 pf_144) k_496 k_493 k_495 k_1 k_97 pl_X0_readClause ⟨Nat.le_of_ble_eq_true rfl, Nat.le_of_ble_eq_true rfl⟩ rfl rfl (va_recv hK hP (ci := 0) (q0 := 0) rfl rfl) hP hD hS [0, 1, 2, 3, 4, 5, 6, 7, 8, 9, 10, 11] [] rfl rfl rfl rfl rfl (by decide) rfl hl.1 rfl (Nat.le_of_ble_eq_true rfl) dX0_read_35 ⟨Nat.le_of_ble_eq_true rfl, Nat.le_of_ble_eq_true rfl⟩ (fun v_146 u_147 H locs hv_148 hP₀ hD₀ hS₀ => ?_)
            obtain ⟨sv_149, sv_150, sv_151, sv_152, sv_153, sv_154, sv_155, sv_156, sv_157, sv_158, sv_159, sv_160, sv_161⟩ := u_147
            obtain ⟨rfl, pf_162, pf_163, pf_164, pf_165⟩ := hv_148
            have pf_162 : 0 ≤ ((Tv 0) : Int32).toInt ∧ ((Tv 0) : Int32).toInt ≤ 400 ∧ 0 ≤ (sv_158 : Int32).toInt ∧ (sv_158 : Int32).toInt ≤ 400 ∧ 0 ≤ (sv_159 : Int32).toInt ∧ (sv_159 : Int32).toInt ≤ 400 := pf_162
            have pf_163 : 0 ≤ (sv_152 : Int32).toInt ∧ (sv_152 : Int32).toInt ≤ 6 := pf_163
            have pf_164 : TpR (Tf 1) (Tv 0) (fstQ (pz_b (bNX (cB (Tf 1) (Tv 0)) bq_58) (pz_bcl (cB (Tf 1) (Tv 0)) vy_36.toInt.toNat))) sv_158 sv_159 sv_160 sv_161 := pf_164
            obtain ⟨ro_166, ero_166⟩ : ∃ z : Except Int (Nat × Nat), z = (fstQ (pz_b (bNX (cB (Tf 1) (Tv 0)) bq_58) (pz_bcl (cB (Tf 1) (Tv 0)) vy_36.toInt.toNat))) := ⟨_, rfl⟩
            rw [← ero_166] at pf_164
            have tb_167 : TpB (rTE (cB (Tf 1) (Tv 0)) ro_166) sv_159 sv_161 := TpR.tb pf_164
            have pf_165 : BkQ (pz_b (bNX (cB (Tf 1) (Tv 0)) bq_58) (pz_bcl (cB (Tf 1) (Tv 0)) vy_36.toInt.toNat)) sv_151 sv_152 := pf_165
            refine W.eq (g2 := F0 m 38 ls []) rfl ?_
            replace hP : va_P D classes [((Wa 0), .inr (0, [.ref (Aa 0)])), ((Aa 0), .inr (9, [.int sv_149, .int sv_150, .int sv_151, .int sv_152, .int 0, .int 0, .ref (Aa 1), .ref (Aa 2), .ref (Aa 3), .ref (Aa 4), .ref (Aa 5), .ref (Aa 6), .ref (Aa 7), .ref (Aa 8)])), ((Aa 1), .inl (tc 0, 10, .inl sv_153)), ((Aa 2), .inl (tc 0, 10, .inl sv_154)), ((Aa 3), .inl (tc 0, 6, .inl sv_155)), ((Aa 4), .inl (tc 0, 6, .inl sv_156)), ((Aa 5), .inl (tc 0, 6, .inl sv_157)), ((Aa 6), .inl (tc 0, 6, .inl sv_9)), ((Aa 7), .inl (tc 0, 6, .inl sv_10)), ((Aa 8), .inl (tc 0, 6, .inl sv_11)), ((Ta 0), .inr (10, [.ref (Ta 1), .int (Tv 0), .int sv_158, .int sv_159, .int sv_160, .int sv_161])), ((Ta 1), .inl (tc 0, 400, .inl (Tf 1)))] H := hP₀
            replace hD : va_D A [((Wa 0), .inr (0, [.ref (Aa 0)])), ((Aa 0), .inr (9, [.int sv_149, .int sv_150, .int sv_151, .int sv_152, .int 0, .int 0, .ref (Aa 1), .ref (Aa 2), .ref (Aa 3), .ref (Aa 4), .ref (Aa 5), .ref (Aa 6), .ref (Aa 7), .ref (Aa 8)])), ((Aa 1), .inl (tc 0, 10, .inl sv_153)), ((Aa 2), .inl (tc 0, 10, .inl sv_154)), ((Aa 3), .inl (tc 0, 6, .inl sv_155)), ((Aa 4), .inl (tc 0, 6, .inl sv_156)), ((Aa 5), .inl (tc 0, 6, .inl sv_157)), ((Aa 6), .inl (tc 0, 6, .inl sv_9)), ((Aa 7), .inl (tc 0, 6, .inl sv_10)), ((Aa 8), .inl (tc 0, 6, .inl sv_11)), ((Ta 0), .inr (10, [.ref (Ta 1), .int (Tv 0), .int sv_158, .int sv_159, .int sv_160, .int sv_161])), ((Ta 1), .inl (tc 0, 400, .inl (Tf 1)))] := hD₀
            replace hS := hS₀
            clear hP₀ hD₀ hS₀
            obtain ⟨x_168, ex_168⟩ : ∃ y : Int32, y = vy_36 + 1 := ⟨_, rfl⟩
            refine lv_iinc (v := x_168) (lv' := [(2, .int x_168), (0, .ref (Wa 0)), (1, .ref (Ta 0))]) hx hb dX0_read_38 hl (k := 0) rfl (by rw [ex_168]; rfl) (by decide) rfl (fun ls hl₀ => ?_)
            replace hl := hl₀
            clear hl₀
            refine lv_goto (tgt := 13) hx hb dX0_read_41 (by decide) ?_
            have hb_169 : 42 - (x_168 : Int32).toInt < 42 - (vy_36 : Int32).toInt ∧ 1 ≤ 42 - (vy_36 : Int32).toInt := by
              have z_1 := Int32.le_iff_toInt_le.mp (Int32.not_lt.mp c_65)
              have z_2 : ¬ (vy_36 : Int32).toInt = (0 : Int32).toInt := fun z => c_78 (Int32.toInt_inj.mp z)
              have z_3 : ¬ (r_117 : Int32).toInt = (0 : Int32).toInt := fun z => c_122 (Int32.toInt_inj.mp z)
              have y_0 : (0 : Int32).toInt = 0 := by decide
              have y_40 : (40 : Int32).toInt = 40 := by decide
              have y_1 : (1 : Int32).toInt = 1 := by decide
              have t_x_168 : x_168.toInt = (vy_36 : Int32).toInt + (1 : Int32).toInt := by rw [ex_168]; exact add_toInt (by omega) (by omega)
              omega
            have ha_170 : 0 ≤ (x_168 : Int32).toInt ∧ (x_168 : Int32).toInt ≤ 41 := by
              have z_1 := Int32.le_iff_toInt_le.mp (Int32.not_lt.mp c_65)
              have z_2 : ¬ (vy_36 : Int32).toInt = (0 : Int32).toInt := fun z => c_78 (Int32.toInt_inj.mp z)
              have z_3 : ¬ (r_117 : Int32).toInt = (0 : Int32).toInt := fun z => c_122 (Int32.toInt_inj.mp z)
              have y_0 : (0 : Int32).toInt = 0 := by decide
              have y_40 : (40 : Int32).toInt = 40 := by decide
              have y_1 : (1 : Int32).toInt = 1 := by decide
              have t_x_168 : x_168.toInt = (vy_36 : Int32).toInt + (1 : Int32).toInt := by rw [ex_168]; exact add_toInt (by omega) (by omega)
              omega
            have hu_171 : TpR (Tf 1) (Tv 0) (fstQ (pz_b (bNX (cB (Tf 1) (Tv 0)) bq_58) (pz_bcl (cB (Tf 1) (Tv 0)) vy_36.toInt.toNat))) sv_158 sv_159 sv_160 sv_161 := by rw [← ero_166]; exact pf_164
            have hi_172 : (x_168 : Int32).toInt = (vy_36 : Int32).toInt + 1 := by
              have z_1 := Int32.le_iff_toInt_le.mp (Int32.not_lt.mp c_65)
              have z_2 : ¬ (vy_36 : Int32).toInt = (0 : Int32).toInt := fun z => c_78 (Int32.toInt_inj.mp z)
              have z_3 : ¬ (r_117 : Int32).toInt = (0 : Int32).toInt := fun z => c_122 (Int32.toInt_inj.mp z)
              have y_0 : (0 : Int32).toInt = 0 := by decide
              have y_40 : (40 : Int32).toInt = 40 := by decide
              have y_1 : (1 : Int32).toInt = 1 := by decide
              have t_x_168 : x_168.toInt = (vy_36 : Int32).toInt + (1 : Int32).toInt := by rw [ex_168]; exact add_toInt (by omega) (by omega)
              omega
            have hr_173 : 1 ≤ (vy_36 : Int32).toInt ∧ (vy_36 : Int32).toInt ≤ 40 := by
              have z_1 := Int32.le_iff_toInt_le.mp (Int32.not_lt.mp c_65)
              have z_2 : ¬ (vy_36 : Int32).toInt = (0 : Int32).toInt := fun z => c_78 (Int32.toInt_inj.mp z)
              have z_3 : ¬ (r_117 : Int32).toInt = (0 : Int32).toInt := fun z => c_122 (Int32.toInt_inj.mp z)
              have y_0 : (0 : Int32).toInt = 0 := by decide
              have y_40 : (40 : Int32).toInt = 40 := by decide
              omega
            exact ih_51 x_168 sv_149 sv_150 sv_151 sv_152 sv_153 sv_154 sv_155 sv_156 sv_157 sv_158 sv_159 sv_160 sv_161 _ _ _ (by omega) ha_170 pf_162 pf_163 (BcL.nextS h_tape.2.1 hr_173 (ero_62 ▸ pf_138) pf_61 hu_171 pf_165 hi_172) (hP.sub [0, 1, 2, 3, 4, 5, 6, 7, 8, 9, 10, 11] rfl) (hD.sub [0, 1, 2, 3, 4, 5, 6, 7, 8, 9, 10, 11] rfl rfl) hS (lv_sub hl [0, 1, 2] rfl)
  have ha_174 : 0 ≤ (0 : Int32).toInt ∧ (0 : Int32).toInt ≤ 41 := by
    have y_0 : (0 : Int32).toInt = 0 := by decide
    omega
  have ha_175 : 0 ≤ (0 : Int32).toInt ∧ (0 : Int32).toInt ≤ 6 := by
    have y_0 : (0 : Int32).toInt = 0 := by decide
    omega
  have hu_176 : TpR (Tf 1) (Tv 0) (rSK (cB (Tf 1) (Tv 0)) (.ok (0, 0))) sv_15 sv_16 sv_17 0 := by
    rw [← ero_20]
    exact pf_19
  have hr_177 : (0 : Int32).toInt = 0 := by
    have y_0 : (0 : Int32).toInt = 0 := by decide
    omega
  have hr_178 : (0 : Int32).toInt = 0 := by
    have y_0 : (0 : Int32).toInt = 0 := by decide
    omega
  have hr_179 : (0 : Int32).toInt = 0 := by
    have y_0 : (0 : Int32).toInt = 0 := by decide
    omega
  exact loop_52 _ 0 0 0 0 0 sv_4 sv_5 sv_6 sv_7 sv_8 sv_15 sv_16 sv_17 0 _ _ _ (Nat.lt_succ_self _) ha_174 pf_18 ha_175 (BcL.start hu_176 hr_177 hr_178 hr_179) hP hD hS hl
set_option maxRecDepth 100000 in
theorem cu_fX0_read (l : Launch) (D : va_G) (tc : Nat → ClassId) (sk : (Nat → Nat) × (Nat → Nat)) (Wa_0 : Nat) (Aa_0 : Nat) (Aa_1 : Nat) (Aa_2 : Nat) (Aa_3 : Nat) (Aa_4 : Nat) (Aa_5 : Nat) (Aa_6 : Nat) (Aa_7 : Nat) (Aa_8 : Nat) (Av_0 : Int32) (Av_1 : Int32) (Av_2 : Int32) (Av_3 : Int32) (Av_4 : Int32) (Av_5 : Int32) (Af_1 : Nat → Int32) (Af_2 : Nat → Int32) (Af_3 : Nat → Int32) (Af_4 : Nat → Int32) (Af_5 : Nat → Int32) (Af_6 : Nat → Int32) (Af_7 : Nat → Int32) (Af_8 : Nat → Int32) (Ta_0 : Nat) (Ta_1 : Nat) (Tv_0 : Int32) (Tv_1 : Int32) (Tv_2 : Int32) (Tv_3 : Int32) (Tv_4 : Int32) (Tf_1 : Nat → Int32) (h_tape : 0 ≤ (Tv_0 : Int32).toInt ∧ (Tv_0 : Int32).toInt ≤ 400 ∧ 0 ≤ (Tv_1 : Int32).toInt ∧ (Tv_1 : Int32).toInt ≤ 400 ∧ 0 ≤ (Tv_2 : Int32).toInt ∧ (Tv_2 : Int32).toInt ≤ 400) (h_by : Byt Tf_1) (h_bu : 0 ≤ (Av_3 : Int32).toInt ∧ (Av_3 : Int32).toInt ≤ 6) : Ct l yX0_read cX0_read 3 (some .int) { frames := 7, cells := 0, slots := 0, locals := 156 } D tc sk [.ref Wa_0, .ref Ta_0] [(Wa_0, .inr (0, [.ref Aa_0])), (Aa_0, .inr (9, [.int Av_0, .int Av_1, .int Av_2, .int Av_3, .int Av_4, .int Av_5, .ref Aa_1, .ref Aa_2, .ref Aa_3, .ref Aa_4, .ref Aa_5, .ref Aa_6, .ref Aa_7, .ref Aa_8])), (Aa_1, .inl (tc 0, 10, .inl Af_1)), (Aa_2, .inl (tc 0, 10, .inl Af_2)), (Aa_3, .inl (tc 0, 6, .inl Af_3)), (Aa_4, .inl (tc 0, 6, .inl Af_4)), (Aa_5, .inl (tc 0, 6, .inl Af_5)), (Aa_6, .inl (tc 0, 6, .inl Af_6)), (Aa_7, .inl (tc 0, 6, .inl Af_7)), (Aa_8, .inl (tc 0, 6, .inl Af_8)), (Ta_0, .inr (10, [.ref Ta_1, .int Tv_0, .int Tv_1, .int Tv_2, .int Tv_3, .int Tv_4])), (Ta_1, .inl (tc 0, 400, .inl Tf_1))] (fun (v : Option Value) (u : (Int32) × (Int32) × (Int32) × (Int32) × (Nat → Int32) × (Nat → Int32) × (Nat → Int32) × (Nat → Int32) × (Nat → Int32) × (Nat → Int32) × (Nat → Int32) × (Nat → Int32) × (Int32) × (Int32) × (Int32) × (Int32)) => match u with | (oo0x1, oo0x2, oo0x3, oo0x4, oo0x5, oo0x6, oo0x7, oo0x8, oo0x9, oo0x10, oo0x11, oo0x12, oo0x13, oo0x14, oo0x15, oo0x16) => ∃ r : Int32, v = some (.int r) ∧ (BkR (cB Tf_1 Tv_0) r oo0x4) ∧ (0 ≤ (Tv_0 : Int32).toInt ∧ (Tv_0 : Int32).toInt ≤ 400 ∧ 0 ≤ (oo0x13 : Int32).toInt ∧ (oo0x13 : Int32).toInt ≤ 400 ∧ 0 ≤ (oo0x14 : Int32).toInt ∧ (oo0x14 : Int32).toInt ≤ 400) ∧ (0 ≤ (oo0x4 : Int32).toInt ∧ (oo0x4 : Int32).toInt ≤ 6)) (fun (u : (Int32) × (Int32) × (Int32) × (Int32) × (Nat → Int32) × (Nat → Int32) × (Nat → Int32) × (Nat → Int32) × (Nat → Int32) × (Nat → Int32) × (Nat → Int32) × (Nat → Int32) × (Int32) × (Int32) × (Int32) × (Int32)) => match u with | (oo0x1, oo0x2, oo0x3, oo0x4, oo0x5, oo0x6, oo0x7, oo0x8, oo0x9, oo0x10, oo0x11, oo0x12, oo0x13, oo0x14, oo0x15, oo0x16) => [(Wa_0, .inr (0, [.ref Aa_0])), (Aa_0, .inr (9, [.int oo0x1, .int oo0x2, .int oo0x3, .int oo0x4, .int 0, .int 0, .ref Aa_1, .ref Aa_2, .ref Aa_3, .ref Aa_4, .ref Aa_5, .ref Aa_6, .ref Aa_7, .ref Aa_8])), (Aa_1, .inl (tc 0, 10, .inl oo0x5)), (Aa_2, .inl (tc 0, 10, .inl oo0x6)), (Aa_3, .inl (tc 0, 6, .inl oo0x7)), (Aa_4, .inl (tc 0, 6, .inl oo0x8)), (Aa_5, .inl (tc 0, 6, .inl oo0x9)), (Aa_6, .inl (tc 0, 6, .inl oo0x10)), (Aa_7, .inl (tc 0, 6, .inl oo0x11)), (Aa_8, .inl (tc 0, 6, .inl oo0x12)), (Ta_0, .inr (10, [.ref Ta_1, .int Tv_0, .int oo0x13, .int oo0x14, .int oo0x15, .int oo0x16])), (Ta_1, .inl (tc 0, 400, .inl Tf_1))]) 0 0 :=
  ct_fX0_read l D tc sk (fun k => ([Wa_0] : List (Nat)).getD k 0) (fun k => ([Aa_0, Aa_1, Aa_2, Aa_3, Aa_4, Aa_5, Aa_6, Aa_7, Aa_8] : List (Nat)).getD k 0) (fun k => ([Av_0, Av_1, Av_2, Av_3, Av_4, Av_5] : List (Int32)).getD k 0) (fun k => ([(fun _ => 0), Af_1, Af_2, Af_3, Af_4, Af_5, Af_6, Af_7, Af_8] : List (Nat → Int32)).getD k (fun _ => 0)) (fun k => ([Ta_0, Ta_1] : List (Nat)).getD k 0) (fun k => ([Tv_0, Tv_1, Tv_2, Tv_3, Tv_4] : List (Int32)).getD k 0) (fun k => ([(fun _ => 0), Tf_1] : List (Nat → Int32)).getD k (fun _ => 0)) h_tape h_by h_bu
