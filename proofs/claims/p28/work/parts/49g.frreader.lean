set_option maxHeartbeats 4000000 in
set_option maxRecDepth 100000 in
theorem ct_fX7_put (l : Launch) (D : va_G) (tc : Nat → ClassId) (sk : (Nat → Nat) × (Nat → Nat)) (Va : Nat → Nat) (Vv : Nat → Int32) (Vf : Nat → Nat → Int32) (x1 : Int32) (h_u : 0 ≤ ((Vv 0) : Int32).toInt ∧ ((Vv 0) : Int32).toInt ≤ 400) : Ct l yX7_put cX7_put 2 none { frames := 0, cells := 0, slots := 0, locals := 0 } D tc sk [.ref (Va 0), .int x1] [((Va 0), .inr (7, [.ref (Va 1), .int (Vv 0), .int (Vv 1)])), ((Va 1), .inl (tc 0, 400, .inl (Vf 1)))] (fun (v : Option Value) (u : (Int32) × (Nat → Int32)) => match u with | (oo0x1, oo0x2) => v = none ∧ (0 ≤ (oo0x1 : Int32).toInt ∧ (oo0x1 : Int32).toInt ≤ 400)) (fun (u : (Int32) × (Nat → Int32)) => match u with | (oo0x1, oo0x2) => [((Va 0), .inr (7, [.ref (Va 1), .int oo0x1, .int (Vv 1)])), ((Va 1), .inl (tc 0, 400, .inl oo0x2))]) 0 0 := by
  refine Ct.start (by decide) (Nat.le_of_ble_eq_true rfl) (fun p e s m below meth c A ls hx hb hr hlk hin hml hown hts hK hX hP hD hA hl hS => ?_)
  have hl : lv_has ls 2 [(0, .ref (Va 0)), (1, .int x1)] := hl
  refine lv_aload_n hx hb dX7_put_0 rfl (lv_at hl 0 rfl) ?_
  refine gf_X7_15 hx hb hts hown hK hP 0 rfl rfl dX7_put_1 ?_
  refine lv_if_lt (tgt := 39) hx hb dX7_put_4 (by decide) (fun c_1 => ?_) (fun c_1 => ?_)
  · skip
    exact retV hx hb hr hlk hP hD hS ((Vv 0), (Vf 1)) ⟨rfl, h_u⟩ [0, 1] rfl rfl dX7_put_39 (Nat.le_of_ble_eq_true rfl) (Nat.le_of_ble_eq_true rfl) rfl
  · skip
    refine lv_aload_n hx hb dX7_put_7 rfl (lv_at hl 0 rfl) ?_
    refine gf_X7_15 hx hb hts hown hK hP 0 rfl rfl dX7_put_8 ?_
    refine lv_aload_n hx hb dX7_put_11 rfl (lv_at hl 0 rfl) ?_
    refine gf_X7_9 hx hb hts hown hK hP 0 rfl rfl dX7_put_12 ?_
    refine va_alen hx hb hK hP 1 0 rfl rfl (v := 400) rfl dX7_put_15 ?_
    refine lv_icmp_ge (tgt := 39) hx hb dX7_put_16 (by decide) (fun c_2 => ?_) (fun c_2 => ?_)
    · skip
      exact retV hx hb hr hlk hP hD hS ((Vv 0), (Vf 1)) ⟨rfl, h_u⟩ [0, 1] rfl rfl dX7_put_39 (Nat.le_of_ble_eq_true rfl) (Nat.le_of_ble_eq_true rfl) rfl
    · skip
      refine lv_aload_n hx hb dX7_put_19 rfl (lv_at hl 0 rfl) ?_
      refine gf_X7_9 hx hb hts hown hK hP 0 rfl rfl dX7_put_20 ?_
      refine lv_aload_n hx hb dX7_put_23 rfl (lv_at hl 0 rfl) ?_
      refine gf_X7_15 hx hb hts hown hK hP 0 rfl rfl dX7_put_24 ?_
      refine lv_iload_n hx hb dX7_put_27 rfl (lv_at hl 1 rfl) ?_
      have hi_3 : vp_in (Vv 0) 400 := by
        have z_1 := Int32.le_iff_toInt_le.mp (Int32.not_lt.mp c_1)
        have z_2 := Int32.lt_iff_toInt_lt.mp (Int32.not_le.mp c_2)
        have y_0 : (0 : Int32).toInt = 0 := by decide
        have y_400 : (400 : Int32).toInt = 400 := by decide
        refine vp_in_iff.mpr ⟨?_, ?_⟩ <;> omega
      refine st_int hx hb hK hP hD hS 1 0 rfl rfl hi_3 dX7_put_28 (fun g_4 H locs eg_4 hP₀ hD₀ hS₀ => ?_)
      replace hP : va_P D classes [((Va 0), .inr (7, [.ref (Va 1), .int (Vv 0), .int (Vv 1)])), ((Va 1), .inl (tc 0, 400, .inl g_4))] H := hP₀
      replace hD : va_D A [((Va 0), .inr (7, [.ref (Va 1), .int (Vv 0), .int (Vv 1)])), ((Va 1), .inl (tc 0, 400, .inl g_4))] := hD₀
      replace hS := hS₀
      clear hP₀ hD₀ hS₀
      refine lv_aload_n hx hb dX7_put_29 rfl (lv_at hl 0 rfl) ?_
      refine lv_dup hx hb dX7_put_30 rfl ?_
      refine gf_X7_15 hx hb hts hown hK hP 0 rfl rfl dX7_put_31 ?_
      refine lv_iconst (v := 1) hx hb dX7_put_34 (by decide) ?_
      refine lv_iadd hx hb dX7_put_35 ?_
      refine lv_topi (fun x_5 ex_5 => ?_)
      refine pf_X7_15 hx hb hts hown hK hP hD hS 0 rfl (Nat.le_of_ble_eq_true rfl) rfl rfl dX7_put_36 (fun H locs hP₀ hD₀ hS₀ => ?_)
      replace hP : va_P D classes [((Va 0), .inr (7, [.ref (Va 1), .int x_5, .int (Vv 1)])), ((Va 1), .inl (tc 0, 400, .inl g_4))] H := hP₀
      replace hD : va_D A [((Va 0), .inr (7, [.ref (Va 1), .int x_5, .int (Vv 1)])), ((Va 1), .inl (tc 0, 400, .inl g_4))] := hD₀
      replace hS := hS₀
      clear hP₀ hD₀ hS₀
      have ha_6 : 0 ≤ (x_5 : Int32).toInt ∧ (x_5 : Int32).toInt ≤ 400 := by
        have z_1 := Int32.le_iff_toInt_le.mp (Int32.not_lt.mp c_1)
        have z_2 := Int32.lt_iff_toInt_lt.mp (Int32.not_le.mp c_2)
        have y_0 : (0 : Int32).toInt = 0 := by decide
        have y_400 : (400 : Int32).toInt = 400 := by decide
        have y_1 : (1 : Int32).toInt = 1 := by decide
        have t_x_5 : x_5.toInt = ((Vv 0) : Int32).toInt + (1 : Int32).toInt := by rw [ex_5]; exact add_toInt (by omega) (by omega)
        omega
      exact retV hx hb hr hlk hP hD hS (x_5, g_4) ⟨rfl, ha_6⟩ [0, 1] rfl rfl dX7_put_39 (Nat.le_of_ble_eq_true rfl) (Nat.le_of_ble_eq_true rfl) rfl
set_option maxRecDepth 100000 in
theorem cu_fX7_put (l : Launch) (D : va_G) (tc : Nat → ClassId) (sk : (Nat → Nat) × (Nat → Nat)) (Va_0 : Nat) (Va_1 : Nat) (Vv_0 : Int32) (Vv_1 : Int32) (Vf_1 : Nat → Int32) (x1 : Int32) (h_u : 0 ≤ (Vv_0 : Int32).toInt ∧ (Vv_0 : Int32).toInt ≤ 400) : Ct l yX7_put cX7_put 2 none { frames := 0, cells := 0, slots := 0, locals := 0 } D tc sk [.ref Va_0, .int x1] [(Va_0, .inr (7, [.ref Va_1, .int Vv_0, .int Vv_1])), (Va_1, .inl (tc 0, 400, .inl Vf_1))] (fun (v : Option Value) (u : (Int32) × (Nat → Int32)) => match u with | (oo0x1, oo0x2) => v = none ∧ (0 ≤ (oo0x1 : Int32).toInt ∧ (oo0x1 : Int32).toInt ≤ 400)) (fun (u : (Int32) × (Nat → Int32)) => match u with | (oo0x1, oo0x2) => [(Va_0, .inr (7, [.ref Va_1, .int oo0x1, .int Vv_1])), (Va_1, .inl (tc 0, 400, .inl oo0x2))]) 0 0 :=
  ct_fX7_put l D tc sk (fun k => ([Va_0, Va_1] : List (Nat)).getD k 0) (fun k => ([Vv_0, Vv_1] : List (Int32)).getD k 0) (fun k => ([(fun _ => 0), Vf_1] : List (Nat → Int32)).getD k (fun _ => 0)) x1 h_u
set_option maxHeartbeats 4000000 in
set_option maxRecDepth 100000 in
theorem ct_fX7_countOne (l : Launch) (D : va_G) (tc : Nat → ClassId) (sk : (Nat → Nat) × (Nat → Nat)) (Va : Nat → Nat) (Vv : Nat → Int32) (Vf : Nat → Nat → Int32) (Ta : Nat → Nat) (Tv : Nat → Int32) (Tf : Nat → Nat → Int32) (rr : Except Int (Nat × Nat)) (h_tape : 0 ≤ ((Tv 0) : Int32).toInt ∧ ((Tv 0) : Int32).toInt ≤ 400 ∧ 0 ≤ ((Tv 1) : Int32).toInt ∧ ((Tv 1) : Int32).toInt ≤ 400 ∧ 0 ≤ ((Tv 2) : Int32).toInt ∧ ((Tv 2) : Int32).toInt ≤ 400) (h_u : 0 ≤ ((Vv 0) : Int32).toInt ∧ ((Vv 0) : Int32).toInt ≤ 400) (h_by : Byt (Tf 1)) (h_r : TpR (Tf 1) (Tv 0) rr (Tv 1) (Tv 2) (Tv 3) (Tv 4)) (h_ct : Ctd rr (Vv 1)) : Ct l yX7_countOne cX7_countOne 2 none { frames := 1, cells := 0, slots := 0, locals := 21 } D tc sk [.ref (Va 0), .ref (Ta 0)] [((Va 0), .inr (7, [.ref (Va 1), .int (Vv 0), .int (Vv 1)])), ((Va 1), .inl (tc 0, 400, .inl (Vf 1))), ((Ta 0), .inr (10, [.ref (Ta 1), .int (Tv 0), .int (Tv 1), .int (Tv 2), .int (Tv 3), .int (Tv 4)])), ((Ta 1), .inl (tc 0, 400, .inl (Tf 1)))] (fun (v : Option Value) (u : (Int32) × (Int32) × (Int32)) => match u with | (oo0x1, oo0x2, oo0x3) => v = none ∧ (0 ≤ ((Tv 0) : Int32).toInt ∧ ((Tv 0) : Int32).toInt ≤ 400 ∧ 0 ≤ ((Tv 1) : Int32).toInt ∧ ((Tv 1) : Int32).toInt ≤ 400 ∧ 0 ≤ ((Tv 2) : Int32).toInt ∧ ((Tv 2) : Int32).toInt ≤ 400) ∧ (0 ≤ ((Vv 0) : Int32).toInt ∧ ((Vv 0) : Int32).toInt ≤ 400) ∧ (TpR (Tf 1) (Tv 0) (rC1 rr) (Tv 1) (Tv 2) oo0x2 oo0x3) ∧ (Ctd (rC1 rr) oo0x1)) (fun (u : (Int32) × (Int32) × (Int32)) => match u with | (oo0x1, oo0x2, oo0x3) => [((Va 0), .inr (7, [.ref (Va 1), .int (Vv 0), .int oo0x1])), ((Va 1), .inl (tc 0, 400, .inl (Vf 1))), ((Ta 0), .inr (10, [.ref (Ta 1), .int (Tv 0), .int (Tv 1), .int (Tv 2), .int oo0x2, .int oo0x3])), ((Ta 1), .inl (tc 0, 400, .inl (Tf 1)))]) 0 0 := by
  refine Ct.start (by decide) (Nat.le_of_ble_eq_true rfl) (fun p e s m below meth c A ls hx hb hr hlk hin hml hown hts hK hX hP hD hA hl hS => ?_)
  have hl : lv_has ls 2 [(0, .ref (Va 0)), (1, .ref (Ta 0))] := hl
  have tb_1 : TpB (rTE (cB (Tf 1) (Tv 0)) rr) (Tv 2) (Tv 4) := TpR.tb h_r
  refine lv_aload_n hx hb dX7_countOne_0 rfl (lv_at hl 0 rfl) ?_
  refine gf_X7_19 hx hb hts hown hK hP 0 rfl rfl dX7_countOne_1 ?_
  refine lv_bipush (v := 60) hx hb dX7_countOne_4 (by decide) ?_
  refine lv_icmp_lt (tgt := 14) hx hb dX7_countOne_6 (by decide) (fun c_2 => ?_) (fun c_2 => ?_)
  · skip
    refine lv_aload_n hx hb dX7_countOne_14 rfl (lv_at hl 0 rfl) ?_
    refine lv_dup hx hb dX7_countOne_15 rfl ?_
    refine gf_X7_19 hx hb hts hown hK hP 0 rfl rfl dX7_countOne_16 ?_
    refine lv_iconst (v := 1) hx hb dX7_countOne_19 (by decide) ?_
    refine lv_iadd hx hb dX7_countOne_20 ?_
    refine lv_topi (fun x_3 ex_3 => ?_)
    refine pf_X7_19 hx hb hts hown hK hP hD hS 0 rfl (Nat.le_of_ble_eq_true rfl) rfl rfl dX7_countOne_21 (fun H locs hP₀ hD₀ hS₀ => ?_)
    replace hP : va_P D classes [((Va 0), .inr (7, [.ref (Va 1), .int (Vv 0), .int x_3])), ((Va 1), .inl (tc 0, 400, .inl (Vf 1))), ((Ta 0), .inr (10, [.ref (Ta 1), .int (Tv 0), .int (Tv 1), .int (Tv 2), .int (Tv 3), .int (Tv 4)])), ((Ta 1), .inl (tc 0, 400, .inl (Tf 1)))] H := hP₀
    replace hD : va_D A [((Va 0), .inr (7, [.ref (Va 1), .int (Vv 0), .int x_3])), ((Va 1), .inl (tc 0, 400, .inl (Vf 1))), ((Ta 0), .inr (10, [.ref (Ta 1), .int (Tv 0), .int (Tv 1), .int (Tv 2), .int (Tv 3), .int (Tv 4)])), ((Ta 1), .inl (tc 0, 400, .inl (Tf 1)))] := hD₀
    replace hS := hS₀
    clear hP₀ hD₀ hS₀
    have hr_4 : (Vv 1).toInt < 60 := by
      have z_1 := Int32.lt_iff_toInt_lt.mp c_2
      have y_60 : (60 : Int32).toInt = 60 := by decide
      omega
    have hc_5 : (Vv 1).toInt < 60 → (x_3 : Int32).toInt = (Vv 1).toInt + 1 := by
      intro z
      have y_1 : (1 : Int32).toInt = 1 := by decide
      have yl := (Vv 1).le_toInt
      rw [ex_3, add_toInt (by omega) (by omega)]
      omega
    exact retV hx hb hr hlk hP hD hS (x_3, (Tv 3), (Tv 4)) ⟨rfl, h_tape, h_u, (TpR.c1 h_r h_ct hr_4), (Ctd.c1 h_ct hc_5)⟩ [0, 1, 2, 3] rfl rfl dX7_countOne_24 (Nat.le_of_ble_eq_true rfl) (Nat.le_of_ble_eq_true rfl) rfl
  · skip
    refine lv_aload_n hx hb dX7_countOne_9 rfl (lv_at hl 1 rfl) ?_
    refine lv_iconst (v := 3) hx hb dX7_countOne_10 (by decide) ?_
    have ha_6 : 0 ≤ (3 : Int32).toInt ∧ (3 : Int32).toInt ≤ 4 := by
      have z_1 := Int32.le_iff_toInt_le.mp (Int32.not_lt.mp c_2)
      have y_60 : (60 : Int32).toInt = 60 := by decide
      have y_3 : (3 : Int32).toInt = 3 := by decide
      omega
    have ha_7 : (3 : Int32).toInt = (3 : Int) := by
      have z_1 := Int32.le_iff_toInt_le.mp (Int32.not_lt.mp c_2)
      have y_60 : (60 : Int32).toInt = 60 := by decide
      have y_3 : (3 : Int32).toInt = 3 := by decide
      omega
    refine cV (a := (Ta 0)) (As := [.int 3]) (rest := []) (wr := [((Va 0), .inr (7, [.ref (Va 1), .int (Vv 0), .int (Vv 1)])), ((Va 1), .inl (tc 0, 400, .inl (Vf 1)))]) ⟨hx, hb, hml, hown, hts⟩ hK hX hA (cu_fX10_fail l D tc sk (Ta 0) (Ta 1) (Tv 0) (Tv 1) (Tv 2) (Tv 3) (Tv 4) (Tf 1) 3 rr 3 h_tape h_r ha_6 ha_7) k_557 k_619 k_555 k_556 k_96 pl_X10_fail ⟨Nat.le_of_ble_eq_true rfl, Nat.le_of_ble_eq_true rfl⟩ rfl rfl (va_recv hK hP (ci := 10) (q0 := 2) rfl rfl) hP hD hS [2, 3] [0, 1] rfl rfl rfl rfl rfl (by decide) rfl hl.1 rfl (Nat.le_of_ble_eq_true rfl) dX7_countOne_11 ⟨Nat.le_of_ble_eq_true rfl, Nat.le_of_ble_eq_true rfl⟩ (fun v_8 u_9 H locs hv_10 hP₀ hD₀ hS₀ => ?_)
    obtain ⟨sv_11, sv_12⟩ := u_9
    obtain ⟨rfl, pf_13, pf_14⟩ := hv_10
    have pf_13 : 0 ≤ ((Tv 0) : Int32).toInt ∧ ((Tv 0) : Int32).toInt ≤ 400 ∧ 0 ≤ ((Tv 1) : Int32).toInt ∧ ((Tv 1) : Int32).toInt ≤ 400 ∧ 0 ≤ ((Tv 2) : Int32).toInt ∧ ((Tv 2) : Int32).toInt ≤ 400 := pf_13
    have pf_14 : TpR (Tf 1) (Tv 0) (rER (3 : Int) rr) (Tv 1) (Tv 2) sv_11 sv_12 := pf_14
    obtain ⟨ro_15, ero_15⟩ : ∃ z : Except Int (Nat × Nat), z = (rER 3 rr) := ⟨_, rfl⟩
    rw [← ero_15] at pf_14
    have tb_16 : TpB (rTE (cB (Tf 1) (Tv 0)) ro_15) (Tv 2) sv_12 := TpR.tb pf_14
    have cd_17 : Ctd ro_15 (Vv 1) := by rw [ero_15]; exact (Ctd.er)
    refine W.eq (g2 := F0 m 14 ls []) rfl ?_
    replace hP : va_P D classes [((Va 0), .inr (7, [.ref (Va 1), .int (Vv 0), .int (Vv 1)])), ((Va 1), .inl (tc 0, 400, .inl (Vf 1))), ((Ta 0), .inr (10, [.ref (Ta 1), .int (Tv 0), .int (Tv 1), .int (Tv 2), .int sv_11, .int sv_12])), ((Ta 1), .inl (tc 0, 400, .inl (Tf 1)))] H := hP₀
    replace hD : va_D A [((Va 0), .inr (7, [.ref (Va 1), .int (Vv 0), .int (Vv 1)])), ((Va 1), .inl (tc 0, 400, .inl (Vf 1))), ((Ta 0), .inr (10, [.ref (Ta 1), .int (Tv 0), .int (Tv 1), .int (Tv 2), .int sv_11, .int sv_12])), ((Ta 1), .inl (tc 0, 400, .inl (Tf 1)))] := hD₀
    replace hS := hS₀
    clear hP₀ hD₀ hS₀
    refine lv_aload_n hx hb dX7_countOne_14 rfl (lv_at hl 0 rfl) ?_
    refine lv_dup hx hb dX7_countOne_15 rfl ?_
    refine gf_X7_19 hx hb hts hown hK hP 0 rfl rfl dX7_countOne_16 ?_
    refine lv_iconst (v := 1) hx hb dX7_countOne_19 (by decide) ?_
    refine lv_iadd hx hb dX7_countOne_20 ?_
    refine lv_topi (fun x_18 ex_18 => ?_)
    refine pf_X7_19 hx hb hts hown hK hP hD hS 0 rfl (Nat.le_of_ble_eq_true rfl) rfl rfl dX7_countOne_21 (fun H locs hP₀ hD₀ hS₀ => ?_)
    replace hP : va_P D classes [((Va 0), .inr (7, [.ref (Va 1), .int (Vv 0), .int x_18])), ((Va 1), .inl (tc 0, 400, .inl (Vf 1))), ((Ta 0), .inr (10, [.ref (Ta 1), .int (Tv 0), .int (Tv 1), .int (Tv 2), .int sv_11, .int sv_12])), ((Ta 1), .inl (tc 0, 400, .inl (Tf 1)))] H := hP₀
    replace hD : va_D A [((Va 0), .inr (7, [.ref (Va 1), .int (Vv 0), .int x_18])), ((Va 1), .inl (tc 0, 400, .inl (Vf 1))), ((Ta 0), .inr (10, [.ref (Ta 1), .int (Tv 0), .int (Tv 1), .int (Tv 2), .int sv_11, .int sv_12])), ((Ta 1), .inl (tc 0, 400, .inl (Tf 1)))] := hD₀
    replace hS := hS₀
    clear hP₀ hD₀ hS₀
    have hr_19 : 60 ≤ (Vv 1).toInt := by
      have z_1 := Int32.le_iff_toInt_le.mp (Int32.not_lt.mp c_2)
      have y_60 : (60 : Int32).toInt = 60 := by decide
      omega
    have hf_20 : TpR (Tf 1) (Tv 0) (rC1 rr) (Tv 1) (Tv 2) sv_11 sv_12 := by
      have hE_21 : (rC1 rr) = ro_15 := by
        rw [ero_15]
        exact (rC1_hi h_ct hr_19)
      rw [hE_21]
      exact pf_14
    have hc_22 : (Vv 1).toInt < 60 → (x_18 : Int32).toInt = (Vv 1).toInt + 1 := by
      intro z
      have y_1 : (1 : Int32).toInt = 1 := by decide
      have yl := (Vv 1).le_toInt
      rw [ex_18, add_toInt (by omega) (by omega)]
      omega
    exact retV hx hb hr hlk hP hD hS (x_18, sv_11, sv_12) ⟨rfl, pf_13, h_u, hf_20, (Ctd.c1 h_ct hc_22)⟩ [0, 1, 2, 3] rfl rfl dX7_countOne_24 (Nat.le_of_ble_eq_true rfl) (Nat.le_of_ble_eq_true rfl) rfl
set_option maxRecDepth 100000 in
theorem cu_fX7_countOne (l : Launch) (D : va_G) (tc : Nat → ClassId) (sk : (Nat → Nat) × (Nat → Nat)) (Va_0 : Nat) (Va_1 : Nat) (Vv_0 : Int32) (Vv_1 : Int32) (Vf_1 : Nat → Int32) (Ta_0 : Nat) (Ta_1 : Nat) (Tv_0 : Int32) (Tv_1 : Int32) (Tv_2 : Int32) (Tv_3 : Int32) (Tv_4 : Int32) (Tf_1 : Nat → Int32) (rr : Except Int (Nat × Nat)) (h_tape : 0 ≤ (Tv_0 : Int32).toInt ∧ (Tv_0 : Int32).toInt ≤ 400 ∧ 0 ≤ (Tv_1 : Int32).toInt ∧ (Tv_1 : Int32).toInt ≤ 400 ∧ 0 ≤ (Tv_2 : Int32).toInt ∧ (Tv_2 : Int32).toInt ≤ 400) (h_u : 0 ≤ (Vv_0 : Int32).toInt ∧ (Vv_0 : Int32).toInt ≤ 400) (h_by : Byt Tf_1) (h_r : TpR Tf_1 Tv_0 rr Tv_1 Tv_2 Tv_3 Tv_4) (h_ct : Ctd rr Vv_1) : Ct l yX7_countOne cX7_countOne 2 none { frames := 1, cells := 0, slots := 0, locals := 21 } D tc sk [.ref Va_0, .ref Ta_0] [(Va_0, .inr (7, [.ref Va_1, .int Vv_0, .int Vv_1])), (Va_1, .inl (tc 0, 400, .inl Vf_1)), (Ta_0, .inr (10, [.ref Ta_1, .int Tv_0, .int Tv_1, .int Tv_2, .int Tv_3, .int Tv_4])), (Ta_1, .inl (tc 0, 400, .inl Tf_1))] (fun (v : Option Value) (u : (Int32) × (Int32) × (Int32)) => match u with | (oo0x1, oo0x2, oo0x3) => v = none ∧ (0 ≤ (Tv_0 : Int32).toInt ∧ (Tv_0 : Int32).toInt ≤ 400 ∧ 0 ≤ (Tv_1 : Int32).toInt ∧ (Tv_1 : Int32).toInt ≤ 400 ∧ 0 ≤ (Tv_2 : Int32).toInt ∧ (Tv_2 : Int32).toInt ≤ 400) ∧ (0 ≤ (Vv_0 : Int32).toInt ∧ (Vv_0 : Int32).toInt ≤ 400) ∧ (TpR Tf_1 Tv_0 (rC1 rr) Tv_1 Tv_2 oo0x2 oo0x3) ∧ (Ctd (rC1 rr) oo0x1)) (fun (u : (Int32) × (Int32) × (Int32)) => match u with | (oo0x1, oo0x2, oo0x3) => [(Va_0, .inr (7, [.ref Va_1, .int Vv_0, .int oo0x1])), (Va_1, .inl (tc 0, 400, .inl Vf_1)), (Ta_0, .inr (10, [.ref Ta_1, .int Tv_0, .int Tv_1, .int Tv_2, .int oo0x2, .int oo0x3])), (Ta_1, .inl (tc 0, 400, .inl Tf_1))]) 0 0 :=
  ct_fX7_countOne l D tc sk (fun k => ([Va_0, Va_1] : List (Nat)).getD k 0) (fun k => ([Vv_0, Vv_1] : List (Int32)).getD k 0) (fun k => ([(fun _ => 0), Vf_1] : List (Nat → Int32)).getD k (fun _ => 0)) (fun k => ([Ta_0, Ta_1] : List (Nat)).getD k 0) (fun k => ([Tv_0, Tv_1, Tv_2, Tv_3, Tv_4] : List (Int32)).getD k 0) (fun k => ([(fun _ => 0), Tf_1] : List (Nat → Int32)).getD k (fun _ => 0)) rr h_tape h_u h_by h_r h_ct
set_option maxHeartbeats 4000000 in
set_option maxRecDepth 100000 in
theorem ct_fX7_arithmetic (l : Launch) (D : va_G) (tc : Nat → ClassId) (sk : (Nat → Nat) × (Nat → Nat)) (Ta : Nat → Nat) (Tv : Nat → Int32) (Tf : Nat → Nat → Int32) (h_tape : 0 ≤ ((Tv 0) : Int32).toInt ∧ ((Tv 0) : Int32).toInt ≤ 400 ∧ 0 ≤ ((Tv 1) : Int32).toInt ∧ ((Tv 1) : Int32).toInt ≤ 400 ∧ 0 ≤ ((Tv 2) : Int32).toInt ∧ ((Tv 2) : Int32).toInt ≤ 400) : Ct l yX7_arithmetic cX7_arithmetic 1 (some .int) { frames := 0, cells := 0, slots := 0, locals := 0 } D tc sk [.ref (Ta 0)] [((Ta 0), .inr (10, [.ref (Ta 1), .int (Tv 0), .int (Tv 1), .int (Tv 2), .int (Tv 3), .int (Tv 4)])), ((Ta 1), .inl (tc 0, 400, .inl (Tf 1)))] (fun (v : Option Value) (_ : Unit) => ∃ r : Int32, v = some (.int r) ∧ (((r.toInt = -1 ∧ ¬ ((Tv 3).toInt = 43 ∨ (Tv 3).toInt = 45 ∨ (Tv 3).toInt = 42 ∨ (Tv 3).toInt = 47 ∨ (Tv 3).toInt = 37)) ∨ (r.toInt ≤ -12 ∧ ((Tv 3).toInt = 43 ∨ (Tv 3).toInt = 45 ∨ (Tv 3).toInt = 42 ∨ (Tv 3).toInt = 47 ∨ (Tv 3).toInt = 37))))) (fun (_ : Unit) => [((Ta 0), .inr (10, [.ref (Ta 1), .int (Tv 0), .int (Tv 1), .int (Tv 2), .int (Tv 3), .int (Tv 4)])), ((Ta 1), .inl (tc 0, 400, .inl (Tf 1)))]) 0 0 := by
  refine Ct.start (by decide) (Nat.le_of_ble_eq_true rfl) (fun p e s m below meth c A ls hx hb hr hlk hin hml hown hts hK hX hP hD hA hl hS => ?_)
  have hl : lv_has ls 1 [(0, .ref (Ta 0))] := hl
  refine lv_aload_n hx hb dX7_arithmetic_0 rfl (lv_at hl 0 rfl) ?_
  refine gf_X7_86 hx hb hts hown hK hP 0 rfl rfl dX7_arithmetic_1 ?_
  refine lv_topi (fun x_1 ex_1 => ?_)
  by_cases c_2 : x_1 = 37
  · skip
    subst c_2
    have sw_c_2 := congrArg Int32.toInt ex_1
    have swy_c_2 : (37 : Int32).toInt = 37 := by decide
    refine lv_tableIn (off := 72) (tgt := 76) hx hb dX7_arithmetic_4 (by decide) (by decide) (by decide) (by decide) ?_
    refine lv_bipush (v := (-16)) hx hb dX7_arithmetic_76 (by decide) ?_
    have hp_3 : ((((-16) : Int32).toInt = -1 ∧ ¬ ((Tv 3).toInt = 43 ∨ (Tv 3).toInt = 45 ∨ (Tv 3).toInt = 42 ∨ (Tv 3).toInt = 47 ∨ (Tv 3).toInt = 37)) ∨ (((-16) : Int32).toInt ≤ -12 ∧ ((Tv 3).toInt = 43 ∨ (Tv 3).toInt = 45 ∨ (Tv 3).toInt = 42 ∨ (Tv 3).toInt = 47 ∨ (Tv 3).toInt = 37))) := by
      have y_m16 : (-16 : Int32).toInt = -16 := by decide
      have yr : (-16 : Int32).toInt = -16 := by decide
      omega
    exact retI (v := (-16)) hx hb hr hlk (rfl) hP hD hS () ⟨_, rfl, hp_3⟩ [0, 1] rfl rfl dX7_arithmetic_78 (Nat.le_of_ble_eq_true rfl) (Nat.le_of_ble_eq_true rfl) rfl
  · skip
    by_cases c_4 : x_1 = 38
    · skip
      subst c_4
      have sw_c_4 := congrArg Int32.toInt ex_1
      have swy_c_4 : (38 : Int32).toInt = 38 := by decide
      refine lv_tableIn (off := 75) (tgt := 79) hx hb dX7_arithmetic_4 (by decide) (by decide) (by decide) (by decide) ?_
      refine lv_iconst (v := (-1)) hx hb dX7_arithmetic_79 (by decide) ?_
      have hp_5 : ((((-1) : Int32).toInt = -1 ∧ ¬ ((Tv 3).toInt = 43 ∨ (Tv 3).toInt = 45 ∨ (Tv 3).toInt = 42 ∨ (Tv 3).toInt = 47 ∨ (Tv 3).toInt = 37)) ∨ (((-1) : Int32).toInt ≤ -12 ∧ ((Tv 3).toInt = 43 ∨ (Tv 3).toInt = 45 ∨ (Tv 3).toInt = 42 ∨ (Tv 3).toInt = 47 ∨ (Tv 3).toInt = 37))) := by
        have y_m1 : (-1 : Int32).toInt = -1 := by decide
        have yr : (-1 : Int32).toInt = -1 := by decide
        omega
      exact retI (v := (-1)) hx hb hr hlk (rfl) hP hD hS () ⟨_, rfl, hp_5⟩ [0, 1] rfl rfl dX7_arithmetic_80 (Nat.le_of_ble_eq_true rfl) (Nat.le_of_ble_eq_true rfl) rfl
    · skip
      by_cases c_6 : x_1 = 39
      · skip
        subst c_6
        have sw_c_6 := congrArg Int32.toInt ex_1
        have swy_c_6 : (39 : Int32).toInt = 39 := by decide
        refine lv_tableIn (off := 75) (tgt := 79) hx hb dX7_arithmetic_4 (by decide) (by decide) (by decide) (by decide) ?_
        refine lv_iconst (v := (-1)) hx hb dX7_arithmetic_79 (by decide) ?_
        have hp_7 : ((((-1) : Int32).toInt = -1 ∧ ¬ ((Tv 3).toInt = 43 ∨ (Tv 3).toInt = 45 ∨ (Tv 3).toInt = 42 ∨ (Tv 3).toInt = 47 ∨ (Tv 3).toInt = 37)) ∨ (((-1) : Int32).toInt ≤ -12 ∧ ((Tv 3).toInt = 43 ∨ (Tv 3).toInt = 45 ∨ (Tv 3).toInt = 42 ∨ (Tv 3).toInt = 47 ∨ (Tv 3).toInt = 37))) := by
          have y_m1 : (-1 : Int32).toInt = -1 := by decide
          have yr : (-1 : Int32).toInt = -1 := by decide
          omega
        exact retI (v := (-1)) hx hb hr hlk (rfl) hP hD hS () ⟨_, rfl, hp_7⟩ [0, 1] rfl rfl dX7_arithmetic_80 (Nat.le_of_ble_eq_true rfl) (Nat.le_of_ble_eq_true rfl) rfl
      · skip
        by_cases c_8 : x_1 = 40
        · skip
          subst c_8
          have sw_c_8 := congrArg Int32.toInt ex_1
          have swy_c_8 : (40 : Int32).toInt = 40 := by decide
          refine lv_tableIn (off := 75) (tgt := 79) hx hb dX7_arithmetic_4 (by decide) (by decide) (by decide) (by decide) ?_
          refine lv_iconst (v := (-1)) hx hb dX7_arithmetic_79 (by decide) ?_
          have hp_9 : ((((-1) : Int32).toInt = -1 ∧ ¬ ((Tv 3).toInt = 43 ∨ (Tv 3).toInt = 45 ∨ (Tv 3).toInt = 42 ∨ (Tv 3).toInt = 47 ∨ (Tv 3).toInt = 37)) ∨ (((-1) : Int32).toInt ≤ -12 ∧ ((Tv 3).toInt = 43 ∨ (Tv 3).toInt = 45 ∨ (Tv 3).toInt = 42 ∨ (Tv 3).toInt = 47 ∨ (Tv 3).toInt = 37))) := by
            have y_m1 : (-1 : Int32).toInt = -1 := by decide
            have yr : (-1 : Int32).toInt = -1 := by decide
            omega
          exact retI (v := (-1)) hx hb hr hlk (rfl) hP hD hS () ⟨_, rfl, hp_9⟩ [0, 1] rfl rfl dX7_arithmetic_80 (Nat.le_of_ble_eq_true rfl) (Nat.le_of_ble_eq_true rfl) rfl
        · skip
          by_cases c_10 : x_1 = 41
          · skip
            subst c_10
            have sw_c_10 := congrArg Int32.toInt ex_1
            have swy_c_10 : (41 : Int32).toInt = 41 := by decide
            refine lv_tableIn (off := 75) (tgt := 79) hx hb dX7_arithmetic_4 (by decide) (by decide) (by decide) (by decide) ?_
            refine lv_iconst (v := (-1)) hx hb dX7_arithmetic_79 (by decide) ?_
            have hp_11 : ((((-1) : Int32).toInt = -1 ∧ ¬ ((Tv 3).toInt = 43 ∨ (Tv 3).toInt = 45 ∨ (Tv 3).toInt = 42 ∨ (Tv 3).toInt = 47 ∨ (Tv 3).toInt = 37)) ∨ (((-1) : Int32).toInt ≤ -12 ∧ ((Tv 3).toInt = 43 ∨ (Tv 3).toInt = 45 ∨ (Tv 3).toInt = 42 ∨ (Tv 3).toInt = 47 ∨ (Tv 3).toInt = 37))) := by
              have y_m1 : (-1 : Int32).toInt = -1 := by decide
              have yr : (-1 : Int32).toInt = -1 := by decide
              omega
            exact retI (v := (-1)) hx hb hr hlk (rfl) hP hD hS () ⟨_, rfl, hp_11⟩ [0, 1] rfl rfl dX7_arithmetic_80 (Nat.le_of_ble_eq_true rfl) (Nat.le_of_ble_eq_true rfl) rfl
          · skip
            by_cases c_12 : x_1 = 42
            · skip
              subst c_12
              have sw_c_12 := congrArg Int32.toInt ex_1
              have swy_c_12 : (42 : Int32).toInt = 42 := by decide
              refine lv_tableIn (off := 66) (tgt := 70) hx hb dX7_arithmetic_4 (by decide) (by decide) (by decide) (by decide) ?_
              refine lv_bipush (v := (-14)) hx hb dX7_arithmetic_70 (by decide) ?_
              have hp_13 : ((((-14) : Int32).toInt = -1 ∧ ¬ ((Tv 3).toInt = 43 ∨ (Tv 3).toInt = 45 ∨ (Tv 3).toInt = 42 ∨ (Tv 3).toInt = 47 ∨ (Tv 3).toInt = 37)) ∨ (((-14) : Int32).toInt ≤ -12 ∧ ((Tv 3).toInt = 43 ∨ (Tv 3).toInt = 45 ∨ (Tv 3).toInt = 42 ∨ (Tv 3).toInt = 47 ∨ (Tv 3).toInt = 37))) := by
                have y_m14 : (-14 : Int32).toInt = -14 := by decide
                have yr : (-14 : Int32).toInt = -14 := by decide
                omega
              exact retI (v := (-14)) hx hb hr hlk (rfl) hP hD hS () ⟨_, rfl, hp_13⟩ [0, 1] rfl rfl dX7_arithmetic_72 (Nat.le_of_ble_eq_true rfl) (Nat.le_of_ble_eq_true rfl) rfl
            · skip
              by_cases c_14 : x_1 = 43
              · skip
                subst c_14
                have sw_c_14 := congrArg Int32.toInt ex_1
                have swy_c_14 : (43 : Int32).toInt = 43 := by decide
                refine lv_tableIn (off := 60) (tgt := 64) hx hb dX7_arithmetic_4 (by decide) (by decide) (by decide) (by decide) ?_
                refine lv_bipush (v := (-12)) hx hb dX7_arithmetic_64 (by decide) ?_
                have hp_15 : ((((-12) : Int32).toInt = -1 ∧ ¬ ((Tv 3).toInt = 43 ∨ (Tv 3).toInt = 45 ∨ (Tv 3).toInt = 42 ∨ (Tv 3).toInt = 47 ∨ (Tv 3).toInt = 37)) ∨ (((-12) : Int32).toInt ≤ -12 ∧ ((Tv 3).toInt = 43 ∨ (Tv 3).toInt = 45 ∨ (Tv 3).toInt = 42 ∨ (Tv 3).toInt = 47 ∨ (Tv 3).toInt = 37))) := by
                  have y_m12 : (-12 : Int32).toInt = -12 := by decide
                  have yr : (-12 : Int32).toInt = -12 := by decide
                  omega
                exact retI (v := (-12)) hx hb hr hlk (rfl) hP hD hS () ⟨_, rfl, hp_15⟩ [0, 1] rfl rfl dX7_arithmetic_66 (Nat.le_of_ble_eq_true rfl) (Nat.le_of_ble_eq_true rfl) rfl
              · skip
                by_cases c_16 : x_1 = 44
                · skip
                  subst c_16
                  have sw_c_16 := congrArg Int32.toInt ex_1
                  have swy_c_16 : (44 : Int32).toInt = 44 := by decide
                  refine lv_tableIn (off := 75) (tgt := 79) hx hb dX7_arithmetic_4 (by decide) (by decide) (by decide) (by decide) ?_
                  refine lv_iconst (v := (-1)) hx hb dX7_arithmetic_79 (by decide) ?_
                  have hp_17 : ((((-1) : Int32).toInt = -1 ∧ ¬ ((Tv 3).toInt = 43 ∨ (Tv 3).toInt = 45 ∨ (Tv 3).toInt = 42 ∨ (Tv 3).toInt = 47 ∨ (Tv 3).toInt = 37)) ∨ (((-1) : Int32).toInt ≤ -12 ∧ ((Tv 3).toInt = 43 ∨ (Tv 3).toInt = 45 ∨ (Tv 3).toInt = 42 ∨ (Tv 3).toInt = 47 ∨ (Tv 3).toInt = 37))) := by
                    have y_m1 : (-1 : Int32).toInt = -1 := by decide
                    have yr : (-1 : Int32).toInt = -1 := by decide
                    omega
                  exact retI (v := (-1)) hx hb hr hlk (rfl) hP hD hS () ⟨_, rfl, hp_17⟩ [0, 1] rfl rfl dX7_arithmetic_80 (Nat.le_of_ble_eq_true rfl) (Nat.le_of_ble_eq_true rfl) rfl
                · skip
                  by_cases c_18 : x_1 = 45
                  · skip
                    subst c_18
                    have sw_c_18 := congrArg Int32.toInt ex_1
                    have swy_c_18 : (45 : Int32).toInt = 45 := by decide
                    refine lv_tableIn (off := 63) (tgt := 67) hx hb dX7_arithmetic_4 (by decide) (by decide) (by decide) (by decide) ?_
                    refine lv_bipush (v := (-13)) hx hb dX7_arithmetic_67 (by decide) ?_
                    have hp_19 : ((((-13) : Int32).toInt = -1 ∧ ¬ ((Tv 3).toInt = 43 ∨ (Tv 3).toInt = 45 ∨ (Tv 3).toInt = 42 ∨ (Tv 3).toInt = 47 ∨ (Tv 3).toInt = 37)) ∨ (((-13) : Int32).toInt ≤ -12 ∧ ((Tv 3).toInt = 43 ∨ (Tv 3).toInt = 45 ∨ (Tv 3).toInt = 42 ∨ (Tv 3).toInt = 47 ∨ (Tv 3).toInt = 37))) := by
                      have y_m13 : (-13 : Int32).toInt = -13 := by decide
                      have yr : (-13 : Int32).toInt = -13 := by decide
                      omega
                    exact retI (v := (-13)) hx hb hr hlk (rfl) hP hD hS () ⟨_, rfl, hp_19⟩ [0, 1] rfl rfl dX7_arithmetic_69 (Nat.le_of_ble_eq_true rfl) (Nat.le_of_ble_eq_true rfl) rfl
                  · skip
                    by_cases c_20 : x_1 = 46
                    · skip
                      subst c_20
                      have sw_c_20 := congrArg Int32.toInt ex_1
                      have swy_c_20 : (46 : Int32).toInt = 46 := by decide
                      refine lv_tableIn (off := 75) (tgt := 79) hx hb dX7_arithmetic_4 (by decide) (by decide) (by decide) (by decide) ?_
                      refine lv_iconst (v := (-1)) hx hb dX7_arithmetic_79 (by decide) ?_
                      have hp_21 : ((((-1) : Int32).toInt = -1 ∧ ¬ ((Tv 3).toInt = 43 ∨ (Tv 3).toInt = 45 ∨ (Tv 3).toInt = 42 ∨ (Tv 3).toInt = 47 ∨ (Tv 3).toInt = 37)) ∨ (((-1) : Int32).toInt ≤ -12 ∧ ((Tv 3).toInt = 43 ∨ (Tv 3).toInt = 45 ∨ (Tv 3).toInt = 42 ∨ (Tv 3).toInt = 47 ∨ (Tv 3).toInt = 37))) := by
                        have y_m1 : (-1 : Int32).toInt = -1 := by decide
                        have yr : (-1 : Int32).toInt = -1 := by decide
                        omega
                      exact retI (v := (-1)) hx hb hr hlk (rfl) hP hD hS () ⟨_, rfl, hp_21⟩ [0, 1] rfl rfl dX7_arithmetic_80 (Nat.le_of_ble_eq_true rfl) (Nat.le_of_ble_eq_true rfl) rfl
                    · skip
                      by_cases c_22 : x_1 = 47
                      · skip
                        subst c_22
                        have sw_c_22 := congrArg Int32.toInt ex_1
                        have swy_c_22 : (47 : Int32).toInt = 47 := by decide
                        refine lv_tableIn (off := 69) (tgt := 73) hx hb dX7_arithmetic_4 (by decide) (by decide) (by decide) (by decide) ?_
                        refine lv_bipush (v := (-15)) hx hb dX7_arithmetic_73 (by decide) ?_
                        have hp_23 : ((((-15) : Int32).toInt = -1 ∧ ¬ ((Tv 3).toInt = 43 ∨ (Tv 3).toInt = 45 ∨ (Tv 3).toInt = 42 ∨ (Tv 3).toInt = 47 ∨ (Tv 3).toInt = 37)) ∨ (((-15) : Int32).toInt ≤ -12 ∧ ((Tv 3).toInt = 43 ∨ (Tv 3).toInt = 45 ∨ (Tv 3).toInt = 42 ∨ (Tv 3).toInt = 47 ∨ (Tv 3).toInt = 37))) := by
                          have y_m15 : (-15 : Int32).toInt = -15 := by decide
                          have yr : (-15 : Int32).toInt = -15 := by decide
                          omega
                        exact retI (v := (-15)) hx hb hr hlk (rfl) hP hD hS () ⟨_, rfl, hp_23⟩ [0, 1] rfl rfl dX7_arithmetic_75 (Nat.le_of_ble_eq_true rfl) (Nat.le_of_ble_eq_true rfl) rfl
                      · skip
                        have swo := congrArg Int32.toInt ex_1
                        have ho_24 : (x_1 : Int32).toInt < 37 ∨ 47 < (x_1 : Int32).toInt := by
                          have z_1 : ¬ (x_1 : Int32).toInt = (37 : Int32).toInt := fun z => c_2 (Int32.toInt_inj.mp z)
                          have z_2 : ¬ (x_1 : Int32).toInt = (38 : Int32).toInt := fun z => c_4 (Int32.toInt_inj.mp z)
                          have z_3 : ¬ (x_1 : Int32).toInt = (39 : Int32).toInt := fun z => c_6 (Int32.toInt_inj.mp z)
                          have z_4 : ¬ (x_1 : Int32).toInt = (40 : Int32).toInt := fun z => c_8 (Int32.toInt_inj.mp z)
                          have z_5 : ¬ (x_1 : Int32).toInt = (41 : Int32).toInt := fun z => c_10 (Int32.toInt_inj.mp z)
                          have z_6 : ¬ (x_1 : Int32).toInt = (42 : Int32).toInt := fun z => c_12 (Int32.toInt_inj.mp z)
                          have z_7 : ¬ (x_1 : Int32).toInt = (43 : Int32).toInt := fun z => c_14 (Int32.toInt_inj.mp z)
                          have z_8 : ¬ (x_1 : Int32).toInt = (44 : Int32).toInt := fun z => c_16 (Int32.toInt_inj.mp z)
                          have z_9 : ¬ (x_1 : Int32).toInt = (45 : Int32).toInt := fun z => c_18 (Int32.toInt_inj.mp z)
                          have z_10 : ¬ (x_1 : Int32).toInt = (46 : Int32).toInt := fun z => c_20 (Int32.toInt_inj.mp z)
                          have z_11 : ¬ (x_1 : Int32).toInt = (47 : Int32).toInt := fun z => c_22 (Int32.toInt_inj.mp z)
                          have y_37 : (37 : Int32).toInt = 37 := by decide
                          have y_38 : (38 : Int32).toInt = 38 := by decide
                          have y_39 : (39 : Int32).toInt = 39 := by decide
                          have y_40 : (40 : Int32).toInt = 40 := by decide
                          have y_41 : (41 : Int32).toInt = 41 := by decide
                          have y_42 : (42 : Int32).toInt = 42 := by decide
                          have y_43 : (43 : Int32).toInt = 43 := by decide
                          have y_44 : (44 : Int32).toInt = 44 := by decide
                          have y_45 : (45 : Int32).toInt = 45 := by decide
                          have y_46 : (46 : Int32).toInt = 46 := by decide
                          have y_47 : (47 : Int32).toInt = 47 := by decide
                          omega
                        refine lv_tableOut (tgt := 79) hx hb dX7_arithmetic_4 ho_24 (by decide) ?_
                        refine lv_iconst (v := (-1)) hx hb dX7_arithmetic_79 (by decide) ?_
                        have hp_25 : ((((-1) : Int32).toInt = -1 ∧ ¬ ((Tv 3).toInt = 43 ∨ (Tv 3).toInt = 45 ∨ (Tv 3).toInt = 42 ∨ (Tv 3).toInt = 47 ∨ (Tv 3).toInt = 37)) ∨ (((-1) : Int32).toInt ≤ -12 ∧ ((Tv 3).toInt = 43 ∨ (Tv 3).toInt = 45 ∨ (Tv 3).toInt = 42 ∨ (Tv 3).toInt = 47 ∨ (Tv 3).toInt = 37))) := by
                          have z_1 : ¬ (x_1 : Int32).toInt = (37 : Int32).toInt := fun z => c_2 (Int32.toInt_inj.mp z)
                          have z_2 : ¬ (x_1 : Int32).toInt = (38 : Int32).toInt := fun z => c_4 (Int32.toInt_inj.mp z)
                          have z_3 : ¬ (x_1 : Int32).toInt = (39 : Int32).toInt := fun z => c_6 (Int32.toInt_inj.mp z)
                          have z_4 : ¬ (x_1 : Int32).toInt = (40 : Int32).toInt := fun z => c_8 (Int32.toInt_inj.mp z)
                          have z_5 : ¬ (x_1 : Int32).toInt = (41 : Int32).toInt := fun z => c_10 (Int32.toInt_inj.mp z)
                          have z_6 : ¬ (x_1 : Int32).toInt = (42 : Int32).toInt := fun z => c_12 (Int32.toInt_inj.mp z)
                          have z_7 : ¬ (x_1 : Int32).toInt = (43 : Int32).toInt := fun z => c_14 (Int32.toInt_inj.mp z)
                          have z_8 : ¬ (x_1 : Int32).toInt = (44 : Int32).toInt := fun z => c_16 (Int32.toInt_inj.mp z)
                          have z_9 : ¬ (x_1 : Int32).toInt = (45 : Int32).toInt := fun z => c_18 (Int32.toInt_inj.mp z)
                          have z_10 : ¬ (x_1 : Int32).toInt = (46 : Int32).toInt := fun z => c_20 (Int32.toInt_inj.mp z)
                          have z_11 : ¬ (x_1 : Int32).toInt = (47 : Int32).toInt := fun z => c_22 (Int32.toInt_inj.mp z)
                          have y_37 : (37 : Int32).toInt = 37 := by decide
                          have y_38 : (38 : Int32).toInt = 38 := by decide
                          have y_39 : (39 : Int32).toInt = 39 := by decide
                          have y_40 : (40 : Int32).toInt = 40 := by decide
                          have y_41 : (41 : Int32).toInt = 41 := by decide
                          have y_42 : (42 : Int32).toInt = 42 := by decide
                          have y_43 : (43 : Int32).toInt = 43 := by decide
                          have y_44 : (44 : Int32).toInt = 44 := by decide
                          have y_45 : (45 : Int32).toInt = 45 := by decide
                          have y_46 : (46 : Int32).toInt = 46 := by decide
                          have y_47 : (47 : Int32).toInt = 47 := by decide
                          have y_m1 : (-1 : Int32).toInt = -1 := by decide
                          have yr : (-1 : Int32).toInt = -1 := by decide
                          omega
                        exact retI (v := (-1)) hx hb hr hlk (rfl) hP hD hS () ⟨_, rfl, hp_25⟩ [0, 1] rfl rfl dX7_arithmetic_80 (Nat.le_of_ble_eq_true rfl) (Nat.le_of_ble_eq_true rfl) rfl
set_option maxRecDepth 100000 in
theorem cu_fX7_arithmetic (l : Launch) (D : va_G) (tc : Nat → ClassId) (sk : (Nat → Nat) × (Nat → Nat)) (Ta_0 : Nat) (Ta_1 : Nat) (Tv_0 : Int32) (Tv_1 : Int32) (Tv_2 : Int32) (Tv_3 : Int32) (Tv_4 : Int32) (Tf_1 : Nat → Int32) (h_tape : 0 ≤ (Tv_0 : Int32).toInt ∧ (Tv_0 : Int32).toInt ≤ 400 ∧ 0 ≤ (Tv_1 : Int32).toInt ∧ (Tv_1 : Int32).toInt ≤ 400 ∧ 0 ≤ (Tv_2 : Int32).toInt ∧ (Tv_2 : Int32).toInt ≤ 400) : Ct l yX7_arithmetic cX7_arithmetic 1 (some .int) { frames := 0, cells := 0, slots := 0, locals := 0 } D tc sk [.ref Ta_0] [(Ta_0, .inr (10, [.ref Ta_1, .int Tv_0, .int Tv_1, .int Tv_2, .int Tv_3, .int Tv_4])), (Ta_1, .inl (tc 0, 400, .inl Tf_1))] (fun (v : Option Value) (_ : Unit) => ∃ r : Int32, v = some (.int r) ∧ (((r.toInt = -1 ∧ ¬ (Tv_3.toInt = 43 ∨ Tv_3.toInt = 45 ∨ Tv_3.toInt = 42 ∨ Tv_3.toInt = 47 ∨ Tv_3.toInt = 37)) ∨ (r.toInt ≤ -12 ∧ (Tv_3.toInt = 43 ∨ Tv_3.toInt = 45 ∨ Tv_3.toInt = 42 ∨ Tv_3.toInt = 47 ∨ Tv_3.toInt = 37))))) (fun (_ : Unit) => [(Ta_0, .inr (10, [.ref Ta_1, .int Tv_0, .int Tv_1, .int Tv_2, .int Tv_3, .int Tv_4])), (Ta_1, .inl (tc 0, 400, .inl Tf_1))]) 0 0 :=
  ct_fX7_arithmetic l D tc sk (fun k => ([Ta_0, Ta_1] : List (Nat)).getD k 0) (fun k => ([Tv_0, Tv_1, Tv_2, Tv_3, Tv_4] : List (Int32)).getD k 0) (fun k => ([(fun _ => 0), Tf_1] : List (Nat → Int32)).getD k (fun _ => 0)) h_tape
set_option maxHeartbeats 4000000 in
set_option maxRecDepth 100000 in
theorem ct_fX7_comparison (l : Launch) (D : va_G) (tc : Nat → ClassId) (sk : (Nat → Nat) × (Nat → Nat)) (Ta : Nat → Nat) (Tv : Nat → Int32) (Tf : Nat → Nat → Int32) (h_tape : 0 ≤ ((Tv 0) : Int32).toInt ∧ ((Tv 0) : Int32).toInt ≤ 400 ∧ 0 ≤ ((Tv 1) : Int32).toInt ∧ ((Tv 1) : Int32).toInt ≤ 400 ∧ 0 ≤ ((Tv 2) : Int32).toInt ∧ ((Tv 2) : Int32).toInt ≤ 400) : Ct l yX7_comparison cX7_comparison 2 (some .int) { frames := 0, cells := 0, slots := 0, locals := 0 } D tc sk [.ref (Ta 0)] [((Ta 0), .inr (10, [.ref (Ta 1), .int (Tv 0), .int (Tv 1), .int (Tv 2), .int (Tv 3), .int (Tv 4)])), ((Ta 1), .inl (tc 0, 400, .inl (Tf 1)))] (fun (v : Option Value) (_ : Unit) => ∃ r : Int32, v = some (.int r) ∧ (((r.toInt = -1 ∧ ¬ (60 ≤ (Tv 3).toInt ∧ (Tv 3).toInt ≤ 62)) ∨ (r.toInt ≤ -7 ∧ 60 ≤ (Tv 3).toInt ∧ (Tv 3).toInt ≤ 62)))) (fun (_ : Unit) => [((Ta 0), .inr (10, [.ref (Ta 1), .int (Tv 0), .int (Tv 1), .int (Tv 2), .int (Tv 3), .int (Tv 4)])), ((Ta 1), .inl (tc 0, 400, .inl (Tf 1)))]) 0 0 := by
  refine Ct.start (by decide) (Nat.le_of_ble_eq_true rfl) (fun p e s m below meth c A ls hx hb hr hlk hin hml hown hts hK hX hP hD hA hl hS => ?_)
  have hl : lv_has ls 2 [(0, .ref (Ta 0))] := hl
  refine lv_aload_n hx hb dX7_comparison_0 rfl (lv_at hl 0 rfl) ?_
  refine gf_X7_118 hx hb hts hown hK hP 0 rfl rfl dX7_comparison_1 ?_
  refine lv_aload_n hx hb dX7_comparison_4 rfl (lv_at hl 0 rfl) ?_
  refine gf_X7_121 hx hb hts hown hK hP 0 rfl rfl dX7_comparison_5 ?_
  refine lv_isub hx hb dX7_comparison_8 ?_
  refine lv_topi (fun x_1 ex_1 => ?_)
  refine lv_iconst (v := 2) hx hb dX7_comparison_9 (by decide) ?_
  refine lv_icmp_ne (tgt := 17) hx hb dX7_comparison_10 (by decide) (fun c_2 => ?_) (fun c_2 => ?_)
  · skip
    refine lv_iconst (v := 0) hx hb dX7_comparison_17 (by decide) ?_
    refine lv_istore_n (lv' := [(1, .int 0), (0, .ref (Ta 0))]) hx hb dX7_comparison_18 rfl hl (by decide) rfl (fun ls hl₀ => ?_)
    replace hl := hl₀
    clear hl₀
    refine lv_aload_n hx hb dX7_comparison_19 rfl (lv_at hl 1 rfl) ?_
    refine gf_X7_86 hx hb hts hown hK hP 0 rfl rfl dX7_comparison_20 ?_
    refine lv_topi (fun x_3 ex_3 => ?_)
    by_cases c_4 : x_3 = 60
    · skip
      subst c_4
      have sw_c_4 := congrArg Int32.toInt ex_3
      have swy_c_4 : (60 : Int32).toInt = 60 := by decide
      refine lv_tableIn (off := 25) (tgt := 48) hx hb dX7_comparison_23 (by decide) (by decide) (by decide) (by decide) ?_
      refine lv_iload_n hx hb dX7_comparison_48 rfl (lv_at hl 0 rfl) ?_
      refine lv_if_eq (tgt := 57) hx hb dX7_comparison_49 (by decide) (fun c_5 => ?_) (fun c_5 => absurd c_5 (by decide))
      refine lv_bipush (v := (-7)) hx hb dX7_comparison_57 (by decide) ?_
      have hp_6 : ((((-7) : Int32).toInt = -1 ∧ ¬ (60 ≤ (Tv 3).toInt ∧ (Tv 3).toInt ≤ 62)) ∨ (((-7) : Int32).toInt ≤ -7 ∧ 60 ≤ (Tv 3).toInt ∧ (Tv 3).toInt ≤ 62)) := by
        have z_1 : ¬ (x_1 : Int32).toInt = (2 : Int32).toInt := fun z => c_2 (Int32.toInt_inj.mp z)
        have y_2 : (2 : Int32).toInt = 2 := by decide
        have y_m7 : (-7 : Int32).toInt = -7 := by decide
        have t_x_1 : x_1.toInt = ((Tv 2) : Int32).toInt - ((Tv 1) : Int32).toInt := by rw [ex_1]; exact sub_toInt (by omega) (by omega)
        have yr : (-7 : Int32).toInt = -7 := by decide
        omega
      exact retI (v := (-7)) hx hb hr hlk (rfl) hP hD hS () ⟨_, rfl, hp_6⟩ [0, 1] rfl rfl dX7_comparison_59 (Nat.le_of_ble_eq_true rfl) (Nat.le_of_ble_eq_true rfl) rfl
    · skip
      by_cases c_7 : x_3 = 61
      · skip
        subst c_7
        have sw_c_7 := congrArg Int32.toInt ex_3
        have swy_c_7 : (61 : Int32).toInt = 61 := by decide
        refine lv_tableIn (off := 37) (tgt := 60) hx hb dX7_comparison_23 (by decide) (by decide) (by decide) (by decide) ?_
        refine lv_bipush (v := (-9)) hx hb dX7_comparison_60 (by decide) ?_
        have hp_8 : ((((-9) : Int32).toInt = -1 ∧ ¬ (60 ≤ (Tv 3).toInt ∧ (Tv 3).toInt ≤ 62)) ∨ (((-9) : Int32).toInt ≤ -7 ∧ 60 ≤ (Tv 3).toInt ∧ (Tv 3).toInt ≤ 62)) := by
          have z_1 : ¬ (x_1 : Int32).toInt = (2 : Int32).toInt := fun z => c_2 (Int32.toInt_inj.mp z)
          have y_2 : (2 : Int32).toInt = 2 := by decide
          have y_m9 : (-9 : Int32).toInt = -9 := by decide
          have t_x_1 : x_1.toInt = ((Tv 2) : Int32).toInt - ((Tv 1) : Int32).toInt := by rw [ex_1]; exact sub_toInt (by omega) (by omega)
          have yr : (-9 : Int32).toInt = -9 := by decide
          omega
        exact retI (v := (-9)) hx hb hr hlk (rfl) hP hD hS () ⟨_, rfl, hp_8⟩ [0, 1] rfl rfl dX7_comparison_62 (Nat.le_of_ble_eq_true rfl) (Nat.le_of_ble_eq_true rfl) rfl
      · skip
        by_cases c_9 : x_3 = 62
        · skip
          subst c_9
          have sw_c_9 := congrArg Int32.toInt ex_3
          have swy_c_9 : (62 : Int32).toInt = 62 := by decide
          refine lv_tableIn (off := 40) (tgt := 63) hx hb dX7_comparison_23 (by decide) (by decide) (by decide) (by decide) ?_
          refine lv_iload_n hx hb dX7_comparison_63 rfl (lv_at hl 0 rfl) ?_
          refine lv_if_eq (tgt := 72) hx hb dX7_comparison_64 (by decide) (fun c_10 => ?_) (fun c_10 => absurd c_10 (by decide))
          refine lv_bipush (v := (-11)) hx hb dX7_comparison_72 (by decide) ?_
          have hp_11 : ((((-11) : Int32).toInt = -1 ∧ ¬ (60 ≤ (Tv 3).toInt ∧ (Tv 3).toInt ≤ 62)) ∨ (((-11) : Int32).toInt ≤ -7 ∧ 60 ≤ (Tv 3).toInt ∧ (Tv 3).toInt ≤ 62)) := by
            have z_1 : ¬ (x_1 : Int32).toInt = (2 : Int32).toInt := fun z => c_2 (Int32.toInt_inj.mp z)
            have y_2 : (2 : Int32).toInt = 2 := by decide
            have y_m11 : (-11 : Int32).toInt = -11 := by decide
            have t_x_1 : x_1.toInt = ((Tv 2) : Int32).toInt - ((Tv 1) : Int32).toInt := by rw [ex_1]; exact sub_toInt (by omega) (by omega)
            have yr : (-11 : Int32).toInt = -11 := by decide
            omega
          exact retI (v := (-11)) hx hb hr hlk (rfl) hP hD hS () ⟨_, rfl, hp_11⟩ [0, 1] rfl rfl dX7_comparison_74 (Nat.le_of_ble_eq_true rfl) (Nat.le_of_ble_eq_true rfl) rfl
        · skip
          have swo := congrArg Int32.toInt ex_3
          have ho_12 : (x_3 : Int32).toInt < 60 ∨ 62 < (x_3 : Int32).toInt := by
            have z_1 : ¬ (x_1 : Int32).toInt = (2 : Int32).toInt := fun z => c_2 (Int32.toInt_inj.mp z)
            have z_2 : ¬ (x_3 : Int32).toInt = (60 : Int32).toInt := fun z => c_4 (Int32.toInt_inj.mp z)
            have z_3 : ¬ (x_3 : Int32).toInt = (61 : Int32).toInt := fun z => c_7 (Int32.toInt_inj.mp z)
            have z_4 : ¬ (x_3 : Int32).toInt = (62 : Int32).toInt := fun z => c_9 (Int32.toInt_inj.mp z)
            have y_2 : (2 : Int32).toInt = 2 := by decide
            have y_60 : (60 : Int32).toInt = 60 := by decide
            have y_61 : (61 : Int32).toInt = 61 := by decide
            have y_62 : (62 : Int32).toInt = 62 := by decide
            have t_x_1 : x_1.toInt = ((Tv 2) : Int32).toInt - ((Tv 1) : Int32).toInt := by rw [ex_1]; exact sub_toInt (by omega) (by omega)
            omega
          refine lv_tableOut (tgt := 75) hx hb dX7_comparison_23 ho_12 (by decide) ?_
          refine lv_iconst (v := (-1)) hx hb dX7_comparison_75 (by decide) ?_
          have hp_13 : ((((-1) : Int32).toInt = -1 ∧ ¬ (60 ≤ (Tv 3).toInt ∧ (Tv 3).toInt ≤ 62)) ∨ (((-1) : Int32).toInt ≤ -7 ∧ 60 ≤ (Tv 3).toInt ∧ (Tv 3).toInt ≤ 62)) := by
            have z_1 : ¬ (x_1 : Int32).toInt = (2 : Int32).toInt := fun z => c_2 (Int32.toInt_inj.mp z)
            have z_2 : ¬ (x_3 : Int32).toInt = (60 : Int32).toInt := fun z => c_4 (Int32.toInt_inj.mp z)
            have z_3 : ¬ (x_3 : Int32).toInt = (61 : Int32).toInt := fun z => c_7 (Int32.toInt_inj.mp z)
            have z_4 : ¬ (x_3 : Int32).toInt = (62 : Int32).toInt := fun z => c_9 (Int32.toInt_inj.mp z)
            have y_2 : (2 : Int32).toInt = 2 := by decide
            have y_60 : (60 : Int32).toInt = 60 := by decide
            have y_61 : (61 : Int32).toInt = 61 := by decide
            have y_62 : (62 : Int32).toInt = 62 := by decide
            have y_m1 : (-1 : Int32).toInt = -1 := by decide
            have t_x_1 : x_1.toInt = ((Tv 2) : Int32).toInt - ((Tv 1) : Int32).toInt := by rw [ex_1]; exact sub_toInt (by omega) (by omega)
            have yr : (-1 : Int32).toInt = -1 := by decide
            omega
          exact retI (v := (-1)) hx hb hr hlk (rfl) hP hD hS () ⟨_, rfl, hp_13⟩ [0, 1] rfl rfl dX7_comparison_76 (Nat.le_of_ble_eq_true rfl) (Nat.le_of_ble_eq_true rfl) rfl
  · skip
    refine lv_iconst (v := 1) hx hb dX7_comparison_13 (by decide) ?_
    refine lv_goto (tgt := 18) hx hb dX7_comparison_14 (by decide) ?_
    refine lv_istore_n (lv' := [(1, .int 1), (0, .ref (Ta 0))]) hx hb dX7_comparison_18 rfl hl (by decide) rfl (fun ls hl₀ => ?_)
    replace hl := hl₀
    clear hl₀
    refine lv_aload_n hx hb dX7_comparison_19 rfl (lv_at hl 1 rfl) ?_
    refine gf_X7_86 hx hb hts hown hK hP 0 rfl rfl dX7_comparison_20 ?_
    refine lv_topi (fun x_14 ex_14 => ?_)
    by_cases c_15 : x_14 = 60
    · skip
      subst c_15
      have sw_c_15 := congrArg Int32.toInt ex_14
      have swy_c_15 : (60 : Int32).toInt = 60 := by decide
      refine lv_tableIn (off := 25) (tgt := 48) hx hb dX7_comparison_23 (by decide) (by decide) (by decide) (by decide) ?_
      refine lv_iload_n hx hb dX7_comparison_48 rfl (lv_at hl 0 rfl) ?_
      refine lv_if_eq (tgt := 57) hx hb dX7_comparison_49 (by decide) (fun c_16 => absurd c_16 (by decide)) (fun c_16 => ?_)
      refine lv_bipush (v := (-8)) hx hb dX7_comparison_52 (by decide) ?_
      refine lv_goto (tgt := 59) hx hb dX7_comparison_54 (by decide) ?_
      have hp_17 : ((((-8) : Int32).toInt = -1 ∧ ¬ (60 ≤ (Tv 3).toInt ∧ (Tv 3).toInt ≤ 62)) ∨ (((-8) : Int32).toInt ≤ -7 ∧ 60 ≤ (Tv 3).toInt ∧ (Tv 3).toInt ≤ 62)) := by
        have z_1 := congrArg Int32.toInt c_2
        have y_2 : (2 : Int32).toInt = 2 := by decide
        have y_m8 : (-8 : Int32).toInt = -8 := by decide
        have t_x_1 : x_1.toInt = ((Tv 2) : Int32).toInt - ((Tv 1) : Int32).toInt := by rw [ex_1]; exact sub_toInt (by omega) (by omega)
        have yr : (-8 : Int32).toInt = -8 := by decide
        omega
      exact retI (v := (-8)) hx hb hr hlk (rfl) hP hD hS () ⟨_, rfl, hp_17⟩ [0, 1] rfl rfl dX7_comparison_59 (Nat.le_of_ble_eq_true rfl) (Nat.le_of_ble_eq_true rfl) rfl
    · skip
      by_cases c_18 : x_14 = 61
      · skip
        subst c_18
        have sw_c_18 := congrArg Int32.toInt ex_14
        have swy_c_18 : (61 : Int32).toInt = 61 := by decide
        refine lv_tableIn (off := 37) (tgt := 60) hx hb dX7_comparison_23 (by decide) (by decide) (by decide) (by decide) ?_
        refine lv_bipush (v := (-9)) hx hb dX7_comparison_60 (by decide) ?_
        have hp_19 : ((((-9) : Int32).toInt = -1 ∧ ¬ (60 ≤ (Tv 3).toInt ∧ (Tv 3).toInt ≤ 62)) ∨ (((-9) : Int32).toInt ≤ -7 ∧ 60 ≤ (Tv 3).toInt ∧ (Tv 3).toInt ≤ 62)) := by
          have z_1 := congrArg Int32.toInt c_2
          have y_2 : (2 : Int32).toInt = 2 := by decide
          have y_m9 : (-9 : Int32).toInt = -9 := by decide
          have t_x_1 : x_1.toInt = ((Tv 2) : Int32).toInt - ((Tv 1) : Int32).toInt := by rw [ex_1]; exact sub_toInt (by omega) (by omega)
          have yr : (-9 : Int32).toInt = -9 := by decide
          omega
        exact retI (v := (-9)) hx hb hr hlk (rfl) hP hD hS () ⟨_, rfl, hp_19⟩ [0, 1] rfl rfl dX7_comparison_62 (Nat.le_of_ble_eq_true rfl) (Nat.le_of_ble_eq_true rfl) rfl
      · skip
        by_cases c_20 : x_14 = 62
        · skip
          subst c_20
          have sw_c_20 := congrArg Int32.toInt ex_14
          have swy_c_20 : (62 : Int32).toInt = 62 := by decide
          refine lv_tableIn (off := 40) (tgt := 63) hx hb dX7_comparison_23 (by decide) (by decide) (by decide) (by decide) ?_
          refine lv_iload_n hx hb dX7_comparison_63 rfl (lv_at hl 0 rfl) ?_
          refine lv_if_eq (tgt := 72) hx hb dX7_comparison_64 (by decide) (fun c_21 => absurd c_21 (by decide)) (fun c_21 => ?_)
          refine lv_bipush (v := (-10)) hx hb dX7_comparison_67 (by decide) ?_
          refine lv_goto (tgt := 74) hx hb dX7_comparison_69 (by decide) ?_
          have hp_22 : ((((-10) : Int32).toInt = -1 ∧ ¬ (60 ≤ (Tv 3).toInt ∧ (Tv 3).toInt ≤ 62)) ∨ (((-10) : Int32).toInt ≤ -7 ∧ 60 ≤ (Tv 3).toInt ∧ (Tv 3).toInt ≤ 62)) := by
            have z_1 := congrArg Int32.toInt c_2
            have y_2 : (2 : Int32).toInt = 2 := by decide
            have y_m10 : (-10 : Int32).toInt = -10 := by decide
            have t_x_1 : x_1.toInt = ((Tv 2) : Int32).toInt - ((Tv 1) : Int32).toInt := by rw [ex_1]; exact sub_toInt (by omega) (by omega)
            have yr : (-10 : Int32).toInt = -10 := by decide
            omega
          exact retI (v := (-10)) hx hb hr hlk (rfl) hP hD hS () ⟨_, rfl, hp_22⟩ [0, 1] rfl rfl dX7_comparison_74 (Nat.le_of_ble_eq_true rfl) (Nat.le_of_ble_eq_true rfl) rfl
        · skip
          have swo := congrArg Int32.toInt ex_14
          have ho_23 : (x_14 : Int32).toInt < 60 ∨ 62 < (x_14 : Int32).toInt := by
            have z_1 := congrArg Int32.toInt c_2
            have z_2 : ¬ (x_14 : Int32).toInt = (60 : Int32).toInt := fun z => c_15 (Int32.toInt_inj.mp z)
            have z_3 : ¬ (x_14 : Int32).toInt = (61 : Int32).toInt := fun z => c_18 (Int32.toInt_inj.mp z)
            have z_4 : ¬ (x_14 : Int32).toInt = (62 : Int32).toInt := fun z => c_20 (Int32.toInt_inj.mp z)
            have y_2 : (2 : Int32).toInt = 2 := by decide
            have y_60 : (60 : Int32).toInt = 60 := by decide
            have y_61 : (61 : Int32).toInt = 61 := by decide
            have y_62 : (62 : Int32).toInt = 62 := by decide
            have t_x_1 : x_1.toInt = ((Tv 2) : Int32).toInt - ((Tv 1) : Int32).toInt := by rw [ex_1]; exact sub_toInt (by omega) (by omega)
            omega
          refine lv_tableOut (tgt := 75) hx hb dX7_comparison_23 ho_23 (by decide) ?_
          refine lv_iconst (v := (-1)) hx hb dX7_comparison_75 (by decide) ?_
          have hp_24 : ((((-1) : Int32).toInt = -1 ∧ ¬ (60 ≤ (Tv 3).toInt ∧ (Tv 3).toInt ≤ 62)) ∨ (((-1) : Int32).toInt ≤ -7 ∧ 60 ≤ (Tv 3).toInt ∧ (Tv 3).toInt ≤ 62)) := by
            have z_1 := congrArg Int32.toInt c_2
            have z_2 : ¬ (x_14 : Int32).toInt = (60 : Int32).toInt := fun z => c_15 (Int32.toInt_inj.mp z)
            have z_3 : ¬ (x_14 : Int32).toInt = (61 : Int32).toInt := fun z => c_18 (Int32.toInt_inj.mp z)
            have z_4 : ¬ (x_14 : Int32).toInt = (62 : Int32).toInt := fun z => c_20 (Int32.toInt_inj.mp z)
            have y_2 : (2 : Int32).toInt = 2 := by decide
            have y_60 : (60 : Int32).toInt = 60 := by decide
            have y_61 : (61 : Int32).toInt = 61 := by decide
            have y_62 : (62 : Int32).toInt = 62 := by decide
            have y_m1 : (-1 : Int32).toInt = -1 := by decide
            have t_x_1 : x_1.toInt = ((Tv 2) : Int32).toInt - ((Tv 1) : Int32).toInt := by rw [ex_1]; exact sub_toInt (by omega) (by omega)
            have yr : (-1 : Int32).toInt = -1 := by decide
            omega
          exact retI (v := (-1)) hx hb hr hlk (rfl) hP hD hS () ⟨_, rfl, hp_24⟩ [0, 1] rfl rfl dX7_comparison_76 (Nat.le_of_ble_eq_true rfl) (Nat.le_of_ble_eq_true rfl) rfl
set_option maxRecDepth 100000 in
theorem cu_fX7_comparison (l : Launch) (D : va_G) (tc : Nat → ClassId) (sk : (Nat → Nat) × (Nat → Nat)) (Ta_0 : Nat) (Ta_1 : Nat) (Tv_0 : Int32) (Tv_1 : Int32) (Tv_2 : Int32) (Tv_3 : Int32) (Tv_4 : Int32) (Tf_1 : Nat → Int32) (h_tape : 0 ≤ (Tv_0 : Int32).toInt ∧ (Tv_0 : Int32).toInt ≤ 400 ∧ 0 ≤ (Tv_1 : Int32).toInt ∧ (Tv_1 : Int32).toInt ≤ 400 ∧ 0 ≤ (Tv_2 : Int32).toInt ∧ (Tv_2 : Int32).toInt ≤ 400) : Ct l yX7_comparison cX7_comparison 2 (some .int) { frames := 0, cells := 0, slots := 0, locals := 0 } D tc sk [.ref Ta_0] [(Ta_0, .inr (10, [.ref Ta_1, .int Tv_0, .int Tv_1, .int Tv_2, .int Tv_3, .int Tv_4])), (Ta_1, .inl (tc 0, 400, .inl Tf_1))] (fun (v : Option Value) (_ : Unit) => ∃ r : Int32, v = some (.int r) ∧ (((r.toInt = -1 ∧ ¬ (60 ≤ Tv_3.toInt ∧ Tv_3.toInt ≤ 62)) ∨ (r.toInt ≤ -7 ∧ 60 ≤ Tv_3.toInt ∧ Tv_3.toInt ≤ 62)))) (fun (_ : Unit) => [(Ta_0, .inr (10, [.ref Ta_1, .int Tv_0, .int Tv_1, .int Tv_2, .int Tv_3, .int Tv_4])), (Ta_1, .inl (tc 0, 400, .inl Tf_1))]) 0 0 :=
  ct_fX7_comparison l D tc sk (fun k => ([Ta_0, Ta_1] : List (Nat)).getD k 0) (fun k => ([Tv_0, Tv_1, Tv_2, Tv_3, Tv_4] : List (Int32)).getD k 0) (fun k => ([(fun _ => 0), Tf_1] : List (Nat → Int32)).getD k (fun _ => 0)) h_tape
set_option maxHeartbeats 4000000 in
set_option maxRecDepth 100000 in
theorem ct_fX7_readValue (l : Launch) (D : va_G) (tc : Nat → ClassId) (sk : (Nat → Nat) × (Nat → Nat)) (Va : Nat → Nat) (Vv : Nat → Int32) (Vf : Nat → Nat → Int32) (Ta : Nat → Nat) (Tv : Nat → Int32) (Tf : Nat → Nat → Int32) (rr : Except Int (Nat × Nat)) (h_tape : 0 ≤ ((Tv 0) : Int32).toInt ∧ ((Tv 0) : Int32).toInt ≤ 400 ∧ 0 ≤ ((Tv 1) : Int32).toInt ∧ ((Tv 1) : Int32).toInt ≤ 400 ∧ 0 ≤ ((Tv 2) : Int32).toInt ∧ ((Tv 2) : Int32).toInt ≤ 400) (h_u : 0 ≤ ((Vv 0) : Int32).toInt ∧ ((Vv 0) : Int32).toInt ≤ 400) (h_by : Byt (Tf 1)) (h_r : TpR (Tf 1) (Tv 0) rr (Tv 1) (Tv 2) (Tv 3) (Tv 4)) (h_ct : Ctd rr (Vv 1)) : Ct l yX7_readValue cX7_readValue 4 none { frames := 6, cells := 0, slots := 0, locals := 133 } D tc sk [.ref (Va 0), .ref (Ta 0)] [((Va 0), .inr (7, [.ref (Va 1), .int (Vv 0), .int (Vv 1)])), ((Va 1), .inl (tc 0, 400, .inl (Vf 1))), ((Ta 0), .inr (10, [.ref (Ta 1), .int (Tv 0), .int (Tv 1), .int (Tv 2), .int (Tv 3), .int (Tv 4)])), ((Ta 1), .inl (tc 0, 400, .inl (Tf 1)))] (fun (v : Option Value) (u : (Int32) × (Int32) × (Nat → Int32) × (Int32) × (Int32) × (Int32) × (Int32)) => match u with | (oo0x1, oo0x2, oo0x3, oo0x4, oo0x5, oo0x6, oo0x7) => v = none ∧ (0 ≤ ((Tv 0) : Int32).toInt ∧ ((Tv 0) : Int32).toInt ≤ 400 ∧ 0 ≤ (oo0x4 : Int32).toInt ∧ (oo0x4 : Int32).toInt ≤ 400 ∧ 0 ≤ (oo0x5 : Int32).toInt ∧ (oo0x5 : Int32).toInt ≤ 400) ∧ (0 ≤ (oo0x1 : Int32).toInt ∧ (oo0x1 : Int32).toInt ≤ 400) ∧ (TpR (Tf 1) (Tv 0) (pz_b rr (pz_val (cB (Tf 1) (Tv 0)))) oo0x4 oo0x5 oo0x6 oo0x7) ∧ (Ctd (pz_b rr (pz_val (cB (Tf 1) (Tv 0)))) oo0x2)) (fun (u : (Int32) × (Int32) × (Nat → Int32) × (Int32) × (Int32) × (Int32) × (Int32)) => match u with | (oo0x1, oo0x2, oo0x3, oo0x4, oo0x5, oo0x6, oo0x7) => [((Va 0), .inr (7, [.ref (Va 1), .int oo0x1, .int oo0x2])), ((Va 1), .inl (tc 0, 400, .inl oo0x3)), ((Ta 0), .inr (10, [.ref (Ta 1), .int (Tv 0), .int oo0x4, .int oo0x5, .int oo0x6, .int oo0x7])), ((Ta 1), .inl (tc 0, 400, .inl (Tf 1)))]) 0 0 := by
  refine Ct.start (by decide) (Nat.le_of_ble_eq_true rfl) (fun p e s m below meth c A ls hx hb hr hlk hin hml hown hts hK hX hP hD hA hl hS => ?_)
  have hl : lv_has ls 4 [(0, .ref (Va 0)), (1, .ref (Ta 0))] := hl
  have tb_1 : TpB (rTE (cB (Tf 1) (Tv 0)) rr) (Tv 2) (Tv 4) := TpR.tb h_r
  refine lv_iconst (v := 0) hx hb dX7_readValue_0 (by decide) ?_
  refine lv_istore_n (lv' := [(2, .int 0), (0, .ref (Va 0)), (1, .ref (Ta 0))]) hx hb dX7_readValue_1 rfl hl (by decide) rfl (fun ls hl₀ => ?_)
  replace hl := hl₀
  clear hl₀
  refine lv_aload_n hx hb dX7_readValue_2 rfl (lv_at hl 2 rfl) ?_
  refine gf_X7_86 hx hb hts hown hK hP 2 rfl rfl dX7_readValue_3 ?_
  refine cS (As := [.int (Tv 3)]) (rest := []) (wr := [((Va 0), .inr (7, [.ref (Va 1), .int (Vv 0), .int (Vv 1)])), ((Va 1), .inl (tc 0, 400, .inl (Vf 1))), ((Ta 0), .inr (10, [.ref (Ta 1), .int (Tv 0), .int (Tv 1), .int (Tv 2), .int (Tv 3), .int (Tv 4)])), ((Ta 1), .inl (tc 0, 400, .inl (Tf 1)))]) ⟨hx, hb, hml, hown, hts⟩ hK hX hA (ct_fX10_isDigit l D tc sk (Tv 3)) k_488 k_629 k_487 k_96 pl_X10_isDigit ⟨Nat.le_of_ble_eq_true rfl, Nat.le_of_ble_eq_true rfl⟩ rfl rfl  hP hD hS [] [0, 1, 2, 3] rfl rfl rfl rfl rfl (by decide) rfl hl.1 rfl (Nat.le_of_ble_eq_true rfl) dX7_readValue_6 ⟨Nat.le_of_ble_eq_true rfl, Nat.le_of_ble_eq_true rfl⟩ (fun v_2 u_3 H locs hv_4 hP₀ hD₀ hS₀ => ?_)
  obtain ⟨r_5, rfl, he_6⟩ := hv_4
  have he_6 : ((r_5.toInt = 1 ∧ 48 ≤ (Tv 3).toInt ∧ (Tv 3).toInt ≤ 57) ∨ (r_5.toInt = 0 ∧ ((Tv 3).toInt < 48 ∨ 57 < (Tv 3).toInt))) := he_6
  refine W.eq (g2 := F0 m 9 ls [.int r_5]) rfl ?_
  replace hP : va_P D classes [((Va 0), .inr (7, [.ref (Va 1), .int (Vv 0), .int (Vv 1)])), ((Va 1), .inl (tc 0, 400, .inl (Vf 1))), ((Ta 0), .inr (10, [.ref (Ta 1), .int (Tv 0), .int (Tv 1), .int (Tv 2), .int (Tv 3), .int (Tv 4)])), ((Ta 1), .inl (tc 0, 400, .inl (Tf 1)))] H := hP₀
  replace hD : va_D A [((Va 0), .inr (7, [.ref (Va 1), .int (Vv 0), .int (Vv 1)])), ((Va 1), .inl (tc 0, 400, .inl (Vf 1))), ((Ta 0), .inr (10, [.ref (Ta 1), .int (Tv 0), .int (Tv 1), .int (Tv 2), .int (Tv 3), .int (Tv 4)])), ((Ta 1), .inl (tc 0, 400, .inl (Tf 1)))] := hD₀
  replace hS := hS₀
  clear hP₀ hD₀ hS₀
  refine lv_if_eq (tgt := 23) hx hb dX7_readValue_9 (by decide) (fun c_8 => ?_) (fun c_8 => ?_)
  · skip
    refine lv_aload_n hx hb dX7_readValue_23 rfl (lv_at hl 2 rfl) ?_
    refine va_ldcS hx hb hown (sx_2 hX) dX7_readValue_24 ?_
    have ha_9 : (2 : Nat) < 7 := by
      have z_1 := congrArg Int32.toInt c_8
      have y_0 : (0 : Int32).toInt = 0 := by decide
      have y_2 : (2 : Int32).toInt = 2 := by decide
      omega
    refine cV (a := (Ta 0)) (As := [.ref (sk.1 2)]) (rest := []) (wr := [((Va 0), .inr (7, [.ref (Va 1), .int (Vv 0), .int (Vv 1)])), ((Va 1), .inl (tc 0, 400, .inl (Vf 1)))]) ⟨hx, hb, hml, hown, hts⟩ hK hX hA (cu_fX10_wordAmong l D tc sk (Ta 0) (Ta 1) (Tv 0) (Tv 1) (Tv 2) (Tv 3) (Tv 4) (Tf 1) 2 rr ha_9 h_tape h_by h_r) k_501 k_633 k_499 k_500 k_96 pl_X10_wordAmong ⟨Nat.le_of_ble_eq_true rfl, Nat.le_of_ble_eq_true rfl⟩ rfl rfl (va_recv hK hP (ci := 10) (q0 := 2) rfl rfl) hP hD hS [2, 3] [0, 1] rfl rfl rfl rfl rfl (by decide) rfl hl.1 rfl (Nat.le_of_ble_eq_true rfl) dX7_readValue_26 ⟨Nat.le_of_ble_eq_true rfl, Nat.le_of_ble_eq_true rfl⟩ (fun v_10 u_11 H locs hv_12 hP₀ hD₀ hS₀ => ?_)
    obtain ⟨r_13, rfl, he_14⟩ := hv_12
    have he_14 : r_13.toInt = waR (cB (Tf 1) (Tv 0)) (wL (2 : Nat)) 0 rr := he_14
    refine W.eq (g2 := F0 m 29 ls [.int r_13]) rfl ?_
    replace hP : va_P D classes [((Va 0), .inr (7, [.ref (Va 1), .int (Vv 0), .int (Vv 1)])), ((Va 1), .inl (tc 0, 400, .inl (Vf 1))), ((Ta 0), .inr (10, [.ref (Ta 1), .int (Tv 0), .int (Tv 1), .int (Tv 2), .int (Tv 3), .int (Tv 4)])), ((Ta 1), .inl (tc 0, 400, .inl (Tf 1)))] H := hP₀
    replace hD : va_D A [((Va 0), .inr (7, [.ref (Va 1), .int (Vv 0), .int (Vv 1)])), ((Va 1), .inl (tc 0, 400, .inl (Vf 1))), ((Ta 0), .inr (10, [.ref (Ta 1), .int (Tv 0), .int (Tv 1), .int (Tv 2), .int (Tv 3), .int (Tv 4)])), ((Ta 1), .inl (tc 0, 400, .inl (Tf 1)))] := hD₀
    replace hS := hS₀
    clear hP₀ hD₀ hS₀
    refine lv_istore_n (lv' := [(3, .int r_13), (2, .int 0), (0, .ref (Va 0)), (1, .ref (Ta 0))]) hx hb dX7_readValue_29 rfl hl (by decide) rfl (fun ls hl₀ => ?_)
    replace hl := hl₀
    clear hl₀
    refine lv_iload_n hx hb dX7_readValue_30 rfl (lv_at hl 0 rfl) ?_
    refine lv_iconst (v := (-1)) hx hb dX7_readValue_31 (by decide) ?_
    refine lv_icmp_ne (tgt := 43) hx hb dX7_readValue_32 (by decide) (fun c_16 => ?_) (fun c_16 => ?_)
    · skip
      refine lv_ldc hx hb hown (hts _ k_634) dX7_readValue_43 ?_
      refine lv_iload_n hx hb dX7_readValue_45 rfl (lv_at hl 0 rfl) ?_
      refine lv_iadd hx hb dX7_readValue_46 ?_
      refine lv_topi (fun x_17 ex_17 => ?_)
      refine lv_istore_n (lv' := [(2, .int x_17), (3, .int r_13), (0, .ref (Va 0)), (1, .ref (Ta 0))]) hx hb dX7_readValue_47 rfl hl (by decide) rfl (fun ls hl₀ => ?_)
      replace hl := hl₀
      clear hl₀
      refine lv_aload_n hx hb dX7_readValue_48 rfl (lv_at hl 2 rfl) ?_
      refine lv_aload_n hx hb dX7_readValue_49 rfl (lv_at hl 3 rfl) ?_
      refine cV (a := (Va 0)) (As := [.ref (Ta 0)]) (rest := []) (wr := []) ⟨hx, hb, hml, hown, hts⟩ hK hX hA (cu_fX7_countOne l D tc sk (Va 0) (Va 1) (Vv 0) (Vv 1) (Vf 1) (Ta 0) (Ta 1) (Tv 0) (Tv 1) (Tv 2) (Tv 3) (Tv 4) (Tf 1) rr h_tape h_u h_by h_r h_ct) k_638 k_635 k_637 k_9 k_99 pl_X7_countOne ⟨Nat.le_of_ble_eq_true rfl, Nat.le_of_ble_eq_true rfl⟩ rfl rfl (va_recv hK hP (ci := 7) (q0 := 0) rfl rfl) hP hD hS [0, 1, 2, 3] [] rfl rfl rfl rfl rfl (by decide) rfl hl.1 rfl (Nat.le_of_ble_eq_true rfl) dX7_readValue_50 ⟨Nat.le_of_ble_eq_true rfl, Nat.le_of_ble_eq_true rfl⟩ (fun v_18 u_19 H locs hv_20 hP₀ hD₀ hS₀ => ?_)
      obtain ⟨sv_21, sv_22, sv_23⟩ := u_19
      obtain ⟨rfl, pf_24, pf_25, pf_26, pf_27⟩ := hv_20
      have pf_24 : 0 ≤ ((Tv 0) : Int32).toInt ∧ ((Tv 0) : Int32).toInt ≤ 400 ∧ 0 ≤ ((Tv 1) : Int32).toInt ∧ ((Tv 1) : Int32).toInt ≤ 400 ∧ 0 ≤ ((Tv 2) : Int32).toInt ∧ ((Tv 2) : Int32).toInt ≤ 400 := pf_24
      have pf_25 : 0 ≤ ((Vv 0) : Int32).toInt ∧ ((Vv 0) : Int32).toInt ≤ 400 := pf_25
      have pf_26 : TpR (Tf 1) (Tv 0) (rC1 rr) (Tv 1) (Tv 2) sv_22 sv_23 := pf_26
      obtain ⟨ro_28, ero_28⟩ : ∃ z : Except Int (Nat × Nat), z = (rC1 rr) := ⟨_, rfl⟩
      rw [← ero_28] at pf_26
      have tb_29 : TpB (rTE (cB (Tf 1) (Tv 0)) ro_28) (Tv 2) sv_23 := TpR.tb pf_26
      have pf_27 : Ctd (rC1 rr) sv_21 := pf_27
      rw [← ero_28] at pf_27
      refine W.eq (g2 := F0 m 53 ls []) rfl ?_
      replace hP : va_P D classes [((Va 0), .inr (7, [.ref (Va 1), .int (Vv 0), .int sv_21])), ((Va 1), .inl (tc 0, 400, .inl (Vf 1))), ((Ta 0), .inr (10, [.ref (Ta 1), .int (Tv 0), .int (Tv 1), .int (Tv 2), .int sv_22, .int sv_23])), ((Ta 1), .inl (tc 0, 400, .inl (Tf 1)))] H := hP₀
      replace hD : va_D A [((Va 0), .inr (7, [.ref (Va 1), .int (Vv 0), .int sv_21])), ((Va 1), .inl (tc 0, 400, .inl (Vf 1))), ((Ta 0), .inr (10, [.ref (Ta 1), .int (Tv 0), .int (Tv 1), .int (Tv 2), .int sv_22, .int sv_23])), ((Ta 1), .inl (tc 0, 400, .inl (Tf 1)))] := hD₀
      replace hS := hS₀
      clear hP₀ hD₀ hS₀
      refine lv_aload_n hx hb dX7_readValue_53 rfl (lv_at hl 2 rfl) ?_
      refine lv_iload_n hx hb dX7_readValue_54 rfl (lv_at hl 0 rfl) ?_
      refine cV (a := (Va 0)) (As := [.int x_17]) (rest := []) (wr := [((Ta 0), .inr (10, [.ref (Ta 1), .int (Tv 0), .int (Tv 1), .int (Tv 2), .int sv_22, .int sv_23])), ((Ta 1), .inl (tc 0, 400, .inl (Tf 1)))]) ⟨hx, hb, hml, hown, hts⟩ hK hX hA (cu_fX7_put l D tc sk (Va 0) (Va 1) (Vv 0) sv_21 (Vf 1) x_17 pf_25) k_642 k_639 k_641 k_10 k_99 pl_X7_put ⟨Nat.le_of_ble_eq_true rfl, Nat.le_of_ble_eq_true rfl⟩ rfl rfl (va_recv hK hP (ci := 7) (q0 := 0) rfl rfl) hP hD hS [0, 1] [2, 3] rfl rfl rfl rfl rfl (by decide) rfl hl.1 rfl (Nat.le_of_ble_eq_true rfl) dX7_readValue_55 ⟨Nat.le_of_ble_eq_true rfl, Nat.le_of_ble_eq_true rfl⟩ (fun v_30 u_31 H locs hv_32 hP₀ hD₀ hS₀ => ?_)
      obtain ⟨sv_33, sv_34⟩ := u_31
      obtain ⟨rfl, pf_35⟩ := hv_32
      have pf_35 : 0 ≤ (sv_33 : Int32).toInt ∧ (sv_33 : Int32).toInt ≤ 400 := pf_35
      refine W.eq (g2 := F0 m 58 ls []) rfl ?_
      replace hP : va_P D classes [((Ta 0), .inr (10, [.ref (Ta 1), .int (Tv 0), .int (Tv 1), .int (Tv 2), .int sv_22, .int sv_23])), ((Ta 1), .inl (tc 0, 400, .inl (Tf 1))), ((Va 0), .inr (7, [.ref (Va 1), .int sv_33, .int sv_21])), ((Va 1), .inl (tc 0, 400, .inl sv_34))] H := hP₀
      replace hD : va_D A [((Ta 0), .inr (10, [.ref (Ta 1), .int (Tv 0), .int (Tv 1), .int (Tv 2), .int sv_22, .int sv_23])), ((Ta 1), .inl (tc 0, 400, .inl (Tf 1))), ((Va 0), .inr (7, [.ref (Va 1), .int sv_33, .int sv_21])), ((Va 1), .inl (tc 0, 400, .inl sv_34))] := hD₀
      replace hS := hS₀
      clear hP₀ hD₀ hS₀
      refine lv_aload_n hx hb dX7_readValue_58 rfl (lv_at hl 3 rfl) ?_
      refine cV (a := (Ta 0)) (As := []) (rest := []) (wr := [((Va 0), .inr (7, [.ref (Va 1), .int sv_33, .int sv_21])), ((Va 1), .inl (tc 0, 400, .inl sv_34))]) ⟨hx, hb, hml, hown, hts⟩ hK hX hA (cu_fX10_step l D tc sk (Ta 0) (Ta 1) (Tv 0) (Tv 1) (Tv 2) sv_22 sv_23 (Tf 1) (rTE (cB (Tf 1) (Tv 0)) ro_28) pf_24 h_by tb_29) k_478 k_620 k_476 k_477 k_96 pl_X10_step ⟨Nat.le_of_ble_eq_true rfl, Nat.le_of_ble_eq_true rfl⟩ rfl rfl (va_recv hK hP (ci := 10) (q0 := 0) rfl rfl) hP hD hS [0, 1] [2, 3] rfl rfl rfl rfl rfl (by decide) rfl hl.1 rfl (Nat.le_of_ble_eq_true rfl) dX7_readValue_59 ⟨Nat.le_of_ble_eq_true rfl, Nat.le_of_ble_eq_true rfl⟩ (fun v_36 u_37 H locs hv_38 hP₀ hD₀ hS₀ => ?_)
      obtain ⟨sv_39, sv_40, sv_41⟩ := u_37
      obtain ⟨rfl, pf_42, pf_43⟩ := hv_38
      have pf_42 : 0 ≤ ((Tv 0) : Int32).toInt ∧ ((Tv 0) : Int32).toInt ≤ 400 ∧ 0 ≤ (sv_39 : Int32).toInt ∧ (sv_39 : Int32).toInt ≤ 400 ∧ 0 ≤ (sv_40 : Int32).toInt ∧ (sv_40 : Int32).toInt ≤ 400 := pf_42
      have pf_43 : TpR (Tf 1) (Tv 0) (rSK (cB (Tf 1) (Tv 0)) (rTE (cB (Tf 1) (Tv 0)) ro_28)) sv_39 sv_40 sv_41 sv_23 := pf_43
      rw [rNX_eq] at pf_43
      obtain ⟨ro_44, ero_44⟩ : ∃ z : Except Int (Nat × Nat), z = (rNX (cB (Tf 1) (Tv 0)) ro_28) := ⟨_, rfl⟩
      rw [← ero_44] at pf_43
      have tb_45 : TpB (rTE (cB (Tf 1) (Tv 0)) ro_44) sv_40 sv_23 := TpR.tb pf_43
      have cd_46 : Ctd ro_44 sv_21 := by rw [ero_44]; exact (Ctd.nx pf_27)
      refine W.eq (g2 := F0 m 62 ls []) rfl ?_
      replace hP : va_P D classes [((Va 0), .inr (7, [.ref (Va 1), .int sv_33, .int sv_21])), ((Va 1), .inl (tc 0, 400, .inl sv_34)), ((Ta 0), .inr (10, [.ref (Ta 1), .int (Tv 0), .int sv_39, .int sv_40, .int sv_41, .int sv_23])), ((Ta 1), .inl (tc 0, 400, .inl (Tf 1)))] H := hP₀
      replace hD : va_D A [((Va 0), .inr (7, [.ref (Va 1), .int sv_33, .int sv_21])), ((Va 1), .inl (tc 0, 400, .inl sv_34)), ((Ta 0), .inr (10, [.ref (Ta 1), .int (Tv 0), .int sv_39, .int sv_40, .int sv_41, .int sv_23])), ((Ta 1), .inl (tc 0, 400, .inl (Tf 1)))] := hD₀
      replace hS := hS₀
      clear hP₀ hD₀ hS₀
      have hf_47 : TpR (Tf 1) (Tv 0) (pz_b rr (pz_val (cB (Tf 1) (Tv 0)))) sv_39 sv_40 sv_41 sv_23 := by
        have hE_48 : (pz_b rr (pz_val (cB (Tf 1) (Tv 0)))) = ro_44 := by
          rw [ero_44, ero_28]
          have hr_49 : ¬ (48 ≤ (Tv 3).toInt ∧ (Tv 3).toInt ≤ 57) := by
            have z_1 := congrArg Int32.toInt c_8
            have z_2 : ¬ (r_13 : Int32).toInt = ((-1) : Int32).toInt := fun z => c_16 (Int32.toInt_inj.mp z)
            have y_m1 : (-1 : Int32).toInt = -1 := by decide
            have y_0 : (0 : Int32).toInt = 0 := by decide
            omega
          have hr_50 : ¬ (r_13 : Int32).toInt = -1 := by
            have z_1 := congrArg Int32.toInt c_8
            have z_2 : ¬ (r_13 : Int32).toInt = ((-1) : Int32).toInt := fun z => c_16 (Int32.toInt_inj.mp z)
            have y_m1 : (-1 : Int32).toInt = -1 := by decide
            have y_0 : (0 : Int32).toInt = 0 := by decide
            omega
          exact (val_wd h_r hr_49 (fun z => hr_50 (he_14.trans z)))
        rw [hE_48]
        exact pf_43
      have hf_51 : Ctd (pz_b rr (pz_val (cB (Tf 1) (Tv 0)))) sv_21 := by
        have hE_52 : (pz_b rr (pz_val (cB (Tf 1) (Tv 0)))) = ro_44 := by
          rw [ero_44, ero_28]
          have hr_53 : ¬ (48 ≤ (Tv 3).toInt ∧ (Tv 3).toInt ≤ 57) := by
            have z_1 := congrArg Int32.toInt c_8
            have z_2 : ¬ (r_13 : Int32).toInt = ((-1) : Int32).toInt := fun z => c_16 (Int32.toInt_inj.mp z)
            have y_m1 : (-1 : Int32).toInt = -1 := by decide
            have y_0 : (0 : Int32).toInt = 0 := by decide
            omega
          have hr_54 : ¬ (r_13 : Int32).toInt = -1 := by
            have z_1 := congrArg Int32.toInt c_8
            have z_2 : ¬ (r_13 : Int32).toInt = ((-1) : Int32).toInt := fun z => c_16 (Int32.toInt_inj.mp z)
            have y_m1 : (-1 : Int32).toInt = -1 := by decide
            have y_0 : (0 : Int32).toInt = 0 := by decide
            omega
          exact (val_wd h_r hr_53 (fun z => hr_54 (he_14.trans z)))
        rw [hE_52]
        exact cd_46
      exact retV hx hb hr hlk hP hD hS (sv_33, sv_21, sv_34, sv_39, sv_40, sv_41, sv_23) ⟨rfl, pf_42, pf_35, hf_47, hf_51⟩ [0, 1, 2, 3] rfl rfl dX7_readValue_62 (Nat.le_of_ble_eq_true rfl) (Nat.le_of_ble_eq_true rfl) rfl
    · skip
      refine lv_aload_n hx hb dX7_readValue_35 rfl (lv_at hl 3 rfl) ?_
      refine lv_iconst (v := 0) hx hb dX7_readValue_36 (by decide) ?_
      have ha_55 : 0 ≤ (0 : Int32).toInt ∧ (0 : Int32).toInt ≤ 4 := by
        have z_1 := congrArg Int32.toInt c_8
        have z_2 := congrArg Int32.toInt c_16
        have y_m1 : (-1 : Int32).toInt = -1 := by decide
        have y_0 : (0 : Int32).toInt = 0 := by decide
        omega
      have ha_56 : (0 : Int32).toInt = (0 : Int) := by
        have z_1 := congrArg Int32.toInt c_8
        have z_2 := congrArg Int32.toInt c_16
        have y_m1 : (-1 : Int32).toInt = -1 := by decide
        have y_0 : (0 : Int32).toInt = 0 := by decide
        omega
      refine cV (a := (Ta 0)) (As := [.int 0]) (rest := []) (wr := [((Va 0), .inr (7, [.ref (Va 1), .int (Vv 0), .int (Vv 1)])), ((Va 1), .inl (tc 0, 400, .inl (Vf 1)))]) ⟨hx, hb, hml, hown, hts⟩ hK hX hA (cu_fX10_fail l D tc sk (Ta 0) (Ta 1) (Tv 0) (Tv 1) (Tv 2) (Tv 3) (Tv 4) (Tf 1) 0 rr 0 h_tape h_r ha_55 ha_56) k_557 k_619 k_555 k_556 k_96 pl_X10_fail ⟨Nat.le_of_ble_eq_true rfl, Nat.le_of_ble_eq_true rfl⟩ rfl rfl (va_recv hK hP (ci := 10) (q0 := 2) rfl rfl) hP hD hS [2, 3] [0, 1] rfl rfl rfl rfl rfl (by decide) rfl hl.1 rfl (Nat.le_of_ble_eq_true rfl) dX7_readValue_37 ⟨Nat.le_of_ble_eq_true rfl, Nat.le_of_ble_eq_true rfl⟩ (fun v_57 u_58 H locs hv_59 hP₀ hD₀ hS₀ => ?_)
      obtain ⟨sv_60, sv_61⟩ := u_58
      obtain ⟨rfl, pf_62, pf_63⟩ := hv_59
      have pf_62 : 0 ≤ ((Tv 0) : Int32).toInt ∧ ((Tv 0) : Int32).toInt ≤ 400 ∧ 0 ≤ ((Tv 1) : Int32).toInt ∧ ((Tv 1) : Int32).toInt ≤ 400 ∧ 0 ≤ ((Tv 2) : Int32).toInt ∧ ((Tv 2) : Int32).toInt ≤ 400 := pf_62
      have pf_63 : TpR (Tf 1) (Tv 0) (rER (0 : Int) rr) (Tv 1) (Tv 2) sv_60 sv_61 := pf_63
      obtain ⟨ro_64, ero_64⟩ : ∃ z : Except Int (Nat × Nat), z = (rER 0 rr) := ⟨_, rfl⟩
      rw [← ero_64] at pf_63
      have tb_65 : TpB (rTE (cB (Tf 1) (Tv 0)) ro_64) (Tv 2) sv_61 := TpR.tb pf_63
      have cd_66 : Ctd ro_64 (Vv 1) := by rw [ero_64]; exact (Ctd.er)
      refine W.eq (g2 := F0 m 40 ls []) rfl ?_
      replace hP : va_P D classes [((Va 0), .inr (7, [.ref (Va 1), .int (Vv 0), .int (Vv 1)])), ((Va 1), .inl (tc 0, 400, .inl (Vf 1))), ((Ta 0), .inr (10, [.ref (Ta 1), .int (Tv 0), .int (Tv 1), .int (Tv 2), .int sv_60, .int sv_61])), ((Ta 1), .inl (tc 0, 400, .inl (Tf 1)))] H := hP₀
      replace hD : va_D A [((Va 0), .inr (7, [.ref (Va 1), .int (Vv 0), .int (Vv 1)])), ((Va 1), .inl (tc 0, 400, .inl (Vf 1))), ((Ta 0), .inr (10, [.ref (Ta 1), .int (Tv 0), .int (Tv 1), .int (Tv 2), .int sv_60, .int sv_61])), ((Ta 1), .inl (tc 0, 400, .inl (Tf 1)))] := hD₀
      replace hS := hS₀
      clear hP₀ hD₀ hS₀
      refine lv_goto (tgt := 48) hx hb dX7_readValue_40 (by decide) ?_
      refine lv_aload_n hx hb dX7_readValue_48 rfl (lv_at hl 2 rfl) ?_
      refine lv_aload_n hx hb dX7_readValue_49 rfl (lv_at hl 3 rfl) ?_
      refine cV (a := (Va 0)) (As := [.ref (Ta 0)]) (rest := []) (wr := []) ⟨hx, hb, hml, hown, hts⟩ hK hX hA (cu_fX7_countOne l D tc sk (Va 0) (Va 1) (Vv 0) (Vv 1) (Vf 1) (Ta 0) (Ta 1) (Tv 0) (Tv 1) (Tv 2) sv_60 sv_61 (Tf 1) ro_64 pf_62 h_u h_by pf_63 cd_66) k_638 k_635 k_637 k_9 k_99 pl_X7_countOne ⟨Nat.le_of_ble_eq_true rfl, Nat.le_of_ble_eq_true rfl⟩ rfl rfl (va_recv hK hP (ci := 7) (q0 := 0) rfl rfl) hP hD hS [0, 1, 2, 3] [] rfl rfl rfl rfl rfl (by decide) rfl hl.1 rfl (Nat.le_of_ble_eq_true rfl) dX7_readValue_50 ⟨Nat.le_of_ble_eq_true rfl, Nat.le_of_ble_eq_true rfl⟩ (fun v_67 u_68 H locs hv_69 hP₀ hD₀ hS₀ => ?_)
      obtain ⟨sv_70, sv_71, sv_72⟩ := u_68
      obtain ⟨rfl, pf_73, pf_74, pf_75, pf_76⟩ := hv_69
      have pf_73 : 0 ≤ ((Tv 0) : Int32).toInt ∧ ((Tv 0) : Int32).toInt ≤ 400 ∧ 0 ≤ ((Tv 1) : Int32).toInt ∧ ((Tv 1) : Int32).toInt ≤ 400 ∧ 0 ≤ ((Tv 2) : Int32).toInt ∧ ((Tv 2) : Int32).toInt ≤ 400 := pf_73
      have pf_74 : 0 ≤ ((Vv 0) : Int32).toInt ∧ ((Vv 0) : Int32).toInt ≤ 400 := pf_74
      have pf_75 : TpR (Tf 1) (Tv 0) (rC1 ro_64) (Tv 1) (Tv 2) sv_71 sv_72 := pf_75
      obtain ⟨ro_77, ero_77⟩ : ∃ z : Except Int (Nat × Nat), z = (rC1 ro_64) := ⟨_, rfl⟩
      rw [← ero_77] at pf_75
      have tb_78 : TpB (rTE (cB (Tf 1) (Tv 0)) ro_77) (Tv 2) sv_72 := TpR.tb pf_75
      have pf_76 : Ctd (rC1 ro_64) sv_70 := pf_76
      rw [← ero_77] at pf_76
      refine W.eq (g2 := F0 m 53 ls []) rfl ?_
      replace hP : va_P D classes [((Va 0), .inr (7, [.ref (Va 1), .int (Vv 0), .int sv_70])), ((Va 1), .inl (tc 0, 400, .inl (Vf 1))), ((Ta 0), .inr (10, [.ref (Ta 1), .int (Tv 0), .int (Tv 1), .int (Tv 2), .int sv_71, .int sv_72])), ((Ta 1), .inl (tc 0, 400, .inl (Tf 1)))] H := hP₀
      replace hD : va_D A [((Va 0), .inr (7, [.ref (Va 1), .int (Vv 0), .int sv_70])), ((Va 1), .inl (tc 0, 400, .inl (Vf 1))), ((Ta 0), .inr (10, [.ref (Ta 1), .int (Tv 0), .int (Tv 1), .int (Tv 2), .int sv_71, .int sv_72])), ((Ta 1), .inl (tc 0, 400, .inl (Tf 1)))] := hD₀
      replace hS := hS₀
      clear hP₀ hD₀ hS₀
      refine lv_aload_n hx hb dX7_readValue_53 rfl (lv_at hl 2 rfl) ?_
      refine lv_iload_n hx hb dX7_readValue_54 rfl (lv_at hl 1 rfl) ?_
      refine cV (a := (Va 0)) (As := [.int 0]) (rest := []) (wr := [((Ta 0), .inr (10, [.ref (Ta 1), .int (Tv 0), .int (Tv 1), .int (Tv 2), .int sv_71, .int sv_72])), ((Ta 1), .inl (tc 0, 400, .inl (Tf 1)))]) ⟨hx, hb, hml, hown, hts⟩ hK hX hA (cu_fX7_put l D tc sk (Va 0) (Va 1) (Vv 0) sv_70 (Vf 1) 0 pf_74) k_642 k_639 k_641 k_10 k_99 pl_X7_put ⟨Nat.le_of_ble_eq_true rfl, Nat.le_of_ble_eq_true rfl⟩ rfl rfl (va_recv hK hP (ci := 7) (q0 := 0) rfl rfl) hP hD hS [0, 1] [2, 3] rfl rfl rfl rfl rfl (by decide) rfl hl.1 rfl (Nat.le_of_ble_eq_true rfl) dX7_readValue_55 ⟨Nat.le_of_ble_eq_true rfl, Nat.le_of_ble_eq_true rfl⟩ (fun v_79 u_80 H locs hv_81 hP₀ hD₀ hS₀ => ?_)
      obtain ⟨sv_82, sv_83⟩ := u_80
      obtain ⟨rfl, pf_84⟩ := hv_81
      have pf_84 : 0 ≤ (sv_82 : Int32).toInt ∧ (sv_82 : Int32).toInt ≤ 400 := pf_84
      refine W.eq (g2 := F0 m 58 ls []) rfl ?_
      replace hP : va_P D classes [((Ta 0), .inr (10, [.ref (Ta 1), .int (Tv 0), .int (Tv 1), .int (Tv 2), .int sv_71, .int sv_72])), ((Ta 1), .inl (tc 0, 400, .inl (Tf 1))), ((Va 0), .inr (7, [.ref (Va 1), .int sv_82, .int sv_70])), ((Va 1), .inl (tc 0, 400, .inl sv_83))] H := hP₀
      replace hD : va_D A [((Ta 0), .inr (10, [.ref (Ta 1), .int (Tv 0), .int (Tv 1), .int (Tv 2), .int sv_71, .int sv_72])), ((Ta 1), .inl (tc 0, 400, .inl (Tf 1))), ((Va 0), .inr (7, [.ref (Va 1), .int sv_82, .int sv_70])), ((Va 1), .inl (tc 0, 400, .inl sv_83))] := hD₀
      replace hS := hS₀
      clear hP₀ hD₀ hS₀
      refine lv_aload_n hx hb dX7_readValue_58 rfl (lv_at hl 3 rfl) ?_
      refine cV (a := (Ta 0)) (As := []) (rest := []) (wr := [((Va 0), .inr (7, [.ref (Va 1), .int sv_82, .int sv_70])), ((Va 1), .inl (tc 0, 400, .inl sv_83))]) ⟨hx, hb, hml, hown, hts⟩ hK hX hA (cu_fX10_step l D tc sk (Ta 0) (Ta 1) (Tv 0) (Tv 1) (Tv 2) sv_71 sv_72 (Tf 1) (rTE (cB (Tf 1) (Tv 0)) ro_77) pf_73 h_by tb_78) k_478 k_620 k_476 k_477 k_96 pl_X10_step ⟨Nat.le_of_ble_eq_true rfl, Nat.le_of_ble_eq_true rfl⟩ rfl rfl (va_recv hK hP (ci := 10) (q0 := 0) rfl rfl) hP hD hS [0, 1] [2, 3] rfl rfl rfl rfl rfl (by decide) rfl hl.1 rfl (Nat.le_of_ble_eq_true rfl) dX7_readValue_59 ⟨Nat.le_of_ble_eq_true rfl, Nat.le_of_ble_eq_true rfl⟩ (fun v_85 u_86 H locs hv_87 hP₀ hD₀ hS₀ => ?_)
      obtain ⟨sv_88, sv_89, sv_90⟩ := u_86
      obtain ⟨rfl, pf_91, pf_92⟩ := hv_87
      have pf_91 : 0 ≤ ((Tv 0) : Int32).toInt ∧ ((Tv 0) : Int32).toInt ≤ 400 ∧ 0 ≤ (sv_88 : Int32).toInt ∧ (sv_88 : Int32).toInt ≤ 400 ∧ 0 ≤ (sv_89 : Int32).toInt ∧ (sv_89 : Int32).toInt ≤ 400 := pf_91
      have pf_92 : TpR (Tf 1) (Tv 0) (rSK (cB (Tf 1) (Tv 0)) (rTE (cB (Tf 1) (Tv 0)) ro_77)) sv_88 sv_89 sv_90 sv_72 := pf_92
      rw [rNX_eq] at pf_92
      obtain ⟨ro_93, ero_93⟩ : ∃ z : Except Int (Nat × Nat), z = (rNX (cB (Tf 1) (Tv 0)) ro_77) := ⟨_, rfl⟩
      rw [← ero_93] at pf_92
      have tb_94 : TpB (rTE (cB (Tf 1) (Tv 0)) ro_93) sv_89 sv_72 := TpR.tb pf_92
      have cd_95 : Ctd ro_93 sv_70 := by rw [ero_93]; exact (Ctd.nx pf_76)
      refine W.eq (g2 := F0 m 62 ls []) rfl ?_
      replace hP : va_P D classes [((Va 0), .inr (7, [.ref (Va 1), .int sv_82, .int sv_70])), ((Va 1), .inl (tc 0, 400, .inl sv_83)), ((Ta 0), .inr (10, [.ref (Ta 1), .int (Tv 0), .int sv_88, .int sv_89, .int sv_90, .int sv_72])), ((Ta 1), .inl (tc 0, 400, .inl (Tf 1)))] H := hP₀
      replace hD : va_D A [((Va 0), .inr (7, [.ref (Va 1), .int sv_82, .int sv_70])), ((Va 1), .inl (tc 0, 400, .inl sv_83)), ((Ta 0), .inr (10, [.ref (Ta 1), .int (Tv 0), .int sv_88, .int sv_89, .int sv_90, .int sv_72])), ((Ta 1), .inl (tc 0, 400, .inl (Tf 1)))] := hD₀
      replace hS := hS₀
      clear hP₀ hD₀ hS₀
      have hf_96 : TpR (Tf 1) (Tv 0) (pz_b rr (pz_val (cB (Tf 1) (Tv 0)))) sv_88 sv_89 sv_90 sv_72 := by
        have hE_97 : (pz_b rr (pz_val (cB (Tf 1) (Tv 0)))) = ro_93 := by
          rw [ero_93, ero_77, ero_64]
          have hr_98 : ¬ (48 ≤ (Tv 3).toInt ∧ (Tv 3).toInt ≤ 57) := by
            have z_1 := congrArg Int32.toInt c_8
            have z_2 := congrArg Int32.toInt c_16
            have y_m1 : (-1 : Int32).toInt = -1 := by decide
            have y_0 : (0 : Int32).toInt = 0 := by decide
            omega
          have hr_99 : (r_13 : Int32).toInt = -1 := by
            have z_1 := congrArg Int32.toInt c_8
            have z_2 := congrArg Int32.toInt c_16
            have y_m1 : (-1 : Int32).toInt = -1 := by decide
            have y_0 : (0 : Int32).toInt = 0 := by decide
            omega
          exact (val_no h_r hr_98 (he_14.symm.trans hr_99))
        rw [hE_97]
        exact pf_92
      have hf_100 : Ctd (pz_b rr (pz_val (cB (Tf 1) (Tv 0)))) sv_70 := by
        have hE_101 : (pz_b rr (pz_val (cB (Tf 1) (Tv 0)))) = ro_93 := by
          rw [ero_93, ero_77, ero_64]
          have hr_102 : ¬ (48 ≤ (Tv 3).toInt ∧ (Tv 3).toInt ≤ 57) := by
            have z_1 := congrArg Int32.toInt c_8
            have z_2 := congrArg Int32.toInt c_16
            have y_m1 : (-1 : Int32).toInt = -1 := by decide
            have y_0 : (0 : Int32).toInt = 0 := by decide
            omega
          have hr_103 : (r_13 : Int32).toInt = -1 := by
            have z_1 := congrArg Int32.toInt c_8
            have z_2 := congrArg Int32.toInt c_16
            have y_m1 : (-1 : Int32).toInt = -1 := by decide
            have y_0 : (0 : Int32).toInt = 0 := by decide
            omega
          exact (val_no h_r hr_102 (he_14.symm.trans hr_103))
        rw [hE_101]
        exact cd_95
      exact retV hx hb hr hlk hP hD hS (sv_82, sv_70, sv_83, sv_88, sv_89, sv_90, sv_72) ⟨rfl, pf_91, pf_84, hf_96, hf_100⟩ [0, 1, 2, 3] rfl rfl dX7_readValue_62 (Nat.le_of_ble_eq_true rfl) (Nat.le_of_ble_eq_true rfl) rfl
  · skip
    refine lv_aload_n hx hb dX7_readValue_12 rfl (lv_at hl 2 rfl) ?_
    refine lv_iconst (v := 0) hx hb dX7_readValue_13 (by decide) ?_
    refine lv_ldc hx hb hown (hts _ k_630) dX7_readValue_14 ?_
    have ha_104 : (0 : Int32).toInt = (0 : Int) := by
      have z_1 : ¬ (r_5 : Int32).toInt = (0 : Int32).toInt := fun z => c_8 (Int32.toInt_inj.mp z)
      have y_0 : (0 : Int32).toInt = 0 := by decide
      omega
    have ha_105 : (99999 : Int32).toInt = (99999 : Int) := by
      have z_1 : ¬ (r_5 : Int32).toInt = (0 : Int32).toInt := fun z => c_8 (Int32.toInt_inj.mp z)
      have y_0 : (0 : Int32).toInt = 0 := by decide
      have y_99999 : (99999 : Int32).toInt = 99999 := by decide
      omega
    refine cV (a := (Ta 0)) (As := [.int 0, .int 99999]) (rest := []) (wr := [((Va 0), .inr (7, [.ref (Va 1), .int (Vv 0), .int (Vv 1)])), ((Va 1), .inl (tc 0, 400, .inl (Vf 1)))]) ⟨hx, hb, hml, hown, hts⟩ hK hX hA (cu_fX10_numberHere l D tc sk (Ta 0) (Ta 1) (Tv 0) (Tv 1) (Tv 2) (Tv 3) (Tv 4) (Tf 1) 0 99999 rr 0 99999 h_tape h_by h_r ha_104 ha_105) k_570 k_631 k_568 k_569 k_96 pl_X10_numberHere ⟨Nat.le_of_ble_eq_true rfl, Nat.le_of_ble_eq_true rfl⟩ rfl rfl (va_recv hK hP (ci := 10) (q0 := 2) rfl rfl) hP hD hS [2, 3] [0, 1] rfl rfl rfl rfl rfl (by decide) rfl hl.1 rfl (Nat.le_of_ble_eq_true rfl) dX7_readValue_16 ⟨Nat.le_of_ble_eq_true rfl, Nat.le_of_ble_eq_true rfl⟩ (fun v_106 u_107 H locs hv_108 hP₀ hD₀ hS₀ => ?_)
    obtain ⟨sv_109, sv_110⟩ := u_107
    obtain ⟨r_113, rfl, he_114, pf_111, pf_112⟩ := hv_108
    have he_114 : NuV (cB (Tf 1) (Tv 0)) (0 : Int) (99999 : Int) rr r_113 := he_114
    have pf_111 : 0 ≤ ((Tv 0) : Int32).toInt ∧ ((Tv 0) : Int32).toInt ≤ 400 ∧ 0 ≤ ((Tv 1) : Int32).toInt ∧ ((Tv 1) : Int32).toInt ≤ 400 ∧ 0 ≤ ((Tv 2) : Int32).toInt ∧ ((Tv 2) : Int32).toInt ≤ 400 := pf_111
    have pf_112 : TpR (Tf 1) (Tv 0) (rNU (cB (Tf 1) (Tv 0)) (0 : Int) (99999 : Int) rr) (Tv 1) (Tv 2) sv_109 sv_110 := pf_112
    obtain ⟨ro_116, ero_116⟩ : ∃ z : Except Int (Nat × Nat), z = (rNU (cB (Tf 1) (Tv 0)) 0 99999 rr) := ⟨_, rfl⟩
    rw [← ero_116] at pf_112
    have tb_117 : TpB (rTE (cB (Tf 1) (Tv 0)) ro_116) (Tv 2) sv_110 := TpR.tb pf_112
    have cd_118 : Ctd ro_116 (Vv 1) := by rw [ero_116]; exact (Ctd.nu h_ct)
    refine W.eq (g2 := F0 m 19 ls [.int r_113]) rfl ?_
    replace hP : va_P D classes [((Va 0), .inr (7, [.ref (Va 1), .int (Vv 0), .int (Vv 1)])), ((Va 1), .inl (tc 0, 400, .inl (Vf 1))), ((Ta 0), .inr (10, [.ref (Ta 1), .int (Tv 0), .int (Tv 1), .int (Tv 2), .int sv_109, .int sv_110])), ((Ta 1), .inl (tc 0, 400, .inl (Tf 1)))] H := hP₀
    replace hD : va_D A [((Va 0), .inr (7, [.ref (Va 1), .int (Vv 0), .int (Vv 1)])), ((Va 1), .inl (tc 0, 400, .inl (Vf 1))), ((Ta 0), .inr (10, [.ref (Ta 1), .int (Tv 0), .int (Tv 1), .int (Tv 2), .int sv_109, .int sv_110])), ((Ta 1), .inl (tc 0, 400, .inl (Tf 1)))] := hD₀
    replace hS := hS₀
    clear hP₀ hD₀ hS₀
    refine lv_istore_n (lv' := [(2, .int r_113), (0, .ref (Va 0)), (1, .ref (Ta 0))]) hx hb dX7_readValue_19 rfl hl (by decide) rfl (fun ls hl₀ => ?_)
    replace hl := hl₀
    clear hl₀
    refine lv_goto (tgt := 48) hx hb dX7_readValue_20 (by decide) ?_
    refine lv_aload_n hx hb dX7_readValue_48 rfl (lv_at hl 1 rfl) ?_
    refine lv_aload_n hx hb dX7_readValue_49 rfl (lv_at hl 2 rfl) ?_
    refine cV (a := (Va 0)) (As := [.ref (Ta 0)]) (rest := []) (wr := []) ⟨hx, hb, hml, hown, hts⟩ hK hX hA (cu_fX7_countOne l D tc sk (Va 0) (Va 1) (Vv 0) (Vv 1) (Vf 1) (Ta 0) (Ta 1) (Tv 0) (Tv 1) (Tv 2) sv_109 sv_110 (Tf 1) ro_116 pf_111 h_u h_by pf_112 cd_118) k_638 k_635 k_637 k_9 k_99 pl_X7_countOne ⟨Nat.le_of_ble_eq_true rfl, Nat.le_of_ble_eq_true rfl⟩ rfl rfl (va_recv hK hP (ci := 7) (q0 := 0) rfl rfl) hP hD hS [0, 1, 2, 3] [] rfl rfl rfl rfl rfl (by decide) rfl hl.1 rfl (Nat.le_of_ble_eq_true rfl) dX7_readValue_50 ⟨Nat.le_of_ble_eq_true rfl, Nat.le_of_ble_eq_true rfl⟩ (fun v_119 u_120 H locs hv_121 hP₀ hD₀ hS₀ => ?_)
    obtain ⟨sv_122, sv_123, sv_124⟩ := u_120
    obtain ⟨rfl, pf_125, pf_126, pf_127, pf_128⟩ := hv_121
    have pf_125 : 0 ≤ ((Tv 0) : Int32).toInt ∧ ((Tv 0) : Int32).toInt ≤ 400 ∧ 0 ≤ ((Tv 1) : Int32).toInt ∧ ((Tv 1) : Int32).toInt ≤ 400 ∧ 0 ≤ ((Tv 2) : Int32).toInt ∧ ((Tv 2) : Int32).toInt ≤ 400 := pf_125
    have pf_126 : 0 ≤ ((Vv 0) : Int32).toInt ∧ ((Vv 0) : Int32).toInt ≤ 400 := pf_126
    have pf_127 : TpR (Tf 1) (Tv 0) (rC1 ro_116) (Tv 1) (Tv 2) sv_123 sv_124 := pf_127
    obtain ⟨ro_129, ero_129⟩ : ∃ z : Except Int (Nat × Nat), z = (rC1 ro_116) := ⟨_, rfl⟩
    rw [← ero_129] at pf_127
    have tb_130 : TpB (rTE (cB (Tf 1) (Tv 0)) ro_129) (Tv 2) sv_124 := TpR.tb pf_127
    have pf_128 : Ctd (rC1 ro_116) sv_122 := pf_128
    rw [← ero_129] at pf_128
    refine W.eq (g2 := F0 m 53 ls []) rfl ?_
    replace hP : va_P D classes [((Va 0), .inr (7, [.ref (Va 1), .int (Vv 0), .int sv_122])), ((Va 1), .inl (tc 0, 400, .inl (Vf 1))), ((Ta 0), .inr (10, [.ref (Ta 1), .int (Tv 0), .int (Tv 1), .int (Tv 2), .int sv_123, .int sv_124])), ((Ta 1), .inl (tc 0, 400, .inl (Tf 1)))] H := hP₀
    replace hD : va_D A [((Va 0), .inr (7, [.ref (Va 1), .int (Vv 0), .int sv_122])), ((Va 1), .inl (tc 0, 400, .inl (Vf 1))), ((Ta 0), .inr (10, [.ref (Ta 1), .int (Tv 0), .int (Tv 1), .int (Tv 2), .int sv_123, .int sv_124])), ((Ta 1), .inl (tc 0, 400, .inl (Tf 1)))] := hD₀
    replace hS := hS₀
    clear hP₀ hD₀ hS₀
    refine lv_aload_n hx hb dX7_readValue_53 rfl (lv_at hl 1 rfl) ?_
    refine lv_iload_n hx hb dX7_readValue_54 rfl (lv_at hl 0 rfl) ?_
    refine cV (a := (Va 0)) (As := [.int r_113]) (rest := []) (wr := [((Ta 0), .inr (10, [.ref (Ta 1), .int (Tv 0), .int (Tv 1), .int (Tv 2), .int sv_123, .int sv_124])), ((Ta 1), .inl (tc 0, 400, .inl (Tf 1)))]) ⟨hx, hb, hml, hown, hts⟩ hK hX hA (cu_fX7_put l D tc sk (Va 0) (Va 1) (Vv 0) sv_122 (Vf 1) r_113 pf_126) k_642 k_639 k_641 k_10 k_99 pl_X7_put ⟨Nat.le_of_ble_eq_true rfl, Nat.le_of_ble_eq_true rfl⟩ rfl rfl (va_recv hK hP (ci := 7) (q0 := 0) rfl rfl) hP hD hS [0, 1] [2, 3] rfl rfl rfl rfl rfl (by decide) rfl hl.1 rfl (Nat.le_of_ble_eq_true rfl) dX7_readValue_55 ⟨Nat.le_of_ble_eq_true rfl, Nat.le_of_ble_eq_true rfl⟩ (fun v_131 u_132 H locs hv_133 hP₀ hD₀ hS₀ => ?_)
    obtain ⟨sv_134, sv_135⟩ := u_132
    obtain ⟨rfl, pf_136⟩ := hv_133
    have pf_136 : 0 ≤ (sv_134 : Int32).toInt ∧ (sv_134 : Int32).toInt ≤ 400 := pf_136
    refine W.eq (g2 := F0 m 58 ls []) rfl ?_
    replace hP : va_P D classes [((Ta 0), .inr (10, [.ref (Ta 1), .int (Tv 0), .int (Tv 1), .int (Tv 2), .int sv_123, .int sv_124])), ((Ta 1), .inl (tc 0, 400, .inl (Tf 1))), ((Va 0), .inr (7, [.ref (Va 1), .int sv_134, .int sv_122])), ((Va 1), .inl (tc 0, 400, .inl sv_135))] H := hP₀
    replace hD : va_D A [((Ta 0), .inr (10, [.ref (Ta 1), .int (Tv 0), .int (Tv 1), .int (Tv 2), .int sv_123, .int sv_124])), ((Ta 1), .inl (tc 0, 400, .inl (Tf 1))), ((Va 0), .inr (7, [.ref (Va 1), .int sv_134, .int sv_122])), ((Va 1), .inl (tc 0, 400, .inl sv_135))] := hD₀
    replace hS := hS₀
    clear hP₀ hD₀ hS₀
    refine lv_aload_n hx hb dX7_readValue_58 rfl (lv_at hl 2 rfl) ?_
    refine cV (a := (Ta 0)) (As := []) (rest := []) (wr := [((Va 0), .inr (7, [.ref (Va 1), .int sv_134, .int sv_122])), ((Va 1), .inl (tc 0, 400, .inl sv_135))]) ⟨hx, hb, hml, hown, hts⟩ hK hX hA (cu_fX10_step l D tc sk (Ta 0) (Ta 1) (Tv 0) (Tv 1) (Tv 2) sv_123 sv_124 (Tf 1) (rTE (cB (Tf 1) (Tv 0)) ro_129) pf_125 h_by tb_130) k_478 k_620 k_476 k_477 k_96 pl_X10_step ⟨Nat.le_of_ble_eq_true rfl, Nat.le_of_ble_eq_true rfl⟩ rfl rfl (va_recv hK hP (ci := 10) (q0 := 0) rfl rfl) hP hD hS [0, 1] [2, 3] rfl rfl rfl rfl rfl (by decide) rfl hl.1 rfl (Nat.le_of_ble_eq_true rfl) dX7_readValue_59 ⟨Nat.le_of_ble_eq_true rfl, Nat.le_of_ble_eq_true rfl⟩ (fun v_137 u_138 H locs hv_139 hP₀ hD₀ hS₀ => ?_)
    obtain ⟨sv_140, sv_141, sv_142⟩ := u_138
    obtain ⟨rfl, pf_143, pf_144⟩ := hv_139
    have pf_143 : 0 ≤ ((Tv 0) : Int32).toInt ∧ ((Tv 0) : Int32).toInt ≤ 400 ∧ 0 ≤ (sv_140 : Int32).toInt ∧ (sv_140 : Int32).toInt ≤ 400 ∧ 0 ≤ (sv_141 : Int32).toInt ∧ (sv_141 : Int32).toInt ≤ 400 := pf_143
    have pf_144 : TpR (Tf 1) (Tv 0) (rSK (cB (Tf 1) (Tv 0)) (rTE (cB (Tf 1) (Tv 0)) ro_129)) sv_140 sv_141 sv_142 sv_124 := pf_144
    rw [rNX_eq] at pf_144
    obtain ⟨ro_145, ero_145⟩ : ∃ z : Except Int (Nat × Nat), z = (rNX (cB (Tf 1) (Tv 0)) ro_129) := ⟨_, rfl⟩
    rw [← ero_145] at pf_144
    have tb_146 : TpB (rTE (cB (Tf 1) (Tv 0)) ro_145) sv_141 sv_124 := TpR.tb pf_144
    have cd_147 : Ctd ro_145 sv_122 := by rw [ero_145]; exact (Ctd.nx pf_128)
    refine W.eq (g2 := F0 m 62 ls []) rfl ?_
    replace hP : va_P D classes [((Va 0), .inr (7, [.ref (Va 1), .int sv_134, .int sv_122])), ((Va 1), .inl (tc 0, 400, .inl sv_135)), ((Ta 0), .inr (10, [.ref (Ta 1), .int (Tv 0), .int sv_140, .int sv_141, .int sv_142, .int sv_124])), ((Ta 1), .inl (tc 0, 400, .inl (Tf 1)))] H := hP₀
    replace hD : va_D A [((Va 0), .inr (7, [.ref (Va 1), .int sv_134, .int sv_122])), ((Va 1), .inl (tc 0, 400, .inl sv_135)), ((Ta 0), .inr (10, [.ref (Ta 1), .int (Tv 0), .int sv_140, .int sv_141, .int sv_142, .int sv_124])), ((Ta 1), .inl (tc 0, 400, .inl (Tf 1)))] := hD₀
    replace hS := hS₀
    clear hP₀ hD₀ hS₀
    have hf_148 : TpR (Tf 1) (Tv 0) (pz_b rr (pz_val (cB (Tf 1) (Tv 0)))) sv_140 sv_141 sv_142 sv_124 := by
      have hE_149 : (pz_b rr (pz_val (cB (Tf 1) (Tv 0)))) = ro_145 := by
        rw [ero_145, ero_129, ero_116]
        have hr_150 : 48 ≤ (Tv 3).toInt ∧ (Tv 3).toInt ≤ 57 := by
          have z_1 : ¬ (r_5 : Int32).toInt = (0 : Int32).toInt := fun z => c_8 (Int32.toInt_inj.mp z)
          have y_0 : (0 : Int32).toInt = 0 := by decide
          omega
        exact (val_dig h_r hr_150)
      rw [hE_149]
      exact pf_144
    have hf_151 : Ctd (pz_b rr (pz_val (cB (Tf 1) (Tv 0)))) sv_122 := by
      have hE_152 : (pz_b rr (pz_val (cB (Tf 1) (Tv 0)))) = ro_145 := by
        rw [ero_145, ero_129, ero_116]
        have hr_153 : 48 ≤ (Tv 3).toInt ∧ (Tv 3).toInt ≤ 57 := by
          have z_1 : ¬ (r_5 : Int32).toInt = (0 : Int32).toInt := fun z => c_8 (Int32.toInt_inj.mp z)
          have y_0 : (0 : Int32).toInt = 0 := by decide
          omega
        exact (val_dig h_r hr_153)
      rw [hE_152]
      exact cd_147
    exact retV hx hb hr hlk hP hD hS (sv_134, sv_122, sv_135, sv_140, sv_141, sv_142, sv_124) ⟨rfl, pf_143, pf_136, hf_148, hf_151⟩ [0, 1, 2, 3] rfl rfl dX7_readValue_62 (Nat.le_of_ble_eq_true rfl) (Nat.le_of_ble_eq_true rfl) rfl
set_option maxRecDepth 100000 in
theorem cu_fX7_readValue (l : Launch) (D : va_G) (tc : Nat → ClassId) (sk : (Nat → Nat) × (Nat → Nat)) (Va_0 : Nat) (Va_1 : Nat) (Vv_0 : Int32) (Vv_1 : Int32) (Vf_1 : Nat → Int32) (Ta_0 : Nat) (Ta_1 : Nat) (Tv_0 : Int32) (Tv_1 : Int32) (Tv_2 : Int32) (Tv_3 : Int32) (Tv_4 : Int32) (Tf_1 : Nat → Int32) (rr : Except Int (Nat × Nat)) (h_tape : 0 ≤ (Tv_0 : Int32).toInt ∧ (Tv_0 : Int32).toInt ≤ 400 ∧ 0 ≤ (Tv_1 : Int32).toInt ∧ (Tv_1 : Int32).toInt ≤ 400 ∧ 0 ≤ (Tv_2 : Int32).toInt ∧ (Tv_2 : Int32).toInt ≤ 400) (h_u : 0 ≤ (Vv_0 : Int32).toInt ∧ (Vv_0 : Int32).toInt ≤ 400) (h_by : Byt Tf_1) (h_r : TpR Tf_1 Tv_0 rr Tv_1 Tv_2 Tv_3 Tv_4) (h_ct : Ctd rr Vv_1) : Ct l yX7_readValue cX7_readValue 4 none { frames := 6, cells := 0, slots := 0, locals := 133 } D tc sk [.ref Va_0, .ref Ta_0] [(Va_0, .inr (7, [.ref Va_1, .int Vv_0, .int Vv_1])), (Va_1, .inl (tc 0, 400, .inl Vf_1)), (Ta_0, .inr (10, [.ref Ta_1, .int Tv_0, .int Tv_1, .int Tv_2, .int Tv_3, .int Tv_4])), (Ta_1, .inl (tc 0, 400, .inl Tf_1))] (fun (v : Option Value) (u : (Int32) × (Int32) × (Nat → Int32) × (Int32) × (Int32) × (Int32) × (Int32)) => match u with | (oo0x1, oo0x2, oo0x3, oo0x4, oo0x5, oo0x6, oo0x7) => v = none ∧ (0 ≤ (Tv_0 : Int32).toInt ∧ (Tv_0 : Int32).toInt ≤ 400 ∧ 0 ≤ (oo0x4 : Int32).toInt ∧ (oo0x4 : Int32).toInt ≤ 400 ∧ 0 ≤ (oo0x5 : Int32).toInt ∧ (oo0x5 : Int32).toInt ≤ 400) ∧ (0 ≤ (oo0x1 : Int32).toInt ∧ (oo0x1 : Int32).toInt ≤ 400) ∧ (TpR Tf_1 Tv_0 (pz_b rr (pz_val (cB Tf_1 Tv_0))) oo0x4 oo0x5 oo0x6 oo0x7) ∧ (Ctd (pz_b rr (pz_val (cB Tf_1 Tv_0))) oo0x2)) (fun (u : (Int32) × (Int32) × (Nat → Int32) × (Int32) × (Int32) × (Int32) × (Int32)) => match u with | (oo0x1, oo0x2, oo0x3, oo0x4, oo0x5, oo0x6, oo0x7) => [(Va_0, .inr (7, [.ref Va_1, .int oo0x1, .int oo0x2])), (Va_1, .inl (tc 0, 400, .inl oo0x3)), (Ta_0, .inr (10, [.ref Ta_1, .int Tv_0, .int oo0x4, .int oo0x5, .int oo0x6, .int oo0x7])), (Ta_1, .inl (tc 0, 400, .inl Tf_1))]) 0 0 :=
  ct_fX7_readValue l D tc sk (fun k => ([Va_0, Va_1] : List (Nat)).getD k 0) (fun k => ([Vv_0, Vv_1] : List (Int32)).getD k 0) (fun k => ([(fun _ => 0), Vf_1] : List (Nat → Int32)).getD k (fun _ => 0)) (fun k => ([Ta_0, Ta_1] : List (Nat)).getD k 0) (fun k => ([Tv_0, Tv_1, Tv_2, Tv_3, Tv_4] : List (Int32)).getD k 0) (fun k => ([(fun _ => 0), Tf_1] : List (Nat → Int32)).getD k (fun _ => 0)) rr h_tape h_u h_by h_r h_ct
set_option maxHeartbeats 4000000 in
set_option maxRecDepth 100000 in
theorem ct_fX7_readSum (l : Launch) (D : va_G) (tc : Nat → ClassId) (sk : (Nat → Nat) × (Nat → Nat)) (Va : Nat → Nat) (Vv : Nat → Int32) (Vf : Nat → Nat → Int32) (Ta : Nat → Nat) (Tv : Nat → Int32) (Tf : Nat → Nat → Int32) (rr : Except Int (Nat × Nat)) (h_tape : 0 ≤ ((Tv 0) : Int32).toInt ∧ ((Tv 0) : Int32).toInt ≤ 400 ∧ 0 ≤ ((Tv 1) : Int32).toInt ∧ ((Tv 1) : Int32).toInt ≤ 400 ∧ 0 ≤ ((Tv 2) : Int32).toInt ∧ ((Tv 2) : Int32).toInt ≤ 400) (h_u : 0 ≤ ((Vv 0) : Int32).toInt ∧ ((Vv 0) : Int32).toInt ≤ 400) (h_by : Byt (Tf 1)) (h_r : TpR (Tf 1) (Tv 0) rr (Tv 1) (Tv 2) (Tv 3) (Tv 4)) (h_ct : Ctd rr (Vv 1)) : Ct l yX7_readSum cX7_readSum 5 none { frames := 7, cells := 0, slots := 0, locals := 156 } D tc sk [.ref (Va 0), .ref (Ta 0)] [((Va 0), .inr (7, [.ref (Va 1), .int (Vv 0), .int (Vv 1)])), ((Va 1), .inl (tc 0, 400, .inl (Vf 1))), ((Ta 0), .inr (10, [.ref (Ta 1), .int (Tv 0), .int (Tv 1), .int (Tv 2), .int (Tv 3), .int (Tv 4)])), ((Ta 1), .inl (tc 0, 400, .inl (Tf 1)))] (fun (v : Option Value) (u : (Int32) × (Int32) × (Nat → Int32) × (Int32) × (Int32) × (Int32) × (Int32)) => match u with | (oo0x1, oo0x2, oo0x3, oo0x4, oo0x5, oo0x6, oo0x7) => v = none ∧ (0 ≤ ((Tv 0) : Int32).toInt ∧ ((Tv 0) : Int32).toInt ≤ 400 ∧ 0 ≤ (oo0x4 : Int32).toInt ∧ (oo0x4 : Int32).toInt ≤ 400 ∧ 0 ≤ (oo0x5 : Int32).toInt ∧ (oo0x5 : Int32).toInt ≤ 400) ∧ (0 ≤ (oo0x1 : Int32).toInt ∧ (oo0x1 : Int32).toInt ≤ 400) ∧ (TpR (Tf 1) (Tv 0) (pz_b rr (pz_sum (cB (Tf 1) (Tv 0)))) oo0x4 oo0x5 oo0x6 oo0x7) ∧ (Ctd (pz_b rr (pz_sum (cB (Tf 1) (Tv 0)))) oo0x2)) (fun (u : (Int32) × (Int32) × (Nat → Int32) × (Int32) × (Int32) × (Int32) × (Int32)) => match u with | (oo0x1, oo0x2, oo0x3, oo0x4, oo0x5, oo0x6, oo0x7) => [((Va 0), .inr (7, [.ref (Va 1), .int oo0x1, .int oo0x2])), ((Va 1), .inl (tc 0, 400, .inl oo0x3)), ((Ta 0), .inr (10, [.ref (Ta 1), .int (Tv 0), .int oo0x4, .int oo0x5, .int oo0x6, .int oo0x7])), ((Ta 1), .inl (tc 0, 400, .inl (Tf 1)))]) 0 0 := by
  refine Ct.start (by decide) (Nat.le_of_ble_eq_true rfl) (fun p e s m below meth c A ls hx hb hr hlk hin hml hown hts hK hX hP hD hA hl hS => ?_)
  have hl : lv_has ls 5 [(0, .ref (Va 0)), (1, .ref (Ta 0))] := hl
  have tb_1 : TpB (rTE (cB (Tf 1) (Tv 0)) rr) (Tv 2) (Tv 4) := TpR.tb h_r
  refine lv_aload_n hx hb dX7_readSum_0 rfl (lv_at hl 0 rfl) ?_
  refine lv_aload_n hx hb dX7_readSum_1 rfl (lv_at hl 1 rfl) ?_
  refine cV (a := (Va 0)) (As := [.ref (Ta 0)]) (rest := []) (wr := []) ⟨hx, hb, hml, hown, hts⟩ hK hX hA (cu_fX7_readValue l D tc sk (Va 0) (Va 1) (Vv 0) (Vv 1) (Vf 1) (Ta 0) (Ta 1) (Tv 0) (Tv 1) (Tv 2) (Tv 3) (Tv 4) (Tf 1) rr h_tape h_u h_by h_r h_ct) k_628 k_625 k_627 k_8 k_99 pl_X7_readValue ⟨Nat.le_of_ble_eq_true rfl, Nat.le_of_ble_eq_true rfl⟩ rfl rfl (va_recv hK hP (ci := 7) (q0 := 0) rfl rfl) hP hD hS [0, 1, 2, 3] [] rfl rfl rfl rfl rfl (by decide) rfl hl.1 rfl (Nat.le_of_ble_eq_true rfl) dX7_readSum_2 ⟨Nat.le_of_ble_eq_true rfl, Nat.le_of_ble_eq_true rfl⟩ (fun v_2 u_3 H locs hv_4 hP₀ hD₀ hS₀ => ?_)
  obtain ⟨sv_5, sv_6, sv_7, sv_8, sv_9, sv_10, sv_11⟩ := u_3
  obtain ⟨rfl, pf_12, pf_13, pf_14, pf_15⟩ := hv_4
  have pf_12 : 0 ≤ ((Tv 0) : Int32).toInt ∧ ((Tv 0) : Int32).toInt ≤ 400 ∧ 0 ≤ (sv_8 : Int32).toInt ∧ (sv_8 : Int32).toInt ≤ 400 ∧ 0 ≤ (sv_9 : Int32).toInt ∧ (sv_9 : Int32).toInt ≤ 400 := pf_12
  have pf_13 : 0 ≤ (sv_5 : Int32).toInt ∧ (sv_5 : Int32).toInt ≤ 400 := pf_13
  have pf_14 : TpR (Tf 1) (Tv 0) (pz_b rr (pz_val (cB (Tf 1) (Tv 0)))) sv_8 sv_9 sv_10 sv_11 := pf_14
  obtain ⟨ro_16, ero_16⟩ : ∃ z : Except Int (Nat × Nat), z = (pz_b rr (pz_val (cB (Tf 1) (Tv 0)))) := ⟨_, rfl⟩
  rw [← ero_16] at pf_14
  have tb_17 : TpB (rTE (cB (Tf 1) (Tv 0)) ro_16) sv_9 sv_11 := TpR.tb pf_14
  have pf_15 : Ctd (pz_b rr (pz_val (cB (Tf 1) (Tv 0)))) sv_6 := pf_15
  rw [← ero_16] at pf_15
  refine W.eq (g2 := F0 m 5 ls []) rfl ?_
  replace hP : va_P D classes [((Va 0), .inr (7, [.ref (Va 1), .int sv_5, .int sv_6])), ((Va 1), .inl (tc 0, 400, .inl sv_7)), ((Ta 0), .inr (10, [.ref (Ta 1), .int (Tv 0), .int sv_8, .int sv_9, .int sv_10, .int sv_11])), ((Ta 1), .inl (tc 0, 400, .inl (Tf 1)))] H := hP₀
  replace hD : va_D A [((Va 0), .inr (7, [.ref (Va 1), .int sv_5, .int sv_6])), ((Va 1), .inl (tc 0, 400, .inl sv_7)), ((Ta 0), .inr (10, [.ref (Ta 1), .int (Tv 0), .int sv_8, .int sv_9, .int sv_10, .int sv_11])), ((Ta 1), .inl (tc 0, 400, .inl (Tf 1)))] := hD₀
  replace hS := hS₀
  clear hP₀ hD₀ hS₀
  refine lv_iconst (v := (-1)) hx hb dX7_readSum_5 (by decide) ?_
  refine lv_istore_n (lv' := [(2, .int (-1)), (0, .ref (Va 0)), (1, .ref (Ta 0))]) hx hb dX7_readSum_6 rfl hl (by decide) rfl (fun ls hl₀ => ?_)
  replace hl := hl₀
  clear hl₀
  refine lv_iconst (v := 0) hx hb dX7_readSum_7 (by decide) ?_
  refine lv_istore_n (lv' := [(3, .int 0), (2, .int (-1)), (0, .ref (Va 0)), (1, .ref (Ta 0))]) hx hb dX7_readSum_8 rfl hl (by decide) rfl (fun ls hl₀ => ?_)
  replace hl := hl₀
  clear hl₀
  have loop_38 : ∀ (n_36 : Nat) (vy_27 : Int32) (vy_28 : Int32) (vy_29 : Int32) (vy_30 : Int32) (vy_31 : Nat → Int32) (vy_32 : Int32) (vy_33 : Int32) (vy_34 : Int32) (vy_35 : Int32) (H : Heap) (locs : List Loc) (ls : Array Slot), (401 - (vy_27 : Int32).toInt).toNat < n_36 → (0 ≤ (vy_27 : Int32).toInt ∧ (vy_27 : Int32).toInt ≤ 400) → (0 ≤ ((Tv 0) : Int32).toInt ∧ ((Tv 0) : Int32).toInt ≤ 400 ∧ 0 ≤ (vy_32 : Int32).toInt ∧ (vy_32 : Int32).toInt ≤ 400 ∧ 0 ≤ (vy_33 : Int32).toInt ∧ (vy_33 : Int32).toInt ≤ 400) → (0 ≤ (vy_29 : Int32).toInt ∧ (vy_29 : Int32).toInt ≤ 400) → (SmL (Tf 1) (Tv 0) (pz_b rr (pz_sum (cB (Tf 1) (Tv 0)))) vy_32 vy_33 vy_34 vy_35 vy_30 vy_27) → va_P D classes [((Va 0), .inr (7, [.ref (Va 1), .int vy_29, .int vy_30])), ((Va 1), .inl (tc 0, 400, .inl vy_31)), ((Ta 0), .inr (10, [.ref (Ta 1), .int (Tv 0), .int vy_32, .int vy_33, .int vy_34, .int vy_35])), ((Ta 1), .inl (tc 0, 400, .inl (Tf 1)))] H → va_D A [((Va 0), .inr (7, [.ref (Va 1), .int vy_29, .int vy_30])), ((Va 1), .inl (tc 0, 400, .inl vy_31)), ((Ta 0), .inr (10, [.ref (Ta 1), .int (Tv 0), .int vy_32, .int vy_33, .int vy_34, .int vy_35])), ((Ta 1), .inl (tc 0, 400, .inl (Tf 1)))] → va_S A s.heap H locs → lv_has ls 5 [(3, .int vy_27), (2, .int vy_28), (0, .ref (Va 0)), (1, .ref (Ta 0))] → W p l e ({ frames := 7, cells := 0, slots := 0, locals := 156 }) s m ([.ref (Va 0), .ref (Ta 0)].toArray) below meth c H locs 0 0 (MQ below (QW (fun (v : Option Value) (u : (Int32) × (Int32) × (Nat → Int32) × (Int32) × (Int32) × (Int32) × (Int32)) => match u with | (oo0x1, oo0x2, oo0x3, oo0x4, oo0x5, oo0x6, oo0x7) => v = none ∧ (0 ≤ ((Tv 0) : Int32).toInt ∧ ((Tv 0) : Int32).toInt ≤ 400 ∧ 0 ≤ (oo0x4 : Int32).toInt ∧ (oo0x4 : Int32).toInt ≤ 400 ∧ 0 ≤ (oo0x5 : Int32).toInt ∧ (oo0x5 : Int32).toInt ≤ 400) ∧ (0 ≤ (oo0x1 : Int32).toInt ∧ (oo0x1 : Int32).toInt ≤ 400) ∧ (TpR (Tf 1) (Tv 0) (pz_b rr (pz_sum (cB (Tf 1) (Tv 0)))) oo0x4 oo0x5 oo0x6 oo0x7) ∧ (Ctd (pz_b rr (pz_sum (cB (Tf 1) (Tv 0)))) oo0x2)) (BW D (fun (u : (Int32) × (Int32) × (Nat → Int32) × (Int32) × (Int32) × (Int32) × (Int32)) => match u with | (oo0x1, oo0x2, oo0x3, oo0x4, oo0x5, oo0x6, oo0x7) => [((Va 0), .inr (7, [.ref (Va 1), .int oo0x1, .int oo0x2])), ((Va 1), .inl (tc 0, 400, .inl oo0x3)), ((Ta 0), .inr (10, [.ref (Ta 1), .int (Tv 0), .int oo0x4, .int oo0x5, .int oo0x6, .int oo0x7])), ((Ta 1), .inl (tc 0, 400, .inl (Tf 1)))]) A) A) ([.ref (Va 0), .ref (Ta 0)].toArray) s 0 0 A) (F0 m 9 ls []) := by
    clear hP hD hS hl
    intro n_36
    induction n_36 with
    | zero =>
      intro vy_27 vy_28 vy_29 vy_30 vy_31 vy_32 vy_33 vy_34 vy_35 H locs ls h1
      exact absurd h1 (Nat.not_lt_zero _)
    | succ n_36 ih_37 =>
      intro vy_27 vy_28 vy_29 vy_30 vy_31 vy_32 vy_33 vy_34 vy_35 H locs ls hn_43 pf_39 pf_40 pf_41 pf_42 hP hD hS hl
      obtain ⟨rq_44, pf_45, pf_46, pf_47, pf_48⟩ := id pf_42
      have tb_49 : TpB (rTE (cB (Tf 1) (Tv 0)) rq_44) vy_33 vy_35 := TpR.tb pf_45
      refine lv_iload_n hx hb dX7_readSum_9 rfl (lv_at hl 0 rfl) ?_
      refine lv_sipush (v := 400) hx hb dX7_readSum_10 (by decide) ?_
      refine lv_icmp_ge (tgt := 86) hx hb dX7_readSum_13 (by decide) (fun c_50 => ?_) (fun c_50 => ?_)
      · skip
        refine lv_iload_n hx hb dX7_readSum_86 rfl (lv_at hl 1 rfl) ?_
        refine lv_iconst (v := (-1)) hx hb dX7_readSum_87 (by decide) ?_
        refine lv_icmp_eq (tgt := 96) hx hb dX7_readSum_88 (by decide) (fun c_51 => ?_) (fun c_51 => ?_)
        · skip
          have hf_52 : TpR (Tf 1) (Tv 0) (pz_b rr (pz_sum (cB (Tf 1) (Tv 0)))) vy_32 vy_33 vy_34 vy_35 := by
            have hr_53 : 400 ≤ (vy_27 : Int32).toInt ∨ ¬ ((vy_34 : Int32).toInt = 43 ∨ (vy_34 : Int32).toInt = 45 ∨ (vy_34 : Int32).toInt = 42 ∨ (vy_34 : Int32).toInt = 47 ∨ (vy_34 : Int32).toInt = 37) := by
              have z_1 := Int32.le_iff_toInt_le.mp c_50
              have z_2 := congrArg Int32.toInt c_51
              have y_m1 : (-1 : Int32).toInt = -1 := by decide
              have y_400 : (400 : Int32).toInt = 400 := by decide
              omega
            rw [pf_47, sum_end h_tape.2.1 pf_45 pf_48 hr_53]
            exact pf_45
          have hf_54 : Ctd (pz_b rr (pz_sum (cB (Tf 1) (Tv 0)))) vy_30 := by
            have hr_55 : 400 ≤ (vy_27 : Int32).toInt ∨ ¬ ((vy_34 : Int32).toInt = 43 ∨ (vy_34 : Int32).toInt = 45 ∨ (vy_34 : Int32).toInt = 42 ∨ (vy_34 : Int32).toInt = 47 ∨ (vy_34 : Int32).toInt = 37) := by
              have z_1 := Int32.le_iff_toInt_le.mp c_50
              have z_2 := congrArg Int32.toInt c_51
              have y_m1 : (-1 : Int32).toInt = -1 := by decide
              have y_400 : (400 : Int32).toInt = 400 := by decide
              omega
            rw [pf_47, sum_end h_tape.2.1 pf_45 pf_48 hr_55]
            exact pf_46
          exact retV hx hb hr hlk hP hD hS (vy_29, vy_30, vy_31, vy_32, vy_33, vy_34, vy_35) ⟨rfl, pf_40, pf_41, hf_52, hf_54⟩ [0, 1, 2, 3] rfl rfl dX7_readSum_96 (Nat.le_of_ble_eq_true rfl) (Nat.le_of_ble_eq_true rfl) rfl
        · skip
          refine lv_aload_n hx hb dX7_readSum_91 rfl (lv_at hl 2 rfl) ?_
          refine lv_iload_n hx hb dX7_readSum_92 rfl (lv_at hl 1 rfl) ?_
          refine cV (a := (Va 0)) (As := [.int vy_28]) (rest := []) (wr := [((Ta 0), .inr (10, [.ref (Ta 1), .int (Tv 0), .int vy_32, .int vy_33, .int vy_34, .int vy_35])), ((Ta 1), .inl (tc 0, 400, .inl (Tf 1)))]) ⟨hx, hb, hml, hown, hts⟩ hK hX hA (cu_fX7_put l D tc sk (Va 0) (Va 1) vy_29 vy_30 vy_31 vy_28 pf_41) k_642 k_639 k_641 k_10 k_99 pl_X7_put ⟨Nat.le_of_ble_eq_true rfl, Nat.le_of_ble_eq_true rfl⟩ rfl rfl (va_recv hK hP (ci := 7) (q0 := 0) rfl rfl) hP hD hS [0, 1] [2, 3] rfl rfl rfl rfl rfl (by decide) rfl hl.1 rfl (Nat.le_of_ble_eq_true rfl) dX7_readSum_93 ⟨Nat.le_of_ble_eq_true rfl, Nat.le_of_ble_eq_true rfl⟩ (fun v_56 u_57 H locs hv_58 hP₀ hD₀ hS₀ => ?_)
          obtain ⟨sv_59, sv_60⟩ := u_57
          obtain ⟨rfl, pf_61⟩ := hv_58
          have pf_61 : 0 ≤ (sv_59 : Int32).toInt ∧ (sv_59 : Int32).toInt ≤ 400 := pf_61
          refine W.eq (g2 := F0 m 96 ls []) rfl ?_
          replace hP : va_P D classes [((Ta 0), .inr (10, [.ref (Ta 1), .int (Tv 0), .int vy_32, .int vy_33, .int vy_34, .int vy_35])), ((Ta 1), .inl (tc 0, 400, .inl (Tf 1))), ((Va 0), .inr (7, [.ref (Va 1), .int sv_59, .int vy_30])), ((Va 1), .inl (tc 0, 400, .inl sv_60))] H := hP₀
          replace hD : va_D A [((Ta 0), .inr (10, [.ref (Ta 1), .int (Tv 0), .int vy_32, .int vy_33, .int vy_34, .int vy_35])), ((Ta 1), .inl (tc 0, 400, .inl (Tf 1))), ((Va 0), .inr (7, [.ref (Va 1), .int sv_59, .int vy_30])), ((Va 1), .inl (tc 0, 400, .inl sv_60))] := hD₀
          replace hS := hS₀
          clear hP₀ hD₀ hS₀
          have hf_62 : TpR (Tf 1) (Tv 0) (pz_b rr (pz_sum (cB (Tf 1) (Tv 0)))) vy_32 vy_33 vy_34 vy_35 := by
            have hr_63 : 400 ≤ (vy_27 : Int32).toInt ∨ ¬ ((vy_34 : Int32).toInt = 43 ∨ (vy_34 : Int32).toInt = 45 ∨ (vy_34 : Int32).toInt = 42 ∨ (vy_34 : Int32).toInt = 47 ∨ (vy_34 : Int32).toInt = 37) := by
              have z_1 := Int32.le_iff_toInt_le.mp c_50
              have z_2 : ¬ (vy_28 : Int32).toInt = ((-1) : Int32).toInt := fun z => c_51 (Int32.toInt_inj.mp z)
              have y_m1 : (-1 : Int32).toInt = -1 := by decide
              have y_400 : (400 : Int32).toInt = 400 := by decide
              omega
            rw [pf_47, sum_end h_tape.2.1 pf_45 pf_48 hr_63]
            exact pf_45
          have hf_64 : Ctd (pz_b rr (pz_sum (cB (Tf 1) (Tv 0)))) vy_30 := by
            have hr_65 : 400 ≤ (vy_27 : Int32).toInt ∨ ¬ ((vy_34 : Int32).toInt = 43 ∨ (vy_34 : Int32).toInt = 45 ∨ (vy_34 : Int32).toInt = 42 ∨ (vy_34 : Int32).toInt = 47 ∨ (vy_34 : Int32).toInt = 37) := by
              have z_1 := Int32.le_iff_toInt_le.mp c_50
              have z_2 : ¬ (vy_28 : Int32).toInt = ((-1) : Int32).toInt := fun z => c_51 (Int32.toInt_inj.mp z)
              have y_m1 : (-1 : Int32).toInt = -1 := by decide
              have y_400 : (400 : Int32).toInt = 400 := by decide
              omega
            rw [pf_47, sum_end h_tape.2.1 pf_45 pf_48 hr_65]
            exact pf_46
          exact retV hx hb hr hlk hP hD hS (sv_59, vy_30, sv_60, vy_32, vy_33, vy_34, vy_35) ⟨rfl, pf_40, pf_61, hf_62, hf_64⟩ [2, 3, 0, 1] rfl rfl dX7_readSum_96 (Nat.le_of_ble_eq_true rfl) (Nat.le_of_ble_eq_true rfl) rfl
      · skip
        refine lv_aload_n hx hb dX7_readSum_16 rfl (lv_at hl 3 rfl) ?_
        refine cS (As := [.ref (Ta 0)]) (rest := []) (wr := [((Va 0), .inr (7, [.ref (Va 1), .int vy_29, .int vy_30])), ((Va 1), .inl (tc 0, 400, .inl vy_31))]) ⟨hx, hb, hml, hown, hts⟩ hK hX hA (cu_fX7_arithmetic l D tc sk (Ta 0) (Ta 1) (Tv 0) vy_32 vy_33 vy_34 vy_35 (Tf 1) pf_40) k_645 k_643 k_644 k_99 pl_X7_arithmetic ⟨Nat.le_of_ble_eq_true rfl, Nat.le_of_ble_eq_true rfl⟩ rfl rfl  hP hD hS [2, 3] [0, 1] rfl rfl rfl rfl rfl (by decide) rfl hl.1 rfl (Nat.le_of_ble_eq_true rfl) dX7_readSum_17 ⟨Nat.le_of_ble_eq_true rfl, Nat.le_of_ble_eq_true rfl⟩ (fun v_66 u_67 H locs hv_68 hP₀ hD₀ hS₀ => ?_)
        obtain ⟨r_69, rfl, he_70⟩ := hv_68
        have he_70 : ((r_69.toInt = -1 ∧ ¬ (vy_34.toInt = 43 ∨ vy_34.toInt = 45 ∨ vy_34.toInt = 42 ∨ vy_34.toInt = 47 ∨ vy_34.toInt = 37)) ∨ (r_69.toInt ≤ -12 ∧ (vy_34.toInt = 43 ∨ vy_34.toInt = 45 ∨ vy_34.toInt = 42 ∨ vy_34.toInt = 47 ∨ vy_34.toInt = 37))) := he_70
        refine W.eq (g2 := F0 m 20 ls [.int r_69]) rfl ?_
        replace hP : va_P D classes [((Va 0), .inr (7, [.ref (Va 1), .int vy_29, .int vy_30])), ((Va 1), .inl (tc 0, 400, .inl vy_31)), ((Ta 0), .inr (10, [.ref (Ta 1), .int (Tv 0), .int vy_32, .int vy_33, .int vy_34, .int vy_35])), ((Ta 1), .inl (tc 0, 400, .inl (Tf 1)))] H := hP₀
        replace hD : va_D A [((Va 0), .inr (7, [.ref (Va 1), .int vy_29, .int vy_30])), ((Va 1), .inl (tc 0, 400, .inl vy_31)), ((Ta 0), .inr (10, [.ref (Ta 1), .int (Tv 0), .int vy_32, .int vy_33, .int vy_34, .int vy_35])), ((Ta 1), .inl (tc 0, 400, .inl (Tf 1)))] := hD₀
        replace hS := hS₀
        clear hP₀ hD₀ hS₀
        refine lv_iconst (v := (-1)) hx hb dX7_readSum_20 (by decide) ?_
        refine lv_icmp_eq (tgt := 86) hx hb dX7_readSum_21 (by decide) (fun c_72 => ?_) (fun c_72 => ?_)
        · skip
          refine lv_iload_n hx hb dX7_readSum_86 rfl (lv_at hl 1 rfl) ?_
          refine lv_iconst (v := (-1)) hx hb dX7_readSum_87 (by decide) ?_
          refine lv_icmp_eq (tgt := 96) hx hb dX7_readSum_88 (by decide) (fun c_73 => ?_) (fun c_73 => ?_)
          · skip
            have hf_74 : TpR (Tf 1) (Tv 0) (pz_b rr (pz_sum (cB (Tf 1) (Tv 0)))) vy_32 vy_33 vy_34 vy_35 := by
              have hr_75 : 400 ≤ (vy_27 : Int32).toInt ∨ ¬ ((vy_34 : Int32).toInt = 43 ∨ (vy_34 : Int32).toInt = 45 ∨ (vy_34 : Int32).toInt = 42 ∨ (vy_34 : Int32).toInt = 47 ∨ (vy_34 : Int32).toInt = 37) := by
                have z_1 := Int32.lt_iff_toInt_lt.mp (Int32.not_le.mp c_50)
                have z_2 := congrArg Int32.toInt c_72
                have z_3 := congrArg Int32.toInt c_73
                have y_m1 : (-1 : Int32).toInt = -1 := by decide
                have y_400 : (400 : Int32).toInt = 400 := by decide
                omega
              rw [pf_47, sum_end h_tape.2.1 pf_45 pf_48 hr_75]
              exact pf_45
            have hf_76 : Ctd (pz_b rr (pz_sum (cB (Tf 1) (Tv 0)))) vy_30 := by
              have hr_77 : 400 ≤ (vy_27 : Int32).toInt ∨ ¬ ((vy_34 : Int32).toInt = 43 ∨ (vy_34 : Int32).toInt = 45 ∨ (vy_34 : Int32).toInt = 42 ∨ (vy_34 : Int32).toInt = 47 ∨ (vy_34 : Int32).toInt = 37) := by
                have z_1 := Int32.lt_iff_toInt_lt.mp (Int32.not_le.mp c_50)
                have z_2 := congrArg Int32.toInt c_72
                have z_3 := congrArg Int32.toInt c_73
                have y_m1 : (-1 : Int32).toInt = -1 := by decide
                have y_400 : (400 : Int32).toInt = 400 := by decide
                omega
              rw [pf_47, sum_end h_tape.2.1 pf_45 pf_48 hr_77]
              exact pf_46
            exact retV hx hb hr hlk hP hD hS (vy_29, vy_30, vy_31, vy_32, vy_33, vy_34, vy_35) ⟨rfl, pf_40, pf_41, hf_74, hf_76⟩ [0, 1, 2, 3] rfl rfl dX7_readSum_96 (Nat.le_of_ble_eq_true rfl) (Nat.le_of_ble_eq_true rfl) rfl
          · skip
            refine lv_aload_n hx hb dX7_readSum_91 rfl (lv_at hl 2 rfl) ?_
            refine lv_iload_n hx hb dX7_readSum_92 rfl (lv_at hl 1 rfl) ?_
            refine cV (a := (Va 0)) (As := [.int vy_28]) (rest := []) (wr := [((Ta 0), .inr (10, [.ref (Ta 1), .int (Tv 0), .int vy_32, .int vy_33, .int vy_34, .int vy_35])), ((Ta 1), .inl (tc 0, 400, .inl (Tf 1)))]) ⟨hx, hb, hml, hown, hts⟩ hK hX hA (cu_fX7_put l D tc sk (Va 0) (Va 1) vy_29 vy_30 vy_31 vy_28 pf_41) k_642 k_639 k_641 k_10 k_99 pl_X7_put ⟨Nat.le_of_ble_eq_true rfl, Nat.le_of_ble_eq_true rfl⟩ rfl rfl (va_recv hK hP (ci := 7) (q0 := 0) rfl rfl) hP hD hS [0, 1] [2, 3] rfl rfl rfl rfl rfl (by decide) rfl hl.1 rfl (Nat.le_of_ble_eq_true rfl) dX7_readSum_93 ⟨Nat.le_of_ble_eq_true rfl, Nat.le_of_ble_eq_true rfl⟩ (fun v_78 u_79 H locs hv_80 hP₀ hD₀ hS₀ => ?_)
            obtain ⟨sv_81, sv_82⟩ := u_79
            obtain ⟨rfl, pf_83⟩ := hv_80
            have pf_83 : 0 ≤ (sv_81 : Int32).toInt ∧ (sv_81 : Int32).toInt ≤ 400 := pf_83
            refine W.eq (g2 := F0 m 96 ls []) rfl ?_
            replace hP : va_P D classes [((Ta 0), .inr (10, [.ref (Ta 1), .int (Tv 0), .int vy_32, .int vy_33, .int vy_34, .int vy_35])), ((Ta 1), .inl (tc 0, 400, .inl (Tf 1))), ((Va 0), .inr (7, [.ref (Va 1), .int sv_81, .int vy_30])), ((Va 1), .inl (tc 0, 400, .inl sv_82))] H := hP₀
            replace hD : va_D A [((Ta 0), .inr (10, [.ref (Ta 1), .int (Tv 0), .int vy_32, .int vy_33, .int vy_34, .int vy_35])), ((Ta 1), .inl (tc 0, 400, .inl (Tf 1))), ((Va 0), .inr (7, [.ref (Va 1), .int sv_81, .int vy_30])), ((Va 1), .inl (tc 0, 400, .inl sv_82))] := hD₀
            replace hS := hS₀
            clear hP₀ hD₀ hS₀
            have hf_84 : TpR (Tf 1) (Tv 0) (pz_b rr (pz_sum (cB (Tf 1) (Tv 0)))) vy_32 vy_33 vy_34 vy_35 := by
              have hr_85 : 400 ≤ (vy_27 : Int32).toInt ∨ ¬ ((vy_34 : Int32).toInt = 43 ∨ (vy_34 : Int32).toInt = 45 ∨ (vy_34 : Int32).toInt = 42 ∨ (vy_34 : Int32).toInt = 47 ∨ (vy_34 : Int32).toInt = 37) := by
                have z_1 := Int32.lt_iff_toInt_lt.mp (Int32.not_le.mp c_50)
                have z_2 := congrArg Int32.toInt c_72
                have z_3 : ¬ (vy_28 : Int32).toInt = ((-1) : Int32).toInt := fun z => c_73 (Int32.toInt_inj.mp z)
                have y_m1 : (-1 : Int32).toInt = -1 := by decide
                have y_400 : (400 : Int32).toInt = 400 := by decide
                omega
              rw [pf_47, sum_end h_tape.2.1 pf_45 pf_48 hr_85]
              exact pf_45
            have hf_86 : Ctd (pz_b rr (pz_sum (cB (Tf 1) (Tv 0)))) vy_30 := by
              have hr_87 : 400 ≤ (vy_27 : Int32).toInt ∨ ¬ ((vy_34 : Int32).toInt = 43 ∨ (vy_34 : Int32).toInt = 45 ∨ (vy_34 : Int32).toInt = 42 ∨ (vy_34 : Int32).toInt = 47 ∨ (vy_34 : Int32).toInt = 37) := by
                have z_1 := Int32.lt_iff_toInt_lt.mp (Int32.not_le.mp c_50)
                have z_2 := congrArg Int32.toInt c_72
                have z_3 : ¬ (vy_28 : Int32).toInt = ((-1) : Int32).toInt := fun z => c_73 (Int32.toInt_inj.mp z)
                have y_m1 : (-1 : Int32).toInt = -1 := by decide
                have y_400 : (400 : Int32).toInt = 400 := by decide
                omega
              rw [pf_47, sum_end h_tape.2.1 pf_45 pf_48 hr_87]
              exact pf_46
            exact retV hx hb hr hlk hP hD hS (sv_81, vy_30, sv_82, vy_32, vy_33, vy_34, vy_35) ⟨rfl, pf_40, pf_83, hf_84, hf_86⟩ [2, 3, 0, 1] rfl rfl dX7_readSum_96 (Nat.le_of_ble_eq_true rfl) (Nat.le_of_ble_eq_true rfl) rfl
        · skip
          refine lv_aload_n hx hb dX7_readSum_24 rfl (lv_at hl 3 rfl) ?_
          refine cS (As := [.ref (Ta 0)]) (rest := []) (wr := [((Va 0), .inr (7, [.ref (Va 1), .int vy_29, .int vy_30])), ((Va 1), .inl (tc 0, 400, .inl vy_31))]) ⟨hx, hb, hml, hown, hts⟩ hK hX hA (cu_fX7_arithmetic l D tc sk (Ta 0) (Ta 1) (Tv 0) vy_32 vy_33 vy_34 vy_35 (Tf 1) pf_40) k_645 k_643 k_644 k_99 pl_X7_arithmetic ⟨Nat.le_of_ble_eq_true rfl, Nat.le_of_ble_eq_true rfl⟩ rfl rfl  hP hD hS [2, 3] [0, 1] rfl rfl rfl rfl rfl (by decide) rfl hl.1 rfl (Nat.le_of_ble_eq_true rfl) dX7_readSum_25 ⟨Nat.le_of_ble_eq_true rfl, Nat.le_of_ble_eq_true rfl⟩ (fun v_88 u_89 H locs hv_90 hP₀ hD₀ hS₀ => ?_)
          obtain ⟨r_91, rfl, he_92⟩ := hv_90
          have he_92 : ((r_91.toInt = -1 ∧ ¬ (vy_34.toInt = 43 ∨ vy_34.toInt = 45 ∨ vy_34.toInt = 42 ∨ vy_34.toInt = 47 ∨ vy_34.toInt = 37)) ∨ (r_91.toInt ≤ -12 ∧ (vy_34.toInt = 43 ∨ vy_34.toInt = 45 ∨ vy_34.toInt = 42 ∨ vy_34.toInt = 47 ∨ vy_34.toInt = 37))) := he_92
          refine W.eq (g2 := F0 m 28 ls [.int r_91]) rfl ?_
          replace hP : va_P D classes [((Va 0), .inr (7, [.ref (Va 1), .int vy_29, .int vy_30])), ((Va 1), .inl (tc 0, 400, .inl vy_31)), ((Ta 0), .inr (10, [.ref (Ta 1), .int (Tv 0), .int vy_32, .int vy_33, .int vy_34, .int vy_35])), ((Ta 1), .inl (tc 0, 400, .inl (Tf 1)))] H := hP₀
          replace hD : va_D A [((Va 0), .inr (7, [.ref (Va 1), .int vy_29, .int vy_30])), ((Va 1), .inl (tc 0, 400, .inl vy_31)), ((Ta 0), .inr (10, [.ref (Ta 1), .int (Tv 0), .int vy_32, .int vy_33, .int vy_34, .int vy_35])), ((Ta 1), .inl (tc 0, 400, .inl (Tf 1)))] := hD₀
          replace hS := hS₀
          clear hP₀ hD₀ hS₀
          refine lv_istore (lv' := [(4, .int r_91), (3, .int vy_27), (2, .int vy_28), (0, .ref (Va 0)), (1, .ref (Ta 0))]) hx hb dX7_readSum_28 hl (by decide) rfl (fun ls hl₀ => ?_)
          replace hl := hl₀
          clear hl₀
          refine lv_aload_n hx hb dX7_readSum_30 rfl (lv_at hl 4 rfl) ?_
          refine cV (a := (Ta 0)) (As := []) (rest := []) (wr := [((Va 0), .inr (7, [.ref (Va 1), .int vy_29, .int vy_30])), ((Va 1), .inl (tc 0, 400, .inl vy_31))]) ⟨hx, hb, hml, hown, hts⟩ hK hX hA (cu_fX10_step l D tc sk (Ta 0) (Ta 1) (Tv 0) vy_32 vy_33 vy_34 vy_35 (Tf 1) (rTE (cB (Tf 1) (Tv 0)) rq_44) pf_40 h_by tb_49) k_478 k_620 k_476 k_477 k_96 pl_X10_step ⟨Nat.le_of_ble_eq_true rfl, Nat.le_of_ble_eq_true rfl⟩ rfl rfl (va_recv hK hP (ci := 10) (q0 := 2) rfl rfl) hP hD hS [2, 3] [0, 1] rfl rfl rfl rfl rfl (by decide) rfl hl.1 rfl (Nat.le_of_ble_eq_true rfl) dX7_readSum_31 ⟨Nat.le_of_ble_eq_true rfl, Nat.le_of_ble_eq_true rfl⟩ (fun v_94 u_95 H locs hv_96 hP₀ hD₀ hS₀ => ?_)
          obtain ⟨sv_97, sv_98, sv_99⟩ := u_95
          obtain ⟨rfl, pf_100, pf_101⟩ := hv_96
          have pf_100 : 0 ≤ ((Tv 0) : Int32).toInt ∧ ((Tv 0) : Int32).toInt ≤ 400 ∧ 0 ≤ (sv_97 : Int32).toInt ∧ (sv_97 : Int32).toInt ≤ 400 ∧ 0 ≤ (sv_98 : Int32).toInt ∧ (sv_98 : Int32).toInt ≤ 400 := pf_100
          have pf_101 : TpR (Tf 1) (Tv 0) (rSK (cB (Tf 1) (Tv 0)) (rTE (cB (Tf 1) (Tv 0)) rq_44)) sv_97 sv_98 sv_99 vy_35 := pf_101
          rw [rNX_eq] at pf_101
          obtain ⟨ro_102, ero_102⟩ : ∃ z : Except Int (Nat × Nat), z = (rNX (cB (Tf 1) (Tv 0)) rq_44) := ⟨_, rfl⟩
          rw [← ero_102] at pf_101
          have tb_103 : TpB (rTE (cB (Tf 1) (Tv 0)) ro_102) sv_98 vy_35 := TpR.tb pf_101
          have cd_104 : Ctd ro_102 vy_30 := by rw [ero_102]; exact (Ctd.nx pf_46)
          refine W.eq (g2 := F0 m 34 ls []) rfl ?_
          replace hP : va_P D classes [((Va 0), .inr (7, [.ref (Va 1), .int vy_29, .int vy_30])), ((Va 1), .inl (tc 0, 400, .inl vy_31)), ((Ta 0), .inr (10, [.ref (Ta 1), .int (Tv 0), .int sv_97, .int sv_98, .int sv_99, .int vy_35])), ((Ta 1), .inl (tc 0, 400, .inl (Tf 1)))] H := hP₀
          replace hD : va_D A [((Va 0), .inr (7, [.ref (Va 1), .int vy_29, .int vy_30])), ((Va 1), .inl (tc 0, 400, .inl vy_31)), ((Ta 0), .inr (10, [.ref (Ta 1), .int (Tv 0), .int sv_97, .int sv_98, .int sv_99, .int vy_35])), ((Ta 1), .inl (tc 0, 400, .inl (Tf 1)))] := hD₀
          replace hS := hS₀
          clear hP₀ hD₀ hS₀
          refine lv_iload hx hb dX7_readSum_34 (lv_at hl 0 rfl) ?_
          refine lv_bipush (v := (-12)) hx hb dX7_readSum_36 (by decide) ?_
          refine lv_icmp_eq (tgt := 48) hx hb dX7_readSum_38 (by decide) (fun c_105 => ?_) (fun c_105 => ?_)
          · skip
            refine lv_iload_n hx hb dX7_readSum_48 rfl (lv_at hl 2 rfl) ?_
            refine lv_iconst (v := (-1)) hx hb dX7_readSum_49 (by decide) ?_
            refine lv_icmp_eq (tgt := 58) hx hb dX7_readSum_50 (by decide) (fun c_106 => ?_) (fun c_106 => ?_)
            · skip
              refine lv_iload hx hb dX7_readSum_58 (lv_at hl 0 rfl) ?_
              refine lv_istore_n (lv' := [(2, .int r_91), (4, .int r_91), (3, .int vy_27), (0, .ref (Va 0)), (1, .ref (Ta 0))]) hx hb dX7_readSum_60 rfl hl (by decide) rfl (fun ls hl₀ => ?_)
              replace hl := hl₀
              clear hl₀
              refine lv_aload_n hx hb dX7_readSum_61 rfl (lv_at hl 3 rfl) ?_
              refine lv_aload_n hx hb dX7_readSum_62 rfl (lv_at hl 4 rfl) ?_
              refine cV (a := (Va 0)) (As := [.ref (Ta 0)]) (rest := []) (wr := []) ⟨hx, hb, hml, hown, hts⟩ hK hX hA (cu_fX7_readValue l D tc sk (Va 0) (Va 1) vy_29 vy_30 vy_31 (Ta 0) (Ta 1) (Tv 0) sv_97 sv_98 sv_99 vy_35 (Tf 1) ro_102 pf_100 pf_41 h_by pf_101 cd_104) k_628 k_625 k_627 k_8 k_99 pl_X7_readValue ⟨Nat.le_of_ble_eq_true rfl, Nat.le_of_ble_eq_true rfl⟩ rfl rfl (va_recv hK hP (ci := 7) (q0 := 0) rfl rfl) hP hD hS [0, 1, 2, 3] [] rfl rfl rfl rfl rfl (by decide) rfl hl.1 rfl (Nat.le_of_ble_eq_true rfl) dX7_readSum_63 ⟨Nat.le_of_ble_eq_true rfl, Nat.le_of_ble_eq_true rfl⟩ (fun v_107 u_108 H locs hv_109 hP₀ hD₀ hS₀ => ?_)
              obtain ⟨sv_110, sv_111, sv_112, sv_113, sv_114, sv_115, sv_116⟩ := u_108
              obtain ⟨rfl, pf_117, pf_118, pf_119, pf_120⟩ := hv_109
              have pf_117 : 0 ≤ ((Tv 0) : Int32).toInt ∧ ((Tv 0) : Int32).toInt ≤ 400 ∧ 0 ≤ (sv_113 : Int32).toInt ∧ (sv_113 : Int32).toInt ≤ 400 ∧ 0 ≤ (sv_114 : Int32).toInt ∧ (sv_114 : Int32).toInt ≤ 400 := pf_117
              have pf_118 : 0 ≤ (sv_110 : Int32).toInt ∧ (sv_110 : Int32).toInt ≤ 400 := pf_118
              have pf_119 : TpR (Tf 1) (Tv 0) (pz_b ro_102 (pz_val (cB (Tf 1) (Tv 0)))) sv_113 sv_114 sv_115 sv_116 := pf_119
              obtain ⟨ro_121, ero_121⟩ : ∃ z : Except Int (Nat × Nat), z = (pz_b ro_102 (pz_val (cB (Tf 1) (Tv 0)))) := ⟨_, rfl⟩
              rw [← ero_121] at pf_119
              have tb_122 : TpB (rTE (cB (Tf 1) (Tv 0)) ro_121) sv_114 sv_116 := TpR.tb pf_119
              have pf_120 : Ctd (pz_b ro_102 (pz_val (cB (Tf 1) (Tv 0)))) sv_111 := pf_120
              rw [← ero_121] at pf_120
              refine W.eq (g2 := F0 m 66 ls []) rfl ?_
              replace hP : va_P D classes [((Va 0), .inr (7, [.ref (Va 1), .int sv_110, .int sv_111])), ((Va 1), .inl (tc 0, 400, .inl sv_112)), ((Ta 0), .inr (10, [.ref (Ta 1), .int (Tv 0), .int sv_113, .int sv_114, .int sv_115, .int sv_116])), ((Ta 1), .inl (tc 0, 400, .inl (Tf 1)))] H := hP₀
              replace hD : va_D A [((Va 0), .inr (7, [.ref (Va 1), .int sv_110, .int sv_111])), ((Va 1), .inl (tc 0, 400, .inl sv_112)), ((Ta 0), .inr (10, [.ref (Ta 1), .int (Tv 0), .int sv_113, .int sv_114, .int sv_115, .int sv_116])), ((Ta 1), .inl (tc 0, 400, .inl (Tf 1)))] := hD₀
              replace hS := hS₀
              clear hP₀ hD₀ hS₀
              refine lv_goto (tgt := 80) hx hb dX7_readSum_66 (by decide) ?_
              obtain ⟨x_123, ex_123⟩ : ∃ y : Int32, y = vy_27 + 1 := ⟨_, rfl⟩
              refine lv_iinc (v := x_123) (lv' := [(3, .int x_123), (2, .int r_91), (4, .int r_91), (0, .ref (Va 0)), (1, .ref (Ta 0))]) hx hb dX7_readSum_80 hl (k := 2) rfl (by rw [ex_123]; rfl) (by decide) rfl (fun ls hl₀ => ?_)
              replace hl := hl₀
              clear hl₀
              refine lv_goto (tgt := 9) hx hb dX7_readSum_83 (by decide) ?_
              have hb_124 : 401 - (x_123 : Int32).toInt < 401 - (vy_27 : Int32).toInt ∧ 1 ≤ 401 - (vy_27 : Int32).toInt := by
                have z_1 := Int32.lt_iff_toInt_lt.mp (Int32.not_le.mp c_50)
                have z_2 : ¬ (r_69 : Int32).toInt = ((-1) : Int32).toInt := fun z => c_72 (Int32.toInt_inj.mp z)
                have z_3 := congrArg Int32.toInt c_105
                have z_4 := congrArg Int32.toInt c_106
                have y_m12 : (-12 : Int32).toInt = -12 := by decide
                have y_m1 : (-1 : Int32).toInt = -1 := by decide
                have y_400 : (400 : Int32).toInt = 400 := by decide
                have y_1 : (1 : Int32).toInt = 1 := by decide
                have t_x_123 : x_123.toInt = (vy_27 : Int32).toInt + (1 : Int32).toInt := by rw [ex_123]; exact add_toInt (by omega) (by omega)
                omega
              have ha_125 : 0 ≤ (x_123 : Int32).toInt ∧ (x_123 : Int32).toInt ≤ 400 := by
                have z_1 := Int32.lt_iff_toInt_lt.mp (Int32.not_le.mp c_50)
                have z_2 : ¬ (r_69 : Int32).toInt = ((-1) : Int32).toInt := fun z => c_72 (Int32.toInt_inj.mp z)
                have z_3 := congrArg Int32.toInt c_105
                have z_4 := congrArg Int32.toInt c_106
                have y_m12 : (-12 : Int32).toInt = -12 := by decide
                have y_m1 : (-1 : Int32).toInt = -1 := by decide
                have y_400 : (400 : Int32).toInt = 400 := by decide
                have y_1 : (1 : Int32).toInt = 1 := by decide
                have t_x_123 : x_123.toInt = (vy_27 : Int32).toInt + (1 : Int32).toInt := by rw [ex_123]; exact add_toInt (by omega) (by omega)
                omega
              have hu_126 : TpR (Tf 1) (Tv 0) (pz_b (rNX (cB (Tf 1) (Tv 0)) rq_44) (pz_val (cB (Tf 1) (Tv 0)))) sv_113 sv_114 sv_115 sv_116 := by
                rw [← ero_102, ← ero_121]
                exact pf_119
              have hu_127 : Ctd (pz_b (rNX (cB (Tf 1) (Tv 0)) rq_44) (pz_val (cB (Tf 1) (Tv 0)))) sv_111 := by
                rw [← ero_102, ← ero_121]
                exact pf_120
              have hr_128 : ((vy_34 : Int32).toInt = 43 ∨ (vy_34 : Int32).toInt = 45 ∨ (vy_34 : Int32).toInt = 42 ∨ (vy_34 : Int32).toInt = 47 ∨ (vy_34 : Int32).toInt = 37) := by
                have z_1 := Int32.lt_iff_toInt_lt.mp (Int32.not_le.mp c_50)
                have z_2 : ¬ (r_69 : Int32).toInt = ((-1) : Int32).toInt := fun z => c_72 (Int32.toInt_inj.mp z)
                have z_3 := congrArg Int32.toInt c_105
                have z_4 := congrArg Int32.toInt c_106
                have y_m12 : (-12 : Int32).toInt = -12 := by decide
                have y_m1 : (-1 : Int32).toInt = -1 := by decide
                have y_400 : (400 : Int32).toInt = 400 := by decide
                omega
              have hi_129 : (x_123 : Int32).toInt = (vy_27 : Int32).toInt + 1 := by
                have z_1 := Int32.lt_iff_toInt_lt.mp (Int32.not_le.mp c_50)
                have z_2 : ¬ (r_69 : Int32).toInt = ((-1) : Int32).toInt := fun z => c_72 (Int32.toInt_inj.mp z)
                have z_3 := congrArg Int32.toInt c_105
                have z_4 := congrArg Int32.toInt c_106
                have y_m12 : (-12 : Int32).toInt = -12 := by decide
                have y_m1 : (-1 : Int32).toInt = -1 := by decide
                have y_400 : (400 : Int32).toInt = 400 := by decide
                have y_1 : (1 : Int32).toInt = 1 := by decide
                have t_x_123 : x_123.toInt = (vy_27 : Int32).toInt + (1 : Int32).toInt := by rw [ex_123]; exact add_toInt (by omega) (by omega)
                omega
              exact ih_37 x_123 r_91 sv_110 sv_111 sv_112 sv_113 sv_114 sv_115 sv_116 _ _ _ (by omega) ha_125 pf_117 pf_118 (SmL.next h_tape.2.1 pf_45 pf_47 pf_48 hr_128 hu_126 hu_127 hi_129) (hP.sub [0, 1, 2, 3] rfl) (hD.sub [0, 1, 2, 3] rfl rfl) hS (lv_sub hl [0, 1, 3, 4] rfl)
            · skip
              refine lv_aload_n hx hb dX7_readSum_53 rfl (lv_at hl 3 rfl) ?_
              refine lv_iload_n hx hb dX7_readSum_54 rfl (lv_at hl 2 rfl) ?_
              refine cV (a := (Va 0)) (As := [.int vy_28]) (rest := []) (wr := [((Ta 0), .inr (10, [.ref (Ta 1), .int (Tv 0), .int sv_97, .int sv_98, .int sv_99, .int vy_35])), ((Ta 1), .inl (tc 0, 400, .inl (Tf 1)))]) ⟨hx, hb, hml, hown, hts⟩ hK hX hA (cu_fX7_put l D tc sk (Va 0) (Va 1) vy_29 vy_30 vy_31 vy_28 pf_41) k_642 k_639 k_641 k_10 k_99 pl_X7_put ⟨Nat.le_of_ble_eq_true rfl, Nat.le_of_ble_eq_true rfl⟩ rfl rfl (va_recv hK hP (ci := 7) (q0 := 0) rfl rfl) hP hD hS [0, 1] [2, 3] rfl rfl rfl rfl rfl (by decide) rfl hl.1 rfl (Nat.le_of_ble_eq_true rfl) dX7_readSum_55 ⟨Nat.le_of_ble_eq_true rfl, Nat.le_of_ble_eq_true rfl⟩ (fun v_130 u_131 H locs hv_132 hP₀ hD₀ hS₀ => ?_)
              obtain ⟨sv_133, sv_134⟩ := u_131
              obtain ⟨rfl, pf_135⟩ := hv_132
              have pf_135 : 0 ≤ (sv_133 : Int32).toInt ∧ (sv_133 : Int32).toInt ≤ 400 := pf_135
              refine W.eq (g2 := F0 m 58 ls []) rfl ?_
              replace hP : va_P D classes [((Ta 0), .inr (10, [.ref (Ta 1), .int (Tv 0), .int sv_97, .int sv_98, .int sv_99, .int vy_35])), ((Ta 1), .inl (tc 0, 400, .inl (Tf 1))), ((Va 0), .inr (7, [.ref (Va 1), .int sv_133, .int vy_30])), ((Va 1), .inl (tc 0, 400, .inl sv_134))] H := hP₀
              replace hD : va_D A [((Ta 0), .inr (10, [.ref (Ta 1), .int (Tv 0), .int sv_97, .int sv_98, .int sv_99, .int vy_35])), ((Ta 1), .inl (tc 0, 400, .inl (Tf 1))), ((Va 0), .inr (7, [.ref (Va 1), .int sv_133, .int vy_30])), ((Va 1), .inl (tc 0, 400, .inl sv_134))] := hD₀
              replace hS := hS₀
              clear hP₀ hD₀ hS₀
              refine lv_iload hx hb dX7_readSum_58 (lv_at hl 0 rfl) ?_
              refine lv_istore_n (lv' := [(2, .int r_91), (4, .int r_91), (3, .int vy_27), (0, .ref (Va 0)), (1, .ref (Ta 0))]) hx hb dX7_readSum_60 rfl hl (by decide) rfl (fun ls hl₀ => ?_)
              replace hl := hl₀
              clear hl₀
              refine lv_aload_n hx hb dX7_readSum_61 rfl (lv_at hl 3 rfl) ?_
              refine lv_aload_n hx hb dX7_readSum_62 rfl (lv_at hl 4 rfl) ?_
              refine cV (a := (Va 0)) (As := [.ref (Ta 0)]) (rest := []) (wr := []) ⟨hx, hb, hml, hown, hts⟩ hK hX hA (cu_fX7_readValue l D tc sk (Va 0) (Va 1) sv_133 vy_30 sv_134 (Ta 0) (Ta 1) (Tv 0) sv_97 sv_98 sv_99 vy_35 (Tf 1) ro_102 pf_100 pf_135 h_by pf_101 cd_104) k_628 k_625 k_627 k_8 k_99 pl_X7_readValue ⟨Nat.le_of_ble_eq_true rfl, Nat.le_of_ble_eq_true rfl⟩ rfl rfl (va_recv hK hP (ci := 7) (q0 := 2) rfl rfl) hP hD hS [2, 3, 0, 1] [] rfl rfl rfl rfl rfl (by decide) rfl hl.1 rfl (Nat.le_of_ble_eq_true rfl) dX7_readSum_63 ⟨Nat.le_of_ble_eq_true rfl, Nat.le_of_ble_eq_true rfl⟩ (fun v_136 u_137 H locs hv_138 hP₀ hD₀ hS₀ => ?_)
              obtain ⟨sv_139, sv_140, sv_141, sv_142, sv_143, sv_144, sv_145⟩ := u_137
              obtain ⟨rfl, pf_146, pf_147, pf_148, pf_149⟩ := hv_138
              have pf_146 : 0 ≤ ((Tv 0) : Int32).toInt ∧ ((Tv 0) : Int32).toInt ≤ 400 ∧ 0 ≤ (sv_142 : Int32).toInt ∧ (sv_142 : Int32).toInt ≤ 400 ∧ 0 ≤ (sv_143 : Int32).toInt ∧ (sv_143 : Int32).toInt ≤ 400 := pf_146
              have pf_147 : 0 ≤ (sv_139 : Int32).toInt ∧ (sv_139 : Int32).toInt ≤ 400 := pf_147
              have pf_148 : TpR (Tf 1) (Tv 0) (pz_b ro_102 (pz_val (cB (Tf 1) (Tv 0)))) sv_142 sv_143 sv_144 sv_145 := pf_148
              obtain ⟨ro_150, ero_150⟩ : ∃ z : Except Int (Nat × Nat), z = (pz_b ro_102 (pz_val (cB (Tf 1) (Tv 0)))) := ⟨_, rfl⟩
              rw [← ero_150] at pf_148
              have tb_151 : TpB (rTE (cB (Tf 1) (Tv 0)) ro_150) sv_143 sv_145 := TpR.tb pf_148
              have pf_149 : Ctd (pz_b ro_102 (pz_val (cB (Tf 1) (Tv 0)))) sv_140 := pf_149
              rw [← ero_150] at pf_149
              refine W.eq (g2 := F0 m 66 ls []) rfl ?_
              replace hP : va_P D classes [((Va 0), .inr (7, [.ref (Va 1), .int sv_139, .int sv_140])), ((Va 1), .inl (tc 0, 400, .inl sv_141)), ((Ta 0), .inr (10, [.ref (Ta 1), .int (Tv 0), .int sv_142, .int sv_143, .int sv_144, .int sv_145])), ((Ta 1), .inl (tc 0, 400, .inl (Tf 1)))] H := hP₀
              replace hD : va_D A [((Va 0), .inr (7, [.ref (Va 1), .int sv_139, .int sv_140])), ((Va 1), .inl (tc 0, 400, .inl sv_141)), ((Ta 0), .inr (10, [.ref (Ta 1), .int (Tv 0), .int sv_142, .int sv_143, .int sv_144, .int sv_145])), ((Ta 1), .inl (tc 0, 400, .inl (Tf 1)))] := hD₀
              replace hS := hS₀
              clear hP₀ hD₀ hS₀
              refine lv_goto (tgt := 80) hx hb dX7_readSum_66 (by decide) ?_
              obtain ⟨x_152, ex_152⟩ : ∃ y : Int32, y = vy_27 + 1 := ⟨_, rfl⟩
              refine lv_iinc (v := x_152) (lv' := [(3, .int x_152), (2, .int r_91), (4, .int r_91), (0, .ref (Va 0)), (1, .ref (Ta 0))]) hx hb dX7_readSum_80 hl (k := 2) rfl (by rw [ex_152]; rfl) (by decide) rfl (fun ls hl₀ => ?_)
              replace hl := hl₀
              clear hl₀
              refine lv_goto (tgt := 9) hx hb dX7_readSum_83 (by decide) ?_
              have hb_153 : 401 - (x_152 : Int32).toInt < 401 - (vy_27 : Int32).toInt ∧ 1 ≤ 401 - (vy_27 : Int32).toInt := by
                have z_1 := Int32.lt_iff_toInt_lt.mp (Int32.not_le.mp c_50)
                have z_2 : ¬ (r_69 : Int32).toInt = ((-1) : Int32).toInt := fun z => c_72 (Int32.toInt_inj.mp z)
                have z_3 := congrArg Int32.toInt c_105
                have z_4 : ¬ (vy_28 : Int32).toInt = ((-1) : Int32).toInt := fun z => c_106 (Int32.toInt_inj.mp z)
                have y_m12 : (-12 : Int32).toInt = -12 := by decide
                have y_m1 : (-1 : Int32).toInt = -1 := by decide
                have y_400 : (400 : Int32).toInt = 400 := by decide
                have y_1 : (1 : Int32).toInt = 1 := by decide
                have t_x_152 : x_152.toInt = (vy_27 : Int32).toInt + (1 : Int32).toInt := by rw [ex_152]; exact add_toInt (by omega) (by omega)
                omega
              have ha_154 : 0 ≤ (x_152 : Int32).toInt ∧ (x_152 : Int32).toInt ≤ 400 := by
                have z_1 := Int32.lt_iff_toInt_lt.mp (Int32.not_le.mp c_50)
                have z_2 : ¬ (r_69 : Int32).toInt = ((-1) : Int32).toInt := fun z => c_72 (Int32.toInt_inj.mp z)
                have z_3 := congrArg Int32.toInt c_105
                have z_4 : ¬ (vy_28 : Int32).toInt = ((-1) : Int32).toInt := fun z => c_106 (Int32.toInt_inj.mp z)
                have y_m12 : (-12 : Int32).toInt = -12 := by decide
                have y_m1 : (-1 : Int32).toInt = -1 := by decide
                have y_400 : (400 : Int32).toInt = 400 := by decide
                have y_1 : (1 : Int32).toInt = 1 := by decide
                have t_x_152 : x_152.toInt = (vy_27 : Int32).toInt + (1 : Int32).toInt := by rw [ex_152]; exact add_toInt (by omega) (by omega)
                omega
              have hu_155 : TpR (Tf 1) (Tv 0) (pz_b (rNX (cB (Tf 1) (Tv 0)) rq_44) (pz_val (cB (Tf 1) (Tv 0)))) sv_142 sv_143 sv_144 sv_145 := by
                rw [← ero_102, ← ero_150]
                exact pf_148
              have hu_156 : Ctd (pz_b (rNX (cB (Tf 1) (Tv 0)) rq_44) (pz_val (cB (Tf 1) (Tv 0)))) sv_140 := by
                rw [← ero_102, ← ero_150]
                exact pf_149
              have hr_157 : ((vy_34 : Int32).toInt = 43 ∨ (vy_34 : Int32).toInt = 45 ∨ (vy_34 : Int32).toInt = 42 ∨ (vy_34 : Int32).toInt = 47 ∨ (vy_34 : Int32).toInt = 37) := by
                have z_1 := Int32.lt_iff_toInt_lt.mp (Int32.not_le.mp c_50)
                have z_2 : ¬ (r_69 : Int32).toInt = ((-1) : Int32).toInt := fun z => c_72 (Int32.toInt_inj.mp z)
                have z_3 := congrArg Int32.toInt c_105
                have z_4 : ¬ (vy_28 : Int32).toInt = ((-1) : Int32).toInt := fun z => c_106 (Int32.toInt_inj.mp z)
                have y_m12 : (-12 : Int32).toInt = -12 := by decide
                have y_m1 : (-1 : Int32).toInt = -1 := by decide
                have y_400 : (400 : Int32).toInt = 400 := by decide
                omega
              have hi_158 : (x_152 : Int32).toInt = (vy_27 : Int32).toInt + 1 := by
                have z_1 := Int32.lt_iff_toInt_lt.mp (Int32.not_le.mp c_50)
                have z_2 : ¬ (r_69 : Int32).toInt = ((-1) : Int32).toInt := fun z => c_72 (Int32.toInt_inj.mp z)
                have z_3 := congrArg Int32.toInt c_105
                have z_4 : ¬ (vy_28 : Int32).toInt = ((-1) : Int32).toInt := fun z => c_106 (Int32.toInt_inj.mp z)
                have y_m12 : (-12 : Int32).toInt = -12 := by decide
                have y_m1 : (-1 : Int32).toInt = -1 := by decide
                have y_400 : (400 : Int32).toInt = 400 := by decide
                have y_1 : (1 : Int32).toInt = 1 := by decide
                have t_x_152 : x_152.toInt = (vy_27 : Int32).toInt + (1 : Int32).toInt := by rw [ex_152]; exact add_toInt (by omega) (by omega)
                omega
              exact ih_37 x_152 r_91 sv_139 sv_140 sv_141 sv_142 sv_143 sv_144 sv_145 _ _ _ (by omega) ha_154 pf_146 pf_147 (SmL.next h_tape.2.1 pf_45 pf_47 pf_48 hr_157 hu_155 hu_156 hi_158) (hP.sub [0, 1, 2, 3] rfl) (hD.sub [0, 1, 2, 3] rfl rfl) hS (lv_sub hl [0, 1, 3, 4] rfl)
          · skip
            refine lv_iload hx hb dX7_readSum_41 (lv_at hl 0 rfl) ?_
            refine lv_bipush (v := (-13)) hx hb dX7_readSum_43 (by decide) ?_
            refine lv_icmp_ne (tgt := 69) hx hb dX7_readSum_45 (by decide) (fun c_159 => ?_) (fun c_159 => ?_)
            · skip
              refine lv_aload_n hx hb dX7_readSum_69 rfl (lv_at hl 3 rfl) ?_
              refine lv_aload_n hx hb dX7_readSum_70 rfl (lv_at hl 4 rfl) ?_
              refine cV (a := (Va 0)) (As := [.ref (Ta 0)]) (rest := []) (wr := []) ⟨hx, hb, hml, hown, hts⟩ hK hX hA (cu_fX7_readValue l D tc sk (Va 0) (Va 1) vy_29 vy_30 vy_31 (Ta 0) (Ta 1) (Tv 0) sv_97 sv_98 sv_99 vy_35 (Tf 1) ro_102 pf_100 pf_41 h_by pf_101 cd_104) k_628 k_625 k_627 k_8 k_99 pl_X7_readValue ⟨Nat.le_of_ble_eq_true rfl, Nat.le_of_ble_eq_true rfl⟩ rfl rfl (va_recv hK hP (ci := 7) (q0 := 0) rfl rfl) hP hD hS [0, 1, 2, 3] [] rfl rfl rfl rfl rfl (by decide) rfl hl.1 rfl (Nat.le_of_ble_eq_true rfl) dX7_readSum_71 ⟨Nat.le_of_ble_eq_true rfl, Nat.le_of_ble_eq_true rfl⟩ (fun v_160 u_161 H locs hv_162 hP₀ hD₀ hS₀ => ?_)
              obtain ⟨sv_163, sv_164, sv_165, sv_166, sv_167, sv_168, sv_169⟩ := u_161
              obtain ⟨rfl, pf_170, pf_171, pf_172, pf_173⟩ := hv_162
              have pf_170 : 0 ≤ ((Tv 0) : Int32).toInt ∧ ((Tv 0) : Int32).toInt ≤ 400 ∧ 0 ≤ (sv_166 : Int32).toInt ∧ (sv_166 : Int32).toInt ≤ 400 ∧ 0 ≤ (sv_167 : Int32).toInt ∧ (sv_167 : Int32).toInt ≤ 400 := pf_170
              have pf_171 : 0 ≤ (sv_163 : Int32).toInt ∧ (sv_163 : Int32).toInt ≤ 400 := pf_171
              have pf_172 : TpR (Tf 1) (Tv 0) (pz_b ro_102 (pz_val (cB (Tf 1) (Tv 0)))) sv_166 sv_167 sv_168 sv_169 := pf_172
              obtain ⟨ro_174, ero_174⟩ : ∃ z : Except Int (Nat × Nat), z = (pz_b ro_102 (pz_val (cB (Tf 1) (Tv 0)))) := ⟨_, rfl⟩
              rw [← ero_174] at pf_172
              have tb_175 : TpB (rTE (cB (Tf 1) (Tv 0)) ro_174) sv_167 sv_169 := TpR.tb pf_172
              have pf_173 : Ctd (pz_b ro_102 (pz_val (cB (Tf 1) (Tv 0)))) sv_164 := pf_173
              rw [← ero_174] at pf_173
              refine W.eq (g2 := F0 m 74 ls []) rfl ?_
              replace hP : va_P D classes [((Va 0), .inr (7, [.ref (Va 1), .int sv_163, .int sv_164])), ((Va 1), .inl (tc 0, 400, .inl sv_165)), ((Ta 0), .inr (10, [.ref (Ta 1), .int (Tv 0), .int sv_166, .int sv_167, .int sv_168, .int sv_169])), ((Ta 1), .inl (tc 0, 400, .inl (Tf 1)))] H := hP₀
              replace hD : va_D A [((Va 0), .inr (7, [.ref (Va 1), .int sv_163, .int sv_164])), ((Va 1), .inl (tc 0, 400, .inl sv_165)), ((Ta 0), .inr (10, [.ref (Ta 1), .int (Tv 0), .int sv_166, .int sv_167, .int sv_168, .int sv_169])), ((Ta 1), .inl (tc 0, 400, .inl (Tf 1)))] := hD₀
              replace hS := hS₀
              clear hP₀ hD₀ hS₀
              refine lv_aload_n hx hb dX7_readSum_74 rfl (lv_at hl 3 rfl) ?_
              refine lv_iload hx hb dX7_readSum_75 (lv_at hl 0 rfl) ?_
              refine cV (a := (Va 0)) (As := [.int r_91]) (rest := []) (wr := [((Ta 0), .inr (10, [.ref (Ta 1), .int (Tv 0), .int sv_166, .int sv_167, .int sv_168, .int sv_169])), ((Ta 1), .inl (tc 0, 400, .inl (Tf 1)))]) ⟨hx, hb, hml, hown, hts⟩ hK hX hA (cu_fX7_put l D tc sk (Va 0) (Va 1) sv_163 sv_164 sv_165 r_91 pf_171) k_642 k_639 k_641 k_10 k_99 pl_X7_put ⟨Nat.le_of_ble_eq_true rfl, Nat.le_of_ble_eq_true rfl⟩ rfl rfl (va_recv hK hP (ci := 7) (q0 := 0) rfl rfl) hP hD hS [0, 1] [2, 3] rfl rfl rfl rfl rfl (by decide) rfl hl.1 rfl (Nat.le_of_ble_eq_true rfl) dX7_readSum_77 ⟨Nat.le_of_ble_eq_true rfl, Nat.le_of_ble_eq_true rfl⟩ (fun v_176 u_177 H locs hv_178 hP₀ hD₀ hS₀ => ?_)
              obtain ⟨sv_179, sv_180⟩ := u_177
              obtain ⟨rfl, pf_181⟩ := hv_178
              have pf_181 : 0 ≤ (sv_179 : Int32).toInt ∧ (sv_179 : Int32).toInt ≤ 400 := pf_181
              refine W.eq (g2 := F0 m 80 ls []) rfl ?_
              replace hP : va_P D classes [((Ta 0), .inr (10, [.ref (Ta 1), .int (Tv 0), .int sv_166, .int sv_167, .int sv_168, .int sv_169])), ((Ta 1), .inl (tc 0, 400, .inl (Tf 1))), ((Va 0), .inr (7, [.ref (Va 1), .int sv_179, .int sv_164])), ((Va 1), .inl (tc 0, 400, .inl sv_180))] H := hP₀
              replace hD : va_D A [((Ta 0), .inr (10, [.ref (Ta 1), .int (Tv 0), .int sv_166, .int sv_167, .int sv_168, .int sv_169])), ((Ta 1), .inl (tc 0, 400, .inl (Tf 1))), ((Va 0), .inr (7, [.ref (Va 1), .int sv_179, .int sv_164])), ((Va 1), .inl (tc 0, 400, .inl sv_180))] := hD₀
              replace hS := hS₀
              clear hP₀ hD₀ hS₀
              obtain ⟨x_182, ex_182⟩ : ∃ y : Int32, y = vy_27 + 1 := ⟨_, rfl⟩
              refine lv_iinc (v := x_182) (lv' := [(3, .int x_182), (4, .int r_91), (2, .int vy_28), (0, .ref (Va 0)), (1, .ref (Ta 0))]) hx hb dX7_readSum_80 hl (k := 1) rfl (by rw [ex_182]; rfl) (by decide) rfl (fun ls hl₀ => ?_)
              replace hl := hl₀
              clear hl₀
              refine lv_goto (tgt := 9) hx hb dX7_readSum_83 (by decide) ?_
              have hb_183 : 401 - (x_182 : Int32).toInt < 401 - (vy_27 : Int32).toInt ∧ 1 ≤ 401 - (vy_27 : Int32).toInt := by
                have z_1 := Int32.lt_iff_toInt_lt.mp (Int32.not_le.mp c_50)
                have z_2 : ¬ (r_69 : Int32).toInt = ((-1) : Int32).toInt := fun z => c_72 (Int32.toInt_inj.mp z)
                have z_3 : ¬ (r_91 : Int32).toInt = ((-12) : Int32).toInt := fun z => c_105 (Int32.toInt_inj.mp z)
                have z_4 : ¬ (r_91 : Int32).toInt = ((-13) : Int32).toInt := fun z => c_159 (Int32.toInt_inj.mp z)
                have y_m13 : (-13 : Int32).toInt = -13 := by decide
                have y_m12 : (-12 : Int32).toInt = -12 := by decide
                have y_m1 : (-1 : Int32).toInt = -1 := by decide
                have y_400 : (400 : Int32).toInt = 400 := by decide
                have y_1 : (1 : Int32).toInt = 1 := by decide
                have t_x_182 : x_182.toInt = (vy_27 : Int32).toInt + (1 : Int32).toInt := by rw [ex_182]; exact add_toInt (by omega) (by omega)
                omega
              have ha_184 : 0 ≤ (x_182 : Int32).toInt ∧ (x_182 : Int32).toInt ≤ 400 := by
                have z_1 := Int32.lt_iff_toInt_lt.mp (Int32.not_le.mp c_50)
                have z_2 : ¬ (r_69 : Int32).toInt = ((-1) : Int32).toInt := fun z => c_72 (Int32.toInt_inj.mp z)
                have z_3 : ¬ (r_91 : Int32).toInt = ((-12) : Int32).toInt := fun z => c_105 (Int32.toInt_inj.mp z)
                have z_4 : ¬ (r_91 : Int32).toInt = ((-13) : Int32).toInt := fun z => c_159 (Int32.toInt_inj.mp z)
                have y_m13 : (-13 : Int32).toInt = -13 := by decide
                have y_m12 : (-12 : Int32).toInt = -12 := by decide
                have y_m1 : (-1 : Int32).toInt = -1 := by decide
                have y_400 : (400 : Int32).toInt = 400 := by decide
                have y_1 : (1 : Int32).toInt = 1 := by decide
                have t_x_182 : x_182.toInt = (vy_27 : Int32).toInt + (1 : Int32).toInt := by rw [ex_182]; exact add_toInt (by omega) (by omega)
                omega
              have hu_185 : TpR (Tf 1) (Tv 0) (pz_b (rNX (cB (Tf 1) (Tv 0)) rq_44) (pz_val (cB (Tf 1) (Tv 0)))) sv_166 sv_167 sv_168 sv_169 := by
                rw [← ero_102, ← ero_174]
                exact pf_172
              have hu_186 : Ctd (pz_b (rNX (cB (Tf 1) (Tv 0)) rq_44) (pz_val (cB (Tf 1) (Tv 0)))) sv_164 := by
                rw [← ero_102, ← ero_174]
                exact pf_173
              have hr_187 : ((vy_34 : Int32).toInt = 43 ∨ (vy_34 : Int32).toInt = 45 ∨ (vy_34 : Int32).toInt = 42 ∨ (vy_34 : Int32).toInt = 47 ∨ (vy_34 : Int32).toInt = 37) := by
                have z_1 := Int32.lt_iff_toInt_lt.mp (Int32.not_le.mp c_50)
                have z_2 : ¬ (r_69 : Int32).toInt = ((-1) : Int32).toInt := fun z => c_72 (Int32.toInt_inj.mp z)
                have z_3 : ¬ (r_91 : Int32).toInt = ((-12) : Int32).toInt := fun z => c_105 (Int32.toInt_inj.mp z)
                have z_4 : ¬ (r_91 : Int32).toInt = ((-13) : Int32).toInt := fun z => c_159 (Int32.toInt_inj.mp z)
                have y_m13 : (-13 : Int32).toInt = -13 := by decide
                have y_m12 : (-12 : Int32).toInt = -12 := by decide
                have y_m1 : (-1 : Int32).toInt = -1 := by decide
                have y_400 : (400 : Int32).toInt = 400 := by decide
                omega
              have hi_188 : (x_182 : Int32).toInt = (vy_27 : Int32).toInt + 1 := by
                have z_1 := Int32.lt_iff_toInt_lt.mp (Int32.not_le.mp c_50)
                have z_2 : ¬ (r_69 : Int32).toInt = ((-1) : Int32).toInt := fun z => c_72 (Int32.toInt_inj.mp z)
                have z_3 : ¬ (r_91 : Int32).toInt = ((-12) : Int32).toInt := fun z => c_105 (Int32.toInt_inj.mp z)
                have z_4 : ¬ (r_91 : Int32).toInt = ((-13) : Int32).toInt := fun z => c_159 (Int32.toInt_inj.mp z)
                have y_m13 : (-13 : Int32).toInt = -13 := by decide
                have y_m12 : (-12 : Int32).toInt = -12 := by decide
                have y_m1 : (-1 : Int32).toInt = -1 := by decide
                have y_400 : (400 : Int32).toInt = 400 := by decide
                have y_1 : (1 : Int32).toInt = 1 := by decide
                have t_x_182 : x_182.toInt = (vy_27 : Int32).toInt + (1 : Int32).toInt := by rw [ex_182]; exact add_toInt (by omega) (by omega)
                omega
              exact ih_37 x_182 vy_28 sv_179 sv_164 sv_180 sv_166 sv_167 sv_168 sv_169 _ _ _ (by omega) ha_184 pf_170 pf_181 (SmL.next h_tape.2.1 pf_45 pf_47 pf_48 hr_187 hu_185 hu_186 hi_188) (hP.sub [2, 3, 0, 1] rfl) (hD.sub [2, 3, 0, 1] rfl rfl) hS (lv_sub hl [0, 2, 3, 4] rfl)
            · skip
              refine lv_iload_n hx hb dX7_readSum_48 rfl (lv_at hl 2 rfl) ?_
              refine lv_iconst (v := (-1)) hx hb dX7_readSum_49 (by decide) ?_
              refine lv_icmp_eq (tgt := 58) hx hb dX7_readSum_50 (by decide) (fun c_189 => ?_) (fun c_189 => ?_)
              · skip
                refine lv_iload hx hb dX7_readSum_58 (lv_at hl 0 rfl) ?_
                refine lv_istore_n (lv' := [(2, .int r_91), (4, .int r_91), (3, .int vy_27), (0, .ref (Va 0)), (1, .ref (Ta 0))]) hx hb dX7_readSum_60 rfl hl (by decide) rfl (fun ls hl₀ => ?_)
                replace hl := hl₀
                clear hl₀
                refine lv_aload_n hx hb dX7_readSum_61 rfl (lv_at hl 3 rfl) ?_
                refine lv_aload_n hx hb dX7_readSum_62 rfl (lv_at hl 4 rfl) ?_
                refine cV (a := (Va 0)) (As := [.ref (Ta 0)]) (rest := []) (wr := []) ⟨hx, hb, hml, hown, hts⟩ hK hX hA (cu_fX7_readValue l D tc sk (Va 0) (Va 1) vy_29 vy_30 vy_31 (Ta 0) (Ta 1) (Tv 0) sv_97 sv_98 sv_99 vy_35 (Tf 1) ro_102 pf_100 pf_41 h_by pf_101 cd_104) k_628 k_625 k_627 k_8 k_99 pl_X7_readValue ⟨Nat.le_of_ble_eq_true rfl, Nat.le_of_ble_eq_true rfl⟩ rfl rfl (va_recv hK hP (ci := 7) (q0 := 0) rfl rfl) hP hD hS [0, 1, 2, 3] [] rfl rfl rfl rfl rfl (by decide) rfl hl.1 rfl (Nat.le_of_ble_eq_true rfl) dX7_readSum_63 ⟨Nat.le_of_ble_eq_true rfl, Nat.le_of_ble_eq_true rfl⟩ (fun v_190 u_191 H locs hv_192 hP₀ hD₀ hS₀ => ?_)
                obtain ⟨sv_193, sv_194, sv_195, sv_196, sv_197, sv_198, sv_199⟩ := u_191
                obtain ⟨rfl, pf_200, pf_201, pf_202, pf_203⟩ := hv_192
                have pf_200 : 0 ≤ ((Tv 0) : Int32).toInt ∧ ((Tv 0) : Int32).toInt ≤ 400 ∧ 0 ≤ (sv_196 : Int32).toInt ∧ (sv_196 : Int32).toInt ≤ 400 ∧ 0 ≤ (sv_197 : Int32).toInt ∧ (sv_197 : Int32).toInt ≤ 400 := pf_200
                have pf_201 : 0 ≤ (sv_193 : Int32).toInt ∧ (sv_193 : Int32).toInt ≤ 400 := pf_201
                have pf_202 : TpR (Tf 1) (Tv 0) (pz_b ro_102 (pz_val (cB (Tf 1) (Tv 0)))) sv_196 sv_197 sv_198 sv_199 := pf_202
                obtain ⟨ro_204, ero_204⟩ : ∃ z : Except Int (Nat × Nat), z = (pz_b ro_102 (pz_val (cB (Tf 1) (Tv 0)))) := ⟨_, rfl⟩
                rw [← ero_204] at pf_202
                have tb_205 : TpB (rTE (cB (Tf 1) (Tv 0)) ro_204) sv_197 sv_199 := TpR.tb pf_202
                have pf_203 : Ctd (pz_b ro_102 (pz_val (cB (Tf 1) (Tv 0)))) sv_194 := pf_203
                rw [← ero_204] at pf_203
                refine W.eq (g2 := F0 m 66 ls []) rfl ?_
                replace hP : va_P D classes [((Va 0), .inr (7, [.ref (Va 1), .int sv_193, .int sv_194])), ((Va 1), .inl (tc 0, 400, .inl sv_195)), ((Ta 0), .inr (10, [.ref (Ta 1), .int (Tv 0), .int sv_196, .int sv_197, .int sv_198, .int sv_199])), ((Ta 1), .inl (tc 0, 400, .inl (Tf 1)))] H := hP₀
                replace hD : va_D A [((Va 0), .inr (7, [.ref (Va 1), .int sv_193, .int sv_194])), ((Va 1), .inl (tc 0, 400, .inl sv_195)), ((Ta 0), .inr (10, [.ref (Ta 1), .int (Tv 0), .int sv_196, .int sv_197, .int sv_198, .int sv_199])), ((Ta 1), .inl (tc 0, 400, .inl (Tf 1)))] := hD₀
                replace hS := hS₀
                clear hP₀ hD₀ hS₀
                refine lv_goto (tgt := 80) hx hb dX7_readSum_66 (by decide) ?_
                obtain ⟨x_206, ex_206⟩ : ∃ y : Int32, y = vy_27 + 1 := ⟨_, rfl⟩
                refine lv_iinc (v := x_206) (lv' := [(3, .int x_206), (2, .int r_91), (4, .int r_91), (0, .ref (Va 0)), (1, .ref (Ta 0))]) hx hb dX7_readSum_80 hl (k := 2) rfl (by rw [ex_206]; rfl) (by decide) rfl (fun ls hl₀ => ?_)
                replace hl := hl₀
                clear hl₀
                refine lv_goto (tgt := 9) hx hb dX7_readSum_83 (by decide) ?_
                have hb_207 : 401 - (x_206 : Int32).toInt < 401 - (vy_27 : Int32).toInt ∧ 1 ≤ 401 - (vy_27 : Int32).toInt := by
                  have z_1 := Int32.lt_iff_toInt_lt.mp (Int32.not_le.mp c_50)
                  have z_2 : ¬ (r_69 : Int32).toInt = ((-1) : Int32).toInt := fun z => c_72 (Int32.toInt_inj.mp z)
                  have z_3 : ¬ (r_91 : Int32).toInt = ((-12) : Int32).toInt := fun z => c_105 (Int32.toInt_inj.mp z)
                  have z_4 := congrArg Int32.toInt c_159
                  have z_5 := congrArg Int32.toInt c_189
                  have y_m13 : (-13 : Int32).toInt = -13 := by decide
                  have y_m12 : (-12 : Int32).toInt = -12 := by decide
                  have y_m1 : (-1 : Int32).toInt = -1 := by decide
                  have y_400 : (400 : Int32).toInt = 400 := by decide
                  have y_1 : (1 : Int32).toInt = 1 := by decide
                  have t_x_206 : x_206.toInt = (vy_27 : Int32).toInt + (1 : Int32).toInt := by rw [ex_206]; exact add_toInt (by omega) (by omega)
                  omega
                have ha_208 : 0 ≤ (x_206 : Int32).toInt ∧ (x_206 : Int32).toInt ≤ 400 := by
                  have z_1 := Int32.lt_iff_toInt_lt.mp (Int32.not_le.mp c_50)
                  have z_2 : ¬ (r_69 : Int32).toInt = ((-1) : Int32).toInt := fun z => c_72 (Int32.toInt_inj.mp z)
                  have z_3 : ¬ (r_91 : Int32).toInt = ((-12) : Int32).toInt := fun z => c_105 (Int32.toInt_inj.mp z)
                  have z_4 := congrArg Int32.toInt c_159
                  have z_5 := congrArg Int32.toInt c_189
                  have y_m13 : (-13 : Int32).toInt = -13 := by decide
                  have y_m12 : (-12 : Int32).toInt = -12 := by decide
                  have y_m1 : (-1 : Int32).toInt = -1 := by decide
                  have y_400 : (400 : Int32).toInt = 400 := by decide
                  have y_1 : (1 : Int32).toInt = 1 := by decide
                  have t_x_206 : x_206.toInt = (vy_27 : Int32).toInt + (1 : Int32).toInt := by rw [ex_206]; exact add_toInt (by omega) (by omega)
                  omega
                have hu_209 : TpR (Tf 1) (Tv 0) (pz_b (rNX (cB (Tf 1) (Tv 0)) rq_44) (pz_val (cB (Tf 1) (Tv 0)))) sv_196 sv_197 sv_198 sv_199 := by
                  rw [← ero_102, ← ero_204]
                  exact pf_202
                have hu_210 : Ctd (pz_b (rNX (cB (Tf 1) (Tv 0)) rq_44) (pz_val (cB (Tf 1) (Tv 0)))) sv_194 := by
                  rw [← ero_102, ← ero_204]
                  exact pf_203
                have hr_211 : ((vy_34 : Int32).toInt = 43 ∨ (vy_34 : Int32).toInt = 45 ∨ (vy_34 : Int32).toInt = 42 ∨ (vy_34 : Int32).toInt = 47 ∨ (vy_34 : Int32).toInt = 37) := by
                  have z_1 := Int32.lt_iff_toInt_lt.mp (Int32.not_le.mp c_50)
                  have z_2 : ¬ (r_69 : Int32).toInt = ((-1) : Int32).toInt := fun z => c_72 (Int32.toInt_inj.mp z)
                  have z_3 : ¬ (r_91 : Int32).toInt = ((-12) : Int32).toInt := fun z => c_105 (Int32.toInt_inj.mp z)
                  have z_4 := congrArg Int32.toInt c_159
                  have z_5 := congrArg Int32.toInt c_189
                  have y_m13 : (-13 : Int32).toInt = -13 := by decide
                  have y_m12 : (-12 : Int32).toInt = -12 := by decide
                  have y_m1 : (-1 : Int32).toInt = -1 := by decide
                  have y_400 : (400 : Int32).toInt = 400 := by decide
                  omega
                have hi_212 : (x_206 : Int32).toInt = (vy_27 : Int32).toInt + 1 := by
                  have z_1 := Int32.lt_iff_toInt_lt.mp (Int32.not_le.mp c_50)
                  have z_2 : ¬ (r_69 : Int32).toInt = ((-1) : Int32).toInt := fun z => c_72 (Int32.toInt_inj.mp z)
                  have z_3 : ¬ (r_91 : Int32).toInt = ((-12) : Int32).toInt := fun z => c_105 (Int32.toInt_inj.mp z)
                  have z_4 := congrArg Int32.toInt c_159
                  have z_5 := congrArg Int32.toInt c_189
                  have y_m13 : (-13 : Int32).toInt = -13 := by decide
                  have y_m12 : (-12 : Int32).toInt = -12 := by decide
                  have y_m1 : (-1 : Int32).toInt = -1 := by decide
                  have y_400 : (400 : Int32).toInt = 400 := by decide
                  have y_1 : (1 : Int32).toInt = 1 := by decide
                  have t_x_206 : x_206.toInt = (vy_27 : Int32).toInt + (1 : Int32).toInt := by rw [ex_206]; exact add_toInt (by omega) (by omega)
                  omega
                exact ih_37 x_206 r_91 sv_193 sv_194 sv_195 sv_196 sv_197 sv_198 sv_199 _ _ _ (by omega) ha_208 pf_200 pf_201 (SmL.next h_tape.2.1 pf_45 pf_47 pf_48 hr_211 hu_209 hu_210 hi_212) (hP.sub [0, 1, 2, 3] rfl) (hD.sub [0, 1, 2, 3] rfl rfl) hS (lv_sub hl [0, 1, 3, 4] rfl)
              · skip
                refine lv_aload_n hx hb dX7_readSum_53 rfl (lv_at hl 3 rfl) ?_
                refine lv_iload_n hx hb dX7_readSum_54 rfl (lv_at hl 2 rfl) ?_
                refine cV (a := (Va 0)) (As := [.int vy_28]) (rest := []) (wr := [((Ta 0), .inr (10, [.ref (Ta 1), .int (Tv 0), .int sv_97, .int sv_98, .int sv_99, .int vy_35])), ((Ta 1), .inl (tc 0, 400, .inl (Tf 1)))]) ⟨hx, hb, hml, hown, hts⟩ hK hX hA (cu_fX7_put l D tc sk (Va 0) (Va 1) vy_29 vy_30 vy_31 vy_28 pf_41) k_642 k_639 k_641 k_10 k_99 pl_X7_put ⟨Nat.le_of_ble_eq_true rfl, Nat.le_of_ble_eq_true rfl⟩ rfl rfl (va_recv hK hP (ci := 7) (q0 := 0) rfl rfl) hP hD hS [0, 1] [2, 3] rfl rfl rfl rfl rfl (by decide) rfl hl.1 rfl (Nat.le_of_ble_eq_true rfl) dX7_readSum_55 ⟨Nat.le_of_ble_eq_true rfl, Nat.le_of_ble_eq_true rfl⟩ (fun v_213 u_214 H locs hv_215 hP₀ hD₀ hS₀ => ?_)
                obtain ⟨sv_216, sv_217⟩ := u_214
                obtain ⟨rfl, pf_218⟩ := hv_215
                have pf_218 : 0 ≤ (sv_216 : Int32).toInt ∧ (sv_216 : Int32).toInt ≤ 400 := pf_218
                refine W.eq (g2 := F0 m 58 ls []) rfl ?_
                replace hP : va_P D classes [((Ta 0), .inr (10, [.ref (Ta 1), .int (Tv 0), .int sv_97, .int sv_98, .int sv_99, .int vy_35])), ((Ta 1), .inl (tc 0, 400, .inl (Tf 1))), ((Va 0), .inr (7, [.ref (Va 1), .int sv_216, .int vy_30])), ((Va 1), .inl (tc 0, 400, .inl sv_217))] H := hP₀
                replace hD : va_D A [((Ta 0), .inr (10, [.ref (Ta 1), .int (Tv 0), .int sv_97, .int sv_98, .int sv_99, .int vy_35])), ((Ta 1), .inl (tc 0, 400, .inl (Tf 1))), ((Va 0), .inr (7, [.ref (Va 1), .int sv_216, .int vy_30])), ((Va 1), .inl (tc 0, 400, .inl sv_217))] := hD₀
                replace hS := hS₀
                clear hP₀ hD₀ hS₀
                refine lv_iload hx hb dX7_readSum_58 (lv_at hl 0 rfl) ?_
                refine lv_istore_n (lv' := [(2, .int r_91), (4, .int r_91), (3, .int vy_27), (0, .ref (Va 0)), (1, .ref (Ta 0))]) hx hb dX7_readSum_60 rfl hl (by decide) rfl (fun ls hl₀ => ?_)
                replace hl := hl₀
                clear hl₀
                refine lv_aload_n hx hb dX7_readSum_61 rfl (lv_at hl 3 rfl) ?_
                refine lv_aload_n hx hb dX7_readSum_62 rfl (lv_at hl 4 rfl) ?_
                refine cV (a := (Va 0)) (As := [.ref (Ta 0)]) (rest := []) (wr := []) ⟨hx, hb, hml, hown, hts⟩ hK hX hA (cu_fX7_readValue l D tc sk (Va 0) (Va 1) sv_216 vy_30 sv_217 (Ta 0) (Ta 1) (Tv 0) sv_97 sv_98 sv_99 vy_35 (Tf 1) ro_102 pf_100 pf_218 h_by pf_101 cd_104) k_628 k_625 k_627 k_8 k_99 pl_X7_readValue ⟨Nat.le_of_ble_eq_true rfl, Nat.le_of_ble_eq_true rfl⟩ rfl rfl (va_recv hK hP (ci := 7) (q0 := 2) rfl rfl) hP hD hS [2, 3, 0, 1] [] rfl rfl rfl rfl rfl (by decide) rfl hl.1 rfl (Nat.le_of_ble_eq_true rfl) dX7_readSum_63 ⟨Nat.le_of_ble_eq_true rfl, Nat.le_of_ble_eq_true rfl⟩ (fun v_219 u_220 H locs hv_221 hP₀ hD₀ hS₀ => ?_)
                obtain ⟨sv_222, sv_223, sv_224, sv_225, sv_226, sv_227, sv_228⟩ := u_220
                obtain ⟨rfl, pf_229, pf_230, pf_231, pf_232⟩ := hv_221
                have pf_229 : 0 ≤ ((Tv 0) : Int32).toInt ∧ ((Tv 0) : Int32).toInt ≤ 400 ∧ 0 ≤ (sv_225 : Int32).toInt ∧ (sv_225 : Int32).toInt ≤ 400 ∧ 0 ≤ (sv_226 : Int32).toInt ∧ (sv_226 : Int32).toInt ≤ 400 := pf_229
                have pf_230 : 0 ≤ (sv_222 : Int32).toInt ∧ (sv_222 : Int32).toInt ≤ 400 := pf_230
                have pf_231 : TpR (Tf 1) (Tv 0) (pz_b ro_102 (pz_val (cB (Tf 1) (Tv 0)))) sv_225 sv_226 sv_227 sv_228 := pf_231
                obtain ⟨ro_233, ero_233⟩ : ∃ z : Except Int (Nat × Nat), z = (pz_b ro_102 (pz_val (cB (Tf 1) (Tv 0)))) := ⟨_, rfl⟩
                rw [← ero_233] at pf_231
                have tb_234 : TpB (rTE (cB (Tf 1) (Tv 0)) ro_233) sv_226 sv_228 := TpR.tb pf_231
                have pf_232 : Ctd (pz_b ro_102 (pz_val (cB (Tf 1) (Tv 0)))) sv_223 := pf_232
                rw [← ero_233] at pf_232
                refine W.eq (g2 := F0 m 66 ls []) rfl ?_
                replace hP : va_P D classes [((Va 0), .inr (7, [.ref (Va 1), .int sv_222, .int sv_223])), ((Va 1), .inl (tc 0, 400, .inl sv_224)), ((Ta 0), .inr (10, [.ref (Ta 1), .int (Tv 0), .int sv_225, .int sv_226, .int sv_227, .int sv_228])), ((Ta 1), .inl (tc 0, 400, .inl (Tf 1)))] H := hP₀
                replace hD : va_D A [((Va 0), .inr (7, [.ref (Va 1), .int sv_222, .int sv_223])), ((Va 1), .inl (tc 0, 400, .inl sv_224)), ((Ta 0), .inr (10, [.ref (Ta 1), .int (Tv 0), .int sv_225, .int sv_226, .int sv_227, .int sv_228])), ((Ta 1), .inl (tc 0, 400, .inl (Tf 1)))] := hD₀
                replace hS := hS₀
                clear hP₀ hD₀ hS₀
                refine lv_goto (tgt := 80) hx hb dX7_readSum_66 (by decide) ?_
                obtain ⟨x_235, ex_235⟩ : ∃ y : Int32, y = vy_27 + 1 := ⟨_, rfl⟩
                refine lv_iinc (v := x_235) (lv' := [(3, .int x_235), (2, .int r_91), (4, .int r_91), (0, .ref (Va 0)), (1, .ref (Ta 0))]) hx hb dX7_readSum_80 hl (k := 2) rfl (by rw [ex_235]; rfl) (by decide) rfl (fun ls hl₀ => ?_)
                replace hl := hl₀
                clear hl₀
                refine lv_goto (tgt := 9) hx hb dX7_readSum_83 (by decide) ?_
                have hb_236 : 401 - (x_235 : Int32).toInt < 401 - (vy_27 : Int32).toInt ∧ 1 ≤ 401 - (vy_27 : Int32).toInt := by
                  have z_1 := Int32.lt_iff_toInt_lt.mp (Int32.not_le.mp c_50)
                  have z_2 : ¬ (r_69 : Int32).toInt = ((-1) : Int32).toInt := fun z => c_72 (Int32.toInt_inj.mp z)
                  have z_3 : ¬ (r_91 : Int32).toInt = ((-12) : Int32).toInt := fun z => c_105 (Int32.toInt_inj.mp z)
                  have z_4 := congrArg Int32.toInt c_159
                  have z_5 : ¬ (vy_28 : Int32).toInt = ((-1) : Int32).toInt := fun z => c_189 (Int32.toInt_inj.mp z)
                  have y_m13 : (-13 : Int32).toInt = -13 := by decide
                  have y_m12 : (-12 : Int32).toInt = -12 := by decide
                  have y_m1 : (-1 : Int32).toInt = -1 := by decide
                  have y_400 : (400 : Int32).toInt = 400 := by decide
                  have y_1 : (1 : Int32).toInt = 1 := by decide
                  have t_x_235 : x_235.toInt = (vy_27 : Int32).toInt + (1 : Int32).toInt := by rw [ex_235]; exact add_toInt (by omega) (by omega)
                  omega
                have ha_237 : 0 ≤ (x_235 : Int32).toInt ∧ (x_235 : Int32).toInt ≤ 400 := by
                  have z_1 := Int32.lt_iff_toInt_lt.mp (Int32.not_le.mp c_50)
                  have z_2 : ¬ (r_69 : Int32).toInt = ((-1) : Int32).toInt := fun z => c_72 (Int32.toInt_inj.mp z)
                  have z_3 : ¬ (r_91 : Int32).toInt = ((-12) : Int32).toInt := fun z => c_105 (Int32.toInt_inj.mp z)
                  have z_4 := congrArg Int32.toInt c_159
                  have z_5 : ¬ (vy_28 : Int32).toInt = ((-1) : Int32).toInt := fun z => c_189 (Int32.toInt_inj.mp z)
                  have y_m13 : (-13 : Int32).toInt = -13 := by decide
                  have y_m12 : (-12 : Int32).toInt = -12 := by decide
                  have y_m1 : (-1 : Int32).toInt = -1 := by decide
                  have y_400 : (400 : Int32).toInt = 400 := by decide
                  have y_1 : (1 : Int32).toInt = 1 := by decide
                  have t_x_235 : x_235.toInt = (vy_27 : Int32).toInt + (1 : Int32).toInt := by rw [ex_235]; exact add_toInt (by omega) (by omega)
                  omega
                have hu_238 : TpR (Tf 1) (Tv 0) (pz_b (rNX (cB (Tf 1) (Tv 0)) rq_44) (pz_val (cB (Tf 1) (Tv 0)))) sv_225 sv_226 sv_227 sv_228 := by
                  rw [← ero_102, ← ero_233]
                  exact pf_231
                have hu_239 : Ctd (pz_b (rNX (cB (Tf 1) (Tv 0)) rq_44) (pz_val (cB (Tf 1) (Tv 0)))) sv_223 := by
                  rw [← ero_102, ← ero_233]
                  exact pf_232
                have hr_240 : ((vy_34 : Int32).toInt = 43 ∨ (vy_34 : Int32).toInt = 45 ∨ (vy_34 : Int32).toInt = 42 ∨ (vy_34 : Int32).toInt = 47 ∨ (vy_34 : Int32).toInt = 37) := by
                  have z_1 := Int32.lt_iff_toInt_lt.mp (Int32.not_le.mp c_50)
                  have z_2 : ¬ (r_69 : Int32).toInt = ((-1) : Int32).toInt := fun z => c_72 (Int32.toInt_inj.mp z)
                  have z_3 : ¬ (r_91 : Int32).toInt = ((-12) : Int32).toInt := fun z => c_105 (Int32.toInt_inj.mp z)
                  have z_4 := congrArg Int32.toInt c_159
                  have z_5 : ¬ (vy_28 : Int32).toInt = ((-1) : Int32).toInt := fun z => c_189 (Int32.toInt_inj.mp z)
                  have y_m13 : (-13 : Int32).toInt = -13 := by decide
                  have y_m12 : (-12 : Int32).toInt = -12 := by decide
                  have y_m1 : (-1 : Int32).toInt = -1 := by decide
                  have y_400 : (400 : Int32).toInt = 400 := by decide
                  omega
                have hi_241 : (x_235 : Int32).toInt = (vy_27 : Int32).toInt + 1 := by
                  have z_1 := Int32.lt_iff_toInt_lt.mp (Int32.not_le.mp c_50)
                  have z_2 : ¬ (r_69 : Int32).toInt = ((-1) : Int32).toInt := fun z => c_72 (Int32.toInt_inj.mp z)
                  have z_3 : ¬ (r_91 : Int32).toInt = ((-12) : Int32).toInt := fun z => c_105 (Int32.toInt_inj.mp z)
                  have z_4 := congrArg Int32.toInt c_159
                  have z_5 : ¬ (vy_28 : Int32).toInt = ((-1) : Int32).toInt := fun z => c_189 (Int32.toInt_inj.mp z)
                  have y_m13 : (-13 : Int32).toInt = -13 := by decide
                  have y_m12 : (-12 : Int32).toInt = -12 := by decide
                  have y_m1 : (-1 : Int32).toInt = -1 := by decide
                  have y_400 : (400 : Int32).toInt = 400 := by decide
                  have y_1 : (1 : Int32).toInt = 1 := by decide
                  have t_x_235 : x_235.toInt = (vy_27 : Int32).toInt + (1 : Int32).toInt := by rw [ex_235]; exact add_toInt (by omega) (by omega)
                  omega
                exact ih_37 x_235 r_91 sv_222 sv_223 sv_224 sv_225 sv_226 sv_227 sv_228 _ _ _ (by omega) ha_237 pf_229 pf_230 (SmL.next h_tape.2.1 pf_45 pf_47 pf_48 hr_240 hu_238 hu_239 hi_241) (hP.sub [0, 1, 2, 3] rfl) (hD.sub [0, 1, 2, 3] rfl rfl) hS (lv_sub hl [0, 1, 3, 4] rfl)
  have ha_242 : 0 ≤ (0 : Int32).toInt ∧ (0 : Int32).toInt ≤ 400 := by
    have y_0 : (0 : Int32).toInt = 0 := by decide
    omega
  have hu_243 : TpR (Tf 1) (Tv 0) (pz_b rr (pz_val (cB (Tf 1) (Tv 0)))) sv_8 sv_9 sv_10 sv_11 := by
    rw [← ero_16]
    exact pf_14
  have hu_244 : Ctd (pz_b rr (pz_val (cB (Tf 1) (Tv 0)))) sv_6 := by
    rw [← ero_16]
    exact pf_15
  exact loop_38 _ 0 (-1) sv_5 sv_6 sv_7 sv_8 sv_9 sv_10 sv_11 _ _ _ (Nat.lt_succ_self _) ha_242 pf_12 pf_13 (SmL.first hu_243 hu_244) hP hD hS hl
set_option maxRecDepth 100000 in
theorem cu_fX7_readSum (l : Launch) (D : va_G) (tc : Nat → ClassId) (sk : (Nat → Nat) × (Nat → Nat)) (Va_0 : Nat) (Va_1 : Nat) (Vv_0 : Int32) (Vv_1 : Int32) (Vf_1 : Nat → Int32) (Ta_0 : Nat) (Ta_1 : Nat) (Tv_0 : Int32) (Tv_1 : Int32) (Tv_2 : Int32) (Tv_3 : Int32) (Tv_4 : Int32) (Tf_1 : Nat → Int32) (rr : Except Int (Nat × Nat)) (h_tape : 0 ≤ (Tv_0 : Int32).toInt ∧ (Tv_0 : Int32).toInt ≤ 400 ∧ 0 ≤ (Tv_1 : Int32).toInt ∧ (Tv_1 : Int32).toInt ≤ 400 ∧ 0 ≤ (Tv_2 : Int32).toInt ∧ (Tv_2 : Int32).toInt ≤ 400) (h_u : 0 ≤ (Vv_0 : Int32).toInt ∧ (Vv_0 : Int32).toInt ≤ 400) (h_by : Byt Tf_1) (h_r : TpR Tf_1 Tv_0 rr Tv_1 Tv_2 Tv_3 Tv_4) (h_ct : Ctd rr Vv_1) : Ct l yX7_readSum cX7_readSum 5 none { frames := 7, cells := 0, slots := 0, locals := 156 } D tc sk [.ref Va_0, .ref Ta_0] [(Va_0, .inr (7, [.ref Va_1, .int Vv_0, .int Vv_1])), (Va_1, .inl (tc 0, 400, .inl Vf_1)), (Ta_0, .inr (10, [.ref Ta_1, .int Tv_0, .int Tv_1, .int Tv_2, .int Tv_3, .int Tv_4])), (Ta_1, .inl (tc 0, 400, .inl Tf_1))] (fun (v : Option Value) (u : (Int32) × (Int32) × (Nat → Int32) × (Int32) × (Int32) × (Int32) × (Int32)) => match u with | (oo0x1, oo0x2, oo0x3, oo0x4, oo0x5, oo0x6, oo0x7) => v = none ∧ (0 ≤ (Tv_0 : Int32).toInt ∧ (Tv_0 : Int32).toInt ≤ 400 ∧ 0 ≤ (oo0x4 : Int32).toInt ∧ (oo0x4 : Int32).toInt ≤ 400 ∧ 0 ≤ (oo0x5 : Int32).toInt ∧ (oo0x5 : Int32).toInt ≤ 400) ∧ (0 ≤ (oo0x1 : Int32).toInt ∧ (oo0x1 : Int32).toInt ≤ 400) ∧ (TpR Tf_1 Tv_0 (pz_b rr (pz_sum (cB Tf_1 Tv_0))) oo0x4 oo0x5 oo0x6 oo0x7) ∧ (Ctd (pz_b rr (pz_sum (cB Tf_1 Tv_0))) oo0x2)) (fun (u : (Int32) × (Int32) × (Nat → Int32) × (Int32) × (Int32) × (Int32) × (Int32)) => match u with | (oo0x1, oo0x2, oo0x3, oo0x4, oo0x5, oo0x6, oo0x7) => [(Va_0, .inr (7, [.ref Va_1, .int oo0x1, .int oo0x2])), (Va_1, .inl (tc 0, 400, .inl oo0x3)), (Ta_0, .inr (10, [.ref Ta_1, .int Tv_0, .int oo0x4, .int oo0x5, .int oo0x6, .int oo0x7])), (Ta_1, .inl (tc 0, 400, .inl Tf_1))]) 0 0 :=
  ct_fX7_readSum l D tc sk (fun k => ([Va_0, Va_1] : List (Nat)).getD k 0) (fun k => ([Vv_0, Vv_1] : List (Int32)).getD k 0) (fun k => ([(fun _ => 0), Vf_1] : List (Nat → Int32)).getD k (fun _ => 0)) (fun k => ([Ta_0, Ta_1] : List (Nat)).getD k 0) (fun k => ([Tv_0, Tv_1, Tv_2, Tv_3, Tv_4] : List (Int32)).getD k 0) (fun k => ([(fun _ => 0), Tf_1] : List (Nat → Int32)).getD k (fun _ => 0)) rr h_tape h_u h_by h_r h_ct
