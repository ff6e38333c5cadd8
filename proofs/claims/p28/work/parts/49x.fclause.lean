set_option maxHeartbeats 4000000 in
set_option maxRecDepth 100000 in
theorem ct_fX12_takesWord (l : Launch) (D : va_G) (tc : Nat → ClassId) (sk : (Nat → Nat) × (Nat → Nat)) (Ma : Nat → Nat) (Mv : Nat → Int32) (Mf : Nat → Nat → Int32) (Mj : Nat → Int64) (w1 : Int64) (h_nx : 0 ≤ ((Mv 2) : Int32).toInt ∧ ((Mv 2) : Int32).toInt ≤ ((Mv 0) : Int32).toInt ∧ ((Mv 0) : Int32).toInt ≤ 400) (h_bs : ByS (Mf 1)) : Ct l yX12_takesWord cX12_takesWord 3 (some .boolean) { frames := 2, cells := 0, slots := 0, locals := 46 } D tc sk [.ref (Ma 0), .long w1] [((Ma 0), .inr (12, [.ref (Ma 1), .int (Mv 0), .int (Mv 1), .ref (Ma 2), .ref (Ma 3), .ref (Ma 4), .ref (Ma 5), .ref (Ma 6), .int (Mv 2), .int (Mv 3), .int (Mv 4), .int (Mv 5), .int (Mv 6), .int (Mv 7), .int (Mv 8), .ref (Ma 7), .int (Mv 9), .ref (Ma 8), .int (Mv 10), .ref (Ma 9), .ref (Ma 10), .int (Mv 11), .int (Mv 12), .int (Mv 13), .ref (Ma 11), .int (Mv 14), .ref (Ma 12), .ref (Ma 13), .ref (Ma 14), .ref (Ma 15), .ref (Ma 16), .long (Mj 0), .ref (Ma 17), .ref (Ma 18), .ref (Ma 19), .ref (Ma 20)])), ((Ma 1), .inl (tc 2, 400, .inl (Mf 1)))] (fun (v : Option Value) (oo0x1 : Int32) => ∃ r : Int32, v = some (.int r) ∧ ((r.toInt = 0 ∨ r.toInt = 1)) ∧ (((Mv 2) : Int32).toInt ≤ (oo0x1 : Int32).toInt ∧ (oo0x1 : Int32).toInt ≤ ((Mv 0) : Int32).toInt) ∧ (r.toInt = 1 → (TkW (rB (Mf 1) (Mv 0)) w1.toInt (Mv 2) oo0x1)) ∧ (r.toInt = 0 → (NtW (rB (Mf 1) (Mv 0)) w1.toInt (Mv 2) oo0x1))) (fun (oo0x1 : Int32) => [((Ma 0), .inr (12, [.ref (Ma 1), .int (Mv 0), .int (Mv 1), .ref (Ma 2), .ref (Ma 3), .ref (Ma 4), .ref (Ma 5), .ref (Ma 6), .int oo0x1, .int (Mv 3), .int (Mv 4), .int (Mv 5), .int (Mv 6), .int (Mv 7), .int (Mv 8), .ref (Ma 7), .int (Mv 9), .ref (Ma 8), .int (Mv 10), .ref (Ma 9), .ref (Ma 10), .int (Mv 11), .int (Mv 12), .int (Mv 13), .ref (Ma 11), .int (Mv 14), .ref (Ma 12), .ref (Ma 13), .ref (Ma 14), .ref (Ma 15), .ref (Ma 16), .long (Mj 0), .ref (Ma 17), .ref (Ma 18), .ref (Ma 19), .ref (Ma 20)])), ((Ma 1), .inl (tc 2, 400, .inl (Mf 1)))]) 0 0 := by
  refine Ct.start (by decide) (Nat.le_of_ble_eq_true rfl) (fun p e s m below meth c A ls hx hb hr hlk hin hml hown hts hK hX hP hD hA hl hS => ?_)
  have hl : lv_has ls 3 [(0, .ref (Ma 0)), (1, .long w1)] := hl
  refine lv_aload_n hx hb dX12_takesWord_0 rfl (lv_at hl 0 rfl) ?_
  refine lv_lload_n hx hb dX12_takesWord_1 rfl (lv_at hl 1 rfl) ?_
  refine cV (a := (Ma 0)) (As := [.long w1]) (rest := []) (wr := []) ⟨hx, hb, hml, hown, hts⟩ hK hX hA (cu_fX12_isWord l D tc sk (Ma 0) (Ma 1) (Ma 2) (Ma 3) (Ma 4) (Ma 5) (Ma 6) (Ma 7) (Ma 8) (Ma 9) (Ma 10) (Ma 11) (Ma 12) (Ma 13) (Ma 14) (Ma 15) (Ma 16) (Ma 17) (Ma 18) (Ma 19) (Ma 20) (Mv 0) (Mv 1) (Mv 2) (Mv 3) (Mv 4) (Mv 5) (Mv 6) (Mv 7) (Mv 8) (Mv 9) (Mv 10) (Mv 11) (Mv 12) (Mv 13) (Mv 14) (Mf 1) (Mj 0) w1 h_nx h_bs) k_1220 k_1217 k_1219 k_29 k_106 pl_X12_isWord ⟨Nat.le_of_ble_eq_true rfl, Nat.le_of_ble_eq_true rfl⟩ rfl rfl (va_recv hK hP (ci := 12) (q0 := 0) rfl rfl) hP hD hS [0, 1] [] rfl rfl rfl rfl rfl (by decide) rfl hl.1 rfl (Nat.le_of_ble_eq_true rfl) dX12_takesWord_2 ⟨Nat.le_of_ble_eq_true rfl, Nat.le_of_ble_eq_true rfl⟩ (fun v_1 u_2 H locs hv_3 hP₀ hD₀ hS₀ => ?_)
  obtain ⟨sv_4, rfl⟩ : ∃ z, z = u_2 := ⟨_, rfl⟩
  obtain ⟨r_9, rfl, he_10, pf_5, pf_6, pf_7, pf_8, hm_12, hm_13⟩ := hv_3
  have he_10 : (r_9.toInt = 0 ∨ r_9.toInt = 1) := he_10
  have pf_5 : ((Mv 2) : Int32).toInt ≤ (sv_4 : Int32).toInt ∧ (sv_4 : Int32).toInt ≤ ((Mv 0) : Int32).toInt := pf_5
  have pf_6 : NSq (Mf 1) (Mv 0) sv_4 := pf_6
  have pf_7 : Stl (Mf 1) (Mv 0) (Mv 2) sv_4 := pf_7
  have pf_8 : SkR (rB (Mf 1) (Mv 0)) (Mv 2) sv_4 := pf_8
  refine W.eq (g2 := F0 m 5 ls [.int r_9]) rfl ?_
  replace hP : va_P D classes [((Ma 0), .inr (12, [.ref (Ma 1), .int (Mv 0), .int (Mv 1), .ref (Ma 2), .ref (Ma 3), .ref (Ma 4), .ref (Ma 5), .ref (Ma 6), .int sv_4, .int (Mv 3), .int (Mv 4), .int (Mv 5), .int (Mv 6), .int (Mv 7), .int (Mv 8), .ref (Ma 7), .int (Mv 9), .ref (Ma 8), .int (Mv 10), .ref (Ma 9), .ref (Ma 10), .int (Mv 11), .int (Mv 12), .int (Mv 13), .ref (Ma 11), .int (Mv 14), .ref (Ma 12), .ref (Ma 13), .ref (Ma 14), .ref (Ma 15), .ref (Ma 16), .long (Mj 0), .ref (Ma 17), .ref (Ma 18), .ref (Ma 19), .ref (Ma 20)])), ((Ma 1), .inl (tc 2, 400, .inl (Mf 1)))] H := hP₀
  replace hD : va_D A [((Ma 0), .inr (12, [.ref (Ma 1), .int (Mv 0), .int (Mv 1), .ref (Ma 2), .ref (Ma 3), .ref (Ma 4), .ref (Ma 5), .ref (Ma 6), .int sv_4, .int (Mv 3), .int (Mv 4), .int (Mv 5), .int (Mv 6), .int (Mv 7), .int (Mv 8), .ref (Ma 7), .int (Mv 9), .ref (Ma 8), .int (Mv 10), .ref (Ma 9), .ref (Ma 10), .int (Mv 11), .int (Mv 12), .int (Mv 13), .ref (Ma 11), .int (Mv 14), .ref (Ma 12), .ref (Ma 13), .ref (Ma 14), .ref (Ma 15), .ref (Ma 16), .long (Mj 0), .ref (Ma 17), .ref (Ma 18), .ref (Ma 19), .ref (Ma 20)])), ((Ma 1), .inl (tc 2, 400, .inl (Mf 1)))] := hD₀
  replace hS := hS₀
  clear hP₀ hD₀ hS₀
  refine lv_if_ne (tgt := 10) hx hb dX12_takesWord_5 (by decide) (fun c_14 => ?_) (fun c_14 => ?_)
  · skip
    have hz_17 : (r_9 : Int32).toInt = 1 := by
      have z_1 : ¬ (r_9 : Int32).toInt = (0 : Int32).toInt := fun z => c_14 (Int32.toInt_inj.mp z)
      have y_0 : (0 : Int32).toInt = 0 := by decide
      omega
    obtain ⟨pf_15, pf_16⟩ := hm_12 hz_17
    have pf_15 : Ltr (Mf 1) (Mv 0) sv_4 := pf_15
    have ar_pf_15 := pf_15.1
    have at_pf_15 : 97 ≤ ((Mf 1) (sv_4 : Int32).toInt.toNat).toInt ∧ ((Mf 1) (sv_4 : Int32).toInt.toNat).toInt ≤ 122 := pf_15.2
    have pf_16 : PkW (rB (Mf 1) (Mv 0)) ((sv_4 : Int32).toInt.toNat) w1.toInt := pf_16
    refine lv_aload_n hx hb dX12_takesWord_10 rfl (lv_at hl 0 rfl) ?_
    have ha_18 : 0 ≤ (sv_4 : Int32).toInt ∧ (sv_4 : Int32).toInt ≤ ((Mv 0) : Int32).toInt ∧ ((Mv 0) : Int32).toInt ≤ 400 := by
      have z_1 : ¬ (r_9 : Int32).toInt = (0 : Int32).toInt := fun z => c_14 (Int32.toInt_inj.mp z)
      have y_0 : (0 : Int32).toInt = 0 := by decide
      omega
    refine cV (a := (Ma 0)) (As := []) (rest := []) (wr := []) ⟨hx, hb, hml, hown, hts⟩ hK hX hA (cu_fX12_passWord l D tc sk (Ma 0) (Ma 1) (Ma 2) (Ma 3) (Ma 4) (Ma 5) (Ma 6) (Ma 7) (Ma 8) (Ma 9) (Ma 10) (Ma 11) (Ma 12) (Ma 13) (Ma 14) (Ma 15) (Ma 16) (Ma 17) (Ma 18) (Ma 19) (Ma 20) (Mv 0) (Mv 1) sv_4 (Mv 3) (Mv 4) (Mv 5) (Mv 6) (Mv 7) (Mv 8) (Mv 9) (Mv 10) (Mv 11) (Mv 12) (Mv 13) (Mv 14) (Mf 1) (Mj 0) ha_18 h_bs) k_1244 k_1241 k_1243 k_34 k_106 pl_X12_passWord ⟨Nat.le_of_ble_eq_true rfl, Nat.le_of_ble_eq_true rfl⟩ rfl rfl (va_recv hK hP (ci := 12) (q0 := 0) rfl rfl) hP hD hS [0, 1] [] rfl rfl rfl rfl rfl (by decide) rfl hl.1 rfl (Nat.le_of_ble_eq_true rfl) dX12_takesWord_11 ⟨Nat.le_of_ble_eq_true rfl, Nat.le_of_ble_eq_true rfl⟩ (fun v_19 u_20 H locs hv_21 hP₀ hD₀ hS₀ => ?_)
    obtain ⟨sv_22, rfl⟩ : ∃ z, z = u_20 := ⟨_, rfl⟩
    obtain ⟨rfl, pf_23, pf_24, pf_25⟩ := hv_21
    have pf_23 : (sv_4 : Int32).toInt ≤ (sv_22 : Int32).toInt ∧ (sv_22 : Int32).toInt ≤ ((Mv 0) : Int32).toInt := pf_23
    have pf_24 : Pw (Mf 1) (Mv 0) sv_4 sv_22 := pf_24
    have ar_pf_24 := pf_24 pf_15
    have pf_25 : PsR (rB (Mf 1) (Mv 0)) sv_4 sv_22 := pf_25
    refine W.eq (g2 := F0 m 14 ls []) rfl ?_
    replace hP : va_P D classes [((Ma 0), .inr (12, [.ref (Ma 1), .int (Mv 0), .int (Mv 1), .ref (Ma 2), .ref (Ma 3), .ref (Ma 4), .ref (Ma 5), .ref (Ma 6), .int sv_22, .int (Mv 3), .int (Mv 4), .int (Mv 5), .int (Mv 6), .int (Mv 7), .int (Mv 8), .ref (Ma 7), .int (Mv 9), .ref (Ma 8), .int (Mv 10), .ref (Ma 9), .ref (Ma 10), .int (Mv 11), .int (Mv 12), .int (Mv 13), .ref (Ma 11), .int (Mv 14), .ref (Ma 12), .ref (Ma 13), .ref (Ma 14), .ref (Ma 15), .ref (Ma 16), .long (Mj 0), .ref (Ma 17), .ref (Ma 18), .ref (Ma 19), .ref (Ma 20)])), ((Ma 1), .inl (tc 2, 400, .inl (Mf 1)))] H := hP₀
    replace hD : va_D A [((Ma 0), .inr (12, [.ref (Ma 1), .int (Mv 0), .int (Mv 1), .ref (Ma 2), .ref (Ma 3), .ref (Ma 4), .ref (Ma 5), .ref (Ma 6), .int sv_22, .int (Mv 3), .int (Mv 4), .int (Mv 5), .int (Mv 6), .int (Mv 7), .int (Mv 8), .ref (Ma 7), .int (Mv 9), .ref (Ma 8), .int (Mv 10), .ref (Ma 9), .ref (Ma 10), .int (Mv 11), .int (Mv 12), .int (Mv 13), .ref (Ma 11), .int (Mv 14), .ref (Ma 12), .ref (Ma 13), .ref (Ma 14), .ref (Ma 15), .ref (Ma 16), .long (Mj 0), .ref (Ma 17), .ref (Ma 18), .ref (Ma 19), .ref (Ma 20)])), ((Ma 1), .inl (tc 2, 400, .inl (Mf 1)))] := hD₀
    replace hS := hS₀
    clear hP₀ hD₀ hS₀
    refine lv_iconst (v := 1) hx hb dX12_takesWord_14 (by decide) ?_
    have ha_26 : ((Mv 2) : Int32).toInt ≤ (sv_22 : Int32).toInt ∧ (sv_22 : Int32).toInt ≤ ((Mv 0) : Int32).toInt := by
      have z_1 : ¬ (r_9 : Int32).toInt = (0 : Int32).toInt := fun z => c_14 (Int32.toInt_inj.mp z)
      have y_0 : (0 : Int32).toInt = 0 := by decide
      omega
    have hp_27 : ((1 : Int32).toInt = 0 ∨ (1 : Int32).toInt = 1) := by
      have z_1 : ¬ (r_9 : Int32).toInt = (0 : Int32).toInt := fun z => c_14 (Int32.toInt_inj.mp z)
      have y_0 : (0 : Int32).toInt = 0 := by decide
      have y_1 : (1 : Int32).toInt = 1 := by decide
      have yr : (1 : Int32).toInt = 1 := by decide
      omega
    have hm_28 : (1 : Int32).toInt = 1 → (TkW (rB (Mf 1) (Mv 0)) w1.toInt (Mv 2) sv_22) := by
      intro h1r
      exact ⟨sv_4, pf_8, pf_16, pf_25⟩
    exact retI (v := 1) hx hb hr hlk (rfl) hP hD hS sv_22 ⟨_, rfl, hp_27, ha_26, hm_28, (fun h => absurd h (by decide))⟩ [0, 1] rfl rfl dX12_takesWord_15 (Nat.le_of_ble_eq_true rfl) (Nat.le_of_ble_eq_true rfl) rfl
  · skip
    have hz_30 : (r_9 : Int32).toInt = 0 := by
      have z_1 := congrArg Int32.toInt c_14
      have y_0 : (0 : Int32).toInt = 0 := by decide
      omega
    obtain pf_29 := hm_13 hz_30
    have pf_29 : NPk (rB (Mf 1) (Mv 0)) ((sv_4 : Int32).toInt.toNat) w1.toInt := pf_29
    refine lv_iconst (v := 0) hx hb dX12_takesWord_8 (by decide) ?_
    have hp_31 : ((0 : Int32).toInt = 0 ∨ (0 : Int32).toInt = 1) := by
      have z_1 := congrArg Int32.toInt c_14
      have y_0 : (0 : Int32).toInt = 0 := by decide
      omega
    have hm_32 : (0 : Int32).toInt = 0 → (NtW (rB (Mf 1) (Mv 0)) w1.toInt (Mv 2) sv_4) := by
      intro h1r
      exact ⟨pf_8, pf_29⟩
    exact retI (v := 0) hx hb hr hlk (rfl) hP hD hS sv_4 ⟨_, rfl, hp_31, pf_5, (fun h => absurd h (by decide)), hm_32⟩ [0, 1] rfl rfl dX12_takesWord_9 (Nat.le_of_ble_eq_true rfl) (Nat.le_of_ble_eq_true rfl) rfl
set_option maxRecDepth 100000 in
theorem cu_fX12_takesWord (l : Launch) (D : va_G) (tc : Nat → ClassId) (sk : (Nat → Nat) × (Nat → Nat)) (Ma_0 : Nat) (Ma_1 : Nat) (Ma_2 : Nat) (Ma_3 : Nat) (Ma_4 : Nat) (Ma_5 : Nat) (Ma_6 : Nat) (Ma_7 : Nat) (Ma_8 : Nat) (Ma_9 : Nat) (Ma_10 : Nat) (Ma_11 : Nat) (Ma_12 : Nat) (Ma_13 : Nat) (Ma_14 : Nat) (Ma_15 : Nat) (Ma_16 : Nat) (Ma_17 : Nat) (Ma_18 : Nat) (Ma_19 : Nat) (Ma_20 : Nat) (Mv_0 : Int32) (Mv_1 : Int32) (Mv_2 : Int32) (Mv_3 : Int32) (Mv_4 : Int32) (Mv_5 : Int32) (Mv_6 : Int32) (Mv_7 : Int32) (Mv_8 : Int32) (Mv_9 : Int32) (Mv_10 : Int32) (Mv_11 : Int32) (Mv_12 : Int32) (Mv_13 : Int32) (Mv_14 : Int32) (Mf_1 : Nat → Int32) (Mj_0 : Int64) (w1 : Int64) (h_nx : 0 ≤ (Mv_2 : Int32).toInt ∧ (Mv_2 : Int32).toInt ≤ (Mv_0 : Int32).toInt ∧ (Mv_0 : Int32).toInt ≤ 400) (h_bs : ByS Mf_1) : Ct l yX12_takesWord cX12_takesWord 3 (some .boolean) { frames := 2, cells := 0, slots := 0, locals := 46 } D tc sk [.ref Ma_0, .long w1] [(Ma_0, .inr (12, [.ref Ma_1, .int Mv_0, .int Mv_1, .ref Ma_2, .ref Ma_3, .ref Ma_4, .ref Ma_5, .ref Ma_6, .int Mv_2, .int Mv_3, .int Mv_4, .int Mv_5, .int Mv_6, .int Mv_7, .int Mv_8, .ref Ma_7, .int Mv_9, .ref Ma_8, .int Mv_10, .ref Ma_9, .ref Ma_10, .int Mv_11, .int Mv_12, .int Mv_13, .ref Ma_11, .int Mv_14, .ref Ma_12, .ref Ma_13, .ref Ma_14, .ref Ma_15, .ref Ma_16, .long Mj_0, .ref Ma_17, .ref Ma_18, .ref Ma_19, .ref Ma_20])), (Ma_1, .inl (tc 2, 400, .inl Mf_1))] (fun (v : Option Value) (oo0x1 : Int32) => ∃ r : Int32, v = some (.int r) ∧ ((r.toInt = 0 ∨ r.toInt = 1)) ∧ ((Mv_2 : Int32).toInt ≤ (oo0x1 : Int32).toInt ∧ (oo0x1 : Int32).toInt ≤ (Mv_0 : Int32).toInt) ∧ (r.toInt = 1 → (TkW (rB Mf_1 Mv_0) w1.toInt Mv_2 oo0x1)) ∧ (r.toInt = 0 → (NtW (rB Mf_1 Mv_0) w1.toInt Mv_2 oo0x1))) (fun (oo0x1 : Int32) => [(Ma_0, .inr (12, [.ref Ma_1, .int Mv_0, .int Mv_1, .ref Ma_2, .ref Ma_3, .ref Ma_4, .ref Ma_5, .ref Ma_6, .int oo0x1, .int Mv_3, .int Mv_4, .int Mv_5, .int Mv_6, .int Mv_7, .int Mv_8, .ref Ma_7, .int Mv_9, .ref Ma_8, .int Mv_10, .ref Ma_9, .ref Ma_10, .int Mv_11, .int Mv_12, .int Mv_13, .ref Ma_11, .int Mv_14, .ref Ma_12, .ref Ma_13, .ref Ma_14, .ref Ma_15, .ref Ma_16, .long Mj_0, .ref Ma_17, .ref Ma_18, .ref Ma_19, .ref Ma_20])), (Ma_1, .inl (tc 2, 400, .inl Mf_1))]) 0 0 :=
  ct_fX12_takesWord l D tc sk (fun k => ([Ma_0, Ma_1, Ma_2, Ma_3, Ma_4, Ma_5, Ma_6, Ma_7, Ma_8, Ma_9, Ma_10, Ma_11, Ma_12, Ma_13, Ma_14, Ma_15, Ma_16, Ma_17, Ma_18, Ma_19, Ma_20] : List (Nat)).getD k 0) (fun k => ([Mv_0, Mv_1, Mv_2, Mv_3, Mv_4, Mv_5, Mv_6, Mv_7, Mv_8, Mv_9, Mv_10, Mv_11, Mv_12, Mv_13, Mv_14] : List (Int32)).getD k 0) (fun k => ([(fun _ => 0), Mf_1] : List (Nat → Int32)).getD k (fun _ => 0)) (fun k => ([Mj_0] : List (Int64)).getD k 0) w1 h_nx h_bs
set_option maxHeartbeats 4000000 in
set_option maxRecDepth 100000 in
theorem ct_fX12_isBuyHere (l : Launch) (D : va_G) (tc : Nat → ClassId) (sk : (Nat → Nat) × (Nat → Nat)) (Ma : Nat → Nat) (Mv : Nat → Int32) (Mf : Nat → Nat → Int32) (Mj : Nat → Int64) (h_nx : 0 ≤ ((Mv 2) : Int32).toInt ∧ ((Mv 2) : Int32).toInt ≤ ((Mv 0) : Int32).toInt ∧ ((Mv 0) : Int32).toInt ≤ 400) (h_md : 0 ≤ ((Mv 6) : Int32).toInt ∧ ((Mv 6) : Int32).toInt ≤ 60) (h_t : 0 ≤ ((Mv 5) : Int32).toInt ∧ ((Mv 5) : Int32).toInt ≤ 5) (h_L : 0 ≤ ((Mf 3) (Mv 5).toNatClampNeg).toInt ∧ ((Mf 3) (Mv 5).toNatClampNeg).toInt ≤ ((Mv 2) : Int32).toInt) (h_rp : RulP (Mf 2) (Mf 4) (Mf 5) (Mv 5) (((Mf 3) (Mv 5).toNatClampNeg).toInt)) (h_c : ((Mf 5) (Mv 5).toInt.toNat).toInt + 1 = ((Mv 8) : Int32).toInt ∧ ((Mv 8) : Int32).toInt ≤ 12) (h_bs : ByS (Mf 1)) (h_w : ((Mv 3) : Int32).toInt = 0) (h_bw : BwH (rB (Mf 1) (Mv 0)) (Mv 2)) : Ct l yX12_isBuyHere cX12_isBuyHere 2 (some .boolean) { frames := 9, cells := 0, slots := 0, locals := 198 } D tc sk [.ref (Ma 0)] [((Ma 0), .inr (12, [.ref (Ma 1), .int (Mv 0), .int (Mv 1), .ref (Ma 2), .ref (Ma 3), .ref (Ma 4), .ref (Ma 5), .ref (Ma 6), .int (Mv 2), .int (Mv 3), .int (Mv 4), .int (Mv 5), .int (Mv 6), .int (Mv 7), .int (Mv 8), .ref (Ma 7), .int (Mv 9), .ref (Ma 8), .int (Mv 10), .ref (Ma 9), .ref (Ma 10), .int (Mv 11), .int (Mv 12), .int (Mv 13), .ref (Ma 11), .int (Mv 14), .ref (Ma 12), .ref (Ma 13), .ref (Ma 14), .ref (Ma 15), .ref (Ma 16), .long (Mj 0), .ref (Ma 17), .ref (Ma 18), .ref (Ma 19), .ref (Ma 20)])), ((Ma 1), .inl (tc 2, 400, .inl (Mf 1))), ((Ma 2), .inl (tc 0, 2400, .inl (Mf 2))), ((Ma 3), .inl (tc 0, 7, .inl (Mf 3))), ((Ma 4), .inl (tc 0, 288, .inl (Mf 4))), ((Ma 5), .inl (tc 0, 6, .inl (Mf 5))), ((Ma 7), .inl (tc 0, 400, .inl (Mf 7)))] (fun (v : Option Value) (u : (Int32) × (Int32) × (Int32) × (Int32) × (Int32) × (Int32) × (Nat → Int32) × (Nat → Int32) × (Nat → Int32) × (Nat → Int32) × (Nat → Int32)) => match u with | (oo0x1, oo0x2, oo0x3, oo0x4, oo0x5, oo0x6, oo0x7, oo0x8, oo0x9, oo0x10, oo0x11) => ∃ r : Int32, v = some (.int r) ∧ (((r.toInt = 0 ∧ ¬ (oo0x2 : Int32).toInt = 0) ∨ (r.toInt = 1 ∧ 0 ≤ (oo0x8 (Mv 5).toNatClampNeg).toInt ∧ (oo0x8 (Mv 5).toNatClampNeg).toInt ≤ (oo0x1 : Int32).toInt ∧ (oo0x10 (Mv 5).toInt.toNat).toInt = ((Mf 5) (Mv 5).toInt.toNat).toInt + 1 ∧ (oo0x2 : Int32).toInt = 0))) ∧ (((Mv 2) : Int32).toInt ≤ (oo0x1 : Int32).toInt ∧ (oo0x1 : Int32).toInt ≤ ((Mv 0) : Int32).toInt) ∧ (((Mv 6) : Int32).toInt ≤ (oo0x4 : Int32).toInt ∧ (oo0x4 : Int32).toInt ≤ 60) ∧ (RulD oo0x7 oo0x9 oo0x10 (Mv 5)) ∧ (r.toInt = 1 → (RulP oo0x7 oo0x9 oo0x10 (Mv 5) ((oo0x8 (Mv 5).toNatClampNeg).toInt)) ∧ (RfO (BuR (rB (Mf 1) (Mv 0)) (Mv 2) (Mv 6)) (rB (Mf 1) (Mv 0)) oo0x2 oo0x1 oo0x4)) ∧ (r.toInt = 0 → (RfE (BuR (rB (Mf 1) (Mv 0)) (Mv 2) (Mv 6)) oo0x2))) (fun (u : (Int32) × (Int32) × (Int32) × (Int32) × (Int32) × (Int32) × (Nat → Int32) × (Nat → Int32) × (Nat → Int32) × (Nat → Int32) × (Nat → Int32)) => match u with | (oo0x1, oo0x2, oo0x3, oo0x4, oo0x5, oo0x6, oo0x7, oo0x8, oo0x9, oo0x10, oo0x11) => [((Ma 0), .inr (12, [.ref (Ma 1), .int (Mv 0), .int (Mv 1), .ref (Ma 2), .ref (Ma 3), .ref (Ma 4), .ref (Ma 5), .ref (Ma 6), .int oo0x1, .int oo0x2, .int oo0x3, .int (Mv 5), .int oo0x4, .int oo0x5, .int (Mv 8), .ref (Ma 7), .int oo0x6, .ref (Ma 8), .int (Mv 10), .ref (Ma 9), .ref (Ma 10), .int (Mv 11), .int (Mv 12), .int (Mv 13), .ref (Ma 11), .int (Mv 14), .ref (Ma 12), .ref (Ma 13), .ref (Ma 14), .ref (Ma 15), .ref (Ma 16), .long (Mj 0), .ref (Ma 17), .ref (Ma 18), .ref (Ma 19), .ref (Ma 20)])), ((Ma 1), .inl (tc 2, 400, .inl (Mf 1))), ((Ma 2), .inl (tc 0, 2400, .inl oo0x7)), ((Ma 3), .inl (tc 0, 7, .inl oo0x8)), ((Ma 4), .inl (tc 0, 288, .inl oo0x9)), ((Ma 5), .inl (tc 0, 6, .inl oo0x10)), ((Ma 7), .inl (tc 0, 400, .inl oo0x11))]) 0 0 := by
  refine Ct.start (by decide) (Nat.le_of_ble_eq_true rfl) (fun p e s m below meth c A ls hx hb hr hlk hin hml hown hts hK hX hP hD hA hl hS => ?_)
  have hl : lv_has ls 2 [(0, .ref (Ma 0))] := hl
  have ar_h_rp := h_rp.2.1
  refine lv_aload_n hx hb dX12_isBuyHere_0 rfl (lv_at hl 0 rfl) ?_
  refine cV (a := (Ma 0)) (As := []) (rest := []) (wr := [((Ma 2), .inl (tc 0, 2400, .inl (Mf 2))), ((Ma 3), .inl (tc 0, 7, .inl (Mf 3))), ((Ma 4), .inl (tc 0, 288, .inl (Mf 4))), ((Ma 5), .inl (tc 0, 6, .inl (Mf 5))), ((Ma 7), .inl (tc 0, 400, .inl (Mf 7)))]) ⟨hx, hb, hml, hown, hts⟩ hK hX hA (cu_fX12_passWord l D tc sk (Ma 0) (Ma 1) (Ma 2) (Ma 3) (Ma 4) (Ma 5) (Ma 6) (Ma 7) (Ma 8) (Ma 9) (Ma 10) (Ma 11) (Ma 12) (Ma 13) (Ma 14) (Ma 15) (Ma 16) (Ma 17) (Ma 18) (Ma 19) (Ma 20) (Mv 0) (Mv 1) (Mv 2) (Mv 3) (Mv 4) (Mv 5) (Mv 6) (Mv 7) (Mv 8) (Mv 9) (Mv 10) (Mv 11) (Mv 12) (Mv 13) (Mv 14) (Mf 1) (Mj 0) h_nx h_bs) k_1244 k_1241 k_1243 k_34 k_106 pl_X12_passWord ⟨Nat.le_of_ble_eq_true rfl, Nat.le_of_ble_eq_true rfl⟩ rfl rfl (va_recv hK hP (ci := 12) (q0 := 0) rfl rfl) hP hD hS [0, 1] [2, 3, 4, 5, 6] rfl rfl rfl rfl rfl (by decide) rfl hl.1 rfl (Nat.le_of_ble_eq_true rfl) dX12_isBuyHere_1 ⟨Nat.le_of_ble_eq_true rfl, Nat.le_of_ble_eq_true rfl⟩ (fun v_1 u_2 H locs hv_3 hP₀ hD₀ hS₀ => ?_)
  obtain ⟨sv_4, rfl⟩ : ∃ z, z = u_2 := ⟨_, rfl⟩
  obtain ⟨rfl, pf_5, pf_6, pf_7⟩ := hv_3
  have pf_5 : ((Mv 2) : Int32).toInt ≤ (sv_4 : Int32).toInt ∧ (sv_4 : Int32).toInt ≤ ((Mv 0) : Int32).toInt := pf_5
  have pf_6 : Pw (Mf 1) (Mv 0) (Mv 2) sv_4 := pf_6
  have pf_7 : PsR (rB (Mf 1) (Mv 0)) (Mv 2) sv_4 := pf_7
  refine W.eq (g2 := F0 m 4 ls []) rfl ?_
  replace hP : va_P D classes [((Ma 2), .inl (tc 0, 2400, .inl (Mf 2))), ((Ma 3), .inl (tc 0, 7, .inl (Mf 3))), ((Ma 4), .inl (tc 0, 288, .inl (Mf 4))), ((Ma 5), .inl (tc 0, 6, .inl (Mf 5))), ((Ma 7), .inl (tc 0, 400, .inl (Mf 7))), ((Ma 0), .inr (12, [.ref (Ma 1), .int (Mv 0), .int (Mv 1), .ref (Ma 2), .ref (Ma 3), .ref (Ma 4), .ref (Ma 5), .ref (Ma 6), .int sv_4, .int (Mv 3), .int (Mv 4), .int (Mv 5), .int (Mv 6), .int (Mv 7), .int (Mv 8), .ref (Ma 7), .int (Mv 9), .ref (Ma 8), .int (Mv 10), .ref (Ma 9), .ref (Ma 10), .int (Mv 11), .int (Mv 12), .int (Mv 13), .ref (Ma 11), .int (Mv 14), .ref (Ma 12), .ref (Ma 13), .ref (Ma 14), .ref (Ma 15), .ref (Ma 16), .long (Mj 0), .ref (Ma 17), .ref (Ma 18), .ref (Ma 19), .ref (Ma 20)])), ((Ma 1), .inl (tc 2, 400, .inl (Mf 1)))] H := hP₀
  replace hD : va_D A [((Ma 2), .inl (tc 0, 2400, .inl (Mf 2))), ((Ma 3), .inl (tc 0, 7, .inl (Mf 3))), ((Ma 4), .inl (tc 0, 288, .inl (Mf 4))), ((Ma 5), .inl (tc 0, 6, .inl (Mf 5))), ((Ma 7), .inl (tc 0, 400, .inl (Mf 7))), ((Ma 0), .inr (12, [.ref (Ma 1), .int (Mv 0), .int (Mv 1), .ref (Ma 2), .ref (Ma 3), .ref (Ma 4), .ref (Ma 5), .ref (Ma 6), .int sv_4, .int (Mv 3), .int (Mv 4), .int (Mv 5), .int (Mv 6), .int (Mv 7), .int (Mv 8), .ref (Ma 7), .int (Mv 9), .ref (Ma 8), .int (Mv 10), .ref (Ma 9), .ref (Ma 10), .int (Mv 11), .int (Mv 12), .int (Mv 13), .ref (Ma 11), .int (Mv 14), .ref (Ma 12), .ref (Ma 13), .ref (Ma 14), .ref (Ma 15), .ref (Ma 16), .long (Mj 0), .ref (Ma 17), .ref (Ma 18), .ref (Ma 19), .ref (Ma 20)])), ((Ma 1), .inl (tc 2, 400, .inl (Mf 1)))] := hD₀
  replace hS := hS₀
  clear hP₀ hD₀ hS₀
  refine lv_bipush (v := 48) hx hb dX12_isBuyHere_4 (by decide) ?_
  refine lv_aload_n hx hb dX12_isBuyHere_6 rfl (lv_at hl 0 rfl) ?_
  refine gf_X12_145 hx hb hts hown hK hP 5 rfl rfl dX12_isBuyHere_7 ?_
  refine lv_imul hx hb dX12_isBuyHere_10 ?_
  refine lv_topi (fun x_8 ex_8 => ?_)
  refine lv_iconst (v := 4) hx hb dX12_isBuyHere_11 (by decide) ?_
  refine lv_aload_n hx hb dX12_isBuyHere_12 rfl (lv_at hl 0 rfl) ?_
  refine gf_X12_23 hx hb hts hown hK hP 5 rfl rfl dX12_isBuyHere_13 ?_
  refine lv_aload_n hx hb dX12_isBuyHere_16 rfl (lv_at hl 0 rfl) ?_
  refine gf_X12_145 hx hb hts hown hK hP 5 rfl rfl dX12_isBuyHere_17 ?_
  have hi_9 : vp_in (Mv 5) 6 := by
    refine vp_in_iff.mpr ⟨?_, ?_⟩ <;> omega
  refine va_iald hx hb hK hP 3 0 rfl rfl hi_9 dX12_isBuyHere_20 ?_
  refine lv_topi (fun x_10 ex_10 => ?_)
  have kx_10 : x_10.toInt = ((Mf 5) ((Mv 5) : Int32).toInt.toNat).toInt := congrArg Int32.toInt ex_10
  obtain ⟨A0, hA0⟩ : ∃ A0 : Nat, A0 = 48 * (Mv 5).toInt.toNat + 4 * (((Mf 5) (Mv 5).toInt.toNat).toInt).toNat := ⟨_, rfl⟩
  refine lv_imul hx hb dX12_isBuyHere_21 ?_
  refine lv_topi (fun x_11 ex_11 => ?_)
  refine lv_iadd hx hb dX12_isBuyHere_22 ?_
  refine lv_topi (fun x_12 ex_12 => ?_)
  refine lv_istore_n (lv' := [(1, .int x_12), (0, .ref (Ma 0))]) hx hb dX12_isBuyHere_23 rfl hl (by decide) rfl (fun ls hl₀ => ?_)
  replace hl := hl₀
  clear hl₀
  refine lv_aload_n hx hb dX12_isBuyHere_24 rfl (lv_at hl 1 rfl) ?_
  refine gf_X12_20 hx hb hts hown hK hP 5 rfl rfl dX12_isBuyHere_25 ?_
  refine lv_iload_n hx hb dX12_isBuyHere_28 rfl (lv_at hl 0 rfl) ?_
  refine lv_aload_n hx hb dX12_isBuyHere_29 rfl (lv_at hl 1 rfl) ?_
  refine gf_X12_17 hx hb hts hown hK hP 5 rfl rfl dX12_isBuyHere_30 ?_
  refine lv_aload_n hx hb dX12_isBuyHere_33 rfl (lv_at hl 1 rfl) ?_
  refine gf_X12_145 hx hb hts hown hK hP 5 rfl rfl dX12_isBuyHere_34 ?_
  have hi_13 : vp_in (Mv 5) 7 := by
    refine vp_in_iff.mpr ⟨?_, ?_⟩ <;> omega
  refine va_iald hx hb hK hP 1 0 rfl rfl hi_13 dX12_isBuyHere_37 ?_
  refine lv_topi (fun x_14 ex_14 => ?_)
  have kx_14 : x_14.toInt = ((Mf 3) ((Mv 5) : Int32).toNatClampNeg).toInt := congrArg Int32.toInt ex_14
  have hi_15 : vp_in x_12 288 := by
    have y_4 : (4 : Int32).toInt = 4 := by decide
    have y_48 : (48 : Int32).toInt = 48 := by decide
    have t_x_8 : x_8.toInt = (48 : Int32).toInt * ((Mv 5) : Int32).toInt := by rw [ex_8]; exact mul_toInt (by first | omega | (rw [y_48]; omega)) (by first | omega | (rw [y_48]; omega))
    rw [y_48] at t_x_8
    have t_x_11 : x_11.toInt = (4 : Int32).toInt * (x_10 : Int32).toInt := by rw [ex_11]; exact mul_toInt (by first | omega | (rw [y_4]; omega)) (by first | omega | (rw [y_4]; omega))
    rw [y_4] at t_x_11
    have t_x_12 : x_12.toInt = (x_8 : Int32).toInt + (x_11 : Int32).toInt := by rw [ex_12]; exact add_toInt (by omega) (by omega)
    refine vp_in_iff.mpr ⟨?_, ?_⟩ <;> omega
  refine st_int hx hb hK hP hD hS 2 0 rfl rfl hi_15 dX12_isBuyHere_38 (fun g_16 H locs eg_16 hP₀ hD₀ hS₀ => ?_)
  replace hP : va_P D classes [((Ma 2), .inl (tc 0, 2400, .inl (Mf 2))), ((Ma 3), .inl (tc 0, 7, .inl (Mf 3))), ((Ma 4), .inl (tc 0, 288, .inl g_16)), ((Ma 5), .inl (tc 0, 6, .inl (Mf 5))), ((Ma 7), .inl (tc 0, 400, .inl (Mf 7))), ((Ma 0), .inr (12, [.ref (Ma 1), .int (Mv 0), .int (Mv 1), .ref (Ma 2), .ref (Ma 3), .ref (Ma 4), .ref (Ma 5), .ref (Ma 6), .int sv_4, .int (Mv 3), .int (Mv 4), .int (Mv 5), .int (Mv 6), .int (Mv 7), .int (Mv 8), .ref (Ma 7), .int (Mv 9), .ref (Ma 8), .int (Mv 10), .ref (Ma 9), .ref (Ma 10), .int (Mv 11), .int (Mv 12), .int (Mv 13), .ref (Ma 11), .int (Mv 14), .ref (Ma 12), .ref (Ma 13), .ref (Ma 14), .ref (Ma 15), .ref (Ma 16), .long (Mj 0), .ref (Ma 17), .ref (Ma 18), .ref (Ma 19), .ref (Ma 20)])), ((Ma 1), .inl (tc 2, 400, .inl (Mf 1)))] H := hP₀
  replace hD : va_D A [((Ma 2), .inl (tc 0, 2400, .inl (Mf 2))), ((Ma 3), .inl (tc 0, 7, .inl (Mf 3))), ((Ma 4), .inl (tc 0, 288, .inl g_16)), ((Ma 5), .inl (tc 0, 6, .inl (Mf 5))), ((Ma 7), .inl (tc 0, 400, .inl (Mf 7))), ((Ma 0), .inr (12, [.ref (Ma 1), .int (Mv 0), .int (Mv 1), .ref (Ma 2), .ref (Ma 3), .ref (Ma 4), .ref (Ma 5), .ref (Ma 6), .int sv_4, .int (Mv 3), .int (Mv 4), .int (Mv 5), .int (Mv 6), .int (Mv 7), .int (Mv 8), .ref (Ma 7), .int (Mv 9), .ref (Ma 8), .int (Mv 10), .ref (Ma 9), .ref (Ma 10), .int (Mv 11), .int (Mv 12), .int (Mv 13), .ref (Ma 11), .int (Mv 14), .ref (Ma 12), .ref (Ma 13), .ref (Ma 14), .ref (Ma 15), .ref (Ma 16), .long (Mj 0), .ref (Ma 17), .ref (Ma 18), .ref (Ma 19), .ref (Ma 20)])), ((Ma 1), .inl (tc 2, 400, .inl (Mf 1)))] := hD₀
  replace hS := hS₀
  clear hP₀ hD₀ hS₀
  have hi_17 : (x_12 : Int32).toInt = (A0 : Int) + (0 : Nat) := by
    have y_4 : (4 : Int32).toInt = 4 := by decide
    have y_48 : (48 : Int32).toInt = 48 := by decide
    have t_x_8 : x_8.toInt = (48 : Int32).toInt * ((Mv 5) : Int32).toInt := by rw [ex_8]; exact mul_toInt (by first | omega | (rw [y_48]; omega)) (by first | omega | (rw [y_48]; omega))
    rw [y_48] at t_x_8
    have t_x_11 : x_11.toInt = (4 : Int32).toInt * (x_10 : Int32).toInt := by rw [ex_11]; exact mul_toInt (by first | omega | (rw [y_4]; omega)) (by first | omega | (rw [y_4]; omega))
    rw [y_4] at t_x_11
    have t_x_12 : x_12.toInt = (x_8 : Int32).toInt + (x_11 : Int32).toInt := by rw [ex_12]; exact add_toInt (by omega) (by omega)
    omega
  have hr_19 : 48 * (Mv 5).toInt + 4 * ((Mf 5) (Mv 5).toInt.toNat).toInt ≤ (((x_12 : Int32).toNatClampNeg : Nat) : Int) := by
    have y_4 : (4 : Int32).toInt = 4 := by decide
    have y_48 : (48 : Int32).toInt = 48 := by decide
    have t_x_8 : x_8.toInt = (48 : Int32).toInt * ((Mv 5) : Int32).toInt := by rw [ex_8]; exact mul_toInt (by first | omega | (rw [y_48]; omega)) (by first | omega | (rw [y_48]; omega))
    rw [y_48] at t_x_8
    have t_x_11 : x_11.toInt = (4 : Int32).toInt * (x_10 : Int32).toInt := by rw [ex_11]; exact mul_toInt (by first | omega | (rw [y_4]; omega)) (by first | omega | (rw [y_4]; omega))
    rw [y_4] at t_x_11
    have t_x_12 : x_12.toInt = (x_8 : Int32).toInt + (x_11 : Int32).toInt := by rw [ex_12]; exact add_toInt (by omega) (by omega)
    have hcl : (x_12 : Int32).toNatClampNeg = (x_12 : Int32).toInt.toNat := rfl
    omega
  have pf_18 : RulP (Mf 2) g_16 (Mf 5) (Mv 5) (((Mf 3) (Mv 5).toNatClampNeg).toInt) := RulP.cl h_rp eg_16 h_t.1 hr_19
  have ar_pf_18 := pf_18.2.1
  have pf_20 : ClV g_16 A0 0 x_14 := ClV.put eg_16 hi_17
  have hr_22 : 0 ≤ (x_14 : Int32).toInt ∧ (x_14 : Int32).toInt ≤ 400 := by
    omega
  have hr_23 : 0 ≤ ((Mv 6) : Int32).toInt ∧ ((Mv 6) : Int32).toInt ≤ 60 := by
    omega
  have pf_21 : Cd (Mf 2) (Mf 3) (Mv 5) x_14 (Mv 6) 0 := Cd.nil h_t ex_14 hr_22 hr_23
  have ar_pf_21 := Cd.ar pf_21
  refine lv_aload_n hx hb dX12_isBuyHere_39 rfl (lv_at hl 1 rfl) ?_
  have ha_24 : 0 ≤ (sv_4 : Int32).toInt ∧ (sv_4 : Int32).toInt ≤ ((Mv 0) : Int32).toInt ∧ ((Mv 0) : Int32).toInt ≤ 400 := by
    omega
  have ha_25 : ((Mf 3) (Mv 5).toNatClampNeg).toInt ≤ (sv_4 : Int32).toInt := by
    omega
  refine cV (a := (Ma 0)) (As := []) (rest := []) (wr := [((Ma 4), .inl (tc 0, 288, .inl g_16)), ((Ma 5), .inl (tc 0, 6, .inl (Mf 5))), ((Ma 7), .inl (tc 0, 400, .inl (Mf 7)))]) ⟨hx, hb, hml, hown, hts⟩ hK hX hA (cu_fX12_sum l D tc sk (Ma 0) (Ma 1) (Ma 2) (Ma 3) (Ma 4) (Ma 5) (Ma 6) (Ma 7) (Ma 8) (Ma 9) (Ma 10) (Ma 11) (Ma 12) (Ma 13) (Ma 14) (Ma 15) (Ma 16) (Ma 17) (Ma 18) (Ma 19) (Ma 20) (Mv 0) (Mv 1) sv_4 (Mv 3) (Mv 4) (Mv 5) (Mv 6) (Mv 7) (Mv 8) (Mv 9) (Mv 10) (Mv 11) (Mv 12) (Mv 13) (Mv 14) (Mf 1) (Mf 2) (Mf 3) (Mj 0) x_14 0 ha_24 pf_21 ha_25 h_md h_bs h_w) k_1279 k_1276 k_1278 k_42 k_106 pl_X12_sum ⟨Nat.le_of_ble_eq_true rfl, Nat.le_of_ble_eq_true rfl⟩ rfl rfl (va_recv hK hP (ci := 12) (q0 := 5) rfl rfl) hP hD hS [5, 6, 0, 1] [2, 3, 4] rfl rfl rfl rfl rfl (by decide) rfl hl.1 rfl (Nat.le_of_ble_eq_true rfl) dX12_isBuyHere_40 ⟨Nat.le_of_ble_eq_true rfl, Nat.le_of_ble_eq_true rfl⟩ (fun v_26 u_27 H locs hv_28 hP₀ hD₀ hS₀ => ?_)
  obtain ⟨sv_29, sv_30, sv_31, sv_32, sv_33, sv_34⟩ := u_27
  obtain ⟨r_38, rfl, he_39, pf_35, pf_36, pf_37, hm_41, hm_42⟩ := hv_28
  have he_39 : ((r_38.toInt = 0 ∧ ¬ (sv_30 : Int32).toInt = 0) ∨ (r_38.toInt = 1 ∧ ((Mf 3) (Mv 5).toNatClampNeg).toInt + 1 ≤ (sv_34 (Mv 5).toNatClampNeg).toInt ∧ (sv_34 (Mv 5).toNatClampNeg).toInt + (sv_4 : Int32).toInt ≤ ((Mf 3) (Mv 5).toNatClampNeg).toInt + (sv_29 : Int32).toInt ∧ (sv_4 : Int32).toInt + 1 ≤ (sv_29 : Int32).toInt)) := he_39
  have pf_35 : (sv_4 : Int32).toInt ≤ (sv_29 : Int32).toInt ∧ (sv_29 : Int32).toInt ≤ ((Mv 0) : Int32).toInt := pf_35
  have pf_36 : ((Mv 6) : Int32).toInt ≤ (sv_32 : Int32).toInt ∧ (sv_32 : Int32).toInt ≤ 60 := pf_36
  have pf_37 : Agr (Mf 2) sv_33 (400 * ((Mv 5) : Int32).toInt + ((Mf 3) (Mv 5).toNatClampNeg).toInt) := pf_37
  have hr_44 : 400 * ((Mv 5) : Int32).toInt + (((Mf 3) (Mv 5).toNatClampNeg).toInt) ≤ (400 * ((Mv 5) : Int32).toInt + ((Mf 3) (Mv 5).toNatClampNeg).toInt) ∧ 0 ≤ ((Mv 5) : Int32).toInt ∧ 0 ≤ (((Mf 3) (Mv 5).toNatClampNeg).toInt) := by
    omega
  have pf_43 : RulP sv_33 (Mf 4) (Mf 5) (Mv 5) (((Mf 3) (Mv 5).toNatClampNeg).toInt) := RulP.agr h_rp pf_37 hr_44.2.1 hr_44.1 hr_44.2.2
  have ar_pf_43 := pf_43.2.1
  have hr_46 : 400 * ((Mv 5) : Int32).toInt + (((Mf 3) (Mv 5).toNatClampNeg).toInt) ≤ (400 * ((Mv 5) : Int32).toInt + ((Mf 3) (Mv 5).toNatClampNeg).toInt) ∧ 0 ≤ ((Mv 5) : Int32).toInt ∧ 0 ≤ (((Mf 3) (Mv 5).toNatClampNeg).toInt) := by
    omega
  have pf_45 : RulP sv_33 g_16 (Mf 5) (Mv 5) (((Mf 3) (Mv 5).toNatClampNeg).toInt) := RulP.agr pf_18 pf_37 hr_46.2.1 hr_46.1 hr_46.2.2
  have ar_pf_45 := pf_45.2.1
  refine W.eq (g2 := F0 m 43 ls [.int r_38]) rfl ?_
  replace hP : va_P D classes [((Ma 4), .inl (tc 0, 288, .inl g_16)), ((Ma 5), .inl (tc 0, 6, .inl (Mf 5))), ((Ma 7), .inl (tc 0, 400, .inl (Mf 7))), ((Ma 0), .inr (12, [.ref (Ma 1), .int (Mv 0), .int (Mv 1), .ref (Ma 2), .ref (Ma 3), .ref (Ma 4), .ref (Ma 5), .ref (Ma 6), .int sv_29, .int sv_30, .int sv_31, .int (Mv 5), .int sv_32, .int (Mv 7), .int (Mv 8), .ref (Ma 7), .int (Mv 9), .ref (Ma 8), .int (Mv 10), .ref (Ma 9), .ref (Ma 10), .int (Mv 11), .int (Mv 12), .int (Mv 13), .ref (Ma 11), .int (Mv 14), .ref (Ma 12), .ref (Ma 13), .ref (Ma 14), .ref (Ma 15), .ref (Ma 16), .long (Mj 0), .ref (Ma 17), .ref (Ma 18), .ref (Ma 19), .ref (Ma 20)])), ((Ma 1), .inl (tc 2, 400, .inl (Mf 1))), ((Ma 2), .inl (tc 0, 2400, .inl sv_33)), ((Ma 3), .inl (tc 0, 7, .inl sv_34))] H := hP₀
  replace hD : va_D A [((Ma 4), .inl (tc 0, 288, .inl g_16)), ((Ma 5), .inl (tc 0, 6, .inl (Mf 5))), ((Ma 7), .inl (tc 0, 400, .inl (Mf 7))), ((Ma 0), .inr (12, [.ref (Ma 1), .int (Mv 0), .int (Mv 1), .ref (Ma 2), .ref (Ma 3), .ref (Ma 4), .ref (Ma 5), .ref (Ma 6), .int sv_29, .int sv_30, .int sv_31, .int (Mv 5), .int sv_32, .int (Mv 7), .int (Mv 8), .ref (Ma 7), .int (Mv 9), .ref (Ma 8), .int (Mv 10), .ref (Ma 9), .ref (Ma 10), .int (Mv 11), .int (Mv 12), .int (Mv 13), .ref (Ma 11), .int (Mv 14), .ref (Ma 12), .ref (Ma 13), .ref (Ma 14), .ref (Ma 15), .ref (Ma 16), .long (Mj 0), .ref (Ma 17), .ref (Ma 18), .ref (Ma 19), .ref (Ma 20)])), ((Ma 1), .inl (tc 2, 400, .inl (Mf 1))), ((Ma 2), .inl (tc 0, 2400, .inl sv_33)), ((Ma 3), .inl (tc 0, 7, .inl sv_34))] := hD₀
  replace hS := hS₀
  clear hP₀ hD₀ hS₀
  refine lv_if_ne (tgt := 48) hx hb dX12_isBuyHere_43 (by decide) (fun c_47 => ?_) (fun c_47 => ?_)
  · skip
    have hz_50 : (r_38 : Int32).toInt = 1 := by
      have z_1 : ¬ (r_38 : Int32).toInt = (0 : Int32).toInt := fun z => c_47 (Int32.toInt_inj.mp z)
      have y_0 : (0 : Int32).toInt = 0 := by decide
      omega
    obtain ⟨pf_48, pf_49⟩ := hm_41 hz_50
    have pf_48 : Cd sv_33 sv_34 (Mv 5) x_14 sv_32 ((0 : Nat) + 1) := pf_48
    have ar_pf_48 := Cd.ar pf_48
    have pf_49 : RfO (pz_sum (rB (Mf 1) (Mv 0)) (St0 (rB (Mf 1) (Mv 0)) sv_4 (Mv 6))) (rB (Mf 1) (Mv 0)) sv_30 sv_29 sv_32 := pf_49
    have ar_pf_49 := RfO.wr pf_49
    refine lv_aload_n hx hb dX12_isBuyHere_48 rfl (lv_at hl 1 rfl) ?_
    refine gf_X12_20 hx hb hts hown hK hP 3 rfl rfl dX12_isBuyHere_49 ?_
    refine lv_iload_n hx hb dX12_isBuyHere_52 rfl (lv_at hl 0 rfl) ?_
    refine lv_iconst (v := 1) hx hb dX12_isBuyHere_53 (by decide) ?_
    refine lv_iadd hx hb dX12_isBuyHere_54 ?_
    refine lv_topi (fun x_51 ex_51 => ?_)
    refine lv_aload_n hx hb dX12_isBuyHere_55 rfl (lv_at hl 1 rfl) ?_
    refine gf_X12_17 hx hb hts hown hK hP 3 rfl rfl dX12_isBuyHere_56 ?_
    refine lv_aload_n hx hb dX12_isBuyHere_59 rfl (lv_at hl 1 rfl) ?_
    refine gf_X12_145 hx hb hts hown hK hP 3 rfl rfl dX12_isBuyHere_60 ?_
    have hi_52 : vp_in (Mv 5) 7 := by
      have z_1 : ¬ (r_38 : Int32).toInt = (0 : Int32).toInt := fun z => c_47 (Int32.toInt_inj.mp z)
      have y_0 : (0 : Int32).toInt = 0 := by decide
      refine vp_in_iff.mpr ⟨?_, ?_⟩ <;> omega
    refine va_iald hx hb hK hP 6 0 rfl rfl hi_52 dX12_isBuyHere_63 ?_
    refine lv_topi (fun x_53 ex_53 => ?_)
    have kx_53 : x_53.toInt = (sv_34 ((Mv 5) : Int32).toNatClampNeg).toInt := congrArg Int32.toInt ex_53
    have pf_54 : WFc sv_33 (Mv 5) x_14 x_53 := Cd.wf pf_48 ex_53
    have ar_pf_54 := WFc.ar pf_54
    have hi_55 : vp_in x_51 288 := by
      have z_1 : ¬ (r_38 : Int32).toInt = (0 : Int32).toInt := fun z => c_47 (Int32.toInt_inj.mp z)
      have y_0 : (0 : Int32).toInt = 0 := by decide
      have y_1 : (1 : Int32).toInt = 1 := by decide
      have y_4 : (4 : Int32).toInt = 4 := by decide
      have y_48 : (48 : Int32).toInt = 48 := by decide
      have t_x_8 : x_8.toInt = (48 : Int32).toInt * ((Mv 5) : Int32).toInt := by rw [ex_8]; exact mul_toInt (by first | omega | (rw [y_48]; omega)) (by first | omega | (rw [y_48]; omega))
      rw [y_48] at t_x_8
      have t_x_11 : x_11.toInt = (4 : Int32).toInt * (x_10 : Int32).toInt := by rw [ex_11]; exact mul_toInt (by first | omega | (rw [y_4]; omega)) (by first | omega | (rw [y_4]; omega))
      rw [y_4] at t_x_11
      have t_x_12 : x_12.toInt = (x_8 : Int32).toInt + (x_11 : Int32).toInt := by rw [ex_12]; exact add_toInt (by omega) (by omega)
      have t_x_51 : x_51.toInt = (x_12 : Int32).toInt + (1 : Int32).toInt := by rw [ex_51]; exact add_toInt (by omega) (by omega)
      refine vp_in_iff.mpr ⟨?_, ?_⟩ <;> omega
    refine st_int hx hb hK hP hD hS 0 0 rfl rfl hi_55 dX12_isBuyHere_64 (fun g_56 H locs eg_56 hP₀ hD₀ hS₀ => ?_)
    replace hP : va_P D classes [((Ma 4), .inl (tc 0, 288, .inl g_56)), ((Ma 5), .inl (tc 0, 6, .inl (Mf 5))), ((Ma 7), .inl (tc 0, 400, .inl (Mf 7))), ((Ma 0), .inr (12, [.ref (Ma 1), .int (Mv 0), .int (Mv 1), .ref (Ma 2), .ref (Ma 3), .ref (Ma 4), .ref (Ma 5), .ref (Ma 6), .int sv_29, .int sv_30, .int sv_31, .int (Mv 5), .int sv_32, .int (Mv 7), .int (Mv 8), .ref (Ma 7), .int (Mv 9), .ref (Ma 8), .int (Mv 10), .ref (Ma 9), .ref (Ma 10), .int (Mv 11), .int (Mv 12), .int (Mv 13), .ref (Ma 11), .int (Mv 14), .ref (Ma 12), .ref (Ma 13), .ref (Ma 14), .ref (Ma 15), .ref (Ma 16), .long (Mj 0), .ref (Ma 17), .ref (Ma 18), .ref (Ma 19), .ref (Ma 20)])), ((Ma 1), .inl (tc 2, 400, .inl (Mf 1))), ((Ma 2), .inl (tc 0, 2400, .inl sv_33)), ((Ma 3), .inl (tc 0, 7, .inl sv_34))] H := hP₀
    replace hD : va_D A [((Ma 4), .inl (tc 0, 288, .inl g_56)), ((Ma 5), .inl (tc 0, 6, .inl (Mf 5))), ((Ma 7), .inl (tc 0, 400, .inl (Mf 7))), ((Ma 0), .inr (12, [.ref (Ma 1), .int (Mv 0), .int (Mv 1), .ref (Ma 2), .ref (Ma 3), .ref (Ma 4), .ref (Ma 5), .ref (Ma 6), .int sv_29, .int sv_30, .int sv_31, .int (Mv 5), .int sv_32, .int (Mv 7), .int (Mv 8), .ref (Ma 7), .int (Mv 9), .ref (Ma 8), .int (Mv 10), .ref (Ma 9), .ref (Ma 10), .int (Mv 11), .int (Mv 12), .int (Mv 13), .ref (Ma 11), .int (Mv 14), .ref (Ma 12), .ref (Ma 13), .ref (Ma 14), .ref (Ma 15), .ref (Ma 16), .long (Mj 0), .ref (Ma 17), .ref (Ma 18), .ref (Ma 19), .ref (Ma 20)])), ((Ma 1), .inl (tc 2, 400, .inl (Mf 1))), ((Ma 2), .inl (tc 0, 2400, .inl sv_33)), ((Ma 3), .inl (tc 0, 7, .inl sv_34))] := hD₀
    replace hS := hS₀
    clear hP₀ hD₀ hS₀
    have hi_57 : (x_51 : Int32).toInt = (A0 : Int) + (1 : Nat) := by
      have z_1 : ¬ (r_38 : Int32).toInt = (0 : Int32).toInt := fun z => c_47 (Int32.toInt_inj.mp z)
      have y_0 : (0 : Int32).toInt = 0 := by decide
      have y_1 : (1 : Int32).toInt = 1 := by decide
      have y_4 : (4 : Int32).toInt = 4 := by decide
      have y_48 : (48 : Int32).toInt = 48 := by decide
      have t_x_8 : x_8.toInt = (48 : Int32).toInt * ((Mv 5) : Int32).toInt := by rw [ex_8]; exact mul_toInt (by first | omega | (rw [y_48]; omega)) (by first | omega | (rw [y_48]; omega))
      rw [y_48] at t_x_8
      have t_x_11 : x_11.toInt = (4 : Int32).toInt * (x_10 : Int32).toInt := by rw [ex_11]; exact mul_toInt (by first | omega | (rw [y_4]; omega)) (by first | omega | (rw [y_4]; omega))
      rw [y_4] at t_x_11
      have t_x_12 : x_12.toInt = (x_8 : Int32).toInt + (x_11 : Int32).toInt := by rw [ex_12]; exact add_toInt (by omega) (by omega)
      have t_x_51 : x_51.toInt = (x_12 : Int32).toInt + (1 : Int32).toInt := by rw [ex_51]; exact add_toInt (by omega) (by omega)
      omega
    have hr_59 : 48 * (Mv 5).toInt + 4 * ((Mf 5) (Mv 5).toInt.toNat).toInt ≤ (((x_51 : Int32).toNatClampNeg : Nat) : Int) := by
      have z_1 : ¬ (r_38 : Int32).toInt = (0 : Int32).toInt := fun z => c_47 (Int32.toInt_inj.mp z)
      have y_0 : (0 : Int32).toInt = 0 := by decide
      have y_1 : (1 : Int32).toInt = 1 := by decide
      have y_4 : (4 : Int32).toInt = 4 := by decide
      have y_48 : (48 : Int32).toInt = 48 := by decide
      have t_x_8 : x_8.toInt = (48 : Int32).toInt * ((Mv 5) : Int32).toInt := by rw [ex_8]; exact mul_toInt (by first | omega | (rw [y_48]; omega)) (by first | omega | (rw [y_48]; omega))
      rw [y_48] at t_x_8
      have t_x_11 : x_11.toInt = (4 : Int32).toInt * (x_10 : Int32).toInt := by rw [ex_11]; exact mul_toInt (by first | omega | (rw [y_4]; omega)) (by first | omega | (rw [y_4]; omega))
      rw [y_4] at t_x_11
      have t_x_12 : x_12.toInt = (x_8 : Int32).toInt + (x_11 : Int32).toInt := by rw [ex_12]; exact add_toInt (by omega) (by omega)
      have t_x_51 : x_51.toInt = (x_12 : Int32).toInt + (1 : Int32).toInt := by rw [ex_51]; exact add_toInt (by omega) (by omega)
      have hcl : (x_51 : Int32).toNatClampNeg = (x_51 : Int32).toInt.toNat := rfl
      omega
    have pf_58 : RulP (Mf 2) g_56 (Mf 5) (Mv 5) (((Mf 3) (Mv 5).toNatClampNeg).toInt) := RulP.cl pf_18 eg_56 h_t.1 hr_59
    have ar_pf_58 := pf_58.2.1
    have hr_61 : ¬ (x_51 : Int32).toInt = (A0 : Int) + (0 : Nat) := by omega
    have pf_60 : ClV g_56 A0 0 x_14 := ClV.keep pf_20 eg_56 hr_61 (by omega)
    have hr_63 : 48 * (Mv 5).toInt + 4 * ((Mf 5) (Mv 5).toInt.toNat).toInt ≤ (((x_51 : Int32).toNatClampNeg : Nat) : Int) := by
      have z_1 : ¬ (r_38 : Int32).toInt = (0 : Int32).toInt := fun z => c_47 (Int32.toInt_inj.mp z)
      have y_0 : (0 : Int32).toInt = 0 := by decide
      have y_1 : (1 : Int32).toInt = 1 := by decide
      have y_4 : (4 : Int32).toInt = 4 := by decide
      have y_48 : (48 : Int32).toInt = 48 := by decide
      have t_x_8 : x_8.toInt = (48 : Int32).toInt * ((Mv 5) : Int32).toInt := by rw [ex_8]; exact mul_toInt (by first | omega | (rw [y_48]; omega)) (by first | omega | (rw [y_48]; omega))
      rw [y_48] at t_x_8
      have t_x_11 : x_11.toInt = (4 : Int32).toInt * (x_10 : Int32).toInt := by rw [ex_11]; exact mul_toInt (by first | omega | (rw [y_4]; omega)) (by first | omega | (rw [y_4]; omega))
      rw [y_4] at t_x_11
      have t_x_12 : x_12.toInt = (x_8 : Int32).toInt + (x_11 : Int32).toInt := by rw [ex_12]; exact add_toInt (by omega) (by omega)
      have t_x_51 : x_51.toInt = (x_12 : Int32).toInt + (1 : Int32).toInt := by rw [ex_51]; exact add_toInt (by omega) (by omega)
      have hcl : (x_51 : Int32).toNatClampNeg = (x_51 : Int32).toInt.toNat := rfl
      omega
    have pf_62 : RulP sv_33 g_56 (Mf 5) (Mv 5) (((Mf 3) (Mv 5).toNatClampNeg).toInt) := RulP.cl pf_45 eg_56 h_t.1 hr_63
    have ar_pf_62 := pf_62.2.1
    have pf_64 : ClV g_56 A0 1 x_53 := ClV.put eg_56 hi_57
    refine lv_aload_n hx hb dX12_isBuyHere_65 rfl (lv_at hl 1 rfl) ?_
    refine gf_X12_20 hx hb hts hown hK hP 3 rfl rfl dX12_isBuyHere_66 ?_
    refine lv_iload_n hx hb dX12_isBuyHere_69 rfl (lv_at hl 0 rfl) ?_
    refine lv_iconst (v := 2) hx hb dX12_isBuyHere_70 (by decide) ?_
    refine lv_iadd hx hb dX12_isBuyHere_71 ?_
    refine lv_topi (fun x_65 ex_65 => ?_)
    refine lv_iconst (v := (-1)) hx hb dX12_isBuyHere_72 (by decide) ?_
    have hi_66 : vp_in x_65 288 := by
      have z_1 : ¬ (r_38 : Int32).toInt = (0 : Int32).toInt := fun z => c_47 (Int32.toInt_inj.mp z)
      have y_0 : (0 : Int32).toInt = 0 := by decide
      have y_2 : (2 : Int32).toInt = 2 := by decide
      have y_4 : (4 : Int32).toInt = 4 := by decide
      have y_48 : (48 : Int32).toInt = 48 := by decide
      have t_x_8 : x_8.toInt = (48 : Int32).toInt * ((Mv 5) : Int32).toInt := by rw [ex_8]; exact mul_toInt (by first | omega | (rw [y_48]; omega)) (by first | omega | (rw [y_48]; omega))
      rw [y_48] at t_x_8
      have t_x_11 : x_11.toInt = (4 : Int32).toInt * (x_10 : Int32).toInt := by rw [ex_11]; exact mul_toInt (by first | omega | (rw [y_4]; omega)) (by first | omega | (rw [y_4]; omega))
      rw [y_4] at t_x_11
      have t_x_12 : x_12.toInt = (x_8 : Int32).toInt + (x_11 : Int32).toInt := by rw [ex_12]; exact add_toInt (by omega) (by omega)
      have t_x_65 : x_65.toInt = (x_12 : Int32).toInt + (2 : Int32).toInt := by rw [ex_65]; exact add_toInt (by omega) (by omega)
      refine vp_in_iff.mpr ⟨?_, ?_⟩ <;> omega
    refine st_int hx hb hK hP hD hS 0 0 rfl rfl hi_66 dX12_isBuyHere_73 (fun g_67 H locs eg_67 hP₀ hD₀ hS₀ => ?_)
    replace hP : va_P D classes [((Ma 4), .inl (tc 0, 288, .inl g_67)), ((Ma 5), .inl (tc 0, 6, .inl (Mf 5))), ((Ma 7), .inl (tc 0, 400, .inl (Mf 7))), ((Ma 0), .inr (12, [.ref (Ma 1), .int (Mv 0), .int (Mv 1), .ref (Ma 2), .ref (Ma 3), .ref (Ma 4), .ref (Ma 5), .ref (Ma 6), .int sv_29, .int sv_30, .int sv_31, .int (Mv 5), .int sv_32, .int (Mv 7), .int (Mv 8), .ref (Ma 7), .int (Mv 9), .ref (Ma 8), .int (Mv 10), .ref (Ma 9), .ref (Ma 10), .int (Mv 11), .int (Mv 12), .int (Mv 13), .ref (Ma 11), .int (Mv 14), .ref (Ma 12), .ref (Ma 13), .ref (Ma 14), .ref (Ma 15), .ref (Ma 16), .long (Mj 0), .ref (Ma 17), .ref (Ma 18), .ref (Ma 19), .ref (Ma 20)])), ((Ma 1), .inl (tc 2, 400, .inl (Mf 1))), ((Ma 2), .inl (tc 0, 2400, .inl sv_33)), ((Ma 3), .inl (tc 0, 7, .inl sv_34))] H := hP₀
    replace hD : va_D A [((Ma 4), .inl (tc 0, 288, .inl g_67)), ((Ma 5), .inl (tc 0, 6, .inl (Mf 5))), ((Ma 7), .inl (tc 0, 400, .inl (Mf 7))), ((Ma 0), .inr (12, [.ref (Ma 1), .int (Mv 0), .int (Mv 1), .ref (Ma 2), .ref (Ma 3), .ref (Ma 4), .ref (Ma 5), .ref (Ma 6), .int sv_29, .int sv_30, .int sv_31, .int (Mv 5), .int sv_32, .int (Mv 7), .int (Mv 8), .ref (Ma 7), .int (Mv 9), .ref (Ma 8), .int (Mv 10), .ref (Ma 9), .ref (Ma 10), .int (Mv 11), .int (Mv 12), .int (Mv 13), .ref (Ma 11), .int (Mv 14), .ref (Ma 12), .ref (Ma 13), .ref (Ma 14), .ref (Ma 15), .ref (Ma 16), .long (Mj 0), .ref (Ma 17), .ref (Ma 18), .ref (Ma 19), .ref (Ma 20)])), ((Ma 1), .inl (tc 2, 400, .inl (Mf 1))), ((Ma 2), .inl (tc 0, 2400, .inl sv_33)), ((Ma 3), .inl (tc 0, 7, .inl sv_34))] := hD₀
    replace hS := hS₀
    clear hP₀ hD₀ hS₀
    have hi_68 : (x_65 : Int32).toInt = (A0 : Int) + (2 : Nat) := by
      have z_1 : ¬ (r_38 : Int32).toInt = (0 : Int32).toInt := fun z => c_47 (Int32.toInt_inj.mp z)
      have y_0 : (0 : Int32).toInt = 0 := by decide
      have y_2 : (2 : Int32).toInt = 2 := by decide
      have y_4 : (4 : Int32).toInt = 4 := by decide
      have y_48 : (48 : Int32).toInt = 48 := by decide
      have t_x_8 : x_8.toInt = (48 : Int32).toInt * ((Mv 5) : Int32).toInt := by rw [ex_8]; exact mul_toInt (by first | omega | (rw [y_48]; omega)) (by first | omega | (rw [y_48]; omega))
      rw [y_48] at t_x_8
      have t_x_11 : x_11.toInt = (4 : Int32).toInt * (x_10 : Int32).toInt := by rw [ex_11]; exact mul_toInt (by first | omega | (rw [y_4]; omega)) (by first | omega | (rw [y_4]; omega))
      rw [y_4] at t_x_11
      have t_x_12 : x_12.toInt = (x_8 : Int32).toInt + (x_11 : Int32).toInt := by rw [ex_12]; exact add_toInt (by omega) (by omega)
      have t_x_65 : x_65.toInt = (x_12 : Int32).toInt + (2 : Int32).toInt := by rw [ex_65]; exact add_toInt (by omega) (by omega)
      omega
    have hr_70 : 48 * (Mv 5).toInt + 4 * ((Mf 5) (Mv 5).toInt.toNat).toInt ≤ (((x_65 : Int32).toNatClampNeg : Nat) : Int) := by
      have z_1 : ¬ (r_38 : Int32).toInt = (0 : Int32).toInt := fun z => c_47 (Int32.toInt_inj.mp z)
      have y_0 : (0 : Int32).toInt = 0 := by decide
      have y_2 : (2 : Int32).toInt = 2 := by decide
      have y_4 : (4 : Int32).toInt = 4 := by decide
      have y_48 : (48 : Int32).toInt = 48 := by decide
      have t_x_8 : x_8.toInt = (48 : Int32).toInt * ((Mv 5) : Int32).toInt := by rw [ex_8]; exact mul_toInt (by first | omega | (rw [y_48]; omega)) (by first | omega | (rw [y_48]; omega))
      rw [y_48] at t_x_8
      have t_x_11 : x_11.toInt = (4 : Int32).toInt * (x_10 : Int32).toInt := by rw [ex_11]; exact mul_toInt (by first | omega | (rw [y_4]; omega)) (by first | omega | (rw [y_4]; omega))
      rw [y_4] at t_x_11
      have t_x_12 : x_12.toInt = (x_8 : Int32).toInt + (x_11 : Int32).toInt := by rw [ex_12]; exact add_toInt (by omega) (by omega)
      have t_x_65 : x_65.toInt = (x_12 : Int32).toInt + (2 : Int32).toInt := by rw [ex_65]; exact add_toInt (by omega) (by omega)
      have hcl : (x_65 : Int32).toNatClampNeg = (x_65 : Int32).toInt.toNat := rfl
      omega
    have pf_69 : RulP (Mf 2) g_67 (Mf 5) (Mv 5) (((Mf 3) (Mv 5).toNatClampNeg).toInt) := RulP.cl pf_58 eg_67 h_t.1 hr_70
    have ar_pf_69 := pf_69.2.1
    have hr_72 : ¬ (x_65 : Int32).toInt = (A0 : Int) + (0 : Nat) := by omega
    have pf_71 : ClV g_67 A0 0 x_14 := ClV.keep pf_60 eg_67 hr_72 (by omega)
    have hr_74 : 48 * (Mv 5).toInt + 4 * ((Mf 5) (Mv 5).toInt.toNat).toInt ≤ (((x_65 : Int32).toNatClampNeg : Nat) : Int) := by
      have z_1 : ¬ (r_38 : Int32).toInt = (0 : Int32).toInt := fun z => c_47 (Int32.toInt_inj.mp z)
      have y_0 : (0 : Int32).toInt = 0 := by decide
      have y_2 : (2 : Int32).toInt = 2 := by decide
      have y_4 : (4 : Int32).toInt = 4 := by decide
      have y_48 : (48 : Int32).toInt = 48 := by decide
      have t_x_8 : x_8.toInt = (48 : Int32).toInt * ((Mv 5) : Int32).toInt := by rw [ex_8]; exact mul_toInt (by first | omega | (rw [y_48]; omega)) (by first | omega | (rw [y_48]; omega))
      rw [y_48] at t_x_8
      have t_x_11 : x_11.toInt = (4 : Int32).toInt * (x_10 : Int32).toInt := by rw [ex_11]; exact mul_toInt (by first | omega | (rw [y_4]; omega)) (by first | omega | (rw [y_4]; omega))
      rw [y_4] at t_x_11
      have t_x_12 : x_12.toInt = (x_8 : Int32).toInt + (x_11 : Int32).toInt := by rw [ex_12]; exact add_toInt (by omega) (by omega)
      have t_x_65 : x_65.toInt = (x_12 : Int32).toInt + (2 : Int32).toInt := by rw [ex_65]; exact add_toInt (by omega) (by omega)
      have hcl : (x_65 : Int32).toNatClampNeg = (x_65 : Int32).toInt.toNat := rfl
      omega
    have pf_73 : RulP sv_33 g_67 (Mf 5) (Mv 5) (((Mf 3) (Mv 5).toNatClampNeg).toInt) := RulP.cl pf_62 eg_67 h_t.1 hr_74
    have ar_pf_73 := pf_73.2.1
    have hr_76 : ¬ (x_65 : Int32).toInt = (A0 : Int) + (1 : Nat) := by omega
    have pf_75 : ClV g_67 A0 1 x_53 := ClV.keep pf_64 eg_67 hr_76 (by omega)
    have pf_77 : ClV g_67 A0 2 (-1) := ClV.put eg_67 hi_68
    refine lv_aload_n hx hb dX12_isBuyHere_74 rfl (lv_at hl 1 rfl) ?_
    refine lv_ldc2 hx hb hown (hts _ k_1313) dX12_isBuyHere_75 ?_
    have ha_78 : 0 ≤ (sv_29 : Int32).toInt ∧ (sv_29 : Int32).toInt ≤ ((Mv 0) : Int32).toInt ∧ ((Mv 0) : Int32).toInt ≤ 400 := by
      have z_1 : ¬ (r_38 : Int32).toInt = (0 : Int32).toInt := fun z => c_47 (Int32.toInt_inj.mp z)
      have y_0 : (0 : Int32).toInt = 0 := by decide
      omega
    refine cV (a := (Ma 0)) (As := [.long 26982]) (rest := []) (wr := [((Ma 4), .inl (tc 0, 288, .inl g_67)), ((Ma 5), .inl (tc 0, 6, .inl (Mf 5))), ((Ma 7), .inl (tc 0, 400, .inl (Mf 7))), ((Ma 2), .inl (tc 0, 2400, .inl sv_33)), ((Ma 3), .inl (tc 0, 7, .inl sv_34))]) ⟨hx, hb, hml, hown, hts⟩ hK hX hA (cu_fX12_takesWord l D tc sk (Ma 0) (Ma 1) (Ma 2) (Ma 3) (Ma 4) (Ma 5) (Ma 6) (Ma 7) (Ma 8) (Ma 9) (Ma 10) (Ma 11) (Ma 12) (Ma 13) (Ma 14) (Ma 15) (Ma 16) (Ma 17) (Ma 18) (Ma 19) (Ma 20) (Mv 0) (Mv 1) sv_29 sv_30 sv_31 (Mv 5) sv_32 (Mv 7) (Mv 8) (Mv 9) (Mv 10) (Mv 11) (Mv 12) (Mv 13) (Mv 14) (Mf 1) (Mj 0) 26982 ha_78 h_bs) k_1317 k_1314 k_1316 k_48 k_106 pl_X12_takesWord ⟨Nat.le_of_ble_eq_true rfl, Nat.le_of_ble_eq_true rfl⟩ rfl rfl (va_recv hK hP (ci := 12) (q0 := 3) rfl rfl) hP hD hS [3, 4] [0, 1, 2, 5, 6] rfl rfl rfl rfl rfl (by decide) rfl hl.1 rfl (Nat.le_of_ble_eq_true rfl) dX12_isBuyHere_78 ⟨Nat.le_of_ble_eq_true rfl, Nat.le_of_ble_eq_true rfl⟩ (fun v_79 u_80 H locs hv_81 hP₀ hD₀ hS₀ => ?_)
    obtain ⟨sv_82, rfl⟩ : ∃ z, z = u_80 := ⟨_, rfl⟩
    obtain ⟨r_84, rfl, he_85, pf_83, hm_87, hm_88⟩ := hv_81
    have he_85 : (r_84.toInt = 0 ∨ r_84.toInt = 1) := he_85
    have pf_83 : (sv_29 : Int32).toInt ≤ (sv_82 : Int32).toInt ∧ (sv_82 : Int32).toInt ≤ ((Mv 0) : Int32).toInt := pf_83
    refine W.eq (g2 := F0 m 81 ls [.int r_84]) rfl ?_
    replace hP : va_P D classes [((Ma 4), .inl (tc 0, 288, .inl g_67)), ((Ma 5), .inl (tc 0, 6, .inl (Mf 5))), ((Ma 7), .inl (tc 0, 400, .inl (Mf 7))), ((Ma 2), .inl (tc 0, 2400, .inl sv_33)), ((Ma 3), .inl (tc 0, 7, .inl sv_34)), ((Ma 0), .inr (12, [.ref (Ma 1), .int (Mv 0), .int (Mv 1), .ref (Ma 2), .ref (Ma 3), .ref (Ma 4), .ref (Ma 5), .ref (Ma 6), .int sv_82, .int sv_30, .int sv_31, .int (Mv 5), .int sv_32, .int (Mv 7), .int (Mv 8), .ref (Ma 7), .int (Mv 9), .ref (Ma 8), .int (Mv 10), .ref (Ma 9), .ref (Ma 10), .int (Mv 11), .int (Mv 12), .int (Mv 13), .ref (Ma 11), .int (Mv 14), .ref (Ma 12), .ref (Ma 13), .ref (Ma 14), .ref (Ma 15), .ref (Ma 16), .long (Mj 0), .ref (Ma 17), .ref (Ma 18), .ref (Ma 19), .ref (Ma 20)])), ((Ma 1), .inl (tc 2, 400, .inl (Mf 1)))] H := hP₀
    replace hD : va_D A [((Ma 4), .inl (tc 0, 288, .inl g_67)), ((Ma 5), .inl (tc 0, 6, .inl (Mf 5))), ((Ma 7), .inl (tc 0, 400, .inl (Mf 7))), ((Ma 2), .inl (tc 0, 2400, .inl sv_33)), ((Ma 3), .inl (tc 0, 7, .inl sv_34)), ((Ma 0), .inr (12, [.ref (Ma 1), .int (Mv 0), .int (Mv 1), .ref (Ma 2), .ref (Ma 3), .ref (Ma 4), .ref (Ma 5), .ref (Ma 6), .int sv_82, .int sv_30, .int sv_31, .int (Mv 5), .int sv_32, .int (Mv 7), .int (Mv 8), .ref (Ma 7), .int (Mv 9), .ref (Ma 8), .int (Mv 10), .ref (Ma 9), .ref (Ma 10), .int (Mv 11), .int (Mv 12), .int (Mv 13), .ref (Ma 11), .int (Mv 14), .ref (Ma 12), .ref (Ma 13), .ref (Ma 14), .ref (Ma 15), .ref (Ma 16), .long (Mj 0), .ref (Ma 17), .ref (Ma 18), .ref (Ma 19), .ref (Ma 20)])), ((Ma 1), .inl (tc 2, 400, .inl (Mf 1)))] := hD₀
    replace hS := hS₀
    clear hP₀ hD₀ hS₀
    refine lv_if_eq (tgt := 110) hx hb dX12_isBuyHere_81 (by decide) (fun c_89 => ?_) (fun c_89 => ?_)
    · skip
      have hz_91 : (r_84 : Int32).toInt = 0 := by
        have z_1 : ¬ (r_38 : Int32).toInt = (0 : Int32).toInt := fun z => c_47 (Int32.toInt_inj.mp z)
        have z_2 := congrArg Int32.toInt c_89
        have y_0 : (0 : Int32).toInt = 0 := by decide
        omega
      obtain pf_90 := hm_88 hz_91
      have pf_90 : NtW (rB (Mf 1) (Mv 0)) (26982 : Int64).toInt sv_29 sv_82 := pf_90
      refine lv_aload_n hx hb dX12_isBuyHere_110 rfl (lv_at hl 1 rfl) ?_
      refine gf_X12_20 hx hb hts hown hK hP 5 rfl rfl dX12_isBuyHere_111 ?_
      refine lv_iload_n hx hb dX12_isBuyHere_114 rfl (lv_at hl 0 rfl) ?_
      refine lv_iconst (v := 3) hx hb dX12_isBuyHere_115 (by decide) ?_
      refine lv_iadd hx hb dX12_isBuyHere_116 ?_
      refine lv_topi (fun x_92 ex_92 => ?_)
      refine lv_aload_n hx hb dX12_isBuyHere_117 rfl (lv_at hl 1 rfl) ?_
      refine gf_X12_17 hx hb hts hown hK hP 5 rfl rfl dX12_isBuyHere_118 ?_
      refine lv_aload_n hx hb dX12_isBuyHere_121 rfl (lv_at hl 1 rfl) ?_
      refine gf_X12_145 hx hb hts hown hK hP 5 rfl rfl dX12_isBuyHere_122 ?_
      have hi_93 : vp_in (Mv 5) 7 := by
        have z_1 : ¬ (r_38 : Int32).toInt = (0 : Int32).toInt := fun z => c_47 (Int32.toInt_inj.mp z)
        have z_2 := congrArg Int32.toInt c_89
        have y_0 : (0 : Int32).toInt = 0 := by decide
        refine vp_in_iff.mpr ⟨?_, ?_⟩ <;> omega
      refine va_iald hx hb hK hP 4 0 rfl rfl hi_93 dX12_isBuyHere_125 ?_
      refine lv_topi (fun x_94 ex_94 => ?_)
      have kx_94 : x_94.toInt = (sv_34 ((Mv 5) : Int32).toNatClampNeg).toInt := congrArg Int32.toInt ex_94
      have pf_95 : WFc sv_33 (Mv 5) x_14 x_94 := Cd.wf pf_48 ex_94
      have ar_pf_95 := WFc.ar pf_95
      have hi_96 : vp_in x_92 288 := by
        have z_1 : ¬ (r_38 : Int32).toInt = (0 : Int32).toInt := fun z => c_47 (Int32.toInt_inj.mp z)
        have z_2 := congrArg Int32.toInt c_89
        have y_0 : (0 : Int32).toInt = 0 := by decide
        have y_3 : (3 : Int32).toInt = 3 := by decide
        have y_4 : (4 : Int32).toInt = 4 := by decide
        have y_48 : (48 : Int32).toInt = 48 := by decide
        have t_x_8 : x_8.toInt = (48 : Int32).toInt * ((Mv 5) : Int32).toInt := by rw [ex_8]; exact mul_toInt (by first | omega | (rw [y_48]; omega)) (by first | omega | (rw [y_48]; omega))
        rw [y_48] at t_x_8
        have t_x_11 : x_11.toInt = (4 : Int32).toInt * (x_10 : Int32).toInt := by rw [ex_11]; exact mul_toInt (by first | omega | (rw [y_4]; omega)) (by first | omega | (rw [y_4]; omega))
        rw [y_4] at t_x_11
        have t_x_12 : x_12.toInt = (x_8 : Int32).toInt + (x_11 : Int32).toInt := by rw [ex_12]; exact add_toInt (by omega) (by omega)
        have t_x_92 : x_92.toInt = (x_12 : Int32).toInt + (3 : Int32).toInt := by rw [ex_92]; exact add_toInt (by omega) (by omega)
        refine vp_in_iff.mpr ⟨?_, ?_⟩ <;> omega
      refine st_int hx hb hK hP hD hS 0 0 rfl rfl hi_96 dX12_isBuyHere_126 (fun g_97 H locs eg_97 hP₀ hD₀ hS₀ => ?_)
      replace hP : va_P D classes [((Ma 4), .inl (tc 0, 288, .inl g_97)), ((Ma 5), .inl (tc 0, 6, .inl (Mf 5))), ((Ma 7), .inl (tc 0, 400, .inl (Mf 7))), ((Ma 2), .inl (tc 0, 2400, .inl sv_33)), ((Ma 3), .inl (tc 0, 7, .inl sv_34)), ((Ma 0), .inr (12, [.ref (Ma 1), .int (Mv 0), .int (Mv 1), .ref (Ma 2), .ref (Ma 3), .ref (Ma 4), .ref (Ma 5), .ref (Ma 6), .int sv_82, .int sv_30, .int sv_31, .int (Mv 5), .int sv_32, .int (Mv 7), .int (Mv 8), .ref (Ma 7), .int (Mv 9), .ref (Ma 8), .int (Mv 10), .ref (Ma 9), .ref (Ma 10), .int (Mv 11), .int (Mv 12), .int (Mv 13), .ref (Ma 11), .int (Mv 14), .ref (Ma 12), .ref (Ma 13), .ref (Ma 14), .ref (Ma 15), .ref (Ma 16), .long (Mj 0), .ref (Ma 17), .ref (Ma 18), .ref (Ma 19), .ref (Ma 20)])), ((Ma 1), .inl (tc 2, 400, .inl (Mf 1)))] H := hP₀
      replace hD : va_D A [((Ma 4), .inl (tc 0, 288, .inl g_97)), ((Ma 5), .inl (tc 0, 6, .inl (Mf 5))), ((Ma 7), .inl (tc 0, 400, .inl (Mf 7))), ((Ma 2), .inl (tc 0, 2400, .inl sv_33)), ((Ma 3), .inl (tc 0, 7, .inl sv_34)), ((Ma 0), .inr (12, [.ref (Ma 1), .int (Mv 0), .int (Mv 1), .ref (Ma 2), .ref (Ma 3), .ref (Ma 4), .ref (Ma 5), .ref (Ma 6), .int sv_82, .int sv_30, .int sv_31, .int (Mv 5), .int sv_32, .int (Mv 7), .int (Mv 8), .ref (Ma 7), .int (Mv 9), .ref (Ma 8), .int (Mv 10), .ref (Ma 9), .ref (Ma 10), .int (Mv 11), .int (Mv 12), .int (Mv 13), .ref (Ma 11), .int (Mv 14), .ref (Ma 12), .ref (Ma 13), .ref (Ma 14), .ref (Ma 15), .ref (Ma 16), .long (Mj 0), .ref (Ma 17), .ref (Ma 18), .ref (Ma 19), .ref (Ma 20)])), ((Ma 1), .inl (tc 2, 400, .inl (Mf 1)))] := hD₀
      replace hS := hS₀
      clear hP₀ hD₀ hS₀
      have hi_98 : (x_92 : Int32).toInt = (A0 : Int) + (3 : Nat) := by
        have z_1 : ¬ (r_38 : Int32).toInt = (0 : Int32).toInt := fun z => c_47 (Int32.toInt_inj.mp z)
        have z_2 := congrArg Int32.toInt c_89
        have y_0 : (0 : Int32).toInt = 0 := by decide
        have y_3 : (3 : Int32).toInt = 3 := by decide
        have y_4 : (4 : Int32).toInt = 4 := by decide
        have y_48 : (48 : Int32).toInt = 48 := by decide
        have t_x_8 : x_8.toInt = (48 : Int32).toInt * ((Mv 5) : Int32).toInt := by rw [ex_8]; exact mul_toInt (by first | omega | (rw [y_48]; omega)) (by first | omega | (rw [y_48]; omega))
        rw [y_48] at t_x_8
        have t_x_11 : x_11.toInt = (4 : Int32).toInt * (x_10 : Int32).toInt := by rw [ex_11]; exact mul_toInt (by first | omega | (rw [y_4]; omega)) (by first | omega | (rw [y_4]; omega))
        rw [y_4] at t_x_11
        have t_x_12 : x_12.toInt = (x_8 : Int32).toInt + (x_11 : Int32).toInt := by rw [ex_12]; exact add_toInt (by omega) (by omega)
        have t_x_92 : x_92.toInt = (x_12 : Int32).toInt + (3 : Int32).toInt := by rw [ex_92]; exact add_toInt (by omega) (by omega)
        omega
      have hr_100 : 48 * (Mv 5).toInt + 4 * ((Mf 5) (Mv 5).toInt.toNat).toInt ≤ (((x_92 : Int32).toNatClampNeg : Nat) : Int) := by
        have z_1 : ¬ (r_38 : Int32).toInt = (0 : Int32).toInt := fun z => c_47 (Int32.toInt_inj.mp z)
        have z_2 := congrArg Int32.toInt c_89
        have y_0 : (0 : Int32).toInt = 0 := by decide
        have y_3 : (3 : Int32).toInt = 3 := by decide
        have y_4 : (4 : Int32).toInt = 4 := by decide
        have y_48 : (48 : Int32).toInt = 48 := by decide
        have t_x_8 : x_8.toInt = (48 : Int32).toInt * ((Mv 5) : Int32).toInt := by rw [ex_8]; exact mul_toInt (by first | omega | (rw [y_48]; omega)) (by first | omega | (rw [y_48]; omega))
        rw [y_48] at t_x_8
        have t_x_11 : x_11.toInt = (4 : Int32).toInt * (x_10 : Int32).toInt := by rw [ex_11]; exact mul_toInt (by first | omega | (rw [y_4]; omega)) (by first | omega | (rw [y_4]; omega))
        rw [y_4] at t_x_11
        have t_x_12 : x_12.toInt = (x_8 : Int32).toInt + (x_11 : Int32).toInt := by rw [ex_12]; exact add_toInt (by omega) (by omega)
        have t_x_92 : x_92.toInt = (x_12 : Int32).toInt + (3 : Int32).toInt := by rw [ex_92]; exact add_toInt (by omega) (by omega)
        have hcl : (x_92 : Int32).toNatClampNeg = (x_92 : Int32).toInt.toNat := rfl
        omega
      have pf_99 : RulP (Mf 2) g_97 (Mf 5) (Mv 5) (((Mf 3) (Mv 5).toNatClampNeg).toInt) := RulP.cl pf_69 eg_97 h_t.1 hr_100
      have ar_pf_99 := pf_99.2.1
      have hr_102 : ¬ (x_92 : Int32).toInt = (A0 : Int) + (0 : Nat) := by omega
      have pf_101 : ClV g_97 A0 0 x_14 := ClV.keep pf_71 eg_97 hr_102 (by omega)
      have hr_104 : 48 * (Mv 5).toInt + 4 * ((Mf 5) (Mv 5).toInt.toNat).toInt ≤ (((x_92 : Int32).toNatClampNeg : Nat) : Int) := by
        have z_1 : ¬ (r_38 : Int32).toInt = (0 : Int32).toInt := fun z => c_47 (Int32.toInt_inj.mp z)
        have z_2 := congrArg Int32.toInt c_89
        have y_0 : (0 : Int32).toInt = 0 := by decide
        have y_3 : (3 : Int32).toInt = 3 := by decide
        have y_4 : (4 : Int32).toInt = 4 := by decide
        have y_48 : (48 : Int32).toInt = 48 := by decide
        have t_x_8 : x_8.toInt = (48 : Int32).toInt * ((Mv 5) : Int32).toInt := by rw [ex_8]; exact mul_toInt (by first | omega | (rw [y_48]; omega)) (by first | omega | (rw [y_48]; omega))
        rw [y_48] at t_x_8
        have t_x_11 : x_11.toInt = (4 : Int32).toInt * (x_10 : Int32).toInt := by rw [ex_11]; exact mul_toInt (by first | omega | (rw [y_4]; omega)) (by first | omega | (rw [y_4]; omega))
        rw [y_4] at t_x_11
        have t_x_12 : x_12.toInt = (x_8 : Int32).toInt + (x_11 : Int32).toInt := by rw [ex_12]; exact add_toInt (by omega) (by omega)
        have t_x_92 : x_92.toInt = (x_12 : Int32).toInt + (3 : Int32).toInt := by rw [ex_92]; exact add_toInt (by omega) (by omega)
        have hcl : (x_92 : Int32).toNatClampNeg = (x_92 : Int32).toInt.toNat := rfl
        omega
      have pf_103 : RulP sv_33 g_97 (Mf 5) (Mv 5) (((Mf 3) (Mv 5).toNatClampNeg).toInt) := RulP.cl pf_73 eg_97 h_t.1 hr_104
      have ar_pf_103 := pf_103.2.1
      have hr_106 : ¬ (x_92 : Int32).toInt = (A0 : Int) + (1 : Nat) := by omega
      have pf_105 : ClV g_97 A0 1 x_53 := ClV.keep pf_75 eg_97 hr_106 (by omega)
      have hr_108 : ¬ (x_92 : Int32).toInt = (A0 : Int) + (2 : Nat) := by omega
      have pf_107 : ClV g_97 A0 2 (-1) := ClV.keep pf_77 eg_97 hr_108 (by omega)
      have pf_109 : ClV g_97 A0 3 x_94 := ClV.put eg_97 hi_98
      refine lv_aload_n hx hb dX12_isBuyHere_127 rfl (lv_at hl 1 rfl) ?_
      refine gf_X12_23 hx hb hts hown hK hP 5 rfl rfl dX12_isBuyHere_128 ?_
      refine lv_aload_n hx hb dX12_isBuyHere_131 rfl (lv_at hl 1 rfl) ?_
      refine gf_X12_145 hx hb hts hown hK hP 5 rfl rfl dX12_isBuyHere_132 ?_
      refine lv_dup2_11 hx hb dX12_isBuyHere_135 rfl rfl ?_
      have hi_110 : vp_in (Mv 5) 6 := by
        have z_1 : ¬ (r_38 : Int32).toInt = (0 : Int32).toInt := fun z => c_47 (Int32.toInt_inj.mp z)
        have z_2 := congrArg Int32.toInt c_89
        have y_0 : (0 : Int32).toInt = 0 := by decide
        refine vp_in_iff.mpr ⟨?_, ?_⟩ <;> omega
      refine va_iald hx hb hK hP 1 0 rfl rfl hi_110 dX12_isBuyHere_136 ?_
      refine lv_topi (fun x_111 ex_111 => ?_)
      have kx_111 : x_111.toInt = ((Mf 5) ((Mv 5) : Int32).toInt.toNat).toInt := congrArg Int32.toInt ex_111
      refine lv_iconst (v := 1) hx hb dX12_isBuyHere_137 (by decide) ?_
      refine lv_iadd hx hb dX12_isBuyHere_138 ?_
      refine lv_topi (fun x_112 ex_112 => ?_)
      have hi_113 : vp_in (Mv 5) 6 := by
        have z_1 : ¬ (r_38 : Int32).toInt = (0 : Int32).toInt := fun z => c_47 (Int32.toInt_inj.mp z)
        have z_2 := congrArg Int32.toInt c_89
        have y_0 : (0 : Int32).toInt = 0 := by decide
        refine vp_in_iff.mpr ⟨?_, ?_⟩ <;> omega
      refine st_int hx hb hK hP hD hS 1 0 rfl rfl hi_113 dX12_isBuyHere_139 (fun g_114 H locs eg_114 hP₀ hD₀ hS₀ => ?_)
      replace hP : va_P D classes [((Ma 4), .inl (tc 0, 288, .inl g_97)), ((Ma 5), .inl (tc 0, 6, .inl g_114)), ((Ma 7), .inl (tc 0, 400, .inl (Mf 7))), ((Ma 2), .inl (tc 0, 2400, .inl sv_33)), ((Ma 3), .inl (tc 0, 7, .inl sv_34)), ((Ma 0), .inr (12, [.ref (Ma 1), .int (Mv 0), .int (Mv 1), .ref (Ma 2), .ref (Ma 3), .ref (Ma 4), .ref (Ma 5), .ref (Ma 6), .int sv_82, .int sv_30, .int sv_31, .int (Mv 5), .int sv_32, .int (Mv 7), .int (Mv 8), .ref (Ma 7), .int (Mv 9), .ref (Ma 8), .int (Mv 10), .ref (Ma 9), .ref (Ma 10), .int (Mv 11), .int (Mv 12), .int (Mv 13), .ref (Ma 11), .int (Mv 14), .ref (Ma 12), .ref (Ma 13), .ref (Ma 14), .ref (Ma 15), .ref (Ma 16), .long (Mj 0), .ref (Ma 17), .ref (Ma 18), .ref (Ma 19), .ref (Ma 20)])), ((Ma 1), .inl (tc 2, 400, .inl (Mf 1)))] H := hP₀
      replace hD : va_D A [((Ma 4), .inl (tc 0, 288, .inl g_97)), ((Ma 5), .inl (tc 0, 6, .inl g_114)), ((Ma 7), .inl (tc 0, 400, .inl (Mf 7))), ((Ma 2), .inl (tc 0, 2400, .inl sv_33)), ((Ma 3), .inl (tc 0, 7, .inl sv_34)), ((Ma 0), .inr (12, [.ref (Ma 1), .int (Mv 0), .int (Mv 1), .ref (Ma 2), .ref (Ma 3), .ref (Ma 4), .ref (Ma 5), .ref (Ma 6), .int sv_82, .int sv_30, .int sv_31, .int (Mv 5), .int sv_32, .int (Mv 7), .int (Mv 8), .ref (Ma 7), .int (Mv 9), .ref (Ma 8), .int (Mv 10), .ref (Ma 9), .ref (Ma 10), .int (Mv 11), .int (Mv 12), .int (Mv 13), .ref (Ma 11), .int (Mv 14), .ref (Ma 12), .ref (Ma 13), .ref (Ma 14), .ref (Ma 15), .ref (Ma 16), .long (Mj 0), .ref (Ma 17), .ref (Ma 18), .ref (Ma 19), .ref (Ma 20)])), ((Ma 1), .inl (tc 2, 400, .inl (Mf 1)))] := hD₀
      replace hS := hS₀
      clear hP₀ hD₀ hS₀
      have hr_115 : (((Mf 3) (Mv 5).toNatClampNeg).toInt) ≤ ((sv_34 (Mv 5).toNatClampNeg).toInt) := by
        have z_1 : ¬ (r_38 : Int32).toInt = (0 : Int32).toInt := fun z => c_47 (Int32.toInt_inj.mp z)
        have z_2 := congrArg Int32.toInt c_89
        have y_0 : (0 : Int32).toInt = 0 := by decide
        omega
      have hy_116 : (x_112 : Int32).toInt = ((Mf 5) (Mv 5).toInt.toNat).toInt + 1 := by
        have z_1 : ¬ (r_38 : Int32).toInt = (0 : Int32).toInt := fun z => c_47 (Int32.toInt_inj.mp z)
        have z_2 := congrArg Int32.toInt c_89
        have y_0 : (0 : Int32).toInt = 0 := by decide
        have y_1 : (1 : Int32).toInt = 1 := by decide
        have t_x_112 : x_112.toInt = (x_111 : Int32).toInt + (1 : Int32).toInt := by rw [ex_112]; exact add_toInt (by omega) (by omega)
        omega
      have hw_117 : WFc sv_33 (Mv 5) (g_97 A0) (g_97 (A0 + 1)) := by
        have z0 : g_97 A0 = x_14 := pf_101
        have z1 : g_97 (A0 + 1) = x_53 := pf_105
        rw [z0, z1]
        exact pf_54
      have hb_118 : (g_97 (A0 + 1)).toInt ≤ ((sv_34 (Mv 5).toNatClampNeg).toInt) := by
        have z1 : g_97 (A0 + 1) = x_53 := pf_105
        rw [z1]
        have z_1 : ¬ (r_38 : Int32).toInt = (0 : Int32).toInt := fun z => c_47 (Int32.toInt_inj.mp z)
        have z_2 := congrArg Int32.toInt c_89
        have y_0 : (0 : Int32).toInt = 0 := by decide
        omega
      have hw_119 : 0 ≤ (g_97 (A0 + 2)).toInt → WFc sv_33 (Mv 5) (g_97 (A0 + 2)) (g_97 (A0 + 3)) ∧ (g_97 (A0 + 3)).toInt ≤ ((sv_34 (Mv 5).toNatClampNeg).toInt) := by
        have z2 : g_97 (A0 + 2) = (-1) := pf_107
        have z3 : g_97 (A0 + 3) = x_94 := pf_109
        rw [z2, z3]
        intro hz
        exact absurd hz (by decide)
      have pf_120 : RulP sv_33 g_97 g_114 (Mv 5) ((sv_34 (Mv 5).toNatClampNeg).toInt) := by
        subst hA0
        exact RulP.snoc (RulP.mono pf_103 hr_115) h_t.1 eg_114 hy_116 hw_117 hb_118 hw_119
      have ar_pf_120 := pf_120.2.1
      have kc_g_114 : (g_114 (Mv 5).toInt.toNat).toInt = (x_112 : Int32).toInt := upd_toInt_at eg_114
      refine lv_iconst (v := 1) hx hb dX12_isBuyHere_140 (by decide) ?_
      have ha_121 : ((Mv 2) : Int32).toInt ≤ (sv_82 : Int32).toInt ∧ (sv_82 : Int32).toInt ≤ ((Mv 0) : Int32).toInt := by
        have z_1 : ¬ (r_38 : Int32).toInt = (0 : Int32).toInt := fun z => c_47 (Int32.toInt_inj.mp z)
        have z_2 := congrArg Int32.toInt c_89
        have y_0 : (0 : Int32).toInt = 0 := by decide
        omega
      have hp_122 : (((1 : Int32).toInt = 0 ∧ ¬ (sv_30 : Int32).toInt = 0) ∨ ((1 : Int32).toInt = 1 ∧ 0 ≤ (sv_34 (Mv 5).toNatClampNeg).toInt ∧ (sv_34 (Mv 5).toNatClampNeg).toInt ≤ (sv_82 : Int32).toInt ∧ (g_114 (Mv 5).toInt.toNat).toInt = ((Mf 5) (Mv 5).toInt.toNat).toInt + 1 ∧ (sv_30 : Int32).toInt = 0)) := by
        have z_1 : ¬ (r_38 : Int32).toInt = (0 : Int32).toInt := fun z => c_47 (Int32.toInt_inj.mp z)
        have z_2 := congrArg Int32.toInt c_89
        have y_0 : (0 : Int32).toInt = 0 := by decide
        have y_1 : (1 : Int32).toInt = 1 := by decide
        have yr : (1 : Int32).toInt = 1 := by decide
        omega
      have hm_123 : (1 : Int32).toInt = 1 → (RulP sv_33 g_97 g_114 (Mv 5) ((sv_34 (Mv 5).toNatClampNeg).toInt)) ∧ (RfO (BuR (rB (Mf 1) (Mv 0)) (Mv 2) (Mv 6)) (rB (Mf 1) (Mv 0)) sv_30 sv_82 sv_32) := by
        intro h1r
        have hr_124 : 0 ≤ (sv_32 : Int32).toInt := by
          have z_1 : ¬ (r_38 : Int32).toInt = (0 : Int32).toInt := fun z => c_47 (Int32.toInt_inj.mp z)
          have z_2 := congrArg Int32.toInt c_89
          have y_0 : (0 : Int32).toInt = 0 := by decide
          omega
        exact ⟨pf_120, (BuR.no (by decide) h_nx.1 h_bw pf_7 pf_49 pf_90 hr_124)⟩
      exact retI (v := 1) hx hb hr hlk (rfl) hP hD hS (sv_82, sv_30, sv_31, sv_32, (Mv 7), (Mv 9), sv_33, sv_34, g_97, g_114, (Mf 7)) ⟨_, rfl, hp_122, ha_121, pf_36, pf_120.1, hm_123, (fun h => absurd h (by decide))⟩ [5, 6, 3, 4, 0, 1, 2] rfl rfl dX12_isBuyHere_141 (Nat.le_of_ble_eq_true rfl) (Nat.le_of_ble_eq_true rfl) rfl
    · skip
      have hz_126 : (r_84 : Int32).toInt = 1 := by
        have z_1 : ¬ (r_38 : Int32).toInt = (0 : Int32).toInt := fun z => c_47 (Int32.toInt_inj.mp z)
        have z_2 : ¬ (r_84 : Int32).toInt = (0 : Int32).toInt := fun z => c_89 (Int32.toInt_inj.mp z)
        have y_0 : (0 : Int32).toInt = 0 := by decide
        omega
      obtain pf_125 := hm_87 hz_126
      have pf_125 : TkW (rB (Mf 1) (Mv 0)) (26982 : Int64).toInt sv_29 sv_82 := pf_125
      refine lv_aload_n hx hb dX12_isBuyHere_84 rfl (lv_at hl 1 rfl) ?_
      refine gf_X12_20 hx hb hts hown hK hP 5 rfl rfl dX12_isBuyHere_85 ?_
      refine lv_iload_n hx hb dX12_isBuyHere_88 rfl (lv_at hl 0 rfl) ?_
      refine lv_iconst (v := 2) hx hb dX12_isBuyHere_89 (by decide) ?_
      refine lv_iadd hx hb dX12_isBuyHere_90 ?_
      refine lv_topi (fun x_127 ex_127 => ?_)
      refine lv_aload_n hx hb dX12_isBuyHere_91 rfl (lv_at hl 1 rfl) ?_
      refine gf_X12_17 hx hb hts hown hK hP 5 rfl rfl dX12_isBuyHere_92 ?_
      refine lv_aload_n hx hb dX12_isBuyHere_95 rfl (lv_at hl 1 rfl) ?_
      refine gf_X12_145 hx hb hts hown hK hP 5 rfl rfl dX12_isBuyHere_96 ?_
      have hi_128 : vp_in (Mv 5) 7 := by
        have z_1 : ¬ (r_38 : Int32).toInt = (0 : Int32).toInt := fun z => c_47 (Int32.toInt_inj.mp z)
        have z_2 : ¬ (r_84 : Int32).toInt = (0 : Int32).toInt := fun z => c_89 (Int32.toInt_inj.mp z)
        have y_0 : (0 : Int32).toInt = 0 := by decide
        refine vp_in_iff.mpr ⟨?_, ?_⟩ <;> omega
      refine va_iald hx hb hK hP 4 0 rfl rfl hi_128 dX12_isBuyHere_99 ?_
      refine lv_topi (fun x_129 ex_129 => ?_)
      have kx_129 : x_129.toInt = (sv_34 ((Mv 5) : Int32).toNatClampNeg).toInt := congrArg Int32.toInt ex_129
      have pf_130 : WFc sv_33 (Mv 5) x_14 x_129 := Cd.wf pf_48 ex_129
      have ar_pf_130 := WFc.ar pf_130
      have hi_131 : vp_in x_127 288 := by
        have z_1 : ¬ (r_38 : Int32).toInt = (0 : Int32).toInt := fun z => c_47 (Int32.toInt_inj.mp z)
        have z_2 : ¬ (r_84 : Int32).toInt = (0 : Int32).toInt := fun z => c_89 (Int32.toInt_inj.mp z)
        have y_0 : (0 : Int32).toInt = 0 := by decide
        have y_2 : (2 : Int32).toInt = 2 := by decide
        have y_4 : (4 : Int32).toInt = 4 := by decide
        have y_48 : (48 : Int32).toInt = 48 := by decide
        have t_x_8 : x_8.toInt = (48 : Int32).toInt * ((Mv 5) : Int32).toInt := by rw [ex_8]; exact mul_toInt (by first | omega | (rw [y_48]; omega)) (by first | omega | (rw [y_48]; omega))
        rw [y_48] at t_x_8
        have t_x_11 : x_11.toInt = (4 : Int32).toInt * (x_10 : Int32).toInt := by rw [ex_11]; exact mul_toInt (by first | omega | (rw [y_4]; omega)) (by first | omega | (rw [y_4]; omega))
        rw [y_4] at t_x_11
        have t_x_12 : x_12.toInt = (x_8 : Int32).toInt + (x_11 : Int32).toInt := by rw [ex_12]; exact add_toInt (by omega) (by omega)
        have t_x_127 : x_127.toInt = (x_12 : Int32).toInt + (2 : Int32).toInt := by rw [ex_127]; exact add_toInt (by omega) (by omega)
        refine vp_in_iff.mpr ⟨?_, ?_⟩ <;> omega
      refine st_int hx hb hK hP hD hS 0 0 rfl rfl hi_131 dX12_isBuyHere_100 (fun g_132 H locs eg_132 hP₀ hD₀ hS₀ => ?_)
      replace hP : va_P D classes [((Ma 4), .inl (tc 0, 288, .inl g_132)), ((Ma 5), .inl (tc 0, 6, .inl (Mf 5))), ((Ma 7), .inl (tc 0, 400, .inl (Mf 7))), ((Ma 2), .inl (tc 0, 2400, .inl sv_33)), ((Ma 3), .inl (tc 0, 7, .inl sv_34)), ((Ma 0), .inr (12, [.ref (Ma 1), .int (Mv 0), .int (Mv 1), .ref (Ma 2), .ref (Ma 3), .ref (Ma 4), .ref (Ma 5), .ref (Ma 6), .int sv_82, .int sv_30, .int sv_31, .int (Mv 5), .int sv_32, .int (Mv 7), .int (Mv 8), .ref (Ma 7), .int (Mv 9), .ref (Ma 8), .int (Mv 10), .ref (Ma 9), .ref (Ma 10), .int (Mv 11), .int (Mv 12), .int (Mv 13), .ref (Ma 11), .int (Mv 14), .ref (Ma 12), .ref (Ma 13), .ref (Ma 14), .ref (Ma 15), .ref (Ma 16), .long (Mj 0), .ref (Ma 17), .ref (Ma 18), .ref (Ma 19), .ref (Ma 20)])), ((Ma 1), .inl (tc 2, 400, .inl (Mf 1)))] H := hP₀
      replace hD : va_D A [((Ma 4), .inl (tc 0, 288, .inl g_132)), ((Ma 5), .inl (tc 0, 6, .inl (Mf 5))), ((Ma 7), .inl (tc 0, 400, .inl (Mf 7))), ((Ma 2), .inl (tc 0, 2400, .inl sv_33)), ((Ma 3), .inl (tc 0, 7, .inl sv_34)), ((Ma 0), .inr (12, [.ref (Ma 1), .int (Mv 0), .int (Mv 1), .ref (Ma 2), .ref (Ma 3), .ref (Ma 4), .ref (Ma 5), .ref (Ma 6), .int sv_82, .int sv_30, .int sv_31, .int (Mv 5), .int sv_32, .int (Mv 7), .int (Mv 8), .ref (Ma 7), .int (Mv 9), .ref (Ma 8), .int (Mv 10), .ref (Ma 9), .ref (Ma 10), .int (Mv 11), .int (Mv 12), .int (Mv 13), .ref (Ma 11), .int (Mv 14), .ref (Ma 12), .ref (Ma 13), .ref (Ma 14), .ref (Ma 15), .ref (Ma 16), .long (Mj 0), .ref (Ma 17), .ref (Ma 18), .ref (Ma 19), .ref (Ma 20)])), ((Ma 1), .inl (tc 2, 400, .inl (Mf 1)))] := hD₀
      replace hS := hS₀
      clear hP₀ hD₀ hS₀
      have hi_133 : (x_127 : Int32).toInt = (A0 : Int) + (2 : Nat) := by
        have z_1 : ¬ (r_38 : Int32).toInt = (0 : Int32).toInt := fun z => c_47 (Int32.toInt_inj.mp z)
        have z_2 : ¬ (r_84 : Int32).toInt = (0 : Int32).toInt := fun z => c_89 (Int32.toInt_inj.mp z)
        have y_0 : (0 : Int32).toInt = 0 := by decide
        have y_2 : (2 : Int32).toInt = 2 := by decide
        have y_4 : (4 : Int32).toInt = 4 := by decide
        have y_48 : (48 : Int32).toInt = 48 := by decide
        have t_x_8 : x_8.toInt = (48 : Int32).toInt * ((Mv 5) : Int32).toInt := by rw [ex_8]; exact mul_toInt (by first | omega | (rw [y_48]; omega)) (by first | omega | (rw [y_48]; omega))
        rw [y_48] at t_x_8
        have t_x_11 : x_11.toInt = (4 : Int32).toInt * (x_10 : Int32).toInt := by rw [ex_11]; exact mul_toInt (by first | omega | (rw [y_4]; omega)) (by first | omega | (rw [y_4]; omega))
        rw [y_4] at t_x_11
        have t_x_12 : x_12.toInt = (x_8 : Int32).toInt + (x_11 : Int32).toInt := by rw [ex_12]; exact add_toInt (by omega) (by omega)
        have t_x_127 : x_127.toInt = (x_12 : Int32).toInt + (2 : Int32).toInt := by rw [ex_127]; exact add_toInt (by omega) (by omega)
        omega
      have hr_135 : 48 * (Mv 5).toInt + 4 * ((Mf 5) (Mv 5).toInt.toNat).toInt ≤ (((x_127 : Int32).toNatClampNeg : Nat) : Int) := by
        have z_1 : ¬ (r_38 : Int32).toInt = (0 : Int32).toInt := fun z => c_47 (Int32.toInt_inj.mp z)
        have z_2 : ¬ (r_84 : Int32).toInt = (0 : Int32).toInt := fun z => c_89 (Int32.toInt_inj.mp z)
        have y_0 : (0 : Int32).toInt = 0 := by decide
        have y_2 : (2 : Int32).toInt = 2 := by decide
        have y_4 : (4 : Int32).toInt = 4 := by decide
        have y_48 : (48 : Int32).toInt = 48 := by decide
        have t_x_8 : x_8.toInt = (48 : Int32).toInt * ((Mv 5) : Int32).toInt := by rw [ex_8]; exact mul_toInt (by first | omega | (rw [y_48]; omega)) (by first | omega | (rw [y_48]; omega))
        rw [y_48] at t_x_8
        have t_x_11 : x_11.toInt = (4 : Int32).toInt * (x_10 : Int32).toInt := by rw [ex_11]; exact mul_toInt (by first | omega | (rw [y_4]; omega)) (by first | omega | (rw [y_4]; omega))
        rw [y_4] at t_x_11
        have t_x_12 : x_12.toInt = (x_8 : Int32).toInt + (x_11 : Int32).toInt := by rw [ex_12]; exact add_toInt (by omega) (by omega)
        have t_x_127 : x_127.toInt = (x_12 : Int32).toInt + (2 : Int32).toInt := by rw [ex_127]; exact add_toInt (by omega) (by omega)
        have hcl : (x_127 : Int32).toNatClampNeg = (x_127 : Int32).toInt.toNat := rfl
        omega
      have pf_134 : RulP (Mf 2) g_132 (Mf 5) (Mv 5) (((Mf 3) (Mv 5).toNatClampNeg).toInt) := RulP.cl pf_69 eg_132 h_t.1 hr_135
      have ar_pf_134 := pf_134.2.1
      have hr_137 : ¬ (x_127 : Int32).toInt = (A0 : Int) + (0 : Nat) := by omega
      have pf_136 : ClV g_132 A0 0 x_14 := ClV.keep pf_71 eg_132 hr_137 (by omega)
      have hr_139 : 48 * (Mv 5).toInt + 4 * ((Mf 5) (Mv 5).toInt.toNat).toInt ≤ (((x_127 : Int32).toNatClampNeg : Nat) : Int) := by
        have z_1 : ¬ (r_38 : Int32).toInt = (0 : Int32).toInt := fun z => c_47 (Int32.toInt_inj.mp z)
        have z_2 : ¬ (r_84 : Int32).toInt = (0 : Int32).toInt := fun z => c_89 (Int32.toInt_inj.mp z)
        have y_0 : (0 : Int32).toInt = 0 := by decide
        have y_2 : (2 : Int32).toInt = 2 := by decide
        have y_4 : (4 : Int32).toInt = 4 := by decide
        have y_48 : (48 : Int32).toInt = 48 := by decide
        have t_x_8 : x_8.toInt = (48 : Int32).toInt * ((Mv 5) : Int32).toInt := by rw [ex_8]; exact mul_toInt (by first | omega | (rw [y_48]; omega)) (by first | omega | (rw [y_48]; omega))
        rw [y_48] at t_x_8
        have t_x_11 : x_11.toInt = (4 : Int32).toInt * (x_10 : Int32).toInt := by rw [ex_11]; exact mul_toInt (by first | omega | (rw [y_4]; omega)) (by first | omega | (rw [y_4]; omega))
        rw [y_4] at t_x_11
        have t_x_12 : x_12.toInt = (x_8 : Int32).toInt + (x_11 : Int32).toInt := by rw [ex_12]; exact add_toInt (by omega) (by omega)
        have t_x_127 : x_127.toInt = (x_12 : Int32).toInt + (2 : Int32).toInt := by rw [ex_127]; exact add_toInt (by omega) (by omega)
        have hcl : (x_127 : Int32).toNatClampNeg = (x_127 : Int32).toInt.toNat := rfl
        omega
      have pf_138 : RulP sv_33 g_132 (Mf 5) (Mv 5) (((Mf 3) (Mv 5).toNatClampNeg).toInt) := RulP.cl pf_73 eg_132 h_t.1 hr_139
      have ar_pf_138 := pf_138.2.1
      have hr_141 : ¬ (x_127 : Int32).toInt = (A0 : Int) + (1 : Nat) := by omega
      have pf_140 : ClV g_132 A0 1 x_53 := ClV.keep pf_75 eg_132 hr_141 (by omega)
      have pf_142 : ClV g_132 A0 2 x_129 := ClV.put eg_132 hi_133
      have hr_144 : 0 ≤ (x_129 : Int32).toInt ∧ (x_129 : Int32).toInt ≤ 400 := by
        have z_1 : ¬ (r_38 : Int32).toInt = (0 : Int32).toInt := fun z => c_47 (Int32.toInt_inj.mp z)
        have z_2 : ¬ (r_84 : Int32).toInt = (0 : Int32).toInt := fun z => c_89 (Int32.toInt_inj.mp z)
        have y_0 : (0 : Int32).toInt = 0 := by decide
        omega
      have hr_145 : 0 ≤ (sv_32 : Int32).toInt ∧ (sv_32 : Int32).toInt ≤ 60 := by
        have z_1 : ¬ (r_38 : Int32).toInt = (0 : Int32).toInt := fun z => c_47 (Int32.toInt_inj.mp z)
        have z_2 : ¬ (r_84 : Int32).toInt = (0 : Int32).toInt := fun z => c_89 (Int32.toInt_inj.mp z)
        have y_0 : (0 : Int32).toInt = 0 := by decide
        omega
      have pf_143 : Cd sv_33 sv_34 (Mv 5) x_129 sv_32 0 := Cd.nil h_t ex_129 hr_144 hr_145
      have ar_pf_143 := Cd.ar pf_143
      refine lv_aload_n hx hb dX12_isBuyHere_101 rfl (lv_at hl 1 rfl) ?_
      have ha_146 : 0 ≤ (sv_82 : Int32).toInt ∧ (sv_82 : Int32).toInt ≤ ((Mv 0) : Int32).toInt ∧ ((Mv 0) : Int32).toInt ≤ 400 := by
        have z_1 : ¬ (r_38 : Int32).toInt = (0 : Int32).toInt := fun z => c_47 (Int32.toInt_inj.mp z)
        have z_2 : ¬ (r_84 : Int32).toInt = (0 : Int32).toInt := fun z => c_89 (Int32.toInt_inj.mp z)
        have y_0 : (0 : Int32).toInt = 0 := by decide
        omega
      have ha_147 : (sv_34 (Mv 5).toNatClampNeg).toInt ≤ (sv_82 : Int32).toInt := by
        have z_1 : ¬ (r_38 : Int32).toInt = (0 : Int32).toInt := fun z => c_47 (Int32.toInt_inj.mp z)
        have z_2 : ¬ (r_84 : Int32).toInt = (0 : Int32).toInt := fun z => c_89 (Int32.toInt_inj.mp z)
        have y_0 : (0 : Int32).toInt = 0 := by decide
        omega
      have ha_148 : 0 ≤ (sv_32 : Int32).toInt ∧ (sv_32 : Int32).toInt ≤ 60 := by
        have z_1 : ¬ (r_38 : Int32).toInt = (0 : Int32).toInt := fun z => c_47 (Int32.toInt_inj.mp z)
        have z_2 : ¬ (r_84 : Int32).toInt = (0 : Int32).toInt := fun z => c_89 (Int32.toInt_inj.mp z)
        have y_0 : (0 : Int32).toInt = 0 := by decide
        omega
      have ha_149 : (sv_30 : Int32).toInt = 0 := by
        have z_1 : ¬ (r_38 : Int32).toInt = (0 : Int32).toInt := fun z => c_47 (Int32.toInt_inj.mp z)
        have z_2 : ¬ (r_84 : Int32).toInt = (0 : Int32).toInt := fun z => c_89 (Int32.toInt_inj.mp z)
        have y_0 : (0 : Int32).toInt = 0 := by decide
        omega
      refine cV (a := (Ma 0)) (As := []) (rest := []) (wr := [((Ma 4), .inl (tc 0, 288, .inl g_132)), ((Ma 5), .inl (tc 0, 6, .inl (Mf 5)))]) ⟨hx, hb, hml, hown, hts⟩ hK hX hA (cu_fX12_tested l D tc sk (Ma 0) (Ma 1) (Ma 2) (Ma 3) (Ma 4) (Ma 5) (Ma 6) (Ma 7) (Ma 8) (Ma 9) (Ma 10) (Ma 11) (Ma 12) (Ma 13) (Ma 14) (Ma 15) (Ma 16) (Ma 17) (Ma 18) (Ma 19) (Ma 20) (Mv 0) (Mv 1) sv_82 sv_30 sv_31 (Mv 5) sv_32 (Mv 7) (Mv 8) (Mv 9) (Mv 10) (Mv 11) (Mv 12) (Mv 13) (Mv 14) (Mf 1) sv_33 sv_34 (Mf 7) (Mj 0) x_129 ha_146 pf_143 ha_147 ha_148 h_bs ha_149) k_1321 k_1318 k_1320 k_49 k_106 pl_X12_tested ⟨Nat.le_of_ble_eq_true rfl, Nat.le_of_ble_eq_true rfl⟩ rfl rfl (va_recv hK hP (ci := 12) (q0 := 5) rfl rfl) hP hD hS [5, 6, 3, 4, 2] [0, 1] rfl rfl rfl rfl rfl (by decide) rfl hl.1 rfl (Nat.le_of_ble_eq_true rfl) dX12_isBuyHere_102 ⟨Nat.le_of_ble_eq_true rfl, Nat.le_of_ble_eq_true rfl⟩ (fun v_150 u_151 H locs hv_152 hP₀ hD₀ hS₀ => ?_)
      obtain ⟨sv_153, sv_154, sv_155, sv_156, sv_157, sv_158, sv_159, sv_160, sv_161⟩ := u_151
      obtain ⟨r_165, rfl, he_166, pf_162, pf_163, pf_164, hm_168, hm_169⟩ := hv_152
      have he_166 : ((r_165.toInt = 0 ∧ ¬ (sv_154 : Int32).toInt = 0) ∨ (r_165.toInt = 1 ∧ (sv_34 (Mv 5).toNatClampNeg).toInt ≤ (sv_160 (Mv 5).toNatClampNeg).toInt ∧ (sv_160 (Mv 5).toNatClampNeg).toInt ≤ (sv_153 : Int32).toInt)) := he_166
      have pf_162 : (sv_82 : Int32).toInt ≤ (sv_153 : Int32).toInt ∧ (sv_153 : Int32).toInt ≤ ((Mv 0) : Int32).toInt := pf_162
      have pf_163 : (sv_32 : Int32).toInt ≤ (sv_156 : Int32).toInt ∧ (sv_156 : Int32).toInt ≤ 60 := pf_163
      have pf_164 : Agr sv_33 sv_159 (400 * ((Mv 5) : Int32).toInt + (sv_34 (Mv 5).toNatClampNeg).toInt) := pf_164
      have hr_171 : 400 * ((Mv 5) : Int32).toInt + (((Mf 3) (Mv 5).toNatClampNeg).toInt) ≤ (400 * ((Mv 5) : Int32).toInt + (sv_34 (Mv 5).toNatClampNeg).toInt) ∧ 0 ≤ ((Mv 5) : Int32).toInt ∧ 0 ≤ (((Mf 3) (Mv 5).toNatClampNeg).toInt) := by
        have z_1 : ¬ (r_38 : Int32).toInt = (0 : Int32).toInt := fun z => c_47 (Int32.toInt_inj.mp z)
        have z_2 : ¬ (r_84 : Int32).toInt = (0 : Int32).toInt := fun z => c_89 (Int32.toInt_inj.mp z)
        have y_0 : (0 : Int32).toInt = 0 := by decide
        omega
      have pf_170 : RulP sv_159 (Mf 4) (Mf 5) (Mv 5) (((Mf 3) (Mv 5).toNatClampNeg).toInt) := RulP.agr pf_43 pf_164 hr_171.2.1 hr_171.1 hr_171.2.2
      have ar_pf_170 := pf_170.2.1
      have hr_173 : 400 * ((Mv 5) : Int32).toInt + (((Mf 3) (Mv 5).toNatClampNeg).toInt) ≤ (400 * ((Mv 5) : Int32).toInt + (sv_34 (Mv 5).toNatClampNeg).toInt) ∧ 0 ≤ ((Mv 5) : Int32).toInt ∧ 0 ≤ (((Mf 3) (Mv 5).toNatClampNeg).toInt) := by
        have z_1 : ¬ (r_38 : Int32).toInt = (0 : Int32).toInt := fun z => c_47 (Int32.toInt_inj.mp z)
        have z_2 : ¬ (r_84 : Int32).toInt = (0 : Int32).toInt := fun z => c_89 (Int32.toInt_inj.mp z)
        have y_0 : (0 : Int32).toInt = 0 := by decide
        omega
      have pf_172 : RulP sv_159 g_16 (Mf 5) (Mv 5) (((Mf 3) (Mv 5).toNatClampNeg).toInt) := RulP.agr pf_45 pf_164 hr_173.2.1 hr_173.1 hr_173.2.2
      have ar_pf_172 := pf_172.2.1
      have hr_175 : 400 * ((Mv 5) : Int32).toInt + (x_53 : Int32).toInt ≤ (400 * ((Mv 5) : Int32).toInt + (sv_34 (Mv 5).toNatClampNeg).toInt) ∧ 0 ≤ ((Mv 5) : Int32).toInt := by
        have z_1 : ¬ (r_38 : Int32).toInt = (0 : Int32).toInt := fun z => c_47 (Int32.toInt_inj.mp z)
        have z_2 : ¬ (r_84 : Int32).toInt = (0 : Int32).toInt := fun z => c_89 (Int32.toInt_inj.mp z)
        have y_0 : (0 : Int32).toInt = 0 := by decide
        omega
      have pf_174 : WFc sv_159 (Mv 5) x_14 x_53 := WFc.agr pf_54 pf_164 hr_175.2 hr_175.1
      have hr_177 : 400 * ((Mv 5) : Int32).toInt + (((Mf 3) (Mv 5).toNatClampNeg).toInt) ≤ (400 * ((Mv 5) : Int32).toInt + (sv_34 (Mv 5).toNatClampNeg).toInt) ∧ 0 ≤ ((Mv 5) : Int32).toInt ∧ 0 ≤ (((Mf 3) (Mv 5).toNatClampNeg).toInt) := by
        have z_1 : ¬ (r_38 : Int32).toInt = (0 : Int32).toInt := fun z => c_47 (Int32.toInt_inj.mp z)
        have z_2 : ¬ (r_84 : Int32).toInt = (0 : Int32).toInt := fun z => c_89 (Int32.toInt_inj.mp z)
        have y_0 : (0 : Int32).toInt = 0 := by decide
        omega
      have pf_176 : RulP sv_159 g_56 (Mf 5) (Mv 5) (((Mf 3) (Mv 5).toNatClampNeg).toInt) := RulP.agr pf_62 pf_164 hr_177.2.1 hr_177.1 hr_177.2.2
      have ar_pf_176 := pf_176.2.1
      have hr_179 : 400 * ((Mv 5) : Int32).toInt + (((Mf 3) (Mv 5).toNatClampNeg).toInt) ≤ (400 * ((Mv 5) : Int32).toInt + (sv_34 (Mv 5).toNatClampNeg).toInt) ∧ 0 ≤ ((Mv 5) : Int32).toInt ∧ 0 ≤ (((Mf 3) (Mv 5).toNatClampNeg).toInt) := by
        have z_1 : ¬ (r_38 : Int32).toInt = (0 : Int32).toInt := fun z => c_47 (Int32.toInt_inj.mp z)
        have z_2 : ¬ (r_84 : Int32).toInt = (0 : Int32).toInt := fun z => c_89 (Int32.toInt_inj.mp z)
        have y_0 : (0 : Int32).toInt = 0 := by decide
        omega
      have pf_178 : RulP sv_159 g_67 (Mf 5) (Mv 5) (((Mf 3) (Mv 5).toNatClampNeg).toInt) := RulP.agr pf_73 pf_164 hr_179.2.1 hr_179.1 hr_179.2.2
      have ar_pf_178 := pf_178.2.1
      have hr_181 : 400 * ((Mv 5) : Int32).toInt + (x_129 : Int32).toInt ≤ (400 * ((Mv 5) : Int32).toInt + (sv_34 (Mv 5).toNatClampNeg).toInt) ∧ 0 ≤ ((Mv 5) : Int32).toInt := by
        have z_1 : ¬ (r_38 : Int32).toInt = (0 : Int32).toInt := fun z => c_47 (Int32.toInt_inj.mp z)
        have z_2 : ¬ (r_84 : Int32).toInt = (0 : Int32).toInt := fun z => c_89 (Int32.toInt_inj.mp z)
        have y_0 : (0 : Int32).toInt = 0 := by decide
        omega
      have pf_180 : WFc sv_159 (Mv 5) x_14 x_129 := WFc.agr pf_130 pf_164 hr_181.2 hr_181.1
      have hr_183 : 400 * ((Mv 5) : Int32).toInt + (((Mf 3) (Mv 5).toNatClampNeg).toInt) ≤ (400 * ((Mv 5) : Int32).toInt + (sv_34 (Mv 5).toNatClampNeg).toInt) ∧ 0 ≤ ((Mv 5) : Int32).toInt ∧ 0 ≤ (((Mf 3) (Mv 5).toNatClampNeg).toInt) := by
        have z_1 : ¬ (r_38 : Int32).toInt = (0 : Int32).toInt := fun z => c_47 (Int32.toInt_inj.mp z)
        have z_2 : ¬ (r_84 : Int32).toInt = (0 : Int32).toInt := fun z => c_89 (Int32.toInt_inj.mp z)
        have y_0 : (0 : Int32).toInt = 0 := by decide
        omega
      have pf_182 : RulP sv_159 g_132 (Mf 5) (Mv 5) (((Mf 3) (Mv 5).toNatClampNeg).toInt) := RulP.agr pf_138 pf_164 hr_183.2.1 hr_183.1 hr_183.2.2
      have ar_pf_182 := pf_182.2.1
      refine W.eq (g2 := F0 m 105 ls [.int r_165]) rfl ?_
      replace hP : va_P D classes [((Ma 4), .inl (tc 0, 288, .inl g_132)), ((Ma 5), .inl (tc 0, 6, .inl (Mf 5))), ((Ma 0), .inr (12, [.ref (Ma 1), .int (Mv 0), .int (Mv 1), .ref (Ma 2), .ref (Ma 3), .ref (Ma 4), .ref (Ma 5), .ref (Ma 6), .int sv_153, .int sv_154, .int sv_155, .int (Mv 5), .int sv_156, .int sv_157, .int (Mv 8), .ref (Ma 7), .int sv_158, .ref (Ma 8), .int (Mv 10), .ref (Ma 9), .ref (Ma 10), .int (Mv 11), .int (Mv 12), .int (Mv 13), .ref (Ma 11), .int (Mv 14), .ref (Ma 12), .ref (Ma 13), .ref (Ma 14), .ref (Ma 15), .ref (Ma 16), .long (Mj 0), .ref (Ma 17), .ref (Ma 18), .ref (Ma 19), .ref (Ma 20)])), ((Ma 1), .inl (tc 2, 400, .inl (Mf 1))), ((Ma 2), .inl (tc 0, 2400, .inl sv_159)), ((Ma 3), .inl (tc 0, 7, .inl sv_160)), ((Ma 7), .inl (tc 0, 400, .inl sv_161))] H := hP₀
      replace hD : va_D A [((Ma 4), .inl (tc 0, 288, .inl g_132)), ((Ma 5), .inl (tc 0, 6, .inl (Mf 5))), ((Ma 0), .inr (12, [.ref (Ma 1), .int (Mv 0), .int (Mv 1), .ref (Ma 2), .ref (Ma 3), .ref (Ma 4), .ref (Ma 5), .ref (Ma 6), .int sv_153, .int sv_154, .int sv_155, .int (Mv 5), .int sv_156, .int sv_157, .int (Mv 8), .ref (Ma 7), .int sv_158, .ref (Ma 8), .int (Mv 10), .ref (Ma 9), .ref (Ma 10), .int (Mv 11), .int (Mv 12), .int (Mv 13), .ref (Ma 11), .int (Mv 14), .ref (Ma 12), .ref (Ma 13), .ref (Ma 14), .ref (Ma 15), .ref (Ma 16), .long (Mj 0), .ref (Ma 17), .ref (Ma 18), .ref (Ma 19), .ref (Ma 20)])), ((Ma 1), .inl (tc 2, 400, .inl (Mf 1))), ((Ma 2), .inl (tc 0, 2400, .inl sv_159)), ((Ma 3), .inl (tc 0, 7, .inl sv_160)), ((Ma 7), .inl (tc 0, 400, .inl sv_161))] := hD₀
      replace hS := hS₀
      clear hP₀ hD₀ hS₀
      refine lv_if_ne (tgt := 110) hx hb dX12_isBuyHere_105 (by decide) (fun c_184 => ?_) (fun c_184 => ?_)
      · skip
        have hz_187 : (r_165 : Int32).toInt = 1 := by
          have z_1 : ¬ (r_38 : Int32).toInt = (0 : Int32).toInt := fun z => c_47 (Int32.toInt_inj.mp z)
          have z_2 : ¬ (r_84 : Int32).toInt = (0 : Int32).toInt := fun z => c_89 (Int32.toInt_inj.mp z)
          have z_3 : ¬ (r_165 : Int32).toInt = (0 : Int32).toInt := fun z => c_184 (Int32.toInt_inj.mp z)
          have y_0 : (0 : Int32).toInt = 0 := by decide
          omega
        obtain ⟨pf_185, pf_186⟩ := hm_168 hz_187
        have pf_185 : Cd sv_159 sv_160 (Mv 5) x_129 sv_156 1 := pf_185
        have ar_pf_185 := Cd.ar pf_185
        have pf_186 : RfO (pz_tst (rB (Mf 1) (Mv 0)) (pz_fact (rB (Mf 1) (Mv 0)) 10) (St0 (rB (Mf 1) (Mv 0)) sv_82 sv_32)) (rB (Mf 1) (Mv 0)) sv_154 sv_153 sv_156 := pf_186
        have ar_pf_186 := RfO.wr pf_186
        refine lv_aload_n hx hb dX12_isBuyHere_110 rfl (lv_at hl 1 rfl) ?_
        refine gf_X12_20 hx hb hts hown hK hP 2 rfl rfl dX12_isBuyHere_111 ?_
        refine lv_iload_n hx hb dX12_isBuyHere_114 rfl (lv_at hl 0 rfl) ?_
        refine lv_iconst (v := 3) hx hb dX12_isBuyHere_115 (by decide) ?_
        refine lv_iadd hx hb dX12_isBuyHere_116 ?_
        refine lv_topi (fun x_188 ex_188 => ?_)
        refine lv_aload_n hx hb dX12_isBuyHere_117 rfl (lv_at hl 1 rfl) ?_
        refine gf_X12_17 hx hb hts hown hK hP 2 rfl rfl dX12_isBuyHere_118 ?_
        refine lv_aload_n hx hb dX12_isBuyHere_121 rfl (lv_at hl 1 rfl) ?_
        refine gf_X12_145 hx hb hts hown hK hP 2 rfl rfl dX12_isBuyHere_122 ?_
        have hi_189 : vp_in (Mv 5) 7 := by
          have z_1 : ¬ (r_38 : Int32).toInt = (0 : Int32).toInt := fun z => c_47 (Int32.toInt_inj.mp z)
          have z_2 : ¬ (r_84 : Int32).toInt = (0 : Int32).toInt := fun z => c_89 (Int32.toInt_inj.mp z)
          have z_3 : ¬ (r_165 : Int32).toInt = (0 : Int32).toInt := fun z => c_184 (Int32.toInt_inj.mp z)
          have y_0 : (0 : Int32).toInt = 0 := by decide
          refine vp_in_iff.mpr ⟨?_, ?_⟩ <;> omega
        refine va_iald hx hb hK hP 5 0 rfl rfl hi_189 dX12_isBuyHere_125 ?_
        refine lv_topi (fun x_190 ex_190 => ?_)
        have kx_190 : x_190.toInt = (sv_160 ((Mv 5) : Int32).toNatClampNeg).toInt := congrArg Int32.toInt ex_190
        have pf_191 : WFc sv_159 (Mv 5) x_129 x_190 := Cd.wf pf_185 ex_190
        have ar_pf_191 := WFc.ar pf_191
        have hi_192 : vp_in x_188 288 := by
          have z_1 : ¬ (r_38 : Int32).toInt = (0 : Int32).toInt := fun z => c_47 (Int32.toInt_inj.mp z)
          have z_2 : ¬ (r_84 : Int32).toInt = (0 : Int32).toInt := fun z => c_89 (Int32.toInt_inj.mp z)
          have z_3 : ¬ (r_165 : Int32).toInt = (0 : Int32).toInt := fun z => c_184 (Int32.toInt_inj.mp z)
          have y_0 : (0 : Int32).toInt = 0 := by decide
          have y_3 : (3 : Int32).toInt = 3 := by decide
          have y_4 : (4 : Int32).toInt = 4 := by decide
          have y_48 : (48 : Int32).toInt = 48 := by decide
          have t_x_8 : x_8.toInt = (48 : Int32).toInt * ((Mv 5) : Int32).toInt := by rw [ex_8]; exact mul_toInt (by first | omega | (rw [y_48]; omega)) (by first | omega | (rw [y_48]; omega))
          rw [y_48] at t_x_8
          have t_x_11 : x_11.toInt = (4 : Int32).toInt * (x_10 : Int32).toInt := by rw [ex_11]; exact mul_toInt (by first | omega | (rw [y_4]; omega)) (by first | omega | (rw [y_4]; omega))
          rw [y_4] at t_x_11
          have t_x_12 : x_12.toInt = (x_8 : Int32).toInt + (x_11 : Int32).toInt := by rw [ex_12]; exact add_toInt (by omega) (by omega)
          have t_x_188 : x_188.toInt = (x_12 : Int32).toInt + (3 : Int32).toInt := by rw [ex_188]; exact add_toInt (by omega) (by omega)
          refine vp_in_iff.mpr ⟨?_, ?_⟩ <;> omega
        refine st_int hx hb hK hP hD hS 0 0 rfl rfl hi_192 dX12_isBuyHere_126 (fun g_193 H locs eg_193 hP₀ hD₀ hS₀ => ?_)
        replace hP : va_P D classes [((Ma 4), .inl (tc 0, 288, .inl g_193)), ((Ma 5), .inl (tc 0, 6, .inl (Mf 5))), ((Ma 0), .inr (12, [.ref (Ma 1), .int (Mv 0), .int (Mv 1), .ref (Ma 2), .ref (Ma 3), .ref (Ma 4), .ref (Ma 5), .ref (Ma 6), .int sv_153, .int sv_154, .int sv_155, .int (Mv 5), .int sv_156, .int sv_157, .int (Mv 8), .ref (Ma 7), .int sv_158, .ref (Ma 8), .int (Mv 10), .ref (Ma 9), .ref (Ma 10), .int (Mv 11), .int (Mv 12), .int (Mv 13), .ref (Ma 11), .int (Mv 14), .ref (Ma 12), .ref (Ma 13), .ref (Ma 14), .ref (Ma 15), .ref (Ma 16), .long (Mj 0), .ref (Ma 17), .ref (Ma 18), .ref (Ma 19), .ref (Ma 20)])), ((Ma 1), .inl (tc 2, 400, .inl (Mf 1))), ((Ma 2), .inl (tc 0, 2400, .inl sv_159)), ((Ma 3), .inl (tc 0, 7, .inl sv_160)), ((Ma 7), .inl (tc 0, 400, .inl sv_161))] H := hP₀
        replace hD : va_D A [((Ma 4), .inl (tc 0, 288, .inl g_193)), ((Ma 5), .inl (tc 0, 6, .inl (Mf 5))), ((Ma 0), .inr (12, [.ref (Ma 1), .int (Mv 0), .int (Mv 1), .ref (Ma 2), .ref (Ma 3), .ref (Ma 4), .ref (Ma 5), .ref (Ma 6), .int sv_153, .int sv_154, .int sv_155, .int (Mv 5), .int sv_156, .int sv_157, .int (Mv 8), .ref (Ma 7), .int sv_158, .ref (Ma 8), .int (Mv 10), .ref (Ma 9), .ref (Ma 10), .int (Mv 11), .int (Mv 12), .int (Mv 13), .ref (Ma 11), .int (Mv 14), .ref (Ma 12), .ref (Ma 13), .ref (Ma 14), .ref (Ma 15), .ref (Ma 16), .long (Mj 0), .ref (Ma 17), .ref (Ma 18), .ref (Ma 19), .ref (Ma 20)])), ((Ma 1), .inl (tc 2, 400, .inl (Mf 1))), ((Ma 2), .inl (tc 0, 2400, .inl sv_159)), ((Ma 3), .inl (tc 0, 7, .inl sv_160)), ((Ma 7), .inl (tc 0, 400, .inl sv_161))] := hD₀
        replace hS := hS₀
        clear hP₀ hD₀ hS₀
        have hi_194 : (x_188 : Int32).toInt = (A0 : Int) + (3 : Nat) := by
          have z_1 : ¬ (r_38 : Int32).toInt = (0 : Int32).toInt := fun z => c_47 (Int32.toInt_inj.mp z)
          have z_2 : ¬ (r_84 : Int32).toInt = (0 : Int32).toInt := fun z => c_89 (Int32.toInt_inj.mp z)
          have z_3 : ¬ (r_165 : Int32).toInt = (0 : Int32).toInt := fun z => c_184 (Int32.toInt_inj.mp z)
          have y_0 : (0 : Int32).toInt = 0 := by decide
          have y_3 : (3 : Int32).toInt = 3 := by decide
          have y_4 : (4 : Int32).toInt = 4 := by decide
          have y_48 : (48 : Int32).toInt = 48 := by decide
          have t_x_8 : x_8.toInt = (48 : Int32).toInt * ((Mv 5) : Int32).toInt := by rw [ex_8]; exact mul_toInt (by first | omega | (rw [y_48]; omega)) (by first | omega | (rw [y_48]; omega))
          rw [y_48] at t_x_8
          have t_x_11 : x_11.toInt = (4 : Int32).toInt * (x_10 : Int32).toInt := by rw [ex_11]; exact mul_toInt (by first | omega | (rw [y_4]; omega)) (by first | omega | (rw [y_4]; omega))
          rw [y_4] at t_x_11
          have t_x_12 : x_12.toInt = (x_8 : Int32).toInt + (x_11 : Int32).toInt := by rw [ex_12]; exact add_toInt (by omega) (by omega)
          have t_x_188 : x_188.toInt = (x_12 : Int32).toInt + (3 : Int32).toInt := by rw [ex_188]; exact add_toInt (by omega) (by omega)
          omega
        have hr_196 : 48 * (Mv 5).toInt + 4 * ((Mf 5) (Mv 5).toInt.toNat).toInt ≤ (((x_188 : Int32).toNatClampNeg : Nat) : Int) := by
          have z_1 : ¬ (r_38 : Int32).toInt = (0 : Int32).toInt := fun z => c_47 (Int32.toInt_inj.mp z)
          have z_2 : ¬ (r_84 : Int32).toInt = (0 : Int32).toInt := fun z => c_89 (Int32.toInt_inj.mp z)
          have z_3 : ¬ (r_165 : Int32).toInt = (0 : Int32).toInt := fun z => c_184 (Int32.toInt_inj.mp z)
          have y_0 : (0 : Int32).toInt = 0 := by decide
          have y_3 : (3 : Int32).toInt = 3 := by decide
          have y_4 : (4 : Int32).toInt = 4 := by decide
          have y_48 : (48 : Int32).toInt = 48 := by decide
          have t_x_8 : x_8.toInt = (48 : Int32).toInt * ((Mv 5) : Int32).toInt := by rw [ex_8]; exact mul_toInt (by first | omega | (rw [y_48]; omega)) (by first | omega | (rw [y_48]; omega))
          rw [y_48] at t_x_8
          have t_x_11 : x_11.toInt = (4 : Int32).toInt * (x_10 : Int32).toInt := by rw [ex_11]; exact mul_toInt (by first | omega | (rw [y_4]; omega)) (by first | omega | (rw [y_4]; omega))
          rw [y_4] at t_x_11
          have t_x_12 : x_12.toInt = (x_8 : Int32).toInt + (x_11 : Int32).toInt := by rw [ex_12]; exact add_toInt (by omega) (by omega)
          have t_x_188 : x_188.toInt = (x_12 : Int32).toInt + (3 : Int32).toInt := by rw [ex_188]; exact add_toInt (by omega) (by omega)
          have hcl : (x_188 : Int32).toNatClampNeg = (x_188 : Int32).toInt.toNat := rfl
          omega
        have pf_195 : RulP (Mf 2) g_193 (Mf 5) (Mv 5) (((Mf 3) (Mv 5).toNatClampNeg).toInt) := RulP.cl pf_134 eg_193 h_t.1 hr_196
        have ar_pf_195 := pf_195.2.1
        have hr_198 : ¬ (x_188 : Int32).toInt = (A0 : Int) + (0 : Nat) := by omega
        have pf_197 : ClV g_193 A0 0 x_14 := ClV.keep pf_136 eg_193 hr_198 (by omega)
        have hr_200 : 48 * (Mv 5).toInt + 4 * ((Mf 5) (Mv 5).toInt.toNat).toInt ≤ (((x_188 : Int32).toNatClampNeg : Nat) : Int) := by
          have z_1 : ¬ (r_38 : Int32).toInt = (0 : Int32).toInt := fun z => c_47 (Int32.toInt_inj.mp z)
          have z_2 : ¬ (r_84 : Int32).toInt = (0 : Int32).toInt := fun z => c_89 (Int32.toInt_inj.mp z)
          have z_3 : ¬ (r_165 : Int32).toInt = (0 : Int32).toInt := fun z => c_184 (Int32.toInt_inj.mp z)
          have y_0 : (0 : Int32).toInt = 0 := by decide
          have y_3 : (3 : Int32).toInt = 3 := by decide
          have y_4 : (4 : Int32).toInt = 4 := by decide
          have y_48 : (48 : Int32).toInt = 48 := by decide
          have t_x_8 : x_8.toInt = (48 : Int32).toInt * ((Mv 5) : Int32).toInt := by rw [ex_8]; exact mul_toInt (by first | omega | (rw [y_48]; omega)) (by first | omega | (rw [y_48]; omega))
          rw [y_48] at t_x_8
          have t_x_11 : x_11.toInt = (4 : Int32).toInt * (x_10 : Int32).toInt := by rw [ex_11]; exact mul_toInt (by first | omega | (rw [y_4]; omega)) (by first | omega | (rw [y_4]; omega))
          rw [y_4] at t_x_11
          have t_x_12 : x_12.toInt = (x_8 : Int32).toInt + (x_11 : Int32).toInt := by rw [ex_12]; exact add_toInt (by omega) (by omega)
          have t_x_188 : x_188.toInt = (x_12 : Int32).toInt + (3 : Int32).toInt := by rw [ex_188]; exact add_toInt (by omega) (by omega)
          have hcl : (x_188 : Int32).toNatClampNeg = (x_188 : Int32).toInt.toNat := rfl
          omega
        have pf_199 : RulP sv_33 g_193 (Mf 5) (Mv 5) (((Mf 3) (Mv 5).toNatClampNeg).toInt) := RulP.cl pf_138 eg_193 h_t.1 hr_200
        have ar_pf_199 := pf_199.2.1
        have hr_202 : ¬ (x_188 : Int32).toInt = (A0 : Int) + (1 : Nat) := by omega
        have pf_201 : ClV g_193 A0 1 x_53 := ClV.keep pf_140 eg_193 hr_202 (by omega)
        have hr_204 : ¬ (x_188 : Int32).toInt = (A0 : Int) + (2 : Nat) := by omega
        have pf_203 : ClV g_193 A0 2 x_129 := ClV.keep pf_142 eg_193 hr_204 (by omega)
        have hr_206 : 48 * (Mv 5).toInt + 4 * ((Mf 5) (Mv 5).toInt.toNat).toInt ≤ (((x_188 : Int32).toNatClampNeg : Nat) : Int) := by
          have z_1 : ¬ (r_38 : Int32).toInt = (0 : Int32).toInt := fun z => c_47 (Int32.toInt_inj.mp z)
          have z_2 : ¬ (r_84 : Int32).toInt = (0 : Int32).toInt := fun z => c_89 (Int32.toInt_inj.mp z)
          have z_3 : ¬ (r_165 : Int32).toInt = (0 : Int32).toInt := fun z => c_184 (Int32.toInt_inj.mp z)
          have y_0 : (0 : Int32).toInt = 0 := by decide
          have y_3 : (3 : Int32).toInt = 3 := by decide
          have y_4 : (4 : Int32).toInt = 4 := by decide
          have y_48 : (48 : Int32).toInt = 48 := by decide
          have t_x_8 : x_8.toInt = (48 : Int32).toInt * ((Mv 5) : Int32).toInt := by rw [ex_8]; exact mul_toInt (by first | omega | (rw [y_48]; omega)) (by first | omega | (rw [y_48]; omega))
          rw [y_48] at t_x_8
          have t_x_11 : x_11.toInt = (4 : Int32).toInt * (x_10 : Int32).toInt := by rw [ex_11]; exact mul_toInt (by first | omega | (rw [y_4]; omega)) (by first | omega | (rw [y_4]; omega))
          rw [y_4] at t_x_11
          have t_x_12 : x_12.toInt = (x_8 : Int32).toInt + (x_11 : Int32).toInt := by rw [ex_12]; exact add_toInt (by omega) (by omega)
          have t_x_188 : x_188.toInt = (x_12 : Int32).toInt + (3 : Int32).toInt := by rw [ex_188]; exact add_toInt (by omega) (by omega)
          have hcl : (x_188 : Int32).toNatClampNeg = (x_188 : Int32).toInt.toNat := rfl
          omega
        have pf_205 : RulP sv_159 g_193 (Mf 5) (Mv 5) (((Mf 3) (Mv 5).toNatClampNeg).toInt) := RulP.cl pf_182 eg_193 h_t.1 hr_206
        have ar_pf_205 := pf_205.2.1
        have pf_207 : ClV g_193 A0 3 x_190 := ClV.put eg_193 hi_194
        refine lv_aload_n hx hb dX12_isBuyHere_127 rfl (lv_at hl 1 rfl) ?_
        refine gf_X12_23 hx hb hts hown hK hP 2 rfl rfl dX12_isBuyHere_128 ?_
        refine lv_aload_n hx hb dX12_isBuyHere_131 rfl (lv_at hl 1 rfl) ?_
        refine gf_X12_145 hx hb hts hown hK hP 2 rfl rfl dX12_isBuyHere_132 ?_
        refine lv_dup2_11 hx hb dX12_isBuyHere_135 rfl rfl ?_
        have hi_208 : vp_in (Mv 5) 6 := by
          have z_1 : ¬ (r_38 : Int32).toInt = (0 : Int32).toInt := fun z => c_47 (Int32.toInt_inj.mp z)
          have z_2 : ¬ (r_84 : Int32).toInt = (0 : Int32).toInt := fun z => c_89 (Int32.toInt_inj.mp z)
          have z_3 : ¬ (r_165 : Int32).toInt = (0 : Int32).toInt := fun z => c_184 (Int32.toInt_inj.mp z)
          have y_0 : (0 : Int32).toInt = 0 := by decide
          refine vp_in_iff.mpr ⟨?_, ?_⟩ <;> omega
        refine va_iald hx hb hK hP 1 0 rfl rfl hi_208 dX12_isBuyHere_136 ?_
        refine lv_topi (fun x_209 ex_209 => ?_)
        have kx_209 : x_209.toInt = ((Mf 5) ((Mv 5) : Int32).toInt.toNat).toInt := congrArg Int32.toInt ex_209
        refine lv_iconst (v := 1) hx hb dX12_isBuyHere_137 (by decide) ?_
        refine lv_iadd hx hb dX12_isBuyHere_138 ?_
        refine lv_topi (fun x_210 ex_210 => ?_)
        have hi_211 : vp_in (Mv 5) 6 := by
          have z_1 : ¬ (r_38 : Int32).toInt = (0 : Int32).toInt := fun z => c_47 (Int32.toInt_inj.mp z)
          have z_2 : ¬ (r_84 : Int32).toInt = (0 : Int32).toInt := fun z => c_89 (Int32.toInt_inj.mp z)
          have z_3 : ¬ (r_165 : Int32).toInt = (0 : Int32).toInt := fun z => c_184 (Int32.toInt_inj.mp z)
          have y_0 : (0 : Int32).toInt = 0 := by decide
          refine vp_in_iff.mpr ⟨?_, ?_⟩ <;> omega
        refine st_int hx hb hK hP hD hS 1 0 rfl rfl hi_211 dX12_isBuyHere_139 (fun g_212 H locs eg_212 hP₀ hD₀ hS₀ => ?_)
        replace hP : va_P D classes [((Ma 4), .inl (tc 0, 288, .inl g_193)), ((Ma 5), .inl (tc 0, 6, .inl g_212)), ((Ma 0), .inr (12, [.ref (Ma 1), .int (Mv 0), .int (Mv 1), .ref (Ma 2), .ref (Ma 3), .ref (Ma 4), .ref (Ma 5), .ref (Ma 6), .int sv_153, .int sv_154, .int sv_155, .int (Mv 5), .int sv_156, .int sv_157, .int (Mv 8), .ref (Ma 7), .int sv_158, .ref (Ma 8), .int (Mv 10), .ref (Ma 9), .ref (Ma 10), .int (Mv 11), .int (Mv 12), .int (Mv 13), .ref (Ma 11), .int (Mv 14), .ref (Ma 12), .ref (Ma 13), .ref (Ma 14), .ref (Ma 15), .ref (Ma 16), .long (Mj 0), .ref (Ma 17), .ref (Ma 18), .ref (Ma 19), .ref (Ma 20)])), ((Ma 1), .inl (tc 2, 400, .inl (Mf 1))), ((Ma 2), .inl (tc 0, 2400, .inl sv_159)), ((Ma 3), .inl (tc 0, 7, .inl sv_160)), ((Ma 7), .inl (tc 0, 400, .inl sv_161))] H := hP₀
        replace hD : va_D A [((Ma 4), .inl (tc 0, 288, .inl g_193)), ((Ma 5), .inl (tc 0, 6, .inl g_212)), ((Ma 0), .inr (12, [.ref (Ma 1), .int (Mv 0), .int (Mv 1), .ref (Ma 2), .ref (Ma 3), .ref (Ma 4), .ref (Ma 5), .ref (Ma 6), .int sv_153, .int sv_154, .int sv_155, .int (Mv 5), .int sv_156, .int sv_157, .int (Mv 8), .ref (Ma 7), .int sv_158, .ref (Ma 8), .int (Mv 10), .ref (Ma 9), .ref (Ma 10), .int (Mv 11), .int (Mv 12), .int (Mv 13), .ref (Ma 11), .int (Mv 14), .ref (Ma 12), .ref (Ma 13), .ref (Ma 14), .ref (Ma 15), .ref (Ma 16), .long (Mj 0), .ref (Ma 17), .ref (Ma 18), .ref (Ma 19), .ref (Ma 20)])), ((Ma 1), .inl (tc 2, 400, .inl (Mf 1))), ((Ma 2), .inl (tc 0, 2400, .inl sv_159)), ((Ma 3), .inl (tc 0, 7, .inl sv_160)), ((Ma 7), .inl (tc 0, 400, .inl sv_161))] := hD₀
        replace hS := hS₀
        clear hP₀ hD₀ hS₀
        have hr_213 : (((Mf 3) (Mv 5).toNatClampNeg).toInt) ≤ ((sv_160 (Mv 5).toNatClampNeg).toInt) := by
          have z_1 : ¬ (r_38 : Int32).toInt = (0 : Int32).toInt := fun z => c_47 (Int32.toInt_inj.mp z)
          have z_2 : ¬ (r_84 : Int32).toInt = (0 : Int32).toInt := fun z => c_89 (Int32.toInt_inj.mp z)
          have z_3 : ¬ (r_165 : Int32).toInt = (0 : Int32).toInt := fun z => c_184 (Int32.toInt_inj.mp z)
          have y_0 : (0 : Int32).toInt = 0 := by decide
          omega
        have hy_214 : (x_210 : Int32).toInt = ((Mf 5) (Mv 5).toInt.toNat).toInt + 1 := by
          have z_1 : ¬ (r_38 : Int32).toInt = (0 : Int32).toInt := fun z => c_47 (Int32.toInt_inj.mp z)
          have z_2 : ¬ (r_84 : Int32).toInt = (0 : Int32).toInt := fun z => c_89 (Int32.toInt_inj.mp z)
          have z_3 : ¬ (r_165 : Int32).toInt = (0 : Int32).toInt := fun z => c_184 (Int32.toInt_inj.mp z)
          have y_0 : (0 : Int32).toInt = 0 := by decide
          have y_1 : (1 : Int32).toInt = 1 := by decide
          have t_x_210 : x_210.toInt = (x_209 : Int32).toInt + (1 : Int32).toInt := by rw [ex_210]; exact add_toInt (by omega) (by omega)
          omega
        have hw_215 : WFc sv_159 (Mv 5) (g_193 A0) (g_193 (A0 + 1)) := by
          have z0 : g_193 A0 = x_14 := pf_197
          have z1 : g_193 (A0 + 1) = x_53 := pf_201
          rw [z0, z1]
          exact pf_174
        have hb_216 : (g_193 (A0 + 1)).toInt ≤ ((sv_160 (Mv 5).toNatClampNeg).toInt) := by
          have z1 : g_193 (A0 + 1) = x_53 := pf_201
          rw [z1]
          have z_1 : ¬ (r_38 : Int32).toInt = (0 : Int32).toInt := fun z => c_47 (Int32.toInt_inj.mp z)
          have z_2 : ¬ (r_84 : Int32).toInt = (0 : Int32).toInt := fun z => c_89 (Int32.toInt_inj.mp z)
          have z_3 : ¬ (r_165 : Int32).toInt = (0 : Int32).toInt := fun z => c_184 (Int32.toInt_inj.mp z)
          have y_0 : (0 : Int32).toInt = 0 := by decide
          omega
        have hw_217 : 0 ≤ (g_193 (A0 + 2)).toInt → WFc sv_159 (Mv 5) (g_193 (A0 + 2)) (g_193 (A0 + 3)) ∧ (g_193 (A0 + 3)).toInt ≤ ((sv_160 (Mv 5).toNatClampNeg).toInt) := by
          have z2 : g_193 (A0 + 2) = x_129 := pf_203
          have z3 : g_193 (A0 + 3) = x_190 := pf_207
          rw [z2, z3]
          refine fun _ => ⟨pf_191, ?_⟩
          have z_1 : ¬ (r_38 : Int32).toInt = (0 : Int32).toInt := fun z => c_47 (Int32.toInt_inj.mp z)
          have z_2 : ¬ (r_84 : Int32).toInt = (0 : Int32).toInt := fun z => c_89 (Int32.toInt_inj.mp z)
          have z_3 : ¬ (r_165 : Int32).toInt = (0 : Int32).toInt := fun z => c_184 (Int32.toInt_inj.mp z)
          have y_0 : (0 : Int32).toInt = 0 := by decide
          omega
        have pf_218 : RulP sv_159 g_193 g_212 (Mv 5) ((sv_160 (Mv 5).toNatClampNeg).toInt) := by
          subst hA0
          exact RulP.snoc (RulP.mono pf_205 hr_213) h_t.1 eg_212 hy_214 hw_215 hb_216 hw_217
        have ar_pf_218 := pf_218.2.1
        have kc_g_212 : (g_212 (Mv 5).toInt.toNat).toInt = (x_210 : Int32).toInt := upd_toInt_at eg_212
        refine lv_iconst (v := 1) hx hb dX12_isBuyHere_140 (by decide) ?_
        have ha_219 : ((Mv 2) : Int32).toInt ≤ (sv_153 : Int32).toInt ∧ (sv_153 : Int32).toInt ≤ ((Mv 0) : Int32).toInt := by
          have z_1 : ¬ (r_38 : Int32).toInt = (0 : Int32).toInt := fun z => c_47 (Int32.toInt_inj.mp z)
          have z_2 : ¬ (r_84 : Int32).toInt = (0 : Int32).toInt := fun z => c_89 (Int32.toInt_inj.mp z)
          have z_3 : ¬ (r_165 : Int32).toInt = (0 : Int32).toInt := fun z => c_184 (Int32.toInt_inj.mp z)
          have y_0 : (0 : Int32).toInt = 0 := by decide
          omega
        have ha_220 : ((Mv 6) : Int32).toInt ≤ (sv_156 : Int32).toInt ∧ (sv_156 : Int32).toInt ≤ 60 := by
          have z_1 : ¬ (r_38 : Int32).toInt = (0 : Int32).toInt := fun z => c_47 (Int32.toInt_inj.mp z)
          have z_2 : ¬ (r_84 : Int32).toInt = (0 : Int32).toInt := fun z => c_89 (Int32.toInt_inj.mp z)
          have z_3 : ¬ (r_165 : Int32).toInt = (0 : Int32).toInt := fun z => c_184 (Int32.toInt_inj.mp z)
          have y_0 : (0 : Int32).toInt = 0 := by decide
          omega
        have hp_221 : (((1 : Int32).toInt = 0 ∧ ¬ (sv_154 : Int32).toInt = 0) ∨ ((1 : Int32).toInt = 1 ∧ 0 ≤ (sv_160 (Mv 5).toNatClampNeg).toInt ∧ (sv_160 (Mv 5).toNatClampNeg).toInt ≤ (sv_153 : Int32).toInt ∧ (g_212 (Mv 5).toInt.toNat).toInt = ((Mf 5) (Mv 5).toInt.toNat).toInt + 1 ∧ (sv_154 : Int32).toInt = 0)) := by
          have z_1 : ¬ (r_38 : Int32).toInt = (0 : Int32).toInt := fun z => c_47 (Int32.toInt_inj.mp z)
          have z_2 : ¬ (r_84 : Int32).toInt = (0 : Int32).toInt := fun z => c_89 (Int32.toInt_inj.mp z)
          have z_3 : ¬ (r_165 : Int32).toInt = (0 : Int32).toInt := fun z => c_184 (Int32.toInt_inj.mp z)
          have y_0 : (0 : Int32).toInt = 0 := by decide
          have y_1 : (1 : Int32).toInt = 1 := by decide
          have yr : (1 : Int32).toInt = 1 := by decide
          omega
        have hm_222 : (1 : Int32).toInt = 1 → (RulP sv_159 g_193 g_212 (Mv 5) ((sv_160 (Mv 5).toNatClampNeg).toInt)) ∧ (RfO (BuR (rB (Mf 1) (Mv 0)) (Mv 2) (Mv 6)) (rB (Mf 1) (Mv 0)) sv_154 sv_153 sv_156) := by
          intro h1r
          exact ⟨pf_218, (RfO.eq (BuR.if (by decide) h_nx.1 h_bw pf_7 pf_49 pf_125) pf_186)⟩
        exact retI (v := 1) hx hb hr hlk (rfl) hP hD hS (sv_153, sv_154, sv_155, sv_156, sv_157, sv_158, sv_159, sv_160, g_193, g_212, sv_161) ⟨_, rfl, hp_221, ha_219, ha_220, pf_218.1, hm_222, (fun h => absurd h (by decide))⟩ [2, 3, 4, 5, 0, 1, 6] rfl rfl dX12_isBuyHere_141 (Nat.le_of_ble_eq_true rfl) (Nat.le_of_ble_eq_true rfl) rfl
      · skip
        have hz_224 : (r_165 : Int32).toInt = 0 := by
          have z_1 : ¬ (r_38 : Int32).toInt = (0 : Int32).toInt := fun z => c_47 (Int32.toInt_inj.mp z)
          have z_2 : ¬ (r_84 : Int32).toInt = (0 : Int32).toInt := fun z => c_89 (Int32.toInt_inj.mp z)
          have z_3 := congrArg Int32.toInt c_184
          have y_0 : (0 : Int32).toInt = 0 := by decide
          omega
        obtain pf_223 := hm_169 hz_224
        have pf_223 : RfE (pz_tst (rB (Mf 1) (Mv 0)) (pz_fact (rB (Mf 1) (Mv 0)) 10) (St0 (rB (Mf 1) (Mv 0)) sv_82 sv_32)) sv_154 := pf_223
        refine lv_iconst (v := 0) hx hb dX12_isBuyHere_108 (by decide) ?_
        have ha_225 : ((Mv 2) : Int32).toInt ≤ (sv_153 : Int32).toInt ∧ (sv_153 : Int32).toInt ≤ ((Mv 0) : Int32).toInt := by
          have z_1 : ¬ (r_38 : Int32).toInt = (0 : Int32).toInt := fun z => c_47 (Int32.toInt_inj.mp z)
          have z_2 : ¬ (r_84 : Int32).toInt = (0 : Int32).toInt := fun z => c_89 (Int32.toInt_inj.mp z)
          have z_3 := congrArg Int32.toInt c_184
          have y_0 : (0 : Int32).toInt = 0 := by decide
          omega
        have ha_226 : ((Mv 6) : Int32).toInt ≤ (sv_156 : Int32).toInt ∧ (sv_156 : Int32).toInt ≤ 60 := by
          have z_1 : ¬ (r_38 : Int32).toInt = (0 : Int32).toInt := fun z => c_47 (Int32.toInt_inj.mp z)
          have z_2 : ¬ (r_84 : Int32).toInt = (0 : Int32).toInt := fun z => c_89 (Int32.toInt_inj.mp z)
          have z_3 := congrArg Int32.toInt c_184
          have y_0 : (0 : Int32).toInt = 0 := by decide
          omega
        have hp_227 : (((0 : Int32).toInt = 0 ∧ ¬ (sv_154 : Int32).toInt = 0) ∨ ((0 : Int32).toInt = 1 ∧ 0 ≤ (sv_160 (Mv 5).toNatClampNeg).toInt ∧ (sv_160 (Mv 5).toNatClampNeg).toInt ≤ (sv_153 : Int32).toInt ∧ ((Mf 5) (Mv 5).toInt.toNat).toInt = ((Mf 5) (Mv 5).toInt.toNat).toInt + 1 ∧ (sv_154 : Int32).toInt = 0)) := by
          have z_1 : ¬ (r_38 : Int32).toInt = (0 : Int32).toInt := fun z => c_47 (Int32.toInt_inj.mp z)
          have z_2 : ¬ (r_84 : Int32).toInt = (0 : Int32).toInt := fun z => c_89 (Int32.toInt_inj.mp z)
          have z_3 := congrArg Int32.toInt c_184
          have y_0 : (0 : Int32).toInt = 0 := by decide
          omega
        have hm_228 : (0 : Int32).toInt = 0 → (RfE (BuR (rB (Mf 1) (Mv 0)) (Mv 2) (Mv 6)) sv_154) := by
          intro h1r
          exact (RfE.eq (BuR.if (by decide) h_nx.1 h_bw pf_7 pf_49 pf_125) pf_223)
        exact retI (v := 0) hx hb hr hlk (rfl) hP hD hS (sv_153, sv_154, sv_155, sv_156, sv_157, sv_158, sv_159, sv_160, g_132, (Mf 5), sv_161) ⟨_, rfl, hp_227, ha_225, ha_226, pf_182.1, (fun h => absurd h (by decide)), hm_228⟩ [2, 3, 4, 5, 0, 1, 6] rfl rfl dX12_isBuyHere_109 (Nat.le_of_ble_eq_true rfl) (Nat.le_of_ble_eq_true rfl) rfl
  · skip
    have hz_230 : (r_38 : Int32).toInt = 0 := by
      have z_1 := congrArg Int32.toInt c_47
      have y_0 : (0 : Int32).toInt = 0 := by decide
      omega
    obtain pf_229 := hm_42 hz_230
    have pf_229 : RfE (pz_sum (rB (Mf 1) (Mv 0)) (St0 (rB (Mf 1) (Mv 0)) sv_4 (Mv 6))) sv_30 := pf_229
    refine lv_iconst (v := 0) hx hb dX12_isBuyHere_46 (by decide) ?_
    have ha_231 : ((Mv 2) : Int32).toInt ≤ (sv_29 : Int32).toInt ∧ (sv_29 : Int32).toInt ≤ ((Mv 0) : Int32).toInt := by
      have z_1 := congrArg Int32.toInt c_47
      have y_0 : (0 : Int32).toInt = 0 := by decide
      omega
    have hp_232 : (((0 : Int32).toInt = 0 ∧ ¬ (sv_30 : Int32).toInt = 0) ∨ ((0 : Int32).toInt = 1 ∧ 0 ≤ (sv_34 (Mv 5).toNatClampNeg).toInt ∧ (sv_34 (Mv 5).toNatClampNeg).toInt ≤ (sv_29 : Int32).toInt ∧ ((Mf 5) (Mv 5).toInt.toNat).toInt = ((Mf 5) (Mv 5).toInt.toNat).toInt + 1 ∧ (sv_30 : Int32).toInt = 0)) := by
      have z_1 := congrArg Int32.toInt c_47
      have y_0 : (0 : Int32).toInt = 0 := by decide
      omega
    have hm_233 : (0 : Int32).toInt = 0 → (RfE (BuR (rB (Mf 1) (Mv 0)) (Mv 2) (Mv 6)) sv_30) := by
      intro h1r
      exact (BuR.er h_nx.1 h_bw pf_7 pf_229)
    exact retI (v := 0) hx hb hr hlk (rfl) hP hD hS (sv_29, sv_30, sv_31, sv_32, (Mv 7), (Mv 9), sv_33, sv_34, g_16, (Mf 5), (Mf 7)) ⟨_, rfl, hp_232, ha_231, pf_36, pf_45.1, (fun h => absurd h (by decide)), hm_233⟩ [3, 4, 5, 6, 0, 1, 2] rfl rfl dX12_isBuyHere_47 (Nat.le_of_ble_eq_true rfl) (Nat.le_of_ble_eq_true rfl) rfl
set_option maxRecDepth 100000 in
theorem cu_fX12_isBuyHere (l : Launch) (D : va_G) (tc : Nat → ClassId) (sk : (Nat → Nat) × (Nat → Nat)) (Ma_0 : Nat) (Ma_1 : Nat) (Ma_2 : Nat) (Ma_3 : Nat) (Ma_4 : Nat) (Ma_5 : Nat) (Ma_6 : Nat) (Ma_7 : Nat) (Ma_8 : Nat) (Ma_9 : Nat) (Ma_10 : Nat) (Ma_11 : Nat) (Ma_12 : Nat) (Ma_13 : Nat) (Ma_14 : Nat) (Ma_15 : Nat) (Ma_16 : Nat) (Ma_17 : Nat) (Ma_18 : Nat) (Ma_19 : Nat) (Ma_20 : Nat) (Mv_0 : Int32) (Mv_1 : Int32) (Mv_2 : Int32) (Mv_3 : Int32) (Mv_4 : Int32) (Mv_5 : Int32) (Mv_6 : Int32) (Mv_7 : Int32) (Mv_8 : Int32) (Mv_9 : Int32) (Mv_10 : Int32) (Mv_11 : Int32) (Mv_12 : Int32) (Mv_13 : Int32) (Mv_14 : Int32) (Mf_1 : Nat → Int32) (Mf_2 : Nat → Int32) (Mf_3 : Nat → Int32) (Mf_4 : Nat → Int32) (Mf_5 : Nat → Int32) (Mf_7 : Nat → Int32) (Mj_0 : Int64) (h_nx : 0 ≤ (Mv_2 : Int32).toInt ∧ (Mv_2 : Int32).toInt ≤ (Mv_0 : Int32).toInt ∧ (Mv_0 : Int32).toInt ≤ 400) (h_md : 0 ≤ (Mv_6 : Int32).toInt ∧ (Mv_6 : Int32).toInt ≤ 60) (h_t : 0 ≤ (Mv_5 : Int32).toInt ∧ (Mv_5 : Int32).toInt ≤ 5) (h_L : 0 ≤ (Mf_3 Mv_5.toNatClampNeg).toInt ∧ (Mf_3 Mv_5.toNatClampNeg).toInt ≤ (Mv_2 : Int32).toInt) (h_rp : RulP Mf_2 Mf_4 Mf_5 Mv_5 ((Mf_3 Mv_5.toNatClampNeg).toInt)) (h_c : (Mf_5 Mv_5.toInt.toNat).toInt + 1 = (Mv_8 : Int32).toInt ∧ (Mv_8 : Int32).toInt ≤ 12) (h_bs : ByS Mf_1) (h_w : (Mv_3 : Int32).toInt = 0) (h_bw : BwH (rB Mf_1 Mv_0) Mv_2) : Ct l yX12_isBuyHere cX12_isBuyHere 2 (some .boolean) { frames := 9, cells := 0, slots := 0, locals := 198 } D tc sk [.ref Ma_0] [(Ma_0, .inr (12, [.ref Ma_1, .int Mv_0, .int Mv_1, .ref Ma_2, .ref Ma_3, .ref Ma_4, .ref Ma_5, .ref Ma_6, .int Mv_2, .int Mv_3, .int Mv_4, .int Mv_5, .int Mv_6, .int Mv_7, .int Mv_8, .ref Ma_7, .int Mv_9, .ref Ma_8, .int Mv_10, .ref Ma_9, .ref Ma_10, .int Mv_11, .int Mv_12, .int Mv_13, .ref Ma_11, .int Mv_14, .ref Ma_12, .ref Ma_13, .ref Ma_14, .ref Ma_15, .ref Ma_16, .long Mj_0, .ref Ma_17, .ref Ma_18, .ref Ma_19, .ref Ma_20])), (Ma_1, .inl (tc 2, 400, .inl Mf_1)), (Ma_2, .inl (tc 0, 2400, .inl Mf_2)), (Ma_3, .inl (tc 0, 7, .inl Mf_3)), (Ma_4, .inl (tc 0, 288, .inl Mf_4)), (Ma_5, .inl (tc 0, 6, .inl Mf_5)), (Ma_7, .inl (tc 0, 400, .inl Mf_7))] (fun (v : Option Value) (u : (Int32) × (Int32) × (Int32) × (Int32) × (Int32) × (Int32) × (Nat → Int32) × (Nat → Int32) × (Nat → Int32) × (Nat → Int32) × (Nat → Int32)) => match u with | (oo0x1, oo0x2, oo0x3, oo0x4, oo0x5, oo0x6, oo0x7, oo0x8, oo0x9, oo0x10, oo0x11) => ∃ r : Int32, v = some (.int r) ∧ (((r.toInt = 0 ∧ ¬ (oo0x2 : Int32).toInt = 0) ∨ (r.toInt = 1 ∧ 0 ≤ (oo0x8 Mv_5.toNatClampNeg).toInt ∧ (oo0x8 Mv_5.toNatClampNeg).toInt ≤ (oo0x1 : Int32).toInt ∧ (oo0x10 Mv_5.toInt.toNat).toInt = (Mf_5 Mv_5.toInt.toNat).toInt + 1 ∧ (oo0x2 : Int32).toInt = 0))) ∧ ((Mv_2 : Int32).toInt ≤ (oo0x1 : Int32).toInt ∧ (oo0x1 : Int32).toInt ≤ (Mv_0 : Int32).toInt) ∧ ((Mv_6 : Int32).toInt ≤ (oo0x4 : Int32).toInt ∧ (oo0x4 : Int32).toInt ≤ 60) ∧ (RulD oo0x7 oo0x9 oo0x10 Mv_5) ∧ (r.toInt = 1 → (RulP oo0x7 oo0x9 oo0x10 Mv_5 ((oo0x8 Mv_5.toNatClampNeg).toInt)) ∧ (RfO (BuR (rB Mf_1 Mv_0) Mv_2 Mv_6) (rB Mf_1 Mv_0) oo0x2 oo0x1 oo0x4)) ∧ (r.toInt = 0 → (RfE (BuR (rB Mf_1 Mv_0) Mv_2 Mv_6) oo0x2))) (fun (u : (Int32) × (Int32) × (Int32) × (Int32) × (Int32) × (Int32) × (Nat → Int32) × (Nat → Int32) × (Nat → Int32) × (Nat → Int32) × (Nat → Int32)) => match u with | (oo0x1, oo0x2, oo0x3, oo0x4, oo0x5, oo0x6, oo0x7, oo0x8, oo0x9, oo0x10, oo0x11) => [(Ma_0, .inr (12, [.ref Ma_1, .int Mv_0, .int Mv_1, .ref Ma_2, .ref Ma_3, .ref Ma_4, .ref Ma_5, .ref Ma_6, .int oo0x1, .int oo0x2, .int oo0x3, .int Mv_5, .int oo0x4, .int oo0x5, .int Mv_8, .ref Ma_7, .int oo0x6, .ref Ma_8, .int Mv_10, .ref Ma_9, .ref Ma_10, .int Mv_11, .int Mv_12, .int Mv_13, .ref Ma_11, .int Mv_14, .ref Ma_12, .ref Ma_13, .ref Ma_14, .ref Ma_15, .ref Ma_16, .long Mj_0, .ref Ma_17, .ref Ma_18, .ref Ma_19, .ref Ma_20])), (Ma_1, .inl (tc 2, 400, .inl Mf_1)), (Ma_2, .inl (tc 0, 2400, .inl oo0x7)), (Ma_3, .inl (tc 0, 7, .inl oo0x8)), (Ma_4, .inl (tc 0, 288, .inl oo0x9)), (Ma_5, .inl (tc 0, 6, .inl oo0x10)), (Ma_7, .inl (tc 0, 400, .inl oo0x11))]) 0 0 :=
  ct_fX12_isBuyHere l D tc sk (fun k => ([Ma_0, Ma_1, Ma_2, Ma_3, Ma_4, Ma_5, Ma_6, Ma_7, Ma_8, Ma_9, Ma_10, Ma_11, Ma_12, Ma_13, Ma_14, Ma_15, Ma_16, Ma_17, Ma_18, Ma_19, Ma_20] : List (Nat)).getD k 0) (fun k => ([Mv_0, Mv_1, Mv_2, Mv_3, Mv_4, Mv_5, Mv_6, Mv_7, Mv_8, Mv_9, Mv_10, Mv_11, Mv_12, Mv_13, Mv_14] : List (Int32)).getD k 0) (fun k => ([(fun _ => 0), Mf_1, Mf_2, Mf_3, Mf_4, Mf_5, (fun _ => 0), Mf_7] : List (Nat → Int32)).getD k (fun _ => 0)) (fun k => ([Mj_0] : List (Int64)).getD k 0) h_nx h_md h_t h_L h_rp h_c h_bs h_w h_bw
set_option maxHeartbeats 4000000 in
set_option maxRecDepth 100000 in
theorem ct_fX12_clauseHere_r (l : Launch) (D : va_G) (tc : Nat → ClassId) (sk : (Nat → Nat) × (Nat → Nat)) (Ma : Nat → Nat) (Mv : Nat → Int32) (Mf : Nat → Nat → Int32) (Mj : Nat → Int64) (h_nx : 0 ≤ ((Mv 2) : Int32).toInt ∧ ((Mv 2) : Int32).toInt ≤ ((Mv 0) : Int32).toInt ∧ ((Mv 0) : Int32).toInt ≤ 400) (h_md : 0 ≤ ((Mv 6) : Int32).toInt ∧ ((Mv 6) : Int32).toInt ≤ 60) (h_t : 0 ≤ ((Mv 5) : Int32).toInt ∧ ((Mv 5) : Int32).toInt ≤ 5) (h_L : 0 ≤ ((Mf 3) (Mv 5).toNatClampNeg).toInt ∧ ((Mf 3) (Mv 5).toNatClampNeg).toInt ≤ ((Mv 2) : Int32).toInt) (h_rp : RulP (Mf 2) (Mf 4) (Mf 5) (Mv 5) (((Mf 3) (Mv 5).toNatClampNeg).toInt)) (h_c : ((Mf 5) (Mv 5).toInt.toNat).toInt = ((Mv 8) : Int32).toInt ∧ 0 ≤ ((Mv 8) : Int32).toInt ∧ ((Mv 8) : Int32).toInt ≤ 12) (h_bs : ByS (Mf 1)) (h_w : ((Mv 3) : Int32).toInt = 0) : Ct l yX12_clauseHere cX12_clauseHere 3 (some .boolean) { frames := 10, cells := 0, slots := 0, locals := 219 } D tc sk [.ref (Ma 0)] [((Ma 0), .inr (12, [.ref (Ma 1), .int (Mv 0), .int (Mv 1), .ref (Ma 2), .ref (Ma 3), .ref (Ma 4), .ref (Ma 5), .ref (Ma 6), .int (Mv 2), .int (Mv 3), .int (Mv 4), .int (Mv 5), .int (Mv 6), .int (Mv 7), .int (Mv 8), .ref (Ma 7), .int (Mv 9), .ref (Ma 8), .int (Mv 10), .ref (Ma 9), .ref (Ma 10), .int (Mv 11), .int (Mv 12), .int (Mv 13), .ref (Ma 11), .int (Mv 14), .ref (Ma 12), .ref (Ma 13), .ref (Ma 14), .ref (Ma 15), .ref (Ma 16), .long (Mj 0), .ref (Ma 17), .ref (Ma 18), .ref (Ma 19), .ref (Ma 20)])), ((Ma 1), .inl (tc 2, 400, .inl (Mf 1))), ((Ma 2), .inl (tc 0, 2400, .inl (Mf 2))), ((Ma 3), .inl (tc 0, 7, .inl (Mf 3))), ((Ma 4), .inl (tc 0, 288, .inl (Mf 4))), ((Ma 5), .inl (tc 0, 6, .inl (Mf 5))), ((Ma 7), .inl (tc 0, 400, .inl (Mf 7)))] (fun (v : Option Value) (u : (Int32) × (Int32) × (Int32) × (Int32) × (Int32) × (Int32) × (Int32) × (Nat → Int32) × (Nat → Int32) × (Nat → Int32) × (Nat → Int32) × (Nat → Int32)) => match u with | (oo0x1, oo0x2, oo0x3, oo0x4, oo0x5, oo0x6, oo0x7, oo0x8, oo0x9, oo0x10, oo0x11, oo0x12) => ∃ r : Int32, v = some (.int r) ∧ (((r.toInt = 0 ∧ ¬ (oo0x2 : Int32).toInt = 0) ∨ (r.toInt = 1 ∧ 0 ≤ (oo0x9 (Mv 5).toNatClampNeg).toInt ∧ (oo0x9 (Mv 5).toNatClampNeg).toInt ≤ (oo0x1 : Int32).toInt ∧ (oo0x11 (Mv 5).toInt.toNat).toInt = (oo0x6 : Int32).toInt ∧ 0 ≤ (oo0x6 : Int32).toInt ∧ (oo0x6 : Int32).toInt ≤ 12 ∧ (oo0x6 : Int32).toInt = (Mv 8).toInt + 1 ∧ (oo0x2 : Int32).toInt = 0))) ∧ (((Mv 2) : Int32).toInt ≤ (oo0x1 : Int32).toInt ∧ (oo0x1 : Int32).toInt ≤ ((Mv 0) : Int32).toInt) ∧ (((Mv 6) : Int32).toInt ≤ (oo0x4 : Int32).toInt ∧ (oo0x4 : Int32).toInt ≤ 60) ∧ (RulD oo0x8 oo0x10 oo0x11 (Mv 5)) ∧ (r.toInt = 1 → (RulP oo0x8 oo0x10 oo0x11 (Mv 5) ((oo0x9 (Mv 5).toNatClampNeg).toInt)) ∧ (RfO (pz_cla (rB (Mf 1) (Mv 0)) (Mv 8).toInt.toNat (St0 (rB (Mf 1) (Mv 0)) (Mv 2) (Mv 6))) (rB (Mf 1) (Mv 0)) oo0x2 oo0x1 oo0x4)) ∧ (r.toInt = 0 → (RfE (pz_cla (rB (Mf 1) (Mv 0)) (Mv 8).toInt.toNat (St0 (rB (Mf 1) (Mv 0)) (Mv 2) (Mv 6))) oo0x2))) (fun (u : (Int32) × (Int32) × (Int32) × (Int32) × (Int32) × (Int32) × (Int32) × (Nat → Int32) × (Nat → Int32) × (Nat → Int32) × (Nat → Int32) × (Nat → Int32)) => match u with | (oo0x1, oo0x2, oo0x3, oo0x4, oo0x5, oo0x6, oo0x7, oo0x8, oo0x9, oo0x10, oo0x11, oo0x12) => [((Ma 0), .inr (12, [.ref (Ma 1), .int (Mv 0), .int (Mv 1), .ref (Ma 2), .ref (Ma 3), .ref (Ma 4), .ref (Ma 5), .ref (Ma 6), .int oo0x1, .int oo0x2, .int oo0x3, .int (Mv 5), .int oo0x4, .int oo0x5, .int oo0x6, .ref (Ma 7), .int oo0x7, .ref (Ma 8), .int (Mv 10), .ref (Ma 9), .ref (Ma 10), .int (Mv 11), .int (Mv 12), .int (Mv 13), .ref (Ma 11), .int (Mv 14), .ref (Ma 12), .ref (Ma 13), .ref (Ma 14), .ref (Ma 15), .ref (Ma 16), .long (Mj 0), .ref (Ma 17), .ref (Ma 18), .ref (Ma 19), .ref (Ma 20)])), ((Ma 1), .inl (tc 2, 400, .inl (Mf 1))), ((Ma 2), .inl (tc 0, 2400, .inl oo0x8)), ((Ma 3), .inl (tc 0, 7, .inl oo0x9)), ((Ma 4), .inl (tc 0, 288, .inl oo0x10)), ((Ma 5), .inl (tc 0, 6, .inl oo0x11)), ((Ma 7), .inl (tc 0, 400, .inl oo0x12))]) 0 0 := by
  refine Ct.start (by decide) (Nat.le_of_ble_eq_true rfl) (fun p e s m below meth c A ls hx hb hr hlk hin hml hown hts hK hX hP hD hA hl hS => ?_)
  have hl : lv_has ls 3 [(0, .ref (Ma 0))] := hl
  have ar_h_rp := h_rp.2.1
  refine lv_aload_n hx hb dX12_clauseHere_0 rfl (lv_at hl 0 rfl) ?_
  refine cV (a := (Ma 0)) (As := []) (rest := []) (wr := [((Ma 2), .inl (tc 0, 2400, .inl (Mf 2))), ((Ma 3), .inl (tc 0, 7, .inl (Mf 3))), ((Ma 4), .inl (tc 0, 288, .inl (Mf 4))), ((Ma 5), .inl (tc 0, 6, .inl (Mf 5))), ((Ma 7), .inl (tc 0, 400, .inl (Mf 7)))]) ⟨hx, hb, hml, hown, hts⟩ hK hX hA (cu_fX12_see l D tc sk (Ma 0) (Ma 1) (Ma 2) (Ma 3) (Ma 4) (Ma 5) (Ma 6) (Ma 7) (Ma 8) (Ma 9) (Ma 10) (Ma 11) (Ma 12) (Ma 13) (Ma 14) (Ma 15) (Ma 16) (Ma 17) (Ma 18) (Ma 19) (Ma 20) (Mv 0) (Mv 1) (Mv 2) (Mv 3) (Mv 4) (Mv 5) (Mv 6) (Mv 7) (Mv 8) (Mv 9) (Mv 10) (Mv 11) (Mv 12) (Mv 13) (Mv 14) (Mf 1) (Mj 0) h_nx h_bs) k_1211 k_1208 k_1210 k_27 k_106 pl_X12_see ⟨Nat.le_of_ble_eq_true rfl, Nat.le_of_ble_eq_true rfl⟩ rfl rfl (va_recv hK hP (ci := 12) (q0 := 0) rfl rfl) hP hD hS [0, 1] [2, 3, 4, 5, 6] rfl rfl rfl rfl rfl (by decide) rfl hl.1 rfl (Nat.le_of_ble_eq_true rfl) dX12_clauseHere_1 ⟨Nat.le_of_ble_eq_true rfl, Nat.le_of_ble_eq_true rfl⟩ (fun v_1 u_2 H locs hv_3 hP₀ hD₀ hS₀ => ?_)
  obtain ⟨sv_4, rfl⟩ : ∃ z, z = u_2 := ⟨_, rfl⟩
  obtain ⟨r_9, rfl, he_10, pf_5, pf_6, pf_7, pf_8⟩ := hv_3
  have he_10 : (r_9.toInt = rB (Mf 1) (Mv 0) (sv_4 : Int32).toInt.toNat ∧ (r_9.toInt = -1 ∨ (sv_4 : Int32).toInt < (Mv 0).toInt)) := he_10
  have pf_5 : ((Mv 2) : Int32).toInt ≤ (sv_4 : Int32).toInt ∧ (sv_4 : Int32).toInt ≤ ((Mv 0) : Int32).toInt := pf_5
  have pf_6 : NSq (Mf 1) (Mv 0) sv_4 := pf_6
  have pf_7 : Stl (Mf 1) (Mv 0) (Mv 2) sv_4 := pf_7
  have pf_8 : SkR (rB (Mf 1) (Mv 0)) (Mv 2) sv_4 := pf_8
  refine W.eq (g2 := F0 m 4 ls [.int r_9]) rfl ?_
  replace hP : va_P D classes [((Ma 2), .inl (tc 0, 2400, .inl (Mf 2))), ((Ma 3), .inl (tc 0, 7, .inl (Mf 3))), ((Ma 4), .inl (tc 0, 288, .inl (Mf 4))), ((Ma 5), .inl (tc 0, 6, .inl (Mf 5))), ((Ma 7), .inl (tc 0, 400, .inl (Mf 7))), ((Ma 0), .inr (12, [.ref (Ma 1), .int (Mv 0), .int (Mv 1), .ref (Ma 2), .ref (Ma 3), .ref (Ma 4), .ref (Ma 5), .ref (Ma 6), .int sv_4, .int (Mv 3), .int (Mv 4), .int (Mv 5), .int (Mv 6), .int (Mv 7), .int (Mv 8), .ref (Ma 7), .int (Mv 9), .ref (Ma 8), .int (Mv 10), .ref (Ma 9), .ref (Ma 10), .int (Mv 11), .int (Mv 12), .int (Mv 13), .ref (Ma 11), .int (Mv 14), .ref (Ma 12), .ref (Ma 13), .ref (Ma 14), .ref (Ma 15), .ref (Ma 16), .long (Mj 0), .ref (Ma 17), .ref (Ma 18), .ref (Ma 19), .ref (Ma 20)])), ((Ma 1), .inl (tc 2, 400, .inl (Mf 1)))] H := hP₀
  replace hD : va_D A [((Ma 2), .inl (tc 0, 2400, .inl (Mf 2))), ((Ma 3), .inl (tc 0, 7, .inl (Mf 3))), ((Ma 4), .inl (tc 0, 288, .inl (Mf 4))), ((Ma 5), .inl (tc 0, 6, .inl (Mf 5))), ((Ma 7), .inl (tc 0, 400, .inl (Mf 7))), ((Ma 0), .inr (12, [.ref (Ma 1), .int (Mv 0), .int (Mv 1), .ref (Ma 2), .ref (Ma 3), .ref (Ma 4), .ref (Ma 5), .ref (Ma 6), .int sv_4, .int (Mv 3), .int (Mv 4), .int (Mv 5), .int (Mv 6), .int (Mv 7), .int (Mv 8), .ref (Ma 7), .int (Mv 9), .ref (Ma 8), .int (Mv 10), .ref (Ma 9), .ref (Ma 10), .int (Mv 11), .int (Mv 12), .int (Mv 13), .ref (Ma 11), .int (Mv 14), .ref (Ma 12), .ref (Ma 13), .ref (Ma 14), .ref (Ma 15), .ref (Ma 16), .long (Mj 0), .ref (Ma 17), .ref (Ma 18), .ref (Ma 19), .ref (Ma 20)])), ((Ma 1), .inl (tc 2, 400, .inl (Mf 1)))] := hD₀
  replace hS := hS₀
  clear hP₀ hD₀ hS₀
  refine lv_pop hx hb dX12_clauseHere_4 rfl ?_
  refine lv_aload_n hx hb dX12_clauseHere_5 rfl (lv_at hl 0 rfl) ?_
  refine gf_X12_87 hx hb hts hown hK hP 5 rfl rfl dX12_clauseHere_6 ?_
  refine lv_istore_n (lv' := [(1, .int sv_4), (0, .ref (Ma 0))]) hx hb dX12_clauseHere_9 rfl hl (by decide) rfl (fun ls hl₀ => ?_)
  replace hl := hl₀
  clear hl₀
  refine lv_aload_n hx hb dX12_clauseHere_10 rfl (lv_at hl 1 rfl) ?_
  refine gf_X12_145 hx hb hts hown hK hP 5 rfl rfl dX12_clauseHere_11 ?_
  refine lv_bipush (v := 6) hx hb dX12_clauseHere_14 (by decide) ?_
  refine lv_icmp_ne (tgt := 23) hx hb dX12_clauseHere_16 (by decide) (fun c_12 => ?_) (fun c_12 => ?_)
  · skip
    refine lv_iconst (v := 0) hx hb dX12_clauseHere_23 (by decide) ?_
    refine lv_istore_n (lv' := [(2, .int 0), (1, .int sv_4), (0, .ref (Ma 0))]) hx hb dX12_clauseHere_24 rfl hl (by decide) rfl (fun ls hl₀ => ?_)
    replace hl := hl₀
    clear hl₀
    refine lv_iload_n hx hb dX12_clauseHere_25 rfl (lv_at hl 0 rfl) ?_
    refine lv_if_eq (tgt := 39) hx hb dX12_clauseHere_26 (by decide) (fun c_13 => ?_) (fun c_13 => absurd c_13 (by decide))
    refine lv_aload_n hx hb dX12_clauseHere_39 rfl (lv_at hl 2 rfl) ?_
    refine lv_ldc2 hx hb hown (hts _ k_1228) dX12_clauseHere_40 ?_
    have ha_14 : 0 ≤ (sv_4 : Int32).toInt ∧ (sv_4 : Int32).toInt ≤ ((Mv 0) : Int32).toInt ∧ ((Mv 0) : Int32).toInt ≤ 400 := by
      have z_1 : ¬ ((Mv 5) : Int32).toInt = (6 : Int32).toInt := fun z => c_12 (Int32.toInt_inj.mp z)
      have y_6 : (6 : Int32).toInt = 6 := by decide
      omega
    refine cV (a := (Ma 0)) (As := [.long 6452601]) (rest := []) (wr := [((Ma 2), .inl (tc 0, 2400, .inl (Mf 2))), ((Ma 3), .inl (tc 0, 7, .inl (Mf 3))), ((Ma 4), .inl (tc 0, 288, .inl (Mf 4))), ((Ma 5), .inl (tc 0, 6, .inl (Mf 5))), ((Ma 7), .inl (tc 0, 400, .inl (Mf 7)))]) ⟨hx, hb, hml, hown, hts⟩ hK hX hA (cu_fX12_isWord l D tc sk (Ma 0) (Ma 1) (Ma 2) (Ma 3) (Ma 4) (Ma 5) (Ma 6) (Ma 7) (Ma 8) (Ma 9) (Ma 10) (Ma 11) (Ma 12) (Ma 13) (Ma 14) (Ma 15) (Ma 16) (Ma 17) (Ma 18) (Ma 19) (Ma 20) (Mv 0) (Mv 1) sv_4 (Mv 3) (Mv 4) (Mv 5) (Mv 6) (Mv 7) (Mv 8) (Mv 9) (Mv 10) (Mv 11) (Mv 12) (Mv 13) (Mv 14) (Mf 1) (Mj 0) 6452601 ha_14 h_bs) k_1220 k_1217 k_1219 k_29 k_106 pl_X12_isWord ⟨Nat.le_of_ble_eq_true rfl, Nat.le_of_ble_eq_true rfl⟩ rfl rfl (va_recv hK hP (ci := 12) (q0 := 5) rfl rfl) hP hD hS [5, 6] [0, 1, 2, 3, 4] rfl rfl rfl rfl rfl (by decide) rfl hl.1 rfl (Nat.le_of_ble_eq_true rfl) dX12_clauseHere_43 ⟨Nat.le_of_ble_eq_true rfl, Nat.le_of_ble_eq_true rfl⟩ (fun v_15 u_16 H locs hv_17 hP₀ hD₀ hS₀ => ?_)
    obtain ⟨sv_18, rfl⟩ : ∃ z, z = u_16 := ⟨_, rfl⟩
    obtain ⟨r_23, rfl, he_24, pf_19, pf_20, pf_21, pf_22, hm_26, hm_27⟩ := hv_17
    have he_24 : (r_23.toInt = 0 ∨ r_23.toInt = 1) := he_24
    have pf_19 : (sv_4 : Int32).toInt ≤ (sv_18 : Int32).toInt ∧ (sv_18 : Int32).toInt ≤ ((Mv 0) : Int32).toInt := pf_19
    have pf_20 : NSq (Mf 1) (Mv 0) sv_18 := pf_20
    have pf_21 : Stl (Mf 1) (Mv 0) sv_4 sv_18 := pf_21
    have ar_pf_21 := Stl.or pf_21 pf_6
    have pf_22 : SkR (rB (Mf 1) (Mv 0)) sv_4 sv_18 := pf_22
    refine W.eq (g2 := F0 m 46 ls [.int r_23]) rfl ?_
    replace hP : va_P D classes [((Ma 2), .inl (tc 0, 2400, .inl (Mf 2))), ((Ma 3), .inl (tc 0, 7, .inl (Mf 3))), ((Ma 4), .inl (tc 0, 288, .inl (Mf 4))), ((Ma 5), .inl (tc 0, 6, .inl (Mf 5))), ((Ma 7), .inl (tc 0, 400, .inl (Mf 7))), ((Ma 0), .inr (12, [.ref (Ma 1), .int (Mv 0), .int (Mv 1), .ref (Ma 2), .ref (Ma 3), .ref (Ma 4), .ref (Ma 5), .ref (Ma 6), .int sv_18, .int (Mv 3), .int (Mv 4), .int (Mv 5), .int (Mv 6), .int (Mv 7), .int (Mv 8), .ref (Ma 7), .int (Mv 9), .ref (Ma 8), .int (Mv 10), .ref (Ma 9), .ref (Ma 10), .int (Mv 11), .int (Mv 12), .int (Mv 13), .ref (Ma 11), .int (Mv 14), .ref (Ma 12), .ref (Ma 13), .ref (Ma 14), .ref (Ma 15), .ref (Ma 16), .long (Mj 0), .ref (Ma 17), .ref (Ma 18), .ref (Ma 19), .ref (Ma 20)])), ((Ma 1), .inl (tc 2, 400, .inl (Mf 1)))] H := hP₀
    replace hD : va_D A [((Ma 2), .inl (tc 0, 2400, .inl (Mf 2))), ((Ma 3), .inl (tc 0, 7, .inl (Mf 3))), ((Ma 4), .inl (tc 0, 288, .inl (Mf 4))), ((Ma 5), .inl (tc 0, 6, .inl (Mf 5))), ((Ma 7), .inl (tc 0, 400, .inl (Mf 7))), ((Ma 0), .inr (12, [.ref (Ma 1), .int (Mv 0), .int (Mv 1), .ref (Ma 2), .ref (Ma 3), .ref (Ma 4), .ref (Ma 5), .ref (Ma 6), .int sv_18, .int (Mv 3), .int (Mv 4), .int (Mv 5), .int (Mv 6), .int (Mv 7), .int (Mv 8), .ref (Ma 7), .int (Mv 9), .ref (Ma 8), .int (Mv 10), .ref (Ma 9), .ref (Ma 10), .int (Mv 11), .int (Mv 12), .int (Mv 13), .ref (Ma 11), .int (Mv 14), .ref (Ma 12), .ref (Ma 13), .ref (Ma 14), .ref (Ma 15), .ref (Ma 16), .long (Mj 0), .ref (Ma 17), .ref (Ma 18), .ref (Ma 19), .ref (Ma 20)])), ((Ma 1), .inl (tc 2, 400, .inl (Mf 1)))] := hD₀
    replace hS := hS₀
    clear hP₀ hD₀ hS₀
    have hE_28 := SkR.eqB pf_8 pf_22
    refine lv_if_ne (tgt := 56) hx hb dX12_clauseHere_46 (by decide) (fun c_29 => ?_) (fun c_29 => ?_)
    · skip
      have hz_32 : (r_23 : Int32).toInt = 1 := by
        have z_1 : ¬ ((Mv 5) : Int32).toInt = (6 : Int32).toInt := fun z => c_12 (Int32.toInt_inj.mp z)
        have z_2 : ¬ (r_23 : Int32).toInt = (0 : Int32).toInt := fun z => c_29 (Int32.toInt_inj.mp z)
        have y_0 : (0 : Int32).toInt = 0 := by decide
        have y_6 : (6 : Int32).toInt = 6 := by decide
        omega
      obtain ⟨pf_30, pf_31⟩ := hm_26 hz_32
      have pf_30 : Ltr (Mf 1) (Mv 0) sv_18 := pf_30
      have ar_pf_30 := pf_30.1
      have at_pf_30 : 97 ≤ ((Mf 1) (sv_18 : Int32).toInt.toNat).toInt ∧ ((Mf 1) (sv_18 : Int32).toInt.toNat).toInt ≤ 122 := pf_30.2
      have pf_31 : PkW (rB (Mf 1) (Mv 0)) ((sv_18 : Int32).toInt.toNat) (6452601 : Int64).toInt := pf_31
      refine lv_aload_n hx hb dX12_clauseHere_56 rfl (lv_at hl 2 rfl) ?_
      refine gf_X12_244 hx hb hts hown hK hP 5 rfl rfl dX12_clauseHere_57 ?_
      refine lv_iload_n hx hb dX12_clauseHere_60 rfl (lv_at hl 0 rfl) ?_
      refine lv_if_eq (tgt := 69) hx hb dX12_clauseHere_61 (by decide) (fun c_33 => ?_) (fun c_33 => absurd c_33 (by decide))
      refine lv_bipush (v := 12) hx hb dX12_clauseHere_69 (by decide) ?_
      refine lv_icmp_ne (tgt := 81) hx hb dX12_clauseHere_71 (by decide) (fun c_34 => ?_) (fun c_34 => ?_)
      · skip
        refine lv_aload_n hx hb dX12_clauseHere_81 rfl (lv_at hl 2 rfl) ?_
        refine lv_dup hx hb dX12_clauseHere_82 rfl ?_
        refine gf_X12_244 hx hb hts hown hK hP 5 rfl rfl dX12_clauseHere_83 ?_
        refine lv_iconst (v := 1) hx hb dX12_clauseHere_86 (by decide) ?_
        refine lv_iadd hx hb dX12_clauseHere_87 ?_
        refine lv_topi (fun x_35 ex_35 => ?_)
        refine pf_X12_244 hx hb hts hown hK hP hD hS 5 rfl (Nat.le_of_ble_eq_true rfl) rfl rfl dX12_clauseHere_88 (fun H locs hP₀ hD₀ hS₀ => ?_)
        replace hP : va_P D classes [((Ma 2), .inl (tc 0, 2400, .inl (Mf 2))), ((Ma 3), .inl (tc 0, 7, .inl (Mf 3))), ((Ma 4), .inl (tc 0, 288, .inl (Mf 4))), ((Ma 5), .inl (tc 0, 6, .inl (Mf 5))), ((Ma 7), .inl (tc 0, 400, .inl (Mf 7))), ((Ma 0), .inr (12, [.ref (Ma 1), .int (Mv 0), .int (Mv 1), .ref (Ma 2), .ref (Ma 3), .ref (Ma 4), .ref (Ma 5), .ref (Ma 6), .int sv_18, .int (Mv 3), .int (Mv 4), .int (Mv 5), .int (Mv 6), .int (Mv 7), .int x_35, .ref (Ma 7), .int (Mv 9), .ref (Ma 8), .int (Mv 10), .ref (Ma 9), .ref (Ma 10), .int (Mv 11), .int (Mv 12), .int (Mv 13), .ref (Ma 11), .int (Mv 14), .ref (Ma 12), .ref (Ma 13), .ref (Ma 14), .ref (Ma 15), .ref (Ma 16), .long (Mj 0), .ref (Ma 17), .ref (Ma 18), .ref (Ma 19), .ref (Ma 20)])), ((Ma 1), .inl (tc 2, 400, .inl (Mf 1)))] H := hP₀
        replace hD : va_D A [((Ma 2), .inl (tc 0, 2400, .inl (Mf 2))), ((Ma 3), .inl (tc 0, 7, .inl (Mf 3))), ((Ma 4), .inl (tc 0, 288, .inl (Mf 4))), ((Ma 5), .inl (tc 0, 6, .inl (Mf 5))), ((Ma 7), .inl (tc 0, 400, .inl (Mf 7))), ((Ma 0), .inr (12, [.ref (Ma 1), .int (Mv 0), .int (Mv 1), .ref (Ma 2), .ref (Ma 3), .ref (Ma 4), .ref (Ma 5), .ref (Ma 6), .int sv_18, .int (Mv 3), .int (Mv 4), .int (Mv 5), .int (Mv 6), .int (Mv 7), .int x_35, .ref (Ma 7), .int (Mv 9), .ref (Ma 8), .int (Mv 10), .ref (Ma 9), .ref (Ma 10), .int (Mv 11), .int (Mv 12), .int (Mv 13), .ref (Ma 11), .int (Mv 14), .ref (Ma 12), .ref (Ma 13), .ref (Ma 14), .ref (Ma 15), .ref (Ma 16), .long (Mj 0), .ref (Ma 17), .ref (Ma 18), .ref (Ma 19), .ref (Ma 20)])), ((Ma 1), .inl (tc 2, 400, .inl (Mf 1)))] := hD₀
        replace hS := hS₀
        clear hP₀ hD₀ hS₀
        have tp_x_35 : (x_35 : Int32).toInt = ((Mv 8) : Int32).toInt + 1 := by
          have z_1 : ¬ ((Mv 5) : Int32).toInt = (6 : Int32).toInt := fun z => c_12 (Int32.toInt_inj.mp z)
          have z_2 : ¬ (r_23 : Int32).toInt = (0 : Int32).toInt := fun z => c_29 (Int32.toInt_inj.mp z)
          have z_3 : ¬ ((Mv 8) : Int32).toInt = (12 : Int32).toInt := fun z => c_34 (Int32.toInt_inj.mp z)
          have y_0 : (0 : Int32).toInt = 0 := by decide
          have y_6 : (6 : Int32).toInt = 6 := by decide
          have y_12 : (12 : Int32).toInt = 12 := by decide
          have y_1 : (1 : Int32).toInt = 1 := by decide
          have t_x_35 : x_35.toInt = ((Mv 8) : Int32).toInt + (1 : Int32).toInt := by rw [ex_35]; exact add_toInt (by omega) (by omega)
          omega
        refine lv_iload_n hx hb dX12_clauseHere_91 rfl (lv_at hl 0 rfl) ?_
        refine lv_if_eq (tgt := 103) hx hb dX12_clauseHere_92 (by decide) (fun c_36 => ?_) (fun c_36 => absurd c_36 (by decide))
        refine lv_aload_n hx hb dX12_clauseHere_103 rfl (lv_at hl 2 rfl) ?_
        have ha_37 : 0 ≤ (sv_18 : Int32).toInt ∧ (sv_18 : Int32).toInt ≤ ((Mv 0) : Int32).toInt ∧ ((Mv 0) : Int32).toInt ≤ 400 := by
          have z_1 : ¬ ((Mv 5) : Int32).toInt = (6 : Int32).toInt := fun z => c_12 (Int32.toInt_inj.mp z)
          have z_2 : ¬ (r_23 : Int32).toInt = (0 : Int32).toInt := fun z => c_29 (Int32.toInt_inj.mp z)
          have z_3 : ¬ ((Mv 8) : Int32).toInt = (12 : Int32).toInt := fun z => c_34 (Int32.toInt_inj.mp z)
          have y_0 : (0 : Int32).toInt = 0 := by decide
          have y_6 : (6 : Int32).toInt = 6 := by decide
          have y_12 : (12 : Int32).toInt = 12 := by decide
          omega
        have ha_38 : 0 ≤ ((Mf 3) (Mv 5).toNatClampNeg).toInt ∧ ((Mf 3) (Mv 5).toNatClampNeg).toInt ≤ (sv_18 : Int32).toInt := by
          have z_1 : ¬ ((Mv 5) : Int32).toInt = (6 : Int32).toInt := fun z => c_12 (Int32.toInt_inj.mp z)
          have z_2 : ¬ (r_23 : Int32).toInt = (0 : Int32).toInt := fun z => c_29 (Int32.toInt_inj.mp z)
          have z_3 : ¬ ((Mv 8) : Int32).toInt = (12 : Int32).toInt := fun z => c_34 (Int32.toInt_inj.mp z)
          have y_0 : (0 : Int32).toInt = 0 := by decide
          have y_6 : (6 : Int32).toInt = 6 := by decide
          have y_12 : (12 : Int32).toInt = 12 := by decide
          omega
        have ha_39 : ((Mf 5) (Mv 5).toInt.toNat).toInt + 1 = (x_35 : Int32).toInt ∧ (x_35 : Int32).toInt ≤ 12 := by
          have z_1 : ¬ ((Mv 5) : Int32).toInt = (6 : Int32).toInt := fun z => c_12 (Int32.toInt_inj.mp z)
          have z_2 : ¬ (r_23 : Int32).toInt = (0 : Int32).toInt := fun z => c_29 (Int32.toInt_inj.mp z)
          have z_3 : ¬ ((Mv 8) : Int32).toInt = (12 : Int32).toInt := fun z => c_34 (Int32.toInt_inj.mp z)
          have y_0 : (0 : Int32).toInt = 0 := by decide
          have y_6 : (6 : Int32).toInt = 6 := by decide
          have y_12 : (12 : Int32).toInt = 12 := by decide
          have y_1 : (1 : Int32).toInt = 1 := by decide
          have t_x_35 : x_35.toInt = ((Mv 8) : Int32).toInt + (1 : Int32).toInt := by rw [ex_35]; exact add_toInt (by omega) (by omega)
          omega
        refine cV (a := (Ma 0)) (As := []) (rest := []) (wr := []) ⟨hx, hb, hml, hown, hts⟩ hK hX hA (cu_fX12_isBuyHere l D tc sk (Ma 0) (Ma 1) (Ma 2) (Ma 3) (Ma 4) (Ma 5) (Ma 6) (Ma 7) (Ma 8) (Ma 9) (Ma 10) (Ma 11) (Ma 12) (Ma 13) (Ma 14) (Ma 15) (Ma 16) (Ma 17) (Ma 18) (Ma 19) (Ma 20) (Mv 0) (Mv 1) sv_18 (Mv 3) (Mv 4) (Mv 5) (Mv 6) (Mv 7) x_35 (Mv 9) (Mv 10) (Mv 11) (Mv 12) (Mv 13) (Mv 14) (Mf 1) (Mf 2) (Mf 3) (Mf 4) (Mf 5) (Mf 7) (Mj 0) ha_37 h_md h_t ha_38 h_rp ha_39 h_bs h_w (BwH.of (by decide) pf_31)) k_1275 k_1272 k_1274 k_41 k_106 pl_X12_isBuyHere ⟨Nat.le_of_ble_eq_true rfl, Nat.le_of_ble_eq_true rfl⟩ rfl rfl (va_recv hK hP (ci := 12) (q0 := 5) rfl rfl) hP hD hS [5, 6, 0, 1, 2, 3, 4] [] rfl rfl rfl rfl rfl (by decide) rfl hl.1 rfl (Nat.le_of_ble_eq_true rfl) dX12_clauseHere_104 ⟨Nat.le_of_ble_eq_true rfl, Nat.le_of_ble_eq_true rfl⟩ (fun v_40 u_41 H locs hv_42 hP₀ hD₀ hS₀ => ?_)
        obtain ⟨sv_43, sv_44, sv_45, sv_46, sv_47, sv_48, sv_49, sv_50, sv_51, sv_52, sv_53⟩ := u_41
        obtain ⟨r_57, rfl, he_58, pf_54, pf_55, pf_56, hm_60, hm_61⟩ := hv_42
        have he_58 : ((r_57.toInt = 0 ∧ ¬ (sv_44 : Int32).toInt = 0) ∨ (r_57.toInt = 1 ∧ 0 ≤ (sv_50 (Mv 5).toNatClampNeg).toInt ∧ (sv_50 (Mv 5).toNatClampNeg).toInt ≤ (sv_43 : Int32).toInt ∧ (sv_52 (Mv 5).toInt.toNat).toInt = ((Mf 5) (Mv 5).toInt.toNat).toInt + 1 ∧ (sv_44 : Int32).toInt = 0)) := he_58
        have pf_54 : (sv_18 : Int32).toInt ≤ (sv_43 : Int32).toInt ∧ (sv_43 : Int32).toInt ≤ ((Mv 0) : Int32).toInt := pf_54
        have pf_55 : ((Mv 6) : Int32).toInt ≤ (sv_46 : Int32).toInt ∧ (sv_46 : Int32).toInt ≤ 60 := pf_55
        have pf_56 : RulD sv_49 sv_51 sv_52 (Mv 5) := pf_56
        refine W.eq (g2 := F0 m 107 ls [.int r_57]) rfl ?_
        replace hP : va_P D classes [((Ma 0), .inr (12, [.ref (Ma 1), .int (Mv 0), .int (Mv 1), .ref (Ma 2), .ref (Ma 3), .ref (Ma 4), .ref (Ma 5), .ref (Ma 6), .int sv_43, .int sv_44, .int sv_45, .int (Mv 5), .int sv_46, .int sv_47, .int x_35, .ref (Ma 7), .int sv_48, .ref (Ma 8), .int (Mv 10), .ref (Ma 9), .ref (Ma 10), .int (Mv 11), .int (Mv 12), .int (Mv 13), .ref (Ma 11), .int (Mv 14), .ref (Ma 12), .ref (Ma 13), .ref (Ma 14), .ref (Ma 15), .ref (Ma 16), .long (Mj 0), .ref (Ma 17), .ref (Ma 18), .ref (Ma 19), .ref (Ma 20)])), ((Ma 1), .inl (tc 2, 400, .inl (Mf 1))), ((Ma 2), .inl (tc 0, 2400, .inl sv_49)), ((Ma 3), .inl (tc 0, 7, .inl sv_50)), ((Ma 4), .inl (tc 0, 288, .inl sv_51)), ((Ma 5), .inl (tc 0, 6, .inl sv_52)), ((Ma 7), .inl (tc 0, 400, .inl sv_53))] H := hP₀
        replace hD : va_D A [((Ma 0), .inr (12, [.ref (Ma 1), .int (Mv 0), .int (Mv 1), .ref (Ma 2), .ref (Ma 3), .ref (Ma 4), .ref (Ma 5), .ref (Ma 6), .int sv_43, .int sv_44, .int sv_45, .int (Mv 5), .int sv_46, .int sv_47, .int x_35, .ref (Ma 7), .int sv_48, .ref (Ma 8), .int (Mv 10), .ref (Ma 9), .ref (Ma 10), .int (Mv 11), .int (Mv 12), .int (Mv 13), .ref (Ma 11), .int (Mv 14), .ref (Ma 12), .ref (Ma 13), .ref (Ma 14), .ref (Ma 15), .ref (Ma 16), .long (Mj 0), .ref (Ma 17), .ref (Ma 18), .ref (Ma 19), .ref (Ma 20)])), ((Ma 1), .inl (tc 2, 400, .inl (Mf 1))), ((Ma 2), .inl (tc 0, 2400, .inl sv_49)), ((Ma 3), .inl (tc 0, 7, .inl sv_50)), ((Ma 4), .inl (tc 0, 288, .inl sv_51)), ((Ma 5), .inl (tc 0, 6, .inl sv_52)), ((Ma 7), .inl (tc 0, 400, .inl sv_53))] := hD₀
        replace hS := hS₀
        clear hP₀ hD₀ hS₀
        have ha_62 : ((Mv 2) : Int32).toInt ≤ (sv_43 : Int32).toInt ∧ (sv_43 : Int32).toInt ≤ ((Mv 0) : Int32).toInt := by
          have z_1 : ¬ ((Mv 5) : Int32).toInt = (6 : Int32).toInt := fun z => c_12 (Int32.toInt_inj.mp z)
          have z_2 : ¬ (r_23 : Int32).toInt = (0 : Int32).toInt := fun z => c_29 (Int32.toInt_inj.mp z)
          have z_3 : ¬ ((Mv 8) : Int32).toInt = (12 : Int32).toInt := fun z => c_34 (Int32.toInt_inj.mp z)
          have y_0 : (0 : Int32).toInt = 0 := by decide
          have y_6 : (6 : Int32).toInt = 6 := by decide
          have y_12 : (12 : Int32).toInt = 12 := by decide
          omega
        have hb_63 : (r_57 : Int32).toInt = 0 ∨ (r_57 : Int32).toInt = 1 := by
          have z_1 : ¬ ((Mv 5) : Int32).toInt = (6 : Int32).toInt := fun z => c_12 (Int32.toInt_inj.mp z)
          have z_2 : ¬ (r_23 : Int32).toInt = (0 : Int32).toInt := fun z => c_29 (Int32.toInt_inj.mp z)
          have z_3 : ¬ ((Mv 8) : Int32).toInt = (12 : Int32).toInt := fun z => c_34 (Int32.toInt_inj.mp z)
          have y_0 : (0 : Int32).toInt = 0 := by decide
          have y_6 : (6 : Int32).toInt = 6 := by decide
          have y_12 : (12 : Int32).toInt = 12 := by decide
          omega
        have hp_64 : (((r_57 : Int32).toInt = 0 ∧ ¬ (sv_44 : Int32).toInt = 0) ∨ ((r_57 : Int32).toInt = 1 ∧ 0 ≤ (sv_50 (Mv 5).toNatClampNeg).toInt ∧ (sv_50 (Mv 5).toNatClampNeg).toInt ≤ (sv_43 : Int32).toInt ∧ (sv_52 (Mv 5).toInt.toNat).toInt = (x_35 : Int32).toInt ∧ 0 ≤ (x_35 : Int32).toInt ∧ (x_35 : Int32).toInt ≤ 12 ∧ (x_35 : Int32).toInt = (Mv 8).toInt + 1 ∧ (sv_44 : Int32).toInt = 0)) := by
          have z_1 : ¬ ((Mv 5) : Int32).toInt = (6 : Int32).toInt := fun z => c_12 (Int32.toInt_inj.mp z)
          have z_2 : ¬ (r_23 : Int32).toInt = (0 : Int32).toInt := fun z => c_29 (Int32.toInt_inj.mp z)
          have z_3 : ¬ ((Mv 8) : Int32).toInt = (12 : Int32).toInt := fun z => c_34 (Int32.toInt_inj.mp z)
          have y_0 : (0 : Int32).toInt = 0 := by decide
          have y_6 : (6 : Int32).toInt = 6 := by decide
          have y_12 : (12 : Int32).toInt = 12 := by decide
          have y_1 : (1 : Int32).toInt = 1 := by decide
          have t_x_35 : x_35.toInt = ((Mv 8) : Int32).toInt + (1 : Int32).toInt := by rw [ex_35]; exact add_toInt (by omega) (by omega)
          omega
        have hm_65 : (r_57 : Int32).toInt = 1 → (RulP sv_49 sv_51 sv_52 (Mv 5) ((sv_50 (Mv 5).toNatClampNeg).toInt)) ∧ (RfO (pz_cla (rB (Mf 1) (Mv 0)) (Mv 8).toInt.toNat (St0 (rB (Mf 1) (Mv 0)) (Mv 2) (Mv 6))) (rB (Mf 1) (Mv 0)) sv_44 sv_43 sv_46) := by
          intro h1r
          obtain ⟨pf_66, pf_67⟩ := hm_60 h1r
          have pf_66 : RulP sv_49 sv_51 sv_52 (Mv 5) ((sv_50 (Mv 5).toNatClampNeg).toInt) := pf_66
          have ar_pf_66 := pf_66.2.1
          have pf_67 : RfO (BuR (rB (Mf 1) (Mv 0)) sv_18 (Mv 6)) (rB (Mf 1) (Mv 0)) sv_44 sv_43 sv_46 := pf_67
          have ar_pf_67 := RfO.wr pf_67
          have hr_68 : ¬ (Mv 8).toInt.toNat = 12 := by
            have z_1 : ¬ ((Mv 5) : Int32).toInt = (6 : Int32).toInt := fun z => c_12 (Int32.toInt_inj.mp z)
            have z_2 : ¬ (r_23 : Int32).toInt = (0 : Int32).toInt := fun z => c_29 (Int32.toInt_inj.mp z)
            have z_3 : ¬ ((Mv 8) : Int32).toInt = (12 : Int32).toInt := fun z => c_34 (Int32.toInt_inj.mp z)
            have y_0 : (0 : Int32).toInt = 0 := by decide
            have y_6 : (6 : Int32).toInt = 6 := by decide
            have y_12 : (12 : Int32).toInt = 12 := by decide
            omega
          exact ⟨pf_66, (RfO.eq (rcl_go (by decide) (SkR.trans pf_8 pf_22) pf_31 hr_68) pf_67)⟩
        have hm_69 : (r_57 : Int32).toInt = 0 → (RfE (pz_cla (rB (Mf 1) (Mv 0)) (Mv 8).toInt.toNat (St0 (rB (Mf 1) (Mv 0)) (Mv 2) (Mv 6))) sv_44) := by
          intro h1r
          obtain pf_70 := hm_61 h1r
          have pf_70 : RfE (BuR (rB (Mf 1) (Mv 0)) sv_18 (Mv 6)) sv_44 := pf_70
          have hr_71 : ¬ (Mv 8).toInt.toNat = 12 := by
            have z_1 : ¬ ((Mv 5) : Int32).toInt = (6 : Int32).toInt := fun z => c_12 (Int32.toInt_inj.mp z)
            have z_2 : ¬ (r_23 : Int32).toInt = (0 : Int32).toInt := fun z => c_29 (Int32.toInt_inj.mp z)
            have z_3 : ¬ ((Mv 8) : Int32).toInt = (12 : Int32).toInt := fun z => c_34 (Int32.toInt_inj.mp z)
            have y_0 : (0 : Int32).toInt = 0 := by decide
            have y_6 : (6 : Int32).toInt = 6 := by decide
            have y_12 : (12 : Int32).toInt = 12 := by decide
            omega
          exact (RfE.eq (rcl_go (by decide) (SkR.trans pf_8 pf_22) pf_31 hr_71) pf_70)
        exact retI (v := r_57) hx hb hr hlk (nar01 hb_63) hP hD hS (sv_43, sv_44, sv_45, sv_46, sv_47, x_35, sv_48, sv_49, sv_50, sv_51, sv_52, sv_53) ⟨_, rfl, hp_64, ha_62, pf_55, pf_56, hm_65, hm_69⟩ [0, 1, 2, 3, 4, 5, 6] rfl rfl dX12_clauseHere_107 (Nat.le_of_ble_eq_true rfl) (Nat.le_of_ble_eq_true rfl) rfl
      · skip
        refine lv_aload_n hx hb dX12_clauseHere_74 rfl (lv_at hl 2 rfl) ?_
        refine lv_iconst (v := 4) hx hb dX12_clauseHere_75 (by decide) ?_
        refine lv_iload_n hx hb dX12_clauseHere_76 rfl (lv_at hl 1 rfl) ?_
        have ha_72 : 0 ≤ (4 : Int32).toInt ∧ (4 : Int32).toInt ≤ 4 := by
          have z_1 : ¬ ((Mv 5) : Int32).toInt = (6 : Int32).toInt := fun z => c_12 (Int32.toInt_inj.mp z)
          have z_2 : ¬ (r_23 : Int32).toInt = (0 : Int32).toInt := fun z => c_29 (Int32.toInt_inj.mp z)
          have z_3 := congrArg Int32.toInt c_34
          have y_0 : (0 : Int32).toInt = 0 := by decide
          have y_6 : (6 : Int32).toInt = 6 := by decide
          have y_12 : (12 : Int32).toInt = 12 := by decide
          have y_4 : (4 : Int32).toInt = 4 := by decide
          omega
        have ha_73 : 0 ≤ sv_4.toInt ∧ sv_4.toInt ≤ 400 := by
          have z_1 : ¬ ((Mv 5) : Int32).toInt = (6 : Int32).toInt := fun z => c_12 (Int32.toInt_inj.mp z)
          have z_2 : ¬ (r_23 : Int32).toInt = (0 : Int32).toInt := fun z => c_29 (Int32.toInt_inj.mp z)
          have z_3 := congrArg Int32.toInt c_34
          have y_0 : (0 : Int32).toInt = 0 := by decide
          have y_6 : (6 : Int32).toInt = 6 := by decide
          have y_12 : (12 : Int32).toInt = 12 := by decide
          omega
        refine cV (a := (Ma 0)) (As := [.int 4, .int sv_4]) (rest := []) (wr := [((Ma 2), .inl (tc 0, 2400, .inl (Mf 2))), ((Ma 3), .inl (tc 0, 7, .inl (Mf 3))), ((Ma 4), .inl (tc 0, 288, .inl (Mf 4))), ((Ma 5), .inl (tc 0, 6, .inl (Mf 5))), ((Ma 7), .inl (tc 0, 400, .inl (Mf 7))), ((Ma 1), .inl (tc 2, 400, .inl (Mf 1)))]) ⟨hx, hb, hml, hown, hts⟩ hK hX hA (cu_fX12_fails l D tc sk (Ma 0) (Ma 1) (Ma 2) (Ma 3) (Ma 4) (Ma 5) (Ma 6) (Ma 7) (Ma 8) (Ma 9) (Ma 10) (Ma 11) (Ma 12) (Ma 13) (Ma 14) (Ma 15) (Ma 16) (Ma 17) (Ma 18) (Ma 19) (Ma 20) (Mv 0) (Mv 1) sv_18 (Mv 3) (Mv 4) (Mv 5) (Mv 6) (Mv 7) (Mv 8) (Mv 9) (Mv 10) (Mv 11) (Mv 12) (Mv 13) (Mv 14) (Mj 0) 4 sv_4 ha_72 ha_73 h_w) k_1232 k_1229 k_1231 k_31 k_106 pl_X12_fails ⟨Nat.le_of_ble_eq_true rfl, Nat.le_of_ble_eq_true rfl⟩ rfl rfl (va_recv hK hP (ci := 12) (q0 := 5) rfl rfl) hP hD hS [5] [0, 1, 2, 3, 4, 6] rfl rfl rfl rfl rfl (by decide) rfl hl.1 rfl (Nat.le_of_ble_eq_true rfl) dX12_clauseHere_77 ⟨Nat.le_of_ble_eq_true rfl, Nat.le_of_ble_eq_true rfl⟩ (fun v_74 u_75 H locs hv_76 hP₀ hD₀ hS₀ => ?_)
        obtain ⟨sv_77, rfl⟩ : ∃ z, z = u_75 := ⟨_, rfl⟩
        obtain ⟨r_80, rfl, he_81, pf_78, pf_79⟩ := hv_76
        have he_81 : r_80.toInt = 0 := he_81
        have pf_78 : ¬ (sv_77 : Int32).toInt = 0 := pf_78
        have pf_79 : (sv_77 : Int32).toInt = 1 + 8 * sv_4.toInt + (4 : Int32).toInt := pf_79
        refine W.eq (g2 := F0 m 80 ls [.int r_80]) rfl ?_
        replace hP : va_P D classes [((Ma 2), .inl (tc 0, 2400, .inl (Mf 2))), ((Ma 3), .inl (tc 0, 7, .inl (Mf 3))), ((Ma 4), .inl (tc 0, 288, .inl (Mf 4))), ((Ma 5), .inl (tc 0, 6, .inl (Mf 5))), ((Ma 7), .inl (tc 0, 400, .inl (Mf 7))), ((Ma 1), .inl (tc 2, 400, .inl (Mf 1))), ((Ma 0), .inr (12, [.ref (Ma 1), .int (Mv 0), .int (Mv 1), .ref (Ma 2), .ref (Ma 3), .ref (Ma 4), .ref (Ma 5), .ref (Ma 6), .int sv_18, .int sv_77, .int (Mv 4), .int (Mv 5), .int (Mv 6), .int (Mv 7), .int (Mv 8), .ref (Ma 7), .int (Mv 9), .ref (Ma 8), .int (Mv 10), .ref (Ma 9), .ref (Ma 10), .int (Mv 11), .int (Mv 12), .int (Mv 13), .ref (Ma 11), .int (Mv 14), .ref (Ma 12), .ref (Ma 13), .ref (Ma 14), .ref (Ma 15), .ref (Ma 16), .long (Mj 0), .ref (Ma 17), .ref (Ma 18), .ref (Ma 19), .ref (Ma 20)]))] H := hP₀
        replace hD : va_D A [((Ma 2), .inl (tc 0, 2400, .inl (Mf 2))), ((Ma 3), .inl (tc 0, 7, .inl (Mf 3))), ((Ma 4), .inl (tc 0, 288, .inl (Mf 4))), ((Ma 5), .inl (tc 0, 6, .inl (Mf 5))), ((Ma 7), .inl (tc 0, 400, .inl (Mf 7))), ((Ma 1), .inl (tc 2, 400, .inl (Mf 1))), ((Ma 0), .inr (12, [.ref (Ma 1), .int (Mv 0), .int (Mv 1), .ref (Ma 2), .ref (Ma 3), .ref (Ma 4), .ref (Ma 5), .ref (Ma 6), .int sv_18, .int sv_77, .int (Mv 4), .int (Mv 5), .int (Mv 6), .int (Mv 7), .int (Mv 8), .ref (Ma 7), .int (Mv 9), .ref (Ma 8), .int (Mv 10), .ref (Ma 9), .ref (Ma 10), .int (Mv 11), .int (Mv 12), .int (Mv 13), .ref (Ma 11), .int (Mv 14), .ref (Ma 12), .ref (Ma 13), .ref (Ma 14), .ref (Ma 15), .ref (Ma 16), .long (Mj 0), .ref (Ma 17), .ref (Ma 18), .ref (Ma 19), .ref (Ma 20)]))] := hD₀
        replace hS := hS₀
        clear hP₀ hD₀ hS₀
        have yf_83 : (4 : Int32).toInt = 4 := by decide
        have ha_84 : ((Mv 2) : Int32).toInt ≤ (sv_18 : Int32).toInt ∧ (sv_18 : Int32).toInt ≤ ((Mv 0) : Int32).toInt := by
          have z_1 : ¬ ((Mv 5) : Int32).toInt = (6 : Int32).toInt := fun z => c_12 (Int32.toInt_inj.mp z)
          have z_2 : ¬ (r_23 : Int32).toInt = (0 : Int32).toInt := fun z => c_29 (Int32.toInt_inj.mp z)
          have z_3 := congrArg Int32.toInt c_34
          have y_0 : (0 : Int32).toInt = 0 := by decide
          have y_6 : (6 : Int32).toInt = 6 := by decide
          have y_12 : (12 : Int32).toInt = 12 := by decide
          omega
        have ha_85 : ((Mv 6) : Int32).toInt ≤ ((Mv 6) : Int32).toInt ∧ ((Mv 6) : Int32).toInt ≤ 60 := by
          have z_1 : ¬ ((Mv 5) : Int32).toInt = (6 : Int32).toInt := fun z => c_12 (Int32.toInt_inj.mp z)
          have z_2 : ¬ (r_23 : Int32).toInt = (0 : Int32).toInt := fun z => c_29 (Int32.toInt_inj.mp z)
          have z_3 := congrArg Int32.toInt c_34
          have y_0 : (0 : Int32).toInt = 0 := by decide
          have y_6 : (6 : Int32).toInt = 6 := by decide
          have y_12 : (12 : Int32).toInt = 12 := by decide
          omega
        have hb_86 : (r_80 : Int32).toInt = 0 ∨ (r_80 : Int32).toInt = 1 := by
          have z_1 : ¬ ((Mv 5) : Int32).toInt = (6 : Int32).toInt := fun z => c_12 (Int32.toInt_inj.mp z)
          have z_2 : ¬ (r_23 : Int32).toInt = (0 : Int32).toInt := fun z => c_29 (Int32.toInt_inj.mp z)
          have z_3 := congrArg Int32.toInt c_34
          have y_0 : (0 : Int32).toInt = 0 := by decide
          have y_6 : (6 : Int32).toInt = 6 := by decide
          have y_12 : (12 : Int32).toInt = 12 := by decide
          omega
        have hp_87 : (((r_80 : Int32).toInt = 0 ∧ ¬ (sv_77 : Int32).toInt = 0) ∨ ((r_80 : Int32).toInt = 1 ∧ 0 ≤ ((Mf 3) (Mv 5).toNatClampNeg).toInt ∧ ((Mf 3) (Mv 5).toNatClampNeg).toInt ≤ (sv_18 : Int32).toInt ∧ ((Mf 5) (Mv 5).toInt.toNat).toInt = ((Mv 8) : Int32).toInt ∧ 0 ≤ ((Mv 8) : Int32).toInt ∧ ((Mv 8) : Int32).toInt ≤ 12 ∧ ((Mv 8) : Int32).toInt = (Mv 8).toInt + 1 ∧ (sv_77 : Int32).toInt = 0)) := by
          have z_1 : ¬ ((Mv 5) : Int32).toInt = (6 : Int32).toInt := fun z => c_12 (Int32.toInt_inj.mp z)
          have z_2 : ¬ (r_23 : Int32).toInt = (0 : Int32).toInt := fun z => c_29 (Int32.toInt_inj.mp z)
          have z_3 := congrArg Int32.toInt c_34
          have y_0 : (0 : Int32).toInt = 0 := by decide
          have y_6 : (6 : Int32).toInt = 6 := by decide
          have y_12 : (12 : Int32).toInt = 12 := by decide
          omega
        have hm_88 : (r_80 : Int32).toInt = 1 → (RulP (Mf 2) (Mf 4) (Mf 5) (Mv 5) (((Mf 3) (Mv 5).toNatClampNeg).toInt)) ∧ (RfO (pz_cla (rB (Mf 1) (Mv 0)) (Mv 8).toInt.toNat (St0 (rB (Mf 1) (Mv 0)) (Mv 2) (Mv 6))) (rB (Mf 1) (Mv 0)) sv_77 sv_18 (Mv 6)) := by
          intro h1r
          exfalso
          have z_1 : ¬ ((Mv 5) : Int32).toInt = (6 : Int32).toInt := fun z => c_12 (Int32.toInt_inj.mp z)
          have z_2 : ¬ (r_23 : Int32).toInt = (0 : Int32).toInt := fun z => c_29 (Int32.toInt_inj.mp z)
          have z_3 := congrArg Int32.toInt c_34
          have y_0 : (0 : Int32).toInt = 0 := by decide
          have y_6 : (6 : Int32).toInt = 6 := by decide
          have y_12 : (12 : Int32).toInt = 12 := by decide
          omega
        have hm_89 : (r_80 : Int32).toInt = 0 → (RfE (pz_cla (rB (Mf 1) (Mv 0)) (Mv 8).toInt.toNat (St0 (rB (Mf 1) (Mv 0)) (Mv 2) (Mv 6))) sv_77) := by
          intro h1r
          have hr_90 : (Mv 8).toInt.toNat = 12 := by
            have z_1 : ¬ ((Mv 5) : Int32).toInt = (6 : Int32).toInt := fun z => c_12 (Int32.toInt_inj.mp z)
            have z_2 : ¬ (r_23 : Int32).toInt = (0 : Int32).toInt := fun z => c_29 (Int32.toInt_inj.mp z)
            have z_3 := congrArg Int32.toInt c_34
            have y_0 : (0 : Int32).toInt = 0 := by decide
            have y_6 : (6 : Int32).toInt = 6 := by decide
            have y_12 : (12 : Int32).toInt = 12 := by decide
            omega
          have hi_91 : (sv_77 : Int32).toInt = 1 + 8 * (sv_18 : Int32).toInt + 4 := by
            have z_1 : ¬ ((Mv 5) : Int32).toInt = (6 : Int32).toInt := fun z => c_12 (Int32.toInt_inj.mp z)
            have z_2 : ¬ (r_23 : Int32).toInt = (0 : Int32).toInt := fun z => c_29 (Int32.toInt_inj.mp z)
            have z_3 := congrArg Int32.toInt c_34
            have y_0 : (0 : Int32).toInt = 0 := by decide
            have y_6 : (6 : Int32).toInt = 6 := by decide
            have y_12 : (12 : Int32).toInt = 12 := by decide
            omega
          exact (rcl_12 (by decide) (SkR.trans pf_8 pf_22) pf_31 hr_90 hi_91)
        exact retI (v := r_80) hx hb hr hlk (nar01 hb_86) hP hD hS (sv_18, sv_77, (Mv 4), (Mv 6), (Mv 7), (Mv 8), (Mv 9), (Mf 2), (Mf 3), (Mf 4), (Mf 5), (Mf 7)) ⟨_, rfl, hp_87, ha_84, ha_85, h_rp.1, hm_88, hm_89⟩ [6, 5, 0, 1, 2, 3, 4] rfl rfl dX12_clauseHere_80 (Nat.le_of_ble_eq_true rfl) (Nat.le_of_ble_eq_true rfl) rfl
    · skip
      have hz_93 : (r_23 : Int32).toInt = 0 := by
        have z_1 : ¬ ((Mv 5) : Int32).toInt = (6 : Int32).toInt := fun z => c_12 (Int32.toInt_inj.mp z)
        have z_2 := congrArg Int32.toInt c_29
        have y_0 : (0 : Int32).toInt = 0 := by decide
        have y_6 : (6 : Int32).toInt = 6 := by decide
        omega
      obtain pf_92 := hm_27 hz_93
      have pf_92 : NPk (rB (Mf 1) (Mv 0)) ((sv_18 : Int32).toInt.toNat) (6452601 : Int64).toInt := pf_92
      refine lv_aload_n hx hb dX12_clauseHere_49 rfl (lv_at hl 2 rfl) ?_
      refine lv_iconst (v := 0) hx hb dX12_clauseHere_50 (by decide) ?_
      refine lv_iload_n hx hb dX12_clauseHere_51 rfl (lv_at hl 1 rfl) ?_
      have ha_94 : 0 ≤ (0 : Int32).toInt ∧ (0 : Int32).toInt ≤ 4 := by
        have z_1 : ¬ ((Mv 5) : Int32).toInt = (6 : Int32).toInt := fun z => c_12 (Int32.toInt_inj.mp z)
        have z_2 := congrArg Int32.toInt c_29
        have y_0 : (0 : Int32).toInt = 0 := by decide
        have y_6 : (6 : Int32).toInt = 6 := by decide
        omega
      have ha_95 : 0 ≤ sv_4.toInt ∧ sv_4.toInt ≤ 400 := by
        have z_1 : ¬ ((Mv 5) : Int32).toInt = (6 : Int32).toInt := fun z => c_12 (Int32.toInt_inj.mp z)
        have z_2 := congrArg Int32.toInt c_29
        have y_0 : (0 : Int32).toInt = 0 := by decide
        have y_6 : (6 : Int32).toInt = 6 := by decide
        omega
      refine cV (a := (Ma 0)) (As := [.int 0, .int sv_4]) (rest := []) (wr := [((Ma 2), .inl (tc 0, 2400, .inl (Mf 2))), ((Ma 3), .inl (tc 0, 7, .inl (Mf 3))), ((Ma 4), .inl (tc 0, 288, .inl (Mf 4))), ((Ma 5), .inl (tc 0, 6, .inl (Mf 5))), ((Ma 7), .inl (tc 0, 400, .inl (Mf 7))), ((Ma 1), .inl (tc 2, 400, .inl (Mf 1)))]) ⟨hx, hb, hml, hown, hts⟩ hK hX hA (cu_fX12_fails l D tc sk (Ma 0) (Ma 1) (Ma 2) (Ma 3) (Ma 4) (Ma 5) (Ma 6) (Ma 7) (Ma 8) (Ma 9) (Ma 10) (Ma 11) (Ma 12) (Ma 13) (Ma 14) (Ma 15) (Ma 16) (Ma 17) (Ma 18) (Ma 19) (Ma 20) (Mv 0) (Mv 1) sv_18 (Mv 3) (Mv 4) (Mv 5) (Mv 6) (Mv 7) (Mv 8) (Mv 9) (Mv 10) (Mv 11) (Mv 12) (Mv 13) (Mv 14) (Mj 0) 0 sv_4 ha_94 ha_95 h_w) k_1232 k_1229 k_1231 k_31 k_106 pl_X12_fails ⟨Nat.le_of_ble_eq_true rfl, Nat.le_of_ble_eq_true rfl⟩ rfl rfl (va_recv hK hP (ci := 12) (q0 := 5) rfl rfl) hP hD hS [5] [0, 1, 2, 3, 4, 6] rfl rfl rfl rfl rfl (by decide) rfl hl.1 rfl (Nat.le_of_ble_eq_true rfl) dX12_clauseHere_52 ⟨Nat.le_of_ble_eq_true rfl, Nat.le_of_ble_eq_true rfl⟩ (fun v_96 u_97 H locs hv_98 hP₀ hD₀ hS₀ => ?_)
      obtain ⟨sv_99, rfl⟩ : ∃ z, z = u_97 := ⟨_, rfl⟩
      obtain ⟨r_102, rfl, he_103, pf_100, pf_101⟩ := hv_98
      have he_103 : r_102.toInt = 0 := he_103
      have pf_100 : ¬ (sv_99 : Int32).toInt = 0 := pf_100
      have pf_101 : (sv_99 : Int32).toInt = 1 + 8 * sv_4.toInt + (0 : Int32).toInt := pf_101
      refine W.eq (g2 := F0 m 55 ls [.int r_102]) rfl ?_
      replace hP : va_P D classes [((Ma 2), .inl (tc 0, 2400, .inl (Mf 2))), ((Ma 3), .inl (tc 0, 7, .inl (Mf 3))), ((Ma 4), .inl (tc 0, 288, .inl (Mf 4))), ((Ma 5), .inl (tc 0, 6, .inl (Mf 5))), ((Ma 7), .inl (tc 0, 400, .inl (Mf 7))), ((Ma 1), .inl (tc 2, 400, .inl (Mf 1))), ((Ma 0), .inr (12, [.ref (Ma 1), .int (Mv 0), .int (Mv 1), .ref (Ma 2), .ref (Ma 3), .ref (Ma 4), .ref (Ma 5), .ref (Ma 6), .int sv_18, .int sv_99, .int (Mv 4), .int (Mv 5), .int (Mv 6), .int (Mv 7), .int (Mv 8), .ref (Ma 7), .int (Mv 9), .ref (Ma 8), .int (Mv 10), .ref (Ma 9), .ref (Ma 10), .int (Mv 11), .int (Mv 12), .int (Mv 13), .ref (Ma 11), .int (Mv 14), .ref (Ma 12), .ref (Ma 13), .ref (Ma 14), .ref (Ma 15), .ref (Ma 16), .long (Mj 0), .ref (Ma 17), .ref (Ma 18), .ref (Ma 19), .ref (Ma 20)]))] H := hP₀
      replace hD : va_D A [((Ma 2), .inl (tc 0, 2400, .inl (Mf 2))), ((Ma 3), .inl (tc 0, 7, .inl (Mf 3))), ((Ma 4), .inl (tc 0, 288, .inl (Mf 4))), ((Ma 5), .inl (tc 0, 6, .inl (Mf 5))), ((Ma 7), .inl (tc 0, 400, .inl (Mf 7))), ((Ma 1), .inl (tc 2, 400, .inl (Mf 1))), ((Ma 0), .inr (12, [.ref (Ma 1), .int (Mv 0), .int (Mv 1), .ref (Ma 2), .ref (Ma 3), .ref (Ma 4), .ref (Ma 5), .ref (Ma 6), .int sv_18, .int sv_99, .int (Mv 4), .int (Mv 5), .int (Mv 6), .int (Mv 7), .int (Mv 8), .ref (Ma 7), .int (Mv 9), .ref (Ma 8), .int (Mv 10), .ref (Ma 9), .ref (Ma 10), .int (Mv 11), .int (Mv 12), .int (Mv 13), .ref (Ma 11), .int (Mv 14), .ref (Ma 12), .ref (Ma 13), .ref (Ma 14), .ref (Ma 15), .ref (Ma 16), .long (Mj 0), .ref (Ma 17), .ref (Ma 18), .ref (Ma 19), .ref (Ma 20)]))] := hD₀
      replace hS := hS₀
      clear hP₀ hD₀ hS₀
      have yf_105 : (0 : Int32).toInt = 0 := by decide
      have ha_106 : ((Mv 2) : Int32).toInt ≤ (sv_18 : Int32).toInt ∧ (sv_18 : Int32).toInt ≤ ((Mv 0) : Int32).toInt := by
        have z_1 : ¬ ((Mv 5) : Int32).toInt = (6 : Int32).toInt := fun z => c_12 (Int32.toInt_inj.mp z)
        have z_2 := congrArg Int32.toInt c_29
        have y_0 : (0 : Int32).toInt = 0 := by decide
        have y_6 : (6 : Int32).toInt = 6 := by decide
        omega
      have ha_107 : ((Mv 6) : Int32).toInt ≤ ((Mv 6) : Int32).toInt ∧ ((Mv 6) : Int32).toInt ≤ 60 := by
        have z_1 : ¬ ((Mv 5) : Int32).toInt = (6 : Int32).toInt := fun z => c_12 (Int32.toInt_inj.mp z)
        have z_2 := congrArg Int32.toInt c_29
        have y_0 : (0 : Int32).toInt = 0 := by decide
        have y_6 : (6 : Int32).toInt = 6 := by decide
        omega
      have hb_108 : (r_102 : Int32).toInt = 0 ∨ (r_102 : Int32).toInt = 1 := by
        have z_1 : ¬ ((Mv 5) : Int32).toInt = (6 : Int32).toInt := fun z => c_12 (Int32.toInt_inj.mp z)
        have z_2 := congrArg Int32.toInt c_29
        have y_0 : (0 : Int32).toInt = 0 := by decide
        have y_6 : (6 : Int32).toInt = 6 := by decide
        omega
      have hp_109 : (((r_102 : Int32).toInt = 0 ∧ ¬ (sv_99 : Int32).toInt = 0) ∨ ((r_102 : Int32).toInt = 1 ∧ 0 ≤ ((Mf 3) (Mv 5).toNatClampNeg).toInt ∧ ((Mf 3) (Mv 5).toNatClampNeg).toInt ≤ (sv_18 : Int32).toInt ∧ ((Mf 5) (Mv 5).toInt.toNat).toInt = ((Mv 8) : Int32).toInt ∧ 0 ≤ ((Mv 8) : Int32).toInt ∧ ((Mv 8) : Int32).toInt ≤ 12 ∧ ((Mv 8) : Int32).toInt = (Mv 8).toInt + 1 ∧ (sv_99 : Int32).toInt = 0)) := by
        have z_1 : ¬ ((Mv 5) : Int32).toInt = (6 : Int32).toInt := fun z => c_12 (Int32.toInt_inj.mp z)
        have z_2 := congrArg Int32.toInt c_29
        have y_0 : (0 : Int32).toInt = 0 := by decide
        have y_6 : (6 : Int32).toInt = 6 := by decide
        omega
      have hm_110 : (r_102 : Int32).toInt = 1 → (RulP (Mf 2) (Mf 4) (Mf 5) (Mv 5) (((Mf 3) (Mv 5).toNatClampNeg).toInt)) ∧ (RfO (pz_cla (rB (Mf 1) (Mv 0)) (Mv 8).toInt.toNat (St0 (rB (Mf 1) (Mv 0)) (Mv 2) (Mv 6))) (rB (Mf 1) (Mv 0)) sv_99 sv_18 (Mv 6)) := by
        intro h1r
        exfalso
        have z_1 : ¬ ((Mv 5) : Int32).toInt = (6 : Int32).toInt := fun z => c_12 (Int32.toInt_inj.mp z)
        have z_2 := congrArg Int32.toInt c_29
        have y_0 : (0 : Int32).toInt = 0 := by decide
        have y_6 : (6 : Int32).toInt = 6 := by decide
        omega
      have hm_111 : (r_102 : Int32).toInt = 0 → (RfE (pz_cla (rB (Mf 1) (Mv 0)) (Mv 8).toInt.toNat (St0 (rB (Mf 1) (Mv 0)) (Mv 2) (Mv 6))) sv_99) := by
        intro h1r
        have hi_112 : (sv_99 : Int32).toInt = 1 + 8 * (sv_18 : Int32).toInt := by
          have z_1 : ¬ ((Mv 5) : Int32).toInt = (6 : Int32).toInt := fun z => c_12 (Int32.toInt_inj.mp z)
          have z_2 := congrArg Int32.toInt c_29
          have y_0 : (0 : Int32).toInt = 0 := by decide
          have y_6 : (6 : Int32).toInt = 6 := by decide
          omega
        exact (rcl_no (by decide) (SkR.trans pf_8 pf_22) pf_92 hi_112)
      exact retI (v := r_102) hx hb hr hlk (nar01 hb_108) hP hD hS (sv_18, sv_99, (Mv 4), (Mv 6), (Mv 7), (Mv 8), (Mv 9), (Mf 2), (Mf 3), (Mf 4), (Mf 5), (Mf 7)) ⟨_, rfl, hp_109, ha_106, ha_107, h_rp.1, hm_110, hm_111⟩ [6, 5, 0, 1, 2, 3, 4] rfl rfl dX12_clauseHere_55 (Nat.le_of_ble_eq_true rfl) (Nat.le_of_ble_eq_true rfl) rfl
  · skip
    exfalso
    have z_1 := congrArg Int32.toInt c_12
    have y_6 : (6 : Int32).toInt = 6 := by decide
    omega
set_option maxRecDepth 100000 in
theorem cu_fX12_clauseHere_r (l : Launch) (D : va_G) (tc : Nat → ClassId) (sk : (Nat → Nat) × (Nat → Nat)) (Ma_0 : Nat) (Ma_1 : Nat) (Ma_2 : Nat) (Ma_3 : Nat) (Ma_4 : Nat) (Ma_5 : Nat) (Ma_6 : Nat) (Ma_7 : Nat) (Ma_8 : Nat) (Ma_9 : Nat) (Ma_10 : Nat) (Ma_11 : Nat) (Ma_12 : Nat) (Ma_13 : Nat) (Ma_14 : Nat) (Ma_15 : Nat) (Ma_16 : Nat) (Ma_17 : Nat) (Ma_18 : Nat) (Ma_19 : Nat) (Ma_20 : Nat) (Mv_0 : Int32) (Mv_1 : Int32) (Mv_2 : Int32) (Mv_3 : Int32) (Mv_4 : Int32) (Mv_5 : Int32) (Mv_6 : Int32) (Mv_7 : Int32) (Mv_8 : Int32) (Mv_9 : Int32) (Mv_10 : Int32) (Mv_11 : Int32) (Mv_12 : Int32) (Mv_13 : Int32) (Mv_14 : Int32) (Mf_1 : Nat → Int32) (Mf_2 : Nat → Int32) (Mf_3 : Nat → Int32) (Mf_4 : Nat → Int32) (Mf_5 : Nat → Int32) (Mf_7 : Nat → Int32) (Mj_0 : Int64) (h_nx : 0 ≤ (Mv_2 : Int32).toInt ∧ (Mv_2 : Int32).toInt ≤ (Mv_0 : Int32).toInt ∧ (Mv_0 : Int32).toInt ≤ 400) (h_md : 0 ≤ (Mv_6 : Int32).toInt ∧ (Mv_6 : Int32).toInt ≤ 60) (h_t : 0 ≤ (Mv_5 : Int32).toInt ∧ (Mv_5 : Int32).toInt ≤ 5) (h_L : 0 ≤ (Mf_3 Mv_5.toNatClampNeg).toInt ∧ (Mf_3 Mv_5.toNatClampNeg).toInt ≤ (Mv_2 : Int32).toInt) (h_rp : RulP Mf_2 Mf_4 Mf_5 Mv_5 ((Mf_3 Mv_5.toNatClampNeg).toInt)) (h_c : (Mf_5 Mv_5.toInt.toNat).toInt = (Mv_8 : Int32).toInt ∧ 0 ≤ (Mv_8 : Int32).toInt ∧ (Mv_8 : Int32).toInt ≤ 12) (h_bs : ByS Mf_1) (h_w : (Mv_3 : Int32).toInt = 0) : Ct l yX12_clauseHere cX12_clauseHere 3 (some .boolean) { frames := 10, cells := 0, slots := 0, locals := 219 } D tc sk [.ref Ma_0] [(Ma_0, .inr (12, [.ref Ma_1, .int Mv_0, .int Mv_1, .ref Ma_2, .ref Ma_3, .ref Ma_4, .ref Ma_5, .ref Ma_6, .int Mv_2, .int Mv_3, .int Mv_4, .int Mv_5, .int Mv_6, .int Mv_7, .int Mv_8, .ref Ma_7, .int Mv_9, .ref Ma_8, .int Mv_10, .ref Ma_9, .ref Ma_10, .int Mv_11, .int Mv_12, .int Mv_13, .ref Ma_11, .int Mv_14, .ref Ma_12, .ref Ma_13, .ref Ma_14, .ref Ma_15, .ref Ma_16, .long Mj_0, .ref Ma_17, .ref Ma_18, .ref Ma_19, .ref Ma_20])), (Ma_1, .inl (tc 2, 400, .inl Mf_1)), (Ma_2, .inl (tc 0, 2400, .inl Mf_2)), (Ma_3, .inl (tc 0, 7, .inl Mf_3)), (Ma_4, .inl (tc 0, 288, .inl Mf_4)), (Ma_5, .inl (tc 0, 6, .inl Mf_5)), (Ma_7, .inl (tc 0, 400, .inl Mf_7))] (fun (v : Option Value) (u : (Int32) × (Int32) × (Int32) × (Int32) × (Int32) × (Int32) × (Int32) × (Nat → Int32) × (Nat → Int32) × (Nat → Int32) × (Nat → Int32) × (Nat → Int32)) => match u with | (oo0x1, oo0x2, oo0x3, oo0x4, oo0x5, oo0x6, oo0x7, oo0x8, oo0x9, oo0x10, oo0x11, oo0x12) => ∃ r : Int32, v = some (.int r) ∧ (((r.toInt = 0 ∧ ¬ (oo0x2 : Int32).toInt = 0) ∨ (r.toInt = 1 ∧ 0 ≤ (oo0x9 Mv_5.toNatClampNeg).toInt ∧ (oo0x9 Mv_5.toNatClampNeg).toInt ≤ (oo0x1 : Int32).toInt ∧ (oo0x11 Mv_5.toInt.toNat).toInt = (oo0x6 : Int32).toInt ∧ 0 ≤ (oo0x6 : Int32).toInt ∧ (oo0x6 : Int32).toInt ≤ 12 ∧ (oo0x6 : Int32).toInt = Mv_8.toInt + 1 ∧ (oo0x2 : Int32).toInt = 0))) ∧ ((Mv_2 : Int32).toInt ≤ (oo0x1 : Int32).toInt ∧ (oo0x1 : Int32).toInt ≤ (Mv_0 : Int32).toInt) ∧ ((Mv_6 : Int32).toInt ≤ (oo0x4 : Int32).toInt ∧ (oo0x4 : Int32).toInt ≤ 60) ∧ (RulD oo0x8 oo0x10 oo0x11 Mv_5) ∧ (r.toInt = 1 → (RulP oo0x8 oo0x10 oo0x11 Mv_5 ((oo0x9 Mv_5.toNatClampNeg).toInt)) ∧ (RfO (pz_cla (rB Mf_1 Mv_0) Mv_8.toInt.toNat (St0 (rB Mf_1 Mv_0) Mv_2 Mv_6)) (rB Mf_1 Mv_0) oo0x2 oo0x1 oo0x4)) ∧ (r.toInt = 0 → (RfE (pz_cla (rB Mf_1 Mv_0) Mv_8.toInt.toNat (St0 (rB Mf_1 Mv_0) Mv_2 Mv_6)) oo0x2))) (fun (u : (Int32) × (Int32) × (Int32) × (Int32) × (Int32) × (Int32) × (Int32) × (Nat → Int32) × (Nat → Int32) × (Nat → Int32) × (Nat → Int32) × (Nat → Int32)) => match u with | (oo0x1, oo0x2, oo0x3, oo0x4, oo0x5, oo0x6, oo0x7, oo0x8, oo0x9, oo0x10, oo0x11, oo0x12) => [(Ma_0, .inr (12, [.ref Ma_1, .int Mv_0, .int Mv_1, .ref Ma_2, .ref Ma_3, .ref Ma_4, .ref Ma_5, .ref Ma_6, .int oo0x1, .int oo0x2, .int oo0x3, .int Mv_5, .int oo0x4, .int oo0x5, .int oo0x6, .ref Ma_7, .int oo0x7, .ref Ma_8, .int Mv_10, .ref Ma_9, .ref Ma_10, .int Mv_11, .int Mv_12, .int Mv_13, .ref Ma_11, .int Mv_14, .ref Ma_12, .ref Ma_13, .ref Ma_14, .ref Ma_15, .ref Ma_16, .long Mj_0, .ref Ma_17, .ref Ma_18, .ref Ma_19, .ref Ma_20])), (Ma_1, .inl (tc 2, 400, .inl Mf_1)), (Ma_2, .inl (tc 0, 2400, .inl oo0x8)), (Ma_3, .inl (tc 0, 7, .inl oo0x9)), (Ma_4, .inl (tc 0, 288, .inl oo0x10)), (Ma_5, .inl (tc 0, 6, .inl oo0x11)), (Ma_7, .inl (tc 0, 400, .inl oo0x12))]) 0 0 :=
  ct_fX12_clauseHere_r l D tc sk (fun k => ([Ma_0, Ma_1, Ma_2, Ma_3, Ma_4, Ma_5, Ma_6, Ma_7, Ma_8, Ma_9, Ma_10, Ma_11, Ma_12, Ma_13, Ma_14, Ma_15, Ma_16, Ma_17, Ma_18, Ma_19, Ma_20] : List (Nat)).getD k 0) (fun k => ([Mv_0, Mv_1, Mv_2, Mv_3, Mv_4, Mv_5, Mv_6, Mv_7, Mv_8, Mv_9, Mv_10, Mv_11, Mv_12, Mv_13, Mv_14] : List (Int32)).getD k 0) (fun k => ([(fun _ => 0), Mf_1, Mf_2, Mf_3, Mf_4, Mf_5, (fun _ => 0), Mf_7] : List (Nat → Int32)).getD k (fun _ => 0)) (fun k => ([Mj_0] : List (Int64)).getD k 0) h_nx h_md h_t h_L h_rp h_c h_bs h_w
