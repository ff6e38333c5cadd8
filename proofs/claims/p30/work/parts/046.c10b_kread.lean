set_option maxRecDepth 100000 in
theorem cu_kX7_readTest_9 (l : Launch) (D : va_G) (tc : Nat → ClassId) (sk : (Nat → Nat) × (Nat → Nat)) (Va_0 : Nat) (Va_1 : Nat) (Vv_0 : Int32) (Vv_1 : Int32) (Vf_1 : Nat → Int32) (Ta_0 : Nat) (Ta_1 : Nat) (Tv_0 : Int32) (Tv_1 : Int32) (Tv_2 : Int32) (Tv_3 : Int32) (Tv_4 : Int32) (Tf_1 : Nat → Int32) (rr : Except Int (Nat × Nat)) (ll : List Int) (h_tape : 0 ≤ (Tv_0 : Int32).toInt ∧ (Tv_0 : Int32).toInt ≤ 400 ∧ 0 ≤ (Tv_1 : Int32).toInt ∧ (Tv_1 : Int32).toInt ≤ 400 ∧ 0 ≤ (Tv_2 : Int32).toInt ∧ (Tv_2 : Int32).toInt ≤ 400) (h_u : 0 ≤ (Vv_0 : Int32).toInt ∧ (Vv_0 : Int32).toInt ≤ 400) (h_by : Byt Tf_1) (h_r : TpR Tf_1 Tv_0 rr Tv_1 Tv_2 Tv_3 Tv_4) (h_ct : Ctd rr Vv_1) (h_cd : CdK Vf_1 Vv_0 rr ll) : Ct l yX7_readTest cX7_readTest 6 none { frames := 11, cells := 0, slots := 0, locals := 253 } D tc sk [.ref Va_0, .ref Ta_0, .int 9] [(Va_0, .inr (7, [.ref Va_1, .int Vv_0, .int Vv_1])), (Va_1, .inl (tc 0, 400, .inl Vf_1)), (Ta_0, .inr (10, [.ref Ta_1, .int Tv_0, .int Tv_1, .int Tv_2, .int Tv_3, .int Tv_4])), (Ta_1, .inl (tc 0, 400, .inl Tf_1))] (fun (v : Option Value) (u : (Int32) × (Int32) × (Nat → Int32) × (Int32) × (Int32) × (Int32) × (Int32)) => match u with | (oo0x1, oo0x2, oo0x3, oo0x4, oo0x5, oo0x6, oo0x7) => v = none ∧ (0 ≤ (Tv_0 : Int32).toInt ∧ (Tv_0 : Int32).toInt ≤ 400 ∧ 0 ≤ (oo0x4 : Int32).toInt ∧ (oo0x4 : Int32).toInt ≤ 400 ∧ 0 ≤ (oo0x5 : Int32).toInt ∧ (oo0x5 : Int32).toInt ≤ 400) ∧ (0 ≤ (oo0x1 : Int32).toInt ∧ (oo0x1 : Int32).toInt ≤ 400) ∧ (TpR Tf_1 Tv_0 (pz_b rr (pz_tst (cB Tf_1 Tv_0) (pz_fact (cB Tf_1 Tv_0) 1))) oo0x4 oo0x5 oo0x6 oo0x7) ∧ (Ctd (pz_b rr (pz_tst (cB Tf_1 Tv_0) (pz_fact (cB Tf_1 Tv_0) 1))) oo0x2) ∧ (CdK oo0x3 oo0x1 (pz_b rr (pz_tst (cB Tf_1 Tv_0) (pz_fact (cB Tf_1 Tv_0) 1))) (Ap rr (ltst (cB Tf_1 Tv_0) 1) ll))) (fun (u : (Int32) × (Int32) × (Nat → Int32) × (Int32) × (Int32) × (Int32) × (Int32)) => match u with | (oo0x1, oo0x2, oo0x3, oo0x4, oo0x5, oo0x6, oo0x7) => [(Va_0, .inr (7, [.ref Va_1, .int oo0x1, .int oo0x2])), (Va_1, .inl (tc 0, 400, .inl oo0x3)), (Ta_0, .inr (10, [.ref Ta_1, .int Tv_0, .int oo0x4, .int oo0x5, .int oo0x6, .int oo0x7])), (Ta_1, .inl (tc 0, 400, .inl Tf_1))]) 0 0 :=
  ct_kX7_readTest_9 l D tc sk (fun k => ([Va_0, Va_1] : List (Nat)).getD k 0) (fun k => ([Vv_0, Vv_1] : List (Int32)).getD k 0) (fun k => ([(fun _ => 0), Vf_1] : List (Nat → Int32)).getD k (fun _ => 0)) (fun k => ([Ta_0, Ta_1] : List (Nat)).getD k 0) (fun k => ([Tv_0, Tv_1, Tv_2, Tv_3, Tv_4] : List (Int32)).getD k 0) (fun k => ([(fun _ => 0), Tf_1] : List (Nat → Int32)).getD k (fun _ => 0)) rr ll h_tape h_u h_by h_r h_ct h_cd
set_option maxHeartbeats 4000000 in
set_option maxRecDepth 100000 in
theorem ct_kX7_readFact_8 (l : Launch) (D : va_G) (tc : Nat → ClassId) (sk : (Nat → Nat) × (Nat → Nat)) (Va : Nat → Nat) (Vv : Nat → Int32) (Vf : Nat → Nat → Int32) (Ta : Nat → Nat) (Tv : Nat → Int32) (Tf : Nat → Nat → Int32) (rr : Except Int (Nat × Nat)) (ll : List Int) (h_tape : 0 ≤ ((Tv 0) : Int32).toInt ∧ ((Tv 0) : Int32).toInt ≤ 400 ∧ 0 ≤ ((Tv 1) : Int32).toInt ∧ ((Tv 1) : Int32).toInt ≤ 400 ∧ 0 ≤ ((Tv 2) : Int32).toInt ∧ ((Tv 2) : Int32).toInt ≤ 400) (h_u : 0 ≤ ((Vv 0) : Int32).toInt ∧ ((Vv 0) : Int32).toInt ≤ 400) (h_by : Byt (Tf 1)) (h_r : TpR (Tf 1) (Tv 0) rr (Tv 1) (Tv 2) (Tv 3) (Tv 4)) (h_ct : Ctd rr (Vv 1)) (h_cd : CdK (Vf 1) (Vv 0) rr ll) : Ct l yX7_readFact cX7_readFact 5 none { frames := 12, cells := 0, slots := 0, locals := 278 } D tc sk [.ref (Va 0), .ref (Ta 0), .int 8] [((Va 0), .inr (7, [.ref (Va 1), .int (Vv 0), .int (Vv 1)])), ((Va 1), .inl (tc 0, 400, .inl (Vf 1))), ((Ta 0), .inr (10, [.ref (Ta 1), .int (Tv 0), .int (Tv 1), .int (Tv 2), .int (Tv 3), .int (Tv 4)])), ((Ta 1), .inl (tc 0, 400, .inl (Tf 1)))] (fun (v : Option Value) (u : (Int32) × (Int32) × (Nat → Int32) × (Int32) × (Int32) × (Int32) × (Int32)) => match u with | (oo0x1, oo0x2, oo0x3, oo0x4, oo0x5, oo0x6, oo0x7) => v = none ∧ (0 ≤ ((Tv 0) : Int32).toInt ∧ ((Tv 0) : Int32).toInt ≤ 400 ∧ 0 ≤ (oo0x4 : Int32).toInt ∧ (oo0x4 : Int32).toInt ≤ 400 ∧ 0 ≤ (oo0x5 : Int32).toInt ∧ (oo0x5 : Int32).toInt ≤ 400) ∧ (0 ≤ (oo0x1 : Int32).toInt ∧ (oo0x1 : Int32).toInt ≤ 400) ∧ (TpR (Tf 1) (Tv 0) (pz_b rr (pz_fact (cB (Tf 1) (Tv 0)) 2)) oo0x4 oo0x5 oo0x6 oo0x7) ∧ (Ctd (pz_b rr (pz_fact (cB (Tf 1) (Tv 0)) 2)) oo0x2) ∧ (CdK oo0x3 oo0x1 (pz_b rr (pz_fact (cB (Tf 1) (Tv 0)) 2)) (Ap rr (ec_fact (cB (Tf 1) (Tv 0)) 2) ll))) (fun (u : (Int32) × (Int32) × (Nat → Int32) × (Int32) × (Int32) × (Int32) × (Int32)) => match u with | (oo0x1, oo0x2, oo0x3, oo0x4, oo0x5, oo0x6, oo0x7) => [((Va 0), .inr (7, [.ref (Va 1), .int oo0x1, .int oo0x2])), ((Va 1), .inl (tc 0, 400, .inl oo0x3)), ((Ta 0), .inr (10, [.ref (Ta 1), .int (Tv 0), .int oo0x4, .int oo0x5, .int oo0x6, .int oo0x7])), ((Ta 1), .inl (tc 0, 400, .inl (Tf 1)))]) 0 0 := by
  refine Ct.start (by decide) (Nat.le_of_ble_eq_true rfl) (fun p e s m below meth c A ls hx hb hr hlk hin hml hown hts hK hX hP hD hA hl hS => ?_)
  have hl : lv_has ls 5 [(0, .ref (Va 0)), (1, .ref (Ta 0)), (2, .int 8)] := hl
  have tb_1 : TpB (rTE (cB (Tf 1) (Tv 0)) rr) (Tv 2) (Tv 4) := TpR.tb h_r
  refine lv_aload_n hx hb dX7_readFact_0 rfl (lv_at hl 1 rfl) ?_
  refine va_ldcS hx hb hown (sx_4 hX) dX7_readFact_1 ?_
  have ha_2 : (4 : Nat) < 7 := by
    have y_4 : (4 : Int32).toInt = 4 := by decide
    omega
  refine cV (a := (Ta 0)) (As := [.ref (sk.1 4)]) (rest := []) (wr := [((Va 0), .inr (7, [.ref (Va 1), .int (Vv 0), .int (Vv 1)])), ((Va 1), .inl (tc 0, 400, .inl (Vf 1)))]) ⟨hx, hb, hml, hown, hts⟩ hK hX hA (cu_fX10_isWord l D tc sk (Ta 0) (Ta 1) (Tv 0) (Tv 1) (Tv 2) (Tv 3) (Tv 4) (Tf 1) 4 rr ha_2 h_tape h_by h_r) k_618 k_615 k_616 k_617 k_96 pl_X10_isWord ⟨Nat.le_of_ble_eq_true rfl, Nat.le_of_ble_eq_true rfl⟩ rfl rfl (va_recv hK hP (ci := 10) (q0 := 2) rfl rfl) hP hD hS [2, 3] [0, 1] rfl rfl rfl rfl rfl (by decide) rfl hl.1 rfl (Nat.le_of_ble_eq_true rfl) dX7_readFact_3 ⟨Nat.le_of_ble_eq_true rfl, Nat.le_of_ble_eq_true rfl⟩ (fun v_3 u_4 H locs hv_5 hP₀ hD₀ hS₀ => ?_)
  obtain ⟨r_6, rfl, he_7, hm_9, hm_10⟩ := hv_5
  have he_7 : (r_6.toInt = 0 ∨ r_6.toInt = 1) := he_7
  refine W.eq (g2 := F0 m 6 ls [.int r_6]) rfl ?_
  replace hP : va_P D classes [((Va 0), .inr (7, [.ref (Va 1), .int (Vv 0), .int (Vv 1)])), ((Va 1), .inl (tc 0, 400, .inl (Vf 1))), ((Ta 0), .inr (10, [.ref (Ta 1), .int (Tv 0), .int (Tv 1), .int (Tv 2), .int (Tv 3), .int (Tv 4)])), ((Ta 1), .inl (tc 0, 400, .inl (Tf 1)))] H := hP₀
  replace hD : va_D A [((Va 0), .inr (7, [.ref (Va 1), .int (Vv 0), .int (Vv 1)])), ((Va 1), .inl (tc 0, 400, .inl (Vf 1))), ((Ta 0), .inr (10, [.ref (Ta 1), .int (Tv 0), .int (Tv 1), .int (Tv 2), .int (Tv 3), .int (Tv 4)])), ((Ta 1), .inl (tc 0, 400, .inl (Tf 1)))] := hD₀
  replace hS := hS₀
  clear hP₀ hD₀ hS₀
  refine lv_istore_n (lv' := [(3, .int r_6), (0, .ref (Va 0)), (1, .ref (Ta 0)), (2, .int 8)]) hx hb dX7_readFact_6 rfl hl (by decide) rfl (fun ls hl₀ => ?_)
  replace hl := hl₀
  clear hl₀
  refine lv_iload_n hx hb dX7_readFact_7 rfl (lv_at hl 0 rfl) ?_
  refine lv_if_ne (tgt := 20) hx hb dX7_readFact_8 (by decide) (fun c_11 => ?_) (fun c_11 => ?_)
  · skip
    have hz_13 : (r_6 : Int32).toInt = 1 := by
      have z_1 : ¬ (r_6 : Int32).toInt = (0 : Int32).toInt := fun z => c_11 (Int32.toInt_inj.mp z)
      have y_0 : (0 : Int32).toInt = 0 := by decide
      omega
    obtain pf_12 := hm_9 hz_13
    have pf_12 : TWd (cB (Tf 1) (Tv 0)) (wS (4 : Nat)) rr := pf_12
    refine lv_iload_n hx hb dX7_readFact_20 rfl (lv_at hl 3 rfl) ?_
    refine lv_bipush (v := 10) hx hb dX7_readFact_21 (by decide) ?_
    refine lv_icmp_lt (tgt := 34) hx hb dX7_readFact_23 (by decide) (fun c_14 => ?_) (fun c_14 => absurd c_14 (by decide))
    refine lv_iload_n hx hb dX7_readFact_34 rfl (lv_at hl 0 rfl) ?_
    refine lv_if_eq (tgt := 59) hx hb dX7_readFact_35 (by decide) (fun c_15 => ?_) (fun c_15 => ?_)
    · skip
      exfalso
      have z_1 : ¬ (r_6 : Int32).toInt = (0 : Int32).toInt := fun z => c_11 (Int32.toInt_inj.mp z)
      have z_2 := congrArg Int32.toInt c_15
      have y_0 : (0 : Int32).toInt = 0 := by decide
      omega
    · skip
      refine lv_aload_n hx hb dX7_readFact_38 rfl (lv_at hl 2 rfl) ?_
      refine cV (a := (Ta 0)) (As := []) (rest := []) (wr := [((Va 0), .inr (7, [.ref (Va 1), .int (Vv 0), .int (Vv 1)])), ((Va 1), .inl (tc 0, 400, .inl (Vf 1)))]) ⟨hx, hb, hml, hown, hts⟩ hK hX hA (cu_fX10_step l D tc sk (Ta 0) (Ta 1) (Tv 0) (Tv 1) (Tv 2) (Tv 3) (Tv 4) (Tf 1) (rTE (cB (Tf 1) (Tv 0)) rr) h_tape h_by tb_1) k_478 k_620 k_476 k_477 k_96 pl_X10_step ⟨Nat.le_of_ble_eq_true rfl, Nat.le_of_ble_eq_true rfl⟩ rfl rfl (va_recv hK hP (ci := 10) (q0 := 2) rfl rfl) hP hD hS [2, 3] [0, 1] rfl rfl rfl rfl rfl (by decide) rfl hl.1 rfl (Nat.le_of_ble_eq_true rfl) dX7_readFact_39 ⟨Nat.le_of_ble_eq_true rfl, Nat.le_of_ble_eq_true rfl⟩ (fun v_16 u_17 H locs hv_18 hP₀ hD₀ hS₀ => ?_)
      obtain ⟨sv_19, sv_20, sv_21⟩ := u_17
      obtain ⟨rfl, pf_22, pf_23⟩ := hv_18
      have pf_22 : 0 ≤ ((Tv 0) : Int32).toInt ∧ ((Tv 0) : Int32).toInt ≤ 400 ∧ 0 ≤ (sv_19 : Int32).toInt ∧ (sv_19 : Int32).toInt ≤ 400 ∧ 0 ≤ (sv_20 : Int32).toInt ∧ (sv_20 : Int32).toInt ≤ 400 := pf_22
      have pf_23 : TpR (Tf 1) (Tv 0) (rSK (cB (Tf 1) (Tv 0)) (rTE (cB (Tf 1) (Tv 0)) rr)) sv_19 sv_20 sv_21 (Tv 4) := pf_23
      rw [rNX_eq] at pf_23
      obtain ⟨ro_24, ero_24⟩ : ∃ z : Except Int (Nat × Nat), z = (rNX (cB (Tf 1) (Tv 0)) rr) := ⟨_, rfl⟩
      rw [← ero_24] at pf_23
      have tb_25 : TpB (rTE (cB (Tf 1) (Tv 0)) ro_24) sv_20 (Tv 4) := TpR.tb pf_23
      have cd_26 : Ctd ro_24 (Vv 1) := by rw [ero_24]; exact (Ctd.nx h_ct)
      have ck_27 : CdK (Vf 1) (Vv 0) ro_24 ll := by rw [ero_24]; exact (CdK.nx h_cd)
      refine W.eq (g2 := F0 m 42 ls []) rfl ?_
      replace hP : va_P D classes [((Va 0), .inr (7, [.ref (Va 1), .int (Vv 0), .int (Vv 1)])), ((Va 1), .inl (tc 0, 400, .inl (Vf 1))), ((Ta 0), .inr (10, [.ref (Ta 1), .int (Tv 0), .int sv_19, .int sv_20, .int sv_21, .int (Tv 4)])), ((Ta 1), .inl (tc 0, 400, .inl (Tf 1)))] H := hP₀
      replace hD : va_D A [((Va 0), .inr (7, [.ref (Va 1), .int (Vv 0), .int (Vv 1)])), ((Va 1), .inl (tc 0, 400, .inl (Vf 1))), ((Ta 0), .inr (10, [.ref (Ta 1), .int (Tv 0), .int sv_19, .int sv_20, .int sv_21, .int (Tv 4)])), ((Ta 1), .inl (tc 0, 400, .inl (Tf 1)))] := hD₀
      replace hS := hS₀
      clear hP₀ hD₀ hS₀
      refine lv_aload_n hx hb dX7_readFact_42 rfl (lv_at hl 1 rfl) ?_
      refine lv_aload_n hx hb dX7_readFact_43 rfl (lv_at hl 2 rfl) ?_
      refine lv_iload_n hx hb dX7_readFact_44 rfl (lv_at hl 3 rfl) ?_
      refine lv_iconst (v := 1) hx hb dX7_readFact_45 (by decide) ?_
      refine lv_iadd hx hb dX7_readFact_46 ?_
      refine lv_lit (v := 9) (by decide) ?_
      refine cV (a := (Va 0)) (As := [.ref (Ta 0), .int 9]) (rest := []) (wr := []) ⟨hx, hb, hml, hown, hts⟩ hK hX hA (cu_kX7_readFact_9 l D tc sk (Va 0) (Va 1) (Vv 0) (Vv 1) (Vf 1) (Ta 0) (Ta 1) (Tv 0) sv_19 sv_20 sv_21 (Tv 4) (Tf 1) ro_24 ll pf_22 h_u h_by pf_23 cd_26 ck_27) k_659 k_656 k_658 k_12 k_99 pl_X7_readFact ⟨Nat.le_of_ble_eq_true rfl, Nat.le_of_ble_eq_true rfl⟩ rfl rfl (va_recv hK hP (ci := 7) (q0 := 0) rfl rfl) hP hD hS [0, 1, 2, 3] [] rfl rfl rfl rfl rfl (by decide) rfl hl.1 rfl (Nat.le_of_ble_eq_true rfl) dX7_readFact_47 ⟨Nat.le_of_ble_eq_true rfl, Nat.le_of_ble_eq_true rfl⟩ (fun v_28 u_29 H locs hv_30 hP₀ hD₀ hS₀ => ?_)
      obtain ⟨sv_31, sv_32, sv_33, sv_34, sv_35, sv_36, sv_37⟩ := u_29
      obtain ⟨rfl, pf_38, pf_39, pf_40, pf_41, pf_42⟩ := hv_30
      have pf_38 : 0 ≤ ((Tv 0) : Int32).toInt ∧ ((Tv 0) : Int32).toInt ≤ 400 ∧ 0 ≤ (sv_34 : Int32).toInt ∧ (sv_34 : Int32).toInt ≤ 400 ∧ 0 ≤ (sv_35 : Int32).toInt ∧ (sv_35 : Int32).toInt ≤ 400 := pf_38
      have pf_39 : 0 ≤ (sv_31 : Int32).toInt ∧ (sv_31 : Int32).toInt ≤ 400 := pf_39
      have pf_40 : TpR (Tf 1) (Tv 0) (pz_b ro_24 (pz_fact (cB (Tf 1) (Tv 0)) 1)) sv_34 sv_35 sv_36 sv_37 := pf_40
      obtain ⟨ro_43, ero_43⟩ : ∃ z : Except Int (Nat × Nat), z = (pz_b ro_24 (pz_fact (cB (Tf 1) (Tv 0)) 1)) := ⟨_, rfl⟩
      rw [← ero_43] at pf_40
      have tb_44 : TpB (rTE (cB (Tf 1) (Tv 0)) ro_43) sv_35 sv_37 := TpR.tb pf_40
      have pf_41 : Ctd (pz_b ro_24 (pz_fact (cB (Tf 1) (Tv 0)) 1)) sv_32 := pf_41
      rw [← ero_43] at pf_41
      have pf_42 : CdK sv_33 sv_31 (pz_b ro_24 (pz_fact (cB (Tf 1) (Tv 0)) 1)) (Ap ro_24 (ec_fact (cB (Tf 1) (Tv 0)) 1) ll) := pf_42
      rw [← ero_43] at pf_42
      obtain ⟨ro_45, ero_45⟩ : ∃ z : List Int, z = (Ap ro_24 (ec_fact (cB (Tf 1) (Tv 0)) 1) ll) := ⟨_, rfl⟩
      rw [← ero_45] at pf_42
      refine W.eq (g2 := F0 m 50 ls []) rfl ?_
      replace hP : va_P D classes [((Va 0), .inr (7, [.ref (Va 1), .int sv_31, .int sv_32])), ((Va 1), .inl (tc 0, 400, .inl sv_33)), ((Ta 0), .inr (10, [.ref (Ta 1), .int (Tv 0), .int sv_34, .int sv_35, .int sv_36, .int sv_37])), ((Ta 1), .inl (tc 0, 400, .inl (Tf 1)))] H := hP₀
      replace hD : va_D A [((Va 0), .inr (7, [.ref (Va 1), .int sv_31, .int sv_32])), ((Va 1), .inl (tc 0, 400, .inl sv_33)), ((Ta 0), .inr (10, [.ref (Ta 1), .int (Tv 0), .int sv_34, .int sv_35, .int sv_36, .int sv_37])), ((Ta 1), .inl (tc 0, 400, .inl (Tf 1)))] := hD₀
      replace hS := hS₀
      clear hP₀ hD₀ hS₀
      refine lv_aload_n hx hb dX7_readFact_50 rfl (lv_at hl 1 rfl) ?_
      refine lv_bipush (v := (-4)) hx hb dX7_readFact_51 (by decide) ?_
      refine cV (a := (Va 0)) (As := [.int (-4)]) (rest := []) (wr := [((Ta 0), .inr (10, [.ref (Ta 1), .int (Tv 0), .int sv_34, .int sv_35, .int sv_36, .int sv_37])), ((Ta 1), .inl (tc 0, 400, .inl (Tf 1)))]) ⟨hx, hb, hml, hown, hts⟩ hK hX hA (cu_kX7_put l D tc sk (Va 0) (Va 1) sv_31 sv_32 sv_33 (-4) ro_43 ro_45 pf_39 pf_42) k_642 k_639 k_641 k_10 k_99 pl_X7_put ⟨Nat.le_of_ble_eq_true rfl, Nat.le_of_ble_eq_true rfl⟩ rfl rfl (va_recv hK hP (ci := 7) (q0 := 0) rfl rfl) hP hD hS [0, 1] [2, 3] rfl rfl rfl rfl rfl (by decide) rfl hl.1 rfl (Nat.le_of_ble_eq_true rfl) dX7_readFact_53 ⟨Nat.le_of_ble_eq_true rfl, Nat.le_of_ble_eq_true rfl⟩ (fun v_46 u_47 H locs hv_48 hP₀ hD₀ hS₀ => ?_)
      obtain ⟨sv_49, sv_50⟩ := u_47
      obtain ⟨rfl, pf_51, pf_52⟩ := hv_48
      have pf_51 : 0 ≤ (sv_49 : Int32).toInt ∧ (sv_49 : Int32).toInt ≤ 400 := pf_51
      have pf_52 : CdK sv_50 sv_49 ro_43 (ro_45 ++ [((-4) : Int32).toInt]) := pf_52
      rw [show ((-4) : Int32).toInt = -4 by decide] at pf_52
      obtain ⟨ro_53, ero_53⟩ : ∃ z : List Int, z = (ro_45 ++ [-4]) := ⟨_, rfl⟩
      rw [← ero_53] at pf_52
      refine W.eq (g2 := F0 m 56 ls []) rfl ?_
      replace hP : va_P D classes [((Ta 0), .inr (10, [.ref (Ta 1), .int (Tv 0), .int sv_34, .int sv_35, .int sv_36, .int sv_37])), ((Ta 1), .inl (tc 0, 400, .inl (Tf 1))), ((Va 0), .inr (7, [.ref (Va 1), .int sv_49, .int sv_32])), ((Va 1), .inl (tc 0, 400, .inl sv_50))] H := hP₀
      replace hD : va_D A [((Ta 0), .inr (10, [.ref (Ta 1), .int (Tv 0), .int sv_34, .int sv_35, .int sv_36, .int sv_37])), ((Ta 1), .inl (tc 0, 400, .inl (Tf 1))), ((Va 0), .inr (7, [.ref (Va 1), .int sv_49, .int sv_32])), ((Va 1), .inl (tc 0, 400, .inl sv_50))] := hD₀
      replace hS := hS₀
      clear hP₀ hD₀ hS₀
      refine lv_goto (tgt := 135) hx hb dX7_readFact_56 (by decide) ?_
      have hf_54 : TpR (Tf 1) (Tv 0) (pz_b rr (pz_fact (cB (Tf 1) (Tv 0)) 2)) sv_34 sv_35 sv_36 sv_37 := by
        have hE_55 : (pz_b rr (pz_fact (cB (Tf 1) (Tv 0)) 2)) = ro_43 := by
          rw [ero_43, ero_24]
          have hw_56 : TWd (cB (Tf 1) (Tv 0)) pz_not rr := by
            rw [← wS4]
            exact pf_12
          exact (fact_not hw_56)
        rw [hE_55]
        exact pf_40
      have hf_57 : Ctd (pz_b rr (pz_fact (cB (Tf 1) (Tv 0)) 2)) sv_32 := by
        have hE_58 : (pz_b rr (pz_fact (cB (Tf 1) (Tv 0)) 2)) = ro_43 := by
          rw [ero_43, ero_24]
          have hw_59 : TWd (cB (Tf 1) (Tv 0)) pz_not rr := by
            rw [← wS4]
            exact pf_12
          exact (fact_not hw_59)
        rw [hE_58]
        exact pf_41
      have hE_60 : (pz_b rr (pz_fact (cB (Tf 1) (Tv 0)) 2)) = ro_43 := by
        rw [ero_43, ero_24]
        have hw_61 : TWd (cB (Tf 1) (Tv 0)) pz_not rr := by
          rw [← wS4]
          exact pf_12
        exact (fact_not hw_61)
      have hf_62 : CdK sv_50 sv_49 (pz_b rr (pz_fact (cB (Tf 1) (Tv 0)) 2)) (Ap rr (ec_fact (cB (Tf 1) (Tv 0)) 2) ll) := CdK.to pf_52 hE_60 (fun t ht => by
        rw [ero_53, ero_45, ero_24]
        have hw_63 : TWd (cB (Tf 1) (Tv 0)) pz_not rr := by
          rw [← wS4]
          exact pf_12
        exact (fl_not hw_63) t ht)
      exact retV hx hb hr hlk hP hD hS (sv_49, sv_32, sv_50, sv_34, sv_35, sv_36, sv_37) ⟨rfl, pf_38, pf_51, hf_54, hf_57, hf_62⟩ [2, 3, 0, 1] rfl rfl dX7_readFact_135 (Nat.le_of_ble_eq_true rfl) (Nat.le_of_ble_eq_true rfl) rfl
  · skip
    have hz_65 : (r_6 : Int32).toInt = 0 := by
      have z_1 := congrArg Int32.toInt c_11
      have y_0 : (0 : Int32).toInt = 0 := by decide
      omega
    obtain pf_64 := hm_10 hz_65
    have pf_64 : NWd (cB (Tf 1) (Tv 0)) (wS (4 : Nat)) rr := pf_64
    refine lv_aload_n hx hb dX7_readFact_11 rfl (lv_at hl 2 rfl) ?_
    refine gf_X7_86 hx hb hts hown hK hP 2 rfl rfl dX7_readFact_12 ?_
    refine lv_bipush (v := 91) hx hb dX7_readFact_15 (by decide) ?_
    refine lv_icmp_ne (tgt := 34) hx hb dX7_readFact_17 (by decide) (fun c_66 => ?_) (fun c_66 => ?_)
    · skip
      refine lv_iload_n hx hb dX7_readFact_34 rfl (lv_at hl 0 rfl) ?_
      refine lv_if_eq (tgt := 59) hx hb dX7_readFact_35 (by decide) (fun c_67 => ?_) (fun c_67 => ?_)
      · skip
        refine lv_aload_n hx hb dX7_readFact_59 rfl (lv_at hl 2 rfl) ?_
        refine lv_bipush (v := 91) hx hb dX7_readFact_60 (by decide) ?_
        have ha_68 : 0 ≤ (91 : Int32).toInt := by
          have z_1 := congrArg Int32.toInt c_11
          have z_2 : ¬ ((Tv 3) : Int32).toInt = (91 : Int32).toInt := fun z => c_66 (Int32.toInt_inj.mp z)
          have z_3 := congrArg Int32.toInt c_67
          have y_0 : (0 : Int32).toInt = 0 := by decide
          have y_91 : (91 : Int32).toInt = 91 := by decide
          omega
        have ha_69 : (91 : Int32).toInt = (91 : Int) := by
          have z_1 := congrArg Int32.toInt c_11
          have z_2 : ¬ ((Tv 3) : Int32).toInt = (91 : Int32).toInt := fun z => c_66 (Int32.toInt_inj.mp z)
          have z_3 := congrArg Int32.toInt c_67
          have y_0 : (0 : Int32).toInt = 0 := by decide
          have y_91 : (91 : Int32).toInt = 91 := by decide
          omega
        refine cV (a := (Ta 0)) (As := [.int 91]) (rest := []) (wr := [((Va 0), .inr (7, [.ref (Va 1), .int (Vv 0), .int (Vv 1)])), ((Va 1), .inl (tc 0, 400, .inl (Vf 1)))]) ⟨hx, hb, hml, hown, hts⟩ hK hX hA (cu_fX10_takes l D tc sk (Ta 0) (Ta 1) (Tv 0) (Tv 1) (Tv 2) (Tv 3) (Tv 4) (Tf 1) 91 rr 91 h_tape h_by h_r ha_68 ha_69) k_492 k_613 k_490 k_491 k_96 pl_X10_takes ⟨Nat.le_of_ble_eq_true rfl, Nat.le_of_ble_eq_true rfl⟩ rfl rfl (va_recv hK hP (ci := 10) (q0 := 2) rfl rfl) hP hD hS [2, 3] [0, 1] rfl rfl rfl rfl rfl (by decide) rfl hl.1 rfl (Nat.le_of_ble_eq_true rfl) dX7_readFact_62 ⟨Nat.le_of_ble_eq_true rfl, Nat.le_of_ble_eq_true rfl⟩ (fun v_70 u_71 H locs hv_72 hP₀ hD₀ hS₀ => ?_)
        obtain ⟨sv_73, sv_74, sv_75⟩ := u_71
        obtain ⟨r_77, rfl, he_78, pf_76, hm_80, hm_81⟩ := hv_72
        have he_78 : (r_77.toInt = 0 ∨ r_77.toInt = 1) := he_78
        have pf_76 : 0 ≤ ((Tv 0) : Int32).toInt ∧ ((Tv 0) : Int32).toInt ≤ 400 ∧ 0 ≤ (sv_73 : Int32).toInt ∧ (sv_73 : Int32).toInt ≤ 400 ∧ 0 ≤ (sv_74 : Int32).toInt ∧ (sv_74 : Int32).toInt ≤ 400 := pf_76
        refine W.eq (g2 := F0 m 65 ls [.int r_77]) rfl ?_
        replace hP : va_P D classes [((Va 0), .inr (7, [.ref (Va 1), .int (Vv 0), .int (Vv 1)])), ((Va 1), .inl (tc 0, 400, .inl (Vf 1))), ((Ta 0), .inr (10, [.ref (Ta 1), .int (Tv 0), .int sv_73, .int sv_74, .int sv_75, .int (Tv 4)])), ((Ta 1), .inl (tc 0, 400, .inl (Tf 1)))] H := hP₀
        replace hD : va_D A [((Va 0), .inr (7, [.ref (Va 1), .int (Vv 0), .int (Vv 1)])), ((Va 1), .inl (tc 0, 400, .inl (Vf 1))), ((Ta 0), .inr (10, [.ref (Ta 1), .int (Tv 0), .int sv_73, .int sv_74, .int sv_75, .int (Tv 4)])), ((Ta 1), .inl (tc 0, 400, .inl (Tf 1)))] := hD₀
        replace hS := hS₀
        clear hP₀ hD₀ hS₀
        refine lv_if_eq (tgt := 93) hx hb dX7_readFact_65 (by decide) (fun c_82 => ?_) (fun c_82 => ?_)
        · skip
          have hz_85 : (r_77 : Int32).toInt = 0 := by
            have z_1 := congrArg Int32.toInt c_11
            have z_2 : ¬ ((Tv 3) : Int32).toInt = (91 : Int32).toInt := fun z => c_66 (Int32.toInt_inj.mp z)
            have z_3 := congrArg Int32.toInt c_67
            have z_4 := congrArg Int32.toInt c_82
            have y_0 : (0 : Int32).toInt = 0 := by decide
            have y_91 : (91 : Int32).toInt = 91 := by decide
            omega
          obtain ⟨pf_83, pf_84⟩ := hm_81 hz_85
          have pf_83 : NSg (cB (Tf 1) (Tv 0)) (91 : Int) rr := pf_83
          have pf_84 : TpR (Tf 1) (Tv 0) rr sv_73 sv_74 sv_75 (Tv 4) := pf_84
          have tb_86 : TpB (rTE (cB (Tf 1) (Tv 0)) rr) sv_74 (Tv 4) := TpR.tb pf_84
          refine lv_aload_n hx hb dX7_readFact_93 rfl (lv_at hl 1 rfl) ?_
          refine lv_aload_n hx hb dX7_readFact_94 rfl (lv_at hl 2 rfl) ?_
          refine cV (a := (Va 0)) (As := [.ref (Ta 0)]) (rest := []) (wr := []) ⟨hx, hb, hml, hown, hts⟩ hK hX hA (cu_kX7_readSum l D tc sk (Va 0) (Va 1) (Vv 0) (Vv 1) (Vf 1) (Ta 0) (Ta 1) (Tv 0) sv_73 sv_74 sv_75 (Tv 4) (Tf 1) rr ll pf_76 h_u h_by pf_84 h_ct h_cd) k_624 k_621 k_623 k_7 k_99 pl_X7_readSum ⟨Nat.le_of_ble_eq_true rfl, Nat.le_of_ble_eq_true rfl⟩ rfl rfl (va_recv hK hP (ci := 7) (q0 := 0) rfl rfl) hP hD hS [0, 1, 2, 3] [] rfl rfl rfl rfl rfl (by decide) rfl hl.1 rfl (Nat.le_of_ble_eq_true rfl) dX7_readFact_95 ⟨Nat.le_of_ble_eq_true rfl, Nat.le_of_ble_eq_true rfl⟩ (fun v_87 u_88 H locs hv_89 hP₀ hD₀ hS₀ => ?_)
          obtain ⟨sv_90, sv_91, sv_92, sv_93, sv_94, sv_95, sv_96⟩ := u_88
          obtain ⟨rfl, pf_97, pf_98, pf_99, pf_100, pf_101⟩ := hv_89
          have pf_97 : 0 ≤ ((Tv 0) : Int32).toInt ∧ ((Tv 0) : Int32).toInt ≤ 400 ∧ 0 ≤ (sv_93 : Int32).toInt ∧ (sv_93 : Int32).toInt ≤ 400 ∧ 0 ≤ (sv_94 : Int32).toInt ∧ (sv_94 : Int32).toInt ≤ 400 := pf_97
          have pf_98 : 0 ≤ (sv_90 : Int32).toInt ∧ (sv_90 : Int32).toInt ≤ 400 := pf_98
          have pf_99 : TpR (Tf 1) (Tv 0) (pz_b rr (pz_sum (cB (Tf 1) (Tv 0)))) sv_93 sv_94 sv_95 sv_96 := pf_99
          obtain ⟨ro_102, ero_102⟩ : ∃ z : Except Int (Nat × Nat), z = (pz_b rr (pz_sum (cB (Tf 1) (Tv 0)))) := ⟨_, rfl⟩
          rw [← ero_102] at pf_99
          have tb_103 : TpB (rTE (cB (Tf 1) (Tv 0)) ro_102) sv_94 sv_96 := TpR.tb pf_99
          have pf_100 : Ctd (pz_b rr (pz_sum (cB (Tf 1) (Tv 0)))) sv_91 := pf_100
          rw [← ero_102] at pf_100
          have pf_101 : CdK sv_92 sv_90 (pz_b rr (pz_sum (cB (Tf 1) (Tv 0)))) (Ap rr (lsum (cB (Tf 1) (Tv 0))) ll) := pf_101
          rw [← ero_102] at pf_101
          obtain ⟨ro_104, ero_104⟩ : ∃ z : List Int, z = (Ap rr (lsum (cB (Tf 1) (Tv 0))) ll) := ⟨_, rfl⟩
          rw [← ero_104] at pf_101
          refine W.eq (g2 := F0 m 98 ls []) rfl ?_
          replace hP : va_P D classes [((Va 0), .inr (7, [.ref (Va 1), .int sv_90, .int sv_91])), ((Va 1), .inl (tc 0, 400, .inl sv_92)), ((Ta 0), .inr (10, [.ref (Ta 1), .int (Tv 0), .int sv_93, .int sv_94, .int sv_95, .int sv_96])), ((Ta 1), .inl (tc 0, 400, .inl (Tf 1)))] H := hP₀
          replace hD : va_D A [((Va 0), .inr (7, [.ref (Va 1), .int sv_90, .int sv_91])), ((Va 1), .inl (tc 0, 400, .inl sv_92)), ((Ta 0), .inr (10, [.ref (Ta 1), .int (Tv 0), .int sv_93, .int sv_94, .int sv_95, .int sv_96])), ((Ta 1), .inl (tc 0, 400, .inl (Tf 1)))] := hD₀
          replace hS := hS₀
          clear hP₀ hD₀ hS₀
          refine lv_aload_n hx hb dX7_readFact_98 rfl (lv_at hl 2 rfl) ?_
          refine cS (As := [.ref (Ta 0)]) (rest := []) (wr := [((Va 0), .inr (7, [.ref (Va 1), .int sv_90, .int sv_91])), ((Va 1), .inl (tc 0, 400, .inl sv_92))]) ⟨hx, hb, hml, hown, hts⟩ hK hX hA (cu_kX7_comparison l D tc sk (Ta 0) (Ta 1) (Tv 0) sv_93 sv_94 sv_95 sv_96 (Tf 1) pf_97) k_663 k_661 k_662 k_99 pl_X7_comparison ⟨Nat.le_of_ble_eq_true rfl, Nat.le_of_ble_eq_true rfl⟩ rfl rfl  hP hD hS [2, 3] [0, 1] rfl rfl rfl rfl rfl (by decide) rfl hl.1 rfl (Nat.le_of_ble_eq_true rfl) dX7_readFact_99 ⟨Nat.le_of_ble_eq_true rfl, Nat.le_of_ble_eq_true rfl⟩ (fun v_105 u_106 H locs hv_107 hP₀ hD₀ hS₀ => ?_)
          obtain ⟨r_108, rfl, he_109⟩ := hv_107
          have he_109 : (((r_108.toInt = -1 ∧ ¬ (60 ≤ sv_95.toInt ∧ sv_95.toInt ≤ 62)) ∨ (r_108.toInt ≤ -7 ∧ 60 ≤ sv_95.toInt ∧ sv_95.toInt ≤ 62)) ∧ ((60 ≤ sv_95.toInt ∧ sv_95.toInt ≤ 62) → r_108.toInt = ec_cc sv_95.toInt (sv_94.toInt - sv_93.toInt))) := he_109
          refine W.eq (g2 := F0 m 102 ls [.int r_108]) rfl ?_
          replace hP : va_P D classes [((Va 0), .inr (7, [.ref (Va 1), .int sv_90, .int sv_91])), ((Va 1), .inl (tc 0, 400, .inl sv_92)), ((Ta 0), .inr (10, [.ref (Ta 1), .int (Tv 0), .int sv_93, .int sv_94, .int sv_95, .int sv_96])), ((Ta 1), .inl (tc 0, 400, .inl (Tf 1)))] H := hP₀
          replace hD : va_D A [((Va 0), .inr (7, [.ref (Va 1), .int sv_90, .int sv_91])), ((Va 1), .inl (tc 0, 400, .inl sv_92)), ((Ta 0), .inr (10, [.ref (Ta 1), .int (Tv 0), .int sv_93, .int sv_94, .int sv_95, .int sv_96])), ((Ta 1), .inl (tc 0, 400, .inl (Tf 1)))] := hD₀
          replace hS := hS₀
          clear hP₀ hD₀ hS₀
          refine lv_istore (lv' := [(4, .int r_108), (3, .int r_6), (0, .ref (Va 0)), (1, .ref (Ta 0)), (2, .int 8)]) hx hb dX7_readFact_102 hl (by decide) rfl (fun ls hl₀ => ?_)
          replace hl := hl₀
          clear hl₀
          refine lv_iload hx hb dX7_readFact_104 (lv_at hl 0 rfl) ?_
          refine lv_iconst (v := (-1)) hx hb dX7_readFact_106 (by decide) ?_
          refine lv_icmp_ne (tgt := 115) hx hb dX7_readFact_107 (by decide) (fun c_111 => ?_) (fun c_111 => ?_)
          · skip
            refine lv_aload_n hx hb dX7_readFact_115 rfl (lv_at hl 2 rfl) ?_
            refine lv_aload_n hx hb dX7_readFact_116 rfl (lv_at hl 3 rfl) ?_
            refine cV (a := (Va 0)) (As := [.ref (Ta 0)]) (rest := []) (wr := []) ⟨hx, hb, hml, hown, hts⟩ hK hX hA (cu_fX7_countOne l D tc sk (Va 0) (Va 1) sv_90 sv_91 sv_92 (Ta 0) (Ta 1) (Tv 0) sv_93 sv_94 sv_95 sv_96 (Tf 1) ro_102 pf_97 pf_98 h_by pf_99 pf_100) k_638 k_635 k_637 k_9 k_99 pl_X7_countOne ⟨Nat.le_of_ble_eq_true rfl, Nat.le_of_ble_eq_true rfl⟩ rfl rfl (va_recv hK hP (ci := 7) (q0 := 0) rfl rfl) hP hD hS [0, 1, 2, 3] [] rfl rfl rfl rfl rfl (by decide) rfl hl.1 rfl (Nat.le_of_ble_eq_true rfl) dX7_readFact_117 ⟨Nat.le_of_ble_eq_true rfl, Nat.le_of_ble_eq_true rfl⟩ (fun v_112 u_113 H locs hv_114 hP₀ hD₀ hS₀ => ?_)
            obtain ⟨sv_115, sv_116, sv_117⟩ := u_113
            obtain ⟨rfl, pf_118, pf_119, pf_120, pf_121⟩ := hv_114
            have pf_118 : 0 ≤ ((Tv 0) : Int32).toInt ∧ ((Tv 0) : Int32).toInt ≤ 400 ∧ 0 ≤ (sv_93 : Int32).toInt ∧ (sv_93 : Int32).toInt ≤ 400 ∧ 0 ≤ (sv_94 : Int32).toInt ∧ (sv_94 : Int32).toInt ≤ 400 := pf_118
            have pf_119 : 0 ≤ (sv_90 : Int32).toInt ∧ (sv_90 : Int32).toInt ≤ 400 := pf_119
            have pf_120 : TpR (Tf 1) (Tv 0) (rC1 ro_102) sv_93 sv_94 sv_116 sv_117 := pf_120
            obtain ⟨ro_122, ero_122⟩ : ∃ z : Except Int (Nat × Nat), z = (rC1 ro_102) := ⟨_, rfl⟩
            rw [← ero_122] at pf_120
            have tb_123 : TpB (rTE (cB (Tf 1) (Tv 0)) ro_122) sv_94 sv_117 := TpR.tb pf_120
            have ck_124 : CdK sv_92 sv_90 ro_122 ro_104 := by rw [ero_122]; exact (CdK.c1 pf_101)
            have pf_121 : Ctd (rC1 ro_102) sv_115 := pf_121
            rw [← ero_122] at pf_121
            refine W.eq (g2 := F0 m 120 ls []) rfl ?_
            replace hP : va_P D classes [((Va 0), .inr (7, [.ref (Va 1), .int sv_90, .int sv_115])), ((Va 1), .inl (tc 0, 400, .inl sv_92)), ((Ta 0), .inr (10, [.ref (Ta 1), .int (Tv 0), .int sv_93, .int sv_94, .int sv_116, .int sv_117])), ((Ta 1), .inl (tc 0, 400, .inl (Tf 1)))] H := hP₀
            replace hD : va_D A [((Va 0), .inr (7, [.ref (Va 1), .int sv_90, .int sv_115])), ((Va 1), .inl (tc 0, 400, .inl sv_92)), ((Ta 0), .inr (10, [.ref (Ta 1), .int (Tv 0), .int sv_93, .int sv_94, .int sv_116, .int sv_117])), ((Ta 1), .inl (tc 0, 400, .inl (Tf 1)))] := hD₀
            replace hS := hS₀
            clear hP₀ hD₀ hS₀
            refine lv_aload_n hx hb dX7_readFact_120 rfl (lv_at hl 3 rfl) ?_
            refine cV (a := (Ta 0)) (As := []) (rest := []) (wr := [((Va 0), .inr (7, [.ref (Va 1), .int sv_90, .int sv_115])), ((Va 1), .inl (tc 0, 400, .inl sv_92))]) ⟨hx, hb, hml, hown, hts⟩ hK hX hA (cu_fX10_step l D tc sk (Ta 0) (Ta 1) (Tv 0) sv_93 sv_94 sv_116 sv_117 (Tf 1) (rTE (cB (Tf 1) (Tv 0)) ro_122) pf_118 h_by tb_123) k_478 k_620 k_476 k_477 k_96 pl_X10_step ⟨Nat.le_of_ble_eq_true rfl, Nat.le_of_ble_eq_true rfl⟩ rfl rfl (va_recv hK hP (ci := 10) (q0 := 2) rfl rfl) hP hD hS [2, 3] [0, 1] rfl rfl rfl rfl rfl (by decide) rfl hl.1 rfl (Nat.le_of_ble_eq_true rfl) dX7_readFact_121 ⟨Nat.le_of_ble_eq_true rfl, Nat.le_of_ble_eq_true rfl⟩ (fun v_125 u_126 H locs hv_127 hP₀ hD₀ hS₀ => ?_)
            obtain ⟨sv_128, sv_129, sv_130⟩ := u_126
            obtain ⟨rfl, pf_131, pf_132⟩ := hv_127
            have pf_131 : 0 ≤ ((Tv 0) : Int32).toInt ∧ ((Tv 0) : Int32).toInt ≤ 400 ∧ 0 ≤ (sv_128 : Int32).toInt ∧ (sv_128 : Int32).toInt ≤ 400 ∧ 0 ≤ (sv_129 : Int32).toInt ∧ (sv_129 : Int32).toInt ≤ 400 := pf_131
            have pf_132 : TpR (Tf 1) (Tv 0) (rSK (cB (Tf 1) (Tv 0)) (rTE (cB (Tf 1) (Tv 0)) ro_122)) sv_128 sv_129 sv_130 sv_117 := pf_132
            rw [rNX_eq] at pf_132
            obtain ⟨ro_133, ero_133⟩ : ∃ z : Except Int (Nat × Nat), z = (rNX (cB (Tf 1) (Tv 0)) ro_122) := ⟨_, rfl⟩
            rw [← ero_133] at pf_132
            have tb_134 : TpB (rTE (cB (Tf 1) (Tv 0)) ro_133) sv_129 sv_117 := TpR.tb pf_132
            have cd_135 : Ctd ro_133 sv_115 := by rw [ero_133]; exact (Ctd.nx pf_121)
            have ck_136 : CdK sv_92 sv_90 ro_133 ro_104 := by rw [ero_133]; exact (CdK.nx ck_124)
            refine W.eq (g2 := F0 m 124 ls []) rfl ?_
            replace hP : va_P D classes [((Va 0), .inr (7, [.ref (Va 1), .int sv_90, .int sv_115])), ((Va 1), .inl (tc 0, 400, .inl sv_92)), ((Ta 0), .inr (10, [.ref (Ta 1), .int (Tv 0), .int sv_128, .int sv_129, .int sv_130, .int sv_117])), ((Ta 1), .inl (tc 0, 400, .inl (Tf 1)))] H := hP₀
            replace hD : va_D A [((Va 0), .inr (7, [.ref (Va 1), .int sv_90, .int sv_115])), ((Va 1), .inl (tc 0, 400, .inl sv_92)), ((Ta 0), .inr (10, [.ref (Ta 1), .int (Tv 0), .int sv_128, .int sv_129, .int sv_130, .int sv_117])), ((Ta 1), .inl (tc 0, 400, .inl (Tf 1)))] := hD₀
            replace hS := hS₀
            clear hP₀ hD₀ hS₀
            refine lv_aload_n hx hb dX7_readFact_124 rfl (lv_at hl 2 rfl) ?_
            refine lv_aload_n hx hb dX7_readFact_125 rfl (lv_at hl 3 rfl) ?_
            refine cV (a := (Va 0)) (As := [.ref (Ta 0)]) (rest := []) (wr := []) ⟨hx, hb, hml, hown, hts⟩ hK hX hA (cu_kX7_readSum l D tc sk (Va 0) (Va 1) sv_90 sv_115 sv_92 (Ta 0) (Ta 1) (Tv 0) sv_128 sv_129 sv_130 sv_117 (Tf 1) ro_133 ro_104 pf_131 pf_119 h_by pf_132 cd_135 ck_136) k_624 k_621 k_623 k_7 k_99 pl_X7_readSum ⟨Nat.le_of_ble_eq_true rfl, Nat.le_of_ble_eq_true rfl⟩ rfl rfl (va_recv hK hP (ci := 7) (q0 := 0) rfl rfl) hP hD hS [0, 1, 2, 3] [] rfl rfl rfl rfl rfl (by decide) rfl hl.1 rfl (Nat.le_of_ble_eq_true rfl) dX7_readFact_126 ⟨Nat.le_of_ble_eq_true rfl, Nat.le_of_ble_eq_true rfl⟩ (fun v_137 u_138 H locs hv_139 hP₀ hD₀ hS₀ => ?_)
            obtain ⟨sv_140, sv_141, sv_142, sv_143, sv_144, sv_145, sv_146⟩ := u_138
            obtain ⟨rfl, pf_147, pf_148, pf_149, pf_150, pf_151⟩ := hv_139
            have pf_147 : 0 ≤ ((Tv 0) : Int32).toInt ∧ ((Tv 0) : Int32).toInt ≤ 400 ∧ 0 ≤ (sv_143 : Int32).toInt ∧ (sv_143 : Int32).toInt ≤ 400 ∧ 0 ≤ (sv_144 : Int32).toInt ∧ (sv_144 : Int32).toInt ≤ 400 := pf_147
            have pf_148 : 0 ≤ (sv_140 : Int32).toInt ∧ (sv_140 : Int32).toInt ≤ 400 := pf_148
            have pf_149 : TpR (Tf 1) (Tv 0) (pz_b ro_133 (pz_sum (cB (Tf 1) (Tv 0)))) sv_143 sv_144 sv_145 sv_146 := pf_149
            obtain ⟨ro_152, ero_152⟩ : ∃ z : Except Int (Nat × Nat), z = (pz_b ro_133 (pz_sum (cB (Tf 1) (Tv 0)))) := ⟨_, rfl⟩
            rw [← ero_152] at pf_149
            have tb_153 : TpB (rTE (cB (Tf 1) (Tv 0)) ro_152) sv_144 sv_146 := TpR.tb pf_149
            have pf_150 : Ctd (pz_b ro_133 (pz_sum (cB (Tf 1) (Tv 0)))) sv_141 := pf_150
            rw [← ero_152] at pf_150
            have pf_151 : CdK sv_142 sv_140 (pz_b ro_133 (pz_sum (cB (Tf 1) (Tv 0)))) (Ap ro_133 (lsum (cB (Tf 1) (Tv 0))) ro_104) := pf_151
            rw [← ero_152] at pf_151
            obtain ⟨ro_154, ero_154⟩ : ∃ z : List Int, z = (Ap ro_133 (lsum (cB (Tf 1) (Tv 0))) ro_104) := ⟨_, rfl⟩
            rw [← ero_154] at pf_151
            refine W.eq (g2 := F0 m 129 ls []) rfl ?_
            replace hP : va_P D classes [((Va 0), .inr (7, [.ref (Va 1), .int sv_140, .int sv_141])), ((Va 1), .inl (tc 0, 400, .inl sv_142)), ((Ta 0), .inr (10, [.ref (Ta 1), .int (Tv 0), .int sv_143, .int sv_144, .int sv_145, .int sv_146])), ((Ta 1), .inl (tc 0, 400, .inl (Tf 1)))] H := hP₀
            replace hD : va_D A [((Va 0), .inr (7, [.ref (Va 1), .int sv_140, .int sv_141])), ((Va 1), .inl (tc 0, 400, .inl sv_142)), ((Ta 0), .inr (10, [.ref (Ta 1), .int (Tv 0), .int sv_143, .int sv_144, .int sv_145, .int sv_146])), ((Ta 1), .inl (tc 0, 400, .inl (Tf 1)))] := hD₀
            replace hS := hS₀
            clear hP₀ hD₀ hS₀
            refine lv_aload_n hx hb dX7_readFact_129 rfl (lv_at hl 2 rfl) ?_
            refine lv_iload hx hb dX7_readFact_130 (lv_at hl 0 rfl) ?_
            refine cV (a := (Va 0)) (As := [.int r_108]) (rest := []) (wr := [((Ta 0), .inr (10, [.ref (Ta 1), .int (Tv 0), .int sv_143, .int sv_144, .int sv_145, .int sv_146])), ((Ta 1), .inl (tc 0, 400, .inl (Tf 1)))]) ⟨hx, hb, hml, hown, hts⟩ hK hX hA (cu_kX7_put l D tc sk (Va 0) (Va 1) sv_140 sv_141 sv_142 r_108 ro_152 ro_154 pf_148 pf_151) k_642 k_639 k_641 k_10 k_99 pl_X7_put ⟨Nat.le_of_ble_eq_true rfl, Nat.le_of_ble_eq_true rfl⟩ rfl rfl (va_recv hK hP (ci := 7) (q0 := 0) rfl rfl) hP hD hS [0, 1] [2, 3] rfl rfl rfl rfl rfl (by decide) rfl hl.1 rfl (Nat.le_of_ble_eq_true rfl) dX7_readFact_132 ⟨Nat.le_of_ble_eq_true rfl, Nat.le_of_ble_eq_true rfl⟩ (fun v_155 u_156 H locs hv_157 hP₀ hD₀ hS₀ => ?_)
            obtain ⟨sv_158, sv_159⟩ := u_156
            obtain ⟨rfl, pf_160, pf_161⟩ := hv_157
            have pf_160 : 0 ≤ (sv_158 : Int32).toInt ∧ (sv_158 : Int32).toInt ≤ 400 := pf_160
            have pf_161 : CdK sv_159 sv_158 ro_152 (ro_154 ++ [r_108.toInt]) := pf_161
            obtain ⟨ro_162, ero_162⟩ : ∃ z : List Int, z = (ro_154 ++ [r_108.toInt]) := ⟨_, rfl⟩
            rw [← ero_162] at pf_161
            refine W.eq (g2 := F0 m 135 ls []) rfl ?_
            replace hP : va_P D classes [((Ta 0), .inr (10, [.ref (Ta 1), .int (Tv 0), .int sv_143, .int sv_144, .int sv_145, .int sv_146])), ((Ta 1), .inl (tc 0, 400, .inl (Tf 1))), ((Va 0), .inr (7, [.ref (Va 1), .int sv_158, .int sv_141])), ((Va 1), .inl (tc 0, 400, .inl sv_159))] H := hP₀
            replace hD : va_D A [((Ta 0), .inr (10, [.ref (Ta 1), .int (Tv 0), .int sv_143, .int sv_144, .int sv_145, .int sv_146])), ((Ta 1), .inl (tc 0, 400, .inl (Tf 1))), ((Va 0), .inr (7, [.ref (Va 1), .int sv_158, .int sv_141])), ((Va 1), .inl (tc 0, 400, .inl sv_159))] := hD₀
            replace hS := hS₀
            clear hP₀ hD₀ hS₀
            have hf_163 : TpR (Tf 1) (Tv 0) (pz_b rr (pz_fact (cB (Tf 1) (Tv 0)) 2)) sv_143 sv_144 sv_145 sv_146 := by
              have hE_164 : (pz_b rr (pz_fact (cB (Tf 1) (Tv 0)) 2)) = ro_152 := by
                rw [ero_152, ero_133, ero_122, ero_102]
                have hw_165 : NWd (cB (Tf 1) (Tv 0)) pz_not rr := by
                  rw [← wS4]
                  exact pf_64
                have hw_166 : NSg (cB (Tf 1) (Tv 0)) 91 rr := by
                  exact pf_83
                have hu_167 : TpR (Tf 1) (Tv 0) (pz_b rr (pz_sum (cB (Tf 1) (Tv 0)))) sv_93 sv_94 sv_95 sv_96 := by
                  rw [← ero_102]
                  exact pf_99
                have hr_168 : 60 ≤ (sv_95 : Int32).toInt ∧ (sv_95 : Int32).toInt ≤ 62 := by
                  have z_1 := congrArg Int32.toInt c_11
                  have z_2 : ¬ ((Tv 3) : Int32).toInt = (91 : Int32).toInt := fun z => c_66 (Int32.toInt_inj.mp z)
                  have z_3 := congrArg Int32.toInt c_67
                  have z_4 := congrArg Int32.toInt c_82
                  have z_5 : ¬ (r_108 : Int32).toInt = ((-1) : Int32).toInt := fun z => c_111 (Int32.toInt_inj.mp z)
                  have y_m1 : (-1 : Int32).toInt = -1 := by decide
                  have y_0 : (0 : Int32).toInt = 0 := by decide
                  have y_91 : (91 : Int32).toInt = 91 := by decide
                  omega
                exact ((fact_com hw_165 hw_166).trans (congrArg (fun z => pz_b z (pz_sum (cB (Tf 1) (Tv 0)))) (com_yes hu_167 hr_168)))
              rw [hE_164]
              exact pf_149
            have hf_169 : Ctd (pz_b rr (pz_fact (cB (Tf 1) (Tv 0)) 2)) sv_141 := by
              have hE_170 : (pz_b rr (pz_fact (cB (Tf 1) (Tv 0)) 2)) = ro_152 := by
                rw [ero_152, ero_133, ero_122, ero_102]
                have hw_171 : NWd (cB (Tf 1) (Tv 0)) pz_not rr := by
                  rw [← wS4]
                  exact pf_64
                have hw_172 : NSg (cB (Tf 1) (Tv 0)) 91 rr := by
                  exact pf_83
                have hu_173 : TpR (Tf 1) (Tv 0) (pz_b rr (pz_sum (cB (Tf 1) (Tv 0)))) sv_93 sv_94 sv_95 sv_96 := by
                  rw [← ero_102]
                  exact pf_99
                have hr_174 : 60 ≤ (sv_95 : Int32).toInt ∧ (sv_95 : Int32).toInt ≤ 62 := by
                  have z_1 := congrArg Int32.toInt c_11
                  have z_2 : ¬ ((Tv 3) : Int32).toInt = (91 : Int32).toInt := fun z => c_66 (Int32.toInt_inj.mp z)
                  have z_3 := congrArg Int32.toInt c_67
                  have z_4 := congrArg Int32.toInt c_82
                  have z_5 : ¬ (r_108 : Int32).toInt = ((-1) : Int32).toInt := fun z => c_111 (Int32.toInt_inj.mp z)
                  have y_m1 : (-1 : Int32).toInt = -1 := by decide
                  have y_0 : (0 : Int32).toInt = 0 := by decide
                  have y_91 : (91 : Int32).toInt = 91 := by decide
                  omega
                exact ((fact_com hw_171 hw_172).trans (congrArg (fun z => pz_b z (pz_sum (cB (Tf 1) (Tv 0)))) (com_yes hu_173 hr_174)))
              rw [hE_170]
              exact pf_150
            have hE_175 : (pz_b rr (pz_fact (cB (Tf 1) (Tv 0)) 2)) = ro_152 := by
              rw [ero_152, ero_133, ero_122, ero_102]
              have hw_176 : NWd (cB (Tf 1) (Tv 0)) pz_not rr := by
                rw [← wS4]
                exact pf_64
              have hw_177 : NSg (cB (Tf 1) (Tv 0)) 91 rr := by
                exact pf_83
              have hu_178 : TpR (Tf 1) (Tv 0) (pz_b rr (pz_sum (cB (Tf 1) (Tv 0)))) sv_93 sv_94 sv_95 sv_96 := by
                rw [← ero_102]
                exact pf_99
              have hr_179 : 60 ≤ (sv_95 : Int32).toInt ∧ (sv_95 : Int32).toInt ≤ 62 := by
                have z_1 := congrArg Int32.toInt c_11
                have z_2 : ¬ ((Tv 3) : Int32).toInt = (91 : Int32).toInt := fun z => c_66 (Int32.toInt_inj.mp z)
                have z_3 := congrArg Int32.toInt c_67
                have z_4 := congrArg Int32.toInt c_82
                have z_5 : ¬ (r_108 : Int32).toInt = ((-1) : Int32).toInt := fun z => c_111 (Int32.toInt_inj.mp z)
                have y_m1 : (-1 : Int32).toInt = -1 := by decide
                have y_0 : (0 : Int32).toInt = 0 := by decide
                have y_91 : (91 : Int32).toInt = 91 := by decide
                omega
              exact ((fact_com hw_176 hw_177).trans (congrArg (fun z => pz_b z (pz_sum (cB (Tf 1) (Tv 0)))) (com_yes hu_178 hr_179)))
            have hf_180 : CdK sv_159 sv_158 (pz_b rr (pz_fact (cB (Tf 1) (Tv 0)) 2)) (Ap rr (ec_fact (cB (Tf 1) (Tv 0)) 2) ll) := CdK.to pf_161 hE_175 (fun t ht => by
              rw [ero_162, ero_154, ero_133, ero_122, ero_104]
              have hw_181 : NWd (cB (Tf 1) (Tv 0)) pz_not rr := by
                rw [← wS4]
                exact pf_64
              have hw_182 : NSg (cB (Tf 1) (Tv 0)) 91 rr := by
                exact pf_83
              have hr_183 : 60 ≤ (sv_95 : Int32).toInt ∧ (sv_95 : Int32).toInt ≤ 62 := by
                have z_1 := congrArg Int32.toInt c_11
                have z_2 : ¬ ((Tv 3) : Int32).toInt = (91 : Int32).toInt := fun z => c_66 (Int32.toInt_inj.mp z)
                have z_3 := congrArg Int32.toInt c_67
                have z_4 := congrArg Int32.toInt c_82
                have z_5 : ¬ (r_108 : Int32).toInt = ((-1) : Int32).toInt := fun z => c_111 (Int32.toInt_inj.mp z)
                have y_m1 : (-1 : Int32).toInt = -1 := by decide
                have y_0 : (0 : Int32).toInt = 0 := by decide
                have y_91 : (91 : Int32).toInt = 91 := by decide
                omega
              exact (fl_com hw_181 hw_182 ero_102 pf_99 hr_183 (he_109.2 hr_183)) t ht)
            exact retV hx hb hr hlk hP hD hS (sv_158, sv_141, sv_159, sv_143, sv_144, sv_145, sv_146) ⟨rfl, pf_147, pf_160, hf_163, hf_169, hf_180⟩ [2, 3, 0, 1] rfl rfl dX7_readFact_135 (Nat.le_of_ble_eq_true rfl) (Nat.le_of_ble_eq_true rfl) rfl
          · skip
            refine lv_aload_n hx hb dX7_readFact_110 rfl (lv_at hl 3 rfl) ?_
            refine lv_iconst (v := 0) hx hb dX7_readFact_111 (by decide) ?_
            have ha_184 : 0 ≤ (0 : Int32).toInt ∧ (0 : Int32).toInt ≤ 4 := by
              have z_1 := congrArg Int32.toInt c_11
              have z_2 : ¬ ((Tv 3) : Int32).toInt = (91 : Int32).toInt := fun z => c_66 (Int32.toInt_inj.mp z)
              have z_3 := congrArg Int32.toInt c_67
              have z_4 := congrArg Int32.toInt c_82
              have z_5 := congrArg Int32.toInt c_111
              have y_m1 : (-1 : Int32).toInt = -1 := by decide
              have y_0 : (0 : Int32).toInt = 0 := by decide
              have y_91 : (91 : Int32).toInt = 91 := by decide
              omega
            have ha_185 : (0 : Int32).toInt = (0 : Int) := by
              have z_1 := congrArg Int32.toInt c_11
              have z_2 : ¬ ((Tv 3) : Int32).toInt = (91 : Int32).toInt := fun z => c_66 (Int32.toInt_inj.mp z)
              have z_3 := congrArg Int32.toInt c_67
              have z_4 := congrArg Int32.toInt c_82
              have z_5 := congrArg Int32.toInt c_111
              have y_m1 : (-1 : Int32).toInt = -1 := by decide
              have y_0 : (0 : Int32).toInt = 0 := by decide
              have y_91 : (91 : Int32).toInt = 91 := by decide
              omega
            refine cV (a := (Ta 0)) (As := [.int 0]) (rest := []) (wr := [((Va 0), .inr (7, [.ref (Va 1), .int sv_90, .int sv_91])), ((Va 1), .inl (tc 0, 400, .inl sv_92))]) ⟨hx, hb, hml, hown, hts⟩ hK hX hA (cu_fX10_fail l D tc sk (Ta 0) (Ta 1) (Tv 0) sv_93 sv_94 sv_95 sv_96 (Tf 1) 0 ro_102 0 pf_97 pf_99 ha_184 ha_185) k_557 k_619 k_555 k_556 k_96 pl_X10_fail ⟨Nat.le_of_ble_eq_true rfl, Nat.le_of_ble_eq_true rfl⟩ rfl rfl (va_recv hK hP (ci := 10) (q0 := 2) rfl rfl) hP hD hS [2, 3] [0, 1] rfl rfl rfl rfl rfl (by decide) rfl hl.1 rfl (Nat.le_of_ble_eq_true rfl) dX7_readFact_112 ⟨Nat.le_of_ble_eq_true rfl, Nat.le_of_ble_eq_true rfl⟩ (fun v_186 u_187 H locs hv_188 hP₀ hD₀ hS₀ => ?_)
            obtain ⟨sv_189, sv_190⟩ := u_187
            obtain ⟨rfl, pf_191, pf_192⟩ := hv_188
            have pf_191 : 0 ≤ ((Tv 0) : Int32).toInt ∧ ((Tv 0) : Int32).toInt ≤ 400 ∧ 0 ≤ (sv_93 : Int32).toInt ∧ (sv_93 : Int32).toInt ≤ 400 ∧ 0 ≤ (sv_94 : Int32).toInt ∧ (sv_94 : Int32).toInt ≤ 400 := pf_191
            have pf_192 : TpR (Tf 1) (Tv 0) (rER (0 : Int) ro_102) sv_93 sv_94 sv_189 sv_190 := pf_192
            obtain ⟨ro_193, ero_193⟩ : ∃ z : Except Int (Nat × Nat), z = (rER 0 ro_102) := ⟨_, rfl⟩
            rw [← ero_193] at pf_192
            have tb_194 : TpB (rTE (cB (Tf 1) (Tv 0)) ro_193) sv_94 sv_190 := TpR.tb pf_192
            have cd_195 : Ctd ro_193 sv_91 := by rw [ero_193]; exact (Ctd.er)
            have ck_196 : CdK sv_92 sv_90 ro_193 ro_104 := by rw [ero_193]; exact (CdK.er)
            refine W.eq (g2 := F0 m 115 ls []) rfl ?_
            replace hP : va_P D classes [((Va 0), .inr (7, [.ref (Va 1), .int sv_90, .int sv_91])), ((Va 1), .inl (tc 0, 400, .inl sv_92)), ((Ta 0), .inr (10, [.ref (Ta 1), .int (Tv 0), .int sv_93, .int sv_94, .int sv_189, .int sv_190])), ((Ta 1), .inl (tc 0, 400, .inl (Tf 1)))] H := hP₀
            replace hD : va_D A [((Va 0), .inr (7, [.ref (Va 1), .int sv_90, .int sv_91])), ((Va 1), .inl (tc 0, 400, .inl sv_92)), ((Ta 0), .inr (10, [.ref (Ta 1), .int (Tv 0), .int sv_93, .int sv_94, .int sv_189, .int sv_190])), ((Ta 1), .inl (tc 0, 400, .inl (Tf 1)))] := hD₀
            replace hS := hS₀
            clear hP₀ hD₀ hS₀
            refine lv_aload_n hx hb dX7_readFact_115 rfl (lv_at hl 2 rfl) ?_
            refine lv_aload_n hx hb dX7_readFact_116 rfl (lv_at hl 3 rfl) ?_
            refine cV (a := (Va 0)) (As := [.ref (Ta 0)]) (rest := []) (wr := []) ⟨hx, hb, hml, hown, hts⟩ hK hX hA (cu_fX7_countOne l D tc sk (Va 0) (Va 1) sv_90 sv_91 sv_92 (Ta 0) (Ta 1) (Tv 0) sv_93 sv_94 sv_189 sv_190 (Tf 1) ro_193 pf_191 pf_98 h_by pf_192 cd_195) k_638 k_635 k_637 k_9 k_99 pl_X7_countOne ⟨Nat.le_of_ble_eq_true rfl, Nat.le_of_ble_eq_true rfl⟩ rfl rfl (va_recv hK hP (ci := 7) (q0 := 0) rfl rfl) hP hD hS [0, 1, 2, 3] [] rfl rfl rfl rfl rfl (by decide) rfl hl.1 rfl (Nat.le_of_ble_eq_true rfl) dX7_readFact_117 ⟨Nat.le_of_ble_eq_true rfl, Nat.le_of_ble_eq_true rfl⟩ (fun v_197 u_198 H locs hv_199 hP₀ hD₀ hS₀ => ?_)
            obtain ⟨sv_200, sv_201, sv_202⟩ := u_198
            obtain ⟨rfl, pf_203, pf_204, pf_205, pf_206⟩ := hv_199
            have pf_203 : 0 ≤ ((Tv 0) : Int32).toInt ∧ ((Tv 0) : Int32).toInt ≤ 400 ∧ 0 ≤ (sv_93 : Int32).toInt ∧ (sv_93 : Int32).toInt ≤ 400 ∧ 0 ≤ (sv_94 : Int32).toInt ∧ (sv_94 : Int32).toInt ≤ 400 := pf_203
            have pf_204 : 0 ≤ (sv_90 : Int32).toInt ∧ (sv_90 : Int32).toInt ≤ 400 := pf_204
            have pf_205 : TpR (Tf 1) (Tv 0) (rC1 ro_193) sv_93 sv_94 sv_201 sv_202 := pf_205
            obtain ⟨ro_207, ero_207⟩ : ∃ z : Except Int (Nat × Nat), z = (rC1 ro_193) := ⟨_, rfl⟩
            rw [← ero_207] at pf_205
            have tb_208 : TpB (rTE (cB (Tf 1) (Tv 0)) ro_207) sv_94 sv_202 := TpR.tb pf_205
            have ck_209 : CdK sv_92 sv_90 ro_207 ro_104 := by rw [ero_207]; exact (CdK.c1 ck_196)
            have pf_206 : Ctd (rC1 ro_193) sv_200 := pf_206
            rw [← ero_207] at pf_206
            refine W.eq (g2 := F0 m 120 ls []) rfl ?_
            replace hP : va_P D classes [((Va 0), .inr (7, [.ref (Va 1), .int sv_90, .int sv_200])), ((Va 1), .inl (tc 0, 400, .inl sv_92)), ((Ta 0), .inr (10, [.ref (Ta 1), .int (Tv 0), .int sv_93, .int sv_94, .int sv_201, .int sv_202])), ((Ta 1), .inl (tc 0, 400, .inl (Tf 1)))] H := hP₀
            replace hD : va_D A [((Va 0), .inr (7, [.ref (Va 1), .int sv_90, .int sv_200])), ((Va 1), .inl (tc 0, 400, .inl sv_92)), ((Ta 0), .inr (10, [.ref (Ta 1), .int (Tv 0), .int sv_93, .int sv_94, .int sv_201, .int sv_202])), ((Ta 1), .inl (tc 0, 400, .inl (Tf 1)))] := hD₀
            replace hS := hS₀
            clear hP₀ hD₀ hS₀
            refine lv_aload_n hx hb dX7_readFact_120 rfl (lv_at hl 3 rfl) ?_
            refine cV (a := (Ta 0)) (As := []) (rest := []) (wr := [((Va 0), .inr (7, [.ref (Va 1), .int sv_90, .int sv_200])), ((Va 1), .inl (tc 0, 400, .inl sv_92))]) ⟨hx, hb, hml, hown, hts⟩ hK hX hA (cu_fX10_step l D tc sk (Ta 0) (Ta 1) (Tv 0) sv_93 sv_94 sv_201 sv_202 (Tf 1) (rTE (cB (Tf 1) (Tv 0)) ro_207) pf_203 h_by tb_208) k_478 k_620 k_476 k_477 k_96 pl_X10_step ⟨Nat.le_of_ble_eq_true rfl, Nat.le_of_ble_eq_true rfl⟩ rfl rfl (va_recv hK hP (ci := 10) (q0 := 2) rfl rfl) hP hD hS [2, 3] [0, 1] rfl rfl rfl rfl rfl (by decide) rfl hl.1 rfl (Nat.le_of_ble_eq_true rfl) dX7_readFact_121 ⟨Nat.le_of_ble_eq_true rfl, Nat.le_of_ble_eq_true rfl⟩ (fun v_210 u_211 H locs hv_212 hP₀ hD₀ hS₀ => ?_)
            obtain ⟨sv_213, sv_214, sv_215⟩ := u_211
            obtain ⟨rfl, pf_216, pf_217⟩ := hv_212
            have pf_216 : 0 ≤ ((Tv 0) : Int32).toInt ∧ ((Tv 0) : Int32).toInt ≤ 400 ∧ 0 ≤ (sv_213 : Int32).toInt ∧ (sv_213 : Int32).toInt ≤ 400 ∧ 0 ≤ (sv_214 : Int32).toInt ∧ (sv_214 : Int32).toInt ≤ 400 := pf_216
            have pf_217 : TpR (Tf 1) (Tv 0) (rSK (cB (Tf 1) (Tv 0)) (rTE (cB (Tf 1) (Tv 0)) ro_207)) sv_213 sv_214 sv_215 sv_202 := pf_217
            rw [rNX_eq] at pf_217
            obtain ⟨ro_218, ero_218⟩ : ∃ z : Except Int (Nat × Nat), z = (rNX (cB (Tf 1) (Tv 0)) ro_207) := ⟨_, rfl⟩
            rw [← ero_218] at pf_217
            have tb_219 : TpB (rTE (cB (Tf 1) (Tv 0)) ro_218) sv_214 sv_202 := TpR.tb pf_217
            have cd_220 : Ctd ro_218 sv_200 := by rw [ero_218]; exact (Ctd.nx pf_206)
            have ck_221 : CdK sv_92 sv_90 ro_218 ro_104 := by rw [ero_218]; exact (CdK.nx ck_209)
            refine W.eq (g2 := F0 m 124 ls []) rfl ?_
            replace hP : va_P D classes [((Va 0), .inr (7, [.ref (Va 1), .int sv_90, .int sv_200])), ((Va 1), .inl (tc 0, 400, .inl sv_92)), ((Ta 0), .inr (10, [.ref (Ta 1), .int (Tv 0), .int sv_213, .int sv_214, .int sv_215, .int sv_202])), ((Ta 1), .inl (tc 0, 400, .inl (Tf 1)))] H := hP₀
            replace hD : va_D A [((Va 0), .inr (7, [.ref (Va 1), .int sv_90, .int sv_200])), ((Va 1), .inl (tc 0, 400, .inl sv_92)), ((Ta 0), .inr (10, [.ref (Ta 1), .int (Tv 0), .int sv_213, .int sv_214, .int sv_215, .int sv_202])), ((Ta 1), .inl (tc 0, 400, .inl (Tf 1)))] := hD₀
            replace hS := hS₀
            clear hP₀ hD₀ hS₀
            refine lv_aload_n hx hb dX7_readFact_124 rfl (lv_at hl 2 rfl) ?_
            refine lv_aload_n hx hb dX7_readFact_125 rfl (lv_at hl 3 rfl) ?_
            refine cV (a := (Va 0)) (As := [.ref (Ta 0)]) (rest := []) (wr := []) ⟨hx, hb, hml, hown, hts⟩ hK hX hA (cu_kX7_readSum l D tc sk (Va 0) (Va 1) sv_90 sv_200 sv_92 (Ta 0) (Ta 1) (Tv 0) sv_213 sv_214 sv_215 sv_202 (Tf 1) ro_218 ro_104 pf_216 pf_204 h_by pf_217 cd_220 ck_221) k_624 k_621 k_623 k_7 k_99 pl_X7_readSum ⟨Nat.le_of_ble_eq_true rfl, Nat.le_of_ble_eq_true rfl⟩ rfl rfl (va_recv hK hP (ci := 7) (q0 := 0) rfl rfl) hP hD hS [0, 1, 2, 3] [] rfl rfl rfl rfl rfl (by decide) rfl hl.1 rfl (Nat.le_of_ble_eq_true rfl) dX7_readFact_126 ⟨Nat.le_of_ble_eq_true rfl, Nat.le_of_ble_eq_true rfl⟩ (fun v_222 u_223 H locs hv_224 hP₀ hD₀ hS₀ => ?_)
            obtain ⟨sv_225, sv_226, sv_227, sv_228, sv_229, sv_230, sv_231⟩ := u_223
            obtain ⟨rfl, pf_232, pf_233, pf_234, pf_235, pf_236⟩ := hv_224
            have pf_232 : 0 ≤ ((Tv 0) : Int32).toInt ∧ ((Tv 0) : Int32).toInt ≤ 400 ∧ 0 ≤ (sv_228 : Int32).toInt ∧ (sv_228 : Int32).toInt ≤ 400 ∧ 0 ≤ (sv_229 : Int32).toInt ∧ (sv_229 : Int32).toInt ≤ 400 := pf_232
            have pf_233 : 0 ≤ (sv_225 : Int32).toInt ∧ (sv_225 : Int32).toInt ≤ 400 := pf_233
            have pf_234 : TpR (Tf 1) (Tv 0) (pz_b ro_218 (pz_sum (cB (Tf 1) (Tv 0)))) sv_228 sv_229 sv_230 sv_231 := pf_234
            obtain ⟨ro_237, ero_237⟩ : ∃ z : Except Int (Nat × Nat), z = (pz_b ro_218 (pz_sum (cB (Tf 1) (Tv 0)))) := ⟨_, rfl⟩
            rw [← ero_237] at pf_234
            have tb_238 : TpB (rTE (cB (Tf 1) (Tv 0)) ro_237) sv_229 sv_231 := TpR.tb pf_234
            have pf_235 : Ctd (pz_b ro_218 (pz_sum (cB (Tf 1) (Tv 0)))) sv_226 := pf_235
            rw [← ero_237] at pf_235
            have pf_236 : CdK sv_227 sv_225 (pz_b ro_218 (pz_sum (cB (Tf 1) (Tv 0)))) (Ap ro_218 (lsum (cB (Tf 1) (Tv 0))) ro_104) := pf_236
            rw [← ero_237] at pf_236
            obtain ⟨ro_239, ero_239⟩ : ∃ z : List Int, z = (Ap ro_218 (lsum (cB (Tf 1) (Tv 0))) ro_104) := ⟨_, rfl⟩
            rw [← ero_239] at pf_236
            refine W.eq (g2 := F0 m 129 ls []) rfl ?_
            replace hP : va_P D classes [((Va 0), .inr (7, [.ref (Va 1), .int sv_225, .int sv_226])), ((Va 1), .inl (tc 0, 400, .inl sv_227)), ((Ta 0), .inr (10, [.ref (Ta 1), .int (Tv 0), .int sv_228, .int sv_229, .int sv_230, .int sv_231])), ((Ta 1), .inl (tc 0, 400, .inl (Tf 1)))] H := hP₀
            replace hD : va_D A [((Va 0), .inr (7, [.ref (Va 1), .int sv_225, .int sv_226])), ((Va 1), .inl (tc 0, 400, .inl sv_227)), ((Ta 0), .inr (10, [.ref (Ta 1), .int (Tv 0), .int sv_228, .int sv_229, .int sv_230, .int sv_231])), ((Ta 1), .inl (tc 0, 400, .inl (Tf 1)))] := hD₀
            replace hS := hS₀
            clear hP₀ hD₀ hS₀
            refine lv_aload_n hx hb dX7_readFact_129 rfl (lv_at hl 2 rfl) ?_
            refine lv_iload hx hb dX7_readFact_130 (lv_at hl 0 rfl) ?_
            refine cV (a := (Va 0)) (As := [.int r_108]) (rest := []) (wr := [((Ta 0), .inr (10, [.ref (Ta 1), .int (Tv 0), .int sv_228, .int sv_229, .int sv_230, .int sv_231])), ((Ta 1), .inl (tc 0, 400, .inl (Tf 1)))]) ⟨hx, hb, hml, hown, hts⟩ hK hX hA (cu_kX7_put l D tc sk (Va 0) (Va 1) sv_225 sv_226 sv_227 r_108 ro_237 ro_239 pf_233 pf_236) k_642 k_639 k_641 k_10 k_99 pl_X7_put ⟨Nat.le_of_ble_eq_true rfl, Nat.le_of_ble_eq_true rfl⟩ rfl rfl (va_recv hK hP (ci := 7) (q0 := 0) rfl rfl) hP hD hS [0, 1] [2, 3] rfl rfl rfl rfl rfl (by decide) rfl hl.1 rfl (Nat.le_of_ble_eq_true rfl) dX7_readFact_132 ⟨Nat.le_of_ble_eq_true rfl, Nat.le_of_ble_eq_true rfl⟩ (fun v_240 u_241 H locs hv_242 hP₀ hD₀ hS₀ => ?_)
            obtain ⟨sv_243, sv_244⟩ := u_241
            obtain ⟨rfl, pf_245, pf_246⟩ := hv_242
            have pf_245 : 0 ≤ (sv_243 : Int32).toInt ∧ (sv_243 : Int32).toInt ≤ 400 := pf_245
            have pf_246 : CdK sv_244 sv_243 ro_237 (ro_239 ++ [r_108.toInt]) := pf_246
            obtain ⟨ro_247, ero_247⟩ : ∃ z : List Int, z = (ro_239 ++ [r_108.toInt]) := ⟨_, rfl⟩
            rw [← ero_247] at pf_246
            refine W.eq (g2 := F0 m 135 ls []) rfl ?_
            replace hP : va_P D classes [((Ta 0), .inr (10, [.ref (Ta 1), .int (Tv 0), .int sv_228, .int sv_229, .int sv_230, .int sv_231])), ((Ta 1), .inl (tc 0, 400, .inl (Tf 1))), ((Va 0), .inr (7, [.ref (Va 1), .int sv_243, .int sv_226])), ((Va 1), .inl (tc 0, 400, .inl sv_244))] H := hP₀
            replace hD : va_D A [((Ta 0), .inr (10, [.ref (Ta 1), .int (Tv 0), .int sv_228, .int sv_229, .int sv_230, .int sv_231])), ((Ta 1), .inl (tc 0, 400, .inl (Tf 1))), ((Va 0), .inr (7, [.ref (Va 1), .int sv_243, .int sv_226])), ((Va 1), .inl (tc 0, 400, .inl sv_244))] := hD₀
            replace hS := hS₀
            clear hP₀ hD₀ hS₀
            have hf_248 : TpR (Tf 1) (Tv 0) (pz_b rr (pz_fact (cB (Tf 1) (Tv 0)) 2)) sv_228 sv_229 sv_230 sv_231 := by
              have hE_249 : (pz_b rr (pz_fact (cB (Tf 1) (Tv 0)) 2)) = ro_237 := by
                rw [ero_237, ero_218, ero_207, ero_193, ero_102]
                have hw_250 : NWd (cB (Tf 1) (Tv 0)) pz_not rr := by
                  rw [← wS4]
                  exact pf_64
                have hw_251 : NSg (cB (Tf 1) (Tv 0)) 91 rr := by
                  exact pf_83
                have hu_252 : TpR (Tf 1) (Tv 0) (pz_b rr (pz_sum (cB (Tf 1) (Tv 0)))) sv_93 sv_94 sv_95 sv_96 := by
                  rw [← ero_102]
                  exact pf_99
                have hr_253 : ¬ (60 ≤ (sv_95 : Int32).toInt ∧ (sv_95 : Int32).toInt ≤ 62) := by
                  have z_1 := congrArg Int32.toInt c_11
                  have z_2 : ¬ ((Tv 3) : Int32).toInt = (91 : Int32).toInt := fun z => c_66 (Int32.toInt_inj.mp z)
                  have z_3 := congrArg Int32.toInt c_67
                  have z_4 := congrArg Int32.toInt c_82
                  have z_5 := congrArg Int32.toInt c_111
                  have y_m1 : (-1 : Int32).toInt = -1 := by decide
                  have y_0 : (0 : Int32).toInt = 0 := by decide
                  have y_91 : (91 : Int32).toInt = 91 := by decide
                  omega
                exact ((fact_com hw_250 hw_251).trans (congrArg (fun z => pz_b z (pz_sum (cB (Tf 1) (Tv 0)))) (com_no hu_252 hr_253)))
              rw [hE_249]
              exact pf_234
            have hf_254 : Ctd (pz_b rr (pz_fact (cB (Tf 1) (Tv 0)) 2)) sv_226 := by
              have hE_255 : (pz_b rr (pz_fact (cB (Tf 1) (Tv 0)) 2)) = ro_237 := by
                rw [ero_237, ero_218, ero_207, ero_193, ero_102]
                have hw_256 : NWd (cB (Tf 1) (Tv 0)) pz_not rr := by
                  rw [← wS4]
                  exact pf_64
                have hw_257 : NSg (cB (Tf 1) (Tv 0)) 91 rr := by
                  exact pf_83
                have hu_258 : TpR (Tf 1) (Tv 0) (pz_b rr (pz_sum (cB (Tf 1) (Tv 0)))) sv_93 sv_94 sv_95 sv_96 := by
                  rw [← ero_102]
                  exact pf_99
                have hr_259 : ¬ (60 ≤ (sv_95 : Int32).toInt ∧ (sv_95 : Int32).toInt ≤ 62) := by
                  have z_1 := congrArg Int32.toInt c_11
                  have z_2 : ¬ ((Tv 3) : Int32).toInt = (91 : Int32).toInt := fun z => c_66 (Int32.toInt_inj.mp z)
                  have z_3 := congrArg Int32.toInt c_67
                  have z_4 := congrArg Int32.toInt c_82
                  have z_5 := congrArg Int32.toInt c_111
                  have y_m1 : (-1 : Int32).toInt = -1 := by decide
                  have y_0 : (0 : Int32).toInt = 0 := by decide
                  have y_91 : (91 : Int32).toInt = 91 := by decide
                  omega
                exact ((fact_com hw_256 hw_257).trans (congrArg (fun z => pz_b z (pz_sum (cB (Tf 1) (Tv 0)))) (com_no hu_258 hr_259)))
              rw [hE_255]
              exact pf_235
            have hE_260 : (pz_b rr (pz_fact (cB (Tf 1) (Tv 0)) 2)) = ro_237 := by
              rw [ero_237, ero_218, ero_207, ero_193, ero_102]
              have hw_261 : NWd (cB (Tf 1) (Tv 0)) pz_not rr := by
                rw [← wS4]
                exact pf_64
              have hw_262 : NSg (cB (Tf 1) (Tv 0)) 91 rr := by
                exact pf_83
              have hu_263 : TpR (Tf 1) (Tv 0) (pz_b rr (pz_sum (cB (Tf 1) (Tv 0)))) sv_93 sv_94 sv_95 sv_96 := by
                rw [← ero_102]
                exact pf_99
              have hr_264 : ¬ (60 ≤ (sv_95 : Int32).toInt ∧ (sv_95 : Int32).toInt ≤ 62) := by
                have z_1 := congrArg Int32.toInt c_11
                have z_2 : ¬ ((Tv 3) : Int32).toInt = (91 : Int32).toInt := fun z => c_66 (Int32.toInt_inj.mp z)
                have z_3 := congrArg Int32.toInt c_67
                have z_4 := congrArg Int32.toInt c_82
                have z_5 := congrArg Int32.toInt c_111
                have y_m1 : (-1 : Int32).toInt = -1 := by decide
                have y_0 : (0 : Int32).toInt = 0 := by decide
                have y_91 : (91 : Int32).toInt = 91 := by decide
                omega
              exact ((fact_com hw_261 hw_262).trans (congrArg (fun z => pz_b z (pz_sum (cB (Tf 1) (Tv 0)))) (com_no hu_263 hr_264)))
            have hf_265 : CdK sv_244 sv_243 (pz_b rr (pz_fact (cB (Tf 1) (Tv 0)) 2)) (Ap rr (ec_fact (cB (Tf 1) (Tv 0)) 2) ll) := CdK.to pf_246 hE_260 (fun t ht => by
              rw [ero_247, ero_239, ero_218, ero_207, ero_193, ero_104, ero_102]
              have hw_266 : NWd (cB (Tf 1) (Tv 0)) pz_not rr := by
                rw [← wS4]
                exact pf_64
              exact (fl_er3 (hE_260.trans (by rw [ero_237, ero_218, ero_207, ero_193, ero_102]))) t ht)
            exact retV hx hb hr hlk hP hD hS (sv_243, sv_226, sv_244, sv_228, sv_229, sv_230, sv_231) ⟨rfl, pf_232, pf_245, hf_248, hf_254, hf_265⟩ [2, 3, 0, 1] rfl rfl dX7_readFact_135 (Nat.le_of_ble_eq_true rfl) (Nat.le_of_ble_eq_true rfl) rfl
        · skip
          have hz_269 : (r_77 : Int32).toInt = 1 := by
            have z_1 := congrArg Int32.toInt c_11
            have z_2 : ¬ ((Tv 3) : Int32).toInt = (91 : Int32).toInt := fun z => c_66 (Int32.toInt_inj.mp z)
            have z_3 := congrArg Int32.toInt c_67
            have z_4 : ¬ (r_77 : Int32).toInt = (0 : Int32).toInt := fun z => c_82 (Int32.toInt_inj.mp z)
            have y_0 : (0 : Int32).toInt = 0 := by decide
            have y_91 : (91 : Int32).toInt = 91 := by decide
            omega
          obtain ⟨pf_267, pf_268⟩ := hm_80 hz_269
          have pf_267 : Sg (cB (Tf 1) (Tv 0)) (91 : Int) rr := pf_267
          have pf_268 : TpR (Tf 1) (Tv 0) (rNX (cB (Tf 1) (Tv 0)) rr) sv_73 sv_74 sv_75 (Tv 4) := pf_268
          obtain ⟨ro_270, ero_270⟩ : ∃ z : Except Int (Nat × Nat), z = (rNX (cB (Tf 1) (Tv 0)) rr) := ⟨_, rfl⟩
          rw [← ero_270] at pf_268
          have tb_271 : TpB (rTE (cB (Tf 1) (Tv 0)) ro_270) sv_74 (Tv 4) := TpR.tb pf_268
          have cd_272 : Ctd ro_270 (Vv 1) := by rw [ero_270]; exact (Ctd.nx h_ct)
          have ck_273 : CdK (Vf 1) (Vv 0) ro_270 ll := by rw [ero_270]; exact (CdK.nx h_cd)
          refine lv_aload_n hx hb dX7_readFact_68 rfl (lv_at hl 1 rfl) ?_
          refine lv_aload_n hx hb dX7_readFact_69 rfl (lv_at hl 2 rfl) ?_
          refine lv_iload_n hx hb dX7_readFact_70 rfl (lv_at hl 3 rfl) ?_
          refine lv_iconst (v := 1) hx hb dX7_readFact_71 (by decide) ?_
          refine lv_iadd hx hb dX7_readFact_72 ?_
          refine lv_lit (v := 9) (by decide) ?_
          refine cV (a := (Va 0)) (As := [.ref (Ta 0), .int 9]) (rest := []) (wr := []) ⟨hx, hb, hml, hown, hts⟩ hK hX hA (cu_kX7_readTest_9 l D tc sk (Va 0) (Va 1) (Vv 0) (Vv 1) (Vf 1) (Ta 0) (Ta 1) (Tv 0) sv_73 sv_74 sv_75 (Tv 4) (Tf 1) ro_270 ll pf_76 h_u h_by pf_268 cd_272 ck_273) k_655 k_652 k_654 k_11 k_99 pl_X7_readTest ⟨Nat.le_of_ble_eq_true rfl, Nat.le_of_ble_eq_true rfl⟩ rfl rfl (va_recv hK hP (ci := 7) (q0 := 0) rfl rfl) hP hD hS [0, 1, 2, 3] [] rfl rfl rfl rfl rfl (by decide) rfl hl.1 rfl (Nat.le_of_ble_eq_true rfl) dX7_readFact_73 ⟨Nat.le_of_ble_eq_true rfl, Nat.le_of_ble_eq_true rfl⟩ (fun v_274 u_275 H locs hv_276 hP₀ hD₀ hS₀ => ?_)
          obtain ⟨sv_277, sv_278, sv_279, sv_280, sv_281, sv_282, sv_283⟩ := u_275
          obtain ⟨rfl, pf_284, pf_285, pf_286, pf_287, pf_288⟩ := hv_276
          have pf_284 : 0 ≤ ((Tv 0) : Int32).toInt ∧ ((Tv 0) : Int32).toInt ≤ 400 ∧ 0 ≤ (sv_280 : Int32).toInt ∧ (sv_280 : Int32).toInt ≤ 400 ∧ 0 ≤ (sv_281 : Int32).toInt ∧ (sv_281 : Int32).toInt ≤ 400 := pf_284
          have pf_285 : 0 ≤ (sv_277 : Int32).toInt ∧ (sv_277 : Int32).toInt ≤ 400 := pf_285
          have pf_286 : TpR (Tf 1) (Tv 0) (pz_b ro_270 (pz_tst (cB (Tf 1) (Tv 0)) (pz_fact (cB (Tf 1) (Tv 0)) 1))) sv_280 sv_281 sv_282 sv_283 := pf_286
          obtain ⟨ro_289, ero_289⟩ : ∃ z : Except Int (Nat × Nat), z = (pz_b ro_270 (pz_tst (cB (Tf 1) (Tv 0)) (pz_fact (cB (Tf 1) (Tv 0)) 1))) := ⟨_, rfl⟩
          rw [← ero_289] at pf_286
          have tb_290 : TpB (rTE (cB (Tf 1) (Tv 0)) ro_289) sv_281 sv_283 := TpR.tb pf_286
          have pf_287 : Ctd (pz_b ro_270 (pz_tst (cB (Tf 1) (Tv 0)) (pz_fact (cB (Tf 1) (Tv 0)) 1))) sv_278 := pf_287
          rw [← ero_289] at pf_287
          have pf_288 : CdK sv_279 sv_277 (pz_b ro_270 (pz_tst (cB (Tf 1) (Tv 0)) (pz_fact (cB (Tf 1) (Tv 0)) 1))) (Ap ro_270 (ltst (cB (Tf 1) (Tv 0)) 1) ll) := pf_288
          rw [← ero_289] at pf_288
          obtain ⟨ro_291, ero_291⟩ : ∃ z : List Int, z = (Ap ro_270 (ltst (cB (Tf 1) (Tv 0)) 1) ll) := ⟨_, rfl⟩
          rw [← ero_291] at pf_288
          refine W.eq (g2 := F0 m 76 ls []) rfl ?_
          replace hP : va_P D classes [((Va 0), .inr (7, [.ref (Va 1), .int sv_277, .int sv_278])), ((Va 1), .inl (tc 0, 400, .inl sv_279)), ((Ta 0), .inr (10, [.ref (Ta 1), .int (Tv 0), .int sv_280, .int sv_281, .int sv_282, .int sv_283])), ((Ta 1), .inl (tc 0, 400, .inl (Tf 1)))] H := hP₀
          replace hD : va_D A [((Va 0), .inr (7, [.ref (Va 1), .int sv_277, .int sv_278])), ((Va 1), .inl (tc 0, 400, .inl sv_279)), ((Ta 0), .inr (10, [.ref (Ta 1), .int (Tv 0), .int sv_280, .int sv_281, .int sv_282, .int sv_283])), ((Ta 1), .inl (tc 0, 400, .inl (Tf 1)))] := hD₀
          replace hS := hS₀
          clear hP₀ hD₀ hS₀
          refine lv_aload_n hx hb dX7_readFact_76 rfl (lv_at hl 2 rfl) ?_
          refine lv_bipush (v := 93) hx hb dX7_readFact_77 (by decide) ?_
          have ha_292 : 0 ≤ (93 : Int32).toInt := by
            have z_1 := congrArg Int32.toInt c_11
            have z_2 : ¬ ((Tv 3) : Int32).toInt = (91 : Int32).toInt := fun z => c_66 (Int32.toInt_inj.mp z)
            have z_3 := congrArg Int32.toInt c_67
            have z_4 : ¬ (r_77 : Int32).toInt = (0 : Int32).toInt := fun z => c_82 (Int32.toInt_inj.mp z)
            have y_0 : (0 : Int32).toInt = 0 := by decide
            have y_91 : (91 : Int32).toInt = 91 := by decide
            have y_93 : (93 : Int32).toInt = 93 := by decide
            omega
          have ha_293 : (93 : Int32).toInt = (93 : Int) := by
            have z_1 := congrArg Int32.toInt c_11
            have z_2 : ¬ ((Tv 3) : Int32).toInt = (91 : Int32).toInt := fun z => c_66 (Int32.toInt_inj.mp z)
            have z_3 := congrArg Int32.toInt c_67
            have z_4 : ¬ (r_77 : Int32).toInt = (0 : Int32).toInt := fun z => c_82 (Int32.toInt_inj.mp z)
            have y_0 : (0 : Int32).toInt = 0 := by decide
            have y_91 : (91 : Int32).toInt = 91 := by decide
            have y_93 : (93 : Int32).toInt = 93 := by decide
            omega
          refine cV (a := (Ta 0)) (As := [.int 93]) (rest := []) (wr := [((Va 0), .inr (7, [.ref (Va 1), .int sv_277, .int sv_278])), ((Va 1), .inl (tc 0, 400, .inl sv_279))]) ⟨hx, hb, hml, hown, hts⟩ hK hX hA (cu_fX10_takes l D tc sk (Ta 0) (Ta 1) (Tv 0) sv_280 sv_281 sv_282 sv_283 (Tf 1) 93 ro_289 93 pf_284 h_by pf_286 ha_292 ha_293) k_492 k_613 k_490 k_491 k_96 pl_X10_takes ⟨Nat.le_of_ble_eq_true rfl, Nat.le_of_ble_eq_true rfl⟩ rfl rfl (va_recv hK hP (ci := 10) (q0 := 2) rfl rfl) hP hD hS [2, 3] [0, 1] rfl rfl rfl rfl rfl (by decide) rfl hl.1 rfl (Nat.le_of_ble_eq_true rfl) dX7_readFact_79 ⟨Nat.le_of_ble_eq_true rfl, Nat.le_of_ble_eq_true rfl⟩ (fun v_294 u_295 H locs hv_296 hP₀ hD₀ hS₀ => ?_)
          obtain ⟨sv_297, sv_298, sv_299⟩ := u_295
          obtain ⟨r_301, rfl, he_302, pf_300, hm_304, hm_305⟩ := hv_296
          have he_302 : (r_301.toInt = 0 ∨ r_301.toInt = 1) := he_302
          have pf_300 : 0 ≤ ((Tv 0) : Int32).toInt ∧ ((Tv 0) : Int32).toInt ≤ 400 ∧ 0 ≤ (sv_297 : Int32).toInt ∧ (sv_297 : Int32).toInt ≤ 400 ∧ 0 ≤ (sv_298 : Int32).toInt ∧ (sv_298 : Int32).toInt ≤ 400 := pf_300
          refine W.eq (g2 := F0 m 82 ls [.int r_301]) rfl ?_
          replace hP : va_P D classes [((Va 0), .inr (7, [.ref (Va 1), .int sv_277, .int sv_278])), ((Va 1), .inl (tc 0, 400, .inl sv_279)), ((Ta 0), .inr (10, [.ref (Ta 1), .int (Tv 0), .int sv_297, .int sv_298, .int sv_299, .int sv_283])), ((Ta 1), .inl (tc 0, 400, .inl (Tf 1)))] H := hP₀
          replace hD : va_D A [((Va 0), .inr (7, [.ref (Va 1), .int sv_277, .int sv_278])), ((Va 1), .inl (tc 0, 400, .inl sv_279)), ((Ta 0), .inr (10, [.ref (Ta 1), .int (Tv 0), .int sv_297, .int sv_298, .int sv_299, .int sv_283])), ((Ta 1), .inl (tc 0, 400, .inl (Tf 1)))] := hD₀
          replace hS := hS₀
          clear hP₀ hD₀ hS₀
          refine lv_if_ne (tgt := 135) hx hb dX7_readFact_82 (by decide) (fun c_306 => ?_) (fun c_306 => ?_)
          · skip
            have hz_309 : (r_301 : Int32).toInt = 1 := by
              have z_1 := congrArg Int32.toInt c_11
              have z_2 : ¬ ((Tv 3) : Int32).toInt = (91 : Int32).toInt := fun z => c_66 (Int32.toInt_inj.mp z)
              have z_3 := congrArg Int32.toInt c_67
              have z_4 : ¬ (r_77 : Int32).toInt = (0 : Int32).toInt := fun z => c_82 (Int32.toInt_inj.mp z)
              have z_5 : ¬ (r_301 : Int32).toInt = (0 : Int32).toInt := fun z => c_306 (Int32.toInt_inj.mp z)
              have y_0 : (0 : Int32).toInt = 0 := by decide
              have y_91 : (91 : Int32).toInt = 91 := by decide
              omega
            obtain ⟨pf_307, pf_308⟩ := hm_304 hz_309
            have pf_307 : Sg (cB (Tf 1) (Tv 0)) (93 : Int) ro_289 := pf_307
            have pf_308 : TpR (Tf 1) (Tv 0) (rNX (cB (Tf 1) (Tv 0)) ro_289) sv_297 sv_298 sv_299 sv_283 := pf_308
            obtain ⟨ro_310, ero_310⟩ : ∃ z : Except Int (Nat × Nat), z = (rNX (cB (Tf 1) (Tv 0)) ro_289) := ⟨_, rfl⟩
            rw [← ero_310] at pf_308
            have tb_311 : TpB (rTE (cB (Tf 1) (Tv 0)) ro_310) sv_298 sv_283 := TpR.tb pf_308
            have cd_312 : Ctd ro_310 sv_278 := by rw [ero_310]; exact (Ctd.nx pf_287)
            have ck_313 : CdK sv_279 sv_277 ro_310 ro_291 := by rw [ero_310]; exact (CdK.nx pf_288)
            have hf_314 : TpR (Tf 1) (Tv 0) (pz_b rr (pz_fact (cB (Tf 1) (Tv 0)) 2)) sv_297 sv_298 sv_299 sv_283 := by
              have hE_315 : (pz_b rr (pz_fact (cB (Tf 1) (Tv 0)) 2)) = ro_310 := by
                rw [ero_310, ero_289, ero_270]
                have hw_316 : NWd (cB (Tf 1) (Tv 0)) pz_not rr := by
                  rw [← wS4]
                  exact pf_64
                have hw_317 : Sg (cB (Tf 1) (Tv 0)) 91 rr := by
                  exact pf_267
                have hw_318 : Sg (cB (Tf 1) (Tv 0)) 93 (pz_b (rNX (cB (Tf 1) (Tv 0)) rr) (pz_tst (cB (Tf 1) (Tv 0)) (pz_fact (cB (Tf 1) (Tv 0)) 1))) := by
                  rw [← ero_270, ← ero_289]
                  exact pf_307
                exact ((fact_br hw_316 hw_317).trans (rb_yes hw_318))
              rw [hE_315]
              exact pf_308
            have hf_319 : Ctd (pz_b rr (pz_fact (cB (Tf 1) (Tv 0)) 2)) sv_278 := by
              have hE_320 : (pz_b rr (pz_fact (cB (Tf 1) (Tv 0)) 2)) = ro_310 := by
                rw [ero_310, ero_289, ero_270]
                have hw_321 : NWd (cB (Tf 1) (Tv 0)) pz_not rr := by
                  rw [← wS4]
                  exact pf_64
                have hw_322 : Sg (cB (Tf 1) (Tv 0)) 91 rr := by
                  exact pf_267
                have hw_323 : Sg (cB (Tf 1) (Tv 0)) 93 (pz_b (rNX (cB (Tf 1) (Tv 0)) rr) (pz_tst (cB (Tf 1) (Tv 0)) (pz_fact (cB (Tf 1) (Tv 0)) 1))) := by
                  rw [← ero_270, ← ero_289]
                  exact pf_307
                exact ((fact_br hw_321 hw_322).trans (rb_yes hw_323))
              rw [hE_320]
              exact cd_312
            have hE_324 : (pz_b rr (pz_fact (cB (Tf 1) (Tv 0)) 2)) = ro_310 := by
              rw [ero_310, ero_289, ero_270]
              have hw_325 : NWd (cB (Tf 1) (Tv 0)) pz_not rr := by
                rw [← wS4]
                exact pf_64
              have hw_326 : Sg (cB (Tf 1) (Tv 0)) 91 rr := by
                exact pf_267
              have hw_327 : Sg (cB (Tf 1) (Tv 0)) 93 (pz_b (rNX (cB (Tf 1) (Tv 0)) rr) (pz_tst (cB (Tf 1) (Tv 0)) (pz_fact (cB (Tf 1) (Tv 0)) 1))) := by
                rw [← ero_270, ← ero_289]
                exact pf_307
              exact ((fact_br hw_325 hw_326).trans (rb_yes hw_327))
            have hf_328 : CdK sv_279 sv_277 (pz_b rr (pz_fact (cB (Tf 1) (Tv 0)) 2)) (Ap rr (ec_fact (cB (Tf 1) (Tv 0)) 2) ll) := CdK.to ck_313 hE_324 (fun t ht => by
              rw [ero_291, ero_270]
              have hw_329 : NWd (cB (Tf 1) (Tv 0)) pz_not rr := by
                rw [← wS4]
                exact pf_64
              have hw_330 : Sg (cB (Tf 1) (Tv 0)) 91 rr := by
                exact pf_267
              exact (fl_br hw_329 hw_330) t ht)
            exact retV hx hb hr hlk hP hD hS (sv_277, sv_278, sv_279, sv_297, sv_298, sv_299, sv_283) ⟨rfl, pf_300, pf_285, hf_314, hf_319, hf_328⟩ [0, 1, 2, 3] rfl rfl dX7_readFact_135 (Nat.le_of_ble_eq_true rfl) (Nat.le_of_ble_eq_true rfl) rfl
          · skip
            have hz_333 : (r_301 : Int32).toInt = 0 := by
              have z_1 := congrArg Int32.toInt c_11
              have z_2 : ¬ ((Tv 3) : Int32).toInt = (91 : Int32).toInt := fun z => c_66 (Int32.toInt_inj.mp z)
              have z_3 := congrArg Int32.toInt c_67
              have z_4 : ¬ (r_77 : Int32).toInt = (0 : Int32).toInt := fun z => c_82 (Int32.toInt_inj.mp z)
              have z_5 := congrArg Int32.toInt c_306
              have y_0 : (0 : Int32).toInt = 0 := by decide
              have y_91 : (91 : Int32).toInt = 91 := by decide
              omega
            obtain ⟨pf_331, pf_332⟩ := hm_305 hz_333
            have pf_331 : NSg (cB (Tf 1) (Tv 0)) (93 : Int) ro_289 := pf_331
            have pf_332 : TpR (Tf 1) (Tv 0) ro_289 sv_297 sv_298 sv_299 sv_283 := pf_332
            have tb_334 : TpB (rTE (cB (Tf 1) (Tv 0)) ro_289) sv_298 sv_283 := TpR.tb pf_332
            refine lv_aload_n hx hb dX7_readFact_85 rfl (lv_at hl 2 rfl) ?_
            refine lv_iconst (v := 0) hx hb dX7_readFact_86 (by decide) ?_
            have ha_335 : 0 ≤ (0 : Int32).toInt ∧ (0 : Int32).toInt ≤ 4 := by
              have z_1 := congrArg Int32.toInt c_11
              have z_2 : ¬ ((Tv 3) : Int32).toInt = (91 : Int32).toInt := fun z => c_66 (Int32.toInt_inj.mp z)
              have z_3 := congrArg Int32.toInt c_67
              have z_4 : ¬ (r_77 : Int32).toInt = (0 : Int32).toInt := fun z => c_82 (Int32.toInt_inj.mp z)
              have z_5 := congrArg Int32.toInt c_306
              have y_0 : (0 : Int32).toInt = 0 := by decide
              have y_91 : (91 : Int32).toInt = 91 := by decide
              omega
            have ha_336 : (0 : Int32).toInt = (0 : Int) := by
              have z_1 := congrArg Int32.toInt c_11
              have z_2 : ¬ ((Tv 3) : Int32).toInt = (91 : Int32).toInt := fun z => c_66 (Int32.toInt_inj.mp z)
              have z_3 := congrArg Int32.toInt c_67
              have z_4 : ¬ (r_77 : Int32).toInt = (0 : Int32).toInt := fun z => c_82 (Int32.toInt_inj.mp z)
              have z_5 := congrArg Int32.toInt c_306
              have y_0 : (0 : Int32).toInt = 0 := by decide
              have y_91 : (91 : Int32).toInt = 91 := by decide
              omega
            refine cV (a := (Ta 0)) (As := [.int 0]) (rest := []) (wr := [((Va 0), .inr (7, [.ref (Va 1), .int sv_277, .int sv_278])), ((Va 1), .inl (tc 0, 400, .inl sv_279))]) ⟨hx, hb, hml, hown, hts⟩ hK hX hA (cu_fX10_fail l D tc sk (Ta 0) (Ta 1) (Tv 0) sv_297 sv_298 sv_299 sv_283 (Tf 1) 0 ro_289 0 pf_300 pf_332 ha_335 ha_336) k_557 k_619 k_555 k_556 k_96 pl_X10_fail ⟨Nat.le_of_ble_eq_true rfl, Nat.le_of_ble_eq_true rfl⟩ rfl rfl (va_recv hK hP (ci := 10) (q0 := 2) rfl rfl) hP hD hS [2, 3] [0, 1] rfl rfl rfl rfl rfl (by decide) rfl hl.1 rfl (Nat.le_of_ble_eq_true rfl) dX7_readFact_87 ⟨Nat.le_of_ble_eq_true rfl, Nat.le_of_ble_eq_true rfl⟩ (fun v_337 u_338 H locs hv_339 hP₀ hD₀ hS₀ => ?_)
            obtain ⟨sv_340, sv_341⟩ := u_338
            obtain ⟨rfl, pf_342, pf_343⟩ := hv_339
            have pf_342 : 0 ≤ ((Tv 0) : Int32).toInt ∧ ((Tv 0) : Int32).toInt ≤ 400 ∧ 0 ≤ (sv_297 : Int32).toInt ∧ (sv_297 : Int32).toInt ≤ 400 ∧ 0 ≤ (sv_298 : Int32).toInt ∧ (sv_298 : Int32).toInt ≤ 400 := pf_342
            have pf_343 : TpR (Tf 1) (Tv 0) (rER (0 : Int) ro_289) sv_297 sv_298 sv_340 sv_341 := pf_343
            obtain ⟨ro_344, ero_344⟩ : ∃ z : Except Int (Nat × Nat), z = (rER 0 ro_289) := ⟨_, rfl⟩
            rw [← ero_344] at pf_343
            have tb_345 : TpB (rTE (cB (Tf 1) (Tv 0)) ro_344) sv_298 sv_341 := TpR.tb pf_343
            have cd_346 : Ctd ro_344 sv_278 := by rw [ero_344]; exact (Ctd.er)
            have ck_347 : CdK sv_279 sv_277 ro_344 ro_291 := by rw [ero_344]; exact (CdK.er)
            refine W.eq (g2 := F0 m 90 ls []) rfl ?_
            replace hP : va_P D classes [((Va 0), .inr (7, [.ref (Va 1), .int sv_277, .int sv_278])), ((Va 1), .inl (tc 0, 400, .inl sv_279)), ((Ta 0), .inr (10, [.ref (Ta 1), .int (Tv 0), .int sv_297, .int sv_298, .int sv_340, .int sv_341])), ((Ta 1), .inl (tc 0, 400, .inl (Tf 1)))] H := hP₀
            replace hD : va_D A [((Va 0), .inr (7, [.ref (Va 1), .int sv_277, .int sv_278])), ((Va 1), .inl (tc 0, 400, .inl sv_279)), ((Ta 0), .inr (10, [.ref (Ta 1), .int (Tv 0), .int sv_297, .int sv_298, .int sv_340, .int sv_341])), ((Ta 1), .inl (tc 0, 400, .inl (Tf 1)))] := hD₀
            replace hS := hS₀
            clear hP₀ hD₀ hS₀
            refine lv_goto (tgt := 135) hx hb dX7_readFact_90 (by decide) ?_
            have hf_348 : TpR (Tf 1) (Tv 0) (pz_b rr (pz_fact (cB (Tf 1) (Tv 0)) 2)) sv_297 sv_298 sv_340 sv_341 := by
              have hE_349 : (pz_b rr (pz_fact (cB (Tf 1) (Tv 0)) 2)) = ro_344 := by
                rw [ero_344, ero_289, ero_270]
                have hw_350 : NWd (cB (Tf 1) (Tv 0)) pz_not rr := by
                  rw [← wS4]
                  exact pf_64
                have hw_351 : Sg (cB (Tf 1) (Tv 0)) 91 rr := by
                  exact pf_267
                have hw_352 : NSg (cB (Tf 1) (Tv 0)) 93 (pz_b (rNX (cB (Tf 1) (Tv 0)) rr) (pz_tst (cB (Tf 1) (Tv 0)) (pz_fact (cB (Tf 1) (Tv 0)) 1))) := by
                  rw [← ero_270, ← ero_289]
                  exact pf_331
                exact ((fact_br hw_350 hw_351).trans (rb_no hw_352))
              rw [hE_349]
              exact pf_343
            have hf_353 : Ctd (pz_b rr (pz_fact (cB (Tf 1) (Tv 0)) 2)) sv_278 := by
              have hE_354 : (pz_b rr (pz_fact (cB (Tf 1) (Tv 0)) 2)) = ro_344 := by
                rw [ero_344, ero_289, ero_270]
                have hw_355 : NWd (cB (Tf 1) (Tv 0)) pz_not rr := by
                  rw [← wS4]
                  exact pf_64
                have hw_356 : Sg (cB (Tf 1) (Tv 0)) 91 rr := by
                  exact pf_267
                have hw_357 : NSg (cB (Tf 1) (Tv 0)) 93 (pz_b (rNX (cB (Tf 1) (Tv 0)) rr) (pz_tst (cB (Tf 1) (Tv 0)) (pz_fact (cB (Tf 1) (Tv 0)) 1))) := by
                  rw [← ero_270, ← ero_289]
                  exact pf_331
                exact ((fact_br hw_355 hw_356).trans (rb_no hw_357))
              rw [hE_354]
              exact cd_346
            have hE_358 : (pz_b rr (pz_fact (cB (Tf 1) (Tv 0)) 2)) = ro_344 := by
              rw [ero_344, ero_289, ero_270]
              have hw_359 : NWd (cB (Tf 1) (Tv 0)) pz_not rr := by
                rw [← wS4]
                exact pf_64
              have hw_360 : Sg (cB (Tf 1) (Tv 0)) 91 rr := by
                exact pf_267
              have hw_361 : NSg (cB (Tf 1) (Tv 0)) 93 (pz_b (rNX (cB (Tf 1) (Tv 0)) rr) (pz_tst (cB (Tf 1) (Tv 0)) (pz_fact (cB (Tf 1) (Tv 0)) 1))) := by
                rw [← ero_270, ← ero_289]
                exact pf_331
              exact ((fact_br hw_359 hw_360).trans (rb_no hw_361))
            have hf_362 : CdK sv_279 sv_277 (pz_b rr (pz_fact (cB (Tf 1) (Tv 0)) 2)) (Ap rr (ec_fact (cB (Tf 1) (Tv 0)) 2) ll) := CdK.to ck_347 hE_358 (fun t ht => by
              rw [ero_291, ero_270]
              have hw_363 : NWd (cB (Tf 1) (Tv 0)) pz_not rr := by
                rw [← wS4]
                exact pf_64
              exact (fl_er (hE_358.trans (by rw [ero_344, ero_289, ero_270]))) t ht)
            exact retV hx hb hr hlk hP hD hS (sv_277, sv_278, sv_279, sv_297, sv_298, sv_340, sv_341) ⟨rfl, pf_342, pf_285, hf_348, hf_353, hf_362⟩ [0, 1, 2, 3] rfl rfl dX7_readFact_135 (Nat.le_of_ble_eq_true rfl) (Nat.le_of_ble_eq_true rfl) rfl
      · skip
        exfalso
        have z_1 := congrArg Int32.toInt c_11
        have z_2 : ¬ ((Tv 3) : Int32).toInt = (91 : Int32).toInt := fun z => c_66 (Int32.toInt_inj.mp z)
        have z_3 : ¬ (r_6 : Int32).toInt = (0 : Int32).toInt := fun z => c_67 (Int32.toInt_inj.mp z)
        have y_0 : (0 : Int32).toInt = 0 := by decide
        have y_91 : (91 : Int32).toInt = 91 := by decide
        omega
    · skip
      refine lv_iload_n hx hb dX7_readFact_20 rfl (lv_at hl 3 rfl) ?_
      refine lv_bipush (v := 10) hx hb dX7_readFact_21 (by decide) ?_
      refine lv_icmp_lt (tgt := 34) hx hb dX7_readFact_23 (by decide) (fun c_364 => ?_) (fun c_364 => absurd c_364 (by decide))
      refine lv_iload_n hx hb dX7_readFact_34 rfl (lv_at hl 0 rfl) ?_
      refine lv_if_eq (tgt := 59) hx hb dX7_readFact_35 (by decide) (fun c_365 => ?_) (fun c_365 => ?_)
      · skip
        refine lv_aload_n hx hb dX7_readFact_59 rfl (lv_at hl 2 rfl) ?_
        refine lv_bipush (v := 91) hx hb dX7_readFact_60 (by decide) ?_
        have ha_366 : 0 ≤ (91 : Int32).toInt := by
          have z_1 := congrArg Int32.toInt c_11
          have z_2 := congrArg Int32.toInt c_66
          have z_3 := congrArg Int32.toInt c_365
          have y_0 : (0 : Int32).toInt = 0 := by decide
          have y_91 : (91 : Int32).toInt = 91 := by decide
          omega
        have ha_367 : (91 : Int32).toInt = (91 : Int) := by
          have z_1 := congrArg Int32.toInt c_11
          have z_2 := congrArg Int32.toInt c_66
          have z_3 := congrArg Int32.toInt c_365
          have y_0 : (0 : Int32).toInt = 0 := by decide
          have y_91 : (91 : Int32).toInt = 91 := by decide
          omega
        refine cV (a := (Ta 0)) (As := [.int 91]) (rest := []) (wr := [((Va 0), .inr (7, [.ref (Va 1), .int (Vv 0), .int (Vv 1)])), ((Va 1), .inl (tc 0, 400, .inl (Vf 1)))]) ⟨hx, hb, hml, hown, hts⟩ hK hX hA (cu_fX10_takes l D tc sk (Ta 0) (Ta 1) (Tv 0) (Tv 1) (Tv 2) (Tv 3) (Tv 4) (Tf 1) 91 rr 91 h_tape h_by h_r ha_366 ha_367) k_492 k_613 k_490 k_491 k_96 pl_X10_takes ⟨Nat.le_of_ble_eq_true rfl, Nat.le_of_ble_eq_true rfl⟩ rfl rfl (va_recv hK hP (ci := 10) (q0 := 2) rfl rfl) hP hD hS [2, 3] [0, 1] rfl rfl rfl rfl rfl (by decide) rfl hl.1 rfl (Nat.le_of_ble_eq_true rfl) dX7_readFact_62 ⟨Nat.le_of_ble_eq_true rfl, Nat.le_of_ble_eq_true rfl⟩ (fun v_368 u_369 H locs hv_370 hP₀ hD₀ hS₀ => ?_)
        obtain ⟨sv_371, sv_372, sv_373⟩ := u_369
        obtain ⟨r_375, rfl, he_376, pf_374, hm_378, hm_379⟩ := hv_370
        have he_376 : (r_375.toInt = 0 ∨ r_375.toInt = 1) := he_376
        have pf_374 : 0 ≤ ((Tv 0) : Int32).toInt ∧ ((Tv 0) : Int32).toInt ≤ 400 ∧ 0 ≤ (sv_371 : Int32).toInt ∧ (sv_371 : Int32).toInt ≤ 400 ∧ 0 ≤ (sv_372 : Int32).toInt ∧ (sv_372 : Int32).toInt ≤ 400 := pf_374
        refine W.eq (g2 := F0 m 65 ls [.int r_375]) rfl ?_
        replace hP : va_P D classes [((Va 0), .inr (7, [.ref (Va 1), .int (Vv 0), .int (Vv 1)])), ((Va 1), .inl (tc 0, 400, .inl (Vf 1))), ((Ta 0), .inr (10, [.ref (Ta 1), .int (Tv 0), .int sv_371, .int sv_372, .int sv_373, .int (Tv 4)])), ((Ta 1), .inl (tc 0, 400, .inl (Tf 1)))] H := hP₀
        replace hD : va_D A [((Va 0), .inr (7, [.ref (Va 1), .int (Vv 0), .int (Vv 1)])), ((Va 1), .inl (tc 0, 400, .inl (Vf 1))), ((Ta 0), .inr (10, [.ref (Ta 1), .int (Tv 0), .int sv_371, .int sv_372, .int sv_373, .int (Tv 4)])), ((Ta 1), .inl (tc 0, 400, .inl (Tf 1)))] := hD₀
        replace hS := hS₀
        clear hP₀ hD₀ hS₀
        refine lv_if_eq (tgt := 93) hx hb dX7_readFact_65 (by decide) (fun c_380 => ?_) (fun c_380 => ?_)
        · skip
          have hz_383 : (r_375 : Int32).toInt = 0 := by
            have z_1 := congrArg Int32.toInt c_11
            have z_2 := congrArg Int32.toInt c_66
            have z_3 := congrArg Int32.toInt c_365
            have z_4 := congrArg Int32.toInt c_380
            have y_0 : (0 : Int32).toInt = 0 := by decide
            have y_91 : (91 : Int32).toInt = 91 := by decide
            omega
          obtain ⟨pf_381, pf_382⟩ := hm_379 hz_383
          have pf_381 : NSg (cB (Tf 1) (Tv 0)) (91 : Int) rr := pf_381
          have pf_382 : TpR (Tf 1) (Tv 0) rr sv_371 sv_372 sv_373 (Tv 4) := pf_382
          have tb_384 : TpB (rTE (cB (Tf 1) (Tv 0)) rr) sv_372 (Tv 4) := TpR.tb pf_382
          refine lv_aload_n hx hb dX7_readFact_93 rfl (lv_at hl 1 rfl) ?_
          refine lv_aload_n hx hb dX7_readFact_94 rfl (lv_at hl 2 rfl) ?_
          refine cV (a := (Va 0)) (As := [.ref (Ta 0)]) (rest := []) (wr := []) ⟨hx, hb, hml, hown, hts⟩ hK hX hA (cu_kX7_readSum l D tc sk (Va 0) (Va 1) (Vv 0) (Vv 1) (Vf 1) (Ta 0) (Ta 1) (Tv 0) sv_371 sv_372 sv_373 (Tv 4) (Tf 1) rr ll pf_374 h_u h_by pf_382 h_ct h_cd) k_624 k_621 k_623 k_7 k_99 pl_X7_readSum ⟨Nat.le_of_ble_eq_true rfl, Nat.le_of_ble_eq_true rfl⟩ rfl rfl (va_recv hK hP (ci := 7) (q0 := 0) rfl rfl) hP hD hS [0, 1, 2, 3] [] rfl rfl rfl rfl rfl (by decide) rfl hl.1 rfl (Nat.le_of_ble_eq_true rfl) dX7_readFact_95 ⟨Nat.le_of_ble_eq_true rfl, Nat.le_of_ble_eq_true rfl⟩ (fun v_385 u_386 H locs hv_387 hP₀ hD₀ hS₀ => ?_)
          obtain ⟨sv_388, sv_389, sv_390, sv_391, sv_392, sv_393, sv_394⟩ := u_386
          obtain ⟨rfl, pf_395, pf_396, pf_397, pf_398, pf_399⟩ := hv_387
          have pf_395 : 0 ≤ ((Tv 0) : Int32).toInt ∧ ((Tv 0) : Int32).toInt ≤ 400 ∧ 0 ≤ (sv_391 : Int32).toInt ∧ (sv_391 : Int32).toInt ≤ 400 ∧ 0 ≤ (sv_392 : Int32).toInt ∧ (sv_392 : Int32).toInt ≤ 400 := pf_395
          have pf_396 : 0 ≤ (sv_388 : Int32).toInt ∧ (sv_388 : Int32).toInt ≤ 400 := pf_396
          have pf_397 : TpR (Tf 1) (Tv 0) (pz_b rr (pz_sum (cB (Tf 1) (Tv 0)))) sv_391 sv_392 sv_393 sv_394 := pf_397
          obtain ⟨ro_400, ero_400⟩ : ∃ z : Except Int (Nat × Nat), z = (pz_b rr (pz_sum (cB (Tf 1) (Tv 0)))) := ⟨_, rfl⟩
          rw [← ero_400] at pf_397
          have tb_401 : TpB (rTE (cB (Tf 1) (Tv 0)) ro_400) sv_392 sv_394 := TpR.tb pf_397
          have pf_398 : Ctd (pz_b rr (pz_sum (cB (Tf 1) (Tv 0)))) sv_389 := pf_398
          rw [← ero_400] at pf_398
          have pf_399 : CdK sv_390 sv_388 (pz_b rr (pz_sum (cB (Tf 1) (Tv 0)))) (Ap rr (lsum (cB (Tf 1) (Tv 0))) ll) := pf_399
          rw [← ero_400] at pf_399
          obtain ⟨ro_402, ero_402⟩ : ∃ z : List Int, z = (Ap rr (lsum (cB (Tf 1) (Tv 0))) ll) := ⟨_, rfl⟩
          rw [← ero_402] at pf_399
          refine W.eq (g2 := F0 m 98 ls []) rfl ?_
          replace hP : va_P D classes [((Va 0), .inr (7, [.ref (Va 1), .int sv_388, .int sv_389])), ((Va 1), .inl (tc 0, 400, .inl sv_390)), ((Ta 0), .inr (10, [.ref (Ta 1), .int (Tv 0), .int sv_391, .int sv_392, .int sv_393, .int sv_394])), ((Ta 1), .inl (tc 0, 400, .inl (Tf 1)))] H := hP₀
          replace hD : va_D A [((Va 0), .inr (7, [.ref (Va 1), .int sv_388, .int sv_389])), ((Va 1), .inl (tc 0, 400, .inl sv_390)), ((Ta 0), .inr (10, [.ref (Ta 1), .int (Tv 0), .int sv_391, .int sv_392, .int sv_393, .int sv_394])), ((Ta 1), .inl (tc 0, 400, .inl (Tf 1)))] := hD₀
          replace hS := hS₀
          clear hP₀ hD₀ hS₀
          refine lv_aload_n hx hb dX7_readFact_98 rfl (lv_at hl 2 rfl) ?_
          refine cS (As := [.ref (Ta 0)]) (rest := []) (wr := [((Va 0), .inr (7, [.ref (Va 1), .int sv_388, .int sv_389])), ((Va 1), .inl (tc 0, 400, .inl sv_390))]) ⟨hx, hb, hml, hown, hts⟩ hK hX hA (cu_kX7_comparison l D tc sk (Ta 0) (Ta 1) (Tv 0) sv_391 sv_392 sv_393 sv_394 (Tf 1) pf_395) k_663 k_661 k_662 k_99 pl_X7_comparison ⟨Nat.le_of_ble_eq_true rfl, Nat.le_of_ble_eq_true rfl⟩ rfl rfl  hP hD hS [2, 3] [0, 1] rfl rfl rfl rfl rfl (by decide) rfl hl.1 rfl (Nat.le_of_ble_eq_true rfl) dX7_readFact_99 ⟨Nat.le_of_ble_eq_true rfl, Nat.le_of_ble_eq_true rfl⟩ (fun v_403 u_404 H locs hv_405 hP₀ hD₀ hS₀ => ?_)
          obtain ⟨r_406, rfl, he_407⟩ := hv_405
          have he_407 : (((r_406.toInt = -1 ∧ ¬ (60 ≤ sv_393.toInt ∧ sv_393.toInt ≤ 62)) ∨ (r_406.toInt ≤ -7 ∧ 60 ≤ sv_393.toInt ∧ sv_393.toInt ≤ 62)) ∧ ((60 ≤ sv_393.toInt ∧ sv_393.toInt ≤ 62) → r_406.toInt = ec_cc sv_393.toInt (sv_392.toInt - sv_391.toInt))) := he_407
          refine W.eq (g2 := F0 m 102 ls [.int r_406]) rfl ?_
          replace hP : va_P D classes [((Va 0), .inr (7, [.ref (Va 1), .int sv_388, .int sv_389])), ((Va 1), .inl (tc 0, 400, .inl sv_390)), ((Ta 0), .inr (10, [.ref (Ta 1), .int (Tv 0), .int sv_391, .int sv_392, .int sv_393, .int sv_394])), ((Ta 1), .inl (tc 0, 400, .inl (Tf 1)))] H := hP₀
          replace hD : va_D A [((Va 0), .inr (7, [.ref (Va 1), .int sv_388, .int sv_389])), ((Va 1), .inl (tc 0, 400, .inl sv_390)), ((Ta 0), .inr (10, [.ref (Ta 1), .int (Tv 0), .int sv_391, .int sv_392, .int sv_393, .int sv_394])), ((Ta 1), .inl (tc 0, 400, .inl (Tf 1)))] := hD₀
          replace hS := hS₀
          clear hP₀ hD₀ hS₀
          refine lv_istore (lv' := [(4, .int r_406), (3, .int r_6), (0, .ref (Va 0)), (1, .ref (Ta 0)), (2, .int 8)]) hx hb dX7_readFact_102 hl (by decide) rfl (fun ls hl₀ => ?_)
          replace hl := hl₀
          clear hl₀
          refine lv_iload hx hb dX7_readFact_104 (lv_at hl 0 rfl) ?_
          refine lv_iconst (v := (-1)) hx hb dX7_readFact_106 (by decide) ?_
          refine lv_icmp_ne (tgt := 115) hx hb dX7_readFact_107 (by decide) (fun c_409 => ?_) (fun c_409 => ?_)
          · skip
            refine lv_aload_n hx hb dX7_readFact_115 rfl (lv_at hl 2 rfl) ?_
            refine lv_aload_n hx hb dX7_readFact_116 rfl (lv_at hl 3 rfl) ?_
            refine cV (a := (Va 0)) (As := [.ref (Ta 0)]) (rest := []) (wr := []) ⟨hx, hb, hml, hown, hts⟩ hK hX hA (cu_fX7_countOne l D tc sk (Va 0) (Va 1) sv_388 sv_389 sv_390 (Ta 0) (Ta 1) (Tv 0) sv_391 sv_392 sv_393 sv_394 (Tf 1) ro_400 pf_395 pf_396 h_by pf_397 pf_398) k_638 k_635 k_637 k_9 k_99 pl_X7_countOne ⟨Nat.le_of_ble_eq_true rfl, Nat.le_of_ble_eq_true rfl⟩ rfl rfl (va_recv hK hP (ci := 7) (q0 := 0) rfl rfl) hP hD hS [0, 1, 2, 3] [] rfl rfl rfl rfl rfl (by decide) rfl hl.1 rfl (Nat.le_of_ble_eq_true rfl) dX7_readFact_117 ⟨Nat.le_of_ble_eq_true rfl, Nat.le_of_ble_eq_true rfl⟩ (fun v_410 u_411 H locs hv_412 hP₀ hD₀ hS₀ => ?_)
            obtain ⟨sv_413, sv_414, sv_415⟩ := u_411
            obtain ⟨rfl, pf_416, pf_417, pf_418, pf_419⟩ := hv_412
            have pf_416 : 0 ≤ ((Tv 0) : Int32).toInt ∧ ((Tv 0) : Int32).toInt ≤ 400 ∧ 0 ≤ (sv_391 : Int32).toInt ∧ (sv_391 : Int32).toInt ≤ 400 ∧ 0 ≤ (sv_392 : Int32).toInt ∧ (sv_392 : Int32).toInt ≤ 400 := pf_416
            have pf_417 : 0 ≤ (sv_388 : Int32).toInt ∧ (sv_388 : Int32).toInt ≤ 400 := pf_417
            have pf_418 : TpR (Tf 1) (Tv 0) (rC1 ro_400) sv_391 sv_392 sv_414 sv_415 := pf_418
            obtain ⟨ro_420, ero_420⟩ : ∃ z : Except Int (Nat × Nat), z = (rC1 ro_400) := ⟨_, rfl⟩
            rw [← ero_420] at pf_418
            have tb_421 : TpB (rTE (cB (Tf 1) (Tv 0)) ro_420) sv_392 sv_415 := TpR.tb pf_418
            have ck_422 : CdK sv_390 sv_388 ro_420 ro_402 := by rw [ero_420]; exact (CdK.c1 pf_399)
            have pf_419 : Ctd (rC1 ro_400) sv_413 := pf_419
            rw [← ero_420] at pf_419
            refine W.eq (g2 := F0 m 120 ls []) rfl ?_
            replace hP : va_P D classes [((Va 0), .inr (7, [.ref (Va 1), .int sv_388, .int sv_413])), ((Va 1), .inl (tc 0, 400, .inl sv_390)), ((Ta 0), .inr (10, [.ref (Ta 1), .int (Tv 0), .int sv_391, .int sv_392, .int sv_414, .int sv_415])), ((Ta 1), .inl (tc 0, 400, .inl (Tf 1)))] H := hP₀
            replace hD : va_D A [((Va 0), .inr (7, [.ref (Va 1), .int sv_388, .int sv_413])), ((Va 1), .inl (tc 0, 400, .inl sv_390)), ((Ta 0), .inr (10, [.ref (Ta 1), .int (Tv 0), .int sv_391, .int sv_392, .int sv_414, .int sv_415])), ((Ta 1), .inl (tc 0, 400, .inl (Tf 1)))] := hD₀
            replace hS := hS₀
            clear hP₀ hD₀ hS₀
            refine lv_aload_n hx hb dX7_readFact_120 rfl (lv_at hl 3 rfl) ?_
            refine cV (a := (Ta 0)) (As := []) (rest := []) (wr := [((Va 0), .inr (7, [.ref (Va 1), .int sv_388, .int sv_413])), ((Va 1), .inl (tc 0, 400, .inl sv_390))]) ⟨hx, hb, hml, hown, hts⟩ hK hX hA (cu_fX10_step l D tc sk (Ta 0) (Ta 1) (Tv 0) sv_391 sv_392 sv_414 sv_415 (Tf 1) (rTE (cB (Tf 1) (Tv 0)) ro_420) pf_416 h_by tb_421) k_478 k_620 k_476 k_477 k_96 pl_X10_step ⟨Nat.le_of_ble_eq_true rfl, Nat.le_of_ble_eq_true rfl⟩ rfl rfl (va_recv hK hP (ci := 10) (q0 := 2) rfl rfl) hP hD hS [2, 3] [0, 1] rfl rfl rfl rfl rfl (by decide) rfl hl.1 rfl (Nat.le_of_ble_eq_true rfl) dX7_readFact_121 ⟨Nat.le_of_ble_eq_true rfl, Nat.le_of_ble_eq_true rfl⟩ (fun v_423 u_424 H locs hv_425 hP₀ hD₀ hS₀ => ?_)
            obtain ⟨sv_426, sv_427, sv_428⟩ := u_424
            obtain ⟨rfl, pf_429, pf_430⟩ := hv_425
            have pf_429 : 0 ≤ ((Tv 0) : Int32).toInt ∧ ((Tv 0) : Int32).toInt ≤ 400 ∧ 0 ≤ (sv_426 : Int32).toInt ∧ (sv_426 : Int32).toInt ≤ 400 ∧ 0 ≤ (sv_427 : Int32).toInt ∧ (sv_427 : Int32).toInt ≤ 400 := pf_429
            have pf_430 : TpR (Tf 1) (Tv 0) (rSK (cB (Tf 1) (Tv 0)) (rTE (cB (Tf 1) (Tv 0)) ro_420)) sv_426 sv_427 sv_428 sv_415 := pf_430
            rw [rNX_eq] at pf_430
            obtain ⟨ro_431, ero_431⟩ : ∃ z : Except Int (Nat × Nat), z = (rNX (cB (Tf 1) (Tv 0)) ro_420) := ⟨_, rfl⟩
            rw [← ero_431] at pf_430
            have tb_432 : TpB (rTE (cB (Tf 1) (Tv 0)) ro_431) sv_427 sv_415 := TpR.tb pf_430
            have cd_433 : Ctd ro_431 sv_413 := by rw [ero_431]; exact (Ctd.nx pf_419)
            have ck_434 : CdK sv_390 sv_388 ro_431 ro_402 := by rw [ero_431]; exact (CdK.nx ck_422)
            refine W.eq (g2 := F0 m 124 ls []) rfl ?_
            replace hP : va_P D classes [((Va 0), .inr (7, [.ref (Va 1), .int sv_388, .int sv_413])), ((Va 1), .inl (tc 0, 400, .inl sv_390)), ((Ta 0), .inr (10, [.ref (Ta 1), .int (Tv 0), .int sv_426, .int sv_427, .int sv_428, .int sv_415])), ((Ta 1), .inl (tc 0, 400, .inl (Tf 1)))] H := hP₀
            replace hD : va_D A [((Va 0), .inr (7, [.ref (Va 1), .int sv_388, .int sv_413])), ((Va 1), .inl (tc 0, 400, .inl sv_390)), ((Ta 0), .inr (10, [.ref (Ta 1), .int (Tv 0), .int sv_426, .int sv_427, .int sv_428, .int sv_415])), ((Ta 1), .inl (tc 0, 400, .inl (Tf 1)))] := hD₀
            replace hS := hS₀
            clear hP₀ hD₀ hS₀
            refine lv_aload_n hx hb dX7_readFact_124 rfl (lv_at hl 2 rfl) ?_
            refine lv_aload_n hx hb dX7_readFact_125 rfl (lv_at hl 3 rfl) ?_
            refine cV (a := (Va 0)) (As := [.ref (Ta 0)]) (rest := []) (wr := []) ⟨hx, hb, hml, hown, hts⟩ hK hX hA (cu_kX7_readSum l D tc sk (Va 0) (Va 1) sv_388 sv_413 sv_390 (Ta 0) (Ta 1) (Tv 0) sv_426 sv_427 sv_428 sv_415 (Tf 1) ro_431 ro_402 pf_429 pf_417 h_by pf_430 cd_433 ck_434) k_624 k_621 k_623 k_7 k_99 pl_X7_readSum ⟨Nat.le_of_ble_eq_true rfl, Nat.le_of_ble_eq_true rfl⟩ rfl rfl (va_recv hK hP (ci := 7) (q0 := 0) rfl rfl) hP hD hS [0, 1, 2, 3] [] rfl rfl rfl rfl rfl (by decide) rfl hl.1 rfl (Nat.le_of_ble_eq_true rfl) dX7_readFact_126 ⟨Nat.le_of_ble_eq_true rfl, Nat.le_of_ble_eq_true rfl⟩ (fun v_435 u_436 H locs hv_437 hP₀ hD₀ hS₀ => ?_)
            obtain ⟨sv_438, sv_439, sv_440, sv_441, sv_442, sv_443, sv_444⟩ := u_436
            obtain ⟨rfl, pf_445, pf_446, pf_447, pf_448, pf_449⟩ := hv_437
            have pf_445 : 0 ≤ ((Tv 0) : Int32).toInt ∧ ((Tv 0) : Int32).toInt ≤ 400 ∧ 0 ≤ (sv_441 : Int32).toInt ∧ (sv_441 : Int32).toInt ≤ 400 ∧ 0 ≤ (sv_442 : Int32).toInt ∧ (sv_442 : Int32).toInt ≤ 400 := pf_445
            have pf_446 : 0 ≤ (sv_438 : Int32).toInt ∧ (sv_438 : Int32).toInt ≤ 400 := pf_446
            have pf_447 : TpR (Tf 1) (Tv 0) (pz_b ro_431 (pz_sum (cB (Tf 1) (Tv 0)))) sv_441 sv_442 sv_443 sv_444 := pf_447
            obtain ⟨ro_450, ero_450⟩ : ∃ z : Except Int (Nat × Nat), z = (pz_b ro_431 (pz_sum (cB (Tf 1) (Tv 0)))) := ⟨_, rfl⟩
            rw [← ero_450] at pf_447
            have tb_451 : TpB (rTE (cB (Tf 1) (Tv 0)) ro_450) sv_442 sv_444 := TpR.tb pf_447
            have pf_448 : Ctd (pz_b ro_431 (pz_sum (cB (Tf 1) (Tv 0)))) sv_439 := pf_448
            rw [← ero_450] at pf_448
            have pf_449 : CdK sv_440 sv_438 (pz_b ro_431 (pz_sum (cB (Tf 1) (Tv 0)))) (Ap ro_431 (lsum (cB (Tf 1) (Tv 0))) ro_402) := pf_449
            rw [← ero_450] at pf_449
            obtain ⟨ro_452, ero_452⟩ : ∃ z : List Int, z = (Ap ro_431 (lsum (cB (Tf 1) (Tv 0))) ro_402) := ⟨_, rfl⟩
            rw [← ero_452] at pf_449
            refine W.eq (g2 := F0 m 129 ls []) rfl ?_
            replace hP : va_P D classes [((Va 0), .inr (7, [.ref (Va 1), .int sv_438, .int sv_439])), ((Va 1), .inl (tc 0, 400, .inl sv_440)), ((Ta 0), .inr (10, [.ref (Ta 1), .int (Tv 0), .int sv_441, .int sv_442, .int sv_443, .int sv_444])), ((Ta 1), .inl (tc 0, 400, .inl (Tf 1)))] H := hP₀
            replace hD : va_D A [((Va 0), .inr (7, [.ref (Va 1), .int sv_438, .int sv_439])), ((Va 1), .inl (tc 0, 400, .inl sv_440)), ((Ta 0), .inr (10, [.ref (Ta 1), .int (Tv 0), .int sv_441, .int sv_442, .int sv_443, .int sv_444])), ((Ta 1), .inl (tc 0, 400, .inl (Tf 1)))] := hD₀
            replace hS := hS₀
            clear hP₀ hD₀ hS₀
            refine lv_aload_n hx hb dX7_readFact_129 rfl (lv_at hl 2 rfl) ?_
            refine lv_iload hx hb dX7_readFact_130 (lv_at hl 0 rfl) ?_
            refine cV (a := (Va 0)) (As := [.int r_406]) (rest := []) (wr := [((Ta 0), .inr (10, [.ref (Ta 1), .int (Tv 0), .int sv_441, .int sv_442, .int sv_443, .int sv_444])), ((Ta 1), .inl (tc 0, 400, .inl (Tf 1)))]) ⟨hx, hb, hml, hown, hts⟩ hK hX hA (cu_kX7_put l D tc sk (Va 0) (Va 1) sv_438 sv_439 sv_440 r_406 ro_450 ro_452 pf_446 pf_449) k_642 k_639 k_641 k_10 k_99 pl_X7_put ⟨Nat.le_of_ble_eq_true rfl, Nat.le_of_ble_eq_true rfl⟩ rfl rfl (va_recv hK hP (ci := 7) (q0 := 0) rfl rfl) hP hD hS [0, 1] [2, 3] rfl rfl rfl rfl rfl (by decide) rfl hl.1 rfl (Nat.le_of_ble_eq_true rfl) dX7_readFact_132 ⟨Nat.le_of_ble_eq_true rfl, Nat.le_of_ble_eq_true rfl⟩ (fun v_453 u_454 H locs hv_455 hP₀ hD₀ hS₀ => ?_)
            obtain ⟨sv_456, sv_457⟩ := u_454
            obtain ⟨rfl, pf_458, pf_459⟩ := hv_455
            have pf_458 : 0 ≤ (sv_456 : Int32).toInt ∧ (sv_456 : Int32).toInt ≤ 400 := pf_458
            have pf_459 : CdK sv_457 sv_456 ro_450 (ro_452 ++ [r_406.toInt]) := pf_459
            obtain ⟨ro_460, ero_460⟩ : ∃ z : List Int, z = (ro_452 ++ [r_406.toInt]) := ⟨_, rfl⟩
            rw [← ero_460] at pf_459
            refine W.eq (g2 := F0 m 135 ls []) rfl ?_
            replace hP : va_P D classes [((Ta 0), .inr (10, [.ref (Ta 1), .int (Tv 0), .int sv_441, .int sv_442, .int sv_443, .int sv_444])), ((Ta 1), .inl (tc 0, 400, .inl (Tf 1))), ((Va 0), .inr (7, [.ref (Va 1), .int sv_456, .int sv_439])), ((Va 1), .inl (tc 0, 400, .inl sv_457))] H := hP₀
            replace hD : va_D A [((Ta 0), .inr (10, [.ref (Ta 1), .int (Tv 0), .int sv_441, .int sv_442, .int sv_443, .int sv_444])), ((Ta 1), .inl (tc 0, 400, .inl (Tf 1))), ((Va 0), .inr (7, [.ref (Va 1), .int sv_456, .int sv_439])), ((Va 1), .inl (tc 0, 400, .inl sv_457))] := hD₀
            replace hS := hS₀
            clear hP₀ hD₀ hS₀
            have hf_461 : TpR (Tf 1) (Tv 0) (pz_b rr (pz_fact (cB (Tf 1) (Tv 0)) 2)) sv_441 sv_442 sv_443 sv_444 := by
              have hE_462 : (pz_b rr (pz_fact (cB (Tf 1) (Tv 0)) 2)) = ro_450 := by
                rw [ero_450, ero_431, ero_420, ero_400]
                have hw_463 : NWd (cB (Tf 1) (Tv 0)) pz_not rr := by
                  rw [← wS4]
                  exact pf_64
                have hw_464 : NSg (cB (Tf 1) (Tv 0)) 91 rr := by
                  exact pf_381
                have hu_465 : TpR (Tf 1) (Tv 0) (pz_b rr (pz_sum (cB (Tf 1) (Tv 0)))) sv_391 sv_392 sv_393 sv_394 := by
                  rw [← ero_400]
                  exact pf_397
                have hr_466 : 60 ≤ (sv_393 : Int32).toInt ∧ (sv_393 : Int32).toInt ≤ 62 := by
                  have z_1 := congrArg Int32.toInt c_11
                  have z_2 := congrArg Int32.toInt c_66
                  have z_3 := congrArg Int32.toInt c_365
                  have z_4 := congrArg Int32.toInt c_380
                  have z_5 : ¬ (r_406 : Int32).toInt = ((-1) : Int32).toInt := fun z => c_409 (Int32.toInt_inj.mp z)
                  have y_m1 : (-1 : Int32).toInt = -1 := by decide
                  have y_0 : (0 : Int32).toInt = 0 := by decide
                  have y_91 : (91 : Int32).toInt = 91 := by decide
                  omega
                exact ((fact_com hw_463 hw_464).trans (congrArg (fun z => pz_b z (pz_sum (cB (Tf 1) (Tv 0)))) (com_yes hu_465 hr_466)))
              rw [hE_462]
              exact pf_447
            have hf_467 : Ctd (pz_b rr (pz_fact (cB (Tf 1) (Tv 0)) 2)) sv_439 := by
              have hE_468 : (pz_b rr (pz_fact (cB (Tf 1) (Tv 0)) 2)) = ro_450 := by
                rw [ero_450, ero_431, ero_420, ero_400]
                have hw_469 : NWd (cB (Tf 1) (Tv 0)) pz_not rr := by
                  rw [← wS4]
                  exact pf_64
                have hw_470 : NSg (cB (Tf 1) (Tv 0)) 91 rr := by
                  exact pf_381
                have hu_471 : TpR (Tf 1) (Tv 0) (pz_b rr (pz_sum (cB (Tf 1) (Tv 0)))) sv_391 sv_392 sv_393 sv_394 := by
                  rw [← ero_400]
                  exact pf_397
                have hr_472 : 60 ≤ (sv_393 : Int32).toInt ∧ (sv_393 : Int32).toInt ≤ 62 := by
                  have z_1 := congrArg Int32.toInt c_11
                  have z_2 := congrArg Int32.toInt c_66
                  have z_3 := congrArg Int32.toInt c_365
                  have z_4 := congrArg Int32.toInt c_380
                  have z_5 : ¬ (r_406 : Int32).toInt = ((-1) : Int32).toInt := fun z => c_409 (Int32.toInt_inj.mp z)
                  have y_m1 : (-1 : Int32).toInt = -1 := by decide
                  have y_0 : (0 : Int32).toInt = 0 := by decide
                  have y_91 : (91 : Int32).toInt = 91 := by decide
                  omega
                exact ((fact_com hw_469 hw_470).trans (congrArg (fun z => pz_b z (pz_sum (cB (Tf 1) (Tv 0)))) (com_yes hu_471 hr_472)))
              rw [hE_468]
              exact pf_448
            have hE_473 : (pz_b rr (pz_fact (cB (Tf 1) (Tv 0)) 2)) = ro_450 := by
              rw [ero_450, ero_431, ero_420, ero_400]
              have hw_474 : NWd (cB (Tf 1) (Tv 0)) pz_not rr := by
                rw [← wS4]
                exact pf_64
              have hw_475 : NSg (cB (Tf 1) (Tv 0)) 91 rr := by
                exact pf_381
              have hu_476 : TpR (Tf 1) (Tv 0) (pz_b rr (pz_sum (cB (Tf 1) (Tv 0)))) sv_391 sv_392 sv_393 sv_394 := by
                rw [← ero_400]
                exact pf_397
              have hr_477 : 60 ≤ (sv_393 : Int32).toInt ∧ (sv_393 : Int32).toInt ≤ 62 := by
                have z_1 := congrArg Int32.toInt c_11
                have z_2 := congrArg Int32.toInt c_66
                have z_3 := congrArg Int32.toInt c_365
                have z_4 := congrArg Int32.toInt c_380
                have z_5 : ¬ (r_406 : Int32).toInt = ((-1) : Int32).toInt := fun z => c_409 (Int32.toInt_inj.mp z)
                have y_m1 : (-1 : Int32).toInt = -1 := by decide
                have y_0 : (0 : Int32).toInt = 0 := by decide
                have y_91 : (91 : Int32).toInt = 91 := by decide
                omega
              exact ((fact_com hw_474 hw_475).trans (congrArg (fun z => pz_b z (pz_sum (cB (Tf 1) (Tv 0)))) (com_yes hu_476 hr_477)))
            have hf_478 : CdK sv_457 sv_456 (pz_b rr (pz_fact (cB (Tf 1) (Tv 0)) 2)) (Ap rr (ec_fact (cB (Tf 1) (Tv 0)) 2) ll) := CdK.to pf_459 hE_473 (fun t ht => by
              rw [ero_460, ero_452, ero_431, ero_420, ero_402]
              have hw_479 : NWd (cB (Tf 1) (Tv 0)) pz_not rr := by
                rw [← wS4]
                exact pf_64
              have hw_480 : NSg (cB (Tf 1) (Tv 0)) 91 rr := by
                exact pf_381
              have hr_481 : 60 ≤ (sv_393 : Int32).toInt ∧ (sv_393 : Int32).toInt ≤ 62 := by
                have z_1 := congrArg Int32.toInt c_11
                have z_2 := congrArg Int32.toInt c_66
                have z_3 := congrArg Int32.toInt c_365
                have z_4 := congrArg Int32.toInt c_380
                have z_5 : ¬ (r_406 : Int32).toInt = ((-1) : Int32).toInt := fun z => c_409 (Int32.toInt_inj.mp z)
                have y_m1 : (-1 : Int32).toInt = -1 := by decide
                have y_0 : (0 : Int32).toInt = 0 := by decide
                have y_91 : (91 : Int32).toInt = 91 := by decide
                omega
              exact (fl_com hw_479 hw_480 ero_400 pf_397 hr_481 (he_407.2 hr_481)) t ht)
            exact retV hx hb hr hlk hP hD hS (sv_456, sv_439, sv_457, sv_441, sv_442, sv_443, sv_444) ⟨rfl, pf_445, pf_458, hf_461, hf_467, hf_478⟩ [2, 3, 0, 1] rfl rfl dX7_readFact_135 (Nat.le_of_ble_eq_true rfl) (Nat.le_of_ble_eq_true rfl) rfl
          · skip
            refine lv_aload_n hx hb dX7_readFact_110 rfl (lv_at hl 3 rfl) ?_
            refine lv_iconst (v := 0) hx hb dX7_readFact_111 (by decide) ?_
            have ha_482 : 0 ≤ (0 : Int32).toInt ∧ (0 : Int32).toInt ≤ 4 := by
              have z_1 := congrArg Int32.toInt c_11
              have z_2 := congrArg Int32.toInt c_66
              have z_3 := congrArg Int32.toInt c_365
              have z_4 := congrArg Int32.toInt c_380
              have z_5 := congrArg Int32.toInt c_409
              have y_m1 : (-1 : Int32).toInt = -1 := by decide
              have y_0 : (0 : Int32).toInt = 0 := by decide
              have y_91 : (91 : Int32).toInt = 91 := by decide
              omega
            have ha_483 : (0 : Int32).toInt = (0 : Int) := by
              have z_1 := congrArg Int32.toInt c_11
              have z_2 := congrArg Int32.toInt c_66
              have z_3 := congrArg Int32.toInt c_365
              have z_4 := congrArg Int32.toInt c_380
              have z_5 := congrArg Int32.toInt c_409
              have y_m1 : (-1 : Int32).toInt = -1 := by decide
              have y_0 : (0 : Int32).toInt = 0 := by decide
              have y_91 : (91 : Int32).toInt = 91 := by decide
              omega
            refine cV (a := (Ta 0)) (As := [.int 0]) (rest := []) (wr := [((Va 0), .inr (7, [.ref (Va 1), .int sv_388, .int sv_389])), ((Va 1), .inl (tc 0, 400, .inl sv_390))]) ⟨hx, hb, hml, hown, hts⟩ hK hX hA (cu_fX10_fail l D tc sk (Ta 0) (Ta 1) (Tv 0) sv_391 sv_392 sv_393 sv_394 (Tf 1) 0 ro_400 0 pf_395 pf_397 ha_482 ha_483) k_557 k_619 k_555 k_556 k_96 pl_X10_fail ⟨Nat.le_of_ble_eq_true rfl, Nat.le_of_ble_eq_true rfl⟩ rfl rfl (va_recv hK hP (ci := 10) (q0 := 2) rfl rfl) hP hD hS [2, 3] [0, 1] rfl rfl rfl rfl rfl (by decide) rfl hl.1 rfl (Nat.le_of_ble_eq_true rfl) dX7_readFact_112 ⟨Nat.le_of_ble_eq_true rfl, Nat.le_of_ble_eq_true rfl⟩ (fun v_484 u_485 H locs hv_486 hP₀ hD₀ hS₀ => ?_)
            obtain ⟨sv_487, sv_488⟩ := u_485
            obtain ⟨rfl, pf_489, pf_490⟩ := hv_486
            have pf_489 : 0 ≤ ((Tv 0) : Int32).toInt ∧ ((Tv 0) : Int32).toInt ≤ 400 ∧ 0 ≤ (sv_391 : Int32).toInt ∧ (sv_391 : Int32).toInt ≤ 400 ∧ 0 ≤ (sv_392 : Int32).toInt ∧ (sv_392 : Int32).toInt ≤ 400 := pf_489
            have pf_490 : TpR (Tf 1) (Tv 0) (rER (0 : Int) ro_400) sv_391 sv_392 sv_487 sv_488 := pf_490
            obtain ⟨ro_491, ero_491⟩ : ∃ z : Except Int (Nat × Nat), z = (rER 0 ro_400) := ⟨_, rfl⟩
            rw [← ero_491] at pf_490
            have tb_492 : TpB (rTE (cB (Tf 1) (Tv 0)) ro_491) sv_392 sv_488 := TpR.tb pf_490
            have cd_493 : Ctd ro_491 sv_389 := by rw [ero_491]; exact (Ctd.er)
            have ck_494 : CdK sv_390 sv_388 ro_491 ro_402 := by rw [ero_491]; exact (CdK.er)
            refine W.eq (g2 := F0 m 115 ls []) rfl ?_
            replace hP : va_P D classes [((Va 0), .inr (7, [.ref (Va 1), .int sv_388, .int sv_389])), ((Va 1), .inl (tc 0, 400, .inl sv_390)), ((Ta 0), .inr (10, [.ref (Ta 1), .int (Tv 0), .int sv_391, .int sv_392, .int sv_487, .int sv_488])), ((Ta 1), .inl (tc 0, 400, .inl (Tf 1)))] H := hP₀
            replace hD : va_D A [((Va 0), .inr (7, [.ref (Va 1), .int sv_388, .int sv_389])), ((Va 1), .inl (tc 0, 400, .inl sv_390)), ((Ta 0), .inr (10, [.ref (Ta 1), .int (Tv 0), .int sv_391, .int sv_392, .int sv_487, .int sv_488])), ((Ta 1), .inl (tc 0, 400, .inl (Tf 1)))] := hD₀
            replace hS := hS₀
            clear hP₀ hD₀ hS₀
            refine lv_aload_n hx hb dX7_readFact_115 rfl (lv_at hl 2 rfl) ?_
            refine lv_aload_n hx hb dX7_readFact_116 rfl (lv_at hl 3 rfl) ?_
            refine cV (a := (Va 0)) (As := [.ref (Ta 0)]) (rest := []) (wr := []) ⟨hx, hb, hml, hown, hts⟩ hK hX hA (cu_fX7_countOne l D tc sk (Va 0) (Va 1) sv_388 sv_389 sv_390 (Ta 0) (Ta 1) (Tv 0) sv_391 sv_392 sv_487 sv_488 (Tf 1) ro_491 pf_489 pf_396 h_by pf_490 cd_493) k_638 k_635 k_637 k_9 k_99 pl_X7_countOne ⟨Nat.le_of_ble_eq_true rfl, Nat.le_of_ble_eq_true rfl⟩ rfl rfl (va_recv hK hP (ci := 7) (q0 := 0) rfl rfl) hP hD hS [0, 1, 2, 3] [] rfl rfl rfl rfl rfl (by decide) rfl hl.1 rfl (Nat.le_of_ble_eq_true rfl) dX7_readFact_117 ⟨Nat.le_of_ble_eq_true rfl, Nat.le_of_ble_eq_true rfl⟩ (fun v_495 u_496 H locs hv_497 hP₀ hD₀ hS₀ => ?_)
            obtain ⟨sv_498, sv_499, sv_500⟩ := u_496
            obtain ⟨rfl, pf_501, pf_502, pf_503, pf_504⟩ := hv_497
            have pf_501 : 0 ≤ ((Tv 0) : Int32).toInt ∧ ((Tv 0) : Int32).toInt ≤ 400 ∧ 0 ≤ (sv_391 : Int32).toInt ∧ (sv_391 : Int32).toInt ≤ 400 ∧ 0 ≤ (sv_392 : Int32).toInt ∧ (sv_392 : Int32).toInt ≤ 400 := pf_501
            have pf_502 : 0 ≤ (sv_388 : Int32).toInt ∧ (sv_388 : Int32).toInt ≤ 400 := pf_502
            have pf_503 : TpR (Tf 1) (Tv 0) (rC1 ro_491) sv_391 sv_392 sv_499 sv_500 := pf_503
            obtain ⟨ro_505, ero_505⟩ : ∃ z : Except Int (Nat × Nat), z = (rC1 ro_491) := ⟨_, rfl⟩
            rw [← ero_505] at pf_503
            have tb_506 : TpB (rTE (cB (Tf 1) (Tv 0)) ro_505) sv_392 sv_500 := TpR.tb pf_503
            have ck_507 : CdK sv_390 sv_388 ro_505 ro_402 := by rw [ero_505]; exact (CdK.c1 ck_494)
            have pf_504 : Ctd (rC1 ro_491) sv_498 := pf_504
            rw [← ero_505] at pf_504
            refine W.eq (g2 := F0 m 120 ls []) rfl ?_
            replace hP : va_P D classes [((Va 0), .inr (7, [.ref (Va 1), .int sv_388, .int sv_498])), ((Va 1), .inl (tc 0, 400, .inl sv_390)), ((Ta 0), .inr (10, [.ref (Ta 1), .int (Tv 0), .int sv_391, .int sv_392, .int sv_499, .int sv_500])), ((Ta 1), .inl (tc 0, 400, .inl (Tf 1)))] H := hP₀
            replace hD : va_D A [((Va 0), .inr (7, [.ref (Va 1), .int sv_388, .int sv_498])), ((Va 1), .inl (tc 0, 400, .inl sv_390)), ((Ta 0), .inr (10, [.ref (Ta 1), .int (Tv 0), .int sv_391, .int sv_392, .int sv_499, .int sv_500])), ((Ta 1), .inl (tc 0, 400, .inl (Tf 1)))] := hD₀
            replace hS := hS₀
            clear hP₀ hD₀ hS₀
            refine lv_aload_n hx hb dX7_readFact_120 rfl (lv_at hl 3 rfl) ?_
            refine cV (a := (Ta 0)) (As := []) (rest := []) (wr := [((Va 0), .inr (7, [.ref (Va 1), .int sv_388, .int sv_498])), ((Va 1), .inl (tc 0, 400, .inl sv_390))]) ⟨hx, hb, hml, hown, hts⟩ hK hX hA (cu_fX10_step l D tc sk (Ta 0) (Ta 1) (Tv 0) sv_391 sv_392 sv_499 sv_500 (Tf 1) (rTE (cB (Tf 1) (Tv 0)) ro_505) pf_501 h_by tb_506) k_478 k_620 k_476 k_477 k_96 pl_X10_step ⟨Nat.le_of_ble_eq_true rfl, Nat.le_of_ble_eq_true rfl⟩ rfl rfl (va_recv hK hP (ci := 10) (q0 := 2) rfl rfl) hP hD hS [2, 3] [0, 1] rfl rfl rfl rfl rfl (by decide) rfl hl.1 rfl (Nat.le_of_ble_eq_true rfl) dX7_readFact_121 ⟨Nat.le_of_ble_eq_true rfl, Nat.le_of_ble_eq_true rfl⟩ (fun v_508 u_509 H locs hv_510 hP₀ hD₀ hS₀ => ?_)
            obtain ⟨sv_511, sv_512, sv_513⟩ := u_509
            obtain ⟨rfl, pf_514, pf_515⟩ := hv_510
            have pf_514 : 0 ≤ ((Tv 0) : Int32).toInt ∧ ((Tv 0) : Int32).toInt ≤ 400 ∧ 0 ≤ (sv_511 : Int32).toInt ∧ (sv_511 : Int32).toInt ≤ 400 ∧ 0 ≤ (sv_512 : Int32).toInt ∧ (sv_512 : Int32).toInt ≤ 400 := pf_514
            have pf_515 : TpR (Tf 1) (Tv 0) (rSK (cB (Tf 1) (Tv 0)) (rTE (cB (Tf 1) (Tv 0)) ro_505)) sv_511 sv_512 sv_513 sv_500 := pf_515
            rw [rNX_eq] at pf_515
            obtain ⟨ro_516, ero_516⟩ : ∃ z : Except Int (Nat × Nat), z = (rNX (cB (Tf 1) (Tv 0)) ro_505) := ⟨_, rfl⟩
            rw [← ero_516] at pf_515
            have tb_517 : TpB (rTE (cB (Tf 1) (Tv 0)) ro_516) sv_512 sv_500 := TpR.tb pf_515
            have cd_518 : Ctd ro_516 sv_498 := by rw [ero_516]; exact (Ctd.nx pf_504)
            have ck_519 : CdK sv_390 sv_388 ro_516 ro_402 := by rw [ero_516]; exact (CdK.nx ck_507)
            refine W.eq (g2 := F0 m 124 ls []) rfl ?_
            replace hP : va_P D classes [((Va 0), .inr (7, [.ref (Va 1), .int sv_388, .int sv_498])), ((Va 1), .inl (tc 0, 400, .inl sv_390)), ((Ta 0), .inr (10, [.ref (Ta 1), .int (Tv 0), .int sv_511, .int sv_512, .int sv_513, .int sv_500])), ((Ta 1), .inl (tc 0, 400, .inl (Tf 1)))] H := hP₀
            replace hD : va_D A [((Va 0), .inr (7, [.ref (Va 1), .int sv_388, .int sv_498])), ((Va 1), .inl (tc 0, 400, .inl sv_390)), ((Ta 0), .inr (10, [.ref (Ta 1), .int (Tv 0), .int sv_511, .int sv_512, .int sv_513, .int sv_500])), ((Ta 1), .inl (tc 0, 400, .inl (Tf 1)))] := hD₀
            replace hS := hS₀
            clear hP₀ hD₀ hS₀
            refine lv_aload_n hx hb dX7_readFact_124 rfl (lv_at hl 2 rfl) ?_
            refine lv_aload_n hx hb dX7_readFact_125 rfl (lv_at hl 3 rfl) ?_
            refine cV (a := (Va 0)) (As := [.ref (Ta 0)]) (rest := []) (wr := []) ⟨hx, hb, hml, hown, hts⟩ hK hX hA (cu_kX7_readSum l D tc sk (Va 0) (Va 1) sv_388 sv_498 sv_390 (Ta 0) (Ta 1) (Tv 0) sv_511 sv_512 sv_513 sv_500 (Tf 1) ro_516 ro_402 pf_514 pf_502 h_by pf_515 cd_518 ck_519) k_624 k_621 k_623 k_7 k_99 pl_X7_readSum ⟨Nat.le_of_ble_eq_true rfl, Nat.le_of_ble_eq_true rfl⟩ rfl rfl (va_recv hK hP (ci := 7) (q0 := 0) rfl rfl) hP hD hS [0, 1, 2, 3] [] rfl rfl rfl rfl rfl (by decide) rfl hl.1 rfl (Nat.le_of_ble_eq_true rfl) dX7_readFact_126 ⟨Nat.le_of_ble_eq_true rfl, Nat.le_of_ble_eq_true rfl⟩ (fun v_520 u_521 H locs hv_522 hP₀ hD₀ hS₀ => ?_)
            obtain ⟨sv_523, sv_524, sv_525, sv_526, sv_527, sv_528, sv_529⟩ := u_521
            obtain ⟨rfl, pf_530, pf_531, pf_532, pf_533, pf_534⟩ := hv_522
            have pf_530 : 0 ≤ ((Tv 0) : Int32).toInt ∧ ((Tv 0) : Int32).toInt ≤ 400 ∧ 0 ≤ (sv_526 : Int32).toInt ∧ (sv_526 : Int32).toInt ≤ 400 ∧ 0 ≤ (sv_527 : Int32).toInt ∧ (sv_527 : Int32).toInt ≤ 400 := pf_530
            have pf_531 : 0 ≤ (sv_523 : Int32).toInt ∧ (sv_523 : Int32).toInt ≤ 400 := pf_531
            have pf_532 : TpR (Tf 1) (Tv 0) (pz_b ro_516 (pz_sum (cB (Tf 1) (Tv 0)))) sv_526 sv_527 sv_528 sv_529 := pf_532
            obtain ⟨ro_535, ero_535⟩ : ∃ z : Except Int (Nat × Nat), z = (pz_b ro_516 (pz_sum (cB (Tf 1) (Tv 0)))) := ⟨_, rfl⟩
            rw [← ero_535] at pf_532
            have tb_536 : TpB (rTE (cB (Tf 1) (Tv 0)) ro_535) sv_527 sv_529 := TpR.tb pf_532
            have pf_533 : Ctd (pz_b ro_516 (pz_sum (cB (Tf 1) (Tv 0)))) sv_524 := pf_533
            rw [← ero_535] at pf_533
            have pf_534 : CdK sv_525 sv_523 (pz_b ro_516 (pz_sum (cB (Tf 1) (Tv 0)))) (Ap ro_516 (lsum (cB (Tf 1) (Tv 0))) ro_402) := pf_534
            rw [← ero_535] at pf_534
            obtain ⟨ro_537, ero_537⟩ : ∃ z : List Int, z = (Ap ro_516 (lsum (cB (Tf 1) (Tv 0))) ro_402) := ⟨_, rfl⟩
            rw [← ero_537] at pf_534
            refine W.eq (g2 := F0 m 129 ls []) rfl ?_
            replace hP : va_P D classes [((Va 0), .inr (7, [.ref (Va 1), .int sv_523, .int sv_524])), ((Va 1), .inl (tc 0, 400, .inl sv_525)), ((Ta 0), .inr (10, [.ref (Ta 1), .int (Tv 0), .int sv_526, .int sv_527, .int sv_528, .int sv_529])), ((Ta 1), .inl (tc 0, 400, .inl (Tf 1)))] H := hP₀
            replace hD : va_D A [((Va 0), .inr (7, [.ref (Va 1), .int sv_523, .int sv_524])), ((Va 1), .inl (tc 0, 400, .inl sv_525)), ((Ta 0), .inr (10, [.ref (Ta 1), .int (Tv 0), .int sv_526, .int sv_527, .int sv_528, .int sv_529])), ((Ta 1), .inl (tc 0, 400, .inl (Tf 1)))] := hD₀
            replace hS := hS₀
            clear hP₀ hD₀ hS₀
            refine lv_aload_n hx hb dX7_readFact_129 rfl (lv_at hl 2 rfl) ?_
            refine lv_iload hx hb dX7_readFact_130 (lv_at hl 0 rfl) ?_
            refine cV (a := (Va 0)) (As := [.int r_406]) (rest := []) (wr := [((Ta 0), .inr (10, [.ref (Ta 1), .int (Tv 0), .int sv_526, .int sv_527, .int sv_528, .int sv_529])), ((Ta 1), .inl (tc 0, 400, .inl (Tf 1)))]) ⟨hx, hb, hml, hown, hts⟩ hK hX hA (cu_kX7_put l D tc sk (Va 0) (Va 1) sv_523 sv_524 sv_525 r_406 ro_535 ro_537 pf_531 pf_534) k_642 k_639 k_641 k_10 k_99 pl_X7_put ⟨Nat.le_of_ble_eq_true rfl, Nat.le_of_ble_eq_true rfl⟩ rfl rfl (va_recv hK hP (ci := 7) (q0 := 0) rfl rfl) hP hD hS [0, 1] [2, 3] rfl rfl rfl rfl rfl (by decide) rfl hl.1 rfl (Nat.le_of_ble_eq_true rfl) dX7_readFact_132 ⟨Nat.le_of_ble_eq_true rfl, Nat.le_of_ble_eq_true rfl⟩ (fun v_538 u_539 H locs hv_540 hP₀ hD₀ hS₀ => ?_)
            obtain ⟨sv_541, sv_542⟩ := u_539
            obtain ⟨rfl, pf_543, pf_544⟩ := hv_540
            have pf_543 : 0 ≤ (sv_541 : Int32).toInt ∧ (sv_541 : Int32).toInt ≤ 400 := pf_543
            have pf_544 : CdK sv_542 sv_541 ro_535 (ro_537 ++ [r_406.toInt]) := pf_544
            obtain ⟨ro_545, ero_545⟩ : ∃ z : List Int, z = (ro_537 ++ [r_406.toInt]) := ⟨_, rfl⟩
            rw [← ero_545] at pf_544
            refine W.eq (g2 := F0 m 135 ls []) rfl ?_
            replace hP : va_P D classes [((Ta 0), .inr (10, [.ref (Ta 1), .int (Tv 0), .int sv_526, .int sv_527, .int sv_528, .int sv_529])), ((Ta 1), .inl (tc 0, 400, .inl (Tf 1))), ((Va 0), .inr (7, [.ref (Va 1), .int sv_541, .int sv_524])), ((Va 1), .inl (tc 0, 400, .inl sv_542))] H := hP₀
            replace hD : va_D A [((Ta 0), .inr (10, [.ref (Ta 1), .int (Tv 0), .int sv_526, .int sv_527, .int sv_528, .int sv_529])), ((Ta 1), .inl (tc 0, 400, .inl (Tf 1))), ((Va 0), .inr (7, [.ref (Va 1), .int sv_541, .int sv_524])), ((Va 1), .inl (tc 0, 400, .inl sv_542))] := hD₀
            replace hS := hS₀
            clear hP₀ hD₀ hS₀
            have hf_546 : TpR (Tf 1) (Tv 0) (pz_b rr (pz_fact (cB (Tf 1) (Tv 0)) 2)) sv_526 sv_527 sv_528 sv_529 := by
              have hE_547 : (pz_b rr (pz_fact (cB (Tf 1) (Tv 0)) 2)) = ro_535 := by
                rw [ero_535, ero_516, ero_505, ero_491, ero_400]
                have hw_548 : NWd (cB (Tf 1) (Tv 0)) pz_not rr := by
                  rw [← wS4]
                  exact pf_64
                have hw_549 : NSg (cB (Tf 1) (Tv 0)) 91 rr := by
                  exact pf_381
                have hu_550 : TpR (Tf 1) (Tv 0) (pz_b rr (pz_sum (cB (Tf 1) (Tv 0)))) sv_391 sv_392 sv_393 sv_394 := by
                  rw [← ero_400]
                  exact pf_397
                have hr_551 : ¬ (60 ≤ (sv_393 : Int32).toInt ∧ (sv_393 : Int32).toInt ≤ 62) := by
                  have z_1 := congrArg Int32.toInt c_11
                  have z_2 := congrArg Int32.toInt c_66
                  have z_3 := congrArg Int32.toInt c_365
                  have z_4 := congrArg Int32.toInt c_380
                  have z_5 := congrArg Int32.toInt c_409
                  have y_m1 : (-1 : Int32).toInt = -1 := by decide
                  have y_0 : (0 : Int32).toInt = 0 := by decide
                  have y_91 : (91 : Int32).toInt = 91 := by decide
                  omega
                exact ((fact_com hw_548 hw_549).trans (congrArg (fun z => pz_b z (pz_sum (cB (Tf 1) (Tv 0)))) (com_no hu_550 hr_551)))
              rw [hE_547]
              exact pf_532
            have hf_552 : Ctd (pz_b rr (pz_fact (cB (Tf 1) (Tv 0)) 2)) sv_524 := by
              have hE_553 : (pz_b rr (pz_fact (cB (Tf 1) (Tv 0)) 2)) = ro_535 := by
                rw [ero_535, ero_516, ero_505, ero_491, ero_400]
                have hw_554 : NWd (cB (Tf 1) (Tv 0)) pz_not rr := by
                  rw [← wS4]
                  exact pf_64
                have hw_555 : NSg (cB (Tf 1) (Tv 0)) 91 rr := by
                  exact pf_381
                have hu_556 : TpR (Tf 1) (Tv 0) (pz_b rr (pz_sum (cB (Tf 1) (Tv 0)))) sv_391 sv_392 sv_393 sv_394 := by
                  rw [← ero_400]
                  exact pf_397
                have hr_557 : ¬ (60 ≤ (sv_393 : Int32).toInt ∧ (sv_393 : Int32).toInt ≤ 62) := by
                  have z_1 := congrArg Int32.toInt c_11
                  have z_2 := congrArg Int32.toInt c_66
                  have z_3 := congrArg Int32.toInt c_365
                  have z_4 := congrArg Int32.toInt c_380
                  have z_5 := congrArg Int32.toInt c_409
                  have y_m1 : (-1 : Int32).toInt = -1 := by decide
                  have y_0 : (0 : Int32).toInt = 0 := by decide
                  have y_91 : (91 : Int32).toInt = 91 := by decide
                  omega
                exact ((fact_com hw_554 hw_555).trans (congrArg (fun z => pz_b z (pz_sum (cB (Tf 1) (Tv 0)))) (com_no hu_556 hr_557)))
              rw [hE_553]
              exact pf_533
            have hE_558 : (pz_b rr (pz_fact (cB (Tf 1) (Tv 0)) 2)) = ro_535 := by
              rw [ero_535, ero_516, ero_505, ero_491, ero_400]
              have hw_559 : NWd (cB (Tf 1) (Tv 0)) pz_not rr := by
                rw [← wS4]
                exact pf_64
              have hw_560 : NSg (cB (Tf 1) (Tv 0)) 91 rr := by
                exact pf_381
              have hu_561 : TpR (Tf 1) (Tv 0) (pz_b rr (pz_sum (cB (Tf 1) (Tv 0)))) sv_391 sv_392 sv_393 sv_394 := by
                rw [← ero_400]
                exact pf_397
              have hr_562 : ¬ (60 ≤ (sv_393 : Int32).toInt ∧ (sv_393 : Int32).toInt ≤ 62) := by
                have z_1 := congrArg Int32.toInt c_11
                have z_2 := congrArg Int32.toInt c_66
                have z_3 := congrArg Int32.toInt c_365
                have z_4 := congrArg Int32.toInt c_380
                have z_5 := congrArg Int32.toInt c_409
                have y_m1 : (-1 : Int32).toInt = -1 := by decide
                have y_0 : (0 : Int32).toInt = 0 := by decide
                have y_91 : (91 : Int32).toInt = 91 := by decide
                omega
              exact ((fact_com hw_559 hw_560).trans (congrArg (fun z => pz_b z (pz_sum (cB (Tf 1) (Tv 0)))) (com_no hu_561 hr_562)))
            have hf_563 : CdK sv_542 sv_541 (pz_b rr (pz_fact (cB (Tf 1) (Tv 0)) 2)) (Ap rr (ec_fact (cB (Tf 1) (Tv 0)) 2) ll) := CdK.to pf_544 hE_558 (fun t ht => by
              rw [ero_545, ero_537, ero_516, ero_505, ero_491, ero_402, ero_400]
              have hw_564 : NWd (cB (Tf 1) (Tv 0)) pz_not rr := by
                rw [← wS4]
                exact pf_64
              exact (fl_er3 (hE_558.trans (by rw [ero_535, ero_516, ero_505, ero_491, ero_400]))) t ht)
            exact retV hx hb hr hlk hP hD hS (sv_541, sv_524, sv_542, sv_526, sv_527, sv_528, sv_529) ⟨rfl, pf_530, pf_543, hf_546, hf_552, hf_563⟩ [2, 3, 0, 1] rfl rfl dX7_readFact_135 (Nat.le_of_ble_eq_true rfl) (Nat.le_of_ble_eq_true rfl) rfl
        · skip
          have hz_567 : (r_375 : Int32).toInt = 1 := by
            have z_1 := congrArg Int32.toInt c_11
            have z_2 := congrArg Int32.toInt c_66
            have z_3 := congrArg Int32.toInt c_365
            have z_4 : ¬ (r_375 : Int32).toInt = (0 : Int32).toInt := fun z => c_380 (Int32.toInt_inj.mp z)
            have y_0 : (0 : Int32).toInt = 0 := by decide
            have y_91 : (91 : Int32).toInt = 91 := by decide
            omega
          obtain ⟨pf_565, pf_566⟩ := hm_378 hz_567
          have pf_565 : Sg (cB (Tf 1) (Tv 0)) (91 : Int) rr := pf_565
          have pf_566 : TpR (Tf 1) (Tv 0) (rNX (cB (Tf 1) (Tv 0)) rr) sv_371 sv_372 sv_373 (Tv 4) := pf_566
          obtain ⟨ro_568, ero_568⟩ : ∃ z : Except Int (Nat × Nat), z = (rNX (cB (Tf 1) (Tv 0)) rr) := ⟨_, rfl⟩
          rw [← ero_568] at pf_566
          have tb_569 : TpB (rTE (cB (Tf 1) (Tv 0)) ro_568) sv_372 (Tv 4) := TpR.tb pf_566
          have cd_570 : Ctd ro_568 (Vv 1) := by rw [ero_568]; exact (Ctd.nx h_ct)
          have ck_571 : CdK (Vf 1) (Vv 0) ro_568 ll := by rw [ero_568]; exact (CdK.nx h_cd)
          refine lv_aload_n hx hb dX7_readFact_68 rfl (lv_at hl 1 rfl) ?_
          refine lv_aload_n hx hb dX7_readFact_69 rfl (lv_at hl 2 rfl) ?_
          refine lv_iload_n hx hb dX7_readFact_70 rfl (lv_at hl 3 rfl) ?_
          refine lv_iconst (v := 1) hx hb dX7_readFact_71 (by decide) ?_
          refine lv_iadd hx hb dX7_readFact_72 ?_
          refine lv_lit (v := 9) (by decide) ?_
          refine cV (a := (Va 0)) (As := [.ref (Ta 0), .int 9]) (rest := []) (wr := []) ⟨hx, hb, hml, hown, hts⟩ hK hX hA (cu_kX7_readTest_9 l D tc sk (Va 0) (Va 1) (Vv 0) (Vv 1) (Vf 1) (Ta 0) (Ta 1) (Tv 0) sv_371 sv_372 sv_373 (Tv 4) (Tf 1) ro_568 ll pf_374 h_u h_by pf_566 cd_570 ck_571) k_655 k_652 k_654 k_11 k_99 pl_X7_readTest ⟨Nat.le_of_ble_eq_true rfl, Nat.le_of_ble_eq_true rfl⟩ rfl rfl (va_recv hK hP (ci := 7) (q0 := 0) rfl rfl) hP hD hS [0, 1, 2, 3] [] rfl rfl rfl rfl rfl (by decide) rfl hl.1 rfl (Nat.le_of_ble_eq_true rfl) dX7_readFact_73 ⟨Nat.le_of_ble_eq_true rfl, Nat.le_of_ble_eq_true rfl⟩ (fun v_572 u_573 H locs hv_574 hP₀ hD₀ hS₀ => ?_)
          obtain ⟨sv_575, sv_576, sv_577, sv_578, sv_579, sv_580, sv_581⟩ := u_573
          obtain ⟨rfl, pf_582, pf_583, pf_584, pf_585, pf_586⟩ := hv_574
          have pf_582 : 0 ≤ ((Tv 0) : Int32).toInt ∧ ((Tv 0) : Int32).toInt ≤ 400 ∧ 0 ≤ (sv_578 : Int32).toInt ∧ (sv_578 : Int32).toInt ≤ 400 ∧ 0 ≤ (sv_579 : Int32).toInt ∧ (sv_579 : Int32).toInt ≤ 400 := pf_582
          have pf_583 : 0 ≤ (sv_575 : Int32).toInt ∧ (sv_575 : Int32).toInt ≤ 400 := pf_583
          have pf_584 : TpR (Tf 1) (Tv 0) (pz_b ro_568 (pz_tst (cB (Tf 1) (Tv 0)) (pz_fact (cB (Tf 1) (Tv 0)) 1))) sv_578 sv_579 sv_580 sv_581 := pf_584
          obtain ⟨ro_587, ero_587⟩ : ∃ z : Except Int (Nat × Nat), z = (pz_b ro_568 (pz_tst (cB (Tf 1) (Tv 0)) (pz_fact (cB (Tf 1) (Tv 0)) 1))) := ⟨_, rfl⟩
          rw [← ero_587] at pf_584
          have tb_588 : TpB (rTE (cB (Tf 1) (Tv 0)) ro_587) sv_579 sv_581 := TpR.tb pf_584
          have pf_585 : Ctd (pz_b ro_568 (pz_tst (cB (Tf 1) (Tv 0)) (pz_fact (cB (Tf 1) (Tv 0)) 1))) sv_576 := pf_585
          rw [← ero_587] at pf_585
          have pf_586 : CdK sv_577 sv_575 (pz_b ro_568 (pz_tst (cB (Tf 1) (Tv 0)) (pz_fact (cB (Tf 1) (Tv 0)) 1))) (Ap ro_568 (ltst (cB (Tf 1) (Tv 0)) 1) ll) := pf_586
          rw [← ero_587] at pf_586
          obtain ⟨ro_589, ero_589⟩ : ∃ z : List Int, z = (Ap ro_568 (ltst (cB (Tf 1) (Tv 0)) 1) ll) := ⟨_, rfl⟩
          rw [← ero_589] at pf_586
          refine W.eq (g2 := F0 m 76 ls []) rfl ?_
          replace hP : va_P D classes [((Va 0), .inr (7, [.ref (Va 1), .int sv_575, .int sv_576])), ((Va 1), .inl (tc 0, 400, .inl sv_577)), ((Ta 0), .inr (10, [.ref (Ta 1), .int (Tv 0), .int sv_578, .int sv_579, .int sv_580, .int sv_581])), ((Ta 1), .inl (tc 0, 400, .inl (Tf 1)))] H := hP₀
          replace hD : va_D A [((Va 0), .inr (7, [.ref (Va 1), .int sv_575, .int sv_576])), ((Va 1), .inl (tc 0, 400, .inl sv_577)), ((Ta 0), .inr (10, [.ref (Ta 1), .int (Tv 0), .int sv_578, .int sv_579, .int sv_580, .int sv_581])), ((Ta 1), .inl (tc 0, 400, .inl (Tf 1)))] := hD₀
          replace hS := hS₀
          clear hP₀ hD₀ hS₀
          refine lv_aload_n hx hb dX7_readFact_76 rfl (lv_at hl 2 rfl) ?_
          refine lv_bipush (v := 93) hx hb dX7_readFact_77 (by decide) ?_
          have ha_590 : 0 ≤ (93 : Int32).toInt := by
            have z_1 := congrArg Int32.toInt c_11
            have z_2 := congrArg Int32.toInt c_66
            have z_3 := congrArg Int32.toInt c_365
            have z_4 : ¬ (r_375 : Int32).toInt = (0 : Int32).toInt := fun z => c_380 (Int32.toInt_inj.mp z)
            have y_0 : (0 : Int32).toInt = 0 := by decide
            have y_91 : (91 : Int32).toInt = 91 := by decide
            have y_93 : (93 : Int32).toInt = 93 := by decide
            omega
          have ha_591 : (93 : Int32).toInt = (93 : Int) := by
            have z_1 := congrArg Int32.toInt c_11
            have z_2 := congrArg Int32.toInt c_66
            have z_3 := congrArg Int32.toInt c_365
            have z_4 : ¬ (r_375 : Int32).toInt = (0 : Int32).toInt := fun z => c_380 (Int32.toInt_inj.mp z)
            have y_0 : (0 : Int32).toInt = 0 := by decide
            have y_91 : (91 : Int32).toInt = 91 := by decide
            have y_93 : (93 : Int32).toInt = 93 := by decide
            omega
          refine cV (a := (Ta 0)) (As := [.int 93]) (rest := []) (wr := [((Va 0), .inr (7, [.ref (Va 1), .int sv_575, .int sv_576])), ((Va 1), .inl (tc 0, 400, .inl sv_577))]) ⟨hx, hb, hml, hown, hts⟩ hK hX hA (cu_fX10_takes l D tc sk (Ta 0) (Ta 1) (Tv 0) sv_578 sv_579 sv_580 sv_581 (Tf 1) 93 ro_587 93 pf_582 h_by pf_584 ha_590 ha_591) k_492 k_613 k_490 k_491 k_96 pl_X10_takes ⟨Nat.le_of_ble_eq_true rfl, Nat.le_of_ble_eq_true rfl⟩ rfl rfl (va_recv hK hP (ci := 10) (q0 := 2) rfl rfl) hP hD hS [2, 3] [0, 1] rfl rfl rfl rfl rfl (by decide) rfl hl.1 rfl (Nat.le_of_ble_eq_true rfl) dX7_readFact_79 ⟨Nat.le_of_ble_eq_true rfl, Nat.le_of_ble_eq_true rfl⟩ (fun v_592 u_593 H locs hv_594 hP₀ hD₀ hS₀ => ?_)
          obtain ⟨sv_595, sv_596, sv_597⟩ := u_593
          obtain ⟨r_599, rfl, he_600, pf_598, hm_602, hm_603⟩ := hv_594
          have he_600 : (r_599.toInt = 0 ∨ r_599.toInt = 1) := he_600
          have pf_598 : 0 ≤ ((Tv 0) : Int32).toInt ∧ ((Tv 0) : Int32).toInt ≤ 400 ∧ 0 ≤ (sv_595 : Int32).toInt ∧ (sv_595 : Int32).toInt ≤ 400 ∧ 0 ≤ (sv_596 : Int32).toInt ∧ (sv_596 : Int32).toInt ≤ 400 := pf_598
          refine W.eq (g2 := F0 m 82 ls [.int r_599]) rfl ?_
          replace hP : va_P D classes [((Va 0), .inr (7, [.ref (Va 1), .int sv_575, .int sv_576])), ((Va 1), .inl (tc 0, 400, .inl sv_577)), ((Ta 0), .inr (10, [.ref (Ta 1), .int (Tv 0), .int sv_595, .int sv_596, .int sv_597, .int sv_581])), ((Ta 1), .inl (tc 0, 400, .inl (Tf 1)))] H := hP₀
          replace hD : va_D A [((Va 0), .inr (7, [.ref (Va 1), .int sv_575, .int sv_576])), ((Va 1), .inl (tc 0, 400, .inl sv_577)), ((Ta 0), .inr (10, [.ref (Ta 1), .int (Tv 0), .int sv_595, .int sv_596, .int sv_597, .int sv_581])), ((Ta 1), .inl (tc 0, 400, .inl (Tf 1)))] := hD₀
          replace hS := hS₀
          clear hP₀ hD₀ hS₀
          refine lv_if_ne (tgt := 135) hx hb dX7_readFact_82 (by decide) (fun c_604 => ?_) (fun c_604 => ?_)
          · skip
            have hz_607 : (r_599 : Int32).toInt = 1 := by
              have z_1 := congrArg Int32.toInt c_11
              have z_2 := congrArg Int32.toInt c_66
              have z_3 := congrArg Int32.toInt c_365
              have z_4 : ¬ (r_375 : Int32).toInt = (0 : Int32).toInt := fun z => c_380 (Int32.toInt_inj.mp z)
              have z_5 : ¬ (r_599 : Int32).toInt = (0 : Int32).toInt := fun z => c_604 (Int32.toInt_inj.mp z)
              have y_0 : (0 : Int32).toInt = 0 := by decide
              have y_91 : (91 : Int32).toInt = 91 := by decide
              omega
            obtain ⟨pf_605, pf_606⟩ := hm_602 hz_607
            have pf_605 : Sg (cB (Tf 1) (Tv 0)) (93 : Int) ro_587 := pf_605
            have pf_606 : TpR (Tf 1) (Tv 0) (rNX (cB (Tf 1) (Tv 0)) ro_587) sv_595 sv_596 sv_597 sv_581 := pf_606
            obtain ⟨ro_608, ero_608⟩ : ∃ z : Except Int (Nat × Nat), z = (rNX (cB (Tf 1) (Tv 0)) ro_587) := ⟨_, rfl⟩
            rw [← ero_608] at pf_606
            have tb_609 : TpB (rTE (cB (Tf 1) (Tv 0)) ro_608) sv_596 sv_581 := TpR.tb pf_606
            have cd_610 : Ctd ro_608 sv_576 := by rw [ero_608]; exact (Ctd.nx pf_585)
            have ck_611 : CdK sv_577 sv_575 ro_608 ro_589 := by rw [ero_608]; exact (CdK.nx pf_586)
            have hf_612 : TpR (Tf 1) (Tv 0) (pz_b rr (pz_fact (cB (Tf 1) (Tv 0)) 2)) sv_595 sv_596 sv_597 sv_581 := by
              have hE_613 : (pz_b rr (pz_fact (cB (Tf 1) (Tv 0)) 2)) = ro_608 := by
                rw [ero_608, ero_587, ero_568]
                have hw_614 : NWd (cB (Tf 1) (Tv 0)) pz_not rr := by
                  rw [← wS4]
                  exact pf_64
                have hw_615 : Sg (cB (Tf 1) (Tv 0)) 91 rr := by
                  exact pf_565
                have hw_616 : Sg (cB (Tf 1) (Tv 0)) 93 (pz_b (rNX (cB (Tf 1) (Tv 0)) rr) (pz_tst (cB (Tf 1) (Tv 0)) (pz_fact (cB (Tf 1) (Tv 0)) 1))) := by
                  rw [← ero_568, ← ero_587]
                  exact pf_605
                exact ((fact_br hw_614 hw_615).trans (rb_yes hw_616))
              rw [hE_613]
              exact pf_606
            have hf_617 : Ctd (pz_b rr (pz_fact (cB (Tf 1) (Tv 0)) 2)) sv_576 := by
              have hE_618 : (pz_b rr (pz_fact (cB (Tf 1) (Tv 0)) 2)) = ro_608 := by
                rw [ero_608, ero_587, ero_568]
                have hw_619 : NWd (cB (Tf 1) (Tv 0)) pz_not rr := by
                  rw [← wS4]
                  exact pf_64
                have hw_620 : Sg (cB (Tf 1) (Tv 0)) 91 rr := by
                  exact pf_565
                have hw_621 : Sg (cB (Tf 1) (Tv 0)) 93 (pz_b (rNX (cB (Tf 1) (Tv 0)) rr) (pz_tst (cB (Tf 1) (Tv 0)) (pz_fact (cB (Tf 1) (Tv 0)) 1))) := by
                  rw [← ero_568, ← ero_587]
                  exact pf_605
                exact ((fact_br hw_619 hw_620).trans (rb_yes hw_621))
              rw [hE_618]
              exact cd_610
            have hE_622 : (pz_b rr (pz_fact (cB (Tf 1) (Tv 0)) 2)) = ro_608 := by
              rw [ero_608, ero_587, ero_568]
              have hw_623 : NWd (cB (Tf 1) (Tv 0)) pz_not rr := by
                rw [← wS4]
                exact pf_64
              have hw_624 : Sg (cB (Tf 1) (Tv 0)) 91 rr := by
                exact pf_565
              have hw_625 : Sg (cB (Tf 1) (Tv 0)) 93 (pz_b (rNX (cB (Tf 1) (Tv 0)) rr) (pz_tst (cB (Tf 1) (Tv 0)) (pz_fact (cB (Tf 1) (Tv 0)) 1))) := by
                rw [← ero_568, ← ero_587]
                exact pf_605
              exact ((fact_br hw_623 hw_624).trans (rb_yes hw_625))
            have hf_626 : CdK sv_577 sv_575 (pz_b rr (pz_fact (cB (Tf 1) (Tv 0)) 2)) (Ap rr (ec_fact (cB (Tf 1) (Tv 0)) 2) ll) := CdK.to ck_611 hE_622 (fun t ht => by
              rw [ero_589, ero_568]
              have hw_627 : NWd (cB (Tf 1) (Tv 0)) pz_not rr := by
                rw [← wS4]
                exact pf_64
              have hw_628 : Sg (cB (Tf 1) (Tv 0)) 91 rr := by
                exact pf_565
              exact (fl_br hw_627 hw_628) t ht)
            exact retV hx hb hr hlk hP hD hS (sv_575, sv_576, sv_577, sv_595, sv_596, sv_597, sv_581) ⟨rfl, pf_598, pf_583, hf_612, hf_617, hf_626⟩ [0, 1, 2, 3] rfl rfl dX7_readFact_135 (Nat.le_of_ble_eq_true rfl) (Nat.le_of_ble_eq_true rfl) rfl
          · skip
            have hz_631 : (r_599 : Int32).toInt = 0 := by
              have z_1 := congrArg Int32.toInt c_11
              have z_2 := congrArg Int32.toInt c_66
              have z_3 := congrArg Int32.toInt c_365
              have z_4 : ¬ (r_375 : Int32).toInt = (0 : Int32).toInt := fun z => c_380 (Int32.toInt_inj.mp z)
              have z_5 := congrArg Int32.toInt c_604
              have y_0 : (0 : Int32).toInt = 0 := by decide
              have y_91 : (91 : Int32).toInt = 91 := by decide
              omega
            obtain ⟨pf_629, pf_630⟩ := hm_603 hz_631
            have pf_629 : NSg (cB (Tf 1) (Tv 0)) (93 : Int) ro_587 := pf_629
            have pf_630 : TpR (Tf 1) (Tv 0) ro_587 sv_595 sv_596 sv_597 sv_581 := pf_630
            have tb_632 : TpB (rTE (cB (Tf 1) (Tv 0)) ro_587) sv_596 sv_581 := TpR.tb pf_630
            refine lv_aload_n hx hb dX7_readFact_85 rfl (lv_at hl 2 rfl) ?_
            refine lv_iconst (v := 0) hx hb dX7_readFact_86 (by decide) ?_
            have ha_633 : 0 ≤ (0 : Int32).toInt ∧ (0 : Int32).toInt ≤ 4 := by
              have z_1 := congrArg Int32.toInt c_11
              have z_2 := congrArg Int32.toInt c_66
              have z_3 := congrArg Int32.toInt c_365
              have z_4 : ¬ (r_375 : Int32).toInt = (0 : Int32).toInt := fun z => c_380 (Int32.toInt_inj.mp z)
              have z_5 := congrArg Int32.toInt c_604
              have y_0 : (0 : Int32).toInt = 0 := by decide
              have y_91 : (91 : Int32).toInt = 91 := by decide
              omega
            have ha_634 : (0 : Int32).toInt = (0 : Int) := by
              have z_1 := congrArg Int32.toInt c_11
              have z_2 := congrArg Int32.toInt c_66
              have z_3 := congrArg Int32.toInt c_365
              have z_4 : ¬ (r_375 : Int32).toInt = (0 : Int32).toInt := fun z => c_380 (Int32.toInt_inj.mp z)
              have z_5 := congrArg Int32.toInt c_604
              have y_0 : (0 : Int32).toInt = 0 := by decide
              have y_91 : (91 : Int32).toInt = 91 := by decide
              omega
            refine cV (a := (Ta 0)) (As := [.int 0]) (rest := []) (wr := [((Va 0), .inr (7, [.ref (Va 1), .int sv_575, .int sv_576])), ((Va 1), .inl (tc 0, 400, .inl sv_577))]) ⟨hx, hb, hml, hown, hts⟩ hK hX hA (cu_fX10_fail l D tc sk (Ta 0) (Ta 1) (Tv 0) sv_595 sv_596 sv_597 sv_581 (Tf 1) 0 ro_587 0 pf_598 pf_630 ha_633 ha_634) k_557 k_619 k_555 k_556 k_96 pl_X10_fail ⟨Nat.le_of_ble_eq_true rfl, Nat.le_of_ble_eq_true rfl⟩ rfl rfl (va_recv hK hP (ci := 10) (q0 := 2) rfl rfl) hP hD hS [2, 3] [0, 1] rfl rfl rfl rfl rfl (by decide) rfl hl.1 rfl (Nat.le_of_ble_eq_true rfl) dX7_readFact_87 ⟨Nat.le_of_ble_eq_true rfl, Nat.le_of_ble_eq_true rfl⟩ (fun v_635 u_636 H locs hv_637 hP₀ hD₀ hS₀ => ?_)
            obtain ⟨sv_638, sv_639⟩ := u_636
            obtain ⟨rfl, pf_640, pf_641⟩ := hv_637
            have pf_640 : 0 ≤ ((Tv 0) : Int32).toInt ∧ ((Tv 0) : Int32).toInt ≤ 400 ∧ 0 ≤ (sv_595 : Int32).toInt ∧ (sv_595 : Int32).toInt ≤ 400 ∧ 0 ≤ (sv_596 : Int32).toInt ∧ (sv_596 : Int32).toInt ≤ 400 := pf_640
            have pf_641 : TpR (Tf 1) (Tv 0) (rER (0 : Int) ro_587) sv_595 sv_596 sv_638 sv_639 := pf_641
            obtain ⟨ro_642, ero_642⟩ : ∃ z : Except Int (Nat × Nat), z = (rER 0 ro_587) := ⟨_, rfl⟩
            rw [← ero_642] at pf_641
            have tb_643 : TpB (rTE (cB (Tf 1) (Tv 0)) ro_642) sv_596 sv_639 := TpR.tb pf_641
            have cd_644 : Ctd ro_642 sv_576 := by rw [ero_642]; exact (Ctd.er)
            have ck_645 : CdK sv_577 sv_575 ro_642 ro_589 := by rw [ero_642]; exact (CdK.er)
            refine W.eq (g2 := F0 m 90 ls []) rfl ?_
            replace hP : va_P D classes [((Va 0), .inr (7, [.ref (Va 1), .int sv_575, .int sv_576])), ((Va 1), .inl (tc 0, 400, .inl sv_577)), ((Ta 0), .inr (10, [.ref (Ta 1), .int (Tv 0), .int sv_595, .int sv_596, .int sv_638, .int sv_639])), ((Ta 1), .inl (tc 0, 400, .inl (Tf 1)))] H := hP₀
            replace hD : va_D A [((Va 0), .inr (7, [.ref (Va 1), .int sv_575, .int sv_576])), ((Va 1), .inl (tc 0, 400, .inl sv_577)), ((Ta 0), .inr (10, [.ref (Ta 1), .int (Tv 0), .int sv_595, .int sv_596, .int sv_638, .int sv_639])), ((Ta 1), .inl (tc 0, 400, .inl (Tf 1)))] := hD₀
            replace hS := hS₀
            clear hP₀ hD₀ hS₀
            refine lv_goto (tgt := 135) hx hb dX7_readFact_90 (by decide) ?_
            have hf_646 : TpR (Tf 1) (Tv 0) (pz_b rr (pz_fact (cB (Tf 1) (Tv 0)) 2)) sv_595 sv_596 sv_638 sv_639 := by
              have hE_647 : (pz_b rr (pz_fact (cB (Tf 1) (Tv 0)) 2)) = ro_642 := by
                rw [ero_642, ero_587, ero_568]
                have hw_648 : NWd (cB (Tf 1) (Tv 0)) pz_not rr := by
                  rw [← wS4]
                  exact pf_64
                have hw_649 : Sg (cB (Tf 1) (Tv 0)) 91 rr := by
                  exact pf_565
                have hw_650 : NSg (cB (Tf 1) (Tv 0)) 93 (pz_b (rNX (cB (Tf 1) (Tv 0)) rr) (pz_tst (cB (Tf 1) (Tv 0)) (pz_fact (cB (Tf 1) (Tv 0)) 1))) := by
                  rw [← ero_568, ← ero_587]
                  exact pf_629
                exact ((fact_br hw_648 hw_649).trans (rb_no hw_650))
              rw [hE_647]
              exact pf_641
            have hf_651 : Ctd (pz_b rr (pz_fact (cB (Tf 1) (Tv 0)) 2)) sv_576 := by
              have hE_652 : (pz_b rr (pz_fact (cB (Tf 1) (Tv 0)) 2)) = ro_642 := by
                rw [ero_642, ero_587, ero_568]
                have hw_653 : NWd (cB (Tf 1) (Tv 0)) pz_not rr := by
                  rw [← wS4]
                  exact pf_64
                have hw_654 : Sg (cB (Tf 1) (Tv 0)) 91 rr := by
                  exact pf_565
                have hw_655 : NSg (cB (Tf 1) (Tv 0)) 93 (pz_b (rNX (cB (Tf 1) (Tv 0)) rr) (pz_tst (cB (Tf 1) (Tv 0)) (pz_fact (cB (Tf 1) (Tv 0)) 1))) := by
                  rw [← ero_568, ← ero_587]
                  exact pf_629
                exact ((fact_br hw_653 hw_654).trans (rb_no hw_655))
              rw [hE_652]
              exact cd_644
            have hE_656 : (pz_b rr (pz_fact (cB (Tf 1) (Tv 0)) 2)) = ro_642 := by
              rw [ero_642, ero_587, ero_568]
              have hw_657 : NWd (cB (Tf 1) (Tv 0)) pz_not rr := by
                rw [← wS4]
                exact pf_64
              have hw_658 : Sg (cB (Tf 1) (Tv 0)) 91 rr := by
                exact pf_565
              have hw_659 : NSg (cB (Tf 1) (Tv 0)) 93 (pz_b (rNX (cB (Tf 1) (Tv 0)) rr) (pz_tst (cB (Tf 1) (Tv 0)) (pz_fact (cB (Tf 1) (Tv 0)) 1))) := by
                rw [← ero_568, ← ero_587]
                exact pf_629
              exact ((fact_br hw_657 hw_658).trans (rb_no hw_659))
            have hf_660 : CdK sv_577 sv_575 (pz_b rr (pz_fact (cB (Tf 1) (Tv 0)) 2)) (Ap rr (ec_fact (cB (Tf 1) (Tv 0)) 2) ll) := CdK.to ck_645 hE_656 (fun t ht => by
              rw [ero_589, ero_568]
              have hw_661 : NWd (cB (Tf 1) (Tv 0)) pz_not rr := by
                rw [← wS4]
                exact pf_64
              exact (fl_er (hE_656.trans (by rw [ero_642, ero_587, ero_568]))) t ht)
            exact retV hx hb hr hlk hP hD hS (sv_575, sv_576, sv_577, sv_595, sv_596, sv_638, sv_639) ⟨rfl, pf_640, pf_583, hf_646, hf_651, hf_660⟩ [0, 1, 2, 3] rfl rfl dX7_readFact_135 (Nat.le_of_ble_eq_true rfl) (Nat.le_of_ble_eq_true rfl) rfl
      · skip
        exfalso
        have z_1 := congrArg Int32.toInt c_11
        have z_2 := congrArg Int32.toInt c_66
        have z_3 : ¬ (r_6 : Int32).toInt = (0 : Int32).toInt := fun z => c_365 (Int32.toInt_inj.mp z)
        have y_0 : (0 : Int32).toInt = 0 := by decide
        have y_91 : (91 : Int32).toInt = 91 := by decide
        omega
set_option maxRecDepth 100000 in
theorem cu_kX7_readFact_8 (l : Launch) (D : va_G) (tc : Nat → ClassId) (sk : (Nat → Nat) × (Nat → Nat)) (Va_0 : Nat) (Va_1 : Nat) (Vv_0 : Int32) (Vv_1 : Int32) (Vf_1 : Nat → Int32) (Ta_0 : Nat) (Ta_1 : Nat) (Tv_0 : Int32) (Tv_1 : Int32) (Tv_2 : Int32) (Tv_3 : Int32) (Tv_4 : Int32) (Tf_1 : Nat → Int32) (rr : Except Int (Nat × Nat)) (ll : List Int) (h_tape : 0 ≤ (Tv_0 : Int32).toInt ∧ (Tv_0 : Int32).toInt ≤ 400 ∧ 0 ≤ (Tv_1 : Int32).toInt ∧ (Tv_1 : Int32).toInt ≤ 400 ∧ 0 ≤ (Tv_2 : Int32).toInt ∧ (Tv_2 : Int32).toInt ≤ 400) (h_u : 0 ≤ (Vv_0 : Int32).toInt ∧ (Vv_0 : Int32).toInt ≤ 400) (h_by : Byt Tf_1) (h_r : TpR Tf_1 Tv_0 rr Tv_1 Tv_2 Tv_3 Tv_4) (h_ct : Ctd rr Vv_1) (h_cd : CdK Vf_1 Vv_0 rr ll) : Ct l yX7_readFact cX7_readFact 5 none { frames := 12, cells := 0, slots := 0, locals := 278 } D tc sk [.ref Va_0, .ref Ta_0, .int 8] [(Va_0, .inr (7, [.ref Va_1, .int Vv_0, .int Vv_1])), (Va_1, .inl (tc 0, 400, .inl Vf_1)), (Ta_0, .inr (10, [.ref Ta_1, .int Tv_0, .int Tv_1, .int Tv_2, .int Tv_3, .int Tv_4])), (Ta_1, .inl (tc 0, 400, .inl Tf_1))] (fun (v : Option Value) (u : (Int32) × (Int32) × (Nat → Int32) × (Int32) × (Int32) × (Int32) × (Int32)) => match u with | (oo0x1, oo0x2, oo0x3, oo0x4, oo0x5, oo0x6, oo0x7) => v = none ∧ (0 ≤ (Tv_0 : Int32).toInt ∧ (Tv_0 : Int32).toInt ≤ 400 ∧ 0 ≤ (oo0x4 : Int32).toInt ∧ (oo0x4 : Int32).toInt ≤ 400 ∧ 0 ≤ (oo0x5 : Int32).toInt ∧ (oo0x5 : Int32).toInt ≤ 400) ∧ (0 ≤ (oo0x1 : Int32).toInt ∧ (oo0x1 : Int32).toInt ≤ 400) ∧ (TpR Tf_1 Tv_0 (pz_b rr (pz_fact (cB Tf_1 Tv_0) 2)) oo0x4 oo0x5 oo0x6 oo0x7) ∧ (Ctd (pz_b rr (pz_fact (cB Tf_1 Tv_0) 2)) oo0x2) ∧ (CdK oo0x3 oo0x1 (pz_b rr (pz_fact (cB Tf_1 Tv_0) 2)) (Ap rr (ec_fact (cB Tf_1 Tv_0) 2) ll))) (fun (u : (Int32) × (Int32) × (Nat → Int32) × (Int32) × (Int32) × (Int32) × (Int32)) => match u with | (oo0x1, oo0x2, oo0x3, oo0x4, oo0x5, oo0x6, oo0x7) => [(Va_0, .inr (7, [.ref Va_1, .int oo0x1, .int oo0x2])), (Va_1, .inl (tc 0, 400, .inl oo0x3)), (Ta_0, .inr (10, [.ref Ta_1, .int Tv_0, .int oo0x4, .int oo0x5, .int oo0x6, .int oo0x7])), (Ta_1, .inl (tc 0, 400, .inl Tf_1))]) 0 0 :=
  ct_kX7_readFact_8 l D tc sk (fun k => ([Va_0, Va_1] : List (Nat)).getD k 0) (fun k => ([Vv_0, Vv_1] : List (Int32)).getD k 0) (fun k => ([(fun _ => 0), Vf_1] : List (Nat → Int32)).getD k (fun _ => 0)) (fun k => ([Ta_0, Ta_1] : List (Nat)).getD k 0) (fun k => ([Tv_0, Tv_1, Tv_2, Tv_3, Tv_4] : List (Int32)).getD k 0) (fun k => ([(fun _ => 0), Tf_1] : List (Nat → Int32)).getD k (fun _ => 0)) rr ll h_tape h_u h_by h_r h_ct h_cd
set_option maxHeartbeats 4000000 in
set_option maxRecDepth 100000 in
theorem ct_kX7_readTest_8 (l : Launch) (D : va_G) (tc : Nat → ClassId) (sk : (Nat → Nat) × (Nat → Nat)) (Va : Nat → Nat) (Vv : Nat → Int32) (Vf : Nat → Nat → Int32) (Ta : Nat → Nat) (Tv : Nat → Int32) (Tf : Nat → Nat → Int32) (rr : Except Int (Nat × Nat)) (ll : List Int) (h_tape : 0 ≤ ((Tv 0) : Int32).toInt ∧ ((Tv 0) : Int32).toInt ≤ 400 ∧ 0 ≤ ((Tv 1) : Int32).toInt ∧ ((Tv 1) : Int32).toInt ≤ 400 ∧ 0 ≤ ((Tv 2) : Int32).toInt ∧ ((Tv 2) : Int32).toInt ≤ 400) (h_u : 0 ≤ ((Vv 0) : Int32).toInt ∧ ((Vv 0) : Int32).toInt ≤ 400) (h_by : Byt (Tf 1)) (h_r : TpR (Tf 1) (Tv 0) rr (Tv 1) (Tv 2) (Tv 3) (Tv 4)) (h_ct : Ctd rr (Vv 1)) (h_cd : CdK (Vf 1) (Vv 0) rr ll) : Ct l yX7_readTest cX7_readTest 6 none { frames := 13, cells := 0, slots := 0, locals := 302 } D tc sk [.ref (Va 0), .ref (Ta 0), .int 8] [((Va 0), .inr (7, [.ref (Va 1), .int (Vv 0), .int (Vv 1)])), ((Va 1), .inl (tc 0, 400, .inl (Vf 1))), ((Ta 0), .inr (10, [.ref (Ta 1), .int (Tv 0), .int (Tv 1), .int (Tv 2), .int (Tv 3), .int (Tv 4)])), ((Ta 1), .inl (tc 0, 400, .inl (Tf 1)))] (fun (v : Option Value) (u : (Int32) × (Int32) × (Nat → Int32) × (Int32) × (Int32) × (Int32) × (Int32)) => match u with | (oo0x1, oo0x2, oo0x3, oo0x4, oo0x5, oo0x6, oo0x7) => v = none ∧ (0 ≤ ((Tv 0) : Int32).toInt ∧ ((Tv 0) : Int32).toInt ≤ 400 ∧ 0 ≤ (oo0x4 : Int32).toInt ∧ (oo0x4 : Int32).toInt ≤ 400 ∧ 0 ≤ (oo0x5 : Int32).toInt ∧ (oo0x5 : Int32).toInt ≤ 400) ∧ (0 ≤ (oo0x1 : Int32).toInt ∧ (oo0x1 : Int32).toInt ≤ 400) ∧ (TpR (Tf 1) (Tv 0) (pz_b rr (pz_tst (cB (Tf 1) (Tv 0)) (pz_fact (cB (Tf 1) (Tv 0)) 2))) oo0x4 oo0x5 oo0x6 oo0x7) ∧ (Ctd (pz_b rr (pz_tst (cB (Tf 1) (Tv 0)) (pz_fact (cB (Tf 1) (Tv 0)) 2))) oo0x2) ∧ (CdK oo0x3 oo0x1 (pz_b rr (pz_tst (cB (Tf 1) (Tv 0)) (pz_fact (cB (Tf 1) (Tv 0)) 2))) (Ap rr (ltst (cB (Tf 1) (Tv 0)) 2) ll))) (fun (u : (Int32) × (Int32) × (Nat → Int32) × (Int32) × (Int32) × (Int32) × (Int32)) => match u with | (oo0x1, oo0x2, oo0x3, oo0x4, oo0x5, oo0x6, oo0x7) => [((Va 0), .inr (7, [.ref (Va 1), .int oo0x1, .int oo0x2])), ((Va 1), .inl (tc 0, 400, .inl oo0x3)), ((Ta 0), .inr (10, [.ref (Ta 1), .int (Tv 0), .int oo0x4, .int oo0x5, .int oo0x6, .int oo0x7])), ((Ta 1), .inl (tc 0, 400, .inl (Tf 1)))]) 0 0 := by
  refine Ct.start (by decide) (Nat.le_of_ble_eq_true rfl) (fun p e s m below meth c A ls hx hb hr hlk hin hml hown hts hK hX hP hD hA hl hS => ?_)
  have hl : lv_has ls 6 [(0, .ref (Va 0)), (1, .ref (Ta 0)), (2, .int 8)] := hl
  have tb_1 : TpB (rTE (cB (Tf 1) (Tv 0)) rr) (Tv 2) (Tv 4) := TpR.tb h_r
  refine lv_aload_n hx hb dX7_readTest_0 rfl (lv_at hl 0 rfl) ?_
  refine lv_aload_n hx hb dX7_readTest_1 rfl (lv_at hl 1 rfl) ?_
  refine lv_iload_n hx hb dX7_readTest_2 rfl (lv_at hl 2 rfl) ?_
  refine cV (a := (Va 0)) (As := [.ref (Ta 0), .int 8]) (rest := []) (wr := []) ⟨hx, hb, hml, hown, hts⟩ hK hX hA (cu_kX7_readFact_8 l D tc sk (Va 0) (Va 1) (Vv 0) (Vv 1) (Vf 1) (Ta 0) (Ta 1) (Tv 0) (Tv 1) (Tv 2) (Tv 3) (Tv 4) (Tf 1) rr ll h_tape h_u h_by h_r h_ct h_cd) k_659 k_656 k_658 k_12 k_99 pl_X7_readFact ⟨Nat.le_of_ble_eq_true rfl, Nat.le_of_ble_eq_true rfl⟩ rfl rfl (va_recv hK hP (ci := 7) (q0 := 0) rfl rfl) hP hD hS [0, 1, 2, 3] [] rfl rfl rfl rfl rfl (by decide) rfl hl.1 rfl (Nat.le_of_ble_eq_true rfl) dX7_readTest_3 ⟨Nat.le_of_ble_eq_true rfl, Nat.le_of_ble_eq_true rfl⟩ (fun v_2 u_3 H locs hv_4 hP₀ hD₀ hS₀ => ?_)
  obtain ⟨sv_5, sv_6, sv_7, sv_8, sv_9, sv_10, sv_11⟩ := u_3
  obtain ⟨rfl, pf_12, pf_13, pf_14, pf_15, pf_16⟩ := hv_4
  have pf_12 : 0 ≤ ((Tv 0) : Int32).toInt ∧ ((Tv 0) : Int32).toInt ≤ 400 ∧ 0 ≤ (sv_8 : Int32).toInt ∧ (sv_8 : Int32).toInt ≤ 400 ∧ 0 ≤ (sv_9 : Int32).toInt ∧ (sv_9 : Int32).toInt ≤ 400 := pf_12
  have pf_13 : 0 ≤ (sv_5 : Int32).toInt ∧ (sv_5 : Int32).toInt ≤ 400 := pf_13
  have pf_14 : TpR (Tf 1) (Tv 0) (pz_b rr (pz_fact (cB (Tf 1) (Tv 0)) 2)) sv_8 sv_9 sv_10 sv_11 := pf_14
  obtain ⟨ro_17, ero_17⟩ : ∃ z : Except Int (Nat × Nat), z = (pz_b rr (pz_fact (cB (Tf 1) (Tv 0)) 2)) := ⟨_, rfl⟩
  rw [← ero_17] at pf_14
  have tb_18 : TpB (rTE (cB (Tf 1) (Tv 0)) ro_17) sv_9 sv_11 := TpR.tb pf_14
  have pf_15 : Ctd (pz_b rr (pz_fact (cB (Tf 1) (Tv 0)) 2)) sv_6 := pf_15
  rw [← ero_17] at pf_15
  have pf_16 : CdK sv_7 sv_5 (pz_b rr (pz_fact (cB (Tf 1) (Tv 0)) 2)) (Ap rr (ec_fact (cB (Tf 1) (Tv 0)) 2) ll) := pf_16
  rw [← ero_17] at pf_16
  obtain ⟨ro_19, ero_19⟩ : ∃ z : List Int, z = (Ap rr (ec_fact (cB (Tf 1) (Tv 0)) 2) ll) := ⟨_, rfl⟩
  rw [← ero_19] at pf_16
  refine W.eq (g2 := F0 m 6 ls []) rfl ?_
  replace hP : va_P D classes [((Va 0), .inr (7, [.ref (Va 1), .int sv_5, .int sv_6])), ((Va 1), .inl (tc 0, 400, .inl sv_7)), ((Ta 0), .inr (10, [.ref (Ta 1), .int (Tv 0), .int sv_8, .int sv_9, .int sv_10, .int sv_11])), ((Ta 1), .inl (tc 0, 400, .inl (Tf 1)))] H := hP₀
  replace hD : va_D A [((Va 0), .inr (7, [.ref (Va 1), .int sv_5, .int sv_6])), ((Va 1), .inl (tc 0, 400, .inl sv_7)), ((Ta 0), .inr (10, [.ref (Ta 1), .int (Tv 0), .int sv_8, .int sv_9, .int sv_10, .int sv_11])), ((Ta 1), .inl (tc 0, 400, .inl (Tf 1)))] := hD₀
  replace hS := hS₀
  clear hP₀ hD₀ hS₀
  refine lv_iconst (v := 0) hx hb dX7_readTest_6 (by decide) ?_
  refine lv_istore_n (lv' := [(3, .int 0), (0, .ref (Va 0)), (1, .ref (Ta 0)), (2, .int 8)]) hx hb dX7_readTest_7 rfl hl (by decide) rfl (fun ls hl₀ => ?_)
  replace hl := hl₀
  clear hl₀
  refine lv_iconst (v := 0) hx hb dX7_readTest_8 (by decide) ?_
  refine lv_istore (lv' := [(4, .int 0), (3, .int 0), (0, .ref (Va 0)), (1, .ref (Ta 0)), (2, .int 8)]) hx hb dX7_readTest_9 hl (by decide) rfl (fun ls hl₀ => ?_)
  replace hl := hl₀
  clear hl₀
  have loop_40 : ∀ (n_38 : Nat) (vy_29 : Int32) (vy_30 : Int32) (vy_31 : Int32) (vy_32 : Nat → Int32) (vy_33 : Int32) (vy_34 : Int32) (vy_35 : Int32) (vy_36 : Int32) (vy_37 : Int32) (H : Heap) (locs : List Loc) (ls : Array Slot), (401 - (vy_29 : Int32).toInt).toNat < n_38 → (0 ≤ (vy_29 : Int32).toInt ∧ (vy_29 : Int32).toInt ≤ 400) → (0 ≤ (vy_37 : Int32).toInt ∧ (vy_37 : Int32).toInt ≤ 1) → (0 ≤ ((Tv 0) : Int32).toInt ∧ ((Tv 0) : Int32).toInt ≤ 400 ∧ 0 ≤ (vy_33 : Int32).toInt ∧ (vy_33 : Int32).toInt ≤ 400 ∧ 0 ≤ (vy_34 : Int32).toInt ∧ (vy_34 : Int32).toInt ≤ 400) → (0 ≤ (vy_30 : Int32).toInt ∧ (vy_30 : Int32).toInt ≤ 400) → (TeC (Tf 1) (Tv 0) 2 (pz_b rr (pz_tst (cB (Tf 1) (Tv 0)) (pz_fact (cB (Tf 1) (Tv 0)) 2))) vy_33 vy_34 vy_35 vy_36 vy_31 vy_29 vy_32 vy_30 vy_37 (Ap rr (ltst (cB (Tf 1) (Tv 0)) 2) ll)) → va_P D classes [((Va 0), .inr (7, [.ref (Va 1), .int vy_30, .int vy_31])), ((Va 1), .inl (tc 0, 400, .inl vy_32)), ((Ta 0), .inr (10, [.ref (Ta 1), .int (Tv 0), .int vy_33, .int vy_34, .int vy_35, .int vy_36])), ((Ta 1), .inl (tc 0, 400, .inl (Tf 1)))] H → va_D A [((Va 0), .inr (7, [.ref (Va 1), .int vy_30, .int vy_31])), ((Va 1), .inl (tc 0, 400, .inl vy_32)), ((Ta 0), .inr (10, [.ref (Ta 1), .int (Tv 0), .int vy_33, .int vy_34, .int vy_35, .int vy_36])), ((Ta 1), .inl (tc 0, 400, .inl (Tf 1)))] → va_S A s.heap H locs → lv_has ls 6 [(4, .int vy_29), (3, .int vy_37), (0, .ref (Va 0)), (1, .ref (Ta 0)), (2, .int 8)] → W p l e ({ frames := 13, cells := 0, slots := 0, locals := 302 }) s m ([.ref (Va 0), .ref (Ta 0), .int 8].toArray) below meth c H locs 0 0 (MQ below (QW (fun (v : Option Value) (u : (Int32) × (Int32) × (Nat → Int32) × (Int32) × (Int32) × (Int32) × (Int32)) => match u with | (oo0x1, oo0x2, oo0x3, oo0x4, oo0x5, oo0x6, oo0x7) => v = none ∧ (0 ≤ ((Tv 0) : Int32).toInt ∧ ((Tv 0) : Int32).toInt ≤ 400 ∧ 0 ≤ (oo0x4 : Int32).toInt ∧ (oo0x4 : Int32).toInt ≤ 400 ∧ 0 ≤ (oo0x5 : Int32).toInt ∧ (oo0x5 : Int32).toInt ≤ 400) ∧ (0 ≤ (oo0x1 : Int32).toInt ∧ (oo0x1 : Int32).toInt ≤ 400) ∧ (TpR (Tf 1) (Tv 0) (pz_b rr (pz_tst (cB (Tf 1) (Tv 0)) (pz_fact (cB (Tf 1) (Tv 0)) 2))) oo0x4 oo0x5 oo0x6 oo0x7) ∧ (Ctd (pz_b rr (pz_tst (cB (Tf 1) (Tv 0)) (pz_fact (cB (Tf 1) (Tv 0)) 2))) oo0x2) ∧ (CdK oo0x3 oo0x1 (pz_b rr (pz_tst (cB (Tf 1) (Tv 0)) (pz_fact (cB (Tf 1) (Tv 0)) 2))) (Ap rr (ltst (cB (Tf 1) (Tv 0)) 2) ll))) (BW D (fun (u : (Int32) × (Int32) × (Nat → Int32) × (Int32) × (Int32) × (Int32) × (Int32)) => match u with | (oo0x1, oo0x2, oo0x3, oo0x4, oo0x5, oo0x6, oo0x7) => [((Va 0), .inr (7, [.ref (Va 1), .int oo0x1, .int oo0x2])), ((Va 1), .inl (tc 0, 400, .inl oo0x3)), ((Ta 0), .inr (10, [.ref (Ta 1), .int (Tv 0), .int oo0x4, .int oo0x5, .int oo0x6, .int oo0x7])), ((Ta 1), .inl (tc 0, 400, .inl (Tf 1)))]) A) A) ([.ref (Va 0), .ref (Ta 0), .int 8].toArray) s 0 0 A) (F0 m 11 ls []) := by
    clear hP hD hS hl
    intro n_38
    induction n_38 with
    | zero =>
      intro vy_29 vy_30 vy_31 vy_32 vy_33 vy_34 vy_35 vy_36 vy_37 H locs ls h1
      exact absurd h1 (Nat.not_lt_zero _)
    | succ n_38 ih_39 =>
      intro vy_29 vy_30 vy_31 vy_32 vy_33 vy_34 vy_35 vy_36 vy_37 H locs ls hn_46 pf_41 pf_42 pf_43 pf_44 pf_45 hP hD hS hl
      obtain ⟨rq_47, pf_48, pf_49, pf_50, pf_51, lq_52, pf_53, pf_54⟩ := id pf_45
      have tb_55 : TpB (rTE (cB (Tf 1) (Tv 0)) rq_47) vy_34 vy_36 := TpR.tb pf_48
      refine lv_iload hx hb dX7_readTest_11 (lv_at hl 0 rfl) ?_
      refine lv_sipush (v := 400) hx hb dX7_readTest_13 (by decide) ?_
      refine lv_icmp_ge (tgt := 92) hx hb dX7_readTest_16 (by decide) (fun c_56 => ?_) (fun c_56 => ?_)
      · skip
        refine lv_iload_n hx hb dX7_readTest_92 rfl (lv_at hl 1 rfl) ?_
        refine lv_if_eq (tgt := 102) hx hb dX7_readTest_93 (by decide) (fun c_57 => ?_) (fun c_57 => ?_)
        · skip
          have hf_58 : TpR (Tf 1) (Tv 0) (pz_b rr (pz_tst (cB (Tf 1) (Tv 0)) (pz_fact (cB (Tf 1) (Tv 0)) 2))) vy_33 vy_34 vy_35 vy_36 := by
            have hr_59 : 400 ≤ (vy_29 : Int32).toInt := by
              have z_1 := Int32.le_iff_toInt_le.mp c_56
              have z_2 := congrArg Int32.toInt c_57
              have y_0 : (0 : Int32).toInt = 0 := by decide
              have y_400 : (400 : Int32).toInt = 400 := by decide
              omega
            rw [pf_50, tst_end h_tape.2.1 pf_51 (Or.inl hr_59)]
            exact pf_48
          have hf_60 : Ctd (pz_b rr (pz_tst (cB (Tf 1) (Tv 0)) (pz_fact (cB (Tf 1) (Tv 0)) 2))) vy_31 := by
            have hr_61 : 400 ≤ (vy_29 : Int32).toInt := by
              have z_1 := Int32.le_iff_toInt_le.mp c_56
              have z_2 := congrArg Int32.toInt c_57
              have y_0 : (0 : Int32).toInt = 0 := by decide
              have y_400 : (400 : Int32).toInt = 400 := by decide
              omega
            rw [pf_50, tst_end h_tape.2.1 pf_51 (Or.inl hr_61)]
            exact pf_49
          have hr_62 : 400 ≤ (vy_29 : Int32).toInt := by
            have z_1 := Int32.le_iff_toInt_le.mp c_56
            have z_2 := congrArg Int32.toInt c_57
            have y_0 : (0 : Int32).toInt = 0 := by decide
            have y_400 : (400 : Int32).toInt = 400 := by decide
            omega
          have hr_63 : (vy_37 : Int32).toInt = 0 := by
            have z_1 := Int32.le_iff_toInt_le.mp c_56
            have z_2 := congrArg Int32.toInt c_57
            have y_0 : (0 : Int32).toInt = 0 := by decide
            have y_400 : (400 : Int32).toInt = 400 := by decide
            omega
          exact retV hx hb hr hlk hP hD hS (vy_30, vy_31, vy_32, vy_33, vy_34, vy_35, vy_36) ⟨rfl, pf_43, pf_44, hf_58, hf_60, (TeC.end0 h_tape.2.1 pf_50 pf_51 pf_54 hr_63 (Or.inl hr_62) pf_53)⟩ [0, 1, 2, 3] rfl rfl dX7_readTest_102 (Nat.le_of_ble_eq_true rfl) (Nat.le_of_ble_eq_true rfl) rfl
        · skip
          refine lv_aload_n hx hb dX7_readTest_96 rfl (lv_at hl 2 rfl) ?_
          refine lv_bipush (v := (-6)) hx hb dX7_readTest_97 (by decide) ?_
          refine cV (a := (Va 0)) (As := [.int (-6)]) (rest := []) (wr := [((Ta 0), .inr (10, [.ref (Ta 1), .int (Tv 0), .int vy_33, .int vy_34, .int vy_35, .int vy_36])), ((Ta 1), .inl (tc 0, 400, .inl (Tf 1)))]) ⟨hx, hb, hml, hown, hts⟩ hK hX hA (cu_kX7_put l D tc sk (Va 0) (Va 1) vy_30 vy_31 vy_32 (-6) rq_47 lq_52 pf_44 pf_53) k_642 k_639 k_641 k_10 k_99 pl_X7_put ⟨Nat.le_of_ble_eq_true rfl, Nat.le_of_ble_eq_true rfl⟩ rfl rfl (va_recv hK hP (ci := 7) (q0 := 0) rfl rfl) hP hD hS [0, 1] [2, 3] rfl rfl rfl rfl rfl (by decide) rfl hl.1 rfl (Nat.le_of_ble_eq_true rfl) dX7_readTest_99 ⟨Nat.le_of_ble_eq_true rfl, Nat.le_of_ble_eq_true rfl⟩ (fun v_64 u_65 H locs hv_66 hP₀ hD₀ hS₀ => ?_)
          obtain ⟨sv_67, sv_68⟩ := u_65
          obtain ⟨rfl, pf_69, pf_70⟩ := hv_66
          have pf_69 : 0 ≤ (sv_67 : Int32).toInt ∧ (sv_67 : Int32).toInt ≤ 400 := pf_69
          have pf_70 : CdK sv_68 sv_67 rq_47 (lq_52 ++ [((-6) : Int32).toInt]) := pf_70
          rw [show ((-6) : Int32).toInt = -6 by decide] at pf_70
          obtain ⟨ro_71, ero_71⟩ : ∃ z : List Int, z = (lq_52 ++ [-6]) := ⟨_, rfl⟩
          rw [← ero_71] at pf_70
          refine W.eq (g2 := F0 m 102 ls []) rfl ?_
          replace hP : va_P D classes [((Ta 0), .inr (10, [.ref (Ta 1), .int (Tv 0), .int vy_33, .int vy_34, .int vy_35, .int vy_36])), ((Ta 1), .inl (tc 0, 400, .inl (Tf 1))), ((Va 0), .inr (7, [.ref (Va 1), .int sv_67, .int vy_31])), ((Va 1), .inl (tc 0, 400, .inl sv_68))] H := hP₀
          replace hD : va_D A [((Ta 0), .inr (10, [.ref (Ta 1), .int (Tv 0), .int vy_33, .int vy_34, .int vy_35, .int vy_36])), ((Ta 1), .inl (tc 0, 400, .inl (Tf 1))), ((Va 0), .inr (7, [.ref (Va 1), .int sv_67, .int vy_31])), ((Va 1), .inl (tc 0, 400, .inl sv_68))] := hD₀
          replace hS := hS₀
          clear hP₀ hD₀ hS₀
          have hf_72 : TpR (Tf 1) (Tv 0) (pz_b rr (pz_tst (cB (Tf 1) (Tv 0)) (pz_fact (cB (Tf 1) (Tv 0)) 2))) vy_33 vy_34 vy_35 vy_36 := by
            have hr_73 : 400 ≤ (vy_29 : Int32).toInt := by
              have z_1 := Int32.le_iff_toInt_le.mp c_56
              have z_2 : ¬ (vy_37 : Int32).toInt = (0 : Int32).toInt := fun z => c_57 (Int32.toInt_inj.mp z)
              have y_0 : (0 : Int32).toInt = 0 := by decide
              have y_400 : (400 : Int32).toInt = 400 := by decide
              omega
            rw [pf_50, tst_end h_tape.2.1 pf_51 (Or.inl hr_73)]
            exact pf_48
          have hf_74 : Ctd (pz_b rr (pz_tst (cB (Tf 1) (Tv 0)) (pz_fact (cB (Tf 1) (Tv 0)) 2))) vy_31 := by
            have hr_75 : 400 ≤ (vy_29 : Int32).toInt := by
              have z_1 := Int32.le_iff_toInt_le.mp c_56
              have z_2 : ¬ (vy_37 : Int32).toInt = (0 : Int32).toInt := fun z => c_57 (Int32.toInt_inj.mp z)
              have y_0 : (0 : Int32).toInt = 0 := by decide
              have y_400 : (400 : Int32).toInt = 400 := by decide
              omega
            rw [pf_50, tst_end h_tape.2.1 pf_51 (Or.inl hr_75)]
            exact pf_49
          have hr_76 : 400 ≤ (vy_29 : Int32).toInt := by
            have z_1 := Int32.le_iff_toInt_le.mp c_56
            have z_2 : ¬ (vy_37 : Int32).toInt = (0 : Int32).toInt := fun z => c_57 (Int32.toInt_inj.mp z)
            have y_0 : (0 : Int32).toInt = 0 := by decide
            have y_400 : (400 : Int32).toInt = 400 := by decide
            omega
          have hu_77 : CdK sv_68 sv_67 rq_47 (lq_52 ++ [-6]) := by
            rw [← ero_71]
            exact pf_70
          have hr_78 : (vy_37 : Int32).toInt = 1 := by
            have z_1 := Int32.le_iff_toInt_le.mp c_56
            have z_2 : ¬ (vy_37 : Int32).toInt = (0 : Int32).toInt := fun z => c_57 (Int32.toInt_inj.mp z)
            have y_0 : (0 : Int32).toInt = 0 := by decide
            have y_400 : (400 : Int32).toInt = 400 := by decide
            omega
          exact retV hx hb hr hlk hP hD hS (sv_67, vy_31, sv_68, vy_33, vy_34, vy_35, vy_36) ⟨rfl, pf_43, pf_69, hf_72, hf_74, (TeC.end1 h_tape.2.1 pf_50 pf_51 pf_54 hr_78 (Or.inl hr_76) hu_77)⟩ [2, 3, 0, 1] rfl rfl dX7_readTest_102 (Nat.le_of_ble_eq_true rfl) (Nat.le_of_ble_eq_true rfl) rfl
      · skip
        refine lv_aload_n hx hb dX7_readTest_19 rfl (lv_at hl 3 rfl) ?_
        refine va_ldcS hx hb hown (sx_5 hX) dX7_readTest_20 ?_
        have ha_79 : (5 : Nat) < 7 := by
          have z_1 := Int32.lt_iff_toInt_lt.mp (Int32.not_le.mp c_56)
          have y_400 : (400 : Int32).toInt = 400 := by decide
          have y_5 : (5 : Int32).toInt = 5 := by decide
          omega
        refine cV (a := (Ta 0)) (As := [.ref (sk.1 5)]) (rest := []) (wr := [((Va 0), .inr (7, [.ref (Va 1), .int vy_30, .int vy_31])), ((Va 1), .inl (tc 0, 400, .inl vy_32))]) ⟨hx, hb, hml, hown, hts⟩ hK hX hA (cu_fX10_isWord l D tc sk (Ta 0) (Ta 1) (Tv 0) vy_33 vy_34 vy_35 vy_36 (Tf 1) 5 rq_47 ha_79 pf_43 h_by pf_48) k_618 k_615 k_616 k_617 k_96 pl_X10_isWord ⟨Nat.le_of_ble_eq_true rfl, Nat.le_of_ble_eq_true rfl⟩ rfl rfl (va_recv hK hP (ci := 10) (q0 := 2) rfl rfl) hP hD hS [2, 3] [0, 1] rfl rfl rfl rfl rfl (by decide) rfl hl.1 rfl (Nat.le_of_ble_eq_true rfl) dX7_readTest_22 ⟨Nat.le_of_ble_eq_true rfl, Nat.le_of_ble_eq_true rfl⟩ (fun v_80 u_81 H locs hv_82 hP₀ hD₀ hS₀ => ?_)
        obtain ⟨r_83, rfl, he_84, hm_86, hm_87⟩ := hv_82
        have he_84 : (r_83.toInt = 0 ∨ r_83.toInt = 1) := he_84
        refine W.eq (g2 := F0 m 25 ls [.int r_83]) rfl ?_
        replace hP : va_P D classes [((Va 0), .inr (7, [.ref (Va 1), .int vy_30, .int vy_31])), ((Va 1), .inl (tc 0, 400, .inl vy_32)), ((Ta 0), .inr (10, [.ref (Ta 1), .int (Tv 0), .int vy_33, .int vy_34, .int vy_35, .int vy_36])), ((Ta 1), .inl (tc 0, 400, .inl (Tf 1)))] H := hP₀
        replace hD : va_D A [((Va 0), .inr (7, [.ref (Va 1), .int vy_30, .int vy_31])), ((Va 1), .inl (tc 0, 400, .inl vy_32)), ((Ta 0), .inr (10, [.ref (Ta 1), .int (Tv 0), .int vy_33, .int vy_34, .int vy_35, .int vy_36])), ((Ta 1), .inl (tc 0, 400, .inl (Tf 1)))] := hD₀
        replace hS := hS₀
        clear hP₀ hD₀ hS₀
        refine lv_if_ne (tgt := 37) hx hb dX7_readTest_25 (by decide) (fun c_88 => ?_) (fun c_88 => ?_)
        · skip
          have hz_90 : (r_83 : Int32).toInt = 1 := by
            have z_1 := Int32.lt_iff_toInt_lt.mp (Int32.not_le.mp c_56)
            have z_2 : ¬ (r_83 : Int32).toInt = (0 : Int32).toInt := fun z => c_88 (Int32.toInt_inj.mp z)
            have y_0 : (0 : Int32).toInt = 0 := by decide
            have y_400 : (400 : Int32).toInt = 400 := by decide
            omega
          obtain pf_89 := hm_86 hz_90
          have pf_89 : TWd (cB (Tf 1) (Tv 0)) (wS (5 : Nat)) rq_47 := pf_89
          refine lv_aload_n hx hb dX7_readTest_37 rfl (lv_at hl 3 rfl) ?_
          refine va_ldcS hx hb hown (sx_6 hX) dX7_readTest_38 ?_
          have ha_91 : (6 : Nat) < 7 := by
            have z_1 := Int32.lt_iff_toInt_lt.mp (Int32.not_le.mp c_56)
            have z_2 : ¬ (r_83 : Int32).toInt = (0 : Int32).toInt := fun z => c_88 (Int32.toInt_inj.mp z)
            have y_0 : (0 : Int32).toInt = 0 := by decide
            have y_400 : (400 : Int32).toInt = 400 := by decide
            have y_6 : (6 : Int32).toInt = 6 := by decide
            omega
          refine cV (a := (Ta 0)) (As := [.ref (sk.1 6)]) (rest := []) (wr := [((Va 0), .inr (7, [.ref (Va 1), .int vy_30, .int vy_31])), ((Va 1), .inl (tc 0, 400, .inl vy_32))]) ⟨hx, hb, hml, hown, hts⟩ hK hX hA (cu_fX10_isWord l D tc sk (Ta 0) (Ta 1) (Tv 0) vy_33 vy_34 vy_35 vy_36 (Tf 1) 6 rq_47 ha_91 pf_43 h_by pf_48) k_618 k_615 k_616 k_617 k_96 pl_X10_isWord ⟨Nat.le_of_ble_eq_true rfl, Nat.le_of_ble_eq_true rfl⟩ rfl rfl (va_recv hK hP (ci := 10) (q0 := 2) rfl rfl) hP hD hS [2, 3] [0, 1] rfl rfl rfl rfl rfl (by decide) rfl hl.1 rfl (Nat.le_of_ble_eq_true rfl) dX7_readTest_40 ⟨Nat.le_of_ble_eq_true rfl, Nat.le_of_ble_eq_true rfl⟩ (fun v_92 u_93 H locs hv_94 hP₀ hD₀ hS₀ => ?_)
          obtain ⟨r_95, rfl, he_96, hm_98, hm_99⟩ := hv_94
          have he_96 : (r_95.toInt = 0 ∨ r_95.toInt = 1) := he_96
          refine W.eq (g2 := F0 m 43 ls [.int r_95]) rfl ?_
          replace hP : va_P D classes [((Va 0), .inr (7, [.ref (Va 1), .int vy_30, .int vy_31])), ((Va 1), .inl (tc 0, 400, .inl vy_32)), ((Ta 0), .inr (10, [.ref (Ta 1), .int (Tv 0), .int vy_33, .int vy_34, .int vy_35, .int vy_36])), ((Ta 1), .inl (tc 0, 400, .inl (Tf 1)))] H := hP₀
          replace hD : va_D A [((Va 0), .inr (7, [.ref (Va 1), .int vy_30, .int vy_31])), ((Va 1), .inl (tc 0, 400, .inl vy_32)), ((Ta 0), .inr (10, [.ref (Ta 1), .int (Tv 0), .int vy_33, .int vy_34, .int vy_35, .int vy_36])), ((Ta 1), .inl (tc 0, 400, .inl (Tf 1)))] := hD₀
          replace hS := hS₀
          clear hP₀ hD₀ hS₀
          refine lv_istore (lv' := [(5, .int r_95), (4, .int vy_29), (3, .int vy_37), (0, .ref (Va 0)), (1, .ref (Ta 0)), (2, .int 8)]) hx hb dX7_readTest_43 hl (by decide) rfl (fun ls hl₀ => ?_)
          replace hl := hl₀
          clear hl₀
          refine lv_iload hx hb dX7_readTest_45 (lv_at hl 0 rfl) ?_
          refine lv_if_eq (tgt := 60) hx hb dX7_readTest_47 (by decide) (fun c_100 => ?_) (fun c_100 => ?_)
          · skip
            have hz_102 : (r_95 : Int32).toInt = 0 := by
              have z_1 := Int32.lt_iff_toInt_lt.mp (Int32.not_le.mp c_56)
              have z_2 : ¬ (r_83 : Int32).toInt = (0 : Int32).toInt := fun z => c_88 (Int32.toInt_inj.mp z)
              have z_3 := congrArg Int32.toInt c_100
              have y_0 : (0 : Int32).toInt = 0 := by decide
              have y_400 : (400 : Int32).toInt = 400 := by decide
              omega
            obtain pf_101 := hm_99 hz_102
            have pf_101 : NWd (cB (Tf 1) (Tv 0)) (wS (6 : Nat)) rq_47 := pf_101
            refine lv_aload_n hx hb dX7_readTest_60 rfl (lv_at hl 4 rfl) ?_
            refine cV (a := (Ta 0)) (As := []) (rest := []) (wr := [((Va 0), .inr (7, [.ref (Va 1), .int vy_30, .int vy_31])), ((Va 1), .inl (tc 0, 400, .inl vy_32))]) ⟨hx, hb, hml, hown, hts⟩ hK hX hA (cu_fX10_step l D tc sk (Ta 0) (Ta 1) (Tv 0) vy_33 vy_34 vy_35 vy_36 (Tf 1) (rTE (cB (Tf 1) (Tv 0)) rq_47) pf_43 h_by tb_55) k_478 k_620 k_476 k_477 k_96 pl_X10_step ⟨Nat.le_of_ble_eq_true rfl, Nat.le_of_ble_eq_true rfl⟩ rfl rfl (va_recv hK hP (ci := 10) (q0 := 2) rfl rfl) hP hD hS [2, 3] [0, 1] rfl rfl rfl rfl rfl (by decide) rfl hl.1 rfl (Nat.le_of_ble_eq_true rfl) dX7_readTest_61 ⟨Nat.le_of_ble_eq_true rfl, Nat.le_of_ble_eq_true rfl⟩ (fun v_103 u_104 H locs hv_105 hP₀ hD₀ hS₀ => ?_)
            obtain ⟨sv_106, sv_107, sv_108⟩ := u_104
            obtain ⟨rfl, pf_109, pf_110⟩ := hv_105
            have pf_109 : 0 ≤ ((Tv 0) : Int32).toInt ∧ ((Tv 0) : Int32).toInt ≤ 400 ∧ 0 ≤ (sv_106 : Int32).toInt ∧ (sv_106 : Int32).toInt ≤ 400 ∧ 0 ≤ (sv_107 : Int32).toInt ∧ (sv_107 : Int32).toInt ≤ 400 := pf_109
            have pf_110 : TpR (Tf 1) (Tv 0) (rSK (cB (Tf 1) (Tv 0)) (rTE (cB (Tf 1) (Tv 0)) rq_47)) sv_106 sv_107 sv_108 vy_36 := pf_110
            rw [rNX_eq] at pf_110
            obtain ⟨ro_111, ero_111⟩ : ∃ z : Except Int (Nat × Nat), z = (rNX (cB (Tf 1) (Tv 0)) rq_47) := ⟨_, rfl⟩
            rw [← ero_111] at pf_110
            have tb_112 : TpB (rTE (cB (Tf 1) (Tv 0)) ro_111) sv_107 vy_36 := TpR.tb pf_110
            have cd_113 : Ctd ro_111 vy_31 := by rw [ero_111]; exact (Ctd.nx pf_49)
            have ck_114 : CdK vy_32 vy_30 ro_111 lq_52 := by rw [ero_111]; exact (CdK.nx pf_53)
            refine W.eq (g2 := F0 m 64 ls []) rfl ?_
            replace hP : va_P D classes [((Va 0), .inr (7, [.ref (Va 1), .int vy_30, .int vy_31])), ((Va 1), .inl (tc 0, 400, .inl vy_32)), ((Ta 0), .inr (10, [.ref (Ta 1), .int (Tv 0), .int sv_106, .int sv_107, .int sv_108, .int vy_36])), ((Ta 1), .inl (tc 0, 400, .inl (Tf 1)))] H := hP₀
            replace hD : va_D A [((Va 0), .inr (7, [.ref (Va 1), .int vy_30, .int vy_31])), ((Va 1), .inl (tc 0, 400, .inl vy_32)), ((Ta 0), .inr (10, [.ref (Ta 1), .int (Tv 0), .int sv_106, .int sv_107, .int sv_108, .int vy_36])), ((Ta 1), .inl (tc 0, 400, .inl (Tf 1)))] := hD₀
            replace hS := hS₀
            clear hP₀ hD₀ hS₀
            refine lv_aload_n hx hb dX7_readTest_64 rfl (lv_at hl 3 rfl) ?_
            refine lv_aload_n hx hb dX7_readTest_65 rfl (lv_at hl 4 rfl) ?_
            refine lv_iload_n hx hb dX7_readTest_66 rfl (lv_at hl 5 rfl) ?_
            refine cV (a := (Va 0)) (As := [.ref (Ta 0), .int 8]) (rest := []) (wr := []) ⟨hx, hb, hml, hown, hts⟩ hK hX hA (cu_kX7_readFact_8 l D tc sk (Va 0) (Va 1) vy_30 vy_31 vy_32 (Ta 0) (Ta 1) (Tv 0) sv_106 sv_107 sv_108 vy_36 (Tf 1) ro_111 lq_52 pf_109 pf_44 h_by pf_110 cd_113 ck_114) k_659 k_656 k_658 k_12 k_99 pl_X7_readFact ⟨Nat.le_of_ble_eq_true rfl, Nat.le_of_ble_eq_true rfl⟩ rfl rfl (va_recv hK hP (ci := 7) (q0 := 0) rfl rfl) hP hD hS [0, 1, 2, 3] [] rfl rfl rfl rfl rfl (by decide) rfl hl.1 rfl (Nat.le_of_ble_eq_true rfl) dX7_readTest_67 ⟨Nat.le_of_ble_eq_true rfl, Nat.le_of_ble_eq_true rfl⟩ (fun v_115 u_116 H locs hv_117 hP₀ hD₀ hS₀ => ?_)
            obtain ⟨sv_118, sv_119, sv_120, sv_121, sv_122, sv_123, sv_124⟩ := u_116
            obtain ⟨rfl, pf_125, pf_126, pf_127, pf_128, pf_129⟩ := hv_117
            have pf_125 : 0 ≤ ((Tv 0) : Int32).toInt ∧ ((Tv 0) : Int32).toInt ≤ 400 ∧ 0 ≤ (sv_121 : Int32).toInt ∧ (sv_121 : Int32).toInt ≤ 400 ∧ 0 ≤ (sv_122 : Int32).toInt ∧ (sv_122 : Int32).toInt ≤ 400 := pf_125
            have pf_126 : 0 ≤ (sv_118 : Int32).toInt ∧ (sv_118 : Int32).toInt ≤ 400 := pf_126
            have pf_127 : TpR (Tf 1) (Tv 0) (pz_b ro_111 (pz_fact (cB (Tf 1) (Tv 0)) 2)) sv_121 sv_122 sv_123 sv_124 := pf_127
            obtain ⟨ro_130, ero_130⟩ : ∃ z : Except Int (Nat × Nat), z = (pz_b ro_111 (pz_fact (cB (Tf 1) (Tv 0)) 2)) := ⟨_, rfl⟩
            rw [← ero_130] at pf_127
            have tb_131 : TpB (rTE (cB (Tf 1) (Tv 0)) ro_130) sv_122 sv_124 := TpR.tb pf_127
            have pf_128 : Ctd (pz_b ro_111 (pz_fact (cB (Tf 1) (Tv 0)) 2)) sv_119 := pf_128
            rw [← ero_130] at pf_128
            have pf_129 : CdK sv_120 sv_118 (pz_b ro_111 (pz_fact (cB (Tf 1) (Tv 0)) 2)) (Ap ro_111 (ec_fact (cB (Tf 1) (Tv 0)) 2) lq_52) := pf_129
            rw [← ero_130] at pf_129
            obtain ⟨ro_132, ero_132⟩ : ∃ z : List Int, z = (Ap ro_111 (ec_fact (cB (Tf 1) (Tv 0)) 2) lq_52) := ⟨_, rfl⟩
            rw [← ero_132] at pf_129
            refine W.eq (g2 := F0 m 70 ls []) rfl ?_
            replace hP : va_P D classes [((Va 0), .inr (7, [.ref (Va 1), .int sv_118, .int sv_119])), ((Va 1), .inl (tc 0, 400, .inl sv_120)), ((Ta 0), .inr (10, [.ref (Ta 1), .int (Tv 0), .int sv_121, .int sv_122, .int sv_123, .int sv_124])), ((Ta 1), .inl (tc 0, 400, .inl (Tf 1)))] H := hP₀
            replace hD : va_D A [((Va 0), .inr (7, [.ref (Va 1), .int sv_118, .int sv_119])), ((Va 1), .inl (tc 0, 400, .inl sv_120)), ((Ta 0), .inr (10, [.ref (Ta 1), .int (Tv 0), .int sv_121, .int sv_122, .int sv_123, .int sv_124])), ((Ta 1), .inl (tc 0, 400, .inl (Tf 1)))] := hD₀
            replace hS := hS₀
            clear hP₀ hD₀ hS₀
            refine lv_iload hx hb dX7_readTest_70 (lv_at hl 0 rfl) ?_
            refine lv_if_eq (tgt := 80) hx hb dX7_readTest_72 (by decide) (fun c_133 => ?_) (fun c_133 => ?_)
            · skip
              refine lv_aload_n hx hb dX7_readTest_80 rfl (lv_at hl 3 rfl) ?_
              refine lv_bipush (v := (-5)) hx hb dX7_readTest_81 (by decide) ?_
              refine cV (a := (Va 0)) (As := [.int (-5)]) (rest := []) (wr := [((Ta 0), .inr (10, [.ref (Ta 1), .int (Tv 0), .int sv_121, .int sv_122, .int sv_123, .int sv_124])), ((Ta 1), .inl (tc 0, 400, .inl (Tf 1)))]) ⟨hx, hb, hml, hown, hts⟩ hK hX hA (cu_kX7_put l D tc sk (Va 0) (Va 1) sv_118 sv_119 sv_120 (-5) ro_130 ro_132 pf_126 pf_129) k_642 k_639 k_641 k_10 k_99 pl_X7_put ⟨Nat.le_of_ble_eq_true rfl, Nat.le_of_ble_eq_true rfl⟩ rfl rfl (va_recv hK hP (ci := 7) (q0 := 0) rfl rfl) hP hD hS [0, 1] [2, 3] rfl rfl rfl rfl rfl (by decide) rfl hl.1 rfl (Nat.le_of_ble_eq_true rfl) dX7_readTest_83 ⟨Nat.le_of_ble_eq_true rfl, Nat.le_of_ble_eq_true rfl⟩ (fun v_134 u_135 H locs hv_136 hP₀ hD₀ hS₀ => ?_)
              obtain ⟨sv_137, sv_138⟩ := u_135
              obtain ⟨rfl, pf_139, pf_140⟩ := hv_136
              have pf_139 : 0 ≤ (sv_137 : Int32).toInt ∧ (sv_137 : Int32).toInt ≤ 400 := pf_139
              have pf_140 : CdK sv_138 sv_137 ro_130 (ro_132 ++ [((-5) : Int32).toInt]) := pf_140
              rw [show ((-5) : Int32).toInt = -5 by decide] at pf_140
              obtain ⟨ro_141, ero_141⟩ : ∃ z : List Int, z = (ro_132 ++ [-5]) := ⟨_, rfl⟩
              rw [← ero_141] at pf_140
              refine W.eq (g2 := F0 m 86 ls []) rfl ?_
              replace hP : va_P D classes [((Ta 0), .inr (10, [.ref (Ta 1), .int (Tv 0), .int sv_121, .int sv_122, .int sv_123, .int sv_124])), ((Ta 1), .inl (tc 0, 400, .inl (Tf 1))), ((Va 0), .inr (7, [.ref (Va 1), .int sv_137, .int sv_119])), ((Va 1), .inl (tc 0, 400, .inl sv_138))] H := hP₀
              replace hD : va_D A [((Ta 0), .inr (10, [.ref (Ta 1), .int (Tv 0), .int sv_121, .int sv_122, .int sv_123, .int sv_124])), ((Ta 1), .inl (tc 0, 400, .inl (Tf 1))), ((Va 0), .inr (7, [.ref (Va 1), .int sv_137, .int sv_119])), ((Va 1), .inl (tc 0, 400, .inl sv_138))] := hD₀
              replace hS := hS₀
              clear hP₀ hD₀ hS₀
              obtain ⟨x_142, ex_142⟩ : ∃ y : Int32, y = vy_29 + 1 := ⟨_, rfl⟩
              refine lv_iinc (v := x_142) (lv' := [(4, .int x_142), (5, .int r_95), (3, .int vy_37), (0, .ref (Va 0)), (1, .ref (Ta 0)), (2, .int 8)]) hx hb dX7_readTest_86 hl (k := 1) rfl (by rw [ex_142]; rfl) (by decide) rfl (fun ls hl₀ => ?_)
              replace hl := hl₀
              clear hl₀
              refine lv_goto (tgt := 11) hx hb dX7_readTest_89 (by decide) ?_
              have hb_143 : 401 - (x_142 : Int32).toInt < 401 - (vy_29 : Int32).toInt ∧ 1 ≤ 401 - (vy_29 : Int32).toInt := by
                have z_1 := Int32.lt_iff_toInt_lt.mp (Int32.not_le.mp c_56)
                have z_2 : ¬ (r_83 : Int32).toInt = (0 : Int32).toInt := fun z => c_88 (Int32.toInt_inj.mp z)
                have z_3 := congrArg Int32.toInt c_100
                have z_4 := congrArg Int32.toInt c_133
                have y_0 : (0 : Int32).toInt = 0 := by decide
                have y_400 : (400 : Int32).toInt = 400 := by decide
                have y_1 : (1 : Int32).toInt = 1 := by decide
                have t_x_142 : x_142.toInt = (vy_29 : Int32).toInt + (1 : Int32).toInt := by rw [ex_142]; exact add_toInt (by omega) (by omega)
                omega
              have ha_144 : 0 ≤ (x_142 : Int32).toInt ∧ (x_142 : Int32).toInt ≤ 400 := by
                have z_1 := Int32.lt_iff_toInt_lt.mp (Int32.not_le.mp c_56)
                have z_2 : ¬ (r_83 : Int32).toInt = (0 : Int32).toInt := fun z => c_88 (Int32.toInt_inj.mp z)
                have z_3 := congrArg Int32.toInt c_100
                have z_4 := congrArg Int32.toInt c_133
                have y_0 : (0 : Int32).toInt = 0 := by decide
                have y_400 : (400 : Int32).toInt = 400 := by decide
                have y_1 : (1 : Int32).toInt = 1 := by decide
                have t_x_142 : x_142.toInt = (vy_29 : Int32).toInt + (1 : Int32).toInt := by rw [ex_142]; exact add_toInt (by omega) (by omega)
                omega
              have hu_145 : TpR (Tf 1) (Tv 0) (pz_b (rNX (cB (Tf 1) (Tv 0)) rq_47) (pz_fact (cB (Tf 1) (Tv 0)) 2)) sv_121 sv_122 sv_123 sv_124 := by
                rw [← ero_111, ← ero_130]
                exact pf_127
              have hu_146 : Ctd (pz_b (rNX (cB (Tf 1) (Tv 0)) rq_47) (pz_fact (cB (Tf 1) (Tv 0)) 2)) sv_119 := by
                rw [← ero_111, ← ero_130]
                exact pf_128
              have hu_147 : CdK sv_138 sv_137 (pz_b (rNX (cB (Tf 1) (Tv 0)) rq_47) (pz_fact (cB (Tf 1) (Tv 0)) 2)) ((Ap (rNX (cB (Tf 1) (Tv 0)) rq_47) (ec_fact (cB (Tf 1) (Tv 0)) 2) lq_52) ++ [-5]) := by
                rw [← ero_111, ← ero_130, ← ero_132, ← ero_141]
                exact pf_140
              have hi_148 : (x_142 : Int32).toInt = (vy_29 : Int32).toInt + 1 := by
                have z_1 := Int32.lt_iff_toInt_lt.mp (Int32.not_le.mp c_56)
                have z_2 : ¬ (r_83 : Int32).toInt = (0 : Int32).toInt := fun z => c_88 (Int32.toInt_inj.mp z)
                have z_3 := congrArg Int32.toInt c_100
                have z_4 := congrArg Int32.toInt c_133
                have y_0 : (0 : Int32).toInt = 0 := by decide
                have y_400 : (400 : Int32).toInt = 400 := by decide
                have y_1 : (1 : Int32).toInt = 1 := by decide
                have t_x_142 : x_142.toInt = (vy_29 : Int32).toInt + (1 : Int32).toInt := by rw [ex_142]; exact add_toInt (by omega) (by omega)
                omega
              have hw_149 : TWd (cB (Tf 1) (Tv 0)) pz_and rq_47 := by
                rw [← wS5]
                exact pf_89
              exact ih_39 x_142 sv_137 sv_119 sv_138 sv_121 sv_122 sv_123 sv_124 vy_37 _ _ _ (by omega) ha_144 pf_42 pf_125 pf_139 (TeC.and h_tape.2.1 pf_50 pf_51 pf_54 hw_149 hu_145 hu_146 hu_147 hi_148) (hP.sub [2, 3, 0, 1] rfl) (hD.sub [2, 3, 0, 1] rfl rfl) hS (lv_sub hl [0, 2, 3, 4, 5] rfl)
            · skip
              exfalso
              have z_1 := Int32.lt_iff_toInt_lt.mp (Int32.not_le.mp c_56)
              have z_2 : ¬ (r_83 : Int32).toInt = (0 : Int32).toInt := fun z => c_88 (Int32.toInt_inj.mp z)
              have z_3 := congrArg Int32.toInt c_100
              have z_4 : ¬ (r_95 : Int32).toInt = (0 : Int32).toInt := fun z => c_133 (Int32.toInt_inj.mp z)
              have y_0 : (0 : Int32).toInt = 0 := by decide
              have y_400 : (400 : Int32).toInt = 400 := by decide
              omega
          · skip
            have hz_151 : (r_95 : Int32).toInt = 1 := by
              have z_1 := Int32.lt_iff_toInt_lt.mp (Int32.not_le.mp c_56)
              have z_2 : ¬ (r_83 : Int32).toInt = (0 : Int32).toInt := fun z => c_88 (Int32.toInt_inj.mp z)
              have z_3 : ¬ (r_95 : Int32).toInt = (0 : Int32).toInt := fun z => c_100 (Int32.toInt_inj.mp z)
              have y_0 : (0 : Int32).toInt = 0 := by decide
              have y_400 : (400 : Int32).toInt = 400 := by decide
              omega
            obtain pf_150 := hm_98 hz_151
            have pf_150 : TWd (cB (Tf 1) (Tv 0)) (wS (6 : Nat)) rq_47 := pf_150
            refine lv_iload_n hx hb dX7_readTest_50 rfl (lv_at hl 2 rfl) ?_
            refine lv_if_eq (tgt := 60) hx hb dX7_readTest_51 (by decide) (fun c_152 => ?_) (fun c_152 => ?_)
            · skip
              refine lv_aload_n hx hb dX7_readTest_60 rfl (lv_at hl 4 rfl) ?_
              refine cV (a := (Ta 0)) (As := []) (rest := []) (wr := [((Va 0), .inr (7, [.ref (Va 1), .int vy_30, .int vy_31])), ((Va 1), .inl (tc 0, 400, .inl vy_32))]) ⟨hx, hb, hml, hown, hts⟩ hK hX hA (cu_fX10_step l D tc sk (Ta 0) (Ta 1) (Tv 0) vy_33 vy_34 vy_35 vy_36 (Tf 1) (rTE (cB (Tf 1) (Tv 0)) rq_47) pf_43 h_by tb_55) k_478 k_620 k_476 k_477 k_96 pl_X10_step ⟨Nat.le_of_ble_eq_true rfl, Nat.le_of_ble_eq_true rfl⟩ rfl rfl (va_recv hK hP (ci := 10) (q0 := 2) rfl rfl) hP hD hS [2, 3] [0, 1] rfl rfl rfl rfl rfl (by decide) rfl hl.1 rfl (Nat.le_of_ble_eq_true rfl) dX7_readTest_61 ⟨Nat.le_of_ble_eq_true rfl, Nat.le_of_ble_eq_true rfl⟩ (fun v_153 u_154 H locs hv_155 hP₀ hD₀ hS₀ => ?_)
              obtain ⟨sv_156, sv_157, sv_158⟩ := u_154
              obtain ⟨rfl, pf_159, pf_160⟩ := hv_155
              have pf_159 : 0 ≤ ((Tv 0) : Int32).toInt ∧ ((Tv 0) : Int32).toInt ≤ 400 ∧ 0 ≤ (sv_156 : Int32).toInt ∧ (sv_156 : Int32).toInt ≤ 400 ∧ 0 ≤ (sv_157 : Int32).toInt ∧ (sv_157 : Int32).toInt ≤ 400 := pf_159
              have pf_160 : TpR (Tf 1) (Tv 0) (rSK (cB (Tf 1) (Tv 0)) (rTE (cB (Tf 1) (Tv 0)) rq_47)) sv_156 sv_157 sv_158 vy_36 := pf_160
              rw [rNX_eq] at pf_160
              obtain ⟨ro_161, ero_161⟩ : ∃ z : Except Int (Nat × Nat), z = (rNX (cB (Tf 1) (Tv 0)) rq_47) := ⟨_, rfl⟩
              rw [← ero_161] at pf_160
              have tb_162 : TpB (rTE (cB (Tf 1) (Tv 0)) ro_161) sv_157 vy_36 := TpR.tb pf_160
              have cd_163 : Ctd ro_161 vy_31 := by rw [ero_161]; exact (Ctd.nx pf_49)
              have ck_164 : CdK vy_32 vy_30 ro_161 lq_52 := by rw [ero_161]; exact (CdK.nx pf_53)
              refine W.eq (g2 := F0 m 64 ls []) rfl ?_
              replace hP : va_P D classes [((Va 0), .inr (7, [.ref (Va 1), .int vy_30, .int vy_31])), ((Va 1), .inl (tc 0, 400, .inl vy_32)), ((Ta 0), .inr (10, [.ref (Ta 1), .int (Tv 0), .int sv_156, .int sv_157, .int sv_158, .int vy_36])), ((Ta 1), .inl (tc 0, 400, .inl (Tf 1)))] H := hP₀
              replace hD : va_D A [((Va 0), .inr (7, [.ref (Va 1), .int vy_30, .int vy_31])), ((Va 1), .inl (tc 0, 400, .inl vy_32)), ((Ta 0), .inr (10, [.ref (Ta 1), .int (Tv 0), .int sv_156, .int sv_157, .int sv_158, .int vy_36])), ((Ta 1), .inl (tc 0, 400, .inl (Tf 1)))] := hD₀
              replace hS := hS₀
              clear hP₀ hD₀ hS₀
              refine lv_aload_n hx hb dX7_readTest_64 rfl (lv_at hl 3 rfl) ?_
              refine lv_aload_n hx hb dX7_readTest_65 rfl (lv_at hl 4 rfl) ?_
              refine lv_iload_n hx hb dX7_readTest_66 rfl (lv_at hl 5 rfl) ?_
              refine cV (a := (Va 0)) (As := [.ref (Ta 0), .int 8]) (rest := []) (wr := []) ⟨hx, hb, hml, hown, hts⟩ hK hX hA (cu_kX7_readFact_8 l D tc sk (Va 0) (Va 1) vy_30 vy_31 vy_32 (Ta 0) (Ta 1) (Tv 0) sv_156 sv_157 sv_158 vy_36 (Tf 1) ro_161 lq_52 pf_159 pf_44 h_by pf_160 cd_163 ck_164) k_659 k_656 k_658 k_12 k_99 pl_X7_readFact ⟨Nat.le_of_ble_eq_true rfl, Nat.le_of_ble_eq_true rfl⟩ rfl rfl (va_recv hK hP (ci := 7) (q0 := 0) rfl rfl) hP hD hS [0, 1, 2, 3] [] rfl rfl rfl rfl rfl (by decide) rfl hl.1 rfl (Nat.le_of_ble_eq_true rfl) dX7_readTest_67 ⟨Nat.le_of_ble_eq_true rfl, Nat.le_of_ble_eq_true rfl⟩ (fun v_165 u_166 H locs hv_167 hP₀ hD₀ hS₀ => ?_)
              obtain ⟨sv_168, sv_169, sv_170, sv_171, sv_172, sv_173, sv_174⟩ := u_166
              obtain ⟨rfl, pf_175, pf_176, pf_177, pf_178, pf_179⟩ := hv_167
              have pf_175 : 0 ≤ ((Tv 0) : Int32).toInt ∧ ((Tv 0) : Int32).toInt ≤ 400 ∧ 0 ≤ (sv_171 : Int32).toInt ∧ (sv_171 : Int32).toInt ≤ 400 ∧ 0 ≤ (sv_172 : Int32).toInt ∧ (sv_172 : Int32).toInt ≤ 400 := pf_175
              have pf_176 : 0 ≤ (sv_168 : Int32).toInt ∧ (sv_168 : Int32).toInt ≤ 400 := pf_176
              have pf_177 : TpR (Tf 1) (Tv 0) (pz_b ro_161 (pz_fact (cB (Tf 1) (Tv 0)) 2)) sv_171 sv_172 sv_173 sv_174 := pf_177
              obtain ⟨ro_180, ero_180⟩ : ∃ z : Except Int (Nat × Nat), z = (pz_b ro_161 (pz_fact (cB (Tf 1) (Tv 0)) 2)) := ⟨_, rfl⟩
              rw [← ero_180] at pf_177
              have tb_181 : TpB (rTE (cB (Tf 1) (Tv 0)) ro_180) sv_172 sv_174 := TpR.tb pf_177
              have pf_178 : Ctd (pz_b ro_161 (pz_fact (cB (Tf 1) (Tv 0)) 2)) sv_169 := pf_178
              rw [← ero_180] at pf_178
              have pf_179 : CdK sv_170 sv_168 (pz_b ro_161 (pz_fact (cB (Tf 1) (Tv 0)) 2)) (Ap ro_161 (ec_fact (cB (Tf 1) (Tv 0)) 2) lq_52) := pf_179
              rw [← ero_180] at pf_179
              obtain ⟨ro_182, ero_182⟩ : ∃ z : List Int, z = (Ap ro_161 (ec_fact (cB (Tf 1) (Tv 0)) 2) lq_52) := ⟨_, rfl⟩
              rw [← ero_182] at pf_179
              refine W.eq (g2 := F0 m 70 ls []) rfl ?_
              replace hP : va_P D classes [((Va 0), .inr (7, [.ref (Va 1), .int sv_168, .int sv_169])), ((Va 1), .inl (tc 0, 400, .inl sv_170)), ((Ta 0), .inr (10, [.ref (Ta 1), .int (Tv 0), .int sv_171, .int sv_172, .int sv_173, .int sv_174])), ((Ta 1), .inl (tc 0, 400, .inl (Tf 1)))] H := hP₀
              replace hD : va_D A [((Va 0), .inr (7, [.ref (Va 1), .int sv_168, .int sv_169])), ((Va 1), .inl (tc 0, 400, .inl sv_170)), ((Ta 0), .inr (10, [.ref (Ta 1), .int (Tv 0), .int sv_171, .int sv_172, .int sv_173, .int sv_174])), ((Ta 1), .inl (tc 0, 400, .inl (Tf 1)))] := hD₀
              replace hS := hS₀
              clear hP₀ hD₀ hS₀
              refine lv_iload hx hb dX7_readTest_70 (lv_at hl 0 rfl) ?_
              refine lv_if_eq (tgt := 80) hx hb dX7_readTest_72 (by decide) (fun c_183 => ?_) (fun c_183 => ?_)
              · skip
                exfalso
                have z_1 := Int32.lt_iff_toInt_lt.mp (Int32.not_le.mp c_56)
                have z_2 : ¬ (r_83 : Int32).toInt = (0 : Int32).toInt := fun z => c_88 (Int32.toInt_inj.mp z)
                have z_3 : ¬ (r_95 : Int32).toInt = (0 : Int32).toInt := fun z => c_100 (Int32.toInt_inj.mp z)
                have z_4 := congrArg Int32.toInt c_152
                have z_5 := congrArg Int32.toInt c_183
                have y_0 : (0 : Int32).toInt = 0 := by decide
                have y_400 : (400 : Int32).toInt = 400 := by decide
                omega
              · skip
                refine lv_iconst (v := 1) hx hb dX7_readTest_75 (by decide) ?_
                refine lv_istore_n (lv' := [(3, .int 1), (5, .int r_95), (4, .int vy_29), (0, .ref (Va 0)), (1, .ref (Ta 0)), (2, .int 8)]) hx hb dX7_readTest_76 rfl hl (by decide) rfl (fun ls hl₀ => ?_)
                replace hl := hl₀
                clear hl₀
                refine lv_goto (tgt := 86) hx hb dX7_readTest_77 (by decide) ?_
                obtain ⟨x_184, ex_184⟩ : ∃ y : Int32, y = vy_29 + 1 := ⟨_, rfl⟩
                refine lv_iinc (v := x_184) (lv' := [(4, .int x_184), (3, .int 1), (5, .int r_95), (0, .ref (Va 0)), (1, .ref (Ta 0)), (2, .int 8)]) hx hb dX7_readTest_86 hl (k := 2) rfl (by rw [ex_184]; rfl) (by decide) rfl (fun ls hl₀ => ?_)
                replace hl := hl₀
                clear hl₀
                refine lv_goto (tgt := 11) hx hb dX7_readTest_89 (by decide) ?_
                have hb_185 : 401 - (x_184 : Int32).toInt < 401 - (vy_29 : Int32).toInt ∧ 1 ≤ 401 - (vy_29 : Int32).toInt := by
                  have z_1 := Int32.lt_iff_toInt_lt.mp (Int32.not_le.mp c_56)
                  have z_2 : ¬ (r_83 : Int32).toInt = (0 : Int32).toInt := fun z => c_88 (Int32.toInt_inj.mp z)
                  have z_3 : ¬ (r_95 : Int32).toInt = (0 : Int32).toInt := fun z => c_100 (Int32.toInt_inj.mp z)
                  have z_4 := congrArg Int32.toInt c_152
                  have z_5 : ¬ (r_95 : Int32).toInt = (0 : Int32).toInt := fun z => c_183 (Int32.toInt_inj.mp z)
                  have y_0 : (0 : Int32).toInt = 0 := by decide
                  have y_400 : (400 : Int32).toInt = 400 := by decide
                  have y_1 : (1 : Int32).toInt = 1 := by decide
                  have t_x_184 : x_184.toInt = (vy_29 : Int32).toInt + (1 : Int32).toInt := by rw [ex_184]; exact add_toInt (by omega) (by omega)
                  omega
                have ha_186 : 0 ≤ (x_184 : Int32).toInt ∧ (x_184 : Int32).toInt ≤ 400 := by
                  have z_1 := Int32.lt_iff_toInt_lt.mp (Int32.not_le.mp c_56)
                  have z_2 : ¬ (r_83 : Int32).toInt = (0 : Int32).toInt := fun z => c_88 (Int32.toInt_inj.mp z)
                  have z_3 : ¬ (r_95 : Int32).toInt = (0 : Int32).toInt := fun z => c_100 (Int32.toInt_inj.mp z)
                  have z_4 := congrArg Int32.toInt c_152
                  have z_5 : ¬ (r_95 : Int32).toInt = (0 : Int32).toInt := fun z => c_183 (Int32.toInt_inj.mp z)
                  have y_0 : (0 : Int32).toInt = 0 := by decide
                  have y_400 : (400 : Int32).toInt = 400 := by decide
                  have y_1 : (1 : Int32).toInt = 1 := by decide
                  have t_x_184 : x_184.toInt = (vy_29 : Int32).toInt + (1 : Int32).toInt := by rw [ex_184]; exact add_toInt (by omega) (by omega)
                  omega
                have ha_187 : 0 ≤ (1 : Int32).toInt ∧ (1 : Int32).toInt ≤ 1 := by
                  have z_1 := Int32.lt_iff_toInt_lt.mp (Int32.not_le.mp c_56)
                  have z_2 : ¬ (r_83 : Int32).toInt = (0 : Int32).toInt := fun z => c_88 (Int32.toInt_inj.mp z)
                  have z_3 : ¬ (r_95 : Int32).toInt = (0 : Int32).toInt := fun z => c_100 (Int32.toInt_inj.mp z)
                  have z_4 := congrArg Int32.toInt c_152
                  have z_5 : ¬ (r_95 : Int32).toInt = (0 : Int32).toInt := fun z => c_183 (Int32.toInt_inj.mp z)
                  have y_0 : (0 : Int32).toInt = 0 := by decide
                  have y_400 : (400 : Int32).toInt = 400 := by decide
                  have y_1 : (1 : Int32).toInt = 1 := by decide
                  omega
                have hu_188 : TpR (Tf 1) (Tv 0) (pz_b (rNX (cB (Tf 1) (Tv 0)) rq_47) (pz_fact (cB (Tf 1) (Tv 0)) 2)) sv_171 sv_172 sv_173 sv_174 := by
                  rw [← ero_161, ← ero_180]
                  exact pf_177
                have hu_189 : Ctd (pz_b (rNX (cB (Tf 1) (Tv 0)) rq_47) (pz_fact (cB (Tf 1) (Tv 0)) 2)) sv_169 := by
                  rw [← ero_161, ← ero_180]
                  exact pf_178
                have hu_190 : CdK sv_170 sv_168 (pz_b (rNX (cB (Tf 1) (Tv 0)) rq_47) (pz_fact (cB (Tf 1) (Tv 0)) 2)) (Ap (rNX (cB (Tf 1) (Tv 0)) rq_47) (ec_fact (cB (Tf 1) (Tv 0)) 2) lq_52) := by
                  rw [← ero_161, ← ero_180, ← ero_182]
                  exact pf_179
                have hi_191 : (x_184 : Int32).toInt = (vy_29 : Int32).toInt + 1 := by
                  have z_1 := Int32.lt_iff_toInt_lt.mp (Int32.not_le.mp c_56)
                  have z_2 : ¬ (r_83 : Int32).toInt = (0 : Int32).toInt := fun z => c_88 (Int32.toInt_inj.mp z)
                  have z_3 : ¬ (r_95 : Int32).toInt = (0 : Int32).toInt := fun z => c_100 (Int32.toInt_inj.mp z)
                  have z_4 := congrArg Int32.toInt c_152
                  have z_5 : ¬ (r_95 : Int32).toInt = (0 : Int32).toInt := fun z => c_183 (Int32.toInt_inj.mp z)
                  have y_0 : (0 : Int32).toInt = 0 := by decide
                  have y_400 : (400 : Int32).toInt = 400 := by decide
                  have y_1 : (1 : Int32).toInt = 1 := by decide
                  have t_x_184 : x_184.toInt = (vy_29 : Int32).toInt + (1 : Int32).toInt := by rw [ex_184]; exact add_toInt (by omega) (by omega)
                  omega
                have hr_192 : (vy_37 : Int32).toInt = 0 := by
                  have z_1 := Int32.lt_iff_toInt_lt.mp (Int32.not_le.mp c_56)
                  have z_2 : ¬ (r_83 : Int32).toInt = (0 : Int32).toInt := fun z => c_88 (Int32.toInt_inj.mp z)
                  have z_3 : ¬ (r_95 : Int32).toInt = (0 : Int32).toInt := fun z => c_100 (Int32.toInt_inj.mp z)
                  have z_4 := congrArg Int32.toInt c_152
                  have z_5 : ¬ (r_95 : Int32).toInt = (0 : Int32).toInt := fun z => c_183 (Int32.toInt_inj.mp z)
                  have y_0 : (0 : Int32).toInt = 0 := by decide
                  have y_400 : (400 : Int32).toInt = 400 := by decide
                  omega
                have hr_193 : (1 : Int32).toInt = 1 := by
                  have z_1 := Int32.lt_iff_toInt_lt.mp (Int32.not_le.mp c_56)
                  have z_2 : ¬ (r_83 : Int32).toInt = (0 : Int32).toInt := fun z => c_88 (Int32.toInt_inj.mp z)
                  have z_3 : ¬ (r_95 : Int32).toInt = (0 : Int32).toInt := fun z => c_100 (Int32.toInt_inj.mp z)
                  have z_4 := congrArg Int32.toInt c_152
                  have z_5 : ¬ (r_95 : Int32).toInt = (0 : Int32).toInt := fun z => c_183 (Int32.toInt_inj.mp z)
                  have y_0 : (0 : Int32).toInt = 0 := by decide
                  have y_400 : (400 : Int32).toInt = 400 := by decide
                  have y_1 : (1 : Int32).toInt = 1 := by decide
                  omega
                have hw_194 : TWd (cB (Tf 1) (Tv 0)) pz_or rq_47 := by
                  rw [← wS6]
                  exact pf_150
                exact ih_39 x_184 sv_168 sv_169 sv_170 sv_171 sv_172 sv_173 sv_174 1 _ _ _ (by omega) ha_186 ha_187 pf_175 pf_176 (TeC.or0 h_tape.2.1 pf_50 pf_51 pf_54 hr_192 hr_193 hw_194 hu_188 hu_189 hu_190 hi_191) (hP.sub [0, 1, 2, 3] rfl) (hD.sub [0, 1, 2, 3] rfl rfl) hS (lv_sub hl [0, 1, 3, 4, 5] rfl)
            · skip
              refine lv_aload_n hx hb dX7_readTest_54 rfl (lv_at hl 3 rfl) ?_
              refine lv_bipush (v := (-6)) hx hb dX7_readTest_55 (by decide) ?_
              refine cV (a := (Va 0)) (As := [.int (-6)]) (rest := []) (wr := [((Ta 0), .inr (10, [.ref (Ta 1), .int (Tv 0), .int vy_33, .int vy_34, .int vy_35, .int vy_36])), ((Ta 1), .inl (tc 0, 400, .inl (Tf 1)))]) ⟨hx, hb, hml, hown, hts⟩ hK hX hA (cu_kX7_put l D tc sk (Va 0) (Va 1) vy_30 vy_31 vy_32 (-6) rq_47 lq_52 pf_44 pf_53) k_642 k_639 k_641 k_10 k_99 pl_X7_put ⟨Nat.le_of_ble_eq_true rfl, Nat.le_of_ble_eq_true rfl⟩ rfl rfl (va_recv hK hP (ci := 7) (q0 := 0) rfl rfl) hP hD hS [0, 1] [2, 3] rfl rfl rfl rfl rfl (by decide) rfl hl.1 rfl (Nat.le_of_ble_eq_true rfl) dX7_readTest_57 ⟨Nat.le_of_ble_eq_true rfl, Nat.le_of_ble_eq_true rfl⟩ (fun v_195 u_196 H locs hv_197 hP₀ hD₀ hS₀ => ?_)
              obtain ⟨sv_198, sv_199⟩ := u_196
              obtain ⟨rfl, pf_200, pf_201⟩ := hv_197
              have pf_200 : 0 ≤ (sv_198 : Int32).toInt ∧ (sv_198 : Int32).toInt ≤ 400 := pf_200
              have pf_201 : CdK sv_199 sv_198 rq_47 (lq_52 ++ [((-6) : Int32).toInt]) := pf_201
              rw [show ((-6) : Int32).toInt = -6 by decide] at pf_201
              obtain ⟨ro_202, ero_202⟩ : ∃ z : List Int, z = (lq_52 ++ [-6]) := ⟨_, rfl⟩
              rw [← ero_202] at pf_201
              refine W.eq (g2 := F0 m 60 ls []) rfl ?_
              replace hP : va_P D classes [((Ta 0), .inr (10, [.ref (Ta 1), .int (Tv 0), .int vy_33, .int vy_34, .int vy_35, .int vy_36])), ((Ta 1), .inl (tc 0, 400, .inl (Tf 1))), ((Va 0), .inr (7, [.ref (Va 1), .int sv_198, .int vy_31])), ((Va 1), .inl (tc 0, 400, .inl sv_199))] H := hP₀
              replace hD : va_D A [((Ta 0), .inr (10, [.ref (Ta 1), .int (Tv 0), .int vy_33, .int vy_34, .int vy_35, .int vy_36])), ((Ta 1), .inl (tc 0, 400, .inl (Tf 1))), ((Va 0), .inr (7, [.ref (Va 1), .int sv_198, .int vy_31])), ((Va 1), .inl (tc 0, 400, .inl sv_199))] := hD₀
              replace hS := hS₀
              clear hP₀ hD₀ hS₀
              refine lv_aload_n hx hb dX7_readTest_60 rfl (lv_at hl 4 rfl) ?_
              refine cV (a := (Ta 0)) (As := []) (rest := []) (wr := [((Va 0), .inr (7, [.ref (Va 1), .int sv_198, .int vy_31])), ((Va 1), .inl (tc 0, 400, .inl sv_199))]) ⟨hx, hb, hml, hown, hts⟩ hK hX hA (cu_fX10_step l D tc sk (Ta 0) (Ta 1) (Tv 0) vy_33 vy_34 vy_35 vy_36 (Tf 1) (rTE (cB (Tf 1) (Tv 0)) rq_47) pf_43 h_by tb_55) k_478 k_620 k_476 k_477 k_96 pl_X10_step ⟨Nat.le_of_ble_eq_true rfl, Nat.le_of_ble_eq_true rfl⟩ rfl rfl (va_recv hK hP (ci := 10) (q0 := 0) rfl rfl) hP hD hS [0, 1] [2, 3] rfl rfl rfl rfl rfl (by decide) rfl hl.1 rfl (Nat.le_of_ble_eq_true rfl) dX7_readTest_61 ⟨Nat.le_of_ble_eq_true rfl, Nat.le_of_ble_eq_true rfl⟩ (fun v_203 u_204 H locs hv_205 hP₀ hD₀ hS₀ => ?_)
              obtain ⟨sv_206, sv_207, sv_208⟩ := u_204
              obtain ⟨rfl, pf_209, pf_210⟩ := hv_205
              have pf_209 : 0 ≤ ((Tv 0) : Int32).toInt ∧ ((Tv 0) : Int32).toInt ≤ 400 ∧ 0 ≤ (sv_206 : Int32).toInt ∧ (sv_206 : Int32).toInt ≤ 400 ∧ 0 ≤ (sv_207 : Int32).toInt ∧ (sv_207 : Int32).toInt ≤ 400 := pf_209
              have pf_210 : TpR (Tf 1) (Tv 0) (rSK (cB (Tf 1) (Tv 0)) (rTE (cB (Tf 1) (Tv 0)) rq_47)) sv_206 sv_207 sv_208 vy_36 := pf_210
              rw [rNX_eq] at pf_210
              obtain ⟨ro_211, ero_211⟩ : ∃ z : Except Int (Nat × Nat), z = (rNX (cB (Tf 1) (Tv 0)) rq_47) := ⟨_, rfl⟩
              rw [← ero_211] at pf_210
              have tb_212 : TpB (rTE (cB (Tf 1) (Tv 0)) ro_211) sv_207 vy_36 := TpR.tb pf_210
              have cd_213 : Ctd ro_211 vy_31 := by rw [ero_211]; exact (Ctd.nx pf_49)
              have ck_214 : CdK sv_199 sv_198 ro_211 ro_202 := by rw [ero_211]; exact (CdK.nx pf_201)
              refine W.eq (g2 := F0 m 64 ls []) rfl ?_
              replace hP : va_P D classes [((Va 0), .inr (7, [.ref (Va 1), .int sv_198, .int vy_31])), ((Va 1), .inl (tc 0, 400, .inl sv_199)), ((Ta 0), .inr (10, [.ref (Ta 1), .int (Tv 0), .int sv_206, .int sv_207, .int sv_208, .int vy_36])), ((Ta 1), .inl (tc 0, 400, .inl (Tf 1)))] H := hP₀
              replace hD : va_D A [((Va 0), .inr (7, [.ref (Va 1), .int sv_198, .int vy_31])), ((Va 1), .inl (tc 0, 400, .inl sv_199)), ((Ta 0), .inr (10, [.ref (Ta 1), .int (Tv 0), .int sv_206, .int sv_207, .int sv_208, .int vy_36])), ((Ta 1), .inl (tc 0, 400, .inl (Tf 1)))] := hD₀
              replace hS := hS₀
              clear hP₀ hD₀ hS₀
              refine lv_aload_n hx hb dX7_readTest_64 rfl (lv_at hl 3 rfl) ?_
              refine lv_aload_n hx hb dX7_readTest_65 rfl (lv_at hl 4 rfl) ?_
              refine lv_iload_n hx hb dX7_readTest_66 rfl (lv_at hl 5 rfl) ?_
              refine cV (a := (Va 0)) (As := [.ref (Ta 0), .int 8]) (rest := []) (wr := []) ⟨hx, hb, hml, hown, hts⟩ hK hX hA (cu_kX7_readFact_8 l D tc sk (Va 0) (Va 1) sv_198 vy_31 sv_199 (Ta 0) (Ta 1) (Tv 0) sv_206 sv_207 sv_208 vy_36 (Tf 1) ro_211 ro_202 pf_209 pf_200 h_by pf_210 cd_213 ck_214) k_659 k_656 k_658 k_12 k_99 pl_X7_readFact ⟨Nat.le_of_ble_eq_true rfl, Nat.le_of_ble_eq_true rfl⟩ rfl rfl (va_recv hK hP (ci := 7) (q0 := 0) rfl rfl) hP hD hS [0, 1, 2, 3] [] rfl rfl rfl rfl rfl (by decide) rfl hl.1 rfl (Nat.le_of_ble_eq_true rfl) dX7_readTest_67 ⟨Nat.le_of_ble_eq_true rfl, Nat.le_of_ble_eq_true rfl⟩ (fun v_215 u_216 H locs hv_217 hP₀ hD₀ hS₀ => ?_)
              obtain ⟨sv_218, sv_219, sv_220, sv_221, sv_222, sv_223, sv_224⟩ := u_216
              obtain ⟨rfl, pf_225, pf_226, pf_227, pf_228, pf_229⟩ := hv_217
              have pf_225 : 0 ≤ ((Tv 0) : Int32).toInt ∧ ((Tv 0) : Int32).toInt ≤ 400 ∧ 0 ≤ (sv_221 : Int32).toInt ∧ (sv_221 : Int32).toInt ≤ 400 ∧ 0 ≤ (sv_222 : Int32).toInt ∧ (sv_222 : Int32).toInt ≤ 400 := pf_225
              have pf_226 : 0 ≤ (sv_218 : Int32).toInt ∧ (sv_218 : Int32).toInt ≤ 400 := pf_226
              have pf_227 : TpR (Tf 1) (Tv 0) (pz_b ro_211 (pz_fact (cB (Tf 1) (Tv 0)) 2)) sv_221 sv_222 sv_223 sv_224 := pf_227
              obtain ⟨ro_230, ero_230⟩ : ∃ z : Except Int (Nat × Nat), z = (pz_b ro_211 (pz_fact (cB (Tf 1) (Tv 0)) 2)) := ⟨_, rfl⟩
              rw [← ero_230] at pf_227
              have tb_231 : TpB (rTE (cB (Tf 1) (Tv 0)) ro_230) sv_222 sv_224 := TpR.tb pf_227
              have pf_228 : Ctd (pz_b ro_211 (pz_fact (cB (Tf 1) (Tv 0)) 2)) sv_219 := pf_228
              rw [← ero_230] at pf_228
              have pf_229 : CdK sv_220 sv_218 (pz_b ro_211 (pz_fact (cB (Tf 1) (Tv 0)) 2)) (Ap ro_211 (ec_fact (cB (Tf 1) (Tv 0)) 2) ro_202) := pf_229
              rw [← ero_230] at pf_229
              obtain ⟨ro_232, ero_232⟩ : ∃ z : List Int, z = (Ap ro_211 (ec_fact (cB (Tf 1) (Tv 0)) 2) ro_202) := ⟨_, rfl⟩
              rw [← ero_232] at pf_229
              refine W.eq (g2 := F0 m 70 ls []) rfl ?_
              replace hP : va_P D classes [((Va 0), .inr (7, [.ref (Va 1), .int sv_218, .int sv_219])), ((Va 1), .inl (tc 0, 400, .inl sv_220)), ((Ta 0), .inr (10, [.ref (Ta 1), .int (Tv 0), .int sv_221, .int sv_222, .int sv_223, .int sv_224])), ((Ta 1), .inl (tc 0, 400, .inl (Tf 1)))] H := hP₀
              replace hD : va_D A [((Va 0), .inr (7, [.ref (Va 1), .int sv_218, .int sv_219])), ((Va 1), .inl (tc 0, 400, .inl sv_220)), ((Ta 0), .inr (10, [.ref (Ta 1), .int (Tv 0), .int sv_221, .int sv_222, .int sv_223, .int sv_224])), ((Ta 1), .inl (tc 0, 400, .inl (Tf 1)))] := hD₀
              replace hS := hS₀
              clear hP₀ hD₀ hS₀
              refine lv_iload hx hb dX7_readTest_70 (lv_at hl 0 rfl) ?_
              refine lv_if_eq (tgt := 80) hx hb dX7_readTest_72 (by decide) (fun c_233 => ?_) (fun c_233 => ?_)
              · skip
                exfalso
                have z_1 := Int32.lt_iff_toInt_lt.mp (Int32.not_le.mp c_56)
                have z_2 : ¬ (r_83 : Int32).toInt = (0 : Int32).toInt := fun z => c_88 (Int32.toInt_inj.mp z)
                have z_3 : ¬ (r_95 : Int32).toInt = (0 : Int32).toInt := fun z => c_100 (Int32.toInt_inj.mp z)
                have z_4 : ¬ (vy_37 : Int32).toInt = (0 : Int32).toInt := fun z => c_152 (Int32.toInt_inj.mp z)
                have z_5 := congrArg Int32.toInt c_233
                have y_0 : (0 : Int32).toInt = 0 := by decide
                have y_400 : (400 : Int32).toInt = 400 := by decide
                omega
              · skip
                refine lv_iconst (v := 1) hx hb dX7_readTest_75 (by decide) ?_
                refine lv_istore_n (lv' := [(3, .int 1), (5, .int r_95), (4, .int vy_29), (0, .ref (Va 0)), (1, .ref (Ta 0)), (2, .int 8)]) hx hb dX7_readTest_76 rfl hl (by decide) rfl (fun ls hl₀ => ?_)
                replace hl := hl₀
                clear hl₀
                refine lv_goto (tgt := 86) hx hb dX7_readTest_77 (by decide) ?_
                obtain ⟨x_234, ex_234⟩ : ∃ y : Int32, y = vy_29 + 1 := ⟨_, rfl⟩
                refine lv_iinc (v := x_234) (lv' := [(4, .int x_234), (3, .int 1), (5, .int r_95), (0, .ref (Va 0)), (1, .ref (Ta 0)), (2, .int 8)]) hx hb dX7_readTest_86 hl (k := 2) rfl (by rw [ex_234]; rfl) (by decide) rfl (fun ls hl₀ => ?_)
                replace hl := hl₀
                clear hl₀
                refine lv_goto (tgt := 11) hx hb dX7_readTest_89 (by decide) ?_
                have hb_235 : 401 - (x_234 : Int32).toInt < 401 - (vy_29 : Int32).toInt ∧ 1 ≤ 401 - (vy_29 : Int32).toInt := by
                  have z_1 := Int32.lt_iff_toInt_lt.mp (Int32.not_le.mp c_56)
                  have z_2 : ¬ (r_83 : Int32).toInt = (0 : Int32).toInt := fun z => c_88 (Int32.toInt_inj.mp z)
                  have z_3 : ¬ (r_95 : Int32).toInt = (0 : Int32).toInt := fun z => c_100 (Int32.toInt_inj.mp z)
                  have z_4 : ¬ (vy_37 : Int32).toInt = (0 : Int32).toInt := fun z => c_152 (Int32.toInt_inj.mp z)
                  have z_5 : ¬ (r_95 : Int32).toInt = (0 : Int32).toInt := fun z => c_233 (Int32.toInt_inj.mp z)
                  have y_0 : (0 : Int32).toInt = 0 := by decide
                  have y_400 : (400 : Int32).toInt = 400 := by decide
                  have y_1 : (1 : Int32).toInt = 1 := by decide
                  have t_x_234 : x_234.toInt = (vy_29 : Int32).toInt + (1 : Int32).toInt := by rw [ex_234]; exact add_toInt (by omega) (by omega)
                  omega
                have ha_236 : 0 ≤ (x_234 : Int32).toInt ∧ (x_234 : Int32).toInt ≤ 400 := by
                  have z_1 := Int32.lt_iff_toInt_lt.mp (Int32.not_le.mp c_56)
                  have z_2 : ¬ (r_83 : Int32).toInt = (0 : Int32).toInt := fun z => c_88 (Int32.toInt_inj.mp z)
                  have z_3 : ¬ (r_95 : Int32).toInt = (0 : Int32).toInt := fun z => c_100 (Int32.toInt_inj.mp z)
                  have z_4 : ¬ (vy_37 : Int32).toInt = (0 : Int32).toInt := fun z => c_152 (Int32.toInt_inj.mp z)
                  have z_5 : ¬ (r_95 : Int32).toInt = (0 : Int32).toInt := fun z => c_233 (Int32.toInt_inj.mp z)
                  have y_0 : (0 : Int32).toInt = 0 := by decide
                  have y_400 : (400 : Int32).toInt = 400 := by decide
                  have y_1 : (1 : Int32).toInt = 1 := by decide
                  have t_x_234 : x_234.toInt = (vy_29 : Int32).toInt + (1 : Int32).toInt := by rw [ex_234]; exact add_toInt (by omega) (by omega)
                  omega
                have ha_237 : 0 ≤ (1 : Int32).toInt ∧ (1 : Int32).toInt ≤ 1 := by
                  have z_1 := Int32.lt_iff_toInt_lt.mp (Int32.not_le.mp c_56)
                  have z_2 : ¬ (r_83 : Int32).toInt = (0 : Int32).toInt := fun z => c_88 (Int32.toInt_inj.mp z)
                  have z_3 : ¬ (r_95 : Int32).toInt = (0 : Int32).toInt := fun z => c_100 (Int32.toInt_inj.mp z)
                  have z_4 : ¬ (vy_37 : Int32).toInt = (0 : Int32).toInt := fun z => c_152 (Int32.toInt_inj.mp z)
                  have z_5 : ¬ (r_95 : Int32).toInt = (0 : Int32).toInt := fun z => c_233 (Int32.toInt_inj.mp z)
                  have y_0 : (0 : Int32).toInt = 0 := by decide
                  have y_400 : (400 : Int32).toInt = 400 := by decide
                  have y_1 : (1 : Int32).toInt = 1 := by decide
                  omega
                have hu_238 : TpR (Tf 1) (Tv 0) (pz_b (rNX (cB (Tf 1) (Tv 0)) rq_47) (pz_fact (cB (Tf 1) (Tv 0)) 2)) sv_221 sv_222 sv_223 sv_224 := by
                  rw [← ero_211, ← ero_230]
                  exact pf_227
                have hu_239 : Ctd (pz_b (rNX (cB (Tf 1) (Tv 0)) rq_47) (pz_fact (cB (Tf 1) (Tv 0)) 2)) sv_219 := by
                  rw [← ero_211, ← ero_230]
                  exact pf_228
                have hu_240 : CdK sv_220 sv_218 (pz_b (rNX (cB (Tf 1) (Tv 0)) rq_47) (pz_fact (cB (Tf 1) (Tv 0)) 2)) (Ap (rNX (cB (Tf 1) (Tv 0)) rq_47) (ec_fact (cB (Tf 1) (Tv 0)) 2) (lq_52 ++ [-6])) := by
                  rw [← ero_202, ← ero_211, ← ero_230, ← ero_232]
                  exact pf_229
                have hi_241 : (x_234 : Int32).toInt = (vy_29 : Int32).toInt + 1 := by
                  have z_1 := Int32.lt_iff_toInt_lt.mp (Int32.not_le.mp c_56)
                  have z_2 : ¬ (r_83 : Int32).toInt = (0 : Int32).toInt := fun z => c_88 (Int32.toInt_inj.mp z)
                  have z_3 : ¬ (r_95 : Int32).toInt = (0 : Int32).toInt := fun z => c_100 (Int32.toInt_inj.mp z)
                  have z_4 : ¬ (vy_37 : Int32).toInt = (0 : Int32).toInt := fun z => c_152 (Int32.toInt_inj.mp z)
                  have z_5 : ¬ (r_95 : Int32).toInt = (0 : Int32).toInt := fun z => c_233 (Int32.toInt_inj.mp z)
                  have y_0 : (0 : Int32).toInt = 0 := by decide
                  have y_400 : (400 : Int32).toInt = 400 := by decide
                  have y_1 : (1 : Int32).toInt = 1 := by decide
                  have t_x_234 : x_234.toInt = (vy_29 : Int32).toInt + (1 : Int32).toInt := by rw [ex_234]; exact add_toInt (by omega) (by omega)
                  omega
                have hr_242 : (vy_37 : Int32).toInt = 1 := by
                  have z_1 := Int32.lt_iff_toInt_lt.mp (Int32.not_le.mp c_56)
                  have z_2 : ¬ (r_83 : Int32).toInt = (0 : Int32).toInt := fun z => c_88 (Int32.toInt_inj.mp z)
                  have z_3 : ¬ (r_95 : Int32).toInt = (0 : Int32).toInt := fun z => c_100 (Int32.toInt_inj.mp z)
                  have z_4 : ¬ (vy_37 : Int32).toInt = (0 : Int32).toInt := fun z => c_152 (Int32.toInt_inj.mp z)
                  have z_5 : ¬ (r_95 : Int32).toInt = (0 : Int32).toInt := fun z => c_233 (Int32.toInt_inj.mp z)
                  have y_0 : (0 : Int32).toInt = 0 := by decide
                  have y_400 : (400 : Int32).toInt = 400 := by decide
                  omega
                have hr_243 : (1 : Int32).toInt = 1 := by
                  have z_1 := Int32.lt_iff_toInt_lt.mp (Int32.not_le.mp c_56)
                  have z_2 : ¬ (r_83 : Int32).toInt = (0 : Int32).toInt := fun z => c_88 (Int32.toInt_inj.mp z)
                  have z_3 : ¬ (r_95 : Int32).toInt = (0 : Int32).toInt := fun z => c_100 (Int32.toInt_inj.mp z)
                  have z_4 : ¬ (vy_37 : Int32).toInt = (0 : Int32).toInt := fun z => c_152 (Int32.toInt_inj.mp z)
                  have z_5 : ¬ (r_95 : Int32).toInt = (0 : Int32).toInt := fun z => c_233 (Int32.toInt_inj.mp z)
                  have y_0 : (0 : Int32).toInt = 0 := by decide
                  have y_400 : (400 : Int32).toInt = 400 := by decide
                  have y_1 : (1 : Int32).toInt = 1 := by decide
                  omega
                have hw_244 : TWd (cB (Tf 1) (Tv 0)) pz_or rq_47 := by
                  rw [← wS6]
                  exact pf_150
                exact ih_39 x_234 sv_218 sv_219 sv_220 sv_221 sv_222 sv_223 sv_224 1 _ _ _ (by omega) ha_236 ha_237 pf_225 pf_226 (TeC.or1 h_tape.2.1 pf_50 pf_51 pf_54 hr_242 hr_243 hw_244 hu_238 hu_239 hu_240 hi_241) (hP.sub [0, 1, 2, 3] rfl) (hD.sub [0, 1, 2, 3] rfl rfl) hS (lv_sub hl [0, 1, 3, 4, 5] rfl)
        · skip
          have hz_246 : (r_83 : Int32).toInt = 0 := by
            have z_1 := Int32.lt_iff_toInt_lt.mp (Int32.not_le.mp c_56)
            have z_2 := congrArg Int32.toInt c_88
            have y_0 : (0 : Int32).toInt = 0 := by decide
            have y_400 : (400 : Int32).toInt = 400 := by decide
            omega
          obtain pf_245 := hm_87 hz_246
          have pf_245 : NWd (cB (Tf 1) (Tv 0)) (wS (5 : Nat)) rq_47 := pf_245
          refine lv_aload_n hx hb dX7_readTest_28 rfl (lv_at hl 3 rfl) ?_
          refine va_ldcS hx hb hown (sx_6 hX) dX7_readTest_29 ?_
          have ha_247 : (6 : Nat) < 7 := by
            have z_1 := Int32.lt_iff_toInt_lt.mp (Int32.not_le.mp c_56)
            have z_2 := congrArg Int32.toInt c_88
            have y_0 : (0 : Int32).toInt = 0 := by decide
            have y_400 : (400 : Int32).toInt = 400 := by decide
            have y_6 : (6 : Int32).toInt = 6 := by decide
            omega
          refine cV (a := (Ta 0)) (As := [.ref (sk.1 6)]) (rest := []) (wr := [((Va 0), .inr (7, [.ref (Va 1), .int vy_30, .int vy_31])), ((Va 1), .inl (tc 0, 400, .inl vy_32))]) ⟨hx, hb, hml, hown, hts⟩ hK hX hA (cu_fX10_isWord l D tc sk (Ta 0) (Ta 1) (Tv 0) vy_33 vy_34 vy_35 vy_36 (Tf 1) 6 rq_47 ha_247 pf_43 h_by pf_48) k_618 k_615 k_616 k_617 k_96 pl_X10_isWord ⟨Nat.le_of_ble_eq_true rfl, Nat.le_of_ble_eq_true rfl⟩ rfl rfl (va_recv hK hP (ci := 10) (q0 := 2) rfl rfl) hP hD hS [2, 3] [0, 1] rfl rfl rfl rfl rfl (by decide) rfl hl.1 rfl (Nat.le_of_ble_eq_true rfl) dX7_readTest_31 ⟨Nat.le_of_ble_eq_true rfl, Nat.le_of_ble_eq_true rfl⟩ (fun v_248 u_249 H locs hv_250 hP₀ hD₀ hS₀ => ?_)
          obtain ⟨r_251, rfl, he_252, hm_254, hm_255⟩ := hv_250
          have he_252 : (r_251.toInt = 0 ∨ r_251.toInt = 1) := he_252
          refine W.eq (g2 := F0 m 34 ls [.int r_251]) rfl ?_
          replace hP : va_P D classes [((Va 0), .inr (7, [.ref (Va 1), .int vy_30, .int vy_31])), ((Va 1), .inl (tc 0, 400, .inl vy_32)), ((Ta 0), .inr (10, [.ref (Ta 1), .int (Tv 0), .int vy_33, .int vy_34, .int vy_35, .int vy_36])), ((Ta 1), .inl (tc 0, 400, .inl (Tf 1)))] H := hP₀
          replace hD : va_D A [((Va 0), .inr (7, [.ref (Va 1), .int vy_30, .int vy_31])), ((Va 1), .inl (tc 0, 400, .inl vy_32)), ((Ta 0), .inr (10, [.ref (Ta 1), .int (Tv 0), .int vy_33, .int vy_34, .int vy_35, .int vy_36])), ((Ta 1), .inl (tc 0, 400, .inl (Tf 1)))] := hD₀
          replace hS := hS₀
          clear hP₀ hD₀ hS₀
          refine lv_if_eq (tgt := 92) hx hb dX7_readTest_34 (by decide) (fun c_256 => ?_) (fun c_256 => ?_)
          · skip
            have hz_258 : (r_251 : Int32).toInt = 0 := by
              have z_1 := Int32.lt_iff_toInt_lt.mp (Int32.not_le.mp c_56)
              have z_2 := congrArg Int32.toInt c_88
              have z_3 := congrArg Int32.toInt c_256
              have y_0 : (0 : Int32).toInt = 0 := by decide
              have y_400 : (400 : Int32).toInt = 400 := by decide
              omega
            obtain pf_257 := hm_255 hz_258
            have pf_257 : NWd (cB (Tf 1) (Tv 0)) (wS (6 : Nat)) rq_47 := pf_257
            refine lv_iload_n hx hb dX7_readTest_92 rfl (lv_at hl 1 rfl) ?_
            refine lv_if_eq (tgt := 102) hx hb dX7_readTest_93 (by decide) (fun c_259 => ?_) (fun c_259 => ?_)
            · skip
              have hf_260 : TpR (Tf 1) (Tv 0) (pz_b rr (pz_tst (cB (Tf 1) (Tv 0)) (pz_fact (cB (Tf 1) (Tv 0)) 2))) vy_33 vy_34 vy_35 vy_36 := by
                have hw_261 : NWd (cB (Tf 1) (Tv 0)) pz_and rq_47 := by
                  rw [← wS5]
                  exact pf_245
                have hw_262 : NWd (cB (Tf 1) (Tv 0)) pz_or rq_47 := by
                  rw [← wS6]
                  exact pf_257
                rw [pf_50, tst_end h_tape.2.1 pf_51 (Or.inr ⟨hw_261, hw_262⟩)]
                exact pf_48
              have hf_263 : Ctd (pz_b rr (pz_tst (cB (Tf 1) (Tv 0)) (pz_fact (cB (Tf 1) (Tv 0)) 2))) vy_31 := by
                have hw_264 : NWd (cB (Tf 1) (Tv 0)) pz_and rq_47 := by
                  rw [← wS5]
                  exact pf_245
                have hw_265 : NWd (cB (Tf 1) (Tv 0)) pz_or rq_47 := by
                  rw [← wS6]
                  exact pf_257
                rw [pf_50, tst_end h_tape.2.1 pf_51 (Or.inr ⟨hw_264, hw_265⟩)]
                exact pf_49
              have hw_266 : NWd (cB (Tf 1) (Tv 0)) pz_and rq_47 := by
                rw [← wS5]
                exact pf_245
              have hw_267 : NWd (cB (Tf 1) (Tv 0)) pz_or rq_47 := by
                rw [← wS6]
                exact pf_257
              have hr_268 : (vy_37 : Int32).toInt = 0 := by
                have z_1 := Int32.lt_iff_toInt_lt.mp (Int32.not_le.mp c_56)
                have z_2 := congrArg Int32.toInt c_88
                have z_3 := congrArg Int32.toInt c_256
                have z_4 := congrArg Int32.toInt c_259
                have y_0 : (0 : Int32).toInt = 0 := by decide
                have y_400 : (400 : Int32).toInt = 400 := by decide
                omega
              exact retV hx hb hr hlk hP hD hS (vy_30, vy_31, vy_32, vy_33, vy_34, vy_35, vy_36) ⟨rfl, pf_43, pf_44, hf_260, hf_263, (TeC.end0 h_tape.2.1 pf_50 pf_51 pf_54 hr_268 (Or.inr ⟨hw_266, hw_267⟩) pf_53)⟩ [0, 1, 2, 3] rfl rfl dX7_readTest_102 (Nat.le_of_ble_eq_true rfl) (Nat.le_of_ble_eq_true rfl) rfl
            · skip
              refine lv_aload_n hx hb dX7_readTest_96 rfl (lv_at hl 2 rfl) ?_
              refine lv_bipush (v := (-6)) hx hb dX7_readTest_97 (by decide) ?_
              refine cV (a := (Va 0)) (As := [.int (-6)]) (rest := []) (wr := [((Ta 0), .inr (10, [.ref (Ta 1), .int (Tv 0), .int vy_33, .int vy_34, .int vy_35, .int vy_36])), ((Ta 1), .inl (tc 0, 400, .inl (Tf 1)))]) ⟨hx, hb, hml, hown, hts⟩ hK hX hA (cu_kX7_put l D tc sk (Va 0) (Va 1) vy_30 vy_31 vy_32 (-6) rq_47 lq_52 pf_44 pf_53) k_642 k_639 k_641 k_10 k_99 pl_X7_put ⟨Nat.le_of_ble_eq_true rfl, Nat.le_of_ble_eq_true rfl⟩ rfl rfl (va_recv hK hP (ci := 7) (q0 := 0) rfl rfl) hP hD hS [0, 1] [2, 3] rfl rfl rfl rfl rfl (by decide) rfl hl.1 rfl (Nat.le_of_ble_eq_true rfl) dX7_readTest_99 ⟨Nat.le_of_ble_eq_true rfl, Nat.le_of_ble_eq_true rfl⟩ (fun v_269 u_270 H locs hv_271 hP₀ hD₀ hS₀ => ?_)
              obtain ⟨sv_272, sv_273⟩ := u_270
              obtain ⟨rfl, pf_274, pf_275⟩ := hv_271
              have pf_274 : 0 ≤ (sv_272 : Int32).toInt ∧ (sv_272 : Int32).toInt ≤ 400 := pf_274
              have pf_275 : CdK sv_273 sv_272 rq_47 (lq_52 ++ [((-6) : Int32).toInt]) := pf_275
              rw [show ((-6) : Int32).toInt = -6 by decide] at pf_275
              obtain ⟨ro_276, ero_276⟩ : ∃ z : List Int, z = (lq_52 ++ [-6]) := ⟨_, rfl⟩
              rw [← ero_276] at pf_275
              refine W.eq (g2 := F0 m 102 ls []) rfl ?_
              replace hP : va_P D classes [((Ta 0), .inr (10, [.ref (Ta 1), .int (Tv 0), .int vy_33, .int vy_34, .int vy_35, .int vy_36])), ((Ta 1), .inl (tc 0, 400, .inl (Tf 1))), ((Va 0), .inr (7, [.ref (Va 1), .int sv_272, .int vy_31])), ((Va 1), .inl (tc 0, 400, .inl sv_273))] H := hP₀
              replace hD : va_D A [((Ta 0), .inr (10, [.ref (Ta 1), .int (Tv 0), .int vy_33, .int vy_34, .int vy_35, .int vy_36])), ((Ta 1), .inl (tc 0, 400, .inl (Tf 1))), ((Va 0), .inr (7, [.ref (Va 1), .int sv_272, .int vy_31])), ((Va 1), .inl (tc 0, 400, .inl sv_273))] := hD₀
              replace hS := hS₀
              clear hP₀ hD₀ hS₀
              have hf_277 : TpR (Tf 1) (Tv 0) (pz_b rr (pz_tst (cB (Tf 1) (Tv 0)) (pz_fact (cB (Tf 1) (Tv 0)) 2))) vy_33 vy_34 vy_35 vy_36 := by
                have hw_278 : NWd (cB (Tf 1) (Tv 0)) pz_and rq_47 := by
                  rw [← wS5]
                  exact pf_245
                have hw_279 : NWd (cB (Tf 1) (Tv 0)) pz_or rq_47 := by
                  rw [← wS6]
                  exact pf_257
                rw [pf_50, tst_end h_tape.2.1 pf_51 (Or.inr ⟨hw_278, hw_279⟩)]
                exact pf_48
              have hf_280 : Ctd (pz_b rr (pz_tst (cB (Tf 1) (Tv 0)) (pz_fact (cB (Tf 1) (Tv 0)) 2))) vy_31 := by
                have hw_281 : NWd (cB (Tf 1) (Tv 0)) pz_and rq_47 := by
                  rw [← wS5]
                  exact pf_245
                have hw_282 : NWd (cB (Tf 1) (Tv 0)) pz_or rq_47 := by
                  rw [← wS6]
                  exact pf_257
                rw [pf_50, tst_end h_tape.2.1 pf_51 (Or.inr ⟨hw_281, hw_282⟩)]
                exact pf_49
              have hw_283 : NWd (cB (Tf 1) (Tv 0)) pz_and rq_47 := by
                rw [← wS5]
                exact pf_245
              have hw_284 : NWd (cB (Tf 1) (Tv 0)) pz_or rq_47 := by
                rw [← wS6]
                exact pf_257
              have hu_285 : CdK sv_273 sv_272 rq_47 (lq_52 ++ [-6]) := by
                rw [← ero_276]
                exact pf_275
              have hr_286 : (vy_37 : Int32).toInt = 1 := by
                have z_1 := Int32.lt_iff_toInt_lt.mp (Int32.not_le.mp c_56)
                have z_2 := congrArg Int32.toInt c_88
                have z_3 := congrArg Int32.toInt c_256
                have z_4 : ¬ (vy_37 : Int32).toInt = (0 : Int32).toInt := fun z => c_259 (Int32.toInt_inj.mp z)
                have y_0 : (0 : Int32).toInt = 0 := by decide
                have y_400 : (400 : Int32).toInt = 400 := by decide
                omega
              exact retV hx hb hr hlk hP hD hS (sv_272, vy_31, sv_273, vy_33, vy_34, vy_35, vy_36) ⟨rfl, pf_43, pf_274, hf_277, hf_280, (TeC.end1 h_tape.2.1 pf_50 pf_51 pf_54 hr_286 (Or.inr ⟨hw_283, hw_284⟩) hu_285)⟩ [2, 3, 0, 1] rfl rfl dX7_readTest_102 (Nat.le_of_ble_eq_true rfl) (Nat.le_of_ble_eq_true rfl) rfl
          · skip
            have hz_288 : (r_251 : Int32).toInt = 1 := by
              have z_1 := Int32.lt_iff_toInt_lt.mp (Int32.not_le.mp c_56)
              have z_2 := congrArg Int32.toInt c_88
              have z_3 : ¬ (r_251 : Int32).toInt = (0 : Int32).toInt := fun z => c_256 (Int32.toInt_inj.mp z)
              have y_0 : (0 : Int32).toInt = 0 := by decide
              have y_400 : (400 : Int32).toInt = 400 := by decide
              omega
            obtain pf_287 := hm_254 hz_288
            have pf_287 : TWd (cB (Tf 1) (Tv 0)) (wS (6 : Nat)) rq_47 := pf_287
            refine lv_aload_n hx hb dX7_readTest_37 rfl (lv_at hl 3 rfl) ?_
            refine va_ldcS hx hb hown (sx_6 hX) dX7_readTest_38 ?_
            have ha_289 : (6 : Nat) < 7 := by
              have z_1 := Int32.lt_iff_toInt_lt.mp (Int32.not_le.mp c_56)
              have z_2 := congrArg Int32.toInt c_88
              have z_3 : ¬ (r_251 : Int32).toInt = (0 : Int32).toInt := fun z => c_256 (Int32.toInt_inj.mp z)
              have y_0 : (0 : Int32).toInt = 0 := by decide
              have y_400 : (400 : Int32).toInt = 400 := by decide
              have y_6 : (6 : Int32).toInt = 6 := by decide
              omega
            refine cV (a := (Ta 0)) (As := [.ref (sk.1 6)]) (rest := []) (wr := [((Va 0), .inr (7, [.ref (Va 1), .int vy_30, .int vy_31])), ((Va 1), .inl (tc 0, 400, .inl vy_32))]) ⟨hx, hb, hml, hown, hts⟩ hK hX hA (cu_fX10_isWord l D tc sk (Ta 0) (Ta 1) (Tv 0) vy_33 vy_34 vy_35 vy_36 (Tf 1) 6 rq_47 ha_289 pf_43 h_by pf_48) k_618 k_615 k_616 k_617 k_96 pl_X10_isWord ⟨Nat.le_of_ble_eq_true rfl, Nat.le_of_ble_eq_true rfl⟩ rfl rfl (va_recv hK hP (ci := 10) (q0 := 2) rfl rfl) hP hD hS [2, 3] [0, 1] rfl rfl rfl rfl rfl (by decide) rfl hl.1 rfl (Nat.le_of_ble_eq_true rfl) dX7_readTest_40 ⟨Nat.le_of_ble_eq_true rfl, Nat.le_of_ble_eq_true rfl⟩ (fun v_290 u_291 H locs hv_292 hP₀ hD₀ hS₀ => ?_)
            obtain ⟨r_293, rfl, he_294, hm_296, hm_297⟩ := hv_292
            have he_294 : (r_293.toInt = 0 ∨ r_293.toInt = 1) := he_294
            refine W.eq (g2 := F0 m 43 ls [.int r_293]) rfl ?_
            replace hP : va_P D classes [((Va 0), .inr (7, [.ref (Va 1), .int vy_30, .int vy_31])), ((Va 1), .inl (tc 0, 400, .inl vy_32)), ((Ta 0), .inr (10, [.ref (Ta 1), .int (Tv 0), .int vy_33, .int vy_34, .int vy_35, .int vy_36])), ((Ta 1), .inl (tc 0, 400, .inl (Tf 1)))] H := hP₀
            replace hD : va_D A [((Va 0), .inr (7, [.ref (Va 1), .int vy_30, .int vy_31])), ((Va 1), .inl (tc 0, 400, .inl vy_32)), ((Ta 0), .inr (10, [.ref (Ta 1), .int (Tv 0), .int vy_33, .int vy_34, .int vy_35, .int vy_36])), ((Ta 1), .inl (tc 0, 400, .inl (Tf 1)))] := hD₀
            replace hS := hS₀
            clear hP₀ hD₀ hS₀
            refine lv_istore (lv' := [(5, .int r_293), (4, .int vy_29), (3, .int vy_37), (0, .ref (Va 0)), (1, .ref (Ta 0)), (2, .int 8)]) hx hb dX7_readTest_43 hl (by decide) rfl (fun ls hl₀ => ?_)
            replace hl := hl₀
            clear hl₀
            refine lv_iload hx hb dX7_readTest_45 (lv_at hl 0 rfl) ?_
            refine lv_if_eq (tgt := 60) hx hb dX7_readTest_47 (by decide) (fun c_298 => ?_) (fun c_298 => ?_)
            · skip
              have hz_300 : (r_293 : Int32).toInt = 0 := by
                have z_1 := Int32.lt_iff_toInt_lt.mp (Int32.not_le.mp c_56)
                have z_2 := congrArg Int32.toInt c_88
                have z_3 : ¬ (r_251 : Int32).toInt = (0 : Int32).toInt := fun z => c_256 (Int32.toInt_inj.mp z)
                have z_4 := congrArg Int32.toInt c_298
                have y_0 : (0 : Int32).toInt = 0 := by decide
                have y_400 : (400 : Int32).toInt = 400 := by decide
                omega
              obtain pf_299 := hm_297 hz_300
              have pf_299 : NWd (cB (Tf 1) (Tv 0)) (wS (6 : Nat)) rq_47 := pf_299
              refine lv_aload_n hx hb dX7_readTest_60 rfl (lv_at hl 4 rfl) ?_
              refine cV (a := (Ta 0)) (As := []) (rest := []) (wr := [((Va 0), .inr (7, [.ref (Va 1), .int vy_30, .int vy_31])), ((Va 1), .inl (tc 0, 400, .inl vy_32))]) ⟨hx, hb, hml, hown, hts⟩ hK hX hA (cu_fX10_step l D tc sk (Ta 0) (Ta 1) (Tv 0) vy_33 vy_34 vy_35 vy_36 (Tf 1) (rTE (cB (Tf 1) (Tv 0)) rq_47) pf_43 h_by tb_55) k_478 k_620 k_476 k_477 k_96 pl_X10_step ⟨Nat.le_of_ble_eq_true rfl, Nat.le_of_ble_eq_true rfl⟩ rfl rfl (va_recv hK hP (ci := 10) (q0 := 2) rfl rfl) hP hD hS [2, 3] [0, 1] rfl rfl rfl rfl rfl (by decide) rfl hl.1 rfl (Nat.le_of_ble_eq_true rfl) dX7_readTest_61 ⟨Nat.le_of_ble_eq_true rfl, Nat.le_of_ble_eq_true rfl⟩ (fun v_301 u_302 H locs hv_303 hP₀ hD₀ hS₀ => ?_)
              obtain ⟨sv_304, sv_305, sv_306⟩ := u_302
              obtain ⟨rfl, pf_307, pf_308⟩ := hv_303
              have pf_307 : 0 ≤ ((Tv 0) : Int32).toInt ∧ ((Tv 0) : Int32).toInt ≤ 400 ∧ 0 ≤ (sv_304 : Int32).toInt ∧ (sv_304 : Int32).toInt ≤ 400 ∧ 0 ≤ (sv_305 : Int32).toInt ∧ (sv_305 : Int32).toInt ≤ 400 := pf_307
              have pf_308 : TpR (Tf 1) (Tv 0) (rSK (cB (Tf 1) (Tv 0)) (rTE (cB (Tf 1) (Tv 0)) rq_47)) sv_304 sv_305 sv_306 vy_36 := pf_308
              rw [rNX_eq] at pf_308
              obtain ⟨ro_309, ero_309⟩ : ∃ z : Except Int (Nat × Nat), z = (rNX (cB (Tf 1) (Tv 0)) rq_47) := ⟨_, rfl⟩
              rw [← ero_309] at pf_308
              have tb_310 : TpB (rTE (cB (Tf 1) (Tv 0)) ro_309) sv_305 vy_36 := TpR.tb pf_308
              have cd_311 : Ctd ro_309 vy_31 := by rw [ero_309]; exact (Ctd.nx pf_49)
              have ck_312 : CdK vy_32 vy_30 ro_309 lq_52 := by rw [ero_309]; exact (CdK.nx pf_53)
              refine W.eq (g2 := F0 m 64 ls []) rfl ?_
              replace hP : va_P D classes [((Va 0), .inr (7, [.ref (Va 1), .int vy_30, .int vy_31])), ((Va 1), .inl (tc 0, 400, .inl vy_32)), ((Ta 0), .inr (10, [.ref (Ta 1), .int (Tv 0), .int sv_304, .int sv_305, .int sv_306, .int vy_36])), ((Ta 1), .inl (tc 0, 400, .inl (Tf 1)))] H := hP₀
              replace hD : va_D A [((Va 0), .inr (7, [.ref (Va 1), .int vy_30, .int vy_31])), ((Va 1), .inl (tc 0, 400, .inl vy_32)), ((Ta 0), .inr (10, [.ref (Ta 1), .int (Tv 0), .int sv_304, .int sv_305, .int sv_306, .int vy_36])), ((Ta 1), .inl (tc 0, 400, .inl (Tf 1)))] := hD₀
              replace hS := hS₀
              clear hP₀ hD₀ hS₀
              refine lv_aload_n hx hb dX7_readTest_64 rfl (lv_at hl 3 rfl) ?_
              refine lv_aload_n hx hb dX7_readTest_65 rfl (lv_at hl 4 rfl) ?_
              refine lv_iload_n hx hb dX7_readTest_66 rfl (lv_at hl 5 rfl) ?_
              refine cV (a := (Va 0)) (As := [.ref (Ta 0), .int 8]) (rest := []) (wr := []) ⟨hx, hb, hml, hown, hts⟩ hK hX hA (cu_kX7_readFact_8 l D tc sk (Va 0) (Va 1) vy_30 vy_31 vy_32 (Ta 0) (Ta 1) (Tv 0) sv_304 sv_305 sv_306 vy_36 (Tf 1) ro_309 lq_52 pf_307 pf_44 h_by pf_308 cd_311 ck_312) k_659 k_656 k_658 k_12 k_99 pl_X7_readFact ⟨Nat.le_of_ble_eq_true rfl, Nat.le_of_ble_eq_true rfl⟩ rfl rfl (va_recv hK hP (ci := 7) (q0 := 0) rfl rfl) hP hD hS [0, 1, 2, 3] [] rfl rfl rfl rfl rfl (by decide) rfl hl.1 rfl (Nat.le_of_ble_eq_true rfl) dX7_readTest_67 ⟨Nat.le_of_ble_eq_true rfl, Nat.le_of_ble_eq_true rfl⟩ (fun v_313 u_314 H locs hv_315 hP₀ hD₀ hS₀ => ?_)
              obtain ⟨sv_316, sv_317, sv_318, sv_319, sv_320, sv_321, sv_322⟩ := u_314
              obtain ⟨rfl, pf_323, pf_324, pf_325, pf_326, pf_327⟩ := hv_315
              have pf_323 : 0 ≤ ((Tv 0) : Int32).toInt ∧ ((Tv 0) : Int32).toInt ≤ 400 ∧ 0 ≤ (sv_319 : Int32).toInt ∧ (sv_319 : Int32).toInt ≤ 400 ∧ 0 ≤ (sv_320 : Int32).toInt ∧ (sv_320 : Int32).toInt ≤ 400 := pf_323
              have pf_324 : 0 ≤ (sv_316 : Int32).toInt ∧ (sv_316 : Int32).toInt ≤ 400 := pf_324
              have pf_325 : TpR (Tf 1) (Tv 0) (pz_b ro_309 (pz_fact (cB (Tf 1) (Tv 0)) 2)) sv_319 sv_320 sv_321 sv_322 := pf_325
              obtain ⟨ro_328, ero_328⟩ : ∃ z : Except Int (Nat × Nat), z = (pz_b ro_309 (pz_fact (cB (Tf 1) (Tv 0)) 2)) := ⟨_, rfl⟩
              rw [← ero_328] at pf_325
              have tb_329 : TpB (rTE (cB (Tf 1) (Tv 0)) ro_328) sv_320 sv_322 := TpR.tb pf_325
              have pf_326 : Ctd (pz_b ro_309 (pz_fact (cB (Tf 1) (Tv 0)) 2)) sv_317 := pf_326
              rw [← ero_328] at pf_326
              have pf_327 : CdK sv_318 sv_316 (pz_b ro_309 (pz_fact (cB (Tf 1) (Tv 0)) 2)) (Ap ro_309 (ec_fact (cB (Tf 1) (Tv 0)) 2) lq_52) := pf_327
              rw [← ero_328] at pf_327
              obtain ⟨ro_330, ero_330⟩ : ∃ z : List Int, z = (Ap ro_309 (ec_fact (cB (Tf 1) (Tv 0)) 2) lq_52) := ⟨_, rfl⟩
              rw [← ero_330] at pf_327
              refine W.eq (g2 := F0 m 70 ls []) rfl ?_
              replace hP : va_P D classes [((Va 0), .inr (7, [.ref (Va 1), .int sv_316, .int sv_317])), ((Va 1), .inl (tc 0, 400, .inl sv_318)), ((Ta 0), .inr (10, [.ref (Ta 1), .int (Tv 0), .int sv_319, .int sv_320, .int sv_321, .int sv_322])), ((Ta 1), .inl (tc 0, 400, .inl (Tf 1)))] H := hP₀
              replace hD : va_D A [((Va 0), .inr (7, [.ref (Va 1), .int sv_316, .int sv_317])), ((Va 1), .inl (tc 0, 400, .inl sv_318)), ((Ta 0), .inr (10, [.ref (Ta 1), .int (Tv 0), .int sv_319, .int sv_320, .int sv_321, .int sv_322])), ((Ta 1), .inl (tc 0, 400, .inl (Tf 1)))] := hD₀
              replace hS := hS₀
              clear hP₀ hD₀ hS₀
              refine lv_iload hx hb dX7_readTest_70 (lv_at hl 0 rfl) ?_
              refine lv_if_eq (tgt := 80) hx hb dX7_readTest_72 (by decide) (fun c_331 => ?_) (fun c_331 => ?_)
              · skip
                refine lv_aload_n hx hb dX7_readTest_80 rfl (lv_at hl 3 rfl) ?_
                refine lv_bipush (v := (-5)) hx hb dX7_readTest_81 (by decide) ?_
                refine cV (a := (Va 0)) (As := [.int (-5)]) (rest := []) (wr := [((Ta 0), .inr (10, [.ref (Ta 1), .int (Tv 0), .int sv_319, .int sv_320, .int sv_321, .int sv_322])), ((Ta 1), .inl (tc 0, 400, .inl (Tf 1)))]) ⟨hx, hb, hml, hown, hts⟩ hK hX hA (cu_kX7_put l D tc sk (Va 0) (Va 1) sv_316 sv_317 sv_318 (-5) ro_328 ro_330 pf_324 pf_327) k_642 k_639 k_641 k_10 k_99 pl_X7_put ⟨Nat.le_of_ble_eq_true rfl, Nat.le_of_ble_eq_true rfl⟩ rfl rfl (va_recv hK hP (ci := 7) (q0 := 0) rfl rfl) hP hD hS [0, 1] [2, 3] rfl rfl rfl rfl rfl (by decide) rfl hl.1 rfl (Nat.le_of_ble_eq_true rfl) dX7_readTest_83 ⟨Nat.le_of_ble_eq_true rfl, Nat.le_of_ble_eq_true rfl⟩ (fun v_332 u_333 H locs hv_334 hP₀ hD₀ hS₀ => ?_)
                obtain ⟨sv_335, sv_336⟩ := u_333
                obtain ⟨rfl, pf_337, pf_338⟩ := hv_334
                have pf_337 : 0 ≤ (sv_335 : Int32).toInt ∧ (sv_335 : Int32).toInt ≤ 400 := pf_337
                have pf_338 : CdK sv_336 sv_335 ro_328 (ro_330 ++ [((-5) : Int32).toInt]) := pf_338
                rw [show ((-5) : Int32).toInt = -5 by decide] at pf_338
                obtain ⟨ro_339, ero_339⟩ : ∃ z : List Int, z = (ro_330 ++ [-5]) := ⟨_, rfl⟩
                rw [← ero_339] at pf_338
                refine W.eq (g2 := F0 m 86 ls []) rfl ?_
                replace hP : va_P D classes [((Ta 0), .inr (10, [.ref (Ta 1), .int (Tv 0), .int sv_319, .int sv_320, .int sv_321, .int sv_322])), ((Ta 1), .inl (tc 0, 400, .inl (Tf 1))), ((Va 0), .inr (7, [.ref (Va 1), .int sv_335, .int sv_317])), ((Va 1), .inl (tc 0, 400, .inl sv_336))] H := hP₀
                replace hD : va_D A [((Ta 0), .inr (10, [.ref (Ta 1), .int (Tv 0), .int sv_319, .int sv_320, .int sv_321, .int sv_322])), ((Ta 1), .inl (tc 0, 400, .inl (Tf 1))), ((Va 0), .inr (7, [.ref (Va 1), .int sv_335, .int sv_317])), ((Va 1), .inl (tc 0, 400, .inl sv_336))] := hD₀
                replace hS := hS₀
                clear hP₀ hD₀ hS₀
                obtain ⟨x_340, ex_340⟩ : ∃ y : Int32, y = vy_29 + 1 := ⟨_, rfl⟩
                refine lv_iinc (v := x_340) (lv' := [(4, .int x_340), (5, .int r_293), (3, .int vy_37), (0, .ref (Va 0)), (1, .ref (Ta 0)), (2, .int 8)]) hx hb dX7_readTest_86 hl (k := 1) rfl (by rw [ex_340]; rfl) (by decide) rfl (fun ls hl₀ => ?_)
                replace hl := hl₀
                clear hl₀
                refine lv_goto (tgt := 11) hx hb dX7_readTest_89 (by decide) ?_
                have hb_341 : 401 - (x_340 : Int32).toInt < 401 - (vy_29 : Int32).toInt ∧ 1 ≤ 401 - (vy_29 : Int32).toInt := by
                  have z_1 := Int32.lt_iff_toInt_lt.mp (Int32.not_le.mp c_56)
                  have z_2 := congrArg Int32.toInt c_88
                  have z_3 : ¬ (r_251 : Int32).toInt = (0 : Int32).toInt := fun z => c_256 (Int32.toInt_inj.mp z)
                  have z_4 := congrArg Int32.toInt c_298
                  have z_5 := congrArg Int32.toInt c_331
                  have y_0 : (0 : Int32).toInt = 0 := by decide
                  have y_400 : (400 : Int32).toInt = 400 := by decide
                  have y_1 : (1 : Int32).toInt = 1 := by decide
                  have t_x_340 : x_340.toInt = (vy_29 : Int32).toInt + (1 : Int32).toInt := by rw [ex_340]; exact add_toInt (by omega) (by omega)
                  omega
                have ha_342 : 0 ≤ (x_340 : Int32).toInt ∧ (x_340 : Int32).toInt ≤ 400 := by
                  have z_1 := Int32.lt_iff_toInt_lt.mp (Int32.not_le.mp c_56)
                  have z_2 := congrArg Int32.toInt c_88
                  have z_3 : ¬ (r_251 : Int32).toInt = (0 : Int32).toInt := fun z => c_256 (Int32.toInt_inj.mp z)
                  have z_4 := congrArg Int32.toInt c_298
                  have z_5 := congrArg Int32.toInt c_331
                  have y_0 : (0 : Int32).toInt = 0 := by decide
                  have y_400 : (400 : Int32).toInt = 400 := by decide
                  have y_1 : (1 : Int32).toInt = 1 := by decide
                  have t_x_340 : x_340.toInt = (vy_29 : Int32).toInt + (1 : Int32).toInt := by rw [ex_340]; exact add_toInt (by omega) (by omega)
                  omega
                have hu_343 : TpR (Tf 1) (Tv 0) (pz_b (rNX (cB (Tf 1) (Tv 0)) rq_47) (pz_fact (cB (Tf 1) (Tv 0)) 2)) sv_319 sv_320 sv_321 sv_322 := by
                  rw [← ero_309, ← ero_328]
                  exact pf_325
                have hu_344 : Ctd (pz_b (rNX (cB (Tf 1) (Tv 0)) rq_47) (pz_fact (cB (Tf 1) (Tv 0)) 2)) sv_317 := by
                  rw [← ero_309, ← ero_328]
                  exact pf_326
                have hu_345 : CdK sv_336 sv_335 (pz_b (rNX (cB (Tf 1) (Tv 0)) rq_47) (pz_fact (cB (Tf 1) (Tv 0)) 2)) ((Ap (rNX (cB (Tf 1) (Tv 0)) rq_47) (ec_fact (cB (Tf 1) (Tv 0)) 2) lq_52) ++ [-5]) := by
                  rw [← ero_309, ← ero_328, ← ero_330, ← ero_339]
                  exact pf_338
                have hi_346 : (x_340 : Int32).toInt = (vy_29 : Int32).toInt + 1 := by
                  have z_1 := Int32.lt_iff_toInt_lt.mp (Int32.not_le.mp c_56)
                  have z_2 := congrArg Int32.toInt c_88
                  have z_3 : ¬ (r_251 : Int32).toInt = (0 : Int32).toInt := fun z => c_256 (Int32.toInt_inj.mp z)
                  have z_4 := congrArg Int32.toInt c_298
                  have z_5 := congrArg Int32.toInt c_331
                  have y_0 : (0 : Int32).toInt = 0 := by decide
                  have y_400 : (400 : Int32).toInt = 400 := by decide
                  have y_1 : (1 : Int32).toInt = 1 := by decide
                  have t_x_340 : x_340.toInt = (vy_29 : Int32).toInt + (1 : Int32).toInt := by rw [ex_340]; exact add_toInt (by omega) (by omega)
                  omega
                have hw_347 : TWd (cB (Tf 1) (Tv 0)) pz_or rq_47 := by
                  rw [← wS6]
                  exact pf_287
                have hw_348 : NWd (cB (Tf 1) (Tv 0)) pz_or rq_47 := by
                  rw [← wS6]
                  exact pf_299
                exact ih_39 x_340 sv_335 sv_317 sv_336 sv_319 sv_320 sv_321 sv_322 vy_37 _ _ _ (by omega) ha_342 pf_42 pf_323 pf_337 (TeC.and h_tape.2.1 pf_50 pf_51 pf_54 (False.elim (by obtain ⟨_, e_, w_⟩ := hw_347; exact hw_348 _ e_ w_)) hu_343 hu_344 hu_345 hi_346) (hP.sub [2, 3, 0, 1] rfl) (hD.sub [2, 3, 0, 1] rfl rfl) hS (lv_sub hl [0, 2, 3, 4, 5] rfl)
              · skip
                exfalso
                have z_1 := Int32.lt_iff_toInt_lt.mp (Int32.not_le.mp c_56)
                have z_2 := congrArg Int32.toInt c_88
                have z_3 : ¬ (r_251 : Int32).toInt = (0 : Int32).toInt := fun z => c_256 (Int32.toInt_inj.mp z)
                have z_4 := congrArg Int32.toInt c_298
                have z_5 : ¬ (r_293 : Int32).toInt = (0 : Int32).toInt := fun z => c_331 (Int32.toInt_inj.mp z)
                have y_0 : (0 : Int32).toInt = 0 := by decide
                have y_400 : (400 : Int32).toInt = 400 := by decide
                omega
            · skip
              have hz_350 : (r_293 : Int32).toInt = 1 := by
                have z_1 := Int32.lt_iff_toInt_lt.mp (Int32.not_le.mp c_56)
                have z_2 := congrArg Int32.toInt c_88
                have z_3 : ¬ (r_251 : Int32).toInt = (0 : Int32).toInt := fun z => c_256 (Int32.toInt_inj.mp z)
                have z_4 : ¬ (r_293 : Int32).toInt = (0 : Int32).toInt := fun z => c_298 (Int32.toInt_inj.mp z)
                have y_0 : (0 : Int32).toInt = 0 := by decide
                have y_400 : (400 : Int32).toInt = 400 := by decide
                omega
              obtain pf_349 := hm_296 hz_350
              have pf_349 : TWd (cB (Tf 1) (Tv 0)) (wS (6 : Nat)) rq_47 := pf_349
              refine lv_iload_n hx hb dX7_readTest_50 rfl (lv_at hl 2 rfl) ?_
              refine lv_if_eq (tgt := 60) hx hb dX7_readTest_51 (by decide) (fun c_351 => ?_) (fun c_351 => ?_)
              · skip
                refine lv_aload_n hx hb dX7_readTest_60 rfl (lv_at hl 4 rfl) ?_
                refine cV (a := (Ta 0)) (As := []) (rest := []) (wr := [((Va 0), .inr (7, [.ref (Va 1), .int vy_30, .int vy_31])), ((Va 1), .inl (tc 0, 400, .inl vy_32))]) ⟨hx, hb, hml, hown, hts⟩ hK hX hA (cu_fX10_step l D tc sk (Ta 0) (Ta 1) (Tv 0) vy_33 vy_34 vy_35 vy_36 (Tf 1) (rTE (cB (Tf 1) (Tv 0)) rq_47) pf_43 h_by tb_55) k_478 k_620 k_476 k_477 k_96 pl_X10_step ⟨Nat.le_of_ble_eq_true rfl, Nat.le_of_ble_eq_true rfl⟩ rfl rfl (va_recv hK hP (ci := 10) (q0 := 2) rfl rfl) hP hD hS [2, 3] [0, 1] rfl rfl rfl rfl rfl (by decide) rfl hl.1 rfl (Nat.le_of_ble_eq_true rfl) dX7_readTest_61 ⟨Nat.le_of_ble_eq_true rfl, Nat.le_of_ble_eq_true rfl⟩ (fun v_352 u_353 H locs hv_354 hP₀ hD₀ hS₀ => ?_)
                obtain ⟨sv_355, sv_356, sv_357⟩ := u_353
                obtain ⟨rfl, pf_358, pf_359⟩ := hv_354
                have pf_358 : 0 ≤ ((Tv 0) : Int32).toInt ∧ ((Tv 0) : Int32).toInt ≤ 400 ∧ 0 ≤ (sv_355 : Int32).toInt ∧ (sv_355 : Int32).toInt ≤ 400 ∧ 0 ≤ (sv_356 : Int32).toInt ∧ (sv_356 : Int32).toInt ≤ 400 := pf_358
                have pf_359 : TpR (Tf 1) (Tv 0) (rSK (cB (Tf 1) (Tv 0)) (rTE (cB (Tf 1) (Tv 0)) rq_47)) sv_355 sv_356 sv_357 vy_36 := pf_359
                rw [rNX_eq] at pf_359
                obtain ⟨ro_360, ero_360⟩ : ∃ z : Except Int (Nat × Nat), z = (rNX (cB (Tf 1) (Tv 0)) rq_47) := ⟨_, rfl⟩
                rw [← ero_360] at pf_359
                have tb_361 : TpB (rTE (cB (Tf 1) (Tv 0)) ro_360) sv_356 vy_36 := TpR.tb pf_359
                have cd_362 : Ctd ro_360 vy_31 := by rw [ero_360]; exact (Ctd.nx pf_49)
                have ck_363 : CdK vy_32 vy_30 ro_360 lq_52 := by rw [ero_360]; exact (CdK.nx pf_53)
                refine W.eq (g2 := F0 m 64 ls []) rfl ?_
                replace hP : va_P D classes [((Va 0), .inr (7, [.ref (Va 1), .int vy_30, .int vy_31])), ((Va 1), .inl (tc 0, 400, .inl vy_32)), ((Ta 0), .inr (10, [.ref (Ta 1), .int (Tv 0), .int sv_355, .int sv_356, .int sv_357, .int vy_36])), ((Ta 1), .inl (tc 0, 400, .inl (Tf 1)))] H := hP₀
                replace hD : va_D A [((Va 0), .inr (7, [.ref (Va 1), .int vy_30, .int vy_31])), ((Va 1), .inl (tc 0, 400, .inl vy_32)), ((Ta 0), .inr (10, [.ref (Ta 1), .int (Tv 0), .int sv_355, .int sv_356, .int sv_357, .int vy_36])), ((Ta 1), .inl (tc 0, 400, .inl (Tf 1)))] := hD₀
                replace hS := hS₀
                clear hP₀ hD₀ hS₀
                refine lv_aload_n hx hb dX7_readTest_64 rfl (lv_at hl 3 rfl) ?_
                refine lv_aload_n hx hb dX7_readTest_65 rfl (lv_at hl 4 rfl) ?_
                refine lv_iload_n hx hb dX7_readTest_66 rfl (lv_at hl 5 rfl) ?_
                refine cV (a := (Va 0)) (As := [.ref (Ta 0), .int 8]) (rest := []) (wr := []) ⟨hx, hb, hml, hown, hts⟩ hK hX hA (cu_kX7_readFact_8 l D tc sk (Va 0) (Va 1) vy_30 vy_31 vy_32 (Ta 0) (Ta 1) (Tv 0) sv_355 sv_356 sv_357 vy_36 (Tf 1) ro_360 lq_52 pf_358 pf_44 h_by pf_359 cd_362 ck_363) k_659 k_656 k_658 k_12 k_99 pl_X7_readFact ⟨Nat.le_of_ble_eq_true rfl, Nat.le_of_ble_eq_true rfl⟩ rfl rfl (va_recv hK hP (ci := 7) (q0 := 0) rfl rfl) hP hD hS [0, 1, 2, 3] [] rfl rfl rfl rfl rfl (by decide) rfl hl.1 rfl (Nat.le_of_ble_eq_true rfl) dX7_readTest_67 ⟨Nat.le_of_ble_eq_true rfl, Nat.le_of_ble_eq_true rfl⟩ (fun v_364 u_365 H locs hv_366 hP₀ hD₀ hS₀ => ?_)
                obtain ⟨sv_367, sv_368, sv_369, sv_370, sv_371, sv_372, sv_373⟩ := u_365
                obtain ⟨rfl, pf_374, pf_375, pf_376, pf_377, pf_378⟩ := hv_366
                have pf_374 : 0 ≤ ((Tv 0) : Int32).toInt ∧ ((Tv 0) : Int32).toInt ≤ 400 ∧ 0 ≤ (sv_370 : Int32).toInt ∧ (sv_370 : Int32).toInt ≤ 400 ∧ 0 ≤ (sv_371 : Int32).toInt ∧ (sv_371 : Int32).toInt ≤ 400 := pf_374
                have pf_375 : 0 ≤ (sv_367 : Int32).toInt ∧ (sv_367 : Int32).toInt ≤ 400 := pf_375
                have pf_376 : TpR (Tf 1) (Tv 0) (pz_b ro_360 (pz_fact (cB (Tf 1) (Tv 0)) 2)) sv_370 sv_371 sv_372 sv_373 := pf_376
                obtain ⟨ro_379, ero_379⟩ : ∃ z : Except Int (Nat × Nat), z = (pz_b ro_360 (pz_fact (cB (Tf 1) (Tv 0)) 2)) := ⟨_, rfl⟩
                rw [← ero_379] at pf_376
                have tb_380 : TpB (rTE (cB (Tf 1) (Tv 0)) ro_379) sv_371 sv_373 := TpR.tb pf_376
                have pf_377 : Ctd (pz_b ro_360 (pz_fact (cB (Tf 1) (Tv 0)) 2)) sv_368 := pf_377
                rw [← ero_379] at pf_377
                have pf_378 : CdK sv_369 sv_367 (pz_b ro_360 (pz_fact (cB (Tf 1) (Tv 0)) 2)) (Ap ro_360 (ec_fact (cB (Tf 1) (Tv 0)) 2) lq_52) := pf_378
                rw [← ero_379] at pf_378
                obtain ⟨ro_381, ero_381⟩ : ∃ z : List Int, z = (Ap ro_360 (ec_fact (cB (Tf 1) (Tv 0)) 2) lq_52) := ⟨_, rfl⟩
                rw [← ero_381] at pf_378
                refine W.eq (g2 := F0 m 70 ls []) rfl ?_
                replace hP : va_P D classes [((Va 0), .inr (7, [.ref (Va 1), .int sv_367, .int sv_368])), ((Va 1), .inl (tc 0, 400, .inl sv_369)), ((Ta 0), .inr (10, [.ref (Ta 1), .int (Tv 0), .int sv_370, .int sv_371, .int sv_372, .int sv_373])), ((Ta 1), .inl (tc 0, 400, .inl (Tf 1)))] H := hP₀
                replace hD : va_D A [((Va 0), .inr (7, [.ref (Va 1), .int sv_367, .int sv_368])), ((Va 1), .inl (tc 0, 400, .inl sv_369)), ((Ta 0), .inr (10, [.ref (Ta 1), .int (Tv 0), .int sv_370, .int sv_371, .int sv_372, .int sv_373])), ((Ta 1), .inl (tc 0, 400, .inl (Tf 1)))] := hD₀
                replace hS := hS₀
                clear hP₀ hD₀ hS₀
                refine lv_iload hx hb dX7_readTest_70 (lv_at hl 0 rfl) ?_
                refine lv_if_eq (tgt := 80) hx hb dX7_readTest_72 (by decide) (fun c_382 => ?_) (fun c_382 => ?_)
                · skip
                  exfalso
                  have z_1 := Int32.lt_iff_toInt_lt.mp (Int32.not_le.mp c_56)
                  have z_2 := congrArg Int32.toInt c_88
                  have z_3 : ¬ (r_251 : Int32).toInt = (0 : Int32).toInt := fun z => c_256 (Int32.toInt_inj.mp z)
                  have z_4 : ¬ (r_293 : Int32).toInt = (0 : Int32).toInt := fun z => c_298 (Int32.toInt_inj.mp z)
                  have z_5 := congrArg Int32.toInt c_351
                  have z_6 := congrArg Int32.toInt c_382
                  have y_0 : (0 : Int32).toInt = 0 := by decide
                  have y_400 : (400 : Int32).toInt = 400 := by decide
                  omega
                · skip
                  refine lv_iconst (v := 1) hx hb dX7_readTest_75 (by decide) ?_
                  refine lv_istore_n (lv' := [(3, .int 1), (5, .int r_293), (4, .int vy_29), (0, .ref (Va 0)), (1, .ref (Ta 0)), (2, .int 8)]) hx hb dX7_readTest_76 rfl hl (by decide) rfl (fun ls hl₀ => ?_)
                  replace hl := hl₀
                  clear hl₀
                  refine lv_goto (tgt := 86) hx hb dX7_readTest_77 (by decide) ?_
                  obtain ⟨x_383, ex_383⟩ : ∃ y : Int32, y = vy_29 + 1 := ⟨_, rfl⟩
                  refine lv_iinc (v := x_383) (lv' := [(4, .int x_383), (3, .int 1), (5, .int r_293), (0, .ref (Va 0)), (1, .ref (Ta 0)), (2, .int 8)]) hx hb dX7_readTest_86 hl (k := 2) rfl (by rw [ex_383]; rfl) (by decide) rfl (fun ls hl₀ => ?_)
                  replace hl := hl₀
                  clear hl₀
                  refine lv_goto (tgt := 11) hx hb dX7_readTest_89 (by decide) ?_
                  have hb_384 : 401 - (x_383 : Int32).toInt < 401 - (vy_29 : Int32).toInt ∧ 1 ≤ 401 - (vy_29 : Int32).toInt := by
                    have z_1 := Int32.lt_iff_toInt_lt.mp (Int32.not_le.mp c_56)
                    have z_2 := congrArg Int32.toInt c_88
                    have z_3 : ¬ (r_251 : Int32).toInt = (0 : Int32).toInt := fun z => c_256 (Int32.toInt_inj.mp z)
                    have z_4 : ¬ (r_293 : Int32).toInt = (0 : Int32).toInt := fun z => c_298 (Int32.toInt_inj.mp z)
                    have z_5 := congrArg Int32.toInt c_351
                    have z_6 : ¬ (r_293 : Int32).toInt = (0 : Int32).toInt := fun z => c_382 (Int32.toInt_inj.mp z)
                    have y_0 : (0 : Int32).toInt = 0 := by decide
                    have y_400 : (400 : Int32).toInt = 400 := by decide
                    have y_1 : (1 : Int32).toInt = 1 := by decide
                    have t_x_383 : x_383.toInt = (vy_29 : Int32).toInt + (1 : Int32).toInt := by rw [ex_383]; exact add_toInt (by omega) (by omega)
                    omega
                  have ha_385 : 0 ≤ (x_383 : Int32).toInt ∧ (x_383 : Int32).toInt ≤ 400 := by
                    have z_1 := Int32.lt_iff_toInt_lt.mp (Int32.not_le.mp c_56)
                    have z_2 := congrArg Int32.toInt c_88
                    have z_3 : ¬ (r_251 : Int32).toInt = (0 : Int32).toInt := fun z => c_256 (Int32.toInt_inj.mp z)
                    have z_4 : ¬ (r_293 : Int32).toInt = (0 : Int32).toInt := fun z => c_298 (Int32.toInt_inj.mp z)
                    have z_5 := congrArg Int32.toInt c_351
                    have z_6 : ¬ (r_293 : Int32).toInt = (0 : Int32).toInt := fun z => c_382 (Int32.toInt_inj.mp z)
                    have y_0 : (0 : Int32).toInt = 0 := by decide
                    have y_400 : (400 : Int32).toInt = 400 := by decide
                    have y_1 : (1 : Int32).toInt = 1 := by decide
                    have t_x_383 : x_383.toInt = (vy_29 : Int32).toInt + (1 : Int32).toInt := by rw [ex_383]; exact add_toInt (by omega) (by omega)
                    omega
                  have ha_386 : 0 ≤ (1 : Int32).toInt ∧ (1 : Int32).toInt ≤ 1 := by
                    have z_1 := Int32.lt_iff_toInt_lt.mp (Int32.not_le.mp c_56)
                    have z_2 := congrArg Int32.toInt c_88
                    have z_3 : ¬ (r_251 : Int32).toInt = (0 : Int32).toInt := fun z => c_256 (Int32.toInt_inj.mp z)
                    have z_4 : ¬ (r_293 : Int32).toInt = (0 : Int32).toInt := fun z => c_298 (Int32.toInt_inj.mp z)
                    have z_5 := congrArg Int32.toInt c_351
                    have z_6 : ¬ (r_293 : Int32).toInt = (0 : Int32).toInt := fun z => c_382 (Int32.toInt_inj.mp z)
                    have y_0 : (0 : Int32).toInt = 0 := by decide
                    have y_400 : (400 : Int32).toInt = 400 := by decide
                    have y_1 : (1 : Int32).toInt = 1 := by decide
                    omega
                  have hu_387 : TpR (Tf 1) (Tv 0) (pz_b (rNX (cB (Tf 1) (Tv 0)) rq_47) (pz_fact (cB (Tf 1) (Tv 0)) 2)) sv_370 sv_371 sv_372 sv_373 := by
                    rw [← ero_360, ← ero_379]
                    exact pf_376
                  have hu_388 : Ctd (pz_b (rNX (cB (Tf 1) (Tv 0)) rq_47) (pz_fact (cB (Tf 1) (Tv 0)) 2)) sv_368 := by
                    rw [← ero_360, ← ero_379]
                    exact pf_377
                  have hu_389 : CdK sv_369 sv_367 (pz_b (rNX (cB (Tf 1) (Tv 0)) rq_47) (pz_fact (cB (Tf 1) (Tv 0)) 2)) (Ap (rNX (cB (Tf 1) (Tv 0)) rq_47) (ec_fact (cB (Tf 1) (Tv 0)) 2) lq_52) := by
                    rw [← ero_360, ← ero_379, ← ero_381]
                    exact pf_378
                  have hi_390 : (x_383 : Int32).toInt = (vy_29 : Int32).toInt + 1 := by
                    have z_1 := Int32.lt_iff_toInt_lt.mp (Int32.not_le.mp c_56)
                    have z_2 := congrArg Int32.toInt c_88
                    have z_3 : ¬ (r_251 : Int32).toInt = (0 : Int32).toInt := fun z => c_256 (Int32.toInt_inj.mp z)
                    have z_4 : ¬ (r_293 : Int32).toInt = (0 : Int32).toInt := fun z => c_298 (Int32.toInt_inj.mp z)
                    have z_5 := congrArg Int32.toInt c_351
                    have z_6 : ¬ (r_293 : Int32).toInt = (0 : Int32).toInt := fun z => c_382 (Int32.toInt_inj.mp z)
                    have y_0 : (0 : Int32).toInt = 0 := by decide
                    have y_400 : (400 : Int32).toInt = 400 := by decide
                    have y_1 : (1 : Int32).toInt = 1 := by decide
                    have t_x_383 : x_383.toInt = (vy_29 : Int32).toInt + (1 : Int32).toInt := by rw [ex_383]; exact add_toInt (by omega) (by omega)
                    omega
                  have hr_391 : (vy_37 : Int32).toInt = 0 := by
                    have z_1 := Int32.lt_iff_toInt_lt.mp (Int32.not_le.mp c_56)
                    have z_2 := congrArg Int32.toInt c_88
                    have z_3 : ¬ (r_251 : Int32).toInt = (0 : Int32).toInt := fun z => c_256 (Int32.toInt_inj.mp z)
                    have z_4 : ¬ (r_293 : Int32).toInt = (0 : Int32).toInt := fun z => c_298 (Int32.toInt_inj.mp z)
                    have z_5 := congrArg Int32.toInt c_351
                    have z_6 : ¬ (r_293 : Int32).toInt = (0 : Int32).toInt := fun z => c_382 (Int32.toInt_inj.mp z)
                    have y_0 : (0 : Int32).toInt = 0 := by decide
                    have y_400 : (400 : Int32).toInt = 400 := by decide
                    omega
                  have hr_392 : (1 : Int32).toInt = 1 := by
                    have z_1 := Int32.lt_iff_toInt_lt.mp (Int32.not_le.mp c_56)
                    have z_2 := congrArg Int32.toInt c_88
                    have z_3 : ¬ (r_251 : Int32).toInt = (0 : Int32).toInt := fun z => c_256 (Int32.toInt_inj.mp z)
                    have z_4 : ¬ (r_293 : Int32).toInt = (0 : Int32).toInt := fun z => c_298 (Int32.toInt_inj.mp z)
                    have z_5 := congrArg Int32.toInt c_351
                    have z_6 : ¬ (r_293 : Int32).toInt = (0 : Int32).toInt := fun z => c_382 (Int32.toInt_inj.mp z)
                    have y_0 : (0 : Int32).toInt = 0 := by decide
                    have y_400 : (400 : Int32).toInt = 400 := by decide
                    have y_1 : (1 : Int32).toInt = 1 := by decide
                    omega
                  have hw_393 : TWd (cB (Tf 1) (Tv 0)) pz_or rq_47 := by
                    rw [← wS6]
                    exact pf_349
                  exact ih_39 x_383 sv_367 sv_368 sv_369 sv_370 sv_371 sv_372 sv_373 1 _ _ _ (by omega) ha_385 ha_386 pf_374 pf_375 (TeC.or0 h_tape.2.1 pf_50 pf_51 pf_54 hr_391 hr_392 hw_393 hu_387 hu_388 hu_389 hi_390) (hP.sub [0, 1, 2, 3] rfl) (hD.sub [0, 1, 2, 3] rfl rfl) hS (lv_sub hl [0, 1, 3, 4, 5] rfl)
              · skip
                refine lv_aload_n hx hb dX7_readTest_54 rfl (lv_at hl 3 rfl) ?_
                refine lv_bipush (v := (-6)) hx hb dX7_readTest_55 (by decide) ?_
                refine cV (a := (Va 0)) (As := [.int (-6)]) (rest := []) (wr := [((Ta 0), .inr (10, [.ref (Ta 1), .int (Tv 0), .int vy_33, .int vy_34, .int vy_35, .int vy_36])), ((Ta 1), .inl (tc 0, 400, .inl (Tf 1)))]) ⟨hx, hb, hml, hown, hts⟩ hK hX hA (cu_kX7_put l D tc sk (Va 0) (Va 1) vy_30 vy_31 vy_32 (-6) rq_47 lq_52 pf_44 pf_53) k_642 k_639 k_641 k_10 k_99 pl_X7_put ⟨Nat.le_of_ble_eq_true rfl, Nat.le_of_ble_eq_true rfl⟩ rfl rfl (va_recv hK hP (ci := 7) (q0 := 0) rfl rfl) hP hD hS [0, 1] [2, 3] rfl rfl rfl rfl rfl (by decide) rfl hl.1 rfl (Nat.le_of_ble_eq_true rfl) dX7_readTest_57 ⟨Nat.le_of_ble_eq_true rfl, Nat.le_of_ble_eq_true rfl⟩ (fun v_394 u_395 H locs hv_396 hP₀ hD₀ hS₀ => ?_)
                obtain ⟨sv_397, sv_398⟩ := u_395
                obtain ⟨rfl, pf_399, pf_400⟩ := hv_396
                have pf_399 : 0 ≤ (sv_397 : Int32).toInt ∧ (sv_397 : Int32).toInt ≤ 400 := pf_399
                have pf_400 : CdK sv_398 sv_397 rq_47 (lq_52 ++ [((-6) : Int32).toInt]) := pf_400
                rw [show ((-6) : Int32).toInt = -6 by decide] at pf_400
                obtain ⟨ro_401, ero_401⟩ : ∃ z : List Int, z = (lq_52 ++ [-6]) := ⟨_, rfl⟩
                rw [← ero_401] at pf_400
                refine W.eq (g2 := F0 m 60 ls []) rfl ?_
                replace hP : va_P D classes [((Ta 0), .inr (10, [.ref (Ta 1), .int (Tv 0), .int vy_33, .int vy_34, .int vy_35, .int vy_36])), ((Ta 1), .inl (tc 0, 400, .inl (Tf 1))), ((Va 0), .inr (7, [.ref (Va 1), .int sv_397, .int vy_31])), ((Va 1), .inl (tc 0, 400, .inl sv_398))] H := hP₀
                replace hD : va_D A [((Ta 0), .inr (10, [.ref (Ta 1), .int (Tv 0), .int vy_33, .int vy_34, .int vy_35, .int vy_36])), ((Ta 1), .inl (tc 0, 400, .inl (Tf 1))), ((Va 0), .inr (7, [.ref (Va 1), .int sv_397, .int vy_31])), ((Va 1), .inl (tc 0, 400, .inl sv_398))] := hD₀
                replace hS := hS₀
                clear hP₀ hD₀ hS₀
                refine lv_aload_n hx hb dX7_readTest_60 rfl (lv_at hl 4 rfl) ?_
                refine cV (a := (Ta 0)) (As := []) (rest := []) (wr := [((Va 0), .inr (7, [.ref (Va 1), .int sv_397, .int vy_31])), ((Va 1), .inl (tc 0, 400, .inl sv_398))]) ⟨hx, hb, hml, hown, hts⟩ hK hX hA (cu_fX10_step l D tc sk (Ta 0) (Ta 1) (Tv 0) vy_33 vy_34 vy_35 vy_36 (Tf 1) (rTE (cB (Tf 1) (Tv 0)) rq_47) pf_43 h_by tb_55) k_478 k_620 k_476 k_477 k_96 pl_X10_step ⟨Nat.le_of_ble_eq_true rfl, Nat.le_of_ble_eq_true rfl⟩ rfl rfl (va_recv hK hP (ci := 10) (q0 := 0) rfl rfl) hP hD hS [0, 1] [2, 3] rfl rfl rfl rfl rfl (by decide) rfl hl.1 rfl (Nat.le_of_ble_eq_true rfl) dX7_readTest_61 ⟨Nat.le_of_ble_eq_true rfl, Nat.le_of_ble_eq_true rfl⟩ (fun v_402 u_403 H locs hv_404 hP₀ hD₀ hS₀ => ?_)
                obtain ⟨sv_405, sv_406, sv_407⟩ := u_403
                obtain ⟨rfl, pf_408, pf_409⟩ := hv_404
                have pf_408 : 0 ≤ ((Tv 0) : Int32).toInt ∧ ((Tv 0) : Int32).toInt ≤ 400 ∧ 0 ≤ (sv_405 : Int32).toInt ∧ (sv_405 : Int32).toInt ≤ 400 ∧ 0 ≤ (sv_406 : Int32).toInt ∧ (sv_406 : Int32).toInt ≤ 400 := pf_408
                have pf_409 : TpR (Tf 1) (Tv 0) (rSK (cB (Tf 1) (Tv 0)) (rTE (cB (Tf 1) (Tv 0)) rq_47)) sv_405 sv_406 sv_407 vy_36 := pf_409
                rw [rNX_eq] at pf_409
                obtain ⟨ro_410, ero_410⟩ : ∃ z : Except Int (Nat × Nat), z = (rNX (cB (Tf 1) (Tv 0)) rq_47) := ⟨_, rfl⟩
                rw [← ero_410] at pf_409
                have tb_411 : TpB (rTE (cB (Tf 1) (Tv 0)) ro_410) sv_406 vy_36 := TpR.tb pf_409
                have cd_412 : Ctd ro_410 vy_31 := by rw [ero_410]; exact (Ctd.nx pf_49)
                have ck_413 : CdK sv_398 sv_397 ro_410 ro_401 := by rw [ero_410]; exact (CdK.nx pf_400)
                refine W.eq (g2 := F0 m 64 ls []) rfl ?_
                replace hP : va_P D classes [((Va 0), .inr (7, [.ref (Va 1), .int sv_397, .int vy_31])), ((Va 1), .inl (tc 0, 400, .inl sv_398)), ((Ta 0), .inr (10, [.ref (Ta 1), .int (Tv 0), .int sv_405, .int sv_406, .int sv_407, .int vy_36])), ((Ta 1), .inl (tc 0, 400, .inl (Tf 1)))] H := hP₀
                replace hD : va_D A [((Va 0), .inr (7, [.ref (Va 1), .int sv_397, .int vy_31])), ((Va 1), .inl (tc 0, 400, .inl sv_398)), ((Ta 0), .inr (10, [.ref (Ta 1), .int (Tv 0), .int sv_405, .int sv_406, .int sv_407, .int vy_36])), ((Ta 1), .inl (tc 0, 400, .inl (Tf 1)))] := hD₀
                replace hS := hS₀
                clear hP₀ hD₀ hS₀
                refine lv_aload_n hx hb dX7_readTest_64 rfl (lv_at hl 3 rfl) ?_
                refine lv_aload_n hx hb dX7_readTest_65 rfl (lv_at hl 4 rfl) ?_
                refine lv_iload_n hx hb dX7_readTest_66 rfl (lv_at hl 5 rfl) ?_
                refine cV (a := (Va 0)) (As := [.ref (Ta 0), .int 8]) (rest := []) (wr := []) ⟨hx, hb, hml, hown, hts⟩ hK hX hA (cu_kX7_readFact_8 l D tc sk (Va 0) (Va 1) sv_397 vy_31 sv_398 (Ta 0) (Ta 1) (Tv 0) sv_405 sv_406 sv_407 vy_36 (Tf 1) ro_410 ro_401 pf_408 pf_399 h_by pf_409 cd_412 ck_413) k_659 k_656 k_658 k_12 k_99 pl_X7_readFact ⟨Nat.le_of_ble_eq_true rfl, Nat.le_of_ble_eq_true rfl⟩ rfl rfl (va_recv hK hP (ci := 7) (q0 := 0) rfl rfl) hP hD hS [0, 1, 2, 3] [] rfl rfl rfl rfl rfl (by decide) rfl hl.1 rfl (Nat.le_of_ble_eq_true rfl) dX7_readTest_67 ⟨Nat.le_of_ble_eq_true rfl, Nat.le_of_ble_eq_true rfl⟩ (fun v_414 u_415 H locs hv_416 hP₀ hD₀ hS₀ => ?_)
                obtain ⟨sv_417, sv_418, sv_419, sv_420, sv_421, sv_422, sv_423⟩ := u_415
                obtain ⟨rfl, pf_424, pf_425, pf_426, pf_427, pf_428⟩ := hv_416
                have pf_424 : 0 ≤ ((Tv 0) : Int32).toInt ∧ ((Tv 0) : Int32).toInt ≤ 400 ∧ 0 ≤ (sv_420 : Int32).toInt ∧ (sv_420 : Int32).toInt ≤ 400 ∧ 0 ≤ (sv_421 : Int32).toInt ∧ (sv_421 : Int32).toInt ≤ 400 := pf_424
                have pf_425 : 0 ≤ (sv_417 : Int32).toInt ∧ (sv_417 : Int32).toInt ≤ 400 := pf_425
                have pf_426 : TpR (Tf 1) (Tv 0) (pz_b ro_410 (pz_fact (cB (Tf 1) (Tv 0)) 2)) sv_420 sv_421 sv_422 sv_423 := pf_426
                obtain ⟨ro_429, ero_429⟩ : ∃ z : Except Int (Nat × Nat), z = (pz_b ro_410 (pz_fact (cB (Tf 1) (Tv 0)) 2)) := ⟨_, rfl⟩
                rw [← ero_429] at pf_426
                have tb_430 : TpB (rTE (cB (Tf 1) (Tv 0)) ro_429) sv_421 sv_423 := TpR.tb pf_426
                have pf_427 : Ctd (pz_b ro_410 (pz_fact (cB (Tf 1) (Tv 0)) 2)) sv_418 := pf_427
                rw [← ero_429] at pf_427
                have pf_428 : CdK sv_419 sv_417 (pz_b ro_410 (pz_fact (cB (Tf 1) (Tv 0)) 2)) (Ap ro_410 (ec_fact (cB (Tf 1) (Tv 0)) 2) ro_401) := pf_428
                rw [← ero_429] at pf_428
                obtain ⟨ro_431, ero_431⟩ : ∃ z : List Int, z = (Ap ro_410 (ec_fact (cB (Tf 1) (Tv 0)) 2) ro_401) := ⟨_, rfl⟩
                rw [← ero_431] at pf_428
                refine W.eq (g2 := F0 m 70 ls []) rfl ?_
                replace hP : va_P D classes [((Va 0), .inr (7, [.ref (Va 1), .int sv_417, .int sv_418])), ((Va 1), .inl (tc 0, 400, .inl sv_419)), ((Ta 0), .inr (10, [.ref (Ta 1), .int (Tv 0), .int sv_420, .int sv_421, .int sv_422, .int sv_423])), ((Ta 1), .inl (tc 0, 400, .inl (Tf 1)))] H := hP₀
                replace hD : va_D A [((Va 0), .inr (7, [.ref (Va 1), .int sv_417, .int sv_418])), ((Va 1), .inl (tc 0, 400, .inl sv_419)), ((Ta 0), .inr (10, [.ref (Ta 1), .int (Tv 0), .int sv_420, .int sv_421, .int sv_422, .int sv_423])), ((Ta 1), .inl (tc 0, 400, .inl (Tf 1)))] := hD₀
                replace hS := hS₀
                clear hP₀ hD₀ hS₀
                refine lv_iload hx hb dX7_readTest_70 (lv_at hl 0 rfl) ?_
                refine lv_if_eq (tgt := 80) hx hb dX7_readTest_72 (by decide) (fun c_432 => ?_) (fun c_432 => ?_)
                · skip
                  exfalso
                  have z_1 := Int32.lt_iff_toInt_lt.mp (Int32.not_le.mp c_56)
                  have z_2 := congrArg Int32.toInt c_88
                  have z_3 : ¬ (r_251 : Int32).toInt = (0 : Int32).toInt := fun z => c_256 (Int32.toInt_inj.mp z)
                  have z_4 : ¬ (r_293 : Int32).toInt = (0 : Int32).toInt := fun z => c_298 (Int32.toInt_inj.mp z)
                  have z_5 : ¬ (vy_37 : Int32).toInt = (0 : Int32).toInt := fun z => c_351 (Int32.toInt_inj.mp z)
                  have z_6 := congrArg Int32.toInt c_432
                  have y_0 : (0 : Int32).toInt = 0 := by decide
                  have y_400 : (400 : Int32).toInt = 400 := by decide
                  omega
                · skip
                  refine lv_iconst (v := 1) hx hb dX7_readTest_75 (by decide) ?_
                  refine lv_istore_n (lv' := [(3, .int 1), (5, .int r_293), (4, .int vy_29), (0, .ref (Va 0)), (1, .ref (Ta 0)), (2, .int 8)]) hx hb dX7_readTest_76 rfl hl (by decide) rfl (fun ls hl₀ => ?_)
                  replace hl := hl₀
                  clear hl₀
                  refine lv_goto (tgt := 86) hx hb dX7_readTest_77 (by decide) ?_
                  obtain ⟨x_433, ex_433⟩ : ∃ y : Int32, y = vy_29 + 1 := ⟨_, rfl⟩
                  refine lv_iinc (v := x_433) (lv' := [(4, .int x_433), (3, .int 1), (5, .int r_293), (0, .ref (Va 0)), (1, .ref (Ta 0)), (2, .int 8)]) hx hb dX7_readTest_86 hl (k := 2) rfl (by rw [ex_433]; rfl) (by decide) rfl (fun ls hl₀ => ?_)
                  replace hl := hl₀
                  clear hl₀
                  refine lv_goto (tgt := 11) hx hb dX7_readTest_89 (by decide) ?_
                  have hb_434 : 401 - (x_433 : Int32).toInt < 401 - (vy_29 : Int32).toInt ∧ 1 ≤ 401 - (vy_29 : Int32).toInt := by
                    have z_1 := Int32.lt_iff_toInt_lt.mp (Int32.not_le.mp c_56)
                    have z_2 := congrArg Int32.toInt c_88
                    have z_3 : ¬ (r_251 : Int32).toInt = (0 : Int32).toInt := fun z => c_256 (Int32.toInt_inj.mp z)
                    have z_4 : ¬ (r_293 : Int32).toInt = (0 : Int32).toInt := fun z => c_298 (Int32.toInt_inj.mp z)
                    have z_5 : ¬ (vy_37 : Int32).toInt = (0 : Int32).toInt := fun z => c_351 (Int32.toInt_inj.mp z)
                    have z_6 : ¬ (r_293 : Int32).toInt = (0 : Int32).toInt := fun z => c_432 (Int32.toInt_inj.mp z)
                    have y_0 : (0 : Int32).toInt = 0 := by decide
                    have y_400 : (400 : Int32).toInt = 400 := by decide
                    have y_1 : (1 : Int32).toInt = 1 := by decide
                    have t_x_433 : x_433.toInt = (vy_29 : Int32).toInt + (1 : Int32).toInt := by rw [ex_433]; exact add_toInt (by omega) (by omega)
                    omega
                  have ha_435 : 0 ≤ (x_433 : Int32).toInt ∧ (x_433 : Int32).toInt ≤ 400 := by
                    have z_1 := Int32.lt_iff_toInt_lt.mp (Int32.not_le.mp c_56)
                    have z_2 := congrArg Int32.toInt c_88
                    have z_3 : ¬ (r_251 : Int32).toInt = (0 : Int32).toInt := fun z => c_256 (Int32.toInt_inj.mp z)
                    have z_4 : ¬ (r_293 : Int32).toInt = (0 : Int32).toInt := fun z => c_298 (Int32.toInt_inj.mp z)
                    have z_5 : ¬ (vy_37 : Int32).toInt = (0 : Int32).toInt := fun z => c_351 (Int32.toInt_inj.mp z)
                    have z_6 : ¬ (r_293 : Int32).toInt = (0 : Int32).toInt := fun z => c_432 (Int32.toInt_inj.mp z)
                    have y_0 : (0 : Int32).toInt = 0 := by decide
                    have y_400 : (400 : Int32).toInt = 400 := by decide
                    have y_1 : (1 : Int32).toInt = 1 := by decide
                    have t_x_433 : x_433.toInt = (vy_29 : Int32).toInt + (1 : Int32).toInt := by rw [ex_433]; exact add_toInt (by omega) (by omega)
                    omega
                  have ha_436 : 0 ≤ (1 : Int32).toInt ∧ (1 : Int32).toInt ≤ 1 := by
                    have z_1 := Int32.lt_iff_toInt_lt.mp (Int32.not_le.mp c_56)
                    have z_2 := congrArg Int32.toInt c_88
                    have z_3 : ¬ (r_251 : Int32).toInt = (0 : Int32).toInt := fun z => c_256 (Int32.toInt_inj.mp z)
                    have z_4 : ¬ (r_293 : Int32).toInt = (0 : Int32).toInt := fun z => c_298 (Int32.toInt_inj.mp z)
                    have z_5 : ¬ (vy_37 : Int32).toInt = (0 : Int32).toInt := fun z => c_351 (Int32.toInt_inj.mp z)
                    have z_6 : ¬ (r_293 : Int32).toInt = (0 : Int32).toInt := fun z => c_432 (Int32.toInt_inj.mp z)
                    have y_0 : (0 : Int32).toInt = 0 := by decide
                    have y_400 : (400 : Int32).toInt = 400 := by decide
                    have y_1 : (1 : Int32).toInt = 1 := by decide
                    omega
                  have hu_437 : TpR (Tf 1) (Tv 0) (pz_b (rNX (cB (Tf 1) (Tv 0)) rq_47) (pz_fact (cB (Tf 1) (Tv 0)) 2)) sv_420 sv_421 sv_422 sv_423 := by
                    rw [← ero_410, ← ero_429]
                    exact pf_426
                  have hu_438 : Ctd (pz_b (rNX (cB (Tf 1) (Tv 0)) rq_47) (pz_fact (cB (Tf 1) (Tv 0)) 2)) sv_418 := by
                    rw [← ero_410, ← ero_429]
                    exact pf_427
                  have hu_439 : CdK sv_419 sv_417 (pz_b (rNX (cB (Tf 1) (Tv 0)) rq_47) (pz_fact (cB (Tf 1) (Tv 0)) 2)) (Ap (rNX (cB (Tf 1) (Tv 0)) rq_47) (ec_fact (cB (Tf 1) (Tv 0)) 2) (lq_52 ++ [-6])) := by
                    rw [← ero_401, ← ero_410, ← ero_429, ← ero_431]
                    exact pf_428
                  have hi_440 : (x_433 : Int32).toInt = (vy_29 : Int32).toInt + 1 := by
                    have z_1 := Int32.lt_iff_toInt_lt.mp (Int32.not_le.mp c_56)
                    have z_2 := congrArg Int32.toInt c_88
                    have z_3 : ¬ (r_251 : Int32).toInt = (0 : Int32).toInt := fun z => c_256 (Int32.toInt_inj.mp z)
                    have z_4 : ¬ (r_293 : Int32).toInt = (0 : Int32).toInt := fun z => c_298 (Int32.toInt_inj.mp z)
                    have z_5 : ¬ (vy_37 : Int32).toInt = (0 : Int32).toInt := fun z => c_351 (Int32.toInt_inj.mp z)
                    have z_6 : ¬ (r_293 : Int32).toInt = (0 : Int32).toInt := fun z => c_432 (Int32.toInt_inj.mp z)
                    have y_0 : (0 : Int32).toInt = 0 := by decide
                    have y_400 : (400 : Int32).toInt = 400 := by decide
                    have y_1 : (1 : Int32).toInt = 1 := by decide
                    have t_x_433 : x_433.toInt = (vy_29 : Int32).toInt + (1 : Int32).toInt := by rw [ex_433]; exact add_toInt (by omega) (by omega)
                    omega
                  have hr_441 : (vy_37 : Int32).toInt = 1 := by
                    have z_1 := Int32.lt_iff_toInt_lt.mp (Int32.not_le.mp c_56)
                    have z_2 := congrArg Int32.toInt c_88
                    have z_3 : ¬ (r_251 : Int32).toInt = (0 : Int32).toInt := fun z => c_256 (Int32.toInt_inj.mp z)
                    have z_4 : ¬ (r_293 : Int32).toInt = (0 : Int32).toInt := fun z => c_298 (Int32.toInt_inj.mp z)
                    have z_5 : ¬ (vy_37 : Int32).toInt = (0 : Int32).toInt := fun z => c_351 (Int32.toInt_inj.mp z)
                    have z_6 : ¬ (r_293 : Int32).toInt = (0 : Int32).toInt := fun z => c_432 (Int32.toInt_inj.mp z)
                    have y_0 : (0 : Int32).toInt = 0 := by decide
                    have y_400 : (400 : Int32).toInt = 400 := by decide
                    omega
                  have hr_442 : (1 : Int32).toInt = 1 := by
                    have z_1 := Int32.lt_iff_toInt_lt.mp (Int32.not_le.mp c_56)
                    have z_2 := congrArg Int32.toInt c_88
                    have z_3 : ¬ (r_251 : Int32).toInt = (0 : Int32).toInt := fun z => c_256 (Int32.toInt_inj.mp z)
                    have z_4 : ¬ (r_293 : Int32).toInt = (0 : Int32).toInt := fun z => c_298 (Int32.toInt_inj.mp z)
                    have z_5 : ¬ (vy_37 : Int32).toInt = (0 : Int32).toInt := fun z => c_351 (Int32.toInt_inj.mp z)
                    have z_6 : ¬ (r_293 : Int32).toInt = (0 : Int32).toInt := fun z => c_432 (Int32.toInt_inj.mp z)
                    have y_0 : (0 : Int32).toInt = 0 := by decide
                    have y_400 : (400 : Int32).toInt = 400 := by decide
                    have y_1 : (1 : Int32).toInt = 1 := by decide
                    omega
                  have hw_443 : TWd (cB (Tf 1) (Tv 0)) pz_or rq_47 := by
                    rw [← wS6]
                    exact pf_349
                  exact ih_39 x_433 sv_417 sv_418 sv_419 sv_420 sv_421 sv_422 sv_423 1 _ _ _ (by omega) ha_435 ha_436 pf_424 pf_425 (TeC.or1 h_tape.2.1 pf_50 pf_51 pf_54 hr_441 hr_442 hw_443 hu_437 hu_438 hu_439 hi_440) (hP.sub [0, 1, 2, 3] rfl) (hD.sub [0, 1, 2, 3] rfl rfl) hS (lv_sub hl [0, 1, 3, 4, 5] rfl)
  have ha_444 : 0 ≤ (0 : Int32).toInt ∧ (0 : Int32).toInt ≤ 400 := by
    have y_0 : (0 : Int32).toInt = 0 := by decide
    omega
  have ha_445 : 0 ≤ (0 : Int32).toInt ∧ (0 : Int32).toInt ≤ 1 := by
    have y_0 : (0 : Int32).toInt = 0 := by decide
    omega
  have hu_446 : TpR (Tf 1) (Tv 0) (pz_b rr (pz_fact (cB (Tf 1) (Tv 0)) 2)) sv_8 sv_9 sv_10 sv_11 := by
    rw [← ero_17]
    exact pf_14
  have hu_447 : Ctd (pz_b rr (pz_fact (cB (Tf 1) (Tv 0)) 2)) sv_6 := by
    rw [← ero_17]
    exact pf_15
  have hu_448 : CdK sv_7 sv_5 (pz_b rr (pz_fact (cB (Tf 1) (Tv 0)) 2)) (Ap rr (ec_fact (cB (Tf 1) (Tv 0)) 2) ll) := by
    rw [← ero_17, ← ero_19]
    exact pf_16
  have hr_449 : (0 : Int32).toInt = 0 := by
    have y_0 : (0 : Int32).toInt = 0 := by decide
    omega
  exact loop_40 _ 0 sv_5 sv_6 sv_7 sv_8 sv_9 sv_10 sv_11 0 _ _ _ (Nat.lt_succ_self _) ha_444 ha_445 pf_12 pf_13 (TeC.first hu_446 hu_447 hu_448 hr_449) hP hD hS hl
set_option maxRecDepth 100000 in
theorem cu_kX7_readTest_8 (l : Launch) (D : va_G) (tc : Nat → ClassId) (sk : (Nat → Nat) × (Nat → Nat)) (Va_0 : Nat) (Va_1 : Nat) (Vv_0 : Int32) (Vv_1 : Int32) (Vf_1 : Nat → Int32) (Ta_0 : Nat) (Ta_1 : Nat) (Tv_0 : Int32) (Tv_1 : Int32) (Tv_2 : Int32) (Tv_3 : Int32) (Tv_4 : Int32) (Tf_1 : Nat → Int32) (rr : Except Int (Nat × Nat)) (ll : List Int) (h_tape : 0 ≤ (Tv_0 : Int32).toInt ∧ (Tv_0 : Int32).toInt ≤ 400 ∧ 0 ≤ (Tv_1 : Int32).toInt ∧ (Tv_1 : Int32).toInt ≤ 400 ∧ 0 ≤ (Tv_2 : Int32).toInt ∧ (Tv_2 : Int32).toInt ≤ 400) (h_u : 0 ≤ (Vv_0 : Int32).toInt ∧ (Vv_0 : Int32).toInt ≤ 400) (h_by : Byt Tf_1) (h_r : TpR Tf_1 Tv_0 rr Tv_1 Tv_2 Tv_3 Tv_4) (h_ct : Ctd rr Vv_1) (h_cd : CdK Vf_1 Vv_0 rr ll) : Ct l yX7_readTest cX7_readTest 6 none { frames := 13, cells := 0, slots := 0, locals := 302 } D tc sk [.ref Va_0, .ref Ta_0, .int 8] [(Va_0, .inr (7, [.ref Va_1, .int Vv_0, .int Vv_1])), (Va_1, .inl (tc 0, 400, .inl Vf_1)), (Ta_0, .inr (10, [.ref Ta_1, .int Tv_0, .int Tv_1, .int Tv_2, .int Tv_3, .int Tv_4])), (Ta_1, .inl (tc 0, 400, .inl Tf_1))] (fun (v : Option Value) (u : (Int32) × (Int32) × (Nat → Int32) × (Int32) × (Int32) × (Int32) × (Int32)) => match u with | (oo0x1, oo0x2, oo0x3, oo0x4, oo0x5, oo0x6, oo0x7) => v = none ∧ (0 ≤ (Tv_0 : Int32).toInt ∧ (Tv_0 : Int32).toInt ≤ 400 ∧ 0 ≤ (oo0x4 : Int32).toInt ∧ (oo0x4 : Int32).toInt ≤ 400 ∧ 0 ≤ (oo0x5 : Int32).toInt ∧ (oo0x5 : Int32).toInt ≤ 400) ∧ (0 ≤ (oo0x1 : Int32).toInt ∧ (oo0x1 : Int32).toInt ≤ 400) ∧ (TpR Tf_1 Tv_0 (pz_b rr (pz_tst (cB Tf_1 Tv_0) (pz_fact (cB Tf_1 Tv_0) 2))) oo0x4 oo0x5 oo0x6 oo0x7) ∧ (Ctd (pz_b rr (pz_tst (cB Tf_1 Tv_0) (pz_fact (cB Tf_1 Tv_0) 2))) oo0x2) ∧ (CdK oo0x3 oo0x1 (pz_b rr (pz_tst (cB Tf_1 Tv_0) (pz_fact (cB Tf_1 Tv_0) 2))) (Ap rr (ltst (cB Tf_1 Tv_0) 2) ll))) (fun (u : (Int32) × (Int32) × (Nat → Int32) × (Int32) × (Int32) × (Int32) × (Int32)) => match u with | (oo0x1, oo0x2, oo0x3, oo0x4, oo0x5, oo0x6, oo0x7) => [(Va_0, .inr (7, [.ref Va_1, .int oo0x1, .int oo0x2])), (Va_1, .inl (tc 0, 400, .inl oo0x3)), (Ta_0, .inr (10, [.ref Ta_1, .int Tv_0, .int oo0x4, .int oo0x5, .int oo0x6, .int oo0x7])), (Ta_1, .inl (tc 0, 400, .inl Tf_1))]) 0 0 :=
  ct_kX7_readTest_8 l D tc sk (fun k => ([Va_0, Va_1] : List (Nat)).getD k 0) (fun k => ([Vv_0, Vv_1] : List (Int32)).getD k 0) (fun k => ([(fun _ => 0), Vf_1] : List (Nat → Int32)).getD k (fun _ => 0)) (fun k => ([Ta_0, Ta_1] : List (Nat)).getD k 0) (fun k => ([Tv_0, Tv_1, Tv_2, Tv_3, Tv_4] : List (Int32)).getD k 0) (fun k => ([(fun _ => 0), Tf_1] : List (Nat → Int32)).getD k (fun _ => 0)) rr ll h_tape h_u h_by h_r h_ct h_cd
